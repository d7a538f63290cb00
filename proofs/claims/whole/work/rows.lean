section
-- ===== PART A: goes FIRST, ahead of the names: the tables' words, and 'selects' of the private methods out of them =====
/-- a private method of a class that the tables say can be made, by its rows of tables_1 -/
def lw_okq (q : MethodName × Nat) : Prop := (q.1.cls ≠ "java/lang/invoke/MethodHandle" ∧ q.1.cls ≠ "java/lang/invoke/VarHandle") ∧ Cond.instantiable q.1.cls q.2 ∈ tables_1 ∧ Cond.privateMethod q.1 ∈ tables_1 ∧ Cond.instanceMethod q.1 ∈ tables_1
theorem lw_p0 : lw_okq (⟨"DeckHands$Page", "append", "(I)V"⟩, 2) := ⟨⟨by decide +kernel, by decide +kernel⟩, List.mem_of_getElem? (i := 23) (by decide +kernel), List.mem_of_getElem? (i := 137) (by decide +kernel), List.mem_of_getElem? (i := 138) (by decide +kernel)⟩
theorem lw_p1 : lw_okq (⟨"DeckHands$Page", "clear", "()I"⟩, 2) := ⟨⟨by decide +kernel, by decide +kernel⟩, List.mem_of_getElem? (i := 23) (by decide +kernel), List.mem_of_getElem? (i := 145) (by decide +kernel), List.mem_of_getElem? (i := 146) (by decide +kernel)⟩
theorem lw_p2 : lw_okq (⟨"DeckHands$Page", "firstWrong", "()I"⟩, 2) := ⟨⟨by decide +kernel, by decide +kernel⟩, List.mem_of_getElem? (i := 23) (by decide +kernel), List.mem_of_getElem? (i := 153) (by decide +kernel), List.mem_of_getElem? (i := 154) (by decide +kernel)⟩
theorem lw_p3 : lw_okq (⟨"DeckHands$Page", "mayStand", "(I)Z"⟩, 2) := ⟨⟨by decide +kernel, by decide +kernel⟩, List.mem_of_getElem? (i := 23) (by decide +kernel), List.mem_of_getElem? (i := 157) (by decide +kernel), List.mem_of_getElem? (i := 158) (by decide +kernel)⟩
theorem lw_p4 : lw_okq (⟨"DeckHands$Page", "isRoutine", "()Z"⟩, 2) := ⟨⟨by decide +kernel, by decide +kernel⟩, List.mem_of_getElem? (i := 23) (by decide +kernel), List.mem_of_getElem? (i := 259) (by decide +kernel), List.mem_of_getElem? (i := 260) (by decide +kernel)⟩
theorem lw_p5 : lw_okq (⟨"DeckHands$Page", "readInto", "(LDeckHands$Table;)V"⟩, 2) := ⟨⟨by decide +kernel, by decide +kernel⟩, List.mem_of_getElem? (i := 23) (by decide +kernel), List.mem_of_getElem? (i := 264) (by decide +kernel), List.mem_of_getElem? (i := 265) (by decide +kernel)⟩
theorem lw_p6 : lw_okq (⟨"DeckHands$Table", "begin", "(II)V"⟩, 11) := ⟨⟨by decide +kernel, by decide +kernel⟩, List.mem_of_getElem? (i := 39) (by decide +kernel), List.mem_of_getElem? (i := 268) (by decide +kernel), List.mem_of_getElem? (i := 269) (by decide +kernel)⟩
theorem lw_p7 : lw_okq (⟨"DeckHands$Table", "layInOrder", "()V"⟩, 11) := ⟨⟨by decide +kernel, by decide +kernel⟩, List.mem_of_getElem? (i := 39) (by decide +kernel), List.mem_of_getElem? (i := 272) (by decide +kernel), List.mem_of_getElem? (i := 273) (by decide +kernel)⟩
theorem lw_p8 : lw_okq (⟨"DeckHands$Table", "setStep", "(III)V"⟩, 11) := ⟨⟨by decide +kernel, by decide +kernel⟩, List.mem_of_getElem? (i := 39) (by decide +kernel), List.mem_of_getElem? (i := 276) (by decide +kernel), List.mem_of_getElem? (i := 277) (by decide +kernel)⟩
theorem lw_p9 : lw_okq (⟨"DeckHands$Table", "hasStep", "(I)Z"⟩, 11) := ⟨⟨by decide +kernel, by decide +kernel⟩, List.mem_of_getElem? (i := 39) (by decide +kernel), List.mem_of_getElem? (i := 301) (by decide +kernel), List.mem_of_getElem? (i := 302) (by decide +kernel)⟩
theorem lw_p10 : lw_okq (⟨"DeckHands", "wayOfStep", "(I)LDeckHands$Way;"⟩, 10) := ⟨⟨by decide +kernel, by decide +kernel⟩, List.mem_of_getElem? (i := 15) (by decide +kernel), List.mem_of_getElem? (i := 305) (by decide +kernel), List.mem_of_getElem? (i := 306) (by decide +kernel)⟩
theorem lw_p11 : lw_okq (⟨"DeckHands$Way", "begin", "(I)V"⟩, 2) := ⟨⟨by decide +kernel, by decide +kernel⟩, List.mem_of_getElem? (i := 87) (by decide +kernel), List.mem_of_getElem? (i := 309) (by decide +kernel), List.mem_of_getElem? (i := 310) (by decide +kernel)⟩
theorem lw_p12 : lw_okq (⟨"DeckHands$Way", "add", "(LDeckHands$Table;I)V"⟩, 2) := ⟨⟨by decide +kernel, by decide +kernel⟩, List.mem_of_getElem? (i := 87) (by decide +kernel), List.mem_of_getElem? (i := 313) (by decide +kernel), List.mem_of_getElem? (i := 314) (by decide +kernel)⟩
theorem lw_p13 : lw_okq (⟨"DeckHands$Table", "placeBehind", "(II)I"⟩, 11) := ⟨⟨by decide +kernel, by decide +kernel⟩, List.mem_of_getElem? (i := 39) (by decide +kernel), List.mem_of_getElem? (i := 317) (by decide +kernel), List.mem_of_getElem? (i := 318) (by decide +kernel)⟩
theorem lw_p14 : lw_okq (⟨"DeckHands$Way", "stayCount", "()I"⟩, 2) := ⟨⟨by decide +kernel, by decide +kernel⟩, List.mem_of_getElem? (i := 87) (by decide +kernel), List.mem_of_getElem? (i := 321) (by decide +kernel), List.mem_of_getElem? (i := 322) (by decide +kernel)⟩
theorem lw_p15 : lw_okq (⟨"DeckHands$Way", "order", "()I"⟩, 2) := ⟨⟨by decide +kernel, by decide +kernel⟩, List.mem_of_getElem? (i := 87) (by decide +kernel), List.mem_of_getElem? (i := 325) (by decide +kernel), List.mem_of_getElem? (i := 326) (by decide +kernel)⟩
def lw_privs_1 : List (MethodName × Nat) := [(⟨"DeckHands$Page", "append", "(I)V"⟩, 2), (⟨"DeckHands$Page", "clear", "()I"⟩, 2), (⟨"DeckHands$Page", "firstWrong", "()I"⟩, 2), (⟨"DeckHands$Page", "mayStand", "(I)Z"⟩, 2), (⟨"DeckHands$Page", "isRoutine", "()Z"⟩, 2), (⟨"DeckHands$Page", "readInto", "(LDeckHands$Table;)V"⟩, 2), (⟨"DeckHands$Table", "begin", "(II)V"⟩, 11), (⟨"DeckHands$Table", "layInOrder", "()V"⟩, 11), (⟨"DeckHands$Table", "setStep", "(III)V"⟩, 11), (⟨"DeckHands$Table", "hasStep", "(I)Z"⟩, 11), (⟨"DeckHands", "wayOfStep", "(I)LDeckHands$Way;"⟩, 10), (⟨"DeckHands$Way", "begin", "(I)V"⟩, 2), (⟨"DeckHands$Way", "add", "(LDeckHands$Table;I)V"⟩, 2), (⟨"DeckHands$Table", "placeBehind", "(II)I"⟩, 11), (⟨"DeckHands$Way", "stayCount", "()I"⟩, 2), (⟨"DeckHands$Way", "order", "()I"⟩, 2)]
theorem lw_r1 : ∀ q ∈ lw_privs_1, lw_okq q := List.forall_mem_cons.mpr ⟨lw_p0, List.forall_mem_cons.mpr ⟨lw_p1, List.forall_mem_cons.mpr ⟨lw_p2, List.forall_mem_cons.mpr ⟨lw_p3, List.forall_mem_cons.mpr ⟨lw_p4, List.forall_mem_cons.mpr ⟨lw_p5, List.forall_mem_cons.mpr ⟨lw_p6, List.forall_mem_cons.mpr ⟨lw_p7, List.forall_mem_cons.mpr ⟨lw_p8, List.forall_mem_cons.mpr ⟨lw_p9, List.forall_mem_cons.mpr ⟨lw_p10, List.forall_mem_cons.mpr ⟨lw_p11, List.forall_mem_cons.mpr ⟨lw_p12, List.forall_mem_cons.mpr ⟨lw_p13, List.forall_mem_cons.mpr ⟨lw_p14, List.forall_mem_cons.mpr ⟨lw_p15, fun _ h => absurd h List.not_mem_nil⟩⟩⟩⟩⟩⟩⟩⟩⟩⟩⟩⟩⟩⟩⟩⟩
theorem lw_p16 : lw_okq (⟨"DeckHands$Way", "ringLength", "(I)I"⟩, 2) := ⟨⟨by decide +kernel, by decide +kernel⟩, List.mem_of_getElem? (i := 87) (by decide +kernel), List.mem_of_getElem? (i := 329) (by decide +kernel), List.mem_of_getElem? (i := 330) (by decide +kernel)⟩
theorem lw_p17 : lw_okq (⟨"DeckHands$Table", "possibleNumbers", "(I)I"⟩, 11) := ⟨⟨by decide +kernel, by decide +kernel⟩, List.mem_of_getElem? (i := 39) (by decide +kernel), List.mem_of_getElem? (i := 337) (by decide +kernel), List.mem_of_getElem? (i := 338) (by decide +kernel)⟩
theorem lw_p18 : lw_okq (⟨"DeckHands$Table", "agreesWithSeen", "(II)Z"⟩, 11) := ⟨⟨by decide +kernel, by decide +kernel⟩, List.mem_of_getElem? (i := 39) (by decide +kernel), List.mem_of_getElem? (i := 341) (by decide +kernel), List.mem_of_getElem? (i := 342) (by decide +kernel)⟩
theorem lw_p19 : lw_okq (⟨"DeckHands", "placeToWatch", "(II)I"⟩, 10) := ⟨⟨by decide +kernel, by decide +kernel⟩, List.mem_of_getElem? (i := 15) (by decide +kernel), List.mem_of_getElem? (i := 345) (by decide +kernel), List.mem_of_getElem? (i := 346) (by decide +kernel)⟩
theorem lw_p20 : lw_okq (⟨"DeckHands", "leftAtWorst", "(III)I"⟩, 10) := ⟨⟨by decide +kernel, by decide +kernel⟩, List.mem_of_getElem? (i := 15) (by decide +kernel), List.mem_of_getElem? (i := 349) (by decide +kernel), List.mem_of_getElem? (i := 350) (by decide +kernel)⟩
theorem lw_p21 : lw_okq (⟨"DeckHands$Table", "hasPlace", "(I)Z"⟩, 11) := ⟨⟨by decide +kernel, by decide +kernel⟩, List.mem_of_getElem? (i := 39) (by decide +kernel), List.mem_of_getElem? (i := 368) (by decide +kernel), List.mem_of_getElem? (i := 369) (by decide +kernel)⟩
theorem lw_p22 : lw_okq (⟨"DeckHands", "carryOut", "(LDeckHands$Way;I)I"⟩, 10) := ⟨⟨by decide +kernel, by decide +kernel⟩, List.mem_of_getElem? (i := 15) (by decide +kernel), List.mem_of_getElem? (i := 381) (by decide +kernel), List.mem_of_getElem? (i := 382) (by decide +kernel)⟩
theorem lw_p23 : lw_okq (⟨"DeckHands$Table", "hasRoutine", "()Z"⟩, 11) := ⟨⟨by decide +kernel, by decide +kernel⟩, List.mem_of_getElem? (i := 39) (by decide +kernel), List.mem_of_getElem? (i := 392) (by decide +kernel), List.mem_of_getElem? (i := 393) (by decide +kernel)⟩
theorem lw_p24 : lw_okq (⟨"DeckHands", "wayOfRoutine", "()LDeckHands$Way;"⟩, 10) := ⟨⟨by decide +kernel, by decide +kernel⟩, List.mem_of_getElem? (i := 15) (by decide +kernel), List.mem_of_getElem? (i := 396) (by decide +kernel), List.mem_of_getElem? (i := 397) (by decide +kernel)⟩
theorem lw_p25 : lw_okq (⟨"DeckHands$Table", "asAtFirst", "()I"⟩, 11) := ⟨⟨by decide +kernel, by decide +kernel⟩, List.mem_of_getElem? (i := 39) (by decide +kernel), List.mem_of_getElem? (i := 408) (by decide +kernel), List.mem_of_getElem? (i := 409) (by decide +kernel)⟩
theorem lw_p26 : lw_okq (⟨"DeckHands$Way", "placeAfter", "(II)I"⟩, 2) := ⟨⟨by decide +kernel, by decide +kernel⟩, List.mem_of_getElem? (i := 87) (by decide +kernel), List.mem_of_getElem? (i := 427) (by decide +kernel), List.mem_of_getElem? (i := 428) (by decide +kernel)⟩
theorem lw_p27 : lw_okq (⟨"DeckHands$Way", "ringCount", "()I"⟩, 2) := ⟨⟨by decide +kernel, by decide +kernel⟩, List.mem_of_getElem? (i := 87) (by decide +kernel), List.mem_of_getElem? (i := 435) (by decide +kernel), List.mem_of_getElem? (i := 436) (by decide +kernel)⟩
theorem lw_p28 : lw_okq (⟨"DeckHands$Way", "isLeastOfRing", "(I)Z"⟩, 2) := ⟨⟨by decide +kernel, by decide +kernel⟩, List.mem_of_getElem? (i := 87) (by decide +kernel), List.mem_of_getElem? (i := 439) (by decide +kernel), List.mem_of_getElem? (i := 440) (by decide +kernel)⟩
theorem lw_p29 : lw_okq (⟨"DeckHands$Way", "longestRing", "()I"⟩, 2) := ⟨⟨by decide +kernel, by decide +kernel⟩, List.mem_of_getElem? (i := 87) (by decide +kernel), List.mem_of_getElem? (i := 443) (by decide +kernel), List.mem_of_getElem? (i := 444) (by decide +kernel)⟩
theorem lw_p30 : lw_okq (⟨"DeckHands$Table", "hasCard", "(I)Z"⟩, 11) := ⟨⟨by decide +kernel, by decide +kernel⟩, List.mem_of_getElem? (i := 39) (by decide +kernel), List.mem_of_getElem? (i := 451) (by decide +kernel), List.mem_of_getElem? (i := 452) (by decide +kernel)⟩
theorem lw_p31 : lw_okq (⟨"DeckHands$Table", "placeOf", "(I)I"⟩, 11) := ⟨⟨by decide +kernel, by decide +kernel⟩, List.mem_of_getElem? (i := 39) (by decide +kernel), List.mem_of_getElem? (i := 455) (by decide +kernel), List.mem_of_getElem? (i := 456) (by decide +kernel)⟩
def lw_privs_2 : List (MethodName × Nat) := [(⟨"DeckHands$Way", "ringLength", "(I)I"⟩, 2), (⟨"DeckHands$Table", "possibleNumbers", "(I)I"⟩, 11), (⟨"DeckHands$Table", "agreesWithSeen", "(II)Z"⟩, 11), (⟨"DeckHands", "placeToWatch", "(II)I"⟩, 10), (⟨"DeckHands", "leftAtWorst", "(III)I"⟩, 10), (⟨"DeckHands$Table", "hasPlace", "(I)Z"⟩, 11), (⟨"DeckHands", "carryOut", "(LDeckHands$Way;I)I"⟩, 10), (⟨"DeckHands$Table", "hasRoutine", "()Z"⟩, 11), (⟨"DeckHands", "wayOfRoutine", "()LDeckHands$Way;"⟩, 10), (⟨"DeckHands$Table", "asAtFirst", "()I"⟩, 11), (⟨"DeckHands$Way", "placeAfter", "(II)I"⟩, 2), (⟨"DeckHands$Way", "ringCount", "()I"⟩, 2), (⟨"DeckHands$Way", "isLeastOfRing", "(I)Z"⟩, 2), (⟨"DeckHands$Way", "longestRing", "()I"⟩, 2), (⟨"DeckHands$Table", "hasCard", "(I)Z"⟩, 11), (⟨"DeckHands$Table", "placeOf", "(I)I"⟩, 11)]
theorem lw_r2 : ∀ q ∈ lw_privs_2, lw_okq q := List.forall_mem_cons.mpr ⟨lw_p16, List.forall_mem_cons.mpr ⟨lw_p17, List.forall_mem_cons.mpr ⟨lw_p18, List.forall_mem_cons.mpr ⟨lw_p19, List.forall_mem_cons.mpr ⟨lw_p20, List.forall_mem_cons.mpr ⟨lw_p21, List.forall_mem_cons.mpr ⟨lw_p22, List.forall_mem_cons.mpr ⟨lw_p23, List.forall_mem_cons.mpr ⟨lw_p24, List.forall_mem_cons.mpr ⟨lw_p25, List.forall_mem_cons.mpr ⟨lw_p26, List.forall_mem_cons.mpr ⟨lw_p27, List.forall_mem_cons.mpr ⟨lw_p28, List.forall_mem_cons.mpr ⟨lw_p29, List.forall_mem_cons.mpr ⟨lw_p30, List.forall_mem_cons.mpr ⟨lw_p31, fun _ h => absurd h List.not_mem_nil⟩⟩⟩⟩⟩⟩⟩⟩⟩⟩⟩⟩⟩⟩⟩⟩
theorem lw_p32 : lw_okq (⟨"DeckHands", "tellDistancesTo", "(I)V"⟩, 10) := ⟨⟨by decide +kernel, by decide +kernel⟩, List.mem_of_getElem? (i := 15) (by decide +kernel), List.mem_of_getElem? (i := 459) (by decide +kernel), List.mem_of_getElem? (i := 460) (by decide +kernel)⟩
theorem lw_p33 : lw_okq (⟨"DeckHands", "stepTo", "(II)I"⟩, 10) := ⟨⟨by decide +kernel, by decide +kernel⟩, List.mem_of_getElem? (i := 15) (by decide +kernel), List.mem_of_getElem? (i := 463) (by decide +kernel), List.mem_of_getElem? (i := 464) (by decide +kernel)⟩
theorem lw_p34 : lw_okq (⟨"DeckHands", "firstStepNearer", "(I)I"⟩, 10) := ⟨⟨by decide +kernel, by decide +kernel⟩, List.mem_of_getElem? (i := 15) (by decide +kernel), List.mem_of_getElem? (i := 467) (by decide +kernel), List.mem_of_getElem? (i := 468) (by decide +kernel)⟩
theorem lw_p35 : lw_okq (⟨"DeckHands", "findPathHome", "(I)Z"⟩, 10) := ⟨⟨by decide +kernel, by decide +kernel⟩, List.mem_of_getElem? (i := 15) (by decide +kernel), List.mem_of_getElem? (i := 475) (by decide +kernel), List.mem_of_getElem? (i := 476) (by decide +kernel)⟩
theorem lw_p36 : lw_okq (⟨"DeckHands", "pathLeadsHome", "(I)Z"⟩, 10) := ⟨⟨by decide +kernel, by decide +kernel⟩, List.mem_of_getElem? (i := 15) (by decide +kernel), List.mem_of_getElem? (i := 479) (by decide +kernel), List.mem_of_getElem? (i := 480) (by decide +kernel)⟩
theorem lw_p37 : lw_okq (⟨"DeckHands", "nextPath", "(I)V"⟩, 10) := ⟨⟨by decide +kernel, by decide +kernel⟩, List.mem_of_getElem? (i := 15) (by decide +kernel), List.mem_of_getElem? (i := 483) (by decide +kernel), List.mem_of_getElem? (i := 484) (by decide +kernel)⟩
theorem lw_p38 : lw_okq (⟨"DeckHands", "pathInDigits", "(I)I"⟩, 10) := ⟨⟨by decide +kernel, by decide +kernel⟩, List.mem_of_getElem? (i := 15) (by decide +kernel), List.mem_of_getElem? (i := 487) (by decide +kernel), List.mem_of_getElem? (i := 488) (by decide +kernel)⟩
theorem lw_p39 : lw_okq (⟨"DeckHands", "tellDrawsFrom", "(II)V"⟩, 10) := ⟨⟨by decide +kernel, by decide +kernel⟩, List.mem_of_getElem? (i := 15) (by decide +kernel), List.mem_of_getElem? (i := 495) (by decide +kernel), List.mem_of_getElem? (i := 496) (by decide +kernel)⟩
theorem lw_p40 : lw_okq (⟨"DeckHands$Table", "addSeen", "(III)V"⟩, 11) := ⟨⟨by decide +kernel, by decide +kernel⟩, List.mem_of_getElem? (i := 39) (by decide +kernel), List.mem_of_getElem? (i := 504) (by decide +kernel), List.mem_of_getElem? (i := 505) (by decide +kernel)⟩
theorem lw_p41 : lw_okq (⟨"DeckHands", "drawSteps", "(II)I"⟩, 10) := ⟨⟨by decide +kernel, by decide +kernel⟩, List.mem_of_getElem? (i := 15) (by decide +kernel), List.mem_of_getElem? (i := 516) (by decide +kernel), List.mem_of_getElem? (i := 517) (by decide +kernel)⟩
theorem lw_p42 : lw_okq (⟨"DeckHands$Table", "asAtFirstBehind", "(LDeckHands$Way;)I"⟩, 11) := ⟨⟨by decide +kernel, by decide +kernel⟩, List.mem_of_getElem? (i := 39) (by decide +kernel), List.mem_of_getElem? (i := 524) (by decide +kernel), List.mem_of_getElem? (i := 525) (by decide +kernel)⟩
theorem lw_p43 : lw_okq (⟨"DeckHands$Table", "topBehind", "(LDeckHands$Way;)I"⟩, 11) := ⟨⟨by decide +kernel, by decide +kernel⟩, List.mem_of_getElem? (i := 39) (by decide +kernel), List.mem_of_getElem? (i := 528) (by decide +kernel), List.mem_of_getElem? (i := 529) (by decide +kernel)⟩
theorem lw_p44 : lw_okq (⟨"DeckHands$Table", "copy", "(LDeckHands$Table;)V"⟩, 11) := ⟨⟨by decide +kernel, by decide +kernel⟩, List.mem_of_getElem? (i := 39) (by decide +kernel), List.mem_of_getElem? (i := 536) (by decide +kernel), List.mem_of_getElem? (i := 537) (by decide +kernel)⟩
theorem lw_p45 : lw_okq (⟨"DeckHands$Table", "wrongTwos", "()I"⟩, 11) := ⟨⟨by decide +kernel, by decide +kernel⟩, List.mem_of_getElem? (i := 39) (by decide +kernel), List.mem_of_getElem? (i := 549) (by decide +kernel), List.mem_of_getElem? (i := 550) (by decide +kernel)⟩
theorem lw_p46 : lw_okq (⟨"DeckHands", "digestOfSteps", "(J)J"⟩, 10) := ⟨⟨by decide +kernel, by decide +kernel⟩, List.mem_of_getElem? (i := 15) (by decide +kernel), List.mem_of_getElem? (i := 558) (by decide +kernel), List.mem_of_getElem? (i := 559) (by decide +kernel)⟩
theorem lw_p47 : lw_okq (⟨"DeckHands", "digestOfPlaces", "(J)J"⟩, 10) := ⟨⟨by decide +kernel, by decide +kernel⟩, List.mem_of_getElem? (i := 15) (by decide +kernel), List.mem_of_getElem? (i := 567) (by decide +kernel), List.mem_of_getElem? (i := 568) (by decide +kernel)⟩
def lw_privs_3 : List (MethodName × Nat) := [(⟨"DeckHands", "tellDistancesTo", "(I)V"⟩, 10), (⟨"DeckHands", "stepTo", "(II)I"⟩, 10), (⟨"DeckHands", "firstStepNearer", "(I)I"⟩, 10), (⟨"DeckHands", "findPathHome", "(I)Z"⟩, 10), (⟨"DeckHands", "pathLeadsHome", "(I)Z"⟩, 10), (⟨"DeckHands", "nextPath", "(I)V"⟩, 10), (⟨"DeckHands", "pathInDigits", "(I)I"⟩, 10), (⟨"DeckHands", "tellDrawsFrom", "(II)V"⟩, 10), (⟨"DeckHands$Table", "addSeen", "(III)V"⟩, 11), (⟨"DeckHands", "drawSteps", "(II)I"⟩, 10), (⟨"DeckHands$Table", "asAtFirstBehind", "(LDeckHands$Way;)I"⟩, 11), (⟨"DeckHands$Table", "topBehind", "(LDeckHands$Way;)I"⟩, 11), (⟨"DeckHands$Table", "copy", "(LDeckHands$Table;)V"⟩, 11), (⟨"DeckHands$Table", "wrongTwos", "()I"⟩, 11), (⟨"DeckHands", "digestOfSteps", "(J)J"⟩, 10), (⟨"DeckHands", "digestOfPlaces", "(J)J"⟩, 10)]
theorem lw_r3 : ∀ q ∈ lw_privs_3, lw_okq q := List.forall_mem_cons.mpr ⟨lw_p32, List.forall_mem_cons.mpr ⟨lw_p33, List.forall_mem_cons.mpr ⟨lw_p34, List.forall_mem_cons.mpr ⟨lw_p35, List.forall_mem_cons.mpr ⟨lw_p36, List.forall_mem_cons.mpr ⟨lw_p37, List.forall_mem_cons.mpr ⟨lw_p38, List.forall_mem_cons.mpr ⟨lw_p39, List.forall_mem_cons.mpr ⟨lw_p40, List.forall_mem_cons.mpr ⟨lw_p41, List.forall_mem_cons.mpr ⟨lw_p42, List.forall_mem_cons.mpr ⟨lw_p43, List.forall_mem_cons.mpr ⟨lw_p44, List.forall_mem_cons.mpr ⟨lw_p45, List.forall_mem_cons.mpr ⟨lw_p46, List.forall_mem_cons.mpr ⟨lw_p47, fun _ h => absurd h List.not_mem_nil⟩⟩⟩⟩⟩⟩⟩⟩⟩⟩⟩⟩⟩⟩⟩⟩
theorem lw_p48 : lw_okq (⟨"DeckHands", "digestOfRoutine", "(J)J"⟩, 10) := ⟨⟨by decide +kernel, by decide +kernel⟩, List.mem_of_getElem? (i := 15) (by decide +kernel), List.mem_of_getElem? (i := 574) (by decide +kernel), List.mem_of_getElem? (i := 575) (by decide +kernel)⟩
theorem lw_p49 : lw_okq (⟨"DeckHandsModel", "faultOf", "()I"⟩, 32) := ⟨⟨by decide +kernel, by decide +kernel⟩, List.mem_of_getElem? (i := 582) (by decide +kernel), List.mem_of_getElem? (i := 701) (by decide +kernel), List.mem_of_getElem? (i := 702) (by decide +kernel)⟩
theorem lw_p50 : lw_okq (⟨"DeckHandsModel", "isGood", "(I)Z"⟩, 32) := ⟨⟨by decide +kernel, by decide +kernel⟩, List.mem_of_getElem? (i := 582) (by decide +kernel), List.mem_of_getElem? (i := 705) (by decide +kernel), List.mem_of_getElem? (i := 706) (by decide +kernel)⟩
theorem lw_p51 : lw_okq (⟨"DeckHandsModel", "layFirst", "()V"⟩, 32) := ⟨⟨by decide +kernel, by decide +kernel⟩, List.mem_of_getElem? (i := 582) (by decide +kernel), List.mem_of_getElem? (i := 719) (by decide +kernel), List.mem_of_getElem? (i := 720) (by decide +kernel)⟩
theorem lw_p52 : lw_okq (⟨"DeckHandsModel", "isStep", "(I)Z"⟩, 32) := ⟨⟨by decide +kernel, by decide +kernel⟩, List.mem_of_getElem? (i := 582) (by decide +kernel), List.mem_of_getElem? (i := 727) (by decide +kernel), List.mem_of_getElem? (i := 728) (by decide +kernel)⟩
theorem lw_p53 : lw_okq (⟨"DeckHandsModel", "isPlace", "(I)Z"⟩, 32) := ⟨⟨by decide +kernel, by decide +kernel⟩, List.mem_of_getElem? (i := 582) (by decide +kernel), List.mem_of_getElem? (i := 731) (by decide +kernel), List.mem_of_getElem? (i := 732) (by decide +kernel)⟩
theorem lw_p54 : lw_okq (⟨"DeckHandsModel", "goesOf", "(II)I"⟩, 32) := ⟨⟨by decide +kernel, by decide +kernel⟩, List.mem_of_getElem? (i := 582) (by decide +kernel), List.mem_of_getElem? (i := 735) (by decide +kernel), List.mem_of_getElem? (i := 736) (by decide +kernel)⟩
theorem lw_p55 : lw_okq (⟨"DeckHandsModel", "goesBy", "(III)I"⟩, 32) := ⟨⟨by decide +kernel, by decide +kernel⟩, List.mem_of_getElem? (i := 582) (by decide +kernel), List.mem_of_getElem? (i := 739) (by decide +kernel), List.mem_of_getElem? (i := 740) (by decide +kernel)⟩
theorem lw_p56 : lw_okq (⟨"DeckHandsModel", "byDeal", "(IIZ)I"⟩, 32) := ⟨⟨by decide +kernel, by decide +kernel⟩, List.mem_of_getElem? (i := 582) (by decide +kernel), List.mem_of_getElem? (i := 743) (by decide +kernel), List.mem_of_getElem? (i := 744) (by decide +kernel)⟩
theorem lw_p57 : lw_okq (⟨"DeckHandsModel", "pileOf", "(II)I"⟩, 32) := ⟨⟨by decide +kernel, by decide +kernel⟩, List.mem_of_getElem? (i := 582) (by decide +kernel), List.mem_of_getElem? (i := 747) (by decide +kernel), List.mem_of_getElem? (i := 748) (by decide +kernel)⟩
theorem lw_p58 : lw_okq (⟨"DeckHandsModel", "byTurn", "(II)I"⟩, 32) := ⟨⟨by decide +kernel, by decide +kernel⟩, List.mem_of_getElem? (i := 582) (by decide +kernel), List.mem_of_getElem? (i := 751) (by decide +kernel), List.mem_of_getElem? (i := 752) (by decide +kernel)⟩
theorem lw_p59 : lw_okq (⟨"DeckHandsModel", "byStep", "(II)I"⟩, 32) := ⟨⟨by decide +kernel, by decide +kernel⟩, List.mem_of_getElem? (i := 582) (by decide +kernel), List.mem_of_getElem? (i := 755) (by decide +kernel), List.mem_of_getElem? (i := 756) (by decide +kernel)⟩
theorem lw_p60 : lw_okq (⟨"DeckHandsModel", "roundOf", "(I)I"⟩, 32) := ⟨⟨by decide +kernel, by decide +kernel⟩, List.mem_of_getElem? (i := 582) (by decide +kernel), List.mem_of_getElem? (i := 763) (by decide +kernel), List.mem_of_getElem? (i := 764) (by decide +kernel)⟩
theorem lw_p61 : lw_okq (⟨"DeckHandsModel", "lacks", "()Z"⟩, 32) := ⟨⟨by decide +kernel, by decide +kernel⟩, List.mem_of_getElem? (i := 582) (by decide +kernel), List.mem_of_getElem? (i := 772) (by decide +kernel), List.mem_of_getElem? (i := 773) (by decide +kernel)⟩
theorem lw_p62 : lw_okq (⟨"DeckHandsModel", "ringsOf", "(I)I"⟩, 32) := ⟨⟨by decide +kernel, by decide +kernel⟩, List.mem_of_getElem? (i := 582) (by decide +kernel), List.mem_of_getElem? (i := 776) (by decide +kernel), List.mem_of_getElem? (i := 777) (by decide +kernel)⟩
theorem lw_p63 : lw_okq (⟨"DeckHandsModel", "layRound", "()V"⟩, 32) := ⟨⟨by decide +kernel, by decide +kernel⟩, List.mem_of_getElem? (i := 582) (by decide +kernel), List.mem_of_getElem? (i := 780) (by decide +kernel), List.mem_of_getElem? (i := 781) (by decide +kernel)⟩
def lw_privs_4 : List (MethodName × Nat) := [(⟨"DeckHands", "digestOfRoutine", "(J)J"⟩, 10), (⟨"DeckHandsModel", "faultOf", "()I"⟩, 32), (⟨"DeckHandsModel", "isGood", "(I)Z"⟩, 32), (⟨"DeckHandsModel", "layFirst", "()V"⟩, 32), (⟨"DeckHandsModel", "isStep", "(I)Z"⟩, 32), (⟨"DeckHandsModel", "isPlace", "(I)Z"⟩, 32), (⟨"DeckHandsModel", "goesOf", "(II)I"⟩, 32), (⟨"DeckHandsModel", "goesBy", "(III)I"⟩, 32), (⟨"DeckHandsModel", "byDeal", "(IIZ)I"⟩, 32), (⟨"DeckHandsModel", "pileOf", "(II)I"⟩, 32), (⟨"DeckHandsModel", "byTurn", "(II)I"⟩, 32), (⟨"DeckHandsModel", "byStep", "(II)I"⟩, 32), (⟨"DeckHandsModel", "roundOf", "(I)I"⟩, 32), (⟨"DeckHandsModel", "lacks", "()Z"⟩, 32), (⟨"DeckHandsModel", "ringsOf", "(I)I"⟩, 32), (⟨"DeckHandsModel", "layRound", "()V"⟩, 32)]
theorem lw_r4 : ∀ q ∈ lw_privs_4, lw_okq q := List.forall_mem_cons.mpr ⟨lw_p48, List.forall_mem_cons.mpr ⟨lw_p49, List.forall_mem_cons.mpr ⟨lw_p50, List.forall_mem_cons.mpr ⟨lw_p51, List.forall_mem_cons.mpr ⟨lw_p52, List.forall_mem_cons.mpr ⟨lw_p53, List.forall_mem_cons.mpr ⟨lw_p54, List.forall_mem_cons.mpr ⟨lw_p55, List.forall_mem_cons.mpr ⟨lw_p56, List.forall_mem_cons.mpr ⟨lw_p57, List.forall_mem_cons.mpr ⟨lw_p58, List.forall_mem_cons.mpr ⟨lw_p59, List.forall_mem_cons.mpr ⟨lw_p60, List.forall_mem_cons.mpr ⟨lw_p61, List.forall_mem_cons.mpr ⟨lw_p62, List.forall_mem_cons.mpr ⟨lw_p63, fun _ h => absurd h List.not_mem_nil⟩⟩⟩⟩⟩⟩⟩⟩⟩⟩⟩⟩⟩⟩⟩⟩
theorem lw_p64 : lw_okq (⟨"DeckHandsModel", "layRings", "()V"⟩, 32) := ⟨⟨by decide +kernel, by decide +kernel⟩, List.mem_of_getElem? (i := 582) (by decide +kernel), List.mem_of_getElem? (i := 784) (by decide +kernel), List.mem_of_getElem? (i := 785) (by decide +kernel)⟩
theorem lw_p65 : lw_okq (⟨"DeckHandsModel", "ringOf", "(I)I"⟩, 32) := ⟨⟨by decide +kernel, by decide +kernel⟩, List.mem_of_getElem? (i := 582) (by decide +kernel), List.mem_of_getElem? (i := 788) (by decide +kernel), List.mem_of_getElem? (i := 789) (by decide +kernel)⟩
theorem lw_p66 : lw_okq (⟨"DeckHandsModel", "afterOf", "(II)I"⟩, 32) := ⟨⟨by decide +kernel, by decide +kernel⟩, List.mem_of_getElem? (i := 582) (by decide +kernel), List.mem_of_getElem? (i := 800) (by decide +kernel), List.mem_of_getElem? (i := 801) (by decide +kernel)⟩
theorem lw_p67 : lw_okq (⟨"DeckHandsModel", "tellStep", "(II)I"⟩, 32) := ⟨⟨by decide +kernel, by decide +kernel⟩, List.mem_of_getElem? (i := 582) (by decide +kernel), List.mem_of_getElem? (i := 808) (by decide +kernel), List.mem_of_getElem? (i := 809) (by decide +kernel)⟩
theorem lw_p68 : lw_okq (⟨"DeckHandsModel", "ofStep", "(II)I"⟩, 32) := ⟨⟨by decide +kernel, by decide +kernel⟩, List.mem_of_getElem? (i := 582) (by decide +kernel), List.mem_of_getElem? (i := 812) (by decide +kernel), List.mem_of_getElem? (i := 813) (by decide +kernel)⟩
theorem lw_p69 : lw_okq (⟨"DeckHandsModel", "numbersOf", "(I)I"⟩, 32) := ⟨⟨by decide +kernel, by decide +kernel⟩, List.mem_of_getElem? (i := 582) (by decide +kernel), List.mem_of_getElem? (i := 816) (by decide +kernel), List.mem_of_getElem? (i := 817) (by decide +kernel)⟩
theorem lw_p70 : lw_okq (⟨"DeckHandsModel", "watchOf", "(I)I"⟩, 32) := ⟨⟨by decide +kernel, by decide +kernel⟩, List.mem_of_getElem? (i := 582) (by decide +kernel), List.mem_of_getElem? (i := 820) (by decide +kernel), List.mem_of_getElem? (i := 821) (by decide +kernel)⟩
theorem lw_p71 : lw_okq (⟨"DeckHandsModel", "doThen", "(I)V"⟩, 32) := ⟨⟨by decide +kernel, by decide +kernel⟩, List.mem_of_getElem? (i := 582) (by decide +kernel), List.mem_of_getElem? (i := 840) (by decide +kernel), List.mem_of_getElem? (i := 841) (by decide +kernel)⟩
theorem lw_p72 : lw_okq (⟨"DeckHandsModel", "homely", "([I)I"⟩, 32) := ⟨⟨by decide +kernel, by decide +kernel⟩, List.mem_of_getElem? (i := 582) (by decide +kernel), List.mem_of_getElem? (i := 856) (by decide +kernel), List.mem_of_getElem? (i := 857) (by decide +kernel)⟩
theorem lw_p73 : lw_okq (⟨"DeckHandsModel", "bringOf", "(III)I"⟩, 32) := ⟨⟨by decide +kernel, by decide +kernel⟩, List.mem_of_getElem? (i := 582) (by decide +kernel), List.mem_of_getElem? (i := 869) (by decide +kernel), List.mem_of_getElem? (i := 870) (by decide +kernel)⟩
theorem lw_p74 : lw_okq (⟨"DeckHandsModel", "layFar", "(I)V"⟩, 32) := ⟨⟨by decide +kernel, by decide +kernel⟩, List.mem_of_getElem? (i := 582) (by decide +kernel), List.mem_of_getElem? (i := 873) (by decide +kernel), List.mem_of_getElem? (i := 874) (by decide +kernel)⟩
theorem lw_p75 : lw_okq (⟨"DeckHandsModel", "placeOf", "(I)I"⟩, 32) := ⟨⟨by decide +kernel, by decide +kernel⟩, List.mem_of_getElem? (i := 582) (by decide +kernel), List.mem_of_getElem? (i := 877) (by decide +kernel), List.mem_of_getElem? (i := 878) (by decide +kernel)⟩
theorem lw_p76 : lw_okq (⟨"DeckHandsModel", "homeOf", "(I)I"⟩, 32) := ⟨⟨by decide +kernel, by decide +kernel⟩, List.mem_of_getElem? (i := 582) (by decide +kernel), List.mem_of_getElem? (i := 885) (by decide +kernel), List.mem_of_getElem? (i := 886) (by decide +kernel)⟩
theorem lw_p77 : lw_okq (⟨"DeckHandsModel", "isHomeBy", "(II)Z"⟩, 32) := ⟨⟨by decide +kernel, by decide +kernel⟩, List.mem_of_getElem? (i := 582) (by decide +kernel), List.mem_of_getElem? (i := 892) (by decide +kernel), List.mem_of_getElem? (i := 893) (by decide +kernel)⟩
theorem lw_p78 : lw_okq (⟨"DeckHandsModel", "oddsOf", "(IIII)I"⟩, 32) := ⟨⟨by decide +kernel, by decide +kernel⟩, List.mem_of_getElem? (i := 582) (by decide +kernel), List.mem_of_getElem? (i := 901) (by decide +kernel), List.mem_of_getElem? (i := 902) (by decide +kernel)⟩
theorem lw_p79 : lw_okq (⟨"DeckHandsModel", "draw", "(I)I"⟩, 32) := ⟨⟨by decide +kernel, by decide +kernel⟩, List.mem_of_getElem? (i := 582) (by decide +kernel), List.mem_of_getElem? (i := 919) (by decide +kernel), List.mem_of_getElem? (i := 920) (by decide +kernel)⟩
def lw_privs_5 : List (MethodName × Nat) := [(⟨"DeckHandsModel", "layRings", "()V"⟩, 32), (⟨"DeckHandsModel", "ringOf", "(I)I"⟩, 32), (⟨"DeckHandsModel", "afterOf", "(II)I"⟩, 32), (⟨"DeckHandsModel", "tellStep", "(II)I"⟩, 32), (⟨"DeckHandsModel", "ofStep", "(II)I"⟩, 32), (⟨"DeckHandsModel", "numbersOf", "(I)I"⟩, 32), (⟨"DeckHandsModel", "watchOf", "(I)I"⟩, 32), (⟨"DeckHandsModel", "doThen", "(I)V"⟩, 32), (⟨"DeckHandsModel", "homely", "([I)I"⟩, 32), (⟨"DeckHandsModel", "bringOf", "(III)I"⟩, 32), (⟨"DeckHandsModel", "layFar", "(I)V"⟩, 32), (⟨"DeckHandsModel", "placeOf", "(I)I"⟩, 32), (⟨"DeckHandsModel", "homeOf", "(I)I"⟩, 32), (⟨"DeckHandsModel", "isHomeBy", "(II)Z"⟩, 32), (⟨"DeckHandsModel", "oddsOf", "(IIII)I"⟩, 32), (⟨"DeckHandsModel", "draw", "(I)I"⟩, 32)]
theorem lw_r5 : ∀ q ∈ lw_privs_5, lw_okq q := List.forall_mem_cons.mpr ⟨lw_p64, List.forall_mem_cons.mpr ⟨lw_p65, List.forall_mem_cons.mpr ⟨lw_p66, List.forall_mem_cons.mpr ⟨lw_p67, List.forall_mem_cons.mpr ⟨lw_p68, List.forall_mem_cons.mpr ⟨lw_p69, List.forall_mem_cons.mpr ⟨lw_p70, List.forall_mem_cons.mpr ⟨lw_p71, List.forall_mem_cons.mpr ⟨lw_p72, List.forall_mem_cons.mpr ⟨lw_p73, List.forall_mem_cons.mpr ⟨lw_p74, List.forall_mem_cons.mpr ⟨lw_p75, List.forall_mem_cons.mpr ⟨lw_p76, List.forall_mem_cons.mpr ⟨lw_p77, List.forall_mem_cons.mpr ⟨lw_p78, List.forall_mem_cons.mpr ⟨lw_p79, fun _ h => absurd h List.not_mem_nil⟩⟩⟩⟩⟩⟩⟩⟩⟩⟩⟩⟩⟩⟩⟩⟩
theorem lw_p80 : lw_okq (⟨"DeckHandsModel", "countOf", "(I)I"⟩, 32) := ⟨⟨by decide +kernel, by decide +kernel⟩, List.mem_of_getElem? (i := 582) (by decide +kernel), List.mem_of_getElem? (i := 939) (by decide +kernel), List.mem_of_getElem? (i := 940) (by decide +kernel)⟩
theorem lw_p81 : lw_okq (⟨"DeckHandsModel", "crossed", "()I"⟩, 32) := ⟨⟨by decide +kernel, by decide +kernel⟩, List.mem_of_getElem? (i := 582) (by decide +kernel), List.mem_of_getElem? (i := 943) (by decide +kernel), List.mem_of_getElem? (i := 944) (by decide +kernel)⟩
theorem lw_p82 : lw_okq (⟨"DeckHandsModel", "say", "(J)V"⟩, 32) := ⟨⟨by decide +kernel, by decide +kernel⟩, List.mem_of_getElem? (i := 582) (by decide +kernel), List.mem_of_getElem? (i := 952) (by decide +kernel), List.mem_of_getElem? (i := 953) (by decide +kernel)⟩
theorem lw_p83 : lw_okq (⟨"DeckHandsModel", "sayRoutine", "()V"⟩, 32) := ⟨⟨by decide +kernel, by decide +kernel⟩, List.mem_of_getElem? (i := 582) (by decide +kernel), List.mem_of_getElem? (i := 957) (by decide +kernel), List.mem_of_getElem? (i := 958) (by decide +kernel)⟩
def lw_privs_6 : List (MethodName × Nat) := [(⟨"DeckHandsModel", "countOf", "(I)I"⟩, 32), (⟨"DeckHandsModel", "crossed", "()I"⟩, 32), (⟨"DeckHandsModel", "say", "(J)V"⟩, 32), (⟨"DeckHandsModel", "sayRoutine", "()V"⟩, 32)]
theorem lw_r6 : ∀ q ∈ lw_privs_6, lw_okq q := List.forall_mem_cons.mpr ⟨lw_p80, List.forall_mem_cons.mpr ⟨lw_p81, List.forall_mem_cons.mpr ⟨lw_p82, List.forall_mem_cons.mpr ⟨lw_p83, fun _ h => absurd h List.not_mem_nil⟩⟩⟩⟩
def lw_privs : List (MethodName × Nat) := lw_privs_1 ++ (lw_privs_2 ++ (lw_privs_3 ++ (lw_privs_4 ++ (lw_privs_5 ++ (lw_privs_6)))))
def lw_tbl : List Cond := k2_sels lw_privs ++ tables_1
theorem lw_privs_ok : ∀ q ∈ lw_privs, lw_okq q := by
  show ∀ q ∈ lw_privs_1 ++ (lw_privs_2 ++ (lw_privs_3 ++ (lw_privs_4 ++ (lw_privs_5 ++ (lw_privs_6))))), lw_okq q
  exact List.forall_mem_append.mpr ⟨lw_r1, List.forall_mem_append.mpr ⟨lw_r2, List.forall_mem_append.mpr ⟨lw_r3, List.forall_mem_append.mpr ⟨lw_r4, List.forall_mem_append.mpr ⟨lw_r5, lw_r6⟩⟩⟩⟩⟩
end
section
def RX0 : String := "DeckHands$Page"
def TX0 : u_T := fun k => match k with
  | 0 => ("DeckHands$Page", "letters", "[I", true)
  | _ => ("DeckHands$Page", "length", "I", false)
def tyX0 : Nat → FieldType := fun k => match k with
  | 0 => .array .int
  | _ => .int
abbrev wsX00 : List Cond := u_ws RX0 TX0 2
theorem nmX0 : ∀ a, a < 2 → ∀ b, b < 2 → a ≠ b → (TX0 a).2.1 ≠ (TX0 b).2.1 := by decide +kernel
theorem tyX0_ok : ∀ k, k < 2 → parseFieldDescriptor (TX0 k).2.2.1 = some (tyX0 k) := by decide +kernel
abbrev cX0_init : ByteArray := prog_2_method_1_code
def yX0_init : MethodName := ⟨RX0, "<init>", "()V"⟩
abbrev cX0_append : ByteArray := prog_2_method_2_code
def yX0_append : MethodName := ⟨RX0, "append", "(I)V"⟩
abbrev cX0_clear : ByteArray := prog_2_method_3_code
def yX0_clear : MethodName := ⟨RX0, "clear", "()I"⟩
abbrev cX0_firstWrong : ByteArray := prog_2_method_4_code
def yX0_firstWrong : MethodName := ⟨RX0, "firstWrong", "()I"⟩
abbrev cX0_isRoutine : ByteArray := prog_2_method_5_code
def yX0_isRoutine : MethodName := ⟨RX0, "isRoutine", "()Z"⟩
abbrev cX0_mayStand : ByteArray := prog_2_method_6_code
def yX0_mayStand : MethodName := ⟨RX0, "mayStand", "(I)Z"⟩
abbrev cX0_mayStandInStep : ByteArray := prog_2_method_7_code
def yX0_mayStandInStep : MethodName := ⟨RX0, "mayStandInStep", "(II)Z"⟩
abbrev cX0_partOfStep : ByteArray := prog_2_method_8_code
def yX0_partOfStep : MethodName := ⟨RX0, "partOfStep", "(I)I"⟩
abbrev cX0_readInto : ByteArray := prog_2_method_9_code
def yX0_readInto : MethodName := ⟨RX0, "readInto", "(LDeckHands$Table;)V"⟩
def RX1 : String := "DeckHands$Table"
def TX1 : u_T := fun k => match k with
  | 0 => ("DeckHands$Table", "cards", "I", false)
  | 1 => ("DeckHands$Table", "steps", "I", false)
  | 2 => ("DeckHands$Table", "done", "I", false)
  | 3 => ("DeckHands$Table", "seen", "I", false)
  | 4 => ("DeckHands$Table", "kinds", "[I", true)
  | 5 => ("DeckHands$Table", "numbers", "[I", true)
  | 6 => ("DeckHands$Table", "moves", "[I", true)
  | 7 => ("DeckHands$Table", "pack", "[I", true)
  | 8 => ("DeckHands$Table", "seenSteps", "[I", true)
  | 9 => ("DeckHands$Table", "seenFrom", "[I", true)
  | _ => ("DeckHands$Table", "seenTo", "[I", true)
def tyX1 : Nat → FieldType := fun k => match k with
  | 0 => .int
  | 1 => .int
  | 2 => .int
  | 3 => .int
  | 4 => .array .int
  | 5 => .array .int
  | 6 => .array .int
  | 7 => .array .int
  | 8 => .array .int
  | 9 => .array .int
  | _ => .array .int
abbrev wsX10 : List Cond := u_ws RX1 TX1 11
theorem nmX1 : ∀ a, a < 11 → ∀ b, b < 11 → a ≠ b → (TX1 a).2.1 ≠ (TX1 b).2.1 := by decide +kernel
theorem tyX1_ok : ∀ k, k < 11 → parseFieldDescriptor (TX1 k).2.2.1 = some (tyX1 k) := by decide +kernel
abbrev cX1_init : ByteArray := prog_3_method_1_code
def yX1_init : MethodName := ⟨RX1, "<init>", "()V"⟩
abbrev cX1_begin : ByteArray := prog_3_method_2_code
def yX1_begin : MethodName := ⟨RX1, "begin", "(II)V"⟩
abbrev cX1_copy : ByteArray := prog_3_method_3_code
def yX1_copy : MethodName := ⟨RX1, "copy", "(LDeckHands$Table;)V"⟩
abbrev cX1_hasRoutine : ByteArray := prog_3_method_4_code
def yX1_hasRoutine : MethodName := ⟨RX1, "hasRoutine", "()Z"⟩
abbrev cX1_hasStep : ByteArray := prog_3_method_5_code
def yX1_hasStep : MethodName := ⟨RX1, "hasStep", "(I)Z"⟩
abbrev cX1_hasPlace : ByteArray := prog_3_method_6_code
def yX1_hasPlace : MethodName := ⟨RX1, "hasPlace", "(I)Z"⟩
abbrev cX1_hasCard : ByteArray := prog_3_method_7_code
def yX1_hasCard : MethodName := ⟨RX1, "hasCard", "(I)Z"⟩
abbrev cX1_setStep : ByteArray := prog_3_method_8_code
def yX1_setStep : MethodName := ⟨RX1, "setStep", "(III)V"⟩
abbrev cX1_placeBehind : ByteArray := prog_3_method_9_code
def yX1_placeBehind : MethodName := ⟨RX1, "placeBehind", "(II)I"⟩
abbrev cX1_layInOrder : ByteArray := prog_3_method_10_code
def yX1_layInOrder : MethodName := ⟨RX1, "layInOrder", "()V"⟩
abbrev cX1_placeOf : ByteArray := prog_3_method_11_code
def yX1_placeOf : MethodName := ⟨RX1, "placeOf", "(I)I"⟩
abbrev cX1_asAtFirst : ByteArray := prog_3_method_12_code
def yX1_asAtFirst : MethodName := ⟨RX1, "asAtFirst", "()I"⟩
abbrev cX1_asAtFirstBehind : ByteArray := prog_3_method_13_code
def yX1_asAtFirstBehind : MethodName := ⟨RX1, "asAtFirstBehind", "(LDeckHands$Way;)I"⟩
abbrev cX1_topBehind : ByteArray := prog_3_method_14_code
def yX1_topBehind : MethodName := ⟨RX1, "topBehind", "(LDeckHands$Way;)I"⟩
abbrev cX1_wrongTwos : ByteArray := prog_3_method_15_code
def yX1_wrongTwos : MethodName := ⟨RX1, "wrongTwos", "()I"⟩
abbrev cX1_addSeen : ByteArray := prog_3_method_16_code
def yX1_addSeen : MethodName := ⟨RX1, "addSeen", "(III)V"⟩
abbrev cX1_possibleNumbers : ByteArray := prog_3_method_17_code
def yX1_possibleNumbers : MethodName := ⟨RX1, "possibleNumbers", "(I)I"⟩
abbrev cX1_agreesWithSeen : ByteArray := prog_3_method_18_code
def yX1_agreesWithSeen : MethodName := ⟨RX1, "agreesWithSeen", "(II)Z"⟩
def RX2 : String := "DeckHands$Way"
def TX2 : u_T := fun k => match k with
  | 0 => ("DeckHands$Way", "places", "I", false)
  | _ => ("DeckHands$Way", "to", "[I", true)
def tyX2 : Nat → FieldType := fun k => match k with
  | 0 => .int
  | _ => .array .int
abbrev wsX20 : List Cond := u_ws RX2 TX2 2
theorem nmX2 : ∀ a, a < 2 → ∀ b, b < 2 → a ≠ b → (TX2 a).2.1 ≠ (TX2 b).2.1 := by decide +kernel
theorem tyX2_ok : ∀ k, k < 2 → parseFieldDescriptor (TX2 k).2.2.1 = some (tyX2 k) := by decide +kernel
abbrev cX2_init : ByteArray := prog_4_method_1_code
def yX2_init : MethodName := ⟨RX2, "<init>", "()V"⟩
abbrev cX2_begin : ByteArray := prog_4_method_2_code
def yX2_begin : MethodName := ⟨RX2, "begin", "(I)V"⟩
abbrev cX2_add : ByteArray := prog_4_method_3_code
def yX2_add : MethodName := ⟨RX2, "add", "(LDeckHands$Table;I)V"⟩
abbrev cX2_stayCount : ByteArray := prog_4_method_4_code
def yX2_stayCount : MethodName := ⟨RX2, "stayCount", "()I"⟩
abbrev cX2_ringLength : ByteArray := prog_4_method_5_code
def yX2_ringLength : MethodName := ⟨RX2, "ringLength", "(I)I"⟩
abbrev cX2_placeAfter : ByteArray := prog_4_method_6_code
def yX2_placeAfter : MethodName := ⟨RX2, "placeAfter", "(II)I"⟩
abbrev cX2_order : ByteArray := prog_4_method_7_code
def yX2_order : MethodName := ⟨RX2, "order", "()I"⟩
abbrev cX2_ringCount : ByteArray := prog_4_method_8_code
def yX2_ringCount : MethodName := ⟨RX2, "ringCount", "()I"⟩
abbrev cX2_isLeastOfRing : ByteArray := prog_4_method_9_code
def yX2_isLeastOfRing : MethodName := ⟨RX2, "isLeastOfRing", "(I)Z"⟩
abbrev cX2_longestRing : ByteArray := prog_4_method_10_code
def yX2_longestRing : MethodName := ⟨RX2, "longestRing", "()I"⟩
def RX3 : String := "DeckHands"
def TX3 : u_T := fun k => match k with
  | 0 => ("DeckHands", "page", "LDeckHands$Page;", true)
  | 1 => ("DeckHands", "now", "LDeckHands$Table;", true)
  | 2 => ("DeckHands", "kept", "LDeckHands$Table;", true)
  | 3 => ("DeckHands", "isKept", "Z", false)
  | 4 => ("DeckHands", "routinesRead", "I", false)
  | 5 => ("DeckHands", "homeCalls", "I", false)
  | 6 => ("DeckHands", "way", "LDeckHands$Way;", true)
  | 7 => ("DeckHands", "tally", "[I", true)
  | 8 => ("DeckHands", "spare", "[I", true)
  | _ => ("DeckHands", "path", "[I", true)
def tyX3 : Nat → FieldType := fun k => match k with
  | 0 => .object "DeckHands$Page"
  | 1 => .object "DeckHands$Table"
  | 2 => .object "DeckHands$Table"
  | 3 => .boolean
  | 4 => .int
  | 5 => .int
  | 6 => .object "DeckHands$Way"
  | 7 => .array .int
  | 8 => .array .int
  | _ => .array .int
abbrev wsX30 : List Cond := u_ws RX3 TX3 10
theorem nmX3 : ∀ a, a < 10 → ∀ b, b < 10 → a ≠ b → (TX3 a).2.1 ≠ (TX3 b).2.1 := by decide +kernel
theorem tyX3_ok : ∀ k, k < 10 → parseFieldDescriptor (TX3 k).2.2.1 = some (tyX3 k) := by decide +kernel
abbrev cX3_init : ByteArray := prog_1_method_1_code
def yX3_init : MethodName := ⟨RX3, "<init>", "()V"⟩
abbrev cX3_letter : ByteArray := prog_1_method_2_code
def yX3_letter : MethodName := ⟨RX3, "letter", "(I)I"⟩
abbrev cX3_blank : ByteArray := prog_1_method_3_code
def yX3_blank : MethodName := ⟨RX3, "blank", "()I"⟩
abbrev cX3_fault : ByteArray := prog_1_method_4_code
def yX3_fault : MethodName := ⟨RX3, "fault", "()I"⟩
abbrev cX3_routine : ByteArray := prog_1_method_5_code
def yX3_routine : MethodName := ⟨RX3, "routine", "()I"⟩
abbrev cX3_step : ByteArray := prog_1_method_6_code
def yX3_step : MethodName := ⟨RX3, "step", "(II)I"⟩
abbrev cX3_as : ByteArray := prog_1_method_7_code
def yX3_as : MethodName := ⟨RX3, "as", "(II)I"⟩
abbrev cX3_at : ByteArray := prog_1_method_8_code
def yX3_at : MethodName := ⟨RX3, "at", "(I)I"⟩
abbrev cX3_goes : ByteArray := prog_1_method_9_code
def yX3_goes : MethodName := ⟨RX3, "goes", "(II)I"⟩
abbrev cX3_act : ByteArray := prog_1_method_10_code
def yX3_act : MethodName := ⟨RX3, "act", "(I)I"⟩
abbrev cX3_whole : ByteArray := prog_1_method_11_code
def yX3_whole : MethodName := ⟨RX3, "whole", "()I"⟩
abbrev cX3_exchange : ByteArray := prog_1_method_12_code
def yX3_exchange : MethodName := ⟨RX3, "exchange", "(II)I"⟩
abbrev cX3_sort : ByteArray := prog_1_method_13_code
def yX3_sort : MethodName := ⟨RX3, "sort", "()I"⟩
abbrev cX3_change : ByteArray := prog_1_method_14_code
def yX3_change : MethodName := ⟨RX3, "change", "(III)I"⟩
abbrev cX3_round : ByteArray := prog_1_method_15_code
def yX3_round : MethodName := ⟨RX3, "round", "(I)I"⟩
abbrev cX3_after : ByteArray := prog_1_method_16_code
def yX3_after : MethodName := ⟨RX3, "after", "(II)I"⟩
abbrev cX3_rings : ByteArray := prog_1_method_17_code
def yX3_rings : MethodName := ⟨RX3, "rings", "(I)I"⟩
abbrev cX3_bring : ByteArray := prog_1_method_18_code
def yX3_bring : MethodName := ⟨RX3, "bring", "(III)I"⟩
abbrev cX3_home : ByteArray := prog_1_method_19_code
def yX3_home : MethodName := ⟨RX3, "home", "(I)I"⟩
abbrev cX3_odds : ByteArray := prog_1_method_20_code
def yX3_odds : MethodName := ⟨RX3, "odds", "(IIII)I"⟩
abbrev cX3_see : ByteArray := prog_1_method_21_code
def yX3_see : MethodName := ⟨RX3, "see", "(III)I"⟩
abbrev cX3_forget : ByteArray := prog_1_method_22_code
def yX3_forget : MethodName := ⟨RX3, "forget", "()I"⟩
abbrev cX3_runs : ByteArray := prog_1_method_23_code
def yX3_runs : MethodName := ⟨RX3, "runs", "(III)I"⟩
abbrev cX3_image : ByteArray := prog_1_method_24_code
def yX3_image : MethodName := ⟨RX3, "image", "()I"⟩
abbrev cX3_restore : ByteArray := prog_1_method_25_code
def yX3_restore : MethodName := ⟨RX3, "restore", "()I"⟩
abbrev cX3_count : ByteArray := prog_1_method_26_code
def yX3_count : MethodName := ⟨RX3, "count", "(I)I"⟩
abbrev cX3_digest : ByteArray := prog_1_method_27_code
def yX3_digest : MethodName := ⟨RX3, "digest", "()J"⟩
abbrev cX3_digestOfSteps : ByteArray := prog_1_method_28_code
def yX3_digestOfSteps : MethodName := ⟨RX3, "digestOfSteps", "(J)J"⟩
abbrev cX3_digestOfPlaces : ByteArray := prog_1_method_29_code
def yX3_digestOfPlaces : MethodName := ⟨RX3, "digestOfPlaces", "(J)J"⟩
abbrev cX3_digestOfRoutine : ByteArray := prog_1_method_30_code
def yX3_digestOfRoutine : MethodName := ⟨RX3, "digestOfRoutine", "(J)J"⟩
abbrev cX3_joined : ByteArray := prog_1_method_31_code
def yX3_joined : MethodName := ⟨RX3, "joined", "(JJ)J"⟩
abbrev cX3_wayOfStep : ByteArray := prog_1_method_32_code
def yX3_wayOfStep : MethodName := ⟨RX3, "wayOfStep", "(I)LDeckHands$Way;"⟩
abbrev cX3_wayOfRoutine : ByteArray := prog_1_method_33_code
def yX3_wayOfRoutine : MethodName := ⟨RX3, "wayOfRoutine", "()LDeckHands$Way;"⟩
abbrev cX3_carryOut : ByteArray := prog_1_method_34_code
def yX3_carryOut : MethodName := ⟨RX3, "carryOut", "(LDeckHands$Way;I)I"⟩
abbrev cX3_placeToWatch : ByteArray := prog_1_method_35_code
def yX3_placeToWatch : MethodName := ⟨RX3, "placeToWatch", "(II)I"⟩
abbrev cX3_leftAtWorst : ByteArray := prog_1_method_36_code
def yX3_leftAtWorst : MethodName := ⟨RX3, "leftAtWorst", "(III)I"⟩
abbrev cX3_tellDistancesTo : ByteArray := prog_1_method_37_code
def yX3_tellDistancesTo : MethodName := ⟨RX3, "tellDistancesTo", "(I)V"⟩
abbrev cX3_stepTo : ByteArray := prog_1_method_38_code
def yX3_stepTo : MethodName := ⟨RX3, "stepTo", "(II)I"⟩
abbrev cX3_firstStepNearer : ByteArray := prog_1_method_39_code
def yX3_firstStepNearer : MethodName := ⟨RX3, "firstStepNearer", "(I)I"⟩
abbrev cX3_findPathHome : ByteArray := prog_1_method_40_code
def yX3_findPathHome : MethodName := ⟨RX3, "findPathHome", "(I)Z"⟩
abbrev cX3_nextPath : ByteArray := prog_1_method_41_code
def yX3_nextPath : MethodName := ⟨RX3, "nextPath", "(I)V"⟩
abbrev cX3_pathLeadsHome : ByteArray := prog_1_method_42_code
def yX3_pathLeadsHome : MethodName := ⟨RX3, "pathLeadsHome", "(I)Z"⟩
abbrev cX3_pathInDigits : ByteArray := prog_1_method_43_code
def yX3_pathInDigits : MethodName := ⟨RX3, "pathInDigits", "(I)I"⟩
abbrev cX3_tellDrawsFrom : ByteArray := prog_1_method_44_code
def yX3_tellDrawsFrom : MethodName := ⟨RX3, "tellDrawsFrom", "(II)V"⟩
abbrev cX3_drawSteps : ByteArray := prog_1_method_45_code
def yX3_drawSteps : MethodName := ⟨RX3, "drawSteps", "(II)I"⟩
abbrev cX3_isOfKind : ByteArray := prog_1_method_46_code
def yX3_isOfKind : MethodName := ⟨RX3, "isOfKind", "(II)Z"⟩
abbrev cX3_greatestDivisor : ByteArray := prog_1_method_47_code
def yX3_greatestDivisor : MethodName := ⟨RX3, "greatestDivisor", "(II)I"⟩
abbrev cX3_moved : ByteArray := prog_1_method_48_code
def yX3_moved : MethodName := ⟨RX3, "moved", "(IIII)I"⟩
abbrev cX3_movedByStep : ByteArray := prog_1_method_49_code
def yX3_movedByStep : MethodName := ⟨RX3, "movedByStep", "(II)I"⟩
abbrev cX3_movedByCut : ByteArray := prog_1_method_50_code
def yX3_movedByCut : MethodName := ⟨RX3, "movedByCut", "(III)I"⟩
abbrev cX3_movedByTurn : ByteArray := prog_1_method_51_code
def yX3_movedByTurn : MethodName := ⟨RX3, "movedByTurn", "(II)I"⟩
abbrev cX3_movedByDeal : ByteArray := prog_1_method_52_code
def yX3_movedByDeal : MethodName := ⟨RX3, "movedByDeal", "(IIIZ)I"⟩
def RX4 : String := "DeckHandsModel"
def TX4 : u_T := fun k => match k with
  | 0 => ("DeckHandsModel", "page", "[I", true)
  | 1 => ("DeckHandsModel", "pageMany", "I", false)
  | 2 => ("DeckHandsModel", "cards", "I", false)
  | 3 => ("DeckHandsModel", "steps", "I", false)
  | 4 => ("DeckHandsModel", "done", "I", false)
  | 5 => ("DeckHandsModel", "routinesRead", "I", false)
  | 6 => ("DeckHandsModel", "kinds", "[I", true)
  | 7 => ("DeckHandsModel", "numbers", "[I", true)
  | 8 => ("DeckHandsModel", "pack", "[I", true)
  | 9 => ("DeckHandsModel", "row", "[I", true)
  | 10 => ("DeckHandsModel", "ringMany", "I", false)
  | 11 => ("DeckHandsModel", "longest", "I", false)
  | 12 => ("DeckHandsModel", "stay", "I", false)
  | 13 => ("DeckHandsModel", "orderOf", "I", false)
  | 14 => ("DeckHandsModel", "packThen", "[I", true)
  | 15 => ("DeckHandsModel", "packBefore", "[I", true)
  | 16 => ("DeckHandsModel", "far", "[I", true)
  | 17 => ("DeckHandsModel", "homesDone", "I", false)
  | 18 => ("DeckHandsModel", "digits", "I", false)
  | 19 => ("DeckHandsModel", "ways", "[I", true)
  | 20 => ("DeckHandsModel", "waysThen", "[I", true)
  | 21 => ("DeckHandsModel", "seenMany", "I", false)
  | 22 => ("DeckHandsModel", "sights", "[I", true)
  | 23 => ("DeckHandsModel", "seedNow", "I", false)
  | 24 => ("DeckHandsModel", "keptRoutine", "I", false)
  | 25 => ("DeckHandsModel", "keptDone", "I", false)
  | 26 => ("DeckHandsModel", "keptSeen", "I", false)
  | 27 => ("DeckHandsModel", "keptKinds", "[I", true)
  | 28 => ("DeckHandsModel", "keptNumbers", "[I", true)
  | 29 => ("DeckHandsModel", "keptPack", "[I", true)
  | 30 => ("DeckHandsModel", "keptSights", "[I", true)
  | _ => ("DeckHandsModel", "hash", "J", false)
def tyX4 : Nat → FieldType := fun k => match k with
  | 0 => .array .int
  | 1 => .int
  | 2 => .int
  | 3 => .int
  | 4 => .int
  | 5 => .int
  | 6 => .array .int
  | 7 => .array .int
  | 8 => .array .int
  | 9 => .array .int
  | 10 => .int
  | 11 => .int
  | 12 => .int
  | 13 => .int
  | 14 => .array .int
  | 15 => .array .int
  | 16 => .array .int
  | 17 => .int
  | 18 => .int
  | 19 => .array .int
  | 20 => .array .int
  | 21 => .int
  | 22 => .array .int
  | 23 => .int
  | 24 => .int
  | 25 => .int
  | 26 => .int
  | 27 => .array .int
  | 28 => .array .int
  | 29 => .array .int
  | 30 => .array .int
  | _ => .long
abbrev wsX40 : List Cond := u_ws RX4 TX4 32
theorem nmX4 : ∀ a, a < 32 → ∀ b, b < 32 → a ≠ b → (TX4 a).2.1 ≠ (TX4 b).2.1 := by decide +kernel
theorem tyX4_ok : ∀ k, k < 32 → parseFieldDescriptor (TX4 k).2.2.1 = some (tyX4 k) := by decide +kernel
abbrev cX4_init : ByteArray := prog_6_method_1_code
def yX4_init : MethodName := ⟨RX4, "<init>", "()V"⟩
abbrev cX4_in : ByteArray := prog_6_method_2_code
def yX4_in : MethodName := ⟨RX4, "in", "(JJJ)Z"⟩
abbrev cX4_copy : ByteArray := prog_6_method_3_code
def yX4_copy : MethodName := ⟨RX4, "copy", "([I[I)V"⟩
abbrev cX4_common : ByteArray := prog_6_method_4_code
def yX4_common : MethodName := ⟨RX4, "common", "(II)I"⟩
abbrev cX4_letter : ByteArray := prog_6_method_5_code
def yX4_letter : MethodName := ⟨RX4, "letter", "(I)I"⟩
abbrev cX4_blank : ByteArray := prog_6_method_6_code
def yX4_blank : MethodName := ⟨RX4, "blank", "()I"⟩
abbrev cX4_kindBy : ByteArray := prog_6_method_7_code
def yX4_kindBy : MethodName := ⟨RX4, "kindBy", "(I)I"⟩
abbrev cX4_isGood : ByteArray := prog_6_method_8_code
def yX4_isGood : MethodName := ⟨RX4, "isGood", "(I)Z"⟩
abbrev cX4_faultOf : ByteArray := prog_6_method_9_code
def yX4_faultOf : MethodName := ⟨RX4, "faultOf", "()I"⟩
abbrev cX4_fault : ByteArray := prog_6_method_10_code
def yX4_fault : MethodName := ⟨RX4, "fault", "()I"⟩
abbrev cX4_routine : ByteArray := prog_6_method_11_code
def yX4_routine : MethodName := ⟨RX4, "routine", "()I"⟩
abbrev cX4_layFirst : ByteArray := prog_6_method_12_code
def yX4_layFirst : MethodName := ⟨RX4, "layFirst", "()V"⟩
abbrev cX4_lacks : ByteArray := prog_6_method_13_code
def yX4_lacks : MethodName := ⟨RX4, "lacks", "()Z"⟩
abbrev cX4_isStep : ByteArray := prog_6_method_14_code
def yX4_isStep : MethodName := ⟨RX4, "isStep", "(I)Z"⟩
abbrev cX4_isPlace : ByteArray := prog_6_method_15_code
def yX4_isPlace : MethodName := ⟨RX4, "isPlace", "(I)Z"⟩
abbrev cX4_byStep : ByteArray := prog_6_method_16_code
def yX4_byStep : MethodName := ⟨RX4, "byStep", "(II)I"⟩
abbrev cX4_pileOf : ByteArray := prog_6_method_17_code
def yX4_pileOf : MethodName := ⟨RX4, "pileOf", "(II)I"⟩
abbrev cX4_byDeal : ByteArray := prog_6_method_18_code
def yX4_byDeal : MethodName := ⟨RX4, "byDeal", "(IIZ)I"⟩
abbrev cX4_byTurn : ByteArray := prog_6_method_19_code
def yX4_byTurn : MethodName := ⟨RX4, "byTurn", "(II)I"⟩
abbrev cX4_goesBy : ByteArray := prog_6_method_20_code
def yX4_goesBy : MethodName := ⟨RX4, "goesBy", "(III)I"⟩
abbrev cX4_goesOf : ByteArray := prog_6_method_21_code
def yX4_goesOf : MethodName := ⟨RX4, "goesOf", "(II)I"⟩
abbrev cX4_goes : ByteArray := prog_6_method_22_code
def yX4_goes : MethodName := ⟨RX4, "goes", "(II)I"⟩
abbrev cX4_roundOf : ByteArray := prog_6_method_23_code
def yX4_roundOf : MethodName := ⟨RX4, "roundOf", "(I)I"⟩
abbrev cX4_round : ByteArray := prog_6_method_24_code
def yX4_round : MethodName := ⟨RX4, "round", "(I)I"⟩
abbrev cX4_ringOf : ByteArray := prog_6_method_25_code
def yX4_ringOf : MethodName := ⟨RX4, "ringOf", "(I)I"⟩
abbrev cX4_layRings : ByteArray := prog_6_method_26_code
def yX4_layRings : MethodName := ⟨RX4, "layRings", "()V"⟩
abbrev cX4_layRound : ByteArray := prog_6_method_27_code
def yX4_layRound : MethodName := ⟨RX4, "layRound", "()V"⟩
abbrev cX4_ringsOf : ByteArray := prog_6_method_28_code
def yX4_ringsOf : MethodName := ⟨RX4, "ringsOf", "(I)I"⟩
abbrev cX4_rings : ByteArray := prog_6_method_29_code
def yX4_rings : MethodName := ⟨RX4, "rings", "(I)I"⟩
abbrev cX4_afterOf : ByteArray := prog_6_method_30_code
def yX4_afterOf : MethodName := ⟨RX4, "afterOf", "(II)I"⟩
abbrev cX4_after : ByteArray := prog_6_method_31_code
def yX4_after : MethodName := ⟨RX4, "after", "(II)I"⟩
abbrev cX4_ofStep : ByteArray := prog_6_method_32_code
def yX4_ofStep : MethodName := ⟨RX4, "ofStep", "(II)I"⟩
abbrev cX4_tellStep : ByteArray := prog_6_method_33_code
def yX4_tellStep : MethodName := ⟨RX4, "tellStep", "(II)I"⟩
abbrev cX4_step : ByteArray := prog_6_method_34_code
def yX4_step : MethodName := ⟨RX4, "step", "(II)I"⟩
abbrev cX4_as : ByteArray := prog_6_method_35_code
def yX4_as : MethodName := ⟨RX4, "as", "(II)I"⟩
abbrev cX4_at : ByteArray := prog_6_method_36_code
def yX4_at : MethodName := ⟨RX4, "at", "(I)I"⟩
abbrev cX4_doThen : ByteArray := prog_6_method_37_code
def yX4_doThen : MethodName := ⟨RX4, "doThen", "(I)V"⟩
abbrev cX4_act : ByteArray := prog_6_method_38_code
def yX4_act : MethodName := ⟨RX4, "act", "(I)I"⟩
abbrev cX4_whole : ByteArray := prog_6_method_39_code
def yX4_whole : MethodName := ⟨RX4, "whole", "()I"⟩
abbrev cX4_exchange : ByteArray := prog_6_method_40_code
def yX4_exchange : MethodName := ⟨RX4, "exchange", "(II)I"⟩
abbrev cX4_homely : ByteArray := prog_6_method_41_code
def yX4_homely : MethodName := ⟨RX4, "homely", "([I)I"⟩
abbrev cX4_sort : ByteArray := prog_6_method_42_code
def yX4_sort : MethodName := ⟨RX4, "sort", "()I"⟩
abbrev cX4_change : ByteArray := prog_6_method_43_code
def yX4_change : MethodName := ⟨RX4, "change", "(III)I"⟩
abbrev cX4_placeOf : ByteArray := prog_6_method_44_code
def yX4_placeOf : MethodName := ⟨RX4, "placeOf", "(I)I"⟩
abbrev cX4_layFar : ByteArray := prog_6_method_45_code
def yX4_layFar : MethodName := ⟨RX4, "layFar", "(I)V"⟩
abbrev cX4_bringOf : ByteArray := prog_6_method_46_code
def yX4_bringOf : MethodName := ⟨RX4, "bringOf", "(III)I"⟩
abbrev cX4_bring : ByteArray := prog_6_method_47_code
def yX4_bring : MethodName := ⟨RX4, "bring", "(III)I"⟩
abbrev cX4_power : ByteArray := prog_6_method_48_code
def yX4_power : MethodName := ⟨RX4, "power", "(II)I"⟩
abbrev cX4_isHomeBy : ByteArray := prog_6_method_49_code
def yX4_isHomeBy : MethodName := ⟨RX4, "isHomeBy", "(II)Z"⟩
abbrev cX4_homeOf : ByteArray := prog_6_method_50_code
def yX4_homeOf : MethodName := ⟨RX4, "homeOf", "(I)I"⟩
abbrev cX4_home : ByteArray := prog_6_method_51_code
def yX4_home : MethodName := ⟨RX4, "home", "(I)I"⟩
abbrev cX4_oddsOf : ByteArray := prog_6_method_52_code
def yX4_oddsOf : MethodName := ⟨RX4, "oddsOf", "(IIII)I"⟩
abbrev cX4_odds : ByteArray := prog_6_method_53_code
def yX4_odds : MethodName := ⟨RX4, "odds", "(IIII)I"⟩
abbrev cX4_see : ByteArray := prog_6_method_54_code
def yX4_see : MethodName := ⟨RX4, "see", "(III)I"⟩
abbrev cX4_forget : ByteArray := prog_6_method_55_code
def yX4_forget : MethodName := ⟨RX4, "forget", "()I"⟩
abbrev cX4_numbersOf : ByteArray := prog_6_method_56_code
def yX4_numbersOf : MethodName := ⟨RX4, "numbersOf", "(I)I"⟩
abbrev cX4_watchOf : ByteArray := prog_6_method_57_code
def yX4_watchOf : MethodName := ⟨RX4, "watchOf", "(I)I"⟩
abbrev cX4_draw : ByteArray := prog_6_method_58_code
def yX4_draw : MethodName := ⟨RX4, "draw", "(I)I"⟩
abbrev cX4_runs : ByteArray := prog_6_method_59_code
def yX4_runs : MethodName := ⟨RX4, "runs", "(III)I"⟩
abbrev cX4_image : ByteArray := prog_6_method_60_code
def yX4_image : MethodName := ⟨RX4, "image", "()I"⟩
abbrev cX4_restore : ByteArray := prog_6_method_61_code
def yX4_restore : MethodName := ⟨RX4, "restore", "()I"⟩
abbrev cX4_crossed : ByteArray := prog_6_method_62_code
def yX4_crossed : MethodName := ⟨RX4, "crossed", "()I"⟩
abbrev cX4_countOf : ByteArray := prog_6_method_63_code
def yX4_countOf : MethodName := ⟨RX4, "countOf", "(I)I"⟩
abbrev cX4_count : ByteArray := prog_6_method_64_code
def yX4_count : MethodName := ⟨RX4, "count", "(I)I"⟩
abbrev cX4_say : ByteArray := prog_6_method_65_code
def yX4_say : MethodName := ⟨RX4, "say", "(J)V"⟩
abbrev cX4_sayRoutine : ByteArray := prog_6_method_66_code
def yX4_sayRoutine : MethodName := ⟨RX4, "sayRoutine", "()V"⟩
abbrev cX4_digest : ByteArray := prog_6_method_67_code
def yX4_digest : MethodName := ⟨RX4, "digest", "()J"⟩
def RJx145de : String := "java/io/Serializable"
def TJx145de : u_T := fun k => match k with
  | _ => ("", "", "", false)
def tyJx145de : Nat → FieldType := fun k => match k with
  | _ => .int
abbrev wsJx145de0 : List Cond := u_ws RJx145de TJx145de 0
theorem nmJx145de : ∀ a, a < 0 → ∀ b, b < 0 → a ≠ b → (TJx145de a).2.1 ≠ (TJx145de b).2.1 := by decide +kernel
theorem tyJx145de_ok : ∀ k, k < 0 → parseFieldDescriptor (TJx145de k).2.2.1 = some (tyJx145de k) := by decide +kernel
def RJx9f9b0 : String := "java/lang/CharSequence"
def TJx9f9b0 : u_T := fun k => match k with
  | _ => ("", "", "", false)
def tyJx9f9b0 : Nat → FieldType := fun k => match k with
  | _ => .int
abbrev wsJx9f9b00 : List Cond := u_ws RJx9f9b0 TJx9f9b0 0
theorem nmJx9f9b0 : ∀ a, a < 0 → ∀ b, b < 0 → a ≠ b → (TJx9f9b0 a).2.1 ≠ (TJx9f9b0 b).2.1 := by decide +kernel
theorem tyJx9f9b0_ok : ∀ k, k < 0 → parseFieldDescriptor (TJx9f9b0 k).2.2.1 = some (tyJx9f9b0 k) := by decide +kernel
def RJ11 : String := "java/lang/Character"
def TJ11 : u_T := fun k => match k with
  | _ => ("", "", "", false)
def tyJ11 : Nat → FieldType := fun k => match k with
  | _ => .int
abbrev wsJ110 : List Cond := u_ws RJ11 TJ11 0
theorem nmJ11 : ∀ a, a < 0 → ∀ b, b < 0 → a ≠ b → (TJ11 a).2.1 ≠ (TJ11 b).2.1 := by decide +kernel
theorem tyJ11_ok : ∀ k, k < 0 → parseFieldDescriptor (TJ11 k).2.2.1 = some (tyJ11 k) := by decide +kernel
abbrev cJ11_isValidCodePoint_9a6ad : ByteArray := prog_7_method_11_code
def yJ11_isValidCodePoint_9a6ad : MethodName := ⟨RJ11, "isValidCodePoint", "(I)Z"⟩
abbrev cJ11_highSurrogate_5068e : ByteArray := prog_7_method_28_code
def yJ11_highSurrogate_5068e : MethodName := ⟨RJ11, "highSurrogate", "(I)C"⟩
abbrev cJ11_lowSurrogate_5068e : ByteArray := prog_7_method_29_code
def yJ11_lowSurrogate_5068e : MethodName := ⟨RJ11, "lowSurrogate", "(I)C"⟩
def RJxb160c : String := "java/lang/Comparable"
def TJxb160c : u_T := fun k => match k with
  | _ => ("", "", "", false)
def tyJxb160c : Nat → FieldType := fun k => match k with
  | _ => .int
abbrev wsJxb160c0 : List Cond := u_ws RJxb160c TJxb160c 0
theorem nmJxb160c : ∀ a, a < 0 → ∀ b, b < 0 → a ≠ b → (TJxb160c a).2.1 ≠ (TJxb160c b).2.1 := by decide +kernel
theorem tyJxb160c_ok : ∀ k, k < 0 → parseFieldDescriptor (TJxb160c k).2.2.1 = some (tyJxb160c k) := by decide +kernel
def RJ9 : String := "java/lang/Math"
def TJ9 : u_T := fun k => match k with
  | _ => ("", "", "", false)
def tyJ9 : Nat → FieldType := fun k => match k with
  | _ => .int
abbrev wsJ90 : List Cond := u_ws RJ9 TJ9 0
theorem nmJ9 : ∀ a, a < 0 → ∀ b, b < 0 → a ≠ b → (TJ9 a).2.1 ≠ (TJ9 b).2.1 := by decide +kernel
theorem tyJ9_ok : ∀ k, k < 0 → parseFieldDescriptor (TJ9 k).2.2.1 = some (tyJ9 k) := by decide +kernel
abbrev cJ9_max_7cf53 : ByteArray := prog_8_method_65_code
def yJ9_max_7cf53 : MethodName := ⟨RJ9, "max", "(II)I"⟩
abbrev cJ9_min_7cf53 : ByteArray := prog_8_method_69_code
def yJ9_min_7cf53 : MethodName := ⟨RJ9, "min", "(II)I"⟩
def RJ0 : String := "java/lang/String"
def TJ0 : u_T := fun k => match k with
  | _ => ("", "", "", false)
def tyJ0 : Nat → FieldType := fun k => match k with
  | _ => .int
abbrev wsJ00 : List Cond := u_ws RJ0 TJ0 0
theorem nmJ0 : ∀ a, a < 0 → ∀ b, b < 0 → a ≠ b → (TJ0 a).2.1 ≠ (TJ0 b).2.1 := by decide +kernel
theorem tyJ0_ok : ∀ k, k < 0 → parseFieldDescriptor (TJ0 k).2.2.1 = some (tyJ0 k) := by decide +kernel
abbrev cJ0_length_8abf5 : ByteArray := prog_9_method_54_code
def yJ0_length_8abf5 : MethodName := ⟨RJ0, "length", "()I"⟩
abbrev cJ0_indexOf_0f7a4 : ByteArray := prog_9_method_79_code
def yJ0_indexOf_0f7a4 : MethodName := ⟨RJ0, "indexOf", "(I)I"⟩
abbrev cJ0_indexOf_7cf53 : ByteArray := prog_9_method_80_code
def yJ0_indexOf_7cf53 : MethodName := ⟨RJ0, "indexOf", "(II)I"⟩
abbrev cJ0_coder_7d493 : ByteArray := prog_9_method_152_code
def yJ0_coder_7d493 : MethodName := ⟨RJ0, "coder", "()B"⟩
abbrev cJ0_isLatin1_aae02 : ByteArray := prog_9_method_154_code
def yJ0_isLatin1_aae02 : MethodName := ⟨RJ0, "isLatin1", "()Z"⟩
abbrev cJ0_checkBoundsBeginEnd_23922 : ByteArray := prog_9_method_158_code
def yJ0_checkBoundsBeginEnd_23922 : MethodName := ⟨RJ0, "checkBoundsBeginEnd", "(III)V"⟩
def RJ1 : String := "java/lang/StringLatin1"
def TJ1 : u_T := fun k => match k with
  | _ => ("", "", "", false)
def tyJ1 : Nat → FieldType := fun k => match k with
  | _ => .int
abbrev wsJ10 : List Cond := u_ws RJ1 TJ1 0
theorem nmJ1 : ∀ a, a < 0 → ∀ b, b < 0 → a ≠ b → (TJ1 a).2.1 ≠ (TJ1 b).2.1 := by decide +kernel
theorem tyJ1_ok : ∀ k, k < 0 → parseFieldDescriptor (TJ1 k).2.2.1 = some (tyJ1 k) := by decide +kernel
abbrev cJ1_canEncode_9a6ad : ByteArray := prog_10_method_4_code
def yJ1_canEncode_9a6ad : MethodName := ⟨RJ1, "canEncode", "(I)Z"⟩
abbrev cJ1_indexOf_4cfef : ByteArray := prog_10_method_22_code
def yJ1_indexOf_4cfef : MethodName := ⟨RJ1, "indexOf", "([BIII)I"⟩
abbrev cJ1_indexOfChar_4cfef : ByteArray := prog_10_method_23_code
def yJ1_indexOfChar_4cfef : MethodName := ⟨RJ1, "indexOfChar", "([BIII)I"⟩
def RJ2 : String := "java/lang/StringUTF16"
def TJ2 : u_T := fun k => match k with
  | _ => ("", "", "", false)
def tyJ2 : Nat → FieldType := fun k => match k with
  | _ => .int
abbrev wsJ20 : List Cond := u_ws RJ2 TJ2 0
theorem nmJ2 : ∀ a, a < 0 → ∀ b, b < 0 → a ≠ b → (TJ2 a).2.1 ≠ (TJ2 b).2.1 := by decide +kernel
theorem tyJ2_ok : ∀ k, k < 0 → parseFieldDescriptor (TJ2 k).2.2.1 = some (tyJ2 k) := by decide +kernel
abbrev cJ2_getChar_3b067 : ByteArray := prog_11_method_5_code
def yJ2_getChar_3b067 : MethodName := ⟨RJ2, "getChar", "([BI)C"⟩
abbrev cJ2_length_9d52b : ByteArray := prog_11_method_6_code
def yJ2_length_9d52b : MethodName := ⟨RJ2, "length", "([B)I"⟩
abbrev cJ2_indexOf_4cfef : ByteArray := prog_11_method_40_code
def yJ2_indexOf_4cfef : MethodName := ⟨RJ2, "indexOf", "([BIII)I"⟩
abbrev cJ2_indexOfChar_4cfef : ByteArray := prog_11_method_47_code
def yJ2_indexOfChar_4cfef : MethodName := ⟨RJ2, "indexOfChar", "([BIII)I"⟩
abbrev cJ2_indexOfCharUnsafe_4cfef : ByteArray := prog_11_method_48_code
def yJ2_indexOfCharUnsafe_4cfef : MethodName := ⟨RJ2, "indexOfCharUnsafe", "([BIII)I"⟩
abbrev cJ2_indexOfSupplementary_4cfef : ByteArray := prog_11_method_49_code
def yJ2_indexOfSupplementary_4cfef : MethodName := ⟨RJ2, "indexOfSupplementary", "([BIII)I"⟩
abbrev cJ2_checkBoundsBeginEnd_d044e : ByteArray := prog_11_method_93_code
def yJ2_checkBoundsBeginEnd_d044e : MethodName := ⟨RJ2, "checkBoundsBeginEnd", "(II[B)V"⟩
def RJ10 : String := "java/lang/System"
def TJ10 : u_T := fun k => match k with
  | _ => ("", "", "", false)
def tyJ10 : Nat → FieldType := fun k => match k with
  | _ => .int
abbrev wsJ100 : List Cond := u_ws RJ10 TJ10 0
theorem nmJ10 : ∀ a, a < 0 → ∀ b, b < 0 → a ≠ b → (TJ10 a).2.1 ≠ (TJ10 b).2.1 := by decide +kernel
theorem tyJ10_ok : ∀ k, k < 0 → parseFieldDescriptor (TJ10 k).2.2.1 = some (tyJ10 k) := by decide +kernel
def RJxfd54e : String := "java/lang/constant/Constable"
def TJxfd54e : u_T := fun k => match k with
  | _ => ("", "", "", false)
def tyJxfd54e : Nat → FieldType := fun k => match k with
  | _ => .int
abbrev wsJxfd54e0 : List Cond := u_ws RJxfd54e TJxfd54e 0
theorem nmJxfd54e : ∀ a, a < 0 → ∀ b, b < 0 → a ≠ b → (TJxfd54e a).2.1 ≠ (TJxfd54e b).2.1 := by decide +kernel
theorem tyJxfd54e_ok : ∀ k, k < 0 → parseFieldDescriptor (TJxfd54e k).2.2.1 = some (tyJxfd54e k) := by decide +kernel
def RJx3cf43 : String := "java/lang/constant/ConstantDesc"
def TJx3cf43 : u_T := fun k => match k with
  | _ => ("", "", "", false)
def tyJx3cf43 : Nat → FieldType := fun k => match k with
  | _ => .int
abbrev wsJx3cf430 : List Cond := u_ws RJx3cf43 TJx3cf43 0
theorem nmJx3cf43 : ∀ a, a < 0 → ∀ b, b < 0 → a ≠ b → (TJx3cf43 a).2.1 ≠ (TJx3cf43 b).2.1 := by decide +kernel
theorem tyJx3cf43_ok : ∀ k, k < 0 → parseFieldDescriptor (TJx3cf43 k).2.2.1 = some (tyJx3cf43 k) := by decide +kernel
def RJ7 : String := "java/util/Arrays"
def TJ7 : u_T := fun k => match k with
  | _ => ("", "", "", false)
def tyJ7 : Nat → FieldType := fun k => match k with
  | _ => .int
abbrev wsJ70 : List Cond := u_ws RJ7 TJ7 0
theorem nmJ7 : ∀ a, a < 0 → ∀ b, b < 0 → a ≠ b → (TJ7 a).2.1 ≠ (TJ7 b).2.1 := by decide +kernel
theorem tyJ7_ok : ∀ k, k < 0 → parseFieldDescriptor (TJ7 k).2.2.1 = some (tyJ7 k) := by decide +kernel
abbrev cJ7_fill_53178 : ByteArray := prog_13_method_103_code
def yJ7_fill_53178 : MethodName := ⟨RJ7, "fill", "([II)V"⟩
def RJ3 : String := "jdk/internal/util/Preconditions"
def TJ3 : u_T := fun k => match k with
  | _ => ("", "", "", false)
def tyJ3 : Nat → FieldType := fun k => match k with
  | _ => .int
abbrev wsJ30 : List Cond := u_ws RJ3 TJ3 0
theorem nmJ3 : ∀ a, a < 0 → ∀ b, b < 0 → a ≠ b → (TJ3 a).2.1 ≠ (TJ3 b).2.1 := by decide +kernel
theorem tyJ3_ok : ∀ k, k < 0 → parseFieldDescriptor (TJ3 k).2.2.1 = some (tyJ3 k) := by decide +kernel
abbrev cJ3_checkFromToIndex_8c36e : ByteArray := prog_14_method_12_code
def yJ3_checkFromToIndex_8c36e : MethodName := ⟨RJ3, "checkFromToIndex", "(IIILjava/util/function/BiFunction;)I"⟩
def RL : String := "DeckHandsLaw"
abbrev cL_law : ByteArray := code
def yL_law : MethodName := ⟨RL, "law", "([I)Z"⟩
abbrev vwCl : List vw_C := [(RX0, TX0, 2), (RX1, TX1, 11), (RX2, TX2, 2), (RX3, TX3, 10), (RX4, TX4, 32)]
end
section
theorem dX0_init_0 : decode cX0_init 0 = .ok (.aload_n 0, 1) := by decide +kernel
theorem dX0_init_1 : decode cX0_init 1 = .ok (.invokespecial 5, 3) := by decide +kernel
theorem dX0_init_4 : decode cX0_init 4 = .ok (.aload_n 0, 1) := by decide +kernel
theorem dX0_init_5 : decode cX0_init 5 = .ok (.bipush 22, 2) := by decide +kernel
theorem dX0_init_7 : decode cX0_init 7 = .ok (.newarray .int, 2) := by decide +kernel
theorem dX0_init_9 : decode cX0_init 9 = .ok (.putfield 11, 3) := by decide +kernel
theorem dX0_init_12 : decode cX0_init 12 = .ok (.return_, 1) := by decide +kernel
theorem dX0_append_0 : decode cX0_append 0 = .ok (.aload_n 0, 1) := by decide +kernel
theorem dX0_append_1 : decode cX0_append 1 = .ok (.getfield 15, 3) := by decide +kernel
theorem dX0_append_4 : decode cX0_append 4 = .ok (.bipush 22, 2) := by decide +kernel
theorem dX0_append_6 : decode cX0_append 6 = .ok (.if_icmp .ge 23, 3) := by decide +kernel
theorem dX0_append_9 : decode cX0_append 9 = .ok (.aload_n 0, 1) := by decide +kernel
theorem dX0_append_10 : decode cX0_append 10 = .ok (.getfield 11, 3) := by decide +kernel
theorem dX0_append_13 : decode cX0_append 13 = .ok (.aload_n 0, 1) := by decide +kernel
theorem dX0_append_14 : decode cX0_append 14 = .ok (.getfield 15, 3) := by decide +kernel
theorem dX0_append_17 : decode cX0_append 17 = .ok (.iload_n 1, 1) := by decide +kernel
theorem dX0_append_18 : decode cX0_append 18 = .ok (.iastore, 1) := by decide +kernel
theorem dX0_append_19 : decode cX0_append 19 = .ok (.aload_n 0, 1) := by decide +kernel
theorem dX0_append_20 : decode cX0_append 20 = .ok (.dup, 1) := by decide +kernel
theorem dX0_append_21 : decode cX0_append 21 = .ok (.getfield 15, 3) := by decide +kernel
theorem dX0_append_24 : decode cX0_append 24 = .ok (.iconst 1, 1) := by decide +kernel
theorem dX0_append_25 : decode cX0_append 25 = .ok (.iadd, 1) := by decide +kernel
theorem dX0_append_26 : decode cX0_append 26 = .ok (.putfield 15, 3) := by decide +kernel
theorem dX0_append_29 : decode cX0_append 29 = .ok (.return_, 1) := by decide +kernel
theorem dX0_clear_0 : decode cX0_clear 0 = .ok (.aload_n 0, 1) := by decide +kernel
theorem dX0_clear_1 : decode cX0_clear 1 = .ok (.getfield 15, 3) := by decide +kernel
theorem dX0_clear_4 : decode cX0_clear 4 = .ok (.istore_n 1, 1) := by decide +kernel
theorem dX0_clear_5 : decode cX0_clear 5 = .ok (.aload_n 0, 1) := by decide +kernel
theorem dX0_clear_6 : decode cX0_clear 6 = .ok (.iconst 0, 1) := by decide +kernel
theorem dX0_clear_7 : decode cX0_clear 7 = .ok (.putfield 15, 3) := by decide +kernel
theorem dX0_clear_10 : decode cX0_clear 10 = .ok (.iload_n 1, 1) := by decide +kernel
theorem dX0_clear_11 : decode cX0_clear 11 = .ok (.ireturn, 1) := by decide +kernel
theorem dX0_firstWrong_0 : decode cX0_firstWrong 0 = .ok (.iconst 0, 1) := by decide +kernel
theorem dX0_firstWrong_1 : decode cX0_firstWrong 1 = .ok (.istore_n 1, 1) := by decide +kernel
theorem dX0_firstWrong_2 : decode cX0_firstWrong 2 = .ok (.iload_n 1, 1) := by decide +kernel
theorem dX0_firstWrong_3 : decode cX0_firstWrong 3 = .ok (.aload_n 0, 1) := by decide +kernel
theorem dX0_firstWrong_4 : decode cX0_firstWrong 4 = .ok (.getfield 15, 3) := by decide +kernel
theorem dX0_firstWrong_7 : decode cX0_firstWrong 7 = .ok (.if_icmp .ge 19, 3) := by decide +kernel
theorem dX0_firstWrong_10 : decode cX0_firstWrong 10 = .ok (.aload_n 0, 1) := by decide +kernel
theorem dX0_firstWrong_11 : decode cX0_firstWrong 11 = .ok (.iload_n 1, 1) := by decide +kernel
theorem dX0_firstWrong_12 : decode cX0_firstWrong 12 = .ok (.invokevirtual 19, 3) := by decide +kernel
theorem dX0_firstWrong_15 : decode cX0_firstWrong 15 = .ok (.ifCond .ne 5, 3) := by decide +kernel
theorem dX0_firstWrong_18 : decode cX0_firstWrong 18 = .ok (.iload_n 1, 1) := by decide +kernel
theorem dX0_firstWrong_19 : decode cX0_firstWrong 19 = .ok (.ireturn, 1) := by decide +kernel
theorem dX0_firstWrong_20 : decode cX0_firstWrong 20 = .ok (.iinc 1 1, 3) := by decide +kernel
theorem dX0_firstWrong_23 : decode cX0_firstWrong 23 = .ok (.goto (-21), 3) := by decide +kernel
theorem dX0_firstWrong_26 : decode cX0_firstWrong 26 = .ok (.aload_n 0, 1) := by decide +kernel
theorem dX0_firstWrong_27 : decode cX0_firstWrong 27 = .ok (.getfield 15, 3) := by decide +kernel
theorem dX0_firstWrong_30 : decode cX0_firstWrong 30 = .ok (.ireturn, 1) := by decide +kernel
theorem dX0_isRoutine_0 : decode cX0_isRoutine 0 = .ok (.aload_n 0, 1) := by decide +kernel
theorem dX0_isRoutine_1 : decode cX0_isRoutine 1 = .ok (.getfield 15, 3) := by decide +kernel
theorem dX0_isRoutine_4 : decode cX0_isRoutine 4 = .ok (.iconst 3, 1) := by decide +kernel
theorem dX0_isRoutine_5 : decode cX0_isRoutine 5 = .ok (.if_icmp .le 20, 3) := by decide +kernel
theorem dX0_isRoutine_8 : decode cX0_isRoutine 8 = .ok (.aload_n 0, 1) := by decide +kernel
theorem dX0_isRoutine_9 : decode cX0_isRoutine 9 = .ok (.getfield 15, 3) := by decide +kernel
theorem dX0_isRoutine_12 : decode cX0_isRoutine 12 = .ok (.iconst 1, 1) := by decide +kernel
theorem dX0_isRoutine_13 : decode cX0_isRoutine 13 = .ok (.isub, 1) := by decide +kernel
theorem dX0_isRoutine_14 : decode cX0_isRoutine 14 = .ok (.invokestatic 23, 3) := by decide +kernel
theorem dX0_isRoutine_17 : decode cX0_isRoutine 17 = .ok (.iconst 1, 1) := by decide +kernel
theorem dX0_isRoutine_18 : decode cX0_isRoutine 18 = .ok (.if_icmp .ne 7, 3) := by decide +kernel
theorem dX0_isRoutine_21 : decode cX0_isRoutine 21 = .ok (.iconst 1, 1) := by decide +kernel
theorem dX0_isRoutine_22 : decode cX0_isRoutine 22 = .ok (.goto 4, 3) := by decide +kernel
theorem dX0_isRoutine_25 : decode cX0_isRoutine 25 = .ok (.iconst 0, 1) := by decide +kernel
theorem dX0_isRoutine_26 : decode cX0_isRoutine 26 = .ok (.istore_n 1, 1) := by decide +kernel
theorem dX0_isRoutine_27 : decode cX0_isRoutine 27 = .ok (.iload_n 1, 1) := by decide +kernel
theorem dX0_isRoutine_28 : decode cX0_isRoutine 28 = .ok (.ifCond .eq 18, 3) := by decide +kernel
theorem dX0_isRoutine_31 : decode cX0_isRoutine 31 = .ok (.aload_n 0, 1) := by decide +kernel
theorem dX0_isRoutine_32 : decode cX0_isRoutine 32 = .ok (.invokevirtual 27, 3) := by decide +kernel
theorem dX0_isRoutine_35 : decode cX0_isRoutine 35 = .ok (.aload_n 0, 1) := by decide +kernel
theorem dX0_isRoutine_36 : decode cX0_isRoutine 36 = .ok (.getfield 15, 3) := by decide +kernel
theorem dX0_isRoutine_39 : decode cX0_isRoutine 39 = .ok (.if_icmp .ne 7, 3) := by decide +kernel
theorem dX0_isRoutine_42 : decode cX0_isRoutine 42 = .ok (.iconst 1, 1) := by decide +kernel
theorem dX0_isRoutine_43 : decode cX0_isRoutine 43 = .ok (.goto 4, 3) := by decide +kernel
theorem dX0_isRoutine_46 : decode cX0_isRoutine 46 = .ok (.iconst 0, 1) := by decide +kernel
theorem dX0_isRoutine_47 : decode cX0_isRoutine 47 = .ok (.ireturn, 1) := by decide +kernel
theorem dX0_mayStand_0 : decode cX0_mayStand 0 = .ok (.aload_n 0, 1) := by decide +kernel
theorem dX0_mayStand_1 : decode cX0_mayStand 1 = .ok (.getfield 11, 3) := by decide +kernel
theorem dX0_mayStand_4 : decode cX0_mayStand 4 = .ok (.iload_n 1, 1) := by decide +kernel
theorem dX0_mayStand_5 : decode cX0_mayStand 5 = .ok (.iaload, 1) := by decide +kernel
theorem dX0_mayStand_6 : decode cX0_mayStand 6 = .ok (.istore_n 2, 1) := by decide +kernel
theorem dX0_mayStand_7 : decode cX0_mayStand 7 = .ok (.iload_n 1, 1) := by decide +kernel
theorem dX0_mayStand_8 : decode cX0_mayStand 8 = .ok (.bipush 20, 2) := by decide +kernel
theorem dX0_mayStand_10 : decode cX0_mayStand 10 = .ok (.if_icmp .lt 5, 3) := by decide +kernel
theorem dX0_mayStand_13 : decode cX0_mayStand 13 = .ok (.iconst 0, 1) := by decide +kernel
theorem dX0_mayStand_14 : decode cX0_mayStand 14 = .ok (.ireturn, 1) := by decide +kernel
theorem dX0_mayStand_15 : decode cX0_mayStand 15 = .ok (.iload_n 1, 1) := by decide +kernel
theorem dX0_mayStand_16 : decode cX0_mayStand 16 = .ok (.tableswitch 107 0 2 #[28, 46, 95], 28) := by decide +kernel
theorem dX0_mayStand_44 : decode cX0_mayStand 44 = .ok (.iload_n 2, 1) := by decide +kernel
theorem dX0_mayStand_45 : decode cX0_mayStand 45 = .ok (.bipush 48, 2) := by decide +kernel
theorem dX0_mayStand_47 : decode cX0_mayStand 47 = .ok (.if_icmp .eq 9, 3) := by decide +kernel
theorem dX0_mayStand_50 : decode cX0_mayStand 50 = .ok (.iload_n 2, 1) := by decide +kernel
theorem dX0_mayStand_51 : decode cX0_mayStand 51 = .ok (.bipush 49, 2) := by decide +kernel
theorem dX0_mayStand_53 : decode cX0_mayStand 53 = .ok (.if_icmp .ne 7, 3) := by decide +kernel
theorem dX0_mayStand_56 : decode cX0_mayStand 56 = .ok (.iconst 1, 1) := by decide +kernel
theorem dX0_mayStand_57 : decode cX0_mayStand 57 = .ok (.goto 4, 3) := by decide +kernel
theorem dX0_mayStand_60 : decode cX0_mayStand 60 = .ok (.iconst 0, 1) := by decide +kernel
theorem dX0_mayStand_61 : decode cX0_mayStand 61 = .ok (.ireturn, 1) := by decide +kernel
theorem dX0_mayStand_62 : decode cX0_mayStand 62 = .ok (.aload_n 0, 1) := by decide +kernel
theorem dX0_mayStand_63 : decode cX0_mayStand 63 = .ok (.getfield 11, 3) := by decide +kernel
theorem dX0_mayStand_66 : decode cX0_mayStand 66 = .ok (.iconst 0, 1) := by decide +kernel
theorem dX0_mayStand_67 : decode cX0_mayStand 67 = .ok (.iaload, 1) := by decide +kernel
theorem dX0_mayStand_68 : decode cX0_mayStand 68 = .ok (.bipush 48, 2) := by decide +kernel
theorem dX0_mayStand_70 : decode cX0_mayStand 70 = .ok (.if_icmp .ne 23, 3) := by decide +kernel
theorem dX0_mayStand_73 : decode cX0_mayStand 73 = .ok (.iload_n 2, 1) := by decide +kernel
theorem dX0_mayStand_74 : decode cX0_mayStand 74 = .ok (.bipush 50, 2) := by decide +kernel
theorem dX0_mayStand_76 : decode cX0_mayStand 76 = .ok (.if_icmp .lt 13, 3) := by decide +kernel
theorem dX0_mayStand_79 : decode cX0_mayStand 79 = .ok (.iload_n 2, 1) := by decide +kernel
theorem dX0_mayStand_80 : decode cX0_mayStand 80 = .ok (.bipush 57, 2) := by decide +kernel
theorem dX0_mayStand_82 : decode cX0_mayStand 82 = .ok (.if_icmp .gt 7, 3) := by decide +kernel
theorem dX0_mayStand_85 : decode cX0_mayStand 85 = .ok (.iconst 1, 1) := by decide +kernel
theorem dX0_mayStand_86 : decode cX0_mayStand 86 = .ok (.goto 24, 3) := by decide +kernel
theorem dX0_mayStand_89 : decode cX0_mayStand 89 = .ok (.iconst 0, 1) := by decide +kernel
theorem dX0_mayStand_90 : decode cX0_mayStand 90 = .ok (.goto 20, 3) := by decide +kernel
theorem dX0_mayStand_93 : decode cX0_mayStand 93 = .ok (.iload_n 2, 1) := by decide +kernel
theorem dX0_mayStand_94 : decode cX0_mayStand 94 = .ok (.bipush 48, 2) := by decide +kernel
theorem dX0_mayStand_96 : decode cX0_mayStand 96 = .ok (.if_icmp .lt 13, 3) := by decide +kernel
theorem dX0_mayStand_99 : decode cX0_mayStand 99 = .ok (.iload_n 2, 1) := by decide +kernel
theorem dX0_mayStand_100 : decode cX0_mayStand 100 = .ok (.bipush 50, 2) := by decide +kernel
theorem dX0_mayStand_102 : decode cX0_mayStand 102 = .ok (.if_icmp .gt 7, 3) := by decide +kernel
theorem dX0_mayStand_105 : decode cX0_mayStand 105 = .ok (.iconst 1, 1) := by decide +kernel
theorem dX0_mayStand_106 : decode cX0_mayStand 106 = .ok (.goto 4, 3) := by decide +kernel
theorem dX0_mayStand_109 : decode cX0_mayStand 109 = .ok (.iconst 0, 1) := by decide +kernel
theorem dX0_mayStand_110 : decode cX0_mayStand 110 = .ok (.ireturn, 1) := by decide +kernel
theorem dX0_mayStand_111 : decode cX0_mayStand 111 = .ok (.iload_n 2, 1) := by decide +kernel
theorem dX0_mayStand_112 : decode cX0_mayStand 112 = .ok (.bipush 59, 2) := by decide +kernel
theorem dX0_mayStand_114 : decode cX0_mayStand 114 = .ok (.if_icmp .ne 7, 3) := by decide +kernel
theorem dX0_mayStand_117 : decode cX0_mayStand 117 = .ok (.iconst 1, 1) := by decide +kernel
theorem dX0_mayStand_118 : decode cX0_mayStand 118 = .ok (.goto 4, 3) := by decide +kernel
theorem dX0_mayStand_121 : decode cX0_mayStand 121 = .ok (.iconst 0, 1) := by decide +kernel
theorem dX0_mayStand_122 : decode cX0_mayStand 122 = .ok (.ireturn, 1) := by decide +kernel
theorem dX0_mayStand_123 : decode cX0_mayStand 123 = .ok (.iload_n 1, 1) := by decide +kernel
theorem dX0_mayStand_124 : decode cX0_mayStand 124 = .ok (.invokestatic 23, 3) := by decide +kernel
theorem dX0_mayStand_127 : decode cX0_mayStand 127 = .ok (.iload_n 2, 1) := by decide +kernel
theorem dX0_mayStand_128 : decode cX0_mayStand 128 = .ok (.invokestatic 31, 3) := by decide +kernel
theorem dX0_mayStand_131 : decode cX0_mayStand 131 = .ok (.ireturn, 1) := by decide +kernel
theorem dX0_mayStandInStep_0 : decode cX0_mayStandInStep 0 = .ok (.iload_n 0, 1) := by decide +kernel
theorem dX0_mayStandInStep_1 : decode cX0_mayStandInStep 1 = .ok (.lookupswitch 61 #[(0, 27), (1, 43)], 27) := by decide +kernel
theorem dX0_mayStandInStep_28 : decode cX0_mayStandInStep 28 = .ok (.ldc 35, 2) := by decide +kernel
theorem dX0_mayStandInStep_30 : decode cX0_mayStandInStep 30 = .ok (.iload_n 1, 1) := by decide +kernel
theorem dX0_mayStandInStep_31 : decode cX0_mayStandInStep 31 = .ok (.i2c, 1) := by decide +kernel
theorem dX0_mayStandInStep_32 : decode cX0_mayStandInStep 32 = .ok (.invokevirtual 37, 3) := by decide +kernel
theorem dX0_mayStandInStep_35 : decode cX0_mayStandInStep 35 = .ok (.ifCond .lt 7, 3) := by decide +kernel
theorem dX0_mayStandInStep_38 : decode cX0_mayStandInStep 38 = .ok (.iconst 1, 1) := by decide +kernel
theorem dX0_mayStandInStep_39 : decode cX0_mayStandInStep 39 = .ok (.goto 4, 3) := by decide +kernel
theorem dX0_mayStandInStep_42 : decode cX0_mayStandInStep 42 = .ok (.iconst 0, 1) := by decide +kernel
theorem dX0_mayStandInStep_43 : decode cX0_mayStandInStep 43 = .ok (.ireturn, 1) := by decide +kernel
theorem dX0_mayStandInStep_44 : decode cX0_mayStandInStep 44 = .ok (.iload_n 1, 1) := by decide +kernel
theorem dX0_mayStandInStep_45 : decode cX0_mayStandInStep 45 = .ok (.bipush 48, 2) := by decide +kernel
theorem dX0_mayStandInStep_47 : decode cX0_mayStandInStep 47 = .ok (.if_icmp .lt 13, 3) := by decide +kernel
theorem dX0_mayStandInStep_50 : decode cX0_mayStandInStep 50 = .ok (.iload_n 1, 1) := by decide +kernel
theorem dX0_mayStandInStep_51 : decode cX0_mayStandInStep 51 = .ok (.bipush 57, 2) := by decide +kernel
theorem dX0_mayStandInStep_53 : decode cX0_mayStandInStep 53 = .ok (.if_icmp .gt 7, 3) := by decide +kernel
theorem dX0_mayStandInStep_56 : decode cX0_mayStandInStep 56 = .ok (.iconst 1, 1) := by decide +kernel
theorem dX0_mayStandInStep_57 : decode cX0_mayStandInStep 57 = .ok (.goto 4, 3) := by decide +kernel
theorem dX0_mayStandInStep_60 : decode cX0_mayStandInStep 60 = .ok (.iconst 0, 1) := by decide +kernel
theorem dX0_mayStandInStep_61 : decode cX0_mayStandInStep 61 = .ok (.ireturn, 1) := by decide +kernel
theorem dX0_mayStandInStep_62 : decode cX0_mayStandInStep 62 = .ok (.iload_n 1, 1) := by decide +kernel
theorem dX0_mayStandInStep_63 : decode cX0_mayStandInStep 63 = .ok (.bipush 44, 2) := by decide +kernel
theorem dX0_mayStandInStep_65 : decode cX0_mayStandInStep 65 = .ok (.if_icmp .ne 7, 3) := by decide +kernel
theorem dX0_mayStandInStep_68 : decode cX0_mayStandInStep 68 = .ok (.iconst 1, 1) := by decide +kernel
theorem dX0_mayStandInStep_69 : decode cX0_mayStandInStep 69 = .ok (.goto 4, 3) := by decide +kernel
theorem dX0_mayStandInStep_72 : decode cX0_mayStandInStep 72 = .ok (.iconst 0, 1) := by decide +kernel
theorem dX0_mayStandInStep_73 : decode cX0_mayStandInStep 73 = .ok (.ireturn, 1) := by decide +kernel
theorem dX0_partOfStep_0 : decode cX0_partOfStep 0 = .ok (.iload_n 0, 1) := by decide +kernel
theorem dX0_partOfStep_1 : decode cX0_partOfStep 1 = .ok (.iconst 3, 1) := by decide +kernel
theorem dX0_partOfStep_2 : decode cX0_partOfStep 2 = .ok (.isub, 1) := by decide +kernel
theorem dX0_partOfStep_3 : decode cX0_partOfStep 3 = .ok (.iconst 3, 1) := by decide +kernel
theorem dX0_partOfStep_4 : decode cX0_partOfStep 4 = .ok (.irem, 1) := by decide +kernel
theorem dX0_partOfStep_5 : decode cX0_partOfStep 5 = .ok (.ireturn, 1) := by decide +kernel
theorem dX0_readInto_0 : decode cX0_readInto 0 = .ok (.bipush 10, 2) := by decide +kernel
theorem dX0_readInto_2 : decode cX0_readInto 2 = .ok (.aload_n 0, 1) := by decide +kernel
theorem dX0_readInto_3 : decode cX0_readInto 3 = .ok (.getfield 11, 3) := by decide +kernel
theorem dX0_readInto_6 : decode cX0_readInto 6 = .ok (.iconst 0, 1) := by decide +kernel
theorem dX0_readInto_7 : decode cX0_readInto 7 = .ok (.iaload, 1) := by decide +kernel
theorem dX0_readInto_8 : decode cX0_readInto 8 = .ok (.bipush 48, 2) := by decide +kernel
theorem dX0_readInto_10 : decode cX0_readInto 10 = .ok (.isub, 1) := by decide +kernel
theorem dX0_readInto_11 : decode cX0_readInto 11 = .ok (.imul, 1) := by decide +kernel
theorem dX0_readInto_12 : decode cX0_readInto 12 = .ok (.aload_n 0, 1) := by decide +kernel
theorem dX0_readInto_13 : decode cX0_readInto 13 = .ok (.getfield 11, 3) := by decide +kernel
theorem dX0_readInto_16 : decode cX0_readInto 16 = .ok (.iconst 1, 1) := by decide +kernel
theorem dX0_readInto_17 : decode cX0_readInto 17 = .ok (.iaload, 1) := by decide +kernel
theorem dX0_readInto_18 : decode cX0_readInto 18 = .ok (.iadd, 1) := by decide +kernel
theorem dX0_readInto_19 : decode cX0_readInto 19 = .ok (.bipush 48, 2) := by decide +kernel
theorem dX0_readInto_21 : decode cX0_readInto 21 = .ok (.isub, 1) := by decide +kernel
theorem dX0_readInto_22 : decode cX0_readInto 22 = .ok (.istore_n 2, 1) := by decide +kernel
theorem dX0_readInto_23 : decode cX0_readInto 23 = .ok (.aload_n 1, 1) := by decide +kernel
theorem dX0_readInto_24 : decode cX0_readInto 24 = .ok (.iload_n 2, 1) := by decide +kernel
theorem dX0_readInto_25 : decode cX0_readInto 25 = .ok (.aload_n 0, 1) := by decide +kernel
theorem dX0_readInto_26 : decode cX0_readInto 26 = .ok (.getfield 15, 3) := by decide +kernel
theorem dX0_readInto_29 : decode cX0_readInto 29 = .ok (.iconst 1, 1) := by decide +kernel
theorem dX0_readInto_30 : decode cX0_readInto 30 = .ok (.iadd, 1) := by decide +kernel
theorem dX0_readInto_31 : decode cX0_readInto 31 = .ok (.iconst 3, 1) := by decide +kernel
theorem dX0_readInto_32 : decode cX0_readInto 32 = .ok (.isub, 1) := by decide +kernel
theorem dX0_readInto_33 : decode cX0_readInto 33 = .ok (.iconst 3, 1) := by decide +kernel
theorem dX0_readInto_34 : decode cX0_readInto 34 = .ok (.idiv, 1) := by decide +kernel
theorem dX0_readInto_35 : decode cX0_readInto 35 = .ok (.invokevirtual 42, 3) := by decide +kernel
theorem dX0_readInto_38 : decode cX0_readInto 38 = .ok (.iconst 0, 1) := by decide +kernel
theorem dX0_readInto_39 : decode cX0_readInto 39 = .ok (.istore_n 3, 1) := by decide +kernel
theorem dX0_readInto_40 : decode cX0_readInto 40 = .ok (.iload_n 3, 1) := by decide +kernel
theorem dX0_readInto_41 : decode cX0_readInto 41 = .ok (.aload_n 1, 1) := by decide +kernel
theorem dX0_readInto_42 : decode cX0_readInto 42 = .ok (.getfield 48, 3) := by decide +kernel
theorem dX0_readInto_45 : decode cX0_readInto 45 = .ok (.if_icmp .ge 50, 3) := by decide +kernel
theorem dX0_readInto_48 : decode cX0_readInto 48 = .ok (.iconst 3, 1) := by decide +kernel
theorem dX0_readInto_49 : decode cX0_readInto 49 = .ok (.iload_n 3, 1) := by decide +kernel
theorem dX0_readInto_50 : decode cX0_readInto 50 = .ok (.iconst 3, 1) := by decide +kernel
theorem dX0_readInto_51 : decode cX0_readInto 51 = .ok (.imul, 1) := by decide +kernel
theorem dX0_readInto_52 : decode cX0_readInto 52 = .ok (.iadd, 1) := by decide +kernel
theorem dX0_readInto_53 : decode cX0_readInto 53 = .ok (.istore 4, 2) := by decide +kernel
theorem dX0_readInto_55 : decode cX0_readInto 55 = .ok (.ldc 35, 2) := by decide +kernel
theorem dX0_readInto_57 : decode cX0_readInto 57 = .ok (.aload_n 0, 1) := by decide +kernel
theorem dX0_readInto_58 : decode cX0_readInto 58 = .ok (.getfield 11, 3) := by decide +kernel
theorem dX0_readInto_61 : decode cX0_readInto 61 = .ok (.iload 4, 2) := by decide +kernel
theorem dX0_readInto_63 : decode cX0_readInto 63 = .ok (.iaload, 1) := by decide +kernel
theorem dX0_readInto_64 : decode cX0_readInto 64 = .ok (.i2c, 1) := by decide +kernel
theorem dX0_readInto_65 : decode cX0_readInto 65 = .ok (.invokevirtual 37, 3) := by decide +kernel
theorem dX0_readInto_68 : decode cX0_readInto 68 = .ok (.istore 5, 2) := by decide +kernel
theorem dX0_readInto_70 : decode cX0_readInto 70 = .ok (.aload_n 1, 1) := by decide +kernel
theorem dX0_readInto_71 : decode cX0_readInto 71 = .ok (.iload_n 3, 1) := by decide +kernel
theorem dX0_readInto_72 : decode cX0_readInto 72 = .ok (.iload 5, 2) := by decide +kernel
theorem dX0_readInto_74 : decode cX0_readInto 74 = .ok (.aload_n 0, 1) := by decide +kernel
theorem dX0_readInto_75 : decode cX0_readInto 75 = .ok (.getfield 11, 3) := by decide +kernel
theorem dX0_readInto_78 : decode cX0_readInto 78 = .ok (.iload 4, 2) := by decide +kernel
theorem dX0_readInto_80 : decode cX0_readInto 80 = .ok (.iconst 1, 1) := by decide +kernel
theorem dX0_readInto_81 : decode cX0_readInto 81 = .ok (.iadd, 1) := by decide +kernel
theorem dX0_readInto_82 : decode cX0_readInto 82 = .ok (.iaload, 1) := by decide +kernel
theorem dX0_readInto_83 : decode cX0_readInto 83 = .ok (.bipush 48, 2) := by decide +kernel
theorem dX0_readInto_85 : decode cX0_readInto 85 = .ok (.isub, 1) := by decide +kernel
theorem dX0_readInto_86 : decode cX0_readInto 86 = .ok (.invokevirtual 51, 3) := by decide +kernel
theorem dX0_readInto_89 : decode cX0_readInto 89 = .ok (.iinc 3 1, 3) := by decide +kernel
theorem dX0_readInto_92 : decode cX0_readInto 92 = .ok (.goto (-52), 3) := by decide +kernel
theorem dX0_readInto_95 : decode cX0_readInto 95 = .ok (.return_, 1) := by decide +kernel
theorem dX1_init_0 : decode cX1_init 0 = .ok (.aload_n 0, 1) := by decide +kernel
theorem dX1_init_1 : decode cX1_init 1 = .ok (.invokespecial 3, 3) := by decide +kernel
theorem dX1_init_4 : decode cX1_init 4 = .ok (.aload_n 0, 1) := by decide +kernel
theorem dX1_init_5 : decode cX1_init 5 = .ok (.bipush 6, 2) := by decide +kernel
theorem dX1_init_7 : decode cX1_init 7 = .ok (.newarray .int, 2) := by decide +kernel
theorem dX1_init_9 : decode cX1_init 9 = .ok (.putfield 9, 3) := by decide +kernel
theorem dX1_init_12 : decode cX1_init 12 = .ok (.aload_n 0, 1) := by decide +kernel
theorem dX1_init_13 : decode cX1_init 13 = .ok (.bipush 6, 2) := by decide +kernel
theorem dX1_init_15 : decode cX1_init 15 = .ok (.newarray .int, 2) := by decide +kernel
theorem dX1_init_17 : decode cX1_init 17 = .ok (.putfield 15, 3) := by decide +kernel
theorem dX1_init_20 : decode cX1_init 20 = .ok (.aload_n 0, 1) := by decide +kernel
theorem dX1_init_21 : decode cX1_init 21 = .ok (.bipush 72, 2) := by decide +kernel
theorem dX1_init_23 : decode cX1_init 23 = .ok (.newarray .int, 2) := by decide +kernel
theorem dX1_init_25 : decode cX1_init 25 = .ok (.putfield 18, 3) := by decide +kernel
theorem dX1_init_28 : decode cX1_init 28 = .ok (.aload_n 0, 1) := by decide +kernel
theorem dX1_init_29 : decode cX1_init 29 = .ok (.bipush 12, 2) := by decide +kernel
theorem dX1_init_31 : decode cX1_init 31 = .ok (.newarray .int, 2) := by decide +kernel
theorem dX1_init_33 : decode cX1_init 33 = .ok (.putfield 21, 3) := by decide +kernel
theorem dX1_init_36 : decode cX1_init 36 = .ok (.aload_n 0, 1) := by decide +kernel
theorem dX1_init_37 : decode cX1_init 37 = .ok (.bipush 6, 2) := by decide +kernel
theorem dX1_init_39 : decode cX1_init 39 = .ok (.newarray .int, 2) := by decide +kernel
theorem dX1_init_41 : decode cX1_init 41 = .ok (.putfield 24, 3) := by decide +kernel
theorem dX1_init_44 : decode cX1_init 44 = .ok (.aload_n 0, 1) := by decide +kernel
theorem dX1_init_45 : decode cX1_init 45 = .ok (.bipush 6, 2) := by decide +kernel
theorem dX1_init_47 : decode cX1_init 47 = .ok (.newarray .int, 2) := by decide +kernel
theorem dX1_init_49 : decode cX1_init 49 = .ok (.putfield 27, 3) := by decide +kernel
theorem dX1_init_52 : decode cX1_init 52 = .ok (.aload_n 0, 1) := by decide +kernel
theorem dX1_init_53 : decode cX1_init 53 = .ok (.bipush 6, 2) := by decide +kernel
theorem dX1_init_55 : decode cX1_init 55 = .ok (.newarray .int, 2) := by decide +kernel
theorem dX1_init_57 : decode cX1_init 57 = .ok (.putfield 30, 3) := by decide +kernel
theorem dX1_init_60 : decode cX1_init 60 = .ok (.return_, 1) := by decide +kernel
theorem dX1_begin_0 : decode cX1_begin 0 = .ok (.aload_n 0, 1) := by decide +kernel
theorem dX1_begin_1 : decode cX1_begin 1 = .ok (.iload_n 1, 1) := by decide +kernel
theorem dX1_begin_2 : decode cX1_begin 2 = .ok (.putfield 33, 3) := by decide +kernel
theorem dX1_begin_5 : decode cX1_begin 5 = .ok (.aload_n 0, 1) := by decide +kernel
theorem dX1_begin_6 : decode cX1_begin 6 = .ok (.iload_n 2, 1) := by decide +kernel
theorem dX1_begin_7 : decode cX1_begin 7 = .ok (.putfield 37, 3) := by decide +kernel
theorem dX1_begin_10 : decode cX1_begin 10 = .ok (.aload_n 0, 1) := by decide +kernel
theorem dX1_begin_11 : decode cX1_begin 11 = .ok (.iconst 0, 1) := by decide +kernel
theorem dX1_begin_12 : decode cX1_begin 12 = .ok (.putfield 40, 3) := by decide +kernel
theorem dX1_begin_15 : decode cX1_begin 15 = .ok (.aload_n 0, 1) := by decide +kernel
theorem dX1_begin_16 : decode cX1_begin 16 = .ok (.iconst 0, 1) := by decide +kernel
theorem dX1_begin_17 : decode cX1_begin 17 = .ok (.putfield 43, 3) := by decide +kernel
theorem dX1_begin_20 : decode cX1_begin 20 = .ok (.aload_n 0, 1) := by decide +kernel
theorem dX1_begin_21 : decode cX1_begin 21 = .ok (.invokevirtual 46, 3) := by decide +kernel
theorem dX1_begin_24 : decode cX1_begin 24 = .ok (.return_, 1) := by decide +kernel
theorem dX1_copy_0 : decode cX1_copy 0 = .ok (.aload_n 0, 1) := by decide +kernel
theorem dX1_copy_1 : decode cX1_copy 1 = .ok (.aload_n 1, 1) := by decide +kernel
theorem dX1_copy_2 : decode cX1_copy 2 = .ok (.getfield 33, 3) := by decide +kernel
theorem dX1_copy_5 : decode cX1_copy 5 = .ok (.putfield 33, 3) := by decide +kernel
theorem dX1_copy_8 : decode cX1_copy 8 = .ok (.aload_n 0, 1) := by decide +kernel
theorem dX1_copy_9 : decode cX1_copy 9 = .ok (.aload_n 1, 1) := by decide +kernel
theorem dX1_copy_10 : decode cX1_copy 10 = .ok (.getfield 37, 3) := by decide +kernel
theorem dX1_copy_13 : decode cX1_copy 13 = .ok (.putfield 37, 3) := by decide +kernel
theorem dX1_copy_16 : decode cX1_copy 16 = .ok (.aload_n 0, 1) := by decide +kernel
theorem dX1_copy_17 : decode cX1_copy 17 = .ok (.aload_n 1, 1) := by decide +kernel
theorem dX1_copy_18 : decode cX1_copy 18 = .ok (.getfield 40, 3) := by decide +kernel
theorem dX1_copy_21 : decode cX1_copy 21 = .ok (.putfield 40, 3) := by decide +kernel
theorem dX1_copy_24 : decode cX1_copy 24 = .ok (.aload_n 0, 1) := by decide +kernel
theorem dX1_copy_25 : decode cX1_copy 25 = .ok (.aload_n 1, 1) := by decide +kernel
theorem dX1_copy_26 : decode cX1_copy 26 = .ok (.getfield 43, 3) := by decide +kernel
theorem dX1_copy_29 : decode cX1_copy 29 = .ok (.putfield 43, 3) := by decide +kernel
theorem dX1_copy_32 : decode cX1_copy 32 = .ok (.aload_n 1, 1) := by decide +kernel
theorem dX1_copy_33 : decode cX1_copy 33 = .ok (.getfield 9, 3) := by decide +kernel
theorem dX1_copy_36 : decode cX1_copy 36 = .ok (.iconst 0, 1) := by decide +kernel
theorem dX1_copy_37 : decode cX1_copy 37 = .ok (.aload_n 0, 1) := by decide +kernel
theorem dX1_copy_38 : decode cX1_copy 38 = .ok (.getfield 9, 3) := by decide +kernel
theorem dX1_copy_41 : decode cX1_copy 41 = .ok (.iconst 0, 1) := by decide +kernel
theorem dX1_copy_42 : decode cX1_copy 42 = .ok (.bipush 6, 2) := by decide +kernel
theorem dX1_copy_44 : decode cX1_copy 44 = .ok (.invokestatic 49, 3) := by decide +kernel
theorem dX1_copy_47 : decode cX1_copy 47 = .ok (.aload_n 1, 1) := by decide +kernel
theorem dX1_copy_48 : decode cX1_copy 48 = .ok (.getfield 15, 3) := by decide +kernel
theorem dX1_copy_51 : decode cX1_copy 51 = .ok (.iconst 0, 1) := by decide +kernel
theorem dX1_copy_52 : decode cX1_copy 52 = .ok (.aload_n 0, 1) := by decide +kernel
theorem dX1_copy_53 : decode cX1_copy 53 = .ok (.getfield 15, 3) := by decide +kernel
theorem dX1_copy_56 : decode cX1_copy 56 = .ok (.iconst 0, 1) := by decide +kernel
theorem dX1_copy_57 : decode cX1_copy 57 = .ok (.bipush 6, 2) := by decide +kernel
theorem dX1_copy_59 : decode cX1_copy 59 = .ok (.invokestatic 49, 3) := by decide +kernel
theorem dX1_copy_62 : decode cX1_copy 62 = .ok (.aload_n 1, 1) := by decide +kernel
theorem dX1_copy_63 : decode cX1_copy 63 = .ok (.getfield 18, 3) := by decide +kernel
theorem dX1_copy_66 : decode cX1_copy 66 = .ok (.iconst 0, 1) := by decide +kernel
theorem dX1_copy_67 : decode cX1_copy 67 = .ok (.aload_n 0, 1) := by decide +kernel
theorem dX1_copy_68 : decode cX1_copy 68 = .ok (.getfield 18, 3) := by decide +kernel
theorem dX1_copy_71 : decode cX1_copy 71 = .ok (.iconst 0, 1) := by decide +kernel
theorem dX1_copy_72 : decode cX1_copy 72 = .ok (.bipush 72, 2) := by decide +kernel
theorem dX1_copy_74 : decode cX1_copy 74 = .ok (.invokestatic 49, 3) := by decide +kernel
theorem dX1_copy_77 : decode cX1_copy 77 = .ok (.aload_n 1, 1) := by decide +kernel
theorem dX1_copy_78 : decode cX1_copy 78 = .ok (.getfield 21, 3) := by decide +kernel
theorem dX1_copy_81 : decode cX1_copy 81 = .ok (.iconst 0, 1) := by decide +kernel
theorem dX1_copy_82 : decode cX1_copy 82 = .ok (.aload_n 0, 1) := by decide +kernel
theorem dX1_copy_83 : decode cX1_copy 83 = .ok (.getfield 21, 3) := by decide +kernel
theorem dX1_copy_86 : decode cX1_copy 86 = .ok (.iconst 0, 1) := by decide +kernel
theorem dX1_copy_87 : decode cX1_copy 87 = .ok (.bipush 12, 2) := by decide +kernel
theorem dX1_copy_89 : decode cX1_copy 89 = .ok (.invokestatic 49, 3) := by decide +kernel
theorem dX1_copy_92 : decode cX1_copy 92 = .ok (.aload_n 1, 1) := by decide +kernel
theorem dX1_copy_93 : decode cX1_copy 93 = .ok (.getfield 24, 3) := by decide +kernel
theorem dX1_copy_96 : decode cX1_copy 96 = .ok (.iconst 0, 1) := by decide +kernel
theorem dX1_copy_97 : decode cX1_copy 97 = .ok (.aload_n 0, 1) := by decide +kernel
theorem dX1_copy_98 : decode cX1_copy 98 = .ok (.getfield 24, 3) := by decide +kernel
theorem dX1_copy_101 : decode cX1_copy 101 = .ok (.iconst 0, 1) := by decide +kernel
theorem dX1_copy_102 : decode cX1_copy 102 = .ok (.bipush 6, 2) := by decide +kernel
theorem dX1_copy_104 : decode cX1_copy 104 = .ok (.invokestatic 49, 3) := by decide +kernel
theorem dX1_copy_107 : decode cX1_copy 107 = .ok (.aload_n 1, 1) := by decide +kernel
theorem dX1_copy_108 : decode cX1_copy 108 = .ok (.getfield 27, 3) := by decide +kernel
theorem dX1_copy_111 : decode cX1_copy 111 = .ok (.iconst 0, 1) := by decide +kernel
theorem dX1_copy_112 : decode cX1_copy 112 = .ok (.aload_n 0, 1) := by decide +kernel
theorem dX1_copy_113 : decode cX1_copy 113 = .ok (.getfield 27, 3) := by decide +kernel
theorem dX1_copy_116 : decode cX1_copy 116 = .ok (.iconst 0, 1) := by decide +kernel
theorem dX1_copy_117 : decode cX1_copy 117 = .ok (.bipush 6, 2) := by decide +kernel
theorem dX1_copy_119 : decode cX1_copy 119 = .ok (.invokestatic 49, 3) := by decide +kernel
theorem dX1_copy_122 : decode cX1_copy 122 = .ok (.aload_n 1, 1) := by decide +kernel
theorem dX1_copy_123 : decode cX1_copy 123 = .ok (.getfield 30, 3) := by decide +kernel
theorem dX1_copy_126 : decode cX1_copy 126 = .ok (.iconst 0, 1) := by decide +kernel
theorem dX1_copy_127 : decode cX1_copy 127 = .ok (.aload_n 0, 1) := by decide +kernel
theorem dX1_copy_128 : decode cX1_copy 128 = .ok (.getfield 30, 3) := by decide +kernel
theorem dX1_copy_131 : decode cX1_copy 131 = .ok (.iconst 0, 1) := by decide +kernel
theorem dX1_copy_132 : decode cX1_copy 132 = .ok (.bipush 6, 2) := by decide +kernel
theorem dX1_copy_134 : decode cX1_copy 134 = .ok (.invokestatic 49, 3) := by decide +kernel
theorem dX1_copy_137 : decode cX1_copy 137 = .ok (.return_, 1) := by decide +kernel
theorem dX1_hasRoutine_0 : decode cX1_hasRoutine 0 = .ok (.aload_n 0, 1) := by decide +kernel
theorem dX1_hasRoutine_1 : decode cX1_hasRoutine 1 = .ok (.getfield 37, 3) := by decide +kernel
theorem dX1_hasRoutine_4 : decode cX1_hasRoutine 4 = .ok (.ifCond .le 7, 3) := by decide +kernel
theorem dX1_hasRoutine_7 : decode cX1_hasRoutine 7 = .ok (.iconst 1, 1) := by decide +kernel
theorem dX1_hasRoutine_8 : decode cX1_hasRoutine 8 = .ok (.goto 4, 3) := by decide +kernel
theorem dX1_hasRoutine_11 : decode cX1_hasRoutine 11 = .ok (.iconst 0, 1) := by decide +kernel
theorem dX1_hasRoutine_12 : decode cX1_hasRoutine 12 = .ok (.ireturn, 1) := by decide +kernel
theorem dX1_hasStep_0 : decode cX1_hasStep 0 = .ok (.iload_n 1, 1) := by decide +kernel
theorem dX1_hasStep_1 : decode cX1_hasStep 1 = .ok (.ifCond .lt 15, 3) := by decide +kernel
theorem dX1_hasStep_4 : decode cX1_hasStep 4 = .ok (.iload_n 1, 1) := by decide +kernel
theorem dX1_hasStep_5 : decode cX1_hasStep 5 = .ok (.aload_n 0, 1) := by decide +kernel
theorem dX1_hasStep_6 : decode cX1_hasStep 6 = .ok (.getfield 37, 3) := by decide +kernel
theorem dX1_hasStep_9 : decode cX1_hasStep 9 = .ok (.if_icmp .ge 7, 3) := by decide +kernel
theorem dX1_hasStep_12 : decode cX1_hasStep 12 = .ok (.iconst 1, 1) := by decide +kernel
theorem dX1_hasStep_13 : decode cX1_hasStep 13 = .ok (.goto 4, 3) := by decide +kernel
theorem dX1_hasStep_16 : decode cX1_hasStep 16 = .ok (.iconst 0, 1) := by decide +kernel
theorem dX1_hasStep_17 : decode cX1_hasStep 17 = .ok (.ireturn, 1) := by decide +kernel
theorem dX1_hasPlace_0 : decode cX1_hasPlace 0 = .ok (.iload_n 1, 1) := by decide +kernel
theorem dX1_hasPlace_1 : decode cX1_hasPlace 1 = .ok (.ifCond .lt 15, 3) := by decide +kernel
theorem dX1_hasPlace_4 : decode cX1_hasPlace 4 = .ok (.iload_n 1, 1) := by decide +kernel
theorem dX1_hasPlace_5 : decode cX1_hasPlace 5 = .ok (.aload_n 0, 1) := by decide +kernel
theorem dX1_hasPlace_6 : decode cX1_hasPlace 6 = .ok (.getfield 33, 3) := by decide +kernel
theorem dX1_hasPlace_9 : decode cX1_hasPlace 9 = .ok (.if_icmp .ge 7, 3) := by decide +kernel
theorem dX1_hasPlace_12 : decode cX1_hasPlace 12 = .ok (.iconst 1, 1) := by decide +kernel
theorem dX1_hasPlace_13 : decode cX1_hasPlace 13 = .ok (.goto 4, 3) := by decide +kernel
theorem dX1_hasPlace_16 : decode cX1_hasPlace 16 = .ok (.iconst 0, 1) := by decide +kernel
theorem dX1_hasPlace_17 : decode cX1_hasPlace 17 = .ok (.ireturn, 1) := by decide +kernel
theorem dX1_hasCard_0 : decode cX1_hasCard 0 = .ok (.iload_n 1, 1) := by decide +kernel
theorem dX1_hasCard_1 : decode cX1_hasCard 1 = .ok (.ifCond .lt 15, 3) := by decide +kernel
theorem dX1_hasCard_4 : decode cX1_hasCard 4 = .ok (.iload_n 1, 1) := by decide +kernel
theorem dX1_hasCard_5 : decode cX1_hasCard 5 = .ok (.aload_n 0, 1) := by decide +kernel
theorem dX1_hasCard_6 : decode cX1_hasCard 6 = .ok (.getfield 33, 3) := by decide +kernel
theorem dX1_hasCard_9 : decode cX1_hasCard 9 = .ok (.if_icmp .ge 7, 3) := by decide +kernel
theorem dX1_hasCard_12 : decode cX1_hasCard 12 = .ok (.iconst 1, 1) := by decide +kernel
theorem dX1_hasCard_13 : decode cX1_hasCard 13 = .ok (.goto 4, 3) := by decide +kernel
theorem dX1_hasCard_16 : decode cX1_hasCard 16 = .ok (.iconst 0, 1) := by decide +kernel
theorem dX1_hasCard_17 : decode cX1_hasCard 17 = .ok (.ireturn, 1) := by decide +kernel
theorem dX1_setStep_0 : decode cX1_setStep 0 = .ok (.aload_n 0, 1) := by decide +kernel
theorem dX1_setStep_1 : decode cX1_setStep 1 = .ok (.getfield 9, 3) := by decide +kernel
theorem dX1_setStep_4 : decode cX1_setStep 4 = .ok (.iload_n 1, 1) := by decide +kernel
theorem dX1_setStep_5 : decode cX1_setStep 5 = .ok (.iload_n 2, 1) := by decide +kernel
theorem dX1_setStep_6 : decode cX1_setStep 6 = .ok (.iastore, 1) := by decide +kernel
theorem dX1_setStep_7 : decode cX1_setStep 7 = .ok (.aload_n 0, 1) := by decide +kernel
theorem dX1_setStep_8 : decode cX1_setStep 8 = .ok (.getfield 15, 3) := by decide +kernel
theorem dX1_setStep_11 : decode cX1_setStep 11 = .ok (.iload_n 1, 1) := by decide +kernel
theorem dX1_setStep_12 : decode cX1_setStep 12 = .ok (.iload_n 3, 1) := by decide +kernel
theorem dX1_setStep_13 : decode cX1_setStep 13 = .ok (.iastore, 1) := by decide +kernel
theorem dX1_setStep_14 : decode cX1_setStep 14 = .ok (.iconst 0, 1) := by decide +kernel
theorem dX1_setStep_15 : decode cX1_setStep 15 = .ok (.istore 4, 2) := by decide +kernel
theorem dX1_setStep_17 : decode cX1_setStep 17 = .ok (.iload 4, 2) := by decide +kernel
theorem dX1_setStep_19 : decode cX1_setStep 19 = .ok (.aload_n 0, 1) := by decide +kernel
theorem dX1_setStep_20 : decode cX1_setStep 20 = .ok (.getfield 33, 3) := by decide +kernel
theorem dX1_setStep_23 : decode cX1_setStep 23 = .ok (.if_icmp .ge 32, 3) := by decide +kernel
theorem dX1_setStep_26 : decode cX1_setStep 26 = .ok (.aload_n 0, 1) := by decide +kernel
theorem dX1_setStep_27 : decode cX1_setStep 27 = .ok (.getfield 18, 3) := by decide +kernel
theorem dX1_setStep_30 : decode cX1_setStep 30 = .ok (.iload_n 1, 1) := by decide +kernel
theorem dX1_setStep_31 : decode cX1_setStep 31 = .ok (.bipush 12, 2) := by decide +kernel
theorem dX1_setStep_33 : decode cX1_setStep 33 = .ok (.imul, 1) := by decide +kernel
theorem dX1_setStep_34 : decode cX1_setStep 34 = .ok (.iload 4, 2) := by decide +kernel
theorem dX1_setStep_36 : decode cX1_setStep 36 = .ok (.iadd, 1) := by decide +kernel
theorem dX1_setStep_37 : decode cX1_setStep 37 = .ok (.iload_n 2, 1) := by decide +kernel
theorem dX1_setStep_38 : decode cX1_setStep 38 = .ok (.iload_n 3, 1) := by decide +kernel
theorem dX1_setStep_39 : decode cX1_setStep 39 = .ok (.aload_n 0, 1) := by decide +kernel
theorem dX1_setStep_40 : decode cX1_setStep 40 = .ok (.getfield 33, 3) := by decide +kernel
theorem dX1_setStep_43 : decode cX1_setStep 43 = .ok (.iload 4, 2) := by decide +kernel
theorem dX1_setStep_45 : decode cX1_setStep 45 = .ok (.invokestatic 55, 3) := by decide +kernel
theorem dX1_setStep_48 : decode cX1_setStep 48 = .ok (.iastore, 1) := by decide +kernel
theorem dX1_setStep_49 : decode cX1_setStep 49 = .ok (.iinc 4 1, 3) := by decide +kernel
theorem dX1_setStep_52 : decode cX1_setStep 52 = .ok (.goto (-35), 3) := by decide +kernel
theorem dX1_setStep_55 : decode cX1_setStep 55 = .ok (.return_, 1) := by decide +kernel
theorem dX1_placeBehind_0 : decode cX1_placeBehind 0 = .ok (.aload_n 0, 1) := by decide +kernel
theorem dX1_placeBehind_1 : decode cX1_placeBehind 1 = .ok (.getfield 18, 3) := by decide +kernel
theorem dX1_placeBehind_4 : decode cX1_placeBehind 4 = .ok (.iload_n 1, 1) := by decide +kernel
theorem dX1_placeBehind_5 : decode cX1_placeBehind 5 = .ok (.bipush 12, 2) := by decide +kernel
theorem dX1_placeBehind_7 : decode cX1_placeBehind 7 = .ok (.imul, 1) := by decide +kernel
theorem dX1_placeBehind_8 : decode cX1_placeBehind 8 = .ok (.iload_n 2, 1) := by decide +kernel
theorem dX1_placeBehind_9 : decode cX1_placeBehind 9 = .ok (.iadd, 1) := by decide +kernel
theorem dX1_placeBehind_10 : decode cX1_placeBehind 10 = .ok (.iaload, 1) := by decide +kernel
theorem dX1_placeBehind_11 : decode cX1_placeBehind 11 = .ok (.ireturn, 1) := by decide +kernel
theorem dX1_layInOrder_0 : decode cX1_layInOrder 0 = .ok (.iconst 0, 1) := by decide +kernel
theorem dX1_layInOrder_1 : decode cX1_layInOrder 1 = .ok (.istore_n 1, 1) := by decide +kernel
theorem dX1_layInOrder_2 : decode cX1_layInOrder 2 = .ok (.iload_n 1, 1) := by decide +kernel
theorem dX1_layInOrder_3 : decode cX1_layInOrder 3 = .ok (.aload_n 0, 1) := by decide +kernel
theorem dX1_layInOrder_4 : decode cX1_layInOrder 4 = .ok (.getfield 33, 3) := by decide +kernel
theorem dX1_layInOrder_7 : decode cX1_layInOrder 7 = .ok (.if_icmp .ge 16, 3) := by decide +kernel
theorem dX1_layInOrder_10 : decode cX1_layInOrder 10 = .ok (.aload_n 0, 1) := by decide +kernel
theorem dX1_layInOrder_11 : decode cX1_layInOrder 11 = .ok (.getfield 21, 3) := by decide +kernel
theorem dX1_layInOrder_14 : decode cX1_layInOrder 14 = .ok (.iload_n 1, 1) := by decide +kernel
theorem dX1_layInOrder_15 : decode cX1_layInOrder 15 = .ok (.iload_n 1, 1) := by decide +kernel
theorem dX1_layInOrder_16 : decode cX1_layInOrder 16 = .ok (.iastore, 1) := by decide +kernel
theorem dX1_layInOrder_17 : decode cX1_layInOrder 17 = .ok (.iinc 1 1, 3) := by decide +kernel
theorem dX1_layInOrder_20 : decode cX1_layInOrder 20 = .ok (.goto (-18), 3) := by decide +kernel
theorem dX1_layInOrder_23 : decode cX1_layInOrder 23 = .ok (.return_, 1) := by decide +kernel
theorem dX1_placeOf_0 : decode cX1_placeOf 0 = .ok (.iconst 0, 1) := by decide +kernel
theorem dX1_placeOf_1 : decode cX1_placeOf 1 = .ok (.istore_n 2, 1) := by decide +kernel
theorem dX1_placeOf_2 : decode cX1_placeOf 2 = .ok (.iload_n 2, 1) := by decide +kernel
theorem dX1_placeOf_3 : decode cX1_placeOf 3 = .ok (.aload_n 0, 1) := by decide +kernel
theorem dX1_placeOf_4 : decode cX1_placeOf 4 = .ok (.getfield 33, 3) := by decide +kernel
theorem dX1_placeOf_7 : decode cX1_placeOf 7 = .ok (.if_icmp .ge 21, 3) := by decide +kernel
theorem dX1_placeOf_10 : decode cX1_placeOf 10 = .ok (.aload_n 0, 1) := by decide +kernel
theorem dX1_placeOf_11 : decode cX1_placeOf 11 = .ok (.getfield 21, 3) := by decide +kernel
theorem dX1_placeOf_14 : decode cX1_placeOf 14 = .ok (.iload_n 2, 1) := by decide +kernel
theorem dX1_placeOf_15 : decode cX1_placeOf 15 = .ok (.iaload, 1) := by decide +kernel
theorem dX1_placeOf_16 : decode cX1_placeOf 16 = .ok (.iload_n 1, 1) := by decide +kernel
theorem dX1_placeOf_17 : decode cX1_placeOf 17 = .ok (.if_icmp .ne 5, 3) := by decide +kernel
theorem dX1_placeOf_20 : decode cX1_placeOf 20 = .ok (.iload_n 2, 1) := by decide +kernel
theorem dX1_placeOf_21 : decode cX1_placeOf 21 = .ok (.ireturn, 1) := by decide +kernel
theorem dX1_placeOf_22 : decode cX1_placeOf 22 = .ok (.iinc 2 1, 3) := by decide +kernel
theorem dX1_placeOf_25 : decode cX1_placeOf 25 = .ok (.goto (-23), 3) := by decide +kernel
theorem dX1_placeOf_28 : decode cX1_placeOf 28 = .ok (.iconst 0, 1) := by decide +kernel
theorem dX1_placeOf_29 : decode cX1_placeOf 29 = .ok (.ireturn, 1) := by decide +kernel
theorem dX1_asAtFirst_0 : decode cX1_asAtFirst 0 = .ok (.iconst 0, 1) := by decide +kernel
theorem dX1_asAtFirst_1 : decode cX1_asAtFirst 1 = .ok (.istore_n 1, 1) := by decide +kernel
theorem dX1_asAtFirst_2 : decode cX1_asAtFirst 2 = .ok (.iconst 0, 1) := by decide +kernel
theorem dX1_asAtFirst_3 : decode cX1_asAtFirst 3 = .ok (.istore_n 2, 1) := by decide +kernel
theorem dX1_asAtFirst_4 : decode cX1_asAtFirst 4 = .ok (.iload_n 2, 1) := by decide +kernel
theorem dX1_asAtFirst_5 : decode cX1_asAtFirst 5 = .ok (.aload_n 0, 1) := by decide +kernel
theorem dX1_asAtFirst_6 : decode cX1_asAtFirst 6 = .ok (.getfield 33, 3) := by decide +kernel
theorem dX1_asAtFirst_9 : decode cX1_asAtFirst 9 = .ok (.if_icmp .ge 22, 3) := by decide +kernel
theorem dX1_asAtFirst_12 : decode cX1_asAtFirst 12 = .ok (.aload_n 0, 1) := by decide +kernel
theorem dX1_asAtFirst_13 : decode cX1_asAtFirst 13 = .ok (.getfield 21, 3) := by decide +kernel
theorem dX1_asAtFirst_16 : decode cX1_asAtFirst 16 = .ok (.iload_n 2, 1) := by decide +kernel
theorem dX1_asAtFirst_17 : decode cX1_asAtFirst 17 = .ok (.iaload, 1) := by decide +kernel
theorem dX1_asAtFirst_18 : decode cX1_asAtFirst 18 = .ok (.iload_n 2, 1) := by decide +kernel
theorem dX1_asAtFirst_19 : decode cX1_asAtFirst 19 = .ok (.if_icmp .ne 6, 3) := by decide +kernel
theorem dX1_asAtFirst_22 : decode cX1_asAtFirst 22 = .ok (.iinc 1 1, 3) := by decide +kernel
theorem dX1_asAtFirst_25 : decode cX1_asAtFirst 25 = .ok (.iinc 2 1, 3) := by decide +kernel
theorem dX1_asAtFirst_28 : decode cX1_asAtFirst 28 = .ok (.goto (-24), 3) := by decide +kernel
theorem dX1_asAtFirst_31 : decode cX1_asAtFirst 31 = .ok (.iload_n 1, 1) := by decide +kernel
theorem dX1_asAtFirst_32 : decode cX1_asAtFirst 32 = .ok (.ireturn, 1) := by decide +kernel
theorem dX1_asAtFirstBehind_0 : decode cX1_asAtFirstBehind 0 = .ok (.iconst 0, 1) := by decide +kernel
theorem dX1_asAtFirstBehind_1 : decode cX1_asAtFirstBehind 1 = .ok (.istore_n 2, 1) := by decide +kernel
theorem dX1_asAtFirstBehind_2 : decode cX1_asAtFirstBehind 2 = .ok (.iconst 0, 1) := by decide +kernel
theorem dX1_asAtFirstBehind_3 : decode cX1_asAtFirstBehind 3 = .ok (.istore_n 3, 1) := by decide +kernel
theorem dX1_asAtFirstBehind_4 : decode cX1_asAtFirstBehind 4 = .ok (.iload_n 3, 1) := by decide +kernel
theorem dX1_asAtFirstBehind_5 : decode cX1_asAtFirstBehind 5 = .ok (.aload_n 0, 1) := by decide +kernel
theorem dX1_asAtFirstBehind_6 : decode cX1_asAtFirstBehind 6 = .ok (.getfield 33, 3) := by decide +kernel
theorem dX1_asAtFirstBehind_9 : decode cX1_asAtFirstBehind 9 = .ok (.if_icmp .ge 27, 3) := by decide +kernel
theorem dX1_asAtFirstBehind_12 : decode cX1_asAtFirstBehind 12 = .ok (.aload_n 0, 1) := by decide +kernel
theorem dX1_asAtFirstBehind_13 : decode cX1_asAtFirstBehind 13 = .ok (.getfield 21, 3) := by decide +kernel
theorem dX1_asAtFirstBehind_16 : decode cX1_asAtFirstBehind 16 = .ok (.iload_n 3, 1) := by decide +kernel
theorem dX1_asAtFirstBehind_17 : decode cX1_asAtFirstBehind 17 = .ok (.iaload, 1) := by decide +kernel
theorem dX1_asAtFirstBehind_18 : decode cX1_asAtFirstBehind 18 = .ok (.aload_n 1, 1) := by decide +kernel
theorem dX1_asAtFirstBehind_19 : decode cX1_asAtFirstBehind 19 = .ok (.getfield 59, 3) := by decide +kernel
theorem dX1_asAtFirstBehind_22 : decode cX1_asAtFirstBehind 22 = .ok (.iload_n 3, 1) := by decide +kernel
theorem dX1_asAtFirstBehind_23 : decode cX1_asAtFirstBehind 23 = .ok (.iaload, 1) := by decide +kernel
theorem dX1_asAtFirstBehind_24 : decode cX1_asAtFirstBehind 24 = .ok (.if_icmp .ne 6, 3) := by decide +kernel
theorem dX1_asAtFirstBehind_27 : decode cX1_asAtFirstBehind 27 = .ok (.iinc 2 1, 3) := by decide +kernel
theorem dX1_asAtFirstBehind_30 : decode cX1_asAtFirstBehind 30 = .ok (.iinc 3 1, 3) := by decide +kernel
theorem dX1_asAtFirstBehind_33 : decode cX1_asAtFirstBehind 33 = .ok (.goto (-29), 3) := by decide +kernel
theorem dX1_asAtFirstBehind_36 : decode cX1_asAtFirstBehind 36 = .ok (.iload_n 2, 1) := by decide +kernel
theorem dX1_asAtFirstBehind_37 : decode cX1_asAtFirstBehind 37 = .ok (.ireturn, 1) := by decide +kernel
theorem dX1_topBehind_0 : decode cX1_topBehind 0 = .ok (.iconst 0, 1) := by decide +kernel
theorem dX1_topBehind_1 : decode cX1_topBehind 1 = .ok (.istore_n 2, 1) := by decide +kernel
theorem dX1_topBehind_2 : decode cX1_topBehind 2 = .ok (.iload_n 2, 1) := by decide +kernel
theorem dX1_topBehind_3 : decode cX1_topBehind 3 = .ok (.aload_n 0, 1) := by decide +kernel
theorem dX1_topBehind_4 : decode cX1_topBehind 4 = .ok (.getfield 33, 3) := by decide +kernel
theorem dX1_topBehind_7 : decode cX1_topBehind 7 = .ok (.if_icmp .ge 25, 3) := by decide +kernel
theorem dX1_topBehind_10 : decode cX1_topBehind 10 = .ok (.aload_n 1, 1) := by decide +kernel
theorem dX1_topBehind_11 : decode cX1_topBehind 11 = .ok (.getfield 59, 3) := by decide +kernel
theorem dX1_topBehind_14 : decode cX1_topBehind 14 = .ok (.iload_n 2, 1) := by decide +kernel
theorem dX1_topBehind_15 : decode cX1_topBehind 15 = .ok (.iaload, 1) := by decide +kernel
theorem dX1_topBehind_16 : decode cX1_topBehind 16 = .ok (.ifCond .ne 10, 3) := by decide +kernel
theorem dX1_topBehind_19 : decode cX1_topBehind 19 = .ok (.aload_n 0, 1) := by decide +kernel
theorem dX1_topBehind_20 : decode cX1_topBehind 20 = .ok (.getfield 21, 3) := by decide +kernel
theorem dX1_topBehind_23 : decode cX1_topBehind 23 = .ok (.iload_n 2, 1) := by decide +kernel
theorem dX1_topBehind_24 : decode cX1_topBehind 24 = .ok (.iaload, 1) := by decide +kernel
theorem dX1_topBehind_25 : decode cX1_topBehind 25 = .ok (.ireturn, 1) := by decide +kernel
theorem dX1_topBehind_26 : decode cX1_topBehind 26 = .ok (.iinc 2 1, 3) := by decide +kernel
theorem dX1_topBehind_29 : decode cX1_topBehind 29 = .ok (.goto (-27), 3) := by decide +kernel
theorem dX1_topBehind_32 : decode cX1_topBehind 32 = .ok (.iconst (-1), 1) := by decide +kernel
theorem dX1_topBehind_33 : decode cX1_topBehind 33 = .ok (.ireturn, 1) := by decide +kernel
theorem dX1_wrongTwos_0 : decode cX1_wrongTwos 0 = .ok (.iconst 0, 1) := by decide +kernel
theorem dX1_wrongTwos_1 : decode cX1_wrongTwos 1 = .ok (.istore_n 1, 1) := by decide +kernel
theorem dX1_wrongTwos_2 : decode cX1_wrongTwos 2 = .ok (.iconst 1, 1) := by decide +kernel
theorem dX1_wrongTwos_3 : decode cX1_wrongTwos 3 = .ok (.istore_n 2, 1) := by decide +kernel
theorem dX1_wrongTwos_4 : decode cX1_wrongTwos 4 = .ok (.iload_n 2, 1) := by decide +kernel
theorem dX1_wrongTwos_5 : decode cX1_wrongTwos 5 = .ok (.aload_n 0, 1) := by decide +kernel
theorem dX1_wrongTwos_6 : decode cX1_wrongTwos 6 = .ok (.getfield 33, 3) := by decide +kernel
theorem dX1_wrongTwos_9 : decode cX1_wrongTwos 9 = .ok (.if_icmp .ge 40, 3) := by decide +kernel
theorem dX1_wrongTwos_12 : decode cX1_wrongTwos 12 = .ok (.iconst 0, 1) := by decide +kernel
theorem dX1_wrongTwos_13 : decode cX1_wrongTwos 13 = .ok (.istore_n 3, 1) := by decide +kernel
theorem dX1_wrongTwos_14 : decode cX1_wrongTwos 14 = .ok (.iload_n 3, 1) := by decide +kernel
theorem dX1_wrongTwos_15 : decode cX1_wrongTwos 15 = .ok (.iload_n 2, 1) := by decide +kernel
theorem dX1_wrongTwos_16 : decode cX1_wrongTwos 16 = .ok (.if_icmp .ge 27, 3) := by decide +kernel
theorem dX1_wrongTwos_19 : decode cX1_wrongTwos 19 = .ok (.aload_n 0, 1) := by decide +kernel
theorem dX1_wrongTwos_20 : decode cX1_wrongTwos 20 = .ok (.getfield 21, 3) := by decide +kernel
theorem dX1_wrongTwos_23 : decode cX1_wrongTwos 23 = .ok (.iload_n 3, 1) := by decide +kernel
theorem dX1_wrongTwos_24 : decode cX1_wrongTwos 24 = .ok (.iaload, 1) := by decide +kernel
theorem dX1_wrongTwos_25 : decode cX1_wrongTwos 25 = .ok (.aload_n 0, 1) := by decide +kernel
theorem dX1_wrongTwos_26 : decode cX1_wrongTwos 26 = .ok (.getfield 21, 3) := by decide +kernel
theorem dX1_wrongTwos_29 : decode cX1_wrongTwos 29 = .ok (.iload_n 2, 1) := by decide +kernel
theorem dX1_wrongTwos_30 : decode cX1_wrongTwos 30 = .ok (.iaload, 1) := by decide +kernel
theorem dX1_wrongTwos_31 : decode cX1_wrongTwos 31 = .ok (.if_icmp .le 6, 3) := by decide +kernel
theorem dX1_wrongTwos_34 : decode cX1_wrongTwos 34 = .ok (.iinc 1 1, 3) := by decide +kernel
theorem dX1_wrongTwos_37 : decode cX1_wrongTwos 37 = .ok (.iinc 3 1, 3) := by decide +kernel
theorem dX1_wrongTwos_40 : decode cX1_wrongTwos 40 = .ok (.goto (-26), 3) := by decide +kernel
theorem dX1_wrongTwos_43 : decode cX1_wrongTwos 43 = .ok (.iinc 2 1, 3) := by decide +kernel
theorem dX1_wrongTwos_46 : decode cX1_wrongTwos 46 = .ok (.goto (-42), 3) := by decide +kernel
theorem dX1_wrongTwos_49 : decode cX1_wrongTwos 49 = .ok (.iload_n 1, 1) := by decide +kernel
theorem dX1_wrongTwos_50 : decode cX1_wrongTwos 50 = .ok (.ireturn, 1) := by decide +kernel
theorem dX1_addSeen_0 : decode cX1_addSeen 0 = .ok (.aload_n 0, 1) := by decide +kernel
theorem dX1_addSeen_1 : decode cX1_addSeen 1 = .ok (.getfield 43, 3) := by decide +kernel
theorem dX1_addSeen_4 : decode cX1_addSeen 4 = .ok (.bipush 6, 2) := by decide +kernel
theorem dX1_addSeen_6 : decode cX1_addSeen 6 = .ok (.if_icmp .ge 43, 3) := by decide +kernel
theorem dX1_addSeen_9 : decode cX1_addSeen 9 = .ok (.aload_n 0, 1) := by decide +kernel
theorem dX1_addSeen_10 : decode cX1_addSeen 10 = .ok (.getfield 24, 3) := by decide +kernel
theorem dX1_addSeen_13 : decode cX1_addSeen 13 = .ok (.aload_n 0, 1) := by decide +kernel
theorem dX1_addSeen_14 : decode cX1_addSeen 14 = .ok (.getfield 43, 3) := by decide +kernel
theorem dX1_addSeen_17 : decode cX1_addSeen 17 = .ok (.iload_n 1, 1) := by decide +kernel
theorem dX1_addSeen_18 : decode cX1_addSeen 18 = .ok (.iastore, 1) := by decide +kernel
theorem dX1_addSeen_19 : decode cX1_addSeen 19 = .ok (.aload_n 0, 1) := by decide +kernel
theorem dX1_addSeen_20 : decode cX1_addSeen 20 = .ok (.getfield 27, 3) := by decide +kernel
theorem dX1_addSeen_23 : decode cX1_addSeen 23 = .ok (.aload_n 0, 1) := by decide +kernel
theorem dX1_addSeen_24 : decode cX1_addSeen 24 = .ok (.getfield 43, 3) := by decide +kernel
theorem dX1_addSeen_27 : decode cX1_addSeen 27 = .ok (.iload_n 2, 1) := by decide +kernel
theorem dX1_addSeen_28 : decode cX1_addSeen 28 = .ok (.iastore, 1) := by decide +kernel
theorem dX1_addSeen_29 : decode cX1_addSeen 29 = .ok (.aload_n 0, 1) := by decide +kernel
theorem dX1_addSeen_30 : decode cX1_addSeen 30 = .ok (.getfield 30, 3) := by decide +kernel
theorem dX1_addSeen_33 : decode cX1_addSeen 33 = .ok (.aload_n 0, 1) := by decide +kernel
theorem dX1_addSeen_34 : decode cX1_addSeen 34 = .ok (.getfield 43, 3) := by decide +kernel
theorem dX1_addSeen_37 : decode cX1_addSeen 37 = .ok (.iload_n 3, 1) := by decide +kernel
theorem dX1_addSeen_38 : decode cX1_addSeen 38 = .ok (.iastore, 1) := by decide +kernel
theorem dX1_addSeen_39 : decode cX1_addSeen 39 = .ok (.aload_n 0, 1) := by decide +kernel
theorem dX1_addSeen_40 : decode cX1_addSeen 40 = .ok (.dup, 1) := by decide +kernel
theorem dX1_addSeen_41 : decode cX1_addSeen 41 = .ok (.getfield 43, 3) := by decide +kernel
theorem dX1_addSeen_44 : decode cX1_addSeen 44 = .ok (.iconst 1, 1) := by decide +kernel
theorem dX1_addSeen_45 : decode cX1_addSeen 45 = .ok (.iadd, 1) := by decide +kernel
theorem dX1_addSeen_46 : decode cX1_addSeen 46 = .ok (.putfield 43, 3) := by decide +kernel
theorem dX1_addSeen_49 : decode cX1_addSeen 49 = .ok (.return_, 1) := by decide +kernel
theorem dX1_possibleNumbers_0 : decode cX1_possibleNumbers 0 = .ok (.iconst 0, 1) := by decide +kernel
theorem dX1_possibleNumbers_1 : decode cX1_possibleNumbers 1 = .ok (.istore_n 2, 1) := by decide +kernel
theorem dX1_possibleNumbers_2 : decode cX1_possibleNumbers 2 = .ok (.iconst 0, 1) := by decide +kernel
theorem dX1_possibleNumbers_3 : decode cX1_possibleNumbers 3 = .ok (.istore_n 3, 1) := by decide +kernel
theorem dX1_possibleNumbers_4 : decode cX1_possibleNumbers 4 = .ok (.iload_n 3, 1) := by decide +kernel
theorem dX1_possibleNumbers_5 : decode cX1_possibleNumbers 5 = .ok (.bipush 10, 2) := by decide +kernel
theorem dX1_possibleNumbers_7 : decode cX1_possibleNumbers 7 = .ok (.if_icmp .ge 24, 3) := by decide +kernel
theorem dX1_possibleNumbers_10 : decode cX1_possibleNumbers 10 = .ok (.aload_n 0, 1) := by decide +kernel
theorem dX1_possibleNumbers_11 : decode cX1_possibleNumbers 11 = .ok (.iload_n 1, 1) := by decide +kernel
theorem dX1_possibleNumbers_12 : decode cX1_possibleNumbers 12 = .ok (.iload_n 3, 1) := by decide +kernel
theorem dX1_possibleNumbers_13 : decode cX1_possibleNumbers 13 = .ok (.invokevirtual 64, 3) := by decide +kernel
theorem dX1_possibleNumbers_16 : decode cX1_possibleNumbers 16 = .ok (.ifCond .eq 9, 3) := by decide +kernel
theorem dX1_possibleNumbers_19 : decode cX1_possibleNumbers 19 = .ok (.iload_n 2, 1) := by decide +kernel
theorem dX1_possibleNumbers_20 : decode cX1_possibleNumbers 20 = .ok (.iconst 1, 1) := by decide +kernel
theorem dX1_possibleNumbers_21 : decode cX1_possibleNumbers 21 = .ok (.iload_n 3, 1) := by decide +kernel
theorem dX1_possibleNumbers_22 : decode cX1_possibleNumbers 22 = .ok (.ishl, 1) := by decide +kernel
theorem dX1_possibleNumbers_23 : decode cX1_possibleNumbers 23 = .ok (.ior, 1) := by decide +kernel
theorem dX1_possibleNumbers_24 : decode cX1_possibleNumbers 24 = .ok (.istore_n 2, 1) := by decide +kernel
theorem dX1_possibleNumbers_25 : decode cX1_possibleNumbers 25 = .ok (.iinc 3 1, 3) := by decide +kernel
theorem dX1_possibleNumbers_28 : decode cX1_possibleNumbers 28 = .ok (.goto (-24), 3) := by decide +kernel
theorem dX1_possibleNumbers_31 : decode cX1_possibleNumbers 31 = .ok (.iload_n 2, 1) := by decide +kernel
theorem dX1_possibleNumbers_32 : decode cX1_possibleNumbers 32 = .ok (.ireturn, 1) := by decide +kernel
theorem dX1_agreesWithSeen_0 : decode cX1_agreesWithSeen 0 = .ok (.iconst 0, 1) := by decide +kernel
theorem dX1_agreesWithSeen_1 : decode cX1_agreesWithSeen 1 = .ok (.istore_n 3, 1) := by decide +kernel
theorem dX1_agreesWithSeen_2 : decode cX1_agreesWithSeen 2 = .ok (.iload_n 3, 1) := by decide +kernel
theorem dX1_agreesWithSeen_3 : decode cX1_agreesWithSeen 3 = .ok (.aload_n 0, 1) := by decide +kernel
theorem dX1_agreesWithSeen_4 : decode cX1_agreesWithSeen 4 = .ok (.getfield 43, 3) := by decide +kernel
theorem dX1_agreesWithSeen_7 : decode cX1_agreesWithSeen 7 = .ok (.if_icmp .ge 50, 3) := by decide +kernel
theorem dX1_agreesWithSeen_10 : decode cX1_agreesWithSeen 10 = .ok (.aload_n 0, 1) := by decide +kernel
theorem dX1_agreesWithSeen_11 : decode cX1_agreesWithSeen 11 = .ok (.getfield 24, 3) := by decide +kernel
theorem dX1_agreesWithSeen_14 : decode cX1_agreesWithSeen 14 = .ok (.iload_n 3, 1) := by decide +kernel
theorem dX1_agreesWithSeen_15 : decode cX1_agreesWithSeen 15 = .ok (.iaload, 1) := by decide +kernel
theorem dX1_agreesWithSeen_16 : decode cX1_agreesWithSeen 16 = .ok (.iload_n 1, 1) := by decide +kernel
theorem dX1_agreesWithSeen_17 : decode cX1_agreesWithSeen 17 = .ok (.if_icmp .ne 34, 3) := by decide +kernel
theorem dX1_agreesWithSeen_20 : decode cX1_agreesWithSeen 20 = .ok (.aload_n 0, 1) := by decide +kernel
theorem dX1_agreesWithSeen_21 : decode cX1_agreesWithSeen 21 = .ok (.getfield 9, 3) := by decide +kernel
theorem dX1_agreesWithSeen_24 : decode cX1_agreesWithSeen 24 = .ok (.iload_n 1, 1) := by decide +kernel
theorem dX1_agreesWithSeen_25 : decode cX1_agreesWithSeen 25 = .ok (.iaload, 1) := by decide +kernel
theorem dX1_agreesWithSeen_26 : decode cX1_agreesWithSeen 26 = .ok (.iload_n 2, 1) := by decide +kernel
theorem dX1_agreesWithSeen_27 : decode cX1_agreesWithSeen 27 = .ok (.aload_n 0, 1) := by decide +kernel
theorem dX1_agreesWithSeen_28 : decode cX1_agreesWithSeen 28 = .ok (.getfield 33, 3) := by decide +kernel
theorem dX1_agreesWithSeen_31 : decode cX1_agreesWithSeen 31 = .ok (.aload_n 0, 1) := by decide +kernel
theorem dX1_agreesWithSeen_32 : decode cX1_agreesWithSeen 32 = .ok (.getfield 27, 3) := by decide +kernel
theorem dX1_agreesWithSeen_35 : decode cX1_agreesWithSeen 35 = .ok (.iload_n 3, 1) := by decide +kernel
theorem dX1_agreesWithSeen_36 : decode cX1_agreesWithSeen 36 = .ok (.iaload, 1) := by decide +kernel
theorem dX1_agreesWithSeen_37 : decode cX1_agreesWithSeen 37 = .ok (.invokestatic 55, 3) := by decide +kernel
theorem dX1_agreesWithSeen_40 : decode cX1_agreesWithSeen 40 = .ok (.aload_n 0, 1) := by decide +kernel
theorem dX1_agreesWithSeen_41 : decode cX1_agreesWithSeen 41 = .ok (.getfield 30, 3) := by decide +kernel
theorem dX1_agreesWithSeen_44 : decode cX1_agreesWithSeen 44 = .ok (.iload_n 3, 1) := by decide +kernel
theorem dX1_agreesWithSeen_45 : decode cX1_agreesWithSeen 45 = .ok (.iaload, 1) := by decide +kernel
theorem dX1_agreesWithSeen_46 : decode cX1_agreesWithSeen 46 = .ok (.if_icmp .eq 5, 3) := by decide +kernel
theorem dX1_agreesWithSeen_49 : decode cX1_agreesWithSeen 49 = .ok (.iconst 0, 1) := by decide +kernel
theorem dX1_agreesWithSeen_50 : decode cX1_agreesWithSeen 50 = .ok (.ireturn, 1) := by decide +kernel
theorem dX1_agreesWithSeen_51 : decode cX1_agreesWithSeen 51 = .ok (.iinc 3 1, 3) := by decide +kernel
theorem dX1_agreesWithSeen_54 : decode cX1_agreesWithSeen 54 = .ok (.goto (-52), 3) := by decide +kernel
theorem dX1_agreesWithSeen_57 : decode cX1_agreesWithSeen 57 = .ok (.iconst 1, 1) := by decide +kernel
theorem dX1_agreesWithSeen_58 : decode cX1_agreesWithSeen 58 = .ok (.ireturn, 1) := by decide +kernel
theorem dX2_init_0 : decode cX2_init 0 = .ok (.aload_n 0, 1) := by decide +kernel
theorem dX2_init_1 : decode cX2_init 1 = .ok (.invokespecial 3, 3) := by decide +kernel
theorem dX2_init_4 : decode cX2_init 4 = .ok (.aload_n 0, 1) := by decide +kernel
theorem dX2_init_5 : decode cX2_init 5 = .ok (.bipush 12, 2) := by decide +kernel
theorem dX2_init_7 : decode cX2_init 7 = .ok (.newarray .int, 2) := by decide +kernel
theorem dX2_init_9 : decode cX2_init 9 = .ok (.putfield 9, 3) := by decide +kernel
theorem dX2_init_12 : decode cX2_init 12 = .ok (.return_, 1) := by decide +kernel
theorem dX2_begin_0 : decode cX2_begin 0 = .ok (.aload_n 0, 1) := by decide +kernel
theorem dX2_begin_1 : decode cX2_begin 1 = .ok (.iload_n 1, 1) := by decide +kernel
theorem dX2_begin_2 : decode cX2_begin 2 = .ok (.putfield 15, 3) := by decide +kernel
theorem dX2_begin_5 : decode cX2_begin 5 = .ok (.iconst 0, 1) := by decide +kernel
theorem dX2_begin_6 : decode cX2_begin 6 = .ok (.istore_n 2, 1) := by decide +kernel
theorem dX2_begin_7 : decode cX2_begin 7 = .ok (.iload_n 2, 1) := by decide +kernel
theorem dX2_begin_8 : decode cX2_begin 8 = .ok (.aload_n 0, 1) := by decide +kernel
theorem dX2_begin_9 : decode cX2_begin 9 = .ok (.getfield 15, 3) := by decide +kernel
theorem dX2_begin_12 : decode cX2_begin 12 = .ok (.if_icmp .ge 16, 3) := by decide +kernel
theorem dX2_begin_15 : decode cX2_begin 15 = .ok (.aload_n 0, 1) := by decide +kernel
theorem dX2_begin_16 : decode cX2_begin 16 = .ok (.getfield 9, 3) := by decide +kernel
theorem dX2_begin_19 : decode cX2_begin 19 = .ok (.iload_n 2, 1) := by decide +kernel
theorem dX2_begin_20 : decode cX2_begin 20 = .ok (.iload_n 2, 1) := by decide +kernel
theorem dX2_begin_21 : decode cX2_begin 21 = .ok (.iastore, 1) := by decide +kernel
theorem dX2_begin_22 : decode cX2_begin 22 = .ok (.iinc 2 1, 3) := by decide +kernel
theorem dX2_begin_25 : decode cX2_begin 25 = .ok (.goto (-18), 3) := by decide +kernel
theorem dX2_begin_28 : decode cX2_begin 28 = .ok (.return_, 1) := by decide +kernel
theorem dX2_add_0 : decode cX2_add 0 = .ok (.iconst 0, 1) := by decide +kernel
theorem dX2_add_1 : decode cX2_add 1 = .ok (.istore_n 3, 1) := by decide +kernel
theorem dX2_add_2 : decode cX2_add 2 = .ok (.iload_n 3, 1) := by decide +kernel
theorem dX2_add_3 : decode cX2_add 3 = .ok (.aload_n 0, 1) := by decide +kernel
theorem dX2_add_4 : decode cX2_add 4 = .ok (.getfield 15, 3) := by decide +kernel
theorem dX2_add_7 : decode cX2_add 7 = .ok (.if_icmp .ge 26, 3) := by decide +kernel
theorem dX2_add_10 : decode cX2_add 10 = .ok (.aload_n 0, 1) := by decide +kernel
theorem dX2_add_11 : decode cX2_add 11 = .ok (.getfield 9, 3) := by decide +kernel
theorem dX2_add_14 : decode cX2_add 14 = .ok (.iload_n 3, 1) := by decide +kernel
theorem dX2_add_15 : decode cX2_add 15 = .ok (.aload_n 1, 1) := by decide +kernel
theorem dX2_add_16 : decode cX2_add 16 = .ok (.iload_n 2, 1) := by decide +kernel
theorem dX2_add_17 : decode cX2_add 17 = .ok (.aload_n 0, 1) := by decide +kernel
theorem dX2_add_18 : decode cX2_add 18 = .ok (.getfield 9, 3) := by decide +kernel
theorem dX2_add_21 : decode cX2_add 21 = .ok (.iload_n 3, 1) := by decide +kernel
theorem dX2_add_22 : decode cX2_add 22 = .ok (.iaload, 1) := by decide +kernel
theorem dX2_add_23 : decode cX2_add 23 = .ok (.invokevirtual 19, 3) := by decide +kernel
theorem dX2_add_26 : decode cX2_add 26 = .ok (.iastore, 1) := by decide +kernel
theorem dX2_add_27 : decode cX2_add 27 = .ok (.iinc 3 1, 3) := by decide +kernel
theorem dX2_add_30 : decode cX2_add 30 = .ok (.goto (-28), 3) := by decide +kernel
theorem dX2_add_33 : decode cX2_add 33 = .ok (.return_, 1) := by decide +kernel
theorem dX2_stayCount_0 : decode cX2_stayCount 0 = .ok (.iconst 0, 1) := by decide +kernel
theorem dX2_stayCount_1 : decode cX2_stayCount 1 = .ok (.istore_n 1, 1) := by decide +kernel
theorem dX2_stayCount_2 : decode cX2_stayCount 2 = .ok (.iconst 0, 1) := by decide +kernel
theorem dX2_stayCount_3 : decode cX2_stayCount 3 = .ok (.istore_n 2, 1) := by decide +kernel
theorem dX2_stayCount_4 : decode cX2_stayCount 4 = .ok (.iload_n 2, 1) := by decide +kernel
theorem dX2_stayCount_5 : decode cX2_stayCount 5 = .ok (.aload_n 0, 1) := by decide +kernel
theorem dX2_stayCount_6 : decode cX2_stayCount 6 = .ok (.getfield 15, 3) := by decide +kernel
theorem dX2_stayCount_9 : decode cX2_stayCount 9 = .ok (.if_icmp .ge 22, 3) := by decide +kernel
theorem dX2_stayCount_12 : decode cX2_stayCount 12 = .ok (.aload_n 0, 1) := by decide +kernel
theorem dX2_stayCount_13 : decode cX2_stayCount 13 = .ok (.getfield 9, 3) := by decide +kernel
theorem dX2_stayCount_16 : decode cX2_stayCount 16 = .ok (.iload_n 2, 1) := by decide +kernel
theorem dX2_stayCount_17 : decode cX2_stayCount 17 = .ok (.iaload, 1) := by decide +kernel
theorem dX2_stayCount_18 : decode cX2_stayCount 18 = .ok (.iload_n 2, 1) := by decide +kernel
theorem dX2_stayCount_19 : decode cX2_stayCount 19 = .ok (.if_icmp .ne 6, 3) := by decide +kernel
theorem dX2_stayCount_22 : decode cX2_stayCount 22 = .ok (.iinc 1 1, 3) := by decide +kernel
theorem dX2_stayCount_25 : decode cX2_stayCount 25 = .ok (.iinc 2 1, 3) := by decide +kernel
theorem dX2_stayCount_28 : decode cX2_stayCount 28 = .ok (.goto (-24), 3) := by decide +kernel
theorem dX2_stayCount_31 : decode cX2_stayCount 31 = .ok (.iload_n 1, 1) := by decide +kernel
theorem dX2_stayCount_32 : decode cX2_stayCount 32 = .ok (.ireturn, 1) := by decide +kernel
end
section
theorem dX2_ringLength_0 : decode cX2_ringLength 0 = .ok (.iconst 1, 1) := by decide +kernel
theorem dX2_ringLength_1 : decode cX2_ringLength 1 = .ok (.istore_n 2, 1) := by decide +kernel
theorem dX2_ringLength_2 : decode cX2_ringLength 2 = .ok (.aload_n 0, 1) := by decide +kernel
theorem dX2_ringLength_3 : decode cX2_ringLength 3 = .ok (.getfield 9, 3) := by decide +kernel
theorem dX2_ringLength_6 : decode cX2_ringLength 6 = .ok (.iload_n 1, 1) := by decide +kernel
theorem dX2_ringLength_7 : decode cX2_ringLength 7 = .ok (.iaload, 1) := by decide +kernel
theorem dX2_ringLength_8 : decode cX2_ringLength 8 = .ok (.istore_n 3, 1) := by decide +kernel
theorem dX2_ringLength_9 : decode cX2_ringLength 9 = .ok (.iload_n 3, 1) := by decide +kernel
theorem dX2_ringLength_10 : decode cX2_ringLength 10 = .ok (.iload_n 1, 1) := by decide +kernel
theorem dX2_ringLength_11 : decode cX2_ringLength 11 = .ok (.if_icmp .eq 24, 3) := by decide +kernel
theorem dX2_ringLength_14 : decode cX2_ringLength 14 = .ok (.iload_n 2, 1) := by decide +kernel
theorem dX2_ringLength_15 : decode cX2_ringLength 15 = .ok (.aload_n 0, 1) := by decide +kernel
theorem dX2_ringLength_16 : decode cX2_ringLength 16 = .ok (.getfield 15, 3) := by decide +kernel
theorem dX2_ringLength_19 : decode cX2_ringLength 19 = .ok (.if_icmp .ge 16, 3) := by decide +kernel
theorem dX2_ringLength_22 : decode cX2_ringLength 22 = .ok (.aload_n 0, 1) := by decide +kernel
theorem dX2_ringLength_23 : decode cX2_ringLength 23 = .ok (.getfield 9, 3) := by decide +kernel
theorem dX2_ringLength_26 : decode cX2_ringLength 26 = .ok (.iload_n 3, 1) := by decide +kernel
theorem dX2_ringLength_27 : decode cX2_ringLength 27 = .ok (.iaload, 1) := by decide +kernel
theorem dX2_ringLength_28 : decode cX2_ringLength 28 = .ok (.istore_n 3, 1) := by decide +kernel
theorem dX2_ringLength_29 : decode cX2_ringLength 29 = .ok (.iinc 2 1, 3) := by decide +kernel
theorem dX2_ringLength_32 : decode cX2_ringLength 32 = .ok (.goto (-23), 3) := by decide +kernel
theorem dX2_ringLength_35 : decode cX2_ringLength 35 = .ok (.iload_n 2, 1) := by decide +kernel
theorem dX2_ringLength_36 : decode cX2_ringLength 36 = .ok (.ireturn, 1) := by decide +kernel
theorem dX2_placeAfter_0 : decode cX2_placeAfter 0 = .ok (.iload_n 2, 1) := by decide +kernel
theorem dX2_placeAfter_1 : decode cX2_placeAfter 1 = .ok (.iconst 1, 1) := by decide +kernel
theorem dX2_placeAfter_2 : decode cX2_placeAfter 2 = .ok (.aload_n 0, 1) := by decide +kernel
theorem dX2_placeAfter_3 : decode cX2_placeAfter 3 = .ok (.iload_n 1, 1) := by decide +kernel
theorem dX2_placeAfter_4 : decode cX2_placeAfter 4 = .ok (.invokevirtual 25, 3) := by decide +kernel
theorem dX2_placeAfter_7 : decode cX2_placeAfter 7 = .ok (.invokestatic 29, 3) := by decide +kernel
theorem dX2_placeAfter_10 : decode cX2_placeAfter 10 = .ok (.irem, 1) := by decide +kernel
theorem dX2_placeAfter_11 : decode cX2_placeAfter 11 = .ok (.istore_n 3, 1) := by decide +kernel
theorem dX2_placeAfter_12 : decode cX2_placeAfter 12 = .ok (.iload_n 1, 1) := by decide +kernel
theorem dX2_placeAfter_13 : decode cX2_placeAfter 13 = .ok (.istore 4, 2) := by decide +kernel
theorem dX2_placeAfter_15 : decode cX2_placeAfter 15 = .ok (.iconst 0, 1) := by decide +kernel
theorem dX2_placeAfter_16 : decode cX2_placeAfter 16 = .ok (.istore 5, 2) := by decide +kernel
theorem dX2_placeAfter_18 : decode cX2_placeAfter 18 = .ok (.iload 5, 2) := by decide +kernel
theorem dX2_placeAfter_20 : decode cX2_placeAfter 20 = .ok (.iload_n 3, 1) := by decide +kernel
theorem dX2_placeAfter_21 : decode cX2_placeAfter 21 = .ok (.if_icmp .ge 18, 3) := by decide +kernel
theorem dX2_placeAfter_24 : decode cX2_placeAfter 24 = .ok (.aload_n 0, 1) := by decide +kernel
theorem dX2_placeAfter_25 : decode cX2_placeAfter 25 = .ok (.getfield 9, 3) := by decide +kernel
theorem dX2_placeAfter_28 : decode cX2_placeAfter 28 = .ok (.iload 4, 2) := by decide +kernel
theorem dX2_placeAfter_30 : decode cX2_placeAfter 30 = .ok (.iaload, 1) := by decide +kernel
theorem dX2_placeAfter_31 : decode cX2_placeAfter 31 = .ok (.istore 4, 2) := by decide +kernel
theorem dX2_placeAfter_33 : decode cX2_placeAfter 33 = .ok (.iinc 5 1, 3) := by decide +kernel
theorem dX2_placeAfter_36 : decode cX2_placeAfter 36 = .ok (.goto (-18), 3) := by decide +kernel
theorem dX2_placeAfter_39 : decode cX2_placeAfter 39 = .ok (.iload 4, 2) := by decide +kernel
theorem dX2_placeAfter_41 : decode cX2_placeAfter 41 = .ok (.ireturn, 1) := by decide +kernel
theorem dX2_order_0 : decode cX2_order 0 = .ok (.iconst 1, 1) := by decide +kernel
theorem dX2_order_1 : decode cX2_order 1 = .ok (.istore_n 1, 1) := by decide +kernel
theorem dX2_order_2 : decode cX2_order 2 = .ok (.iconst 0, 1) := by decide +kernel
theorem dX2_order_3 : decode cX2_order 3 = .ok (.istore_n 2, 1) := by decide +kernel
theorem dX2_order_4 : decode cX2_order 4 = .ok (.iload_n 2, 1) := by decide +kernel
theorem dX2_order_5 : decode cX2_order 5 = .ok (.aload_n 0, 1) := by decide +kernel
theorem dX2_order_6 : decode cX2_order 6 = .ok (.getfield 15, 3) := by decide +kernel
theorem dX2_order_9 : decode cX2_order 9 = .ok (.if_icmp .ge 29, 3) := by decide +kernel
theorem dX2_order_12 : decode cX2_order 12 = .ok (.aload_n 0, 1) := by decide +kernel
theorem dX2_order_13 : decode cX2_order 13 = .ok (.iload_n 2, 1) := by decide +kernel
theorem dX2_order_14 : decode cX2_order 14 = .ok (.invokevirtual 25, 3) := by decide +kernel
theorem dX2_order_17 : decode cX2_order 17 = .ok (.istore_n 3, 1) := by decide +kernel
theorem dX2_order_18 : decode cX2_order 18 = .ok (.iload_n 1, 1) := by decide +kernel
theorem dX2_order_19 : decode cX2_order 19 = .ok (.iconst 1, 1) := by decide +kernel
theorem dX2_order_20 : decode cX2_order 20 = .ok (.iload_n 1, 1) := by decide +kernel
theorem dX2_order_21 : decode cX2_order 21 = .ok (.iload_n 3, 1) := by decide +kernel
theorem dX2_order_22 : decode cX2_order 22 = .ok (.invokestatic 34, 3) := by decide +kernel
theorem dX2_order_25 : decode cX2_order 25 = .ok (.invokestatic 29, 3) := by decide +kernel
theorem dX2_order_28 : decode cX2_order 28 = .ok (.idiv, 1) := by decide +kernel
theorem dX2_order_29 : decode cX2_order 29 = .ok (.iload_n 3, 1) := by decide +kernel
theorem dX2_order_30 : decode cX2_order 30 = .ok (.imul, 1) := by decide +kernel
theorem dX2_order_31 : decode cX2_order 31 = .ok (.istore_n 1, 1) := by decide +kernel
theorem dX2_order_32 : decode cX2_order 32 = .ok (.iinc 2 1, 3) := by decide +kernel
theorem dX2_order_35 : decode cX2_order 35 = .ok (.goto (-31), 3) := by decide +kernel
theorem dX2_order_38 : decode cX2_order 38 = .ok (.iload_n 1, 1) := by decide +kernel
theorem dX2_order_39 : decode cX2_order 39 = .ok (.ireturn, 1) := by decide +kernel
theorem dX2_ringCount_0 : decode cX2_ringCount 0 = .ok (.iconst 0, 1) := by decide +kernel
theorem dX2_ringCount_1 : decode cX2_ringCount 1 = .ok (.istore_n 1, 1) := by decide +kernel
theorem dX2_ringCount_2 : decode cX2_ringCount 2 = .ok (.iconst 0, 1) := by decide +kernel
theorem dX2_ringCount_3 : decode cX2_ringCount 3 = .ok (.istore_n 2, 1) := by decide +kernel
theorem dX2_ringCount_4 : decode cX2_ringCount 4 = .ok (.iload_n 2, 1) := by decide +kernel
theorem dX2_ringCount_5 : decode cX2_ringCount 5 = .ok (.aload_n 0, 1) := by decide +kernel
theorem dX2_ringCount_6 : decode cX2_ringCount 6 = .ok (.getfield 15, 3) := by decide +kernel
theorem dX2_ringCount_9 : decode cX2_ringCount 9 = .ok (.if_icmp .ge 20, 3) := by decide +kernel
theorem dX2_ringCount_12 : decode cX2_ringCount 12 = .ok (.aload_n 0, 1) := by decide +kernel
theorem dX2_ringCount_13 : decode cX2_ringCount 13 = .ok (.iload_n 2, 1) := by decide +kernel
theorem dX2_ringCount_14 : decode cX2_ringCount 14 = .ok (.invokevirtual 37, 3) := by decide +kernel
theorem dX2_ringCount_17 : decode cX2_ringCount 17 = .ok (.ifCond .eq 6, 3) := by decide +kernel
theorem dX2_ringCount_20 : decode cX2_ringCount 20 = .ok (.iinc 1 1, 3) := by decide +kernel
theorem dX2_ringCount_23 : decode cX2_ringCount 23 = .ok (.iinc 2 1, 3) := by decide +kernel
theorem dX2_ringCount_26 : decode cX2_ringCount 26 = .ok (.goto (-22), 3) := by decide +kernel
theorem dX2_ringCount_29 : decode cX2_ringCount 29 = .ok (.iload_n 1, 1) := by decide +kernel
theorem dX2_ringCount_30 : decode cX2_ringCount 30 = .ok (.ireturn, 1) := by decide +kernel
theorem dX2_isLeastOfRing_0 : decode cX2_isLeastOfRing 0 = .ok (.aload_n 0, 1) := by decide +kernel
theorem dX2_isLeastOfRing_1 : decode cX2_isLeastOfRing 1 = .ok (.getfield 9, 3) := by decide +kernel
theorem dX2_isLeastOfRing_4 : decode cX2_isLeastOfRing 4 = .ok (.iload_n 1, 1) := by decide +kernel
theorem dX2_isLeastOfRing_5 : decode cX2_isLeastOfRing 5 = .ok (.iaload, 1) := by decide +kernel
theorem dX2_isLeastOfRing_6 : decode cX2_isLeastOfRing 6 = .ok (.istore_n 2, 1) := by decide +kernel
theorem dX2_isLeastOfRing_7 : decode cX2_isLeastOfRing 7 = .ok (.iconst 0, 1) := by decide +kernel
theorem dX2_isLeastOfRing_8 : decode cX2_isLeastOfRing 8 = .ok (.istore_n 3, 1) := by decide +kernel
theorem dX2_isLeastOfRing_9 : decode cX2_isLeastOfRing 9 = .ok (.iload_n 3, 1) := by decide +kernel
theorem dX2_isLeastOfRing_10 : decode cX2_isLeastOfRing 10 = .ok (.aload_n 0, 1) := by decide +kernel
theorem dX2_isLeastOfRing_11 : decode cX2_isLeastOfRing 11 = .ok (.getfield 15, 3) := by decide +kernel
theorem dX2_isLeastOfRing_14 : decode cX2_isLeastOfRing 14 = .ok (.if_icmp .ge 21, 3) := by decide +kernel
theorem dX2_isLeastOfRing_17 : decode cX2_isLeastOfRing 17 = .ok (.iload_n 2, 1) := by decide +kernel
theorem dX2_isLeastOfRing_18 : decode cX2_isLeastOfRing 18 = .ok (.iload_n 1, 1) := by decide +kernel
theorem dX2_isLeastOfRing_19 : decode cX2_isLeastOfRing 19 = .ok (.if_icmp .le 16, 3) := by decide +kernel
theorem dX2_isLeastOfRing_22 : decode cX2_isLeastOfRing 22 = .ok (.aload_n 0, 1) := by decide +kernel
theorem dX2_isLeastOfRing_23 : decode cX2_isLeastOfRing 23 = .ok (.getfield 9, 3) := by decide +kernel
theorem dX2_isLeastOfRing_26 : decode cX2_isLeastOfRing 26 = .ok (.iload_n 2, 1) := by decide +kernel
theorem dX2_isLeastOfRing_27 : decode cX2_isLeastOfRing 27 = .ok (.iaload, 1) := by decide +kernel
theorem dX2_isLeastOfRing_28 : decode cX2_isLeastOfRing 28 = .ok (.istore_n 2, 1) := by decide +kernel
theorem dX2_isLeastOfRing_29 : decode cX2_isLeastOfRing 29 = .ok (.iinc 3 1, 3) := by decide +kernel
theorem dX2_isLeastOfRing_32 : decode cX2_isLeastOfRing 32 = .ok (.goto (-23), 3) := by decide +kernel
theorem dX2_isLeastOfRing_35 : decode cX2_isLeastOfRing 35 = .ok (.iload_n 2, 1) := by decide +kernel
theorem dX2_isLeastOfRing_36 : decode cX2_isLeastOfRing 36 = .ok (.iload_n 1, 1) := by decide +kernel
theorem dX2_isLeastOfRing_37 : decode cX2_isLeastOfRing 37 = .ok (.if_icmp .ne 7, 3) := by decide +kernel
theorem dX2_isLeastOfRing_40 : decode cX2_isLeastOfRing 40 = .ok (.iconst 1, 1) := by decide +kernel
theorem dX2_isLeastOfRing_41 : decode cX2_isLeastOfRing 41 = .ok (.goto 4, 3) := by decide +kernel
theorem dX2_isLeastOfRing_44 : decode cX2_isLeastOfRing 44 = .ok (.iconst 0, 1) := by decide +kernel
theorem dX2_isLeastOfRing_45 : decode cX2_isLeastOfRing 45 = .ok (.ireturn, 1) := by decide +kernel
theorem dX2_longestRing_0 : decode cX2_longestRing 0 = .ok (.iconst 0, 1) := by decide +kernel
theorem dX2_longestRing_1 : decode cX2_longestRing 1 = .ok (.istore_n 1, 1) := by decide +kernel
theorem dX2_longestRing_2 : decode cX2_longestRing 2 = .ok (.iconst 0, 1) := by decide +kernel
theorem dX2_longestRing_3 : decode cX2_longestRing 3 = .ok (.istore_n 2, 1) := by decide +kernel
theorem dX2_longestRing_4 : decode cX2_longestRing 4 = .ok (.iload_n 2, 1) := by decide +kernel
theorem dX2_longestRing_5 : decode cX2_longestRing 5 = .ok (.aload_n 0, 1) := by decide +kernel
theorem dX2_longestRing_6 : decode cX2_longestRing 6 = .ok (.getfield 15, 3) := by decide +kernel
theorem dX2_longestRing_9 : decode cX2_longestRing 9 = .ok (.if_icmp .ge 19, 3) := by decide +kernel
theorem dX2_longestRing_12 : decode cX2_longestRing 12 = .ok (.iload_n 1, 1) := by decide +kernel
theorem dX2_longestRing_13 : decode cX2_longestRing 13 = .ok (.aload_n 0, 1) := by decide +kernel
theorem dX2_longestRing_14 : decode cX2_longestRing 14 = .ok (.iload_n 2, 1) := by decide +kernel
theorem dX2_longestRing_15 : decode cX2_longestRing 15 = .ok (.invokevirtual 25, 3) := by decide +kernel
theorem dX2_longestRing_18 : decode cX2_longestRing 18 = .ok (.invokestatic 29, 3) := by decide +kernel
theorem dX2_longestRing_21 : decode cX2_longestRing 21 = .ok (.istore_n 1, 1) := by decide +kernel
theorem dX2_longestRing_22 : decode cX2_longestRing 22 = .ok (.iinc 2 1, 3) := by decide +kernel
theorem dX2_longestRing_25 : decode cX2_longestRing 25 = .ok (.goto (-21), 3) := by decide +kernel
theorem dX2_longestRing_28 : decode cX2_longestRing 28 = .ok (.iload_n 1, 1) := by decide +kernel
theorem dX2_longestRing_29 : decode cX2_longestRing 29 = .ok (.ireturn, 1) := by decide +kernel
theorem dX3_init_0 : decode cX3_init 0 = .ok (.aload_n 0, 1) := by decide +kernel
theorem dX3_init_1 : decode cX3_init 1 = .ok (.invokespecial 1, 3) := by decide +kernel
theorem dX3_init_4 : decode cX3_init 4 = .ok (.aload_n 0, 1) := by decide +kernel
theorem dX3_init_5 : decode cX3_init 5 = .ok (.new 7, 3) := by decide +kernel
theorem dX3_init_8 : decode cX3_init 8 = .ok (.dup, 1) := by decide +kernel
theorem dX3_init_9 : decode cX3_init 9 = .ok (.invokespecial 9, 3) := by decide +kernel
theorem dX3_init_12 : decode cX3_init 12 = .ok (.putfield 10, 3) := by decide +kernel
theorem dX3_init_15 : decode cX3_init 15 = .ok (.aload_n 0, 1) := by decide +kernel
theorem dX3_init_16 : decode cX3_init 16 = .ok (.new 16, 3) := by decide +kernel
theorem dX3_init_19 : decode cX3_init 19 = .ok (.dup, 1) := by decide +kernel
theorem dX3_init_20 : decode cX3_init 20 = .ok (.invokespecial 18, 3) := by decide +kernel
theorem dX3_init_23 : decode cX3_init 23 = .ok (.putfield 19, 3) := by decide +kernel
theorem dX3_init_26 : decode cX3_init 26 = .ok (.aload_n 0, 1) := by decide +kernel
theorem dX3_init_27 : decode cX3_init 27 = .ok (.new 16, 3) := by decide +kernel
theorem dX3_init_30 : decode cX3_init 30 = .ok (.dup, 1) := by decide +kernel
theorem dX3_init_31 : decode cX3_init 31 = .ok (.invokespecial 18, 3) := by decide +kernel
theorem dX3_init_34 : decode cX3_init 34 = .ok (.putfield 23, 3) := by decide +kernel
theorem dX3_init_37 : decode cX3_init 37 = .ok (.aload_n 0, 1) := by decide +kernel
theorem dX3_init_38 : decode cX3_init 38 = .ok (.new 26, 3) := by decide +kernel
theorem dX3_init_41 : decode cX3_init 41 = .ok (.dup, 1) := by decide +kernel
theorem dX3_init_42 : decode cX3_init 42 = .ok (.invokespecial 28, 3) := by decide +kernel
theorem dX3_init_45 : decode cX3_init 45 = .ok (.putfield 29, 3) := by decide +kernel
theorem dX3_init_48 : decode cX3_init 48 = .ok (.aload_n 0, 1) := by decide +kernel
theorem dX3_init_49 : decode cX3_init 49 = .ok (.bipush 12, 2) := by decide +kernel
theorem dX3_init_51 : decode cX3_init 51 = .ok (.newarray .int, 2) := by decide +kernel
theorem dX3_init_53 : decode cX3_init 53 = .ok (.putfield 33, 3) := by decide +kernel
theorem dX3_init_56 : decode cX3_init 56 = .ok (.aload_n 0, 1) := by decide +kernel
theorem dX3_init_57 : decode cX3_init 57 = .ok (.bipush 12, 2) := by decide +kernel
theorem dX3_init_59 : decode cX3_init 59 = .ok (.newarray .int, 2) := by decide +kernel
theorem dX3_init_61 : decode cX3_init 61 = .ok (.putfield 37, 3) := by decide +kernel
theorem dX3_init_64 : decode cX3_init 64 = .ok (.aload_n 0, 1) := by decide +kernel
theorem dX3_init_65 : decode cX3_init 65 = .ok (.iconst 4, 1) := by decide +kernel
theorem dX3_init_66 : decode cX3_init 66 = .ok (.newarray .int, 2) := by decide +kernel
theorem dX3_init_68 : decode cX3_init 68 = .ok (.putfield 40, 3) := by decide +kernel
theorem dX3_init_71 : decode cX3_init 71 = .ok (.return_, 1) := by decide +kernel
theorem dX3_letter_0 : decode cX3_letter 0 = .ok (.iload_n 1, 1) := by decide +kernel
theorem dX3_letter_1 : decode cX3_letter 1 = .ok (.iconst 1, 1) := by decide +kernel
theorem dX3_letter_2 : decode cX3_letter 2 = .ok (.if_icmp .lt 9, 3) := by decide +kernel
theorem dX3_letter_5 : decode cX3_letter 5 = .ok (.iload_n 1, 1) := by decide +kernel
theorem dX3_letter_6 : decode cX3_letter 6 = .ok (.bipush 126, 2) := by decide +kernel
theorem dX3_letter_8 : decode cX3_letter 8 = .ok (.if_icmp .le 6, 3) := by decide +kernel
theorem dX3_letter_11 : decode cX3_letter 11 = .ok (.bipush (-102), 2) := by decide +kernel
theorem dX3_letter_13 : decode cX3_letter 13 = .ok (.ireturn, 1) := by decide +kernel
theorem dX3_letter_14 : decode cX3_letter 14 = .ok (.aload_n 0, 1) := by decide +kernel
theorem dX3_letter_15 : decode cX3_letter 15 = .ok (.getfield 10, 3) := by decide +kernel
theorem dX3_letter_18 : decode cX3_letter 18 = .ok (.getfield 43, 3) := by decide +kernel
theorem dX3_letter_21 : decode cX3_letter 21 = .ok (.bipush 22, 2) := by decide +kernel
theorem dX3_letter_23 : decode cX3_letter 23 = .ok (.if_icmp .lt 6, 3) := by decide +kernel
theorem dX3_letter_26 : decode cX3_letter 26 = .ok (.bipush (-104), 2) := by decide +kernel
theorem dX3_letter_28 : decode cX3_letter 28 = .ok (.ireturn, 1) := by decide +kernel
theorem dX3_letter_29 : decode cX3_letter 29 = .ok (.aload_n 0, 1) := by decide +kernel
theorem dX3_letter_30 : decode cX3_letter 30 = .ok (.getfield 10, 3) := by decide +kernel
theorem dX3_letter_33 : decode cX3_letter 33 = .ok (.iload_n 1, 1) := by decide +kernel
theorem dX3_letter_34 : decode cX3_letter 34 = .ok (.invokevirtual 47, 3) := by decide +kernel
theorem dX3_letter_37 : decode cX3_letter 37 = .ok (.aload_n 0, 1) := by decide +kernel
theorem dX3_letter_38 : decode cX3_letter 38 = .ok (.getfield 10, 3) := by decide +kernel
theorem dX3_letter_41 : decode cX3_letter 41 = .ok (.getfield 43, 3) := by decide +kernel
theorem dX3_letter_44 : decode cX3_letter 44 = .ok (.ireturn, 1) := by decide +kernel
theorem dX3_blank_0 : decode cX3_blank 0 = .ok (.aload_n 0, 1) := by decide +kernel
theorem dX3_blank_1 : decode cX3_blank 1 = .ok (.getfield 10, 3) := by decide +kernel
theorem dX3_blank_4 : decode cX3_blank 4 = .ok (.invokevirtual 51, 3) := by decide +kernel
theorem dX3_blank_7 : decode cX3_blank 7 = .ok (.ireturn, 1) := by decide +kernel
theorem dX3_fault_0 : decode cX3_fault 0 = .ok (.aload_n 0, 1) := by decide +kernel
theorem dX3_fault_1 : decode cX3_fault 1 = .ok (.getfield 10, 3) := by decide +kernel
theorem dX3_fault_4 : decode cX3_fault 4 = .ok (.invokevirtual 55, 3) := by decide +kernel
theorem dX3_fault_7 : decode cX3_fault 7 = .ok (.ireturn, 1) := by decide +kernel
theorem dX3_routine_0 : decode cX3_routine 0 = .ok (.aload_n 0, 1) := by decide +kernel
theorem dX3_routine_1 : decode cX3_routine 1 = .ok (.getfield 10, 3) := by decide +kernel
theorem dX3_routine_4 : decode cX3_routine 4 = .ok (.invokevirtual 58, 3) := by decide +kernel
theorem dX3_routine_7 : decode cX3_routine 7 = .ok (.ifCond .ne 6, 3) := by decide +kernel
theorem dX3_routine_10 : decode cX3_routine 10 = .ok (.bipush (-103), 2) := by decide +kernel
theorem dX3_routine_12 : decode cX3_routine 12 = .ok (.ireturn, 1) := by decide +kernel
theorem dX3_routine_13 : decode cX3_routine 13 = .ok (.aload_n 0, 1) := by decide +kernel
theorem dX3_routine_14 : decode cX3_routine 14 = .ok (.getfield 10, 3) := by decide +kernel
theorem dX3_routine_17 : decode cX3_routine 17 = .ok (.aload_n 0, 1) := by decide +kernel
theorem dX3_routine_18 : decode cX3_routine 18 = .ok (.getfield 19, 3) := by decide +kernel
theorem dX3_routine_21 : decode cX3_routine 21 = .ok (.invokevirtual 62, 3) := by decide +kernel
theorem dX3_routine_24 : decode cX3_routine 24 = .ok (.aload_n 0, 1) := by decide +kernel
theorem dX3_routine_25 : decode cX3_routine 25 = .ok (.getfield 10, 3) := by decide +kernel
theorem dX3_routine_28 : decode cX3_routine 28 = .ok (.invokevirtual 51, 3) := by decide +kernel
theorem dX3_routine_31 : decode cX3_routine 31 = .ok (.pop, 1) := by decide +kernel
theorem dX3_routine_32 : decode cX3_routine 32 = .ok (.aload_n 0, 1) := by decide +kernel
theorem dX3_routine_33 : decode cX3_routine 33 = .ok (.iconst 0, 1) := by decide +kernel
theorem dX3_routine_34 : decode cX3_routine 34 = .ok (.putfield 66, 3) := by decide +kernel
theorem dX3_routine_37 : decode cX3_routine 37 = .ok (.aload_n 0, 1) := by decide +kernel
theorem dX3_routine_38 : decode cX3_routine 38 = .ok (.dup, 1) := by decide +kernel
theorem dX3_routine_39 : decode cX3_routine 39 = .ok (.getfield 70, 3) := by decide +kernel
theorem dX3_routine_42 : decode cX3_routine 42 = .ok (.iconst 1, 1) := by decide +kernel
theorem dX3_routine_43 : decode cX3_routine 43 = .ok (.iadd, 1) := by decide +kernel
theorem dX3_routine_44 : decode cX3_routine 44 = .ok (.putfield 70, 3) := by decide +kernel
theorem dX3_routine_47 : decode cX3_routine 47 = .ok (.aload_n 0, 1) := by decide +kernel
theorem dX3_routine_48 : decode cX3_routine 48 = .ok (.getfield 19, 3) := by decide +kernel
theorem dX3_routine_51 : decode cX3_routine 51 = .ok (.getfield 73, 3) := by decide +kernel
theorem dX3_routine_54 : decode cX3_routine 54 = .ok (.ireturn, 1) := by decide +kernel
theorem dX3_step_0 : decode cX3_step 0 = .ok (.aload_n 0, 1) := by decide +kernel
theorem dX3_step_1 : decode cX3_step 1 = .ok (.getfield 19, 3) := by decide +kernel
theorem dX3_step_4 : decode cX3_step 4 = .ok (.iload_n 1, 1) := by decide +kernel
theorem dX3_step_5 : decode cX3_step 5 = .ok (.invokevirtual 76, 3) := by decide +kernel
theorem dX3_step_8 : decode cX3_step 8 = .ok (.ifCond .ne 6, 3) := by decide +kernel
theorem dX3_step_11 : decode cX3_step 11 = .ok (.bipush (-101), 2) := by decide +kernel
theorem dX3_step_13 : decode cX3_step 13 = .ok (.ireturn, 1) := by decide +kernel
theorem dX3_step_14 : decode cX3_step 14 = .ok (.iload_n 2, 1) := by decide +kernel
theorem dX3_step_15 : decode cX3_step 15 = .ok (.tableswitch 106 0 5 #[37, 47, 57, 66, 75, 84], 37) := by decide +kernel
theorem dX3_step_52 : decode cX3_step 52 = .ok (.aload_n 0, 1) := by decide +kernel
theorem dX3_step_53 : decode cX3_step 53 = .ok (.getfield 19, 3) := by decide +kernel
theorem dX3_step_56 : decode cX3_step 56 = .ok (.getfield 80, 3) := by decide +kernel
theorem dX3_step_59 : decode cX3_step 59 = .ok (.iload_n 1, 1) := by decide +kernel
theorem dX3_step_60 : decode cX3_step 60 = .ok (.iaload, 1) := by decide +kernel
theorem dX3_step_61 : decode cX3_step 61 = .ok (.ireturn, 1) := by decide +kernel
theorem dX3_step_62 : decode cX3_step 62 = .ok (.aload_n 0, 1) := by decide +kernel
theorem dX3_step_63 : decode cX3_step 63 = .ok (.getfield 19, 3) := by decide +kernel
theorem dX3_step_66 : decode cX3_step 66 = .ok (.getfield 83, 3) := by decide +kernel
theorem dX3_step_69 : decode cX3_step 69 = .ok (.iload_n 1, 1) := by decide +kernel
theorem dX3_step_70 : decode cX3_step 70 = .ok (.iaload, 1) := by decide +kernel
theorem dX3_step_71 : decode cX3_step 71 = .ok (.ireturn, 1) := by decide +kernel
theorem dX3_step_72 : decode cX3_step 72 = .ok (.aload_n 0, 1) := by decide +kernel
theorem dX3_step_73 : decode cX3_step 73 = .ok (.iload_n 1, 1) := by decide +kernel
theorem dX3_step_74 : decode cX3_step 74 = .ok (.invokevirtual 86, 3) := by decide +kernel
theorem dX3_step_77 : decode cX3_step 77 = .ok (.invokevirtual 90, 3) := by decide +kernel
theorem dX3_step_80 : decode cX3_step 80 = .ok (.ireturn, 1) := by decide +kernel
theorem dX3_step_81 : decode cX3_step 81 = .ok (.aload_n 0, 1) := by decide +kernel
theorem dX3_step_82 : decode cX3_step 82 = .ok (.iload_n 1, 1) := by decide +kernel
theorem dX3_step_83 : decode cX3_step 83 = .ok (.invokevirtual 86, 3) := by decide +kernel
theorem dX3_step_86 : decode cX3_step 86 = .ok (.invokevirtual 93, 3) := by decide +kernel
theorem dX3_step_89 : decode cX3_step 89 = .ok (.ireturn, 1) := by decide +kernel
theorem dX3_step_90 : decode cX3_step 90 = .ok (.aload_n 0, 1) := by decide +kernel
theorem dX3_step_91 : decode cX3_step 91 = .ok (.getfield 19, 3) := by decide +kernel
theorem dX3_step_94 : decode cX3_step 94 = .ok (.iload_n 1, 1) := by decide +kernel
theorem dX3_step_95 : decode cX3_step 95 = .ok (.invokevirtual 96, 3) := by decide +kernel
theorem dX3_step_98 : decode cX3_step 98 = .ok (.ireturn, 1) := by decide +kernel
theorem dX3_step_99 : decode cX3_step 99 = .ok (.aload_n 0, 1) := by decide +kernel
theorem dX3_step_100 : decode cX3_step 100 = .ok (.aload_n 0, 1) := by decide +kernel
theorem dX3_step_101 : decode cX3_step 101 = .ok (.getfield 19, 3) := by decide +kernel
theorem dX3_step_104 : decode cX3_step 104 = .ok (.getfield 80, 3) := by decide +kernel
theorem dX3_step_107 : decode cX3_step 107 = .ok (.iload_n 1, 1) := by decide +kernel
theorem dX3_step_108 : decode cX3_step 108 = .ok (.iaload, 1) := by decide +kernel
theorem dX3_step_109 : decode cX3_step 109 = .ok (.aload_n 0, 1) := by decide +kernel
theorem dX3_step_110 : decode cX3_step 110 = .ok (.getfield 19, 3) := by decide +kernel
theorem dX3_step_113 : decode cX3_step 113 = .ok (.iload_n 1, 1) := by decide +kernel
theorem dX3_step_114 : decode cX3_step 114 = .ok (.invokevirtual 96, 3) := by decide +kernel
theorem dX3_step_117 : decode cX3_step 117 = .ok (.invokevirtual 100, 3) := by decide +kernel
theorem dX3_step_120 : decode cX3_step 120 = .ok (.ireturn, 1) := by decide +kernel
theorem dX3_step_121 : decode cX3_step 121 = .ok (.bipush (-102), 2) := by decide +kernel
theorem dX3_step_123 : decode cX3_step 123 = .ok (.ireturn, 1) := by decide +kernel
theorem dX3_as_0 : decode cX3_as 0 = .ok (.aload_n 0, 1) := by decide +kernel
theorem dX3_as_1 : decode cX3_as 1 = .ok (.getfield 19, 3) := by decide +kernel
theorem dX3_as_4 : decode cX3_as 4 = .ok (.iload_n 1, 1) := by decide +kernel
theorem dX3_as_5 : decode cX3_as 5 = .ok (.invokevirtual 76, 3) := by decide +kernel
theorem dX3_as_8 : decode cX3_as 8 = .ok (.ifCond .ne 6, 3) := by decide +kernel
theorem dX3_as_11 : decode cX3_as 11 = .ok (.bipush (-101), 2) := by decide +kernel
theorem dX3_as_13 : decode cX3_as 13 = .ok (.ireturn, 1) := by decide +kernel
theorem dX3_as_14 : decode cX3_as 14 = .ok (.iload_n 2, 1) := by decide +kernel
theorem dX3_as_15 : decode cX3_as 15 = .ok (.ifCond .lt 8, 3) := by decide +kernel
theorem dX3_as_18 : decode cX3_as 18 = .ok (.iload_n 2, 1) := by decide +kernel
theorem dX3_as_19 : decode cX3_as 19 = .ok (.iconst 5, 1) := by decide +kernel
theorem dX3_as_20 : decode cX3_as 20 = .ok (.if_icmp .lt 6, 3) := by decide +kernel
theorem dX3_as_23 : decode cX3_as 23 = .ok (.bipush (-102), 2) := by decide +kernel
theorem dX3_as_25 : decode cX3_as 25 = .ok (.ireturn, 1) := by decide +kernel
theorem dX3_as_26 : decode cX3_as 26 = .ok (.aload_n 0, 1) := by decide +kernel
theorem dX3_as_27 : decode cX3_as 27 = .ok (.getfield 19, 3) := by decide +kernel
theorem dX3_as_30 : decode cX3_as 30 = .ok (.getfield 80, 3) := by decide +kernel
theorem dX3_as_33 : decode cX3_as 33 = .ok (.iload_n 1, 1) := by decide +kernel
theorem dX3_as_34 : decode cX3_as 34 = .ok (.iaload, 1) := by decide +kernel
theorem dX3_as_35 : decode cX3_as 35 = .ok (.iload_n 2, 1) := by decide +kernel
theorem dX3_as_36 : decode cX3_as 36 = .ok (.invokestatic 104, 3) := by decide +kernel
theorem dX3_as_39 : decode cX3_as 39 = .ok (.ifCond .eq 7, 3) := by decide +kernel
theorem dX3_as_42 : decode cX3_as 42 = .ok (.iload_n 1, 1) := by decide +kernel
theorem dX3_as_43 : decode cX3_as 43 = .ok (.goto 4, 3) := by decide +kernel
theorem dX3_as_46 : decode cX3_as 46 = .ok (.iconst (-1), 1) := by decide +kernel
theorem dX3_as_47 : decode cX3_as 47 = .ok (.ireturn, 1) := by decide +kernel
theorem dX3_at_0 : decode cX3_at 0 = .ok (.aload_n 0, 1) := by decide +kernel
theorem dX3_at_1 : decode cX3_at 1 = .ok (.getfield 19, 3) := by decide +kernel
theorem dX3_at_4 : decode cX3_at 4 = .ok (.iload_n 1, 1) := by decide +kernel
theorem dX3_at_5 : decode cX3_at 5 = .ok (.invokevirtual 108, 3) := by decide +kernel
theorem dX3_at_8 : decode cX3_at 8 = .ok (.ifCond .eq 15, 3) := by decide +kernel
theorem dX3_at_11 : decode cX3_at 11 = .ok (.aload_n 0, 1) := by decide +kernel
theorem dX3_at_12 : decode cX3_at 12 = .ok (.getfield 19, 3) := by decide +kernel
theorem dX3_at_15 : decode cX3_at 15 = .ok (.getfield 111, 3) := by decide +kernel
theorem dX3_at_18 : decode cX3_at 18 = .ok (.iload_n 1, 1) := by decide +kernel
theorem dX3_at_19 : decode cX3_at 19 = .ok (.iaload, 1) := by decide +kernel
theorem dX3_at_20 : decode cX3_at 20 = .ok (.goto 5, 3) := by decide +kernel
theorem dX3_at_23 : decode cX3_at 23 = .ok (.bipush (-101), 2) := by decide +kernel
theorem dX3_at_25 : decode cX3_at 25 = .ok (.ireturn, 1) := by decide +kernel
theorem dX3_goes_0 : decode cX3_goes 0 = .ok (.aload_n 0, 1) := by decide +kernel
theorem dX3_goes_1 : decode cX3_goes 1 = .ok (.getfield 19, 3) := by decide +kernel
theorem dX3_goes_4 : decode cX3_goes 4 = .ok (.iload_n 1, 1) := by decide +kernel
theorem dX3_goes_5 : decode cX3_goes 5 = .ok (.invokevirtual 76, 3) := by decide +kernel
theorem dX3_goes_8 : decode cX3_goes 8 = .ok (.ifCond .eq 14, 3) := by decide +kernel
theorem dX3_goes_11 : decode cX3_goes 11 = .ok (.aload_n 0, 1) := by decide +kernel
theorem dX3_goes_12 : decode cX3_goes 12 = .ok (.getfield 19, 3) := by decide +kernel
theorem dX3_goes_15 : decode cX3_goes 15 = .ok (.iload_n 2, 1) := by decide +kernel
theorem dX3_goes_16 : decode cX3_goes 16 = .ok (.invokevirtual 108, 3) := by decide +kernel
theorem dX3_goes_19 : decode cX3_goes 19 = .ok (.ifCond .ne 6, 3) := by decide +kernel
theorem dX3_goes_22 : decode cX3_goes 22 = .ok (.bipush (-101), 2) := by decide +kernel
theorem dX3_goes_24 : decode cX3_goes 24 = .ok (.ireturn, 1) := by decide +kernel
theorem dX3_goes_25 : decode cX3_goes 25 = .ok (.aload_n 0, 1) := by decide +kernel
theorem dX3_goes_26 : decode cX3_goes 26 = .ok (.getfield 19, 3) := by decide +kernel
theorem dX3_goes_29 : decode cX3_goes 29 = .ok (.iload_n 1, 1) := by decide +kernel
theorem dX3_goes_30 : decode cX3_goes 30 = .ok (.iload_n 2, 1) := by decide +kernel
theorem dX3_goes_31 : decode cX3_goes 31 = .ok (.invokevirtual 114, 3) := by decide +kernel
theorem dX3_goes_34 : decode cX3_goes 34 = .ok (.ireturn, 1) := by decide +kernel
theorem dX3_act_0 : decode cX3_act 0 = .ok (.aload_n 0, 1) := by decide +kernel
theorem dX3_act_1 : decode cX3_act 1 = .ok (.getfield 19, 3) := by decide +kernel
theorem dX3_act_4 : decode cX3_act 4 = .ok (.iload_n 1, 1) := by decide +kernel
theorem dX3_act_5 : decode cX3_act 5 = .ok (.invokevirtual 76, 3) := by decide +kernel
theorem dX3_act_8 : decode cX3_act 8 = .ok (.ifCond .ne 6, 3) := by decide +kernel
theorem dX3_act_11 : decode cX3_act 11 = .ok (.bipush (-101), 2) := by decide +kernel
theorem dX3_act_13 : decode cX3_act 13 = .ok (.ireturn, 1) := by decide +kernel
theorem dX3_act_14 : decode cX3_act 14 = .ok (.aload_n 0, 1) := by decide +kernel
theorem dX3_act_15 : decode cX3_act 15 = .ok (.getfield 19, 3) := by decide +kernel
theorem dX3_act_18 : decode cX3_act 18 = .ok (.getfield 117, 3) := by decide +kernel
theorem dX3_act_21 : decode cX3_act 21 = .ok (.sipush 9999, 3) := by decide +kernel
theorem dX3_act_24 : decode cX3_act 24 = .ok (.if_icmp .lt 6, 3) := by decide +kernel
theorem dX3_act_27 : decode cX3_act 27 = .ok (.bipush (-104), 2) := by decide +kernel
theorem dX3_act_29 : decode cX3_act 29 = .ok (.ireturn, 1) := by decide +kernel
theorem dX3_act_30 : decode cX3_act 30 = .ok (.aload_n 0, 1) := by decide +kernel
theorem dX3_act_31 : decode cX3_act 31 = .ok (.aload_n 0, 1) := by decide +kernel
theorem dX3_act_32 : decode cX3_act 32 = .ok (.iload_n 1, 1) := by decide +kernel
theorem dX3_act_33 : decode cX3_act 33 = .ok (.invokevirtual 86, 3) := by decide +kernel
theorem dX3_act_36 : decode cX3_act 36 = .ok (.iconst 1, 1) := by decide +kernel
theorem dX3_act_37 : decode cX3_act 37 = .ok (.invokevirtual 120, 3) := by decide +kernel
theorem dX3_act_40 : decode cX3_act 40 = .ok (.ireturn, 1) := by decide +kernel
theorem dX3_whole_0 : decode cX3_whole 0 = .ok (.aload_n 0, 1) := by decide +kernel
theorem dX3_whole_1 : decode cX3_whole 1 = .ok (.getfield 19, 3) := by decide +kernel
theorem dX3_whole_4 : decode cX3_whole 4 = .ok (.invokevirtual 124, 3) := by decide +kernel
theorem dX3_whole_7 : decode cX3_whole 7 = .ok (.ifCond .ne 6, 3) := by decide +kernel
theorem dX3_whole_10 : decode cX3_whole 10 = .ok (.bipush (-103), 2) := by decide +kernel
theorem dX3_whole_12 : decode cX3_whole 12 = .ok (.ireturn, 1) := by decide +kernel
theorem dX3_whole_13 : decode cX3_whole 13 = .ok (.aload_n 0, 1) := by decide +kernel
theorem dX3_whole_14 : decode cX3_whole 14 = .ok (.getfield 19, 3) := by decide +kernel
theorem dX3_whole_17 : decode cX3_whole 17 = .ok (.getfield 117, 3) := by decide +kernel
theorem dX3_whole_20 : decode cX3_whole 20 = .ok (.aload_n 0, 1) := by decide +kernel
theorem dX3_whole_21 : decode cX3_whole 21 = .ok (.getfield 19, 3) := by decide +kernel
theorem dX3_whole_24 : decode cX3_whole 24 = .ok (.getfield 73, 3) := by decide +kernel
theorem dX3_whole_27 : decode cX3_whole 27 = .ok (.iadd, 1) := by decide +kernel
theorem dX3_whole_28 : decode cX3_whole 28 = .ok (.sipush 9999, 3) := by decide +kernel
theorem dX3_whole_31 : decode cX3_whole 31 = .ok (.if_icmp .le 6, 3) := by decide +kernel
theorem dX3_whole_34 : decode cX3_whole 34 = .ok (.bipush (-104), 2) := by decide +kernel
theorem dX3_whole_36 : decode cX3_whole 36 = .ok (.ireturn, 1) := by decide +kernel
theorem dX3_whole_37 : decode cX3_whole 37 = .ok (.aload_n 0, 1) := by decide +kernel
theorem dX3_whole_38 : decode cX3_whole 38 = .ok (.aload_n 0, 1) := by decide +kernel
theorem dX3_whole_39 : decode cX3_whole 39 = .ok (.invokevirtual 127, 3) := by decide +kernel
theorem dX3_whole_42 : decode cX3_whole 42 = .ok (.aload_n 0, 1) := by decide +kernel
theorem dX3_whole_43 : decode cX3_whole 43 = .ok (.getfield 19, 3) := by decide +kernel
theorem dX3_whole_46 : decode cX3_whole 46 = .ok (.getfield 73, 3) := by decide +kernel
theorem dX3_whole_49 : decode cX3_whole 49 = .ok (.invokevirtual 120, 3) := by decide +kernel
theorem dX3_whole_52 : decode cX3_whole 52 = .ok (.ireturn, 1) := by decide +kernel
theorem dX3_exchange_0 : decode cX3_exchange 0 = .ok (.aload_n 0, 1) := by decide +kernel
theorem dX3_exchange_1 : decode cX3_exchange 1 = .ok (.getfield 19, 3) := by decide +kernel
theorem dX3_exchange_4 : decode cX3_exchange 4 = .ok (.iload_n 1, 1) := by decide +kernel
theorem dX3_exchange_5 : decode cX3_exchange 5 = .ok (.invokevirtual 108, 3) := by decide +kernel
theorem dX3_exchange_8 : decode cX3_exchange 8 = .ok (.ifCond .eq 19, 3) := by decide +kernel
theorem dX3_exchange_11 : decode cX3_exchange 11 = .ok (.aload_n 0, 1) := by decide +kernel
theorem dX3_exchange_12 : decode cX3_exchange 12 = .ok (.getfield 19, 3) := by decide +kernel
theorem dX3_exchange_15 : decode cX3_exchange 15 = .ok (.iload_n 2, 1) := by decide +kernel
theorem dX3_exchange_16 : decode cX3_exchange 16 = .ok (.invokevirtual 108, 3) := by decide +kernel
theorem dX3_exchange_19 : decode cX3_exchange 19 = .ok (.ifCond .eq 8, 3) := by decide +kernel
theorem dX3_exchange_22 : decode cX3_exchange 22 = .ok (.iload_n 1, 1) := by decide +kernel
theorem dX3_exchange_23 : decode cX3_exchange 23 = .ok (.iload_n 2, 1) := by decide +kernel
theorem dX3_exchange_24 : decode cX3_exchange 24 = .ok (.if_icmp .ne 6, 3) := by decide +kernel
theorem dX3_exchange_27 : decode cX3_exchange 27 = .ok (.bipush (-101), 2) := by decide +kernel
theorem dX3_exchange_29 : decode cX3_exchange 29 = .ok (.ireturn, 1) := by decide +kernel
theorem dX3_exchange_30 : decode cX3_exchange 30 = .ok (.aload_n 0, 1) := by decide +kernel
theorem dX3_exchange_31 : decode cX3_exchange 31 = .ok (.getfield 19, 3) := by decide +kernel
theorem dX3_exchange_34 : decode cX3_exchange 34 = .ok (.getfield 111, 3) := by decide +kernel
theorem dX3_exchange_37 : decode cX3_exchange 37 = .ok (.iload_n 1, 1) := by decide +kernel
theorem dX3_exchange_38 : decode cX3_exchange 38 = .ok (.iaload, 1) := by decide +kernel
theorem dX3_exchange_39 : decode cX3_exchange 39 = .ok (.istore_n 3, 1) := by decide +kernel
theorem dX3_exchange_40 : decode cX3_exchange 40 = .ok (.aload_n 0, 1) := by decide +kernel
theorem dX3_exchange_41 : decode cX3_exchange 41 = .ok (.getfield 19, 3) := by decide +kernel
theorem dX3_exchange_44 : decode cX3_exchange 44 = .ok (.getfield 111, 3) := by decide +kernel
theorem dX3_exchange_47 : decode cX3_exchange 47 = .ok (.iload_n 1, 1) := by decide +kernel
theorem dX3_exchange_48 : decode cX3_exchange 48 = .ok (.aload_n 0, 1) := by decide +kernel
theorem dX3_exchange_49 : decode cX3_exchange 49 = .ok (.getfield 19, 3) := by decide +kernel
theorem dX3_exchange_52 : decode cX3_exchange 52 = .ok (.getfield 111, 3) := by decide +kernel
theorem dX3_exchange_55 : decode cX3_exchange 55 = .ok (.iload_n 2, 1) := by decide +kernel
theorem dX3_exchange_56 : decode cX3_exchange 56 = .ok (.iaload, 1) := by decide +kernel
theorem dX3_exchange_57 : decode cX3_exchange 57 = .ok (.iastore, 1) := by decide +kernel
theorem dX3_exchange_58 : decode cX3_exchange 58 = .ok (.aload_n 0, 1) := by decide +kernel
theorem dX3_exchange_59 : decode cX3_exchange 59 = .ok (.getfield 19, 3) := by decide +kernel
theorem dX3_exchange_62 : decode cX3_exchange 62 = .ok (.getfield 111, 3) := by decide +kernel
theorem dX3_exchange_65 : decode cX3_exchange 65 = .ok (.iload_n 2, 1) := by decide +kernel
theorem dX3_exchange_66 : decode cX3_exchange 66 = .ok (.iload_n 3, 1) := by decide +kernel
theorem dX3_exchange_67 : decode cX3_exchange 67 = .ok (.iastore, 1) := by decide +kernel
theorem dX3_exchange_68 : decode cX3_exchange 68 = .ok (.aload_n 0, 1) := by decide +kernel
theorem dX3_exchange_69 : decode cX3_exchange 69 = .ok (.getfield 19, 3) := by decide +kernel
theorem dX3_exchange_72 : decode cX3_exchange 72 = .ok (.getfield 111, 3) := by decide +kernel
theorem dX3_exchange_75 : decode cX3_exchange 75 = .ok (.iconst 0, 1) := by decide +kernel
theorem dX3_exchange_76 : decode cX3_exchange 76 = .ok (.iaload, 1) := by decide +kernel
theorem dX3_exchange_77 : decode cX3_exchange 77 = .ok (.ireturn, 1) := by decide +kernel
theorem dX3_sort_0 : decode cX3_sort 0 = .ok (.aload_n 0, 1) := by decide +kernel
theorem dX3_sort_1 : decode cX3_sort 1 = .ok (.getfield 19, 3) := by decide +kernel
theorem dX3_sort_4 : decode cX3_sort 4 = .ok (.invokevirtual 124, 3) := by decide +kernel
theorem dX3_sort_7 : decode cX3_sort 7 = .ok (.ifCond .ne 6, 3) := by decide +kernel
theorem dX3_sort_10 : decode cX3_sort 10 = .ok (.bipush (-103), 2) := by decide +kernel
theorem dX3_sort_12 : decode cX3_sort 12 = .ok (.ireturn, 1) := by decide +kernel
theorem dX3_sort_13 : decode cX3_sort 13 = .ok (.aload_n 0, 1) := by decide +kernel
theorem dX3_sort_14 : decode cX3_sort 14 = .ok (.getfield 19, 3) := by decide +kernel
theorem dX3_sort_17 : decode cX3_sort 17 = .ok (.invokevirtual 131, 3) := by decide +kernel
theorem dX3_sort_20 : decode cX3_sort 20 = .ok (.istore_n 1, 1) := by decide +kernel
theorem dX3_sort_21 : decode cX3_sort 21 = .ok (.aload_n 0, 1) := by decide +kernel
theorem dX3_sort_22 : decode cX3_sort 22 = .ok (.getfield 19, 3) := by decide +kernel
theorem dX3_sort_25 : decode cX3_sort 25 = .ok (.invokevirtual 134, 3) := by decide +kernel
theorem dX3_sort_28 : decode cX3_sort 28 = .ok (.iload_n 1, 1) := by decide +kernel
theorem dX3_sort_29 : decode cX3_sort 29 = .ok (.ireturn, 1) := by decide +kernel
theorem dX3_change_0 : decode cX3_change 0 = .ok (.aload_n 0, 1) := by decide +kernel
theorem dX3_change_1 : decode cX3_change 1 = .ok (.getfield 19, 3) := by decide +kernel
theorem dX3_change_4 : decode cX3_change 4 = .ok (.iload_n 1, 1) := by decide +kernel
theorem dX3_change_5 : decode cX3_change 5 = .ok (.invokevirtual 76, 3) := by decide +kernel
theorem dX3_change_8 : decode cX3_change 8 = .ok (.ifCond .ne 6, 3) := by decide +kernel
theorem dX3_change_11 : decode cX3_change 11 = .ok (.bipush (-101), 2) := by decide +kernel
theorem dX3_change_13 : decode cX3_change 13 = .ok (.ireturn, 1) := by decide +kernel
theorem dX3_change_14 : decode cX3_change 14 = .ok (.iload_n 2, 1) := by decide +kernel
theorem dX3_change_15 : decode cX3_change 15 = .ok (.ifCond .lt 18, 3) := by decide +kernel
theorem dX3_change_18 : decode cX3_change 18 = .ok (.iload_n 2, 1) := by decide +kernel
theorem dX3_change_19 : decode cX3_change 19 = .ok (.iconst 5, 1) := by decide +kernel
theorem dX3_change_20 : decode cX3_change 20 = .ok (.if_icmp .ge 13, 3) := by decide +kernel
theorem dX3_change_23 : decode cX3_change 23 = .ok (.iload_n 3, 1) := by decide +kernel
theorem dX3_change_24 : decode cX3_change 24 = .ok (.ifCond .lt 9, 3) := by decide +kernel
theorem dX3_change_27 : decode cX3_change 27 = .ok (.iload_n 3, 1) := by decide +kernel
theorem dX3_change_28 : decode cX3_change 28 = .ok (.bipush 10, 2) := by decide +kernel
theorem dX3_change_30 : decode cX3_change 30 = .ok (.if_icmp .lt 6, 3) := by decide +kernel
theorem dX3_change_33 : decode cX3_change 33 = .ok (.bipush (-102), 2) := by decide +kernel
theorem dX3_change_35 : decode cX3_change 35 = .ok (.ireturn, 1) := by decide +kernel
theorem dX3_change_36 : decode cX3_change 36 = .ok (.aload_n 0, 1) := by decide +kernel
theorem dX3_change_37 : decode cX3_change 37 = .ok (.getfield 19, 3) := by decide +kernel
theorem dX3_change_40 : decode cX3_change 40 = .ok (.getfield 80, 3) := by decide +kernel
theorem dX3_change_43 : decode cX3_change 43 = .ok (.iload_n 1, 1) := by decide +kernel
theorem dX3_change_44 : decode cX3_change 44 = .ok (.iaload, 1) := by decide +kernel
theorem dX3_change_45 : decode cX3_change 45 = .ok (.istore 4, 2) := by decide +kernel
theorem dX3_change_47 : decode cX3_change 47 = .ok (.aload_n 0, 1) := by decide +kernel
theorem dX3_change_48 : decode cX3_change 48 = .ok (.getfield 19, 3) := by decide +kernel
theorem dX3_change_51 : decode cX3_change 51 = .ok (.iload_n 1, 1) := by decide +kernel
theorem dX3_change_52 : decode cX3_change 52 = .ok (.iload_n 2, 1) := by decide +kernel
theorem dX3_change_53 : decode cX3_change 53 = .ok (.iload_n 3, 1) := by decide +kernel
theorem dX3_change_54 : decode cX3_change 54 = .ok (.invokevirtual 137, 3) := by decide +kernel
theorem dX3_change_57 : decode cX3_change 57 = .ok (.iload 4, 2) := by decide +kernel
theorem dX3_change_59 : decode cX3_change 59 = .ok (.ireturn, 1) := by decide +kernel
theorem dX3_round_0 : decode cX3_round 0 = .ok (.aload_n 0, 1) := by decide +kernel
theorem dX3_round_1 : decode cX3_round 1 = .ok (.getfield 19, 3) := by decide +kernel
theorem dX3_round_4 : decode cX3_round 4 = .ok (.iload_n 1, 1) := by decide +kernel
theorem dX3_round_5 : decode cX3_round 5 = .ok (.invokevirtual 108, 3) := by decide +kernel
theorem dX3_round_8 : decode cX3_round 8 = .ok (.ifCond .eq 15, 3) := by decide +kernel
theorem dX3_round_11 : decode cX3_round 11 = .ok (.aload_n 0, 1) := by decide +kernel
theorem dX3_round_12 : decode cX3_round 12 = .ok (.invokevirtual 127, 3) := by decide +kernel
theorem dX3_round_15 : decode cX3_round 15 = .ok (.getfield 141, 3) := by decide +kernel
theorem dX3_round_18 : decode cX3_round 18 = .ok (.iload_n 1, 1) := by decide +kernel
theorem dX3_round_19 : decode cX3_round 19 = .ok (.iaload, 1) := by decide +kernel
theorem dX3_round_20 : decode cX3_round 20 = .ok (.goto 5, 3) := by decide +kernel
theorem dX3_round_23 : decode cX3_round 23 = .ok (.bipush (-101), 2) := by decide +kernel
theorem dX3_round_25 : decode cX3_round 25 = .ok (.ireturn, 1) := by decide +kernel
theorem dX3_after_0 : decode cX3_after 0 = .ok (.aload_n 0, 1) := by decide +kernel
theorem dX3_after_1 : decode cX3_after 1 = .ok (.getfield 19, 3) := by decide +kernel
theorem dX3_after_4 : decode cX3_after 4 = .ok (.iload_n 1, 1) := by decide +kernel
theorem dX3_after_5 : decode cX3_after 5 = .ok (.invokevirtual 108, 3) := by decide +kernel
theorem dX3_after_8 : decode cX3_after 8 = .ok (.ifCond .ne 6, 3) := by decide +kernel
theorem dX3_after_11 : decode cX3_after 11 = .ok (.bipush (-101), 2) := by decide +kernel
theorem dX3_after_13 : decode cX3_after 13 = .ok (.ireturn, 1) := by decide +kernel
theorem dX3_after_14 : decode cX3_after 14 = .ok (.iload_n 2, 1) := by decide +kernel
theorem dX3_after_15 : decode cX3_after 15 = .ok (.ifCond .lt 9, 3) := by decide +kernel
theorem dX3_after_18 : decode cX3_after 18 = .ok (.iload_n 2, 1) := by decide +kernel
theorem dX3_after_19 : decode cX3_after 19 = .ok (.ldc 144, 2) := by decide +kernel
theorem dX3_after_21 : decode cX3_after 21 = .ok (.if_icmp .le 6, 3) := by decide +kernel
theorem dX3_after_24 : decode cX3_after 24 = .ok (.bipush (-102), 2) := by decide +kernel
theorem dX3_after_26 : decode cX3_after 26 = .ok (.ireturn, 1) := by decide +kernel
theorem dX3_after_27 : decode cX3_after 27 = .ok (.aload_n 0, 1) := by decide +kernel
theorem dX3_after_28 : decode cX3_after 28 = .ok (.invokevirtual 127, 3) := by decide +kernel
theorem dX3_after_31 : decode cX3_after 31 = .ok (.iload_n 1, 1) := by decide +kernel
theorem dX3_after_32 : decode cX3_after 32 = .ok (.iload_n 2, 1) := by decide +kernel
theorem dX3_after_33 : decode cX3_after 33 = .ok (.invokevirtual 145, 3) := by decide +kernel
theorem dX3_after_36 : decode cX3_after 36 = .ok (.ireturn, 1) := by decide +kernel
theorem dX3_rings_0 : decode cX3_rings 0 = .ok (.iload_n 1, 1) := by decide +kernel
theorem dX3_rings_1 : decode cX3_rings 1 = .ok (.ifCond .lt 8, 3) := by decide +kernel
theorem dX3_rings_4 : decode cX3_rings 4 = .ok (.iload_n 1, 1) := by decide +kernel
theorem dX3_rings_5 : decode cX3_rings 5 = .ok (.iconst 3, 1) := by decide +kernel
theorem dX3_rings_6 : decode cX3_rings 6 = .ok (.if_icmp .le 6, 3) := by decide +kernel
theorem dX3_rings_9 : decode cX3_rings 9 = .ok (.bipush (-102), 2) := by decide +kernel
theorem dX3_rings_11 : decode cX3_rings 11 = .ok (.ireturn, 1) := by decide +kernel
theorem dX3_rings_12 : decode cX3_rings 12 = .ok (.aload_n 0, 1) := by decide +kernel
theorem dX3_rings_13 : decode cX3_rings 13 = .ok (.getfield 19, 3) := by decide +kernel
theorem dX3_rings_16 : decode cX3_rings 16 = .ok (.invokevirtual 124, 3) := by decide +kernel
theorem dX3_rings_19 : decode cX3_rings 19 = .ok (.ifCond .ne 6, 3) := by decide +kernel
theorem dX3_rings_22 : decode cX3_rings 22 = .ok (.bipush (-103), 2) := by decide +kernel
theorem dX3_rings_24 : decode cX3_rings 24 = .ok (.ireturn, 1) := by decide +kernel
theorem dX3_rings_25 : decode cX3_rings 25 = .ok (.aload_n 0, 1) := by decide +kernel
theorem dX3_rings_26 : decode cX3_rings 26 = .ok (.invokevirtual 127, 3) := by decide +kernel
theorem dX3_rings_29 : decode cX3_rings 29 = .ok (.astore_n 2, 1) := by decide +kernel
theorem dX3_rings_30 : decode cX3_rings 30 = .ok (.iload_n 1, 1) := by decide +kernel
theorem dX3_rings_31 : decode cX3_rings 31 = .ok (.tableswitch 40 0 2 #[25, 30, 35], 25) := by decide +kernel
theorem dX3_rings_56 : decode cX3_rings 56 = .ok (.aload_n 2, 1) := by decide +kernel
theorem dX3_rings_57 : decode cX3_rings 57 = .ok (.invokevirtual 93, 3) := by decide +kernel
theorem dX3_rings_60 : decode cX3_rings 60 = .ok (.ireturn, 1) := by decide +kernel
theorem dX3_rings_61 : decode cX3_rings 61 = .ok (.aload_n 2, 1) := by decide +kernel
theorem dX3_rings_62 : decode cX3_rings 62 = .ok (.invokevirtual 148, 3) := by decide +kernel
theorem dX3_rings_65 : decode cX3_rings 65 = .ok (.ireturn, 1) := by decide +kernel
theorem dX3_rings_66 : decode cX3_rings 66 = .ok (.aload_n 2, 1) := by decide +kernel
theorem dX3_rings_67 : decode cX3_rings 67 = .ok (.invokevirtual 151, 3) := by decide +kernel
theorem dX3_rings_70 : decode cX3_rings 70 = .ok (.ireturn, 1) := by decide +kernel
theorem dX3_rings_71 : decode cX3_rings 71 = .ok (.aload_n 2, 1) := by decide +kernel
theorem dX3_rings_72 : decode cX3_rings 72 = .ok (.invokevirtual 90, 3) := by decide +kernel
theorem dX3_rings_75 : decode cX3_rings 75 = .ok (.ireturn, 1) := by decide +kernel
theorem dX3_bring_0 : decode cX3_bring 0 = .ok (.aload_n 0, 1) := by decide +kernel
theorem dX3_bring_1 : decode cX3_bring 1 = .ok (.getfield 19, 3) := by decide +kernel
theorem dX3_bring_4 : decode cX3_bring 4 = .ok (.iload_n 1, 1) := by decide +kernel
theorem dX3_bring_5 : decode cX3_bring 5 = .ok (.invokevirtual 154, 3) := by decide +kernel
theorem dX3_bring_8 : decode cX3_bring 8 = .ok (.ifCond .eq 14, 3) := by decide +kernel
theorem dX3_bring_11 : decode cX3_bring 11 = .ok (.aload_n 0, 1) := by decide +kernel
theorem dX3_bring_12 : decode cX3_bring 12 = .ok (.getfield 19, 3) := by decide +kernel
theorem dX3_bring_15 : decode cX3_bring 15 = .ok (.iload_n 2, 1) := by decide +kernel
theorem dX3_bring_16 : decode cX3_bring 16 = .ok (.invokevirtual 108, 3) := by decide +kernel
theorem dX3_bring_19 : decode cX3_bring 19 = .ok (.ifCond .ne 6, 3) := by decide +kernel
theorem dX3_bring_22 : decode cX3_bring 22 = .ok (.bipush (-101), 2) := by decide +kernel
theorem dX3_bring_24 : decode cX3_bring 24 = .ok (.ireturn, 1) := by decide +kernel
theorem dX3_bring_25 : decode cX3_bring 25 = .ok (.iload_n 3, 1) := by decide +kernel
theorem dX3_bring_26 : decode cX3_bring 26 = .ok (.ifCond .lt 8, 3) := by decide +kernel
theorem dX3_bring_29 : decode cX3_bring 29 = .ok (.iload_n 3, 1) := by decide +kernel
theorem dX3_bring_30 : decode cX3_bring 30 = .ok (.iconst 1, 1) := by decide +kernel
theorem dX3_bring_31 : decode cX3_bring 31 = .ok (.if_icmp .le 6, 3) := by decide +kernel
theorem dX3_bring_34 : decode cX3_bring 34 = .ok (.bipush (-102), 2) := by decide +kernel
theorem dX3_bring_36 : decode cX3_bring 36 = .ok (.ireturn, 1) := by decide +kernel
theorem dX3_bring_37 : decode cX3_bring 37 = .ok (.aload_n 0, 1) := by decide +kernel
theorem dX3_bring_38 : decode cX3_bring 38 = .ok (.getfield 19, 3) := by decide +kernel
theorem dX3_bring_41 : decode cX3_bring 41 = .ok (.iload_n 1, 1) := by decide +kernel
theorem dX3_bring_42 : decode cX3_bring 42 = .ok (.invokevirtual 157, 3) := by decide +kernel
theorem dX3_bring_45 : decode cX3_bring 45 = .ok (.istore 4, 2) := by decide +kernel
theorem dX3_bring_47 : decode cX3_bring 47 = .ok (.aload_n 0, 1) := by decide +kernel
theorem dX3_bring_48 : decode cX3_bring 48 = .ok (.iload_n 2, 1) := by decide +kernel
theorem dX3_bring_49 : decode cX3_bring 49 = .ok (.invokevirtual 160, 3) := by decide +kernel
theorem dX3_bring_52 : decode cX3_bring 52 = .ok (.iload_n 3, 1) := by decide +kernel
theorem dX3_bring_53 : decode cX3_bring 53 = .ok (.ifCond .ne 13, 3) := by decide +kernel
theorem dX3_bring_56 : decode cX3_bring 56 = .ok (.aload_n 0, 1) := by decide +kernel
theorem dX3_bring_57 : decode cX3_bring 57 = .ok (.getfield 33, 3) := by decide +kernel
theorem dX3_bring_60 : decode cX3_bring 60 = .ok (.iload 4, 2) := by decide +kernel
theorem dX3_bring_62 : decode cX3_bring 62 = .ok (.iaload, 1) := by decide +kernel
theorem dX3_bring_63 : decode cX3_bring 63 = .ok (.goto 9, 3) := by decide +kernel
theorem dX3_bring_66 : decode cX3_bring 66 = .ok (.aload_n 0, 1) := by decide +kernel
theorem dX3_bring_67 : decode cX3_bring 67 = .ok (.iload 4, 2) := by decide +kernel
theorem dX3_bring_69 : decode cX3_bring 69 = .ok (.invokevirtual 163, 3) := by decide +kernel
theorem dX3_bring_72 : decode cX3_bring 72 = .ok (.ireturn, 1) := by decide +kernel
theorem dX3_home_0 : decode cX3_home 0 = .ok (.iload_n 1, 1) := by decide +kernel
theorem dX3_home_1 : decode cX3_home 1 = .ok (.ifCond .lt 8, 3) := by decide +kernel
theorem dX3_home_4 : decode cX3_home 4 = .ok (.iload_n 1, 1) := by decide +kernel
theorem dX3_home_5 : decode cX3_home 5 = .ok (.iconst 1, 1) := by decide +kernel
theorem dX3_home_6 : decode cX3_home 6 = .ok (.if_icmp .le 6, 3) := by decide +kernel
theorem dX3_home_9 : decode cX3_home 9 = .ok (.bipush (-102), 2) := by decide +kernel
theorem dX3_home_11 : decode cX3_home 11 = .ok (.ireturn, 1) := by decide +kernel
theorem dX3_home_12 : decode cX3_home 12 = .ok (.aload_n 0, 1) := by decide +kernel
theorem dX3_home_13 : decode cX3_home 13 = .ok (.getfield 19, 3) := by decide +kernel
theorem dX3_home_16 : decode cX3_home 16 = .ok (.invokevirtual 124, 3) := by decide +kernel
theorem dX3_home_19 : decode cX3_home 19 = .ok (.ifCond .eq 12, 3) := by decide +kernel
theorem dX3_home_22 : decode cX3_home 22 = .ok (.aload_n 0, 1) := by decide +kernel
theorem dX3_home_23 : decode cX3_home 23 = .ok (.getfield 166, 3) := by decide +kernel
theorem dX3_home_26 : decode cX3_home 26 = .ok (.bipush 30, 2) := by decide +kernel
theorem dX3_home_28 : decode cX3_home 28 = .ok (.if_icmp .lt 6, 3) := by decide +kernel
theorem dX3_home_31 : decode cX3_home 31 = .ok (.bipush (-103), 2) := by decide +kernel
theorem dX3_home_33 : decode cX3_home 33 = .ok (.ireturn, 1) := by decide +kernel
theorem dX3_home_34 : decode cX3_home 34 = .ok (.aload_n 0, 1) := by decide +kernel
theorem dX3_home_35 : decode cX3_home 35 = .ok (.dup, 1) := by decide +kernel
theorem dX3_home_36 : decode cX3_home 36 = .ok (.getfield 166, 3) := by decide +kernel
theorem dX3_home_39 : decode cX3_home 39 = .ok (.iconst 1, 1) := by decide +kernel
theorem dX3_home_40 : decode cX3_home 40 = .ok (.iadd, 1) := by decide +kernel
theorem dX3_home_41 : decode cX3_home 41 = .ok (.putfield 166, 3) := by decide +kernel
theorem dX3_home_44 : decode cX3_home 44 = .ok (.iconst 0, 1) := by decide +kernel
theorem dX3_home_45 : decode cX3_home 45 = .ok (.istore_n 2, 1) := by decide +kernel
theorem dX3_home_46 : decode cX3_home 46 = .ok (.iload_n 2, 1) := by decide +kernel
theorem dX3_home_47 : decode cX3_home 47 = .ok (.iconst 4, 1) := by decide +kernel
theorem dX3_home_48 : decode cX3_home 48 = .ok (.if_icmp .gt 31, 3) := by decide +kernel
theorem dX3_home_51 : decode cX3_home 51 = .ok (.aload_n 0, 1) := by decide +kernel
theorem dX3_home_52 : decode cX3_home 52 = .ok (.iload_n 2, 1) := by decide +kernel
theorem dX3_home_53 : decode cX3_home 53 = .ok (.invokevirtual 169, 3) := by decide +kernel
theorem dX3_home_56 : decode cX3_home 56 = .ok (.ifCond .eq 17, 3) := by decide +kernel
theorem dX3_home_59 : decode cX3_home 59 = .ok (.iload_n 1, 1) := by decide +kernel
theorem dX3_home_60 : decode cX3_home 60 = .ok (.ifCond .ne 7, 3) := by decide +kernel
theorem dX3_home_63 : decode cX3_home 63 = .ok (.iload_n 2, 1) := by decide +kernel
theorem dX3_home_64 : decode cX3_home 64 = .ok (.goto 8, 3) := by decide +kernel
theorem dX3_home_67 : decode cX3_home 67 = .ok (.aload_n 0, 1) := by decide +kernel
theorem dX3_home_68 : decode cX3_home 68 = .ok (.iload_n 2, 1) := by decide +kernel
theorem dX3_home_69 : decode cX3_home 69 = .ok (.invokevirtual 172, 3) := by decide +kernel
theorem dX3_home_72 : decode cX3_home 72 = .ok (.ireturn, 1) := by decide +kernel
theorem dX3_home_73 : decode cX3_home 73 = .ok (.iinc 2 1, 3) := by decide +kernel
theorem dX3_home_76 : decode cX3_home 76 = .ok (.goto (-30), 3) := by decide +kernel
theorem dX3_home_79 : decode cX3_home 79 = .ok (.iconst (-1), 1) := by decide +kernel
theorem dX3_home_80 : decode cX3_home 80 = .ok (.ireturn, 1) := by decide +kernel
theorem dX3_odds_0 : decode cX3_odds 0 = .ok (.aload_n 0, 1) := by decide +kernel
theorem dX3_odds_1 : decode cX3_odds 1 = .ok (.getfield 19, 3) := by decide +kernel
theorem dX3_odds_4 : decode cX3_odds 4 = .ok (.iload_n 1, 1) := by decide +kernel
theorem dX3_odds_5 : decode cX3_odds 5 = .ok (.invokevirtual 154, 3) := by decide +kernel
theorem dX3_odds_8 : decode cX3_odds 8 = .ok (.ifCond .eq 14, 3) := by decide +kernel
theorem dX3_odds_11 : decode cX3_odds 11 = .ok (.aload_n 0, 1) := by decide +kernel
theorem dX3_odds_12 : decode cX3_odds 12 = .ok (.getfield 19, 3) := by decide +kernel
theorem dX3_odds_15 : decode cX3_odds 15 = .ok (.iload_n 2, 1) := by decide +kernel
theorem dX3_odds_16 : decode cX3_odds 16 = .ok (.invokevirtual 108, 3) := by decide +kernel
theorem dX3_odds_19 : decode cX3_odds 19 = .ok (.ifCond .ne 6, 3) := by decide +kernel
theorem dX3_odds_22 : decode cX3_odds 22 = .ok (.bipush (-101), 2) := by decide +kernel
theorem dX3_odds_24 : decode cX3_odds 24 = .ok (.ireturn, 1) := by decide +kernel
theorem dX3_odds_25 : decode cX3_odds 25 = .ok (.iload_n 3, 1) := by decide +kernel
theorem dX3_odds_26 : decode cX3_odds 26 = .ok (.iconst 1, 1) := by decide +kernel
theorem dX3_odds_27 : decode cX3_odds 27 = .ok (.if_icmp .lt 20, 3) := by decide +kernel
theorem dX3_odds_30 : decode cX3_odds 30 = .ok (.iload_n 3, 1) := by decide +kernel
theorem dX3_odds_31 : decode cX3_odds 31 = .ok (.bipush 8, 2) := by decide +kernel
theorem dX3_odds_33 : decode cX3_odds 33 = .ok (.if_icmp .gt 14, 3) := by decide +kernel
theorem dX3_odds_36 : decode cX3_odds 36 = .ok (.iload 4, 2) := by decide +kernel
theorem dX3_odds_38 : decode cX3_odds 38 = .ok (.ifCond .lt 9, 3) := by decide +kernel
theorem dX3_odds_41 : decode cX3_odds 41 = .ok (.iload 4, 2) := by decide +kernel
theorem dX3_odds_43 : decode cX3_odds 43 = .ok (.iconst 1, 1) := by decide +kernel
theorem dX3_odds_44 : decode cX3_odds 44 = .ok (.if_icmp .le 6, 3) := by decide +kernel
theorem dX3_odds_47 : decode cX3_odds 47 = .ok (.bipush (-102), 2) := by decide +kernel
theorem dX3_odds_49 : decode cX3_odds 49 = .ok (.ireturn, 1) := by decide +kernel
theorem dX3_odds_50 : decode cX3_odds 50 = .ok (.aload_n 0, 1) := by decide +kernel
theorem dX3_odds_51 : decode cX3_odds 51 = .ok (.aload_n 0, 1) := by decide +kernel
theorem dX3_odds_52 : decode cX3_odds 52 = .ok (.getfield 19, 3) := by decide +kernel
theorem dX3_odds_55 : decode cX3_odds 55 = .ok (.iload_n 1, 1) := by decide +kernel
theorem dX3_odds_56 : decode cX3_odds 56 = .ok (.invokevirtual 157, 3) := by decide +kernel
theorem dX3_odds_59 : decode cX3_odds 59 = .ok (.iload_n 3, 1) := by decide +kernel
theorem dX3_odds_60 : decode cX3_odds 60 = .ok (.invokevirtual 175, 3) := by decide +kernel
theorem dX3_odds_63 : decode cX3_odds 63 = .ok (.aload_n 0, 1) := by decide +kernel
theorem dX3_odds_64 : decode cX3_odds 64 = .ok (.getfield 33, 3) := by decide +kernel
theorem dX3_odds_67 : decode cX3_odds 67 = .ok (.iload_n 2, 1) := by decide +kernel
theorem dX3_odds_68 : decode cX3_odds 68 = .ok (.iaload, 1) := by decide +kernel
theorem dX3_odds_69 : decode cX3_odds 69 = .ok (.istore 5, 2) := by decide +kernel
theorem dX3_odds_71 : decode cX3_odds 71 = .ok (.iconst 1, 1) := by decide +kernel
theorem dX3_odds_72 : decode cX3_odds 72 = .ok (.istore 6, 2) := by decide +kernel
theorem dX3_odds_74 : decode cX3_odds 74 = .ok (.iconst 0, 1) := by decide +kernel
theorem dX3_odds_75 : decode cX3_odds 75 = .ok (.istore 7, 2) := by decide +kernel
theorem dX3_odds_77 : decode cX3_odds 77 = .ok (.iload 7, 2) := by decide +kernel
theorem dX3_odds_79 : decode cX3_odds 79 = .ok (.iload_n 3, 1) := by decide +kernel
theorem dX3_odds_80 : decode cX3_odds 80 = .ok (.if_icmp .ge 21, 3) := by decide +kernel
theorem dX3_odds_83 : decode cX3_odds 83 = .ok (.iload 6, 2) := by decide +kernel
theorem dX3_odds_85 : decode cX3_odds 85 = .ok (.aload_n 0, 1) := by decide +kernel
theorem dX3_odds_86 : decode cX3_odds 86 = .ok (.getfield 19, 3) := by decide +kernel
theorem dX3_odds_89 : decode cX3_odds 89 = .ok (.getfield 73, 3) := by decide +kernel
theorem dX3_odds_92 : decode cX3_odds 92 = .ok (.imul, 1) := by decide +kernel
theorem dX3_odds_93 : decode cX3_odds 93 = .ok (.istore 6, 2) := by decide +kernel
theorem dX3_odds_95 : decode cX3_odds 95 = .ok (.iinc 7 1, 3) := by decide +kernel
theorem dX3_odds_98 : decode cX3_odds 98 = .ok (.goto (-21), 3) := by decide +kernel
theorem dX3_odds_101 : decode cX3_odds 101 = .ok (.iload 4, 2) := by decide +kernel
theorem dX3_odds_103 : decode cX3_odds 103 = .ok (.ifCond .ne 8, 3) := by decide +kernel
theorem dX3_odds_106 : decode cX3_odds 106 = .ok (.iload 5, 2) := by decide +kernel
theorem dX3_odds_108 : decode cX3_odds 108 = .ok (.goto 5, 3) := by decide +kernel
theorem dX3_odds_111 : decode cX3_odds 111 = .ok (.iload 6, 2) := by decide +kernel
theorem dX3_odds_113 : decode cX3_odds 113 = .ok (.istore 7, 2) := by decide +kernel
theorem dX3_odds_115 : decode cX3_odds 115 = .ok (.iload 6, 2) := by decide +kernel
theorem dX3_odds_117 : decode cX3_odds 117 = .ok (.iload 5, 2) := by decide +kernel
theorem dX3_odds_119 : decode cX3_odds 119 = .ok (.invokestatic 179, 3) := by decide +kernel
theorem dX3_odds_122 : decode cX3_odds 122 = .ok (.istore 8, 2) := by decide +kernel
theorem dX3_odds_124 : decode cX3_odds 124 = .ok (.iload 8, 2) := by decide +kernel
theorem dX3_odds_126 : decode cX3_odds 126 = .ok (.ifCond .le 11, 3) := by decide +kernel
theorem dX3_odds_129 : decode cX3_odds 129 = .ok (.iload 7, 2) := by decide +kernel
theorem dX3_odds_131 : decode cX3_odds 131 = .ok (.iload 8, 2) := by decide +kernel
theorem dX3_odds_133 : decode cX3_odds 133 = .ok (.idiv, 1) := by decide +kernel
theorem dX3_odds_134 : decode cX3_odds 134 = .ok (.goto 5, 3) := by decide +kernel
theorem dX3_odds_137 : decode cX3_odds 137 = .ok (.iload 7, 2) := by decide +kernel
theorem dX3_odds_139 : decode cX3_odds 139 = .ok (.ireturn, 1) := by decide +kernel
theorem dX3_see_0 : decode cX3_see 0 = .ok (.aload_n 0, 1) := by decide +kernel
theorem dX3_see_1 : decode cX3_see 1 = .ok (.getfield 19, 3) := by decide +kernel
theorem dX3_see_4 : decode cX3_see 4 = .ok (.iload_n 1, 1) := by decide +kernel
theorem dX3_see_5 : decode cX3_see 5 = .ok (.invokevirtual 76, 3) := by decide +kernel
theorem dX3_see_8 : decode cX3_see 8 = .ok (.ifCond .eq 25, 3) := by decide +kernel
theorem dX3_see_11 : decode cX3_see 11 = .ok (.aload_n 0, 1) := by decide +kernel
theorem dX3_see_12 : decode cX3_see 12 = .ok (.getfield 19, 3) := by decide +kernel
theorem dX3_see_15 : decode cX3_see 15 = .ok (.iload_n 2, 1) := by decide +kernel
theorem dX3_see_16 : decode cX3_see 16 = .ok (.invokevirtual 108, 3) := by decide +kernel
theorem dX3_see_19 : decode cX3_see 19 = .ok (.ifCond .eq 14, 3) := by decide +kernel
theorem dX3_see_22 : decode cX3_see 22 = .ok (.aload_n 0, 1) := by decide +kernel
end
section
theorem dX3_see_23 : decode cX3_see 23 = .ok (.getfield 19, 3) := by decide +kernel
theorem dX3_see_26 : decode cX3_see 26 = .ok (.iload_n 3, 1) := by decide +kernel
theorem dX3_see_27 : decode cX3_see 27 = .ok (.invokevirtual 108, 3) := by decide +kernel
theorem dX3_see_30 : decode cX3_see 30 = .ok (.ifCond .ne 6, 3) := by decide +kernel
theorem dX3_see_33 : decode cX3_see 33 = .ok (.bipush (-101), 2) := by decide +kernel
theorem dX3_see_35 : decode cX3_see 35 = .ok (.ireturn, 1) := by decide +kernel
theorem dX3_see_36 : decode cX3_see 36 = .ok (.aload_n 0, 1) := by decide +kernel
theorem dX3_see_37 : decode cX3_see 37 = .ok (.getfield 19, 3) := by decide +kernel
theorem dX3_see_40 : decode cX3_see 40 = .ok (.getfield 182, 3) := by decide +kernel
theorem dX3_see_43 : decode cX3_see 43 = .ok (.bipush 6, 2) := by decide +kernel
theorem dX3_see_45 : decode cX3_see 45 = .ok (.if_icmp .lt 6, 3) := by decide +kernel
theorem dX3_see_48 : decode cX3_see 48 = .ok (.bipush (-104), 2) := by decide +kernel
theorem dX3_see_50 : decode cX3_see 50 = .ok (.ireturn, 1) := by decide +kernel
theorem dX3_see_51 : decode cX3_see 51 = .ok (.aload_n 0, 1) := by decide +kernel
theorem dX3_see_52 : decode cX3_see 52 = .ok (.getfield 19, 3) := by decide +kernel
theorem dX3_see_55 : decode cX3_see 55 = .ok (.iload_n 1, 1) := by decide +kernel
theorem dX3_see_56 : decode cX3_see 56 = .ok (.iload_n 2, 1) := by decide +kernel
theorem dX3_see_57 : decode cX3_see 57 = .ok (.iload_n 3, 1) := by decide +kernel
theorem dX3_see_58 : decode cX3_see 58 = .ok (.invokevirtual 185, 3) := by decide +kernel
theorem dX3_see_61 : decode cX3_see 61 = .ok (.aload_n 0, 1) := by decide +kernel
theorem dX3_see_62 : decode cX3_see 62 = .ok (.getfield 19, 3) := by decide +kernel
theorem dX3_see_65 : decode cX3_see 65 = .ok (.getfield 182, 3) := by decide +kernel
theorem dX3_see_68 : decode cX3_see 68 = .ok (.ireturn, 1) := by decide +kernel
theorem dX3_forget_0 : decode cX3_forget 0 = .ok (.aload_n 0, 1) := by decide +kernel
theorem dX3_forget_1 : decode cX3_forget 1 = .ok (.getfield 19, 3) := by decide +kernel
theorem dX3_forget_4 : decode cX3_forget 4 = .ok (.getfield 182, 3) := by decide +kernel
theorem dX3_forget_7 : decode cX3_forget 7 = .ok (.istore_n 1, 1) := by decide +kernel
theorem dX3_forget_8 : decode cX3_forget 8 = .ok (.aload_n 0, 1) := by decide +kernel
theorem dX3_forget_9 : decode cX3_forget 9 = .ok (.getfield 19, 3) := by decide +kernel
theorem dX3_forget_12 : decode cX3_forget 12 = .ok (.iconst 0, 1) := by decide +kernel
theorem dX3_forget_13 : decode cX3_forget 13 = .ok (.putfield 182, 3) := by decide +kernel
theorem dX3_forget_16 : decode cX3_forget 16 = .ok (.iload_n 1, 1) := by decide +kernel
theorem dX3_forget_17 : decode cX3_forget 17 = .ok (.ireturn, 1) := by decide +kernel
theorem dX3_runs_0 : decode cX3_runs 0 = .ok (.iload_n 1, 1) := by decide +kernel
theorem dX3_runs_1 : decode cX3_runs 1 = .ok (.iconst 1, 1) := by decide +kernel
theorem dX3_runs_2 : decode cX3_runs 2 = .ok (.if_icmp .lt 22, 3) := by decide +kernel
theorem dX3_runs_5 : decode cX3_runs 5 = .ok (.iload_n 1, 1) := by decide +kernel
theorem dX3_runs_6 : decode cX3_runs 6 = .ok (.bipush 99, 2) := by decide +kernel
theorem dX3_runs_8 : decode cX3_runs 8 = .ok (.if_icmp .gt 16, 3) := by decide +kernel
theorem dX3_runs_11 : decode cX3_runs 11 = .ok (.iload_n 2, 1) := by decide +kernel
theorem dX3_runs_12 : decode cX3_runs 12 = .ok (.ifCond .lt 12, 3) := by decide +kernel
theorem dX3_runs_15 : decode cX3_runs 15 = .ok (.iload_n 3, 1) := by decide +kernel
theorem dX3_runs_16 : decode cX3_runs 16 = .ok (.ifCond .lt 8, 3) := by decide +kernel
theorem dX3_runs_19 : decode cX3_runs 19 = .ok (.iload_n 3, 1) := by decide +kernel
theorem dX3_runs_20 : decode cX3_runs 20 = .ok (.iconst 2, 1) := by decide +kernel
theorem dX3_runs_21 : decode cX3_runs 21 = .ok (.if_icmp .le 6, 3) := by decide +kernel
theorem dX3_runs_24 : decode cX3_runs 24 = .ok (.bipush (-102), 2) := by decide +kernel
theorem dX3_runs_26 : decode cX3_runs 26 = .ok (.ireturn, 1) := by decide +kernel
theorem dX3_runs_27 : decode cX3_runs 27 = .ok (.aload_n 0, 1) := by decide +kernel
theorem dX3_runs_28 : decode cX3_runs 28 = .ok (.getfield 19, 3) := by decide +kernel
theorem dX3_runs_31 : decode cX3_runs 31 = .ok (.invokevirtual 124, 3) := by decide +kernel
theorem dX3_runs_34 : decode cX3_runs 34 = .ok (.ifCond .ne 6, 3) := by decide +kernel
theorem dX3_runs_37 : decode cX3_runs 37 = .ok (.bipush (-103), 2) := by decide +kernel
theorem dX3_runs_39 : decode cX3_runs 39 = .ok (.ireturn, 1) := by decide +kernel
theorem dX3_runs_40 : decode cX3_runs 40 = .ok (.aload_n 0, 1) := by decide +kernel
theorem dX3_runs_41 : decode cX3_runs 41 = .ok (.iload_n 1, 1) := by decide +kernel
theorem dX3_runs_42 : decode cX3_runs 42 = .ok (.iload_n 2, 1) := by decide +kernel
theorem dX3_runs_43 : decode cX3_runs 43 = .ok (.invokevirtual 188, 3) := by decide +kernel
theorem dX3_runs_46 : decode cX3_runs 46 = .ok (.istore 4, 2) := by decide +kernel
theorem dX3_runs_48 : decode cX3_runs 48 = .ok (.iload_n 3, 1) := by decide +kernel
theorem dX3_runs_49 : decode cX3_runs 49 = .ok (.ifCond .ne 15, 3) := by decide +kernel
theorem dX3_runs_52 : decode cX3_runs 52 = .ok (.aload_n 0, 1) := by decide +kernel
theorem dX3_runs_53 : decode cX3_runs 53 = .ok (.getfield 19, 3) := by decide +kernel
theorem dX3_runs_56 : decode cX3_runs 56 = .ok (.aload_n 0, 1) := by decide +kernel
theorem dX3_runs_57 : decode cX3_runs 57 = .ok (.getfield 29, 3) := by decide +kernel
theorem dX3_runs_60 : decode cX3_runs 60 = .ok (.invokevirtual 191, 3) := by decide +kernel
theorem dX3_runs_63 : decode cX3_runs 63 = .ok (.ireturn, 1) := by decide +kernel
theorem dX3_runs_64 : decode cX3_runs 64 = .ok (.iload_n 3, 1) := by decide +kernel
theorem dX3_runs_65 : decode cX3_runs 65 = .ok (.iconst 1, 1) := by decide +kernel
theorem dX3_runs_66 : decode cX3_runs 66 = .ok (.if_icmp .ne 17, 3) := by decide +kernel
theorem dX3_runs_69 : decode cX3_runs 69 = .ok (.aload_n 0, 1) := by decide +kernel
theorem dX3_runs_70 : decode cX3_runs 70 = .ok (.getfield 19, 3) := by decide +kernel
theorem dX3_runs_73 : decode cX3_runs 73 = .ok (.aload_n 0, 1) := by decide +kernel
theorem dX3_runs_74 : decode cX3_runs 74 = .ok (.getfield 29, 3) := by decide +kernel
theorem dX3_runs_77 : decode cX3_runs 77 = .ok (.invokevirtual 195, 3) := by decide +kernel
theorem dX3_runs_80 : decode cX3_runs 80 = .ok (.goto 5, 3) := by decide +kernel
theorem dX3_runs_83 : decode cX3_runs 83 = .ok (.iload 4, 2) := by decide +kernel
theorem dX3_runs_85 : decode cX3_runs 85 = .ok (.ireturn, 1) := by decide +kernel
theorem dX3_image_0 : decode cX3_image 0 = .ok (.aload_n 0, 1) := by decide +kernel
theorem dX3_image_1 : decode cX3_image 1 = .ok (.getfield 19, 3) := by decide +kernel
theorem dX3_image_4 : decode cX3_image 4 = .ok (.invokevirtual 124, 3) := by decide +kernel
theorem dX3_image_7 : decode cX3_image 7 = .ok (.ifCond .ne 6, 3) := by decide +kernel
theorem dX3_image_10 : decode cX3_image 10 = .ok (.bipush (-103), 2) := by decide +kernel
theorem dX3_image_12 : decode cX3_image 12 = .ok (.ireturn, 1) := by decide +kernel
theorem dX3_image_13 : decode cX3_image 13 = .ok (.aload_n 0, 1) := by decide +kernel
theorem dX3_image_14 : decode cX3_image 14 = .ok (.getfield 23, 3) := by decide +kernel
theorem dX3_image_17 : decode cX3_image 17 = .ok (.aload_n 0, 1) := by decide +kernel
theorem dX3_image_18 : decode cX3_image 18 = .ok (.getfield 19, 3) := by decide +kernel
theorem dX3_image_21 : decode cX3_image 21 = .ok (.invokevirtual 198, 3) := by decide +kernel
theorem dX3_image_24 : decode cX3_image 24 = .ok (.aload_n 0, 1) := by decide +kernel
theorem dX3_image_25 : decode cX3_image 25 = .ok (.iconst 1, 1) := by decide +kernel
theorem dX3_image_26 : decode cX3_image 26 = .ok (.putfield 66, 3) := by decide +kernel
theorem dX3_image_29 : decode cX3_image 29 = .ok (.aload_n 0, 1) := by decide +kernel
theorem dX3_image_30 : decode cX3_image 30 = .ok (.getfield 19, 3) := by decide +kernel
theorem dX3_image_33 : decode cX3_image 33 = .ok (.getfield 117, 3) := by decide +kernel
theorem dX3_image_36 : decode cX3_image 36 = .ok (.ireturn, 1) := by decide +kernel
theorem dX3_restore_0 : decode cX3_restore 0 = .ok (.aload_n 0, 1) := by decide +kernel
theorem dX3_restore_1 : decode cX3_restore 1 = .ok (.getfield 66, 3) := by decide +kernel
theorem dX3_restore_4 : decode cX3_restore 4 = .ok (.ifCond .ne 6, 3) := by decide +kernel
theorem dX3_restore_7 : decode cX3_restore 7 = .ok (.bipush (-103), 2) := by decide +kernel
theorem dX3_restore_9 : decode cX3_restore 9 = .ok (.ireturn, 1) := by decide +kernel
theorem dX3_restore_10 : decode cX3_restore 10 = .ok (.aload_n 0, 1) := by decide +kernel
theorem dX3_restore_11 : decode cX3_restore 11 = .ok (.getfield 19, 3) := by decide +kernel
theorem dX3_restore_14 : decode cX3_restore 14 = .ok (.aload_n 0, 1) := by decide +kernel
theorem dX3_restore_15 : decode cX3_restore 15 = .ok (.getfield 23, 3) := by decide +kernel
theorem dX3_restore_18 : decode cX3_restore 18 = .ok (.invokevirtual 198, 3) := by decide +kernel
theorem dX3_restore_21 : decode cX3_restore 21 = .ok (.aload_n 0, 1) := by decide +kernel
theorem dX3_restore_22 : decode cX3_restore 22 = .ok (.getfield 19, 3) := by decide +kernel
theorem dX3_restore_25 : decode cX3_restore 25 = .ok (.getfield 117, 3) := by decide +kernel
theorem dX3_restore_28 : decode cX3_restore 28 = .ok (.ireturn, 1) := by decide +kernel
theorem dX3_count_0 : decode cX3_count 0 = .ok (.iload_n 1, 1) := by decide +kernel
theorem dX3_count_1 : decode cX3_count 1 = .ok (.tableswitch 117 0 8 #[51, 59, 67, 75, 83, 91, 99, 107, 112], 51) := by decide +kernel
theorem dX3_count_52 : decode cX3_count 52 = .ok (.aload_n 0, 1) := by decide +kernel
theorem dX3_count_53 : decode cX3_count 53 = .ok (.getfield 19, 3) := by decide +kernel
theorem dX3_count_56 : decode cX3_count 56 = .ok (.getfield 201, 3) := by decide +kernel
theorem dX3_count_59 : decode cX3_count 59 = .ok (.ireturn, 1) := by decide +kernel
theorem dX3_count_60 : decode cX3_count 60 = .ok (.aload_n 0, 1) := by decide +kernel
theorem dX3_count_61 : decode cX3_count 61 = .ok (.getfield 19, 3) := by decide +kernel
theorem dX3_count_64 : decode cX3_count 64 = .ok (.getfield 73, 3) := by decide +kernel
theorem dX3_count_67 : decode cX3_count 67 = .ok (.ireturn, 1) := by decide +kernel
theorem dX3_count_68 : decode cX3_count 68 = .ok (.aload_n 0, 1) := by decide +kernel
theorem dX3_count_69 : decode cX3_count 69 = .ok (.getfield 19, 3) := by decide +kernel
theorem dX3_count_72 : decode cX3_count 72 = .ok (.invokevirtual 131, 3) := by decide +kernel
theorem dX3_count_75 : decode cX3_count 75 = .ok (.ireturn, 1) := by decide +kernel
theorem dX3_count_76 : decode cX3_count 76 = .ok (.aload_n 0, 1) := by decide +kernel
theorem dX3_count_77 : decode cX3_count 77 = .ok (.getfield 19, 3) := by decide +kernel
theorem dX3_count_80 : decode cX3_count 80 = .ok (.invokevirtual 204, 3) := by decide +kernel
theorem dX3_count_83 : decode cX3_count 83 = .ok (.ireturn, 1) := by decide +kernel
theorem dX3_count_84 : decode cX3_count 84 = .ok (.aload_n 0, 1) := by decide +kernel
theorem dX3_count_85 : decode cX3_count 85 = .ok (.getfield 19, 3) := by decide +kernel
theorem dX3_count_88 : decode cX3_count 88 = .ok (.getfield 117, 3) := by decide +kernel
theorem dX3_count_91 : decode cX3_count 91 = .ok (.ireturn, 1) := by decide +kernel
theorem dX3_count_92 : decode cX3_count 92 = .ok (.aload_n 0, 1) := by decide +kernel
theorem dX3_count_93 : decode cX3_count 93 = .ok (.getfield 19, 3) := by decide +kernel
theorem dX3_count_96 : decode cX3_count 96 = .ok (.getfield 182, 3) := by decide +kernel
theorem dX3_count_99 : decode cX3_count 99 = .ok (.ireturn, 1) := by decide +kernel
theorem dX3_count_100 : decode cX3_count 100 = .ok (.aload_n 0, 1) := by decide +kernel
theorem dX3_count_101 : decode cX3_count 101 = .ok (.getfield 10, 3) := by decide +kernel
theorem dX3_count_104 : decode cX3_count 104 = .ok (.getfield 43, 3) := by decide +kernel
theorem dX3_count_107 : decode cX3_count 107 = .ok (.ireturn, 1) := by decide +kernel
theorem dX3_count_108 : decode cX3_count 108 = .ok (.aload_n 0, 1) := by decide +kernel
theorem dX3_count_109 : decode cX3_count 109 = .ok (.getfield 70, 3) := by decide +kernel
theorem dX3_count_112 : decode cX3_count 112 = .ok (.ireturn, 1) := by decide +kernel
theorem dX3_count_113 : decode cX3_count 113 = .ok (.aload_n 0, 1) := by decide +kernel
theorem dX3_count_114 : decode cX3_count 114 = .ok (.getfield 166, 3) := by decide +kernel
theorem dX3_count_117 : decode cX3_count 117 = .ok (.ireturn, 1) := by decide +kernel
theorem dX3_count_118 : decode cX3_count 118 = .ok (.bipush (-102), 2) := by decide +kernel
theorem dX3_count_120 : decode cX3_count 120 = .ok (.ireturn, 1) := by decide +kernel
theorem dX3_digest_0 : decode cX3_digest 0 = .ok (.aload_n 0, 1) := by decide +kernel
theorem dX3_digest_1 : decode cX3_digest 1 = .ok (.aload_n 0, 1) := by decide +kernel
theorem dX3_digest_2 : decode cX3_digest 2 = .ok (.aload_n 0, 1) := by decide +kernel
theorem dX3_digest_3 : decode cX3_digest 3 = .ok (.ldc2_w 207, 3) := by decide +kernel
theorem dX3_digest_6 : decode cX3_digest 6 = .ok (.invokevirtual 209, 3) := by decide +kernel
theorem dX3_digest_9 : decode cX3_digest 9 = .ok (.invokevirtual 213, 3) := by decide +kernel
theorem dX3_digest_12 : decode cX3_digest 12 = .ok (.invokevirtual 216, 3) := by decide +kernel
theorem dX3_digest_15 : decode cX3_digest 15 = .ok (.lstore_n 1, 1) := by decide +kernel
theorem dX3_digest_16 : decode cX3_digest 16 = .ok (.iconst 0, 1) := by decide +kernel
theorem dX3_digest_17 : decode cX3_digest 17 = .ok (.istore_n 3, 1) := by decide +kernel
theorem dX3_digest_18 : decode cX3_digest 18 = .ok (.iload_n 3, 1) := by decide +kernel
theorem dX3_digest_19 : decode cX3_digest 19 = .ok (.aload_n 0, 1) := by decide +kernel
theorem dX3_digest_20 : decode cX3_digest 20 = .ok (.getfield 10, 3) := by decide +kernel
theorem dX3_digest_23 : decode cX3_digest 23 = .ok (.getfield 43, 3) := by decide +kernel
theorem dX3_digest_26 : decode cX3_digest 26 = .ok (.if_icmp .ge 24, 3) := by decide +kernel
theorem dX3_digest_29 : decode cX3_digest 29 = .ok (.lload_n 1, 1) := by decide +kernel
theorem dX3_digest_30 : decode cX3_digest 30 = .ok (.aload_n 0, 1) := by decide +kernel
theorem dX3_digest_31 : decode cX3_digest 31 = .ok (.getfield 10, 3) := by decide +kernel
theorem dX3_digest_34 : decode cX3_digest 34 = .ok (.getfield 219, 3) := by decide +kernel
theorem dX3_digest_37 : decode cX3_digest 37 = .ok (.iload_n 3, 1) := by decide +kernel
theorem dX3_digest_38 : decode cX3_digest 38 = .ok (.iaload, 1) := by decide +kernel
theorem dX3_digest_39 : decode cX3_digest 39 = .ok (.i2l, 1) := by decide +kernel
theorem dX3_digest_40 : decode cX3_digest 40 = .ok (.invokestatic 222, 3) := by decide +kernel
theorem dX3_digest_43 : decode cX3_digest 43 = .ok (.lstore_n 1, 1) := by decide +kernel
theorem dX3_digest_44 : decode cX3_digest 44 = .ok (.iinc 3 1, 3) := by decide +kernel
theorem dX3_digest_47 : decode cX3_digest 47 = .ok (.goto (-29), 3) := by decide +kernel
theorem dX3_digest_50 : decode cX3_digest 50 = .ok (.iconst 0, 1) := by decide +kernel
theorem dX3_digest_51 : decode cX3_digest 51 = .ok (.istore_n 3, 1) := by decide +kernel
theorem dX3_digest_52 : decode cX3_digest 52 = .ok (.iload_n 3, 1) := by decide +kernel
theorem dX3_digest_53 : decode cX3_digest 53 = .ok (.bipush 8, 2) := by decide +kernel
theorem dX3_digest_55 : decode cX3_digest 55 = .ok (.if_icmp .gt 20, 3) := by decide +kernel
theorem dX3_digest_58 : decode cX3_digest 58 = .ok (.lload_n 1, 1) := by decide +kernel
theorem dX3_digest_59 : decode cX3_digest 59 = .ok (.aload_n 0, 1) := by decide +kernel
theorem dX3_digest_60 : decode cX3_digest 60 = .ok (.iload_n 3, 1) := by decide +kernel
theorem dX3_digest_61 : decode cX3_digest 61 = .ok (.invokevirtual 226, 3) := by decide +kernel
theorem dX3_digest_64 : decode cX3_digest 64 = .ok (.i2l, 1) := by decide +kernel
theorem dX3_digest_65 : decode cX3_digest 65 = .ok (.invokestatic 222, 3) := by decide +kernel
theorem dX3_digest_68 : decode cX3_digest 68 = .ok (.lstore_n 1, 1) := by decide +kernel
theorem dX3_digest_69 : decode cX3_digest 69 = .ok (.iinc 3 1, 3) := by decide +kernel
theorem dX3_digest_72 : decode cX3_digest 72 = .ok (.goto (-20), 3) := by decide +kernel
theorem dX3_digest_75 : decode cX3_digest 75 = .ok (.lload_n 1, 1) := by decide +kernel
theorem dX3_digest_76 : decode cX3_digest 76 = .ok (.lreturn, 1) := by decide +kernel
theorem dX3_digestOfSteps_0 : decode cX3_digestOfSteps 0 = .ok (.lload_n 1, 1) := by decide +kernel
theorem dX3_digestOfSteps_1 : decode cX3_digestOfSteps 1 = .ok (.lstore_n 3, 1) := by decide +kernel
theorem dX3_digestOfSteps_2 : decode cX3_digestOfSteps 2 = .ok (.iconst 0, 1) := by decide +kernel
theorem dX3_digestOfSteps_3 : decode cX3_digestOfSteps 3 = .ok (.istore 5, 2) := by decide +kernel
theorem dX3_digestOfSteps_5 : decode cX3_digestOfSteps 5 = .ok (.iload 5, 2) := by decide +kernel
theorem dX3_digestOfSteps_7 : decode cX3_digestOfSteps 7 = .ok (.aload_n 0, 1) := by decide +kernel
theorem dX3_digestOfSteps_8 : decode cX3_digestOfSteps 8 = .ok (.getfield 19, 3) := by decide +kernel
theorem dX3_digestOfSteps_11 : decode cX3_digestOfSteps 11 = .ok (.getfield 73, 3) := by decide +kernel
theorem dX3_digestOfSteps_14 : decode cX3_digestOfSteps 14 = .ok (.if_icmp .ge 38, 3) := by decide +kernel
theorem dX3_digestOfSteps_17 : decode cX3_digestOfSteps 17 = .ok (.iconst 0, 1) := by decide +kernel
theorem dX3_digestOfSteps_18 : decode cX3_digestOfSteps 18 = .ok (.istore 6, 2) := by decide +kernel
theorem dX3_digestOfSteps_20 : decode cX3_digestOfSteps 20 = .ok (.iload 6, 2) := by decide +kernel
theorem dX3_digestOfSteps_22 : decode cX3_digestOfSteps 22 = .ok (.iconst 5, 1) := by decide +kernel
theorem dX3_digestOfSteps_23 : decode cX3_digestOfSteps 23 = .ok (.if_icmp .gt 23, 3) := by decide +kernel
theorem dX3_digestOfSteps_26 : decode cX3_digestOfSteps 26 = .ok (.lload_n 3, 1) := by decide +kernel
theorem dX3_digestOfSteps_27 : decode cX3_digestOfSteps 27 = .ok (.aload_n 0, 1) := by decide +kernel
theorem dX3_digestOfSteps_28 : decode cX3_digestOfSteps 28 = .ok (.iload 5, 2) := by decide +kernel
theorem dX3_digestOfSteps_30 : decode cX3_digestOfSteps 30 = .ok (.iload 6, 2) := by decide +kernel
theorem dX3_digestOfSteps_32 : decode cX3_digestOfSteps 32 = .ok (.invokevirtual 229, 3) := by decide +kernel
theorem dX3_digestOfSteps_35 : decode cX3_digestOfSteps 35 = .ok (.i2l, 1) := by decide +kernel
theorem dX3_digestOfSteps_36 : decode cX3_digestOfSteps 36 = .ok (.invokestatic 222, 3) := by decide +kernel
theorem dX3_digestOfSteps_39 : decode cX3_digestOfSteps 39 = .ok (.lstore_n 3, 1) := by decide +kernel
theorem dX3_digestOfSteps_40 : decode cX3_digestOfSteps 40 = .ok (.iinc 6 1, 3) := by decide +kernel
theorem dX3_digestOfSteps_43 : decode cX3_digestOfSteps 43 = .ok (.goto (-23), 3) := by decide +kernel
theorem dX3_digestOfSteps_46 : decode cX3_digestOfSteps 46 = .ok (.iinc 5 1, 3) := by decide +kernel
theorem dX3_digestOfSteps_49 : decode cX3_digestOfSteps 49 = .ok (.goto (-44), 3) := by decide +kernel
theorem dX3_digestOfSteps_52 : decode cX3_digestOfSteps 52 = .ok (.lload_n 3, 1) := by decide +kernel
theorem dX3_digestOfSteps_53 : decode cX3_digestOfSteps 53 = .ok (.lreturn, 1) := by decide +kernel
theorem dX3_digestOfPlaces_0 : decode cX3_digestOfPlaces 0 = .ok (.lload_n 1, 1) := by decide +kernel
theorem dX3_digestOfPlaces_1 : decode cX3_digestOfPlaces 1 = .ok (.lstore_n 3, 1) := by decide +kernel
theorem dX3_digestOfPlaces_2 : decode cX3_digestOfPlaces 2 = .ok (.iconst 0, 1) := by decide +kernel
theorem dX3_digestOfPlaces_3 : decode cX3_digestOfPlaces 3 = .ok (.istore 5, 2) := by decide +kernel
theorem dX3_digestOfPlaces_5 : decode cX3_digestOfPlaces 5 = .ok (.iload 5, 2) := by decide +kernel
theorem dX3_digestOfPlaces_7 : decode cX3_digestOfPlaces 7 = .ok (.aload_n 0, 1) := by decide +kernel
theorem dX3_digestOfPlaces_8 : decode cX3_digestOfPlaces 8 = .ok (.getfield 19, 3) := by decide +kernel
theorem dX3_digestOfPlaces_11 : decode cX3_digestOfPlaces 11 = .ok (.getfield 201, 3) := by decide +kernel
theorem dX3_digestOfPlaces_14 : decode cX3_digestOfPlaces 14 = .ok (.if_icmp .ge 47, 3) := by decide +kernel
theorem dX3_digestOfPlaces_17 : decode cX3_digestOfPlaces 17 = .ok (.lload_n 3, 1) := by decide +kernel
theorem dX3_digestOfPlaces_18 : decode cX3_digestOfPlaces 18 = .ok (.aload_n 0, 1) := by decide +kernel
theorem dX3_digestOfPlaces_19 : decode cX3_digestOfPlaces 19 = .ok (.iload 5, 2) := by decide +kernel
theorem dX3_digestOfPlaces_21 : decode cX3_digestOfPlaces 21 = .ok (.invokevirtual 232, 3) := by decide +kernel
theorem dX3_digestOfPlaces_24 : decode cX3_digestOfPlaces 24 = .ok (.i2l, 1) := by decide +kernel
theorem dX3_digestOfPlaces_25 : decode cX3_digestOfPlaces 25 = .ok (.invokestatic 222, 3) := by decide +kernel
theorem dX3_digestOfPlaces_28 : decode cX3_digestOfPlaces 28 = .ok (.lstore_n 3, 1) := by decide +kernel
theorem dX3_digestOfPlaces_29 : decode cX3_digestOfPlaces 29 = .ok (.lload_n 3, 1) := by decide +kernel
theorem dX3_digestOfPlaces_30 : decode cX3_digestOfPlaces 30 = .ok (.aload_n 0, 1) := by decide +kernel
theorem dX3_digestOfPlaces_31 : decode cX3_digestOfPlaces 31 = .ok (.iload 5, 2) := by decide +kernel
theorem dX3_digestOfPlaces_33 : decode cX3_digestOfPlaces 33 = .ok (.invokevirtual 235, 3) := by decide +kernel
theorem dX3_digestOfPlaces_36 : decode cX3_digestOfPlaces 36 = .ok (.i2l, 1) := by decide +kernel
theorem dX3_digestOfPlaces_37 : decode cX3_digestOfPlaces 37 = .ok (.invokestatic 222, 3) := by decide +kernel
theorem dX3_digestOfPlaces_40 : decode cX3_digestOfPlaces 40 = .ok (.lstore_n 3, 1) := by decide +kernel
theorem dX3_digestOfPlaces_41 : decode cX3_digestOfPlaces 41 = .ok (.lload_n 3, 1) := by decide +kernel
theorem dX3_digestOfPlaces_42 : decode cX3_digestOfPlaces 42 = .ok (.aload_n 0, 1) := by decide +kernel
theorem dX3_digestOfPlaces_43 : decode cX3_digestOfPlaces 43 = .ok (.iload 5, 2) := by decide +kernel
theorem dX3_digestOfPlaces_45 : decode cX3_digestOfPlaces 45 = .ok (.bipush 7, 2) := by decide +kernel
theorem dX3_digestOfPlaces_47 : decode cX3_digestOfPlaces 47 = .ok (.invokevirtual 238, 3) := by decide +kernel
theorem dX3_digestOfPlaces_50 : decode cX3_digestOfPlaces 50 = .ok (.i2l, 1) := by decide +kernel
theorem dX3_digestOfPlaces_51 : decode cX3_digestOfPlaces 51 = .ok (.invokestatic 222, 3) := by decide +kernel
theorem dX3_digestOfPlaces_54 : decode cX3_digestOfPlaces 54 = .ok (.lstore_n 3, 1) := by decide +kernel
theorem dX3_digestOfPlaces_55 : decode cX3_digestOfPlaces 55 = .ok (.iinc 5 1, 3) := by decide +kernel
theorem dX3_digestOfPlaces_58 : decode cX3_digestOfPlaces 58 = .ok (.goto (-53), 3) := by decide +kernel
theorem dX3_digestOfPlaces_61 : decode cX3_digestOfPlaces 61 = .ok (.lload_n 3, 1) := by decide +kernel
theorem dX3_digestOfPlaces_62 : decode cX3_digestOfPlaces 62 = .ok (.lreturn, 1) := by decide +kernel
theorem dX3_digestOfRoutine_0 : decode cX3_digestOfRoutine 0 = .ok (.aload_n 0, 1) := by decide +kernel
theorem dX3_digestOfRoutine_1 : decode cX3_digestOfRoutine 1 = .ok (.getfield 19, 3) := by decide +kernel
theorem dX3_digestOfRoutine_4 : decode cX3_digestOfRoutine 4 = .ok (.invokevirtual 124, 3) := by decide +kernel
theorem dX3_digestOfRoutine_7 : decode cX3_digestOfRoutine 7 = .ok (.ifCond .ne 5, 3) := by decide +kernel
theorem dX3_digestOfRoutine_10 : decode cX3_digestOfRoutine 10 = .ok (.lload_n 1, 1) := by decide +kernel
theorem dX3_digestOfRoutine_11 : decode cX3_digestOfRoutine 11 = .ok (.lreturn, 1) := by decide +kernel
theorem dX3_digestOfRoutine_12 : decode cX3_digestOfRoutine 12 = .ok (.lload_n 1, 1) := by decide +kernel
theorem dX3_digestOfRoutine_13 : decode cX3_digestOfRoutine 13 = .ok (.lstore_n 3, 1) := by decide +kernel
theorem dX3_digestOfRoutine_14 : decode cX3_digestOfRoutine 14 = .ok (.iconst 0, 1) := by decide +kernel
theorem dX3_digestOfRoutine_15 : decode cX3_digestOfRoutine 15 = .ok (.istore 5, 2) := by decide +kernel
theorem dX3_digestOfRoutine_17 : decode cX3_digestOfRoutine 17 = .ok (.iload 5, 2) := by decide +kernel
theorem dX3_digestOfRoutine_19 : decode cX3_digestOfRoutine 19 = .ok (.iconst 3, 1) := by decide +kernel
theorem dX3_digestOfRoutine_20 : decode cX3_digestOfRoutine 20 = .ok (.if_icmp .gt 21, 3) := by decide +kernel
theorem dX3_digestOfRoutine_23 : decode cX3_digestOfRoutine 23 = .ok (.lload_n 3, 1) := by decide +kernel
theorem dX3_digestOfRoutine_24 : decode cX3_digestOfRoutine 24 = .ok (.aload_n 0, 1) := by decide +kernel
theorem dX3_digestOfRoutine_25 : decode cX3_digestOfRoutine 25 = .ok (.iload 5, 2) := by decide +kernel
theorem dX3_digestOfRoutine_27 : decode cX3_digestOfRoutine 27 = .ok (.invokevirtual 241, 3) := by decide +kernel
theorem dX3_digestOfRoutine_30 : decode cX3_digestOfRoutine 30 = .ok (.i2l, 1) := by decide +kernel
theorem dX3_digestOfRoutine_31 : decode cX3_digestOfRoutine 31 = .ok (.invokestatic 222, 3) := by decide +kernel
theorem dX3_digestOfRoutine_34 : decode cX3_digestOfRoutine 34 = .ok (.lstore_n 3, 1) := by decide +kernel
theorem dX3_digestOfRoutine_35 : decode cX3_digestOfRoutine 35 = .ok (.iinc 5 1, 3) := by decide +kernel
theorem dX3_digestOfRoutine_38 : decode cX3_digestOfRoutine 38 = .ok (.goto (-21), 3) := by decide +kernel
theorem dX3_digestOfRoutine_41 : decode cX3_digestOfRoutine 41 = .ok (.iconst 0, 1) := by decide +kernel
theorem dX3_digestOfRoutine_42 : decode cX3_digestOfRoutine 42 = .ok (.istore 5, 2) := by decide +kernel
theorem dX3_digestOfRoutine_44 : decode cX3_digestOfRoutine 44 = .ok (.iload 5, 2) := by decide +kernel
theorem dX3_digestOfRoutine_46 : decode cX3_digestOfRoutine 46 = .ok (.iconst 1, 1) := by decide +kernel
theorem dX3_digestOfRoutine_47 : decode cX3_digestOfRoutine 47 = .ok (.if_icmp .gt 23, 3) := by decide +kernel
theorem dX3_digestOfRoutine_50 : decode cX3_digestOfRoutine 50 = .ok (.lload_n 3, 1) := by decide +kernel
theorem dX3_digestOfRoutine_51 : decode cX3_digestOfRoutine 51 = .ok (.aload_n 0, 1) := by decide +kernel
theorem dX3_digestOfRoutine_52 : decode cX3_digestOfRoutine 52 = .ok (.iconst 0, 1) := by decide +kernel
theorem dX3_digestOfRoutine_53 : decode cX3_digestOfRoutine 53 = .ok (.iconst 1, 1) := by decide +kernel
theorem dX3_digestOfRoutine_54 : decode cX3_digestOfRoutine 54 = .ok (.iload 5, 2) := by decide +kernel
theorem dX3_digestOfRoutine_56 : decode cX3_digestOfRoutine 56 = .ok (.invokevirtual 244, 3) := by decide +kernel
theorem dX3_digestOfRoutine_59 : decode cX3_digestOfRoutine 59 = .ok (.i2l, 1) := by decide +kernel
theorem dX3_digestOfRoutine_60 : decode cX3_digestOfRoutine 60 = .ok (.invokestatic 222, 3) := by decide +kernel
theorem dX3_digestOfRoutine_63 : decode cX3_digestOfRoutine 63 = .ok (.lstore_n 3, 1) := by decide +kernel
theorem dX3_digestOfRoutine_64 : decode cX3_digestOfRoutine 64 = .ok (.iinc 5 1, 3) := by decide +kernel
theorem dX3_digestOfRoutine_67 : decode cX3_digestOfRoutine 67 = .ok (.goto (-23), 3) := by decide +kernel
theorem dX3_digestOfRoutine_70 : decode cX3_digestOfRoutine 70 = .ok (.iconst 0, 1) := by decide +kernel
theorem dX3_digestOfRoutine_71 : decode cX3_digestOfRoutine 71 = .ok (.istore 5, 2) := by decide +kernel
theorem dX3_digestOfRoutine_73 : decode cX3_digestOfRoutine 73 = .ok (.iload 5, 2) := by decide +kernel
theorem dX3_digestOfRoutine_75 : decode cX3_digestOfRoutine 75 = .ok (.iconst 1, 1) := by decide +kernel
theorem dX3_digestOfRoutine_76 : decode cX3_digestOfRoutine 76 = .ok (.if_icmp .gt 24, 3) := by decide +kernel
theorem dX3_digestOfRoutine_79 : decode cX3_digestOfRoutine 79 = .ok (.lload_n 3, 1) := by decide +kernel
theorem dX3_digestOfRoutine_80 : decode cX3_digestOfRoutine 80 = .ok (.aload_n 0, 1) := by decide +kernel
theorem dX3_digestOfRoutine_81 : decode cX3_digestOfRoutine 81 = .ok (.iconst 0, 1) := by decide +kernel
theorem dX3_digestOfRoutine_82 : decode cX3_digestOfRoutine 82 = .ok (.iconst 1, 1) := by decide +kernel
theorem dX3_digestOfRoutine_83 : decode cX3_digestOfRoutine 83 = .ok (.iconst 3, 1) := by decide +kernel
theorem dX3_digestOfRoutine_84 : decode cX3_digestOfRoutine 84 = .ok (.iload 5, 2) := by decide +kernel
theorem dX3_digestOfRoutine_86 : decode cX3_digestOfRoutine 86 = .ok (.invokevirtual 248, 3) := by decide +kernel
theorem dX3_digestOfRoutine_89 : decode cX3_digestOfRoutine 89 = .ok (.i2l, 1) := by decide +kernel
theorem dX3_digestOfRoutine_90 : decode cX3_digestOfRoutine 90 = .ok (.invokestatic 222, 3) := by decide +kernel
theorem dX3_digestOfRoutine_93 : decode cX3_digestOfRoutine 93 = .ok (.lstore_n 3, 1) := by decide +kernel
theorem dX3_digestOfRoutine_94 : decode cX3_digestOfRoutine 94 = .ok (.iinc 5 1, 3) := by decide +kernel
theorem dX3_digestOfRoutine_97 : decode cX3_digestOfRoutine 97 = .ok (.goto (-24), 3) := by decide +kernel
theorem dX3_digestOfRoutine_100 : decode cX3_digestOfRoutine 100 = .ok (.lload_n 3, 1) := by decide +kernel
theorem dX3_digestOfRoutine_101 : decode cX3_digestOfRoutine 101 = .ok (.lreturn, 1) := by decide +kernel
theorem dX3_joined_0 : decode cX3_joined 0 = .ok (.ldc2_w 252, 3) := by decide +kernel
theorem dX3_joined_3 : decode cX3_joined 3 = .ok (.lload_n 0, 1) := by decide +kernel
theorem dX3_joined_4 : decode cX3_joined 4 = .ok (.lmul, 1) := by decide +kernel
theorem dX3_joined_5 : decode cX3_joined 5 = .ok (.lload_n 2, 1) := by decide +kernel
theorem dX3_joined_6 : decode cX3_joined 6 = .ok (.ladd, 1) := by decide +kernel
theorem dX3_joined_7 : decode cX3_joined 7 = .ok (.lreturn, 1) := by decide +kernel
theorem dX3_wayOfStep_0 : decode cX3_wayOfStep 0 = .ok (.aload_n 0, 1) := by decide +kernel
theorem dX3_wayOfStep_1 : decode cX3_wayOfStep 1 = .ok (.getfield 29, 3) := by decide +kernel
theorem dX3_wayOfStep_4 : decode cX3_wayOfStep 4 = .ok (.aload_n 0, 1) := by decide +kernel
theorem dX3_wayOfStep_5 : decode cX3_wayOfStep 5 = .ok (.getfield 19, 3) := by decide +kernel
theorem dX3_wayOfStep_8 : decode cX3_wayOfStep 8 = .ok (.getfield 201, 3) := by decide +kernel
theorem dX3_wayOfStep_11 : decode cX3_wayOfStep 11 = .ok (.invokevirtual 254, 3) := by decide +kernel
theorem dX3_wayOfStep_14 : decode cX3_wayOfStep 14 = .ok (.aload_n 0, 1) := by decide +kernel
theorem dX3_wayOfStep_15 : decode cX3_wayOfStep 15 = .ok (.getfield 29, 3) := by decide +kernel
theorem dX3_wayOfStep_18 : decode cX3_wayOfStep 18 = .ok (.aload_n 0, 1) := by decide +kernel
theorem dX3_wayOfStep_19 : decode cX3_wayOfStep 19 = .ok (.getfield 19, 3) := by decide +kernel
theorem dX3_wayOfStep_22 : decode cX3_wayOfStep 22 = .ok (.iload_n 1, 1) := by decide +kernel
theorem dX3_wayOfStep_23 : decode cX3_wayOfStep 23 = .ok (.invokevirtual 257, 3) := by decide +kernel
theorem dX3_wayOfStep_26 : decode cX3_wayOfStep 26 = .ok (.aload_n 0, 1) := by decide +kernel
theorem dX3_wayOfStep_27 : decode cX3_wayOfStep 27 = .ok (.getfield 29, 3) := by decide +kernel
theorem dX3_wayOfStep_30 : decode cX3_wayOfStep 30 = .ok (.areturn, 1) := by decide +kernel
theorem dX3_wayOfRoutine_0 : decode cX3_wayOfRoutine 0 = .ok (.aload_n 0, 1) := by decide +kernel
theorem dX3_wayOfRoutine_1 : decode cX3_wayOfRoutine 1 = .ok (.getfield 29, 3) := by decide +kernel
theorem dX3_wayOfRoutine_4 : decode cX3_wayOfRoutine 4 = .ok (.aload_n 0, 1) := by decide +kernel
theorem dX3_wayOfRoutine_5 : decode cX3_wayOfRoutine 5 = .ok (.getfield 19, 3) := by decide +kernel
theorem dX3_wayOfRoutine_8 : decode cX3_wayOfRoutine 8 = .ok (.getfield 201, 3) := by decide +kernel
theorem dX3_wayOfRoutine_11 : decode cX3_wayOfRoutine 11 = .ok (.invokevirtual 254, 3) := by decide +kernel
theorem dX3_wayOfRoutine_14 : decode cX3_wayOfRoutine 14 = .ok (.iconst 0, 1) := by decide +kernel
theorem dX3_wayOfRoutine_15 : decode cX3_wayOfRoutine 15 = .ok (.istore_n 1, 1) := by decide +kernel
theorem dX3_wayOfRoutine_16 : decode cX3_wayOfRoutine 16 = .ok (.iload_n 1, 1) := by decide +kernel
theorem dX3_wayOfRoutine_17 : decode cX3_wayOfRoutine 17 = .ok (.aload_n 0, 1) := by decide +kernel
theorem dX3_wayOfRoutine_18 : decode cX3_wayOfRoutine 18 = .ok (.getfield 19, 3) := by decide +kernel
theorem dX3_wayOfRoutine_21 : decode cX3_wayOfRoutine 21 = .ok (.getfield 73, 3) := by decide +kernel
theorem dX3_wayOfRoutine_24 : decode cX3_wayOfRoutine 24 = .ok (.if_icmp .ge 21, 3) := by decide +kernel
theorem dX3_wayOfRoutine_27 : decode cX3_wayOfRoutine 27 = .ok (.aload_n 0, 1) := by decide +kernel
theorem dX3_wayOfRoutine_28 : decode cX3_wayOfRoutine 28 = .ok (.getfield 29, 3) := by decide +kernel
theorem dX3_wayOfRoutine_31 : decode cX3_wayOfRoutine 31 = .ok (.aload_n 0, 1) := by decide +kernel
theorem dX3_wayOfRoutine_32 : decode cX3_wayOfRoutine 32 = .ok (.getfield 19, 3) := by decide +kernel
theorem dX3_wayOfRoutine_35 : decode cX3_wayOfRoutine 35 = .ok (.iload_n 1, 1) := by decide +kernel
theorem dX3_wayOfRoutine_36 : decode cX3_wayOfRoutine 36 = .ok (.invokevirtual 257, 3) := by decide +kernel
theorem dX3_wayOfRoutine_39 : decode cX3_wayOfRoutine 39 = .ok (.iinc 1 1, 3) := by decide +kernel
theorem dX3_wayOfRoutine_42 : decode cX3_wayOfRoutine 42 = .ok (.goto (-26), 3) := by decide +kernel
theorem dX3_wayOfRoutine_45 : decode cX3_wayOfRoutine 45 = .ok (.aload_n 0, 1) := by decide +kernel
theorem dX3_wayOfRoutine_46 : decode cX3_wayOfRoutine 46 = .ok (.getfield 29, 3) := by decide +kernel
theorem dX3_wayOfRoutine_49 : decode cX3_wayOfRoutine 49 = .ok (.areturn, 1) := by decide +kernel
theorem dX3_carryOut_0 : decode cX3_carryOut 0 = .ok (.iconst 0, 1) := by decide +kernel
theorem dX3_carryOut_1 : decode cX3_carryOut 1 = .ok (.istore_n 3, 1) := by decide +kernel
theorem dX3_carryOut_2 : decode cX3_carryOut 2 = .ok (.iload_n 3, 1) := by decide +kernel
theorem dX3_carryOut_3 : decode cX3_carryOut 3 = .ok (.aload_n 0, 1) := by decide +kernel
theorem dX3_carryOut_4 : decode cX3_carryOut 4 = .ok (.getfield 19, 3) := by decide +kernel
theorem dX3_carryOut_7 : decode cX3_carryOut 7 = .ok (.getfield 201, 3) := by decide +kernel
theorem dX3_carryOut_10 : decode cX3_carryOut 10 = .ok (.if_icmp .ge 29, 3) := by decide +kernel
theorem dX3_carryOut_13 : decode cX3_carryOut 13 = .ok (.aload_n 0, 1) := by decide +kernel
theorem dX3_carryOut_14 : decode cX3_carryOut 14 = .ok (.getfield 37, 3) := by decide +kernel
theorem dX3_carryOut_17 : decode cX3_carryOut 17 = .ok (.aload_n 1, 1) := by decide +kernel
theorem dX3_carryOut_18 : decode cX3_carryOut 18 = .ok (.getfield 141, 3) := by decide +kernel
theorem dX3_carryOut_21 : decode cX3_carryOut 21 = .ok (.iload_n 3, 1) := by decide +kernel
theorem dX3_carryOut_22 : decode cX3_carryOut 22 = .ok (.iaload, 1) := by decide +kernel
theorem dX3_carryOut_23 : decode cX3_carryOut 23 = .ok (.aload_n 0, 1) := by decide +kernel
theorem dX3_carryOut_24 : decode cX3_carryOut 24 = .ok (.getfield 19, 3) := by decide +kernel
theorem dX3_carryOut_27 : decode cX3_carryOut 27 = .ok (.getfield 111, 3) := by decide +kernel
theorem dX3_carryOut_30 : decode cX3_carryOut 30 = .ok (.iload_n 3, 1) := by decide +kernel
theorem dX3_carryOut_31 : decode cX3_carryOut 31 = .ok (.iaload, 1) := by decide +kernel
theorem dX3_carryOut_32 : decode cX3_carryOut 32 = .ok (.iastore, 1) := by decide +kernel
theorem dX3_carryOut_33 : decode cX3_carryOut 33 = .ok (.iinc 3 1, 3) := by decide +kernel
theorem dX3_carryOut_36 : decode cX3_carryOut 36 = .ok (.goto (-34), 3) := by decide +kernel
theorem dX3_carryOut_39 : decode cX3_carryOut 39 = .ok (.aload_n 0, 1) := by decide +kernel
theorem dX3_carryOut_40 : decode cX3_carryOut 40 = .ok (.getfield 37, 3) := by decide +kernel
theorem dX3_carryOut_43 : decode cX3_carryOut 43 = .ok (.iconst 0, 1) := by decide +kernel
theorem dX3_carryOut_44 : decode cX3_carryOut 44 = .ok (.aload_n 0, 1) := by decide +kernel
theorem dX3_carryOut_45 : decode cX3_carryOut 45 = .ok (.getfield 19, 3) := by decide +kernel
theorem dX3_carryOut_48 : decode cX3_carryOut 48 = .ok (.getfield 111, 3) := by decide +kernel
theorem dX3_carryOut_51 : decode cX3_carryOut 51 = .ok (.iconst 0, 1) := by decide +kernel
theorem dX3_carryOut_52 : decode cX3_carryOut 52 = .ok (.aload_n 0, 1) := by decide +kernel
theorem dX3_carryOut_53 : decode cX3_carryOut 53 = .ok (.getfield 19, 3) := by decide +kernel
theorem dX3_carryOut_56 : decode cX3_carryOut 56 = .ok (.getfield 201, 3) := by decide +kernel
theorem dX3_carryOut_59 : decode cX3_carryOut 59 = .ok (.invokestatic 261, 3) := by decide +kernel
theorem dX3_carryOut_62 : decode cX3_carryOut 62 = .ok (.aload_n 0, 1) := by decide +kernel
theorem dX3_carryOut_63 : decode cX3_carryOut 63 = .ok (.getfield 19, 3) := by decide +kernel
theorem dX3_carryOut_66 : decode cX3_carryOut 66 = .ok (.dup, 1) := by decide +kernel
theorem dX3_carryOut_67 : decode cX3_carryOut 67 = .ok (.getfield 117, 3) := by decide +kernel
theorem dX3_carryOut_70 : decode cX3_carryOut 70 = .ok (.iload_n 2, 1) := by decide +kernel
theorem dX3_carryOut_71 : decode cX3_carryOut 71 = .ok (.iadd, 1) := by decide +kernel
theorem dX3_carryOut_72 : decode cX3_carryOut 72 = .ok (.putfield 117, 3) := by decide +kernel
theorem dX3_carryOut_75 : decode cX3_carryOut 75 = .ok (.aload_n 0, 1) := by decide +kernel
theorem dX3_carryOut_76 : decode cX3_carryOut 76 = .ok (.getfield 19, 3) := by decide +kernel
theorem dX3_carryOut_79 : decode cX3_carryOut 79 = .ok (.getfield 111, 3) := by decide +kernel
theorem dX3_carryOut_82 : decode cX3_carryOut 82 = .ok (.iconst 0, 1) := by decide +kernel
theorem dX3_carryOut_83 : decode cX3_carryOut 83 = .ok (.iaload, 1) := by decide +kernel
theorem dX3_carryOut_84 : decode cX3_carryOut 84 = .ok (.ireturn, 1) := by decide +kernel
theorem dX3_placeToWatch_0 : decode cX3_placeToWatch 0 = .ok (.iload_n 2, 1) := by decide +kernel
theorem dX3_placeToWatch_1 : decode cX3_placeToWatch 1 = .ok (.ifCond .ne 5, 3) := by decide +kernel
theorem dX3_placeToWatch_4 : decode cX3_placeToWatch 4 = .ok (.iconst (-1), 1) := by decide +kernel
theorem dX3_placeToWatch_5 : decode cX3_placeToWatch 5 = .ok (.ireturn, 1) := by decide +kernel
theorem dX3_placeToWatch_6 : decode cX3_placeToWatch 6 = .ok (.iconst 0, 1) := by decide +kernel
theorem dX3_placeToWatch_7 : decode cX3_placeToWatch 7 = .ok (.istore_n 3, 1) := by decide +kernel
theorem dX3_placeToWatch_8 : decode cX3_placeToWatch 8 = .ok (.bipush 11, 2) := by decide +kernel
theorem dX3_placeToWatch_10 : decode cX3_placeToWatch 10 = .ok (.istore 4, 2) := by decide +kernel
theorem dX3_placeToWatch_12 : decode cX3_placeToWatch 12 = .ok (.iconst 0, 1) := by decide +kernel
theorem dX3_placeToWatch_13 : decode cX3_placeToWatch 13 = .ok (.istore 5, 2) := by decide +kernel
theorem dX3_placeToWatch_15 : decode cX3_placeToWatch 15 = .ok (.iload 5, 2) := by decide +kernel
theorem dX3_placeToWatch_17 : decode cX3_placeToWatch 17 = .ok (.aload_n 0, 1) := by decide +kernel
theorem dX3_placeToWatch_18 : decode cX3_placeToWatch 18 = .ok (.getfield 19, 3) := by decide +kernel
theorem dX3_placeToWatch_21 : decode cX3_placeToWatch 21 = .ok (.getfield 201, 3) := by decide +kernel
theorem dX3_placeToWatch_24 : decode cX3_placeToWatch 24 = .ok (.if_icmp .ge 33, 3) := by decide +kernel
theorem dX3_placeToWatch_27 : decode cX3_placeToWatch 27 = .ok (.aload_n 0, 1) := by decide +kernel
theorem dX3_placeToWatch_28 : decode cX3_placeToWatch 28 = .ok (.iload_n 1, 1) := by decide +kernel
theorem dX3_placeToWatch_29 : decode cX3_placeToWatch 29 = .ok (.iload_n 2, 1) := by decide +kernel
theorem dX3_placeToWatch_30 : decode cX3_placeToWatch 30 = .ok (.iload 5, 2) := by decide +kernel
theorem dX3_placeToWatch_32 : decode cX3_placeToWatch 32 = .ok (.invokevirtual 267, 3) := by decide +kernel
theorem dX3_placeToWatch_35 : decode cX3_placeToWatch 35 = .ok (.istore 6, 2) := by decide +kernel
theorem dX3_placeToWatch_37 : decode cX3_placeToWatch 37 = .ok (.iload 6, 2) := by decide +kernel
theorem dX3_placeToWatch_39 : decode cX3_placeToWatch 39 = .ok (.iload 4, 2) := by decide +kernel
theorem dX3_placeToWatch_41 : decode cX3_placeToWatch 41 = .ok (.if_icmp .ge 10, 3) := by decide +kernel
theorem dX3_placeToWatch_44 : decode cX3_placeToWatch 44 = .ok (.iload 6, 2) := by decide +kernel
theorem dX3_placeToWatch_46 : decode cX3_placeToWatch 46 = .ok (.istore 4, 2) := by decide +kernel
theorem dX3_placeToWatch_48 : decode cX3_placeToWatch 48 = .ok (.iload 5, 2) := by decide +kernel
theorem dX3_placeToWatch_50 : decode cX3_placeToWatch 50 = .ok (.istore_n 3, 1) := by decide +kernel
theorem dX3_placeToWatch_51 : decode cX3_placeToWatch 51 = .ok (.iinc 5 1, 3) := by decide +kernel
theorem dX3_placeToWatch_54 : decode cX3_placeToWatch 54 = .ok (.goto (-39), 3) := by decide +kernel
theorem dX3_placeToWatch_57 : decode cX3_placeToWatch 57 = .ok (.iload_n 3, 1) := by decide +kernel
theorem dX3_placeToWatch_58 : decode cX3_placeToWatch 58 = .ok (.ireturn, 1) := by decide +kernel
theorem dX3_leftAtWorst_0 : decode cX3_leftAtWorst 0 = .ok (.aload_n 0, 1) := by decide +kernel
theorem dX3_leftAtWorst_1 : decode cX3_leftAtWorst 1 = .ok (.getfield 33, 3) := by decide +kernel
theorem dX3_leftAtWorst_4 : decode cX3_leftAtWorst 4 = .ok (.iconst 0, 1) := by decide +kernel
theorem dX3_leftAtWorst_5 : decode cX3_leftAtWorst 5 = .ok (.invokestatic 270, 3) := by decide +kernel
theorem dX3_leftAtWorst_8 : decode cX3_leftAtWorst 8 = .ok (.iconst 0, 1) := by decide +kernel
theorem dX3_leftAtWorst_9 : decode cX3_leftAtWorst 9 = .ok (.istore 4, 2) := by decide +kernel
theorem dX3_leftAtWorst_11 : decode cX3_leftAtWorst 11 = .ok (.iconst 0, 1) := by decide +kernel
theorem dX3_leftAtWorst_12 : decode cX3_leftAtWorst 12 = .ok (.istore 5, 2) := by decide +kernel
theorem dX3_leftAtWorst_14 : decode cX3_leftAtWorst 14 = .ok (.iload 5, 2) := by decide +kernel
theorem dX3_leftAtWorst_16 : decode cX3_leftAtWorst 16 = .ok (.bipush 10, 2) := by decide +kernel
theorem dX3_leftAtWorst_18 : decode cX3_leftAtWorst 18 = .ok (.if_icmp .ge 60, 3) := by decide +kernel
theorem dX3_leftAtWorst_21 : decode cX3_leftAtWorst 21 = .ok (.iload_n 2, 1) := by decide +kernel
theorem dX3_leftAtWorst_22 : decode cX3_leftAtWorst 22 = .ok (.iload 5, 2) := by decide +kernel
theorem dX3_leftAtWorst_24 : decode cX3_leftAtWorst 24 = .ok (.ishr, 1) := by decide +kernel
theorem dX3_leftAtWorst_25 : decode cX3_leftAtWorst 25 = .ok (.iconst 1, 1) := by decide +kernel
theorem dX3_leftAtWorst_26 : decode cX3_leftAtWorst 26 = .ok (.iand, 1) := by decide +kernel
theorem dX3_leftAtWorst_27 : decode cX3_leftAtWorst 27 = .ok (.iconst 1, 1) := by decide +kernel
theorem dX3_leftAtWorst_28 : decode cX3_leftAtWorst 28 = .ok (.if_icmp .ne 44, 3) := by decide +kernel
theorem dX3_leftAtWorst_31 : decode cX3_leftAtWorst 31 = .ok (.iload_n 1, 1) := by decide +kernel
theorem dX3_leftAtWorst_32 : decode cX3_leftAtWorst 32 = .ok (.iload 5, 2) := by decide +kernel
theorem dX3_leftAtWorst_34 : decode cX3_leftAtWorst 34 = .ok (.aload_n 0, 1) := by decide +kernel
theorem dX3_leftAtWorst_35 : decode cX3_leftAtWorst 35 = .ok (.getfield 19, 3) := by decide +kernel
theorem dX3_leftAtWorst_38 : decode cX3_leftAtWorst 38 = .ok (.getfield 201, 3) := by decide +kernel
theorem dX3_leftAtWorst_41 : decode cX3_leftAtWorst 41 = .ok (.iload_n 3, 1) := by decide +kernel
theorem dX3_leftAtWorst_42 : decode cX3_leftAtWorst 42 = .ok (.invokestatic 276, 3) := by decide +kernel
theorem dX3_leftAtWorst_45 : decode cX3_leftAtWorst 45 = .ok (.istore 6, 2) := by decide +kernel
theorem dX3_leftAtWorst_47 : decode cX3_leftAtWorst 47 = .ok (.aload_n 0, 1) := by decide +kernel
theorem dX3_leftAtWorst_48 : decode cX3_leftAtWorst 48 = .ok (.getfield 33, 3) := by decide +kernel
theorem dX3_leftAtWorst_51 : decode cX3_leftAtWorst 51 = .ok (.iload 6, 2) := by decide +kernel
theorem dX3_leftAtWorst_53 : decode cX3_leftAtWorst 53 = .ok (.dup2, 1) := by decide +kernel
theorem dX3_leftAtWorst_54 : decode cX3_leftAtWorst 54 = .ok (.iaload, 1) := by decide +kernel
theorem dX3_leftAtWorst_55 : decode cX3_leftAtWorst 55 = .ok (.iconst 1, 1) := by decide +kernel
theorem dX3_leftAtWorst_56 : decode cX3_leftAtWorst 56 = .ok (.iadd, 1) := by decide +kernel
theorem dX3_leftAtWorst_57 : decode cX3_leftAtWorst 57 = .ok (.iastore, 1) := by decide +kernel
theorem dX3_leftAtWorst_58 : decode cX3_leftAtWorst 58 = .ok (.iload 4, 2) := by decide +kernel
theorem dX3_leftAtWorst_60 : decode cX3_leftAtWorst 60 = .ok (.aload_n 0, 1) := by decide +kernel
theorem dX3_leftAtWorst_61 : decode cX3_leftAtWorst 61 = .ok (.getfield 33, 3) := by decide +kernel
theorem dX3_leftAtWorst_64 : decode cX3_leftAtWorst 64 = .ok (.iload 6, 2) := by decide +kernel
theorem dX3_leftAtWorst_66 : decode cX3_leftAtWorst 66 = .ok (.iaload, 1) := by decide +kernel
theorem dX3_leftAtWorst_67 : decode cX3_leftAtWorst 67 = .ok (.invokestatic 279, 3) := by decide +kernel
theorem dX3_leftAtWorst_70 : decode cX3_leftAtWorst 70 = .ok (.istore 4, 2) := by decide +kernel
theorem dX3_leftAtWorst_72 : decode cX3_leftAtWorst 72 = .ok (.iinc 5 1, 3) := by decide +kernel
theorem dX3_leftAtWorst_75 : decode cX3_leftAtWorst 75 = .ok (.goto (-61), 3) := by decide +kernel
theorem dX3_leftAtWorst_78 : decode cX3_leftAtWorst 78 = .ok (.iload 4, 2) := by decide +kernel
theorem dX3_leftAtWorst_80 : decode cX3_leftAtWorst 80 = .ok (.ireturn, 1) := by decide +kernel
theorem dX3_tellDistancesTo_0 : decode cX3_tellDistancesTo 0 = .ok (.aload_n 0, 1) := by decide +kernel
theorem dX3_tellDistancesTo_1 : decode cX3_tellDistancesTo 1 = .ok (.getfield 33, 3) := by decide +kernel
theorem dX3_tellDistancesTo_4 : decode cX3_tellDistancesTo 4 = .ok (.iconst (-1), 1) := by decide +kernel
theorem dX3_tellDistancesTo_5 : decode cX3_tellDistancesTo 5 = .ok (.invokestatic 270, 3) := by decide +kernel
theorem dX3_tellDistancesTo_8 : decode cX3_tellDistancesTo 8 = .ok (.aload_n 0, 1) := by decide +kernel
theorem dX3_tellDistancesTo_9 : decode cX3_tellDistancesTo 9 = .ok (.getfield 33, 3) := by decide +kernel
theorem dX3_tellDistancesTo_12 : decode cX3_tellDistancesTo 12 = .ok (.iload_n 1, 1) := by decide +kernel
theorem dX3_tellDistancesTo_13 : decode cX3_tellDistancesTo 13 = .ok (.iconst 0, 1) := by decide +kernel
theorem dX3_tellDistancesTo_14 : decode cX3_tellDistancesTo 14 = .ok (.iastore, 1) := by decide +kernel
theorem dX3_tellDistancesTo_15 : decode cX3_tellDistancesTo 15 = .ok (.iconst 1, 1) := by decide +kernel
theorem dX3_tellDistancesTo_16 : decode cX3_tellDistancesTo 16 = .ok (.istore_n 2, 1) := by decide +kernel
theorem dX3_tellDistancesTo_17 : decode cX3_tellDistancesTo 17 = .ok (.iload_n 2, 1) := by decide +kernel
theorem dX3_tellDistancesTo_18 : decode cX3_tellDistancesTo 18 = .ok (.aload_n 0, 1) := by decide +kernel
theorem dX3_tellDistancesTo_19 : decode cX3_tellDistancesTo 19 = .ok (.getfield 19, 3) := by decide +kernel
theorem dX3_tellDistancesTo_22 : decode cX3_tellDistancesTo 22 = .ok (.getfield 201, 3) := by decide +kernel
theorem dX3_tellDistancesTo_25 : decode cX3_tellDistancesTo 25 = .ok (.if_icmp .ge 57, 3) := by decide +kernel
theorem dX3_tellDistancesTo_28 : decode cX3_tellDistancesTo 28 = .ok (.iconst 0, 1) := by decide +kernel
theorem dX3_tellDistancesTo_29 : decode cX3_tellDistancesTo 29 = .ok (.istore_n 3, 1) := by decide +kernel
theorem dX3_tellDistancesTo_30 : decode cX3_tellDistancesTo 30 = .ok (.iload_n 3, 1) := by decide +kernel
theorem dX3_tellDistancesTo_31 : decode cX3_tellDistancesTo 31 = .ok (.aload_n 0, 1) := by decide +kernel
theorem dX3_tellDistancesTo_32 : decode cX3_tellDistancesTo 32 = .ok (.getfield 19, 3) := by decide +kernel
theorem dX3_tellDistancesTo_35 : decode cX3_tellDistancesTo 35 = .ok (.getfield 201, 3) := by decide +kernel
theorem dX3_tellDistancesTo_38 : decode cX3_tellDistancesTo 38 = .ok (.if_icmp .ge 38, 3) := by decide +kernel
theorem dX3_tellDistancesTo_41 : decode cX3_tellDistancesTo 41 = .ok (.aload_n 0, 1) := by decide +kernel
theorem dX3_tellDistancesTo_42 : decode cX3_tellDistancesTo 42 = .ok (.getfield 33, 3) := by decide +kernel
theorem dX3_tellDistancesTo_45 : decode cX3_tellDistancesTo 45 = .ok (.iload_n 3, 1) := by decide +kernel
theorem dX3_tellDistancesTo_46 : decode cX3_tellDistancesTo 46 = .ok (.iaload, 1) := by decide +kernel
theorem dX3_tellDistancesTo_47 : decode cX3_tellDistancesTo 47 = .ok (.iconst (-1), 1) := by decide +kernel
theorem dX3_tellDistancesTo_48 : decode cX3_tellDistancesTo 48 = .ok (.if_icmp .ne 22, 3) := by decide +kernel
theorem dX3_tellDistancesTo_51 : decode cX3_tellDistancesTo 51 = .ok (.aload_n 0, 1) := by decide +kernel
theorem dX3_tellDistancesTo_52 : decode cX3_tellDistancesTo 52 = .ok (.iload_n 3, 1) := by decide +kernel
theorem dX3_tellDistancesTo_53 : decode cX3_tellDistancesTo 53 = .ok (.iload_n 2, 1) := by decide +kernel
theorem dX3_tellDistancesTo_54 : decode cX3_tellDistancesTo 54 = .ok (.iconst 1, 1) := by decide +kernel
theorem dX3_tellDistancesTo_55 : decode cX3_tellDistancesTo 55 = .ok (.isub, 1) := by decide +kernel
theorem dX3_tellDistancesTo_56 : decode cX3_tellDistancesTo 56 = .ok (.invokevirtual 284, 3) := by decide +kernel
theorem dX3_tellDistancesTo_59 : decode cX3_tellDistancesTo 59 = .ok (.iconst (-1), 1) := by decide +kernel
theorem dX3_tellDistancesTo_60 : decode cX3_tellDistancesTo 60 = .ok (.if_icmp .eq 10, 3) := by decide +kernel
theorem dX3_tellDistancesTo_63 : decode cX3_tellDistancesTo 63 = .ok (.aload_n 0, 1) := by decide +kernel
theorem dX3_tellDistancesTo_64 : decode cX3_tellDistancesTo 64 = .ok (.getfield 33, 3) := by decide +kernel
theorem dX3_tellDistancesTo_67 : decode cX3_tellDistancesTo 67 = .ok (.iload_n 3, 1) := by decide +kernel
theorem dX3_tellDistancesTo_68 : decode cX3_tellDistancesTo 68 = .ok (.iload_n 2, 1) := by decide +kernel
theorem dX3_tellDistancesTo_69 : decode cX3_tellDistancesTo 69 = .ok (.iastore, 1) := by decide +kernel
theorem dX3_tellDistancesTo_70 : decode cX3_tellDistancesTo 70 = .ok (.iinc 3 1, 3) := by decide +kernel
theorem dX3_tellDistancesTo_73 : decode cX3_tellDistancesTo 73 = .ok (.goto (-43), 3) := by decide +kernel
theorem dX3_tellDistancesTo_76 : decode cX3_tellDistancesTo 76 = .ok (.iinc 2 1, 3) := by decide +kernel
theorem dX3_tellDistancesTo_79 : decode cX3_tellDistancesTo 79 = .ok (.goto (-62), 3) := by decide +kernel
theorem dX3_tellDistancesTo_82 : decode cX3_tellDistancesTo 82 = .ok (.return_, 1) := by decide +kernel
theorem dX3_stepTo_0 : decode cX3_stepTo 0 = .ok (.iconst 0, 1) := by decide +kernel
theorem dX3_stepTo_1 : decode cX3_stepTo 1 = .ok (.istore_n 3, 1) := by decide +kernel
theorem dX3_stepTo_2 : decode cX3_stepTo 2 = .ok (.iload_n 3, 1) := by decide +kernel
theorem dX3_stepTo_3 : decode cX3_stepTo 3 = .ok (.aload_n 0, 1) := by decide +kernel
theorem dX3_stepTo_4 : decode cX3_stepTo 4 = .ok (.getfield 19, 3) := by decide +kernel
theorem dX3_stepTo_7 : decode cX3_stepTo 7 = .ok (.getfield 73, 3) := by decide +kernel
theorem dX3_stepTo_10 : decode cX3_stepTo 10 = .ok (.if_icmp .ge 29, 3) := by decide +kernel
theorem dX3_stepTo_13 : decode cX3_stepTo 13 = .ok (.aload_n 0, 1) := by decide +kernel
theorem dX3_stepTo_14 : decode cX3_stepTo 14 = .ok (.getfield 33, 3) := by decide +kernel
theorem dX3_stepTo_17 : decode cX3_stepTo 17 = .ok (.aload_n 0, 1) := by decide +kernel
theorem dX3_stepTo_18 : decode cX3_stepTo 18 = .ok (.getfield 19, 3) := by decide +kernel
theorem dX3_stepTo_21 : decode cX3_stepTo 21 = .ok (.iload_n 3, 1) := by decide +kernel
theorem dX3_stepTo_22 : decode cX3_stepTo 22 = .ok (.iload_n 1, 1) := by decide +kernel
theorem dX3_stepTo_23 : decode cX3_stepTo 23 = .ok (.invokevirtual 114, 3) := by decide +kernel
theorem dX3_stepTo_26 : decode cX3_stepTo 26 = .ok (.iaload, 1) := by decide +kernel
theorem dX3_stepTo_27 : decode cX3_stepTo 27 = .ok (.iload_n 2, 1) := by decide +kernel
theorem dX3_stepTo_28 : decode cX3_stepTo 28 = .ok (.if_icmp .ne 5, 3) := by decide +kernel
theorem dX3_stepTo_31 : decode cX3_stepTo 31 = .ok (.iload_n 3, 1) := by decide +kernel
theorem dX3_stepTo_32 : decode cX3_stepTo 32 = .ok (.ireturn, 1) := by decide +kernel
theorem dX3_stepTo_33 : decode cX3_stepTo 33 = .ok (.iinc 3 1, 3) := by decide +kernel
theorem dX3_stepTo_36 : decode cX3_stepTo 36 = .ok (.goto (-34), 3) := by decide +kernel
theorem dX3_stepTo_39 : decode cX3_stepTo 39 = .ok (.iconst (-1), 1) := by decide +kernel
theorem dX3_stepTo_40 : decode cX3_stepTo 40 = .ok (.ireturn, 1) := by decide +kernel
theorem dX3_firstStepNearer_0 : decode cX3_firstStepNearer 0 = .ok (.aload_n 0, 1) := by decide +kernel
theorem dX3_firstStepNearer_1 : decode cX3_firstStepNearer 1 = .ok (.getfield 33, 3) := by decide +kernel
theorem dX3_firstStepNearer_4 : decode cX3_firstStepNearer 4 = .ok (.iload_n 1, 1) := by decide +kernel
theorem dX3_firstStepNearer_5 : decode cX3_firstStepNearer 5 = .ok (.iaload, 1) := by decide +kernel
theorem dX3_firstStepNearer_6 : decode cX3_firstStepNearer 6 = .ok (.ifCond .le 19, 3) := by decide +kernel
theorem dX3_firstStepNearer_9 : decode cX3_firstStepNearer 9 = .ok (.aload_n 0, 1) := by decide +kernel
theorem dX3_firstStepNearer_10 : decode cX3_firstStepNearer 10 = .ok (.iload_n 1, 1) := by decide +kernel
theorem dX3_firstStepNearer_11 : decode cX3_firstStepNearer 11 = .ok (.aload_n 0, 1) := by decide +kernel
theorem dX3_firstStepNearer_12 : decode cX3_firstStepNearer 12 = .ok (.getfield 33, 3) := by decide +kernel
theorem dX3_firstStepNearer_15 : decode cX3_firstStepNearer 15 = .ok (.iload_n 1, 1) := by decide +kernel
theorem dX3_firstStepNearer_16 : decode cX3_firstStepNearer 16 = .ok (.iaload, 1) := by decide +kernel
theorem dX3_firstStepNearer_17 : decode cX3_firstStepNearer 17 = .ok (.iconst 1, 1) := by decide +kernel
theorem dX3_firstStepNearer_18 : decode cX3_firstStepNearer 18 = .ok (.isub, 1) := by decide +kernel
theorem dX3_firstStepNearer_19 : decode cX3_firstStepNearer 19 = .ok (.invokevirtual 284, 3) := by decide +kernel
theorem dX3_firstStepNearer_22 : decode cX3_firstStepNearer 22 = .ok (.goto 4, 3) := by decide +kernel
theorem dX3_firstStepNearer_25 : decode cX3_firstStepNearer 25 = .ok (.iconst (-1), 1) := by decide +kernel
theorem dX3_firstStepNearer_26 : decode cX3_firstStepNearer 26 = .ok (.ireturn, 1) := by decide +kernel
theorem dX3_findPathHome_0 : decode cX3_findPathHome 0 = .ok (.iconst 1, 1) := by decide +kernel
theorem dX3_findPathHome_1 : decode cX3_findPathHome 1 = .ok (.istore_n 2, 1) := by decide +kernel
theorem dX3_findPathHome_2 : decode cX3_findPathHome 2 = .ok (.iconst 0, 1) := by decide +kernel
theorem dX3_findPathHome_3 : decode cX3_findPathHome 3 = .ok (.istore_n 3, 1) := by decide +kernel
theorem dX3_findPathHome_4 : decode cX3_findPathHome 4 = .ok (.iload_n 3, 1) := by decide +kernel
theorem dX3_findPathHome_5 : decode cX3_findPathHome 5 = .ok (.iload_n 1, 1) := by decide +kernel
theorem dX3_findPathHome_6 : decode cX3_findPathHome 6 = .ok (.if_icmp .ge 26, 3) := by decide +kernel
theorem dX3_findPathHome_9 : decode cX3_findPathHome 9 = .ok (.aload_n 0, 1) := by decide +kernel
theorem dX3_findPathHome_10 : decode cX3_findPathHome 10 = .ok (.getfield 40, 3) := by decide +kernel
theorem dX3_findPathHome_13 : decode cX3_findPathHome 13 = .ok (.iload_n 3, 1) := by decide +kernel
theorem dX3_findPathHome_14 : decode cX3_findPathHome 14 = .ok (.iconst 0, 1) := by decide +kernel
theorem dX3_findPathHome_15 : decode cX3_findPathHome 15 = .ok (.iastore, 1) := by decide +kernel
theorem dX3_findPathHome_16 : decode cX3_findPathHome 16 = .ok (.iload_n 2, 1) := by decide +kernel
theorem dX3_findPathHome_17 : decode cX3_findPathHome 17 = .ok (.aload_n 0, 1) := by decide +kernel
theorem dX3_findPathHome_18 : decode cX3_findPathHome 18 = .ok (.getfield 19, 3) := by decide +kernel
theorem dX3_findPathHome_21 : decode cX3_findPathHome 21 = .ok (.getfield 73, 3) := by decide +kernel
theorem dX3_findPathHome_24 : decode cX3_findPathHome 24 = .ok (.imul, 1) := by decide +kernel
theorem dX3_findPathHome_25 : decode cX3_findPathHome 25 = .ok (.istore_n 2, 1) := by decide +kernel
theorem dX3_findPathHome_26 : decode cX3_findPathHome 26 = .ok (.iinc 3 1, 3) := by decide +kernel
theorem dX3_findPathHome_29 : decode cX3_findPathHome 29 = .ok (.goto (-25), 3) := by decide +kernel
theorem dX3_findPathHome_32 : decode cX3_findPathHome 32 = .ok (.iconst 0, 1) := by decide +kernel
theorem dX3_findPathHome_33 : decode cX3_findPathHome 33 = .ok (.istore_n 3, 1) := by decide +kernel
theorem dX3_findPathHome_34 : decode cX3_findPathHome 34 = .ok (.iload_n 3, 1) := by decide +kernel
theorem dX3_findPathHome_35 : decode cX3_findPathHome 35 = .ok (.iload_n 2, 1) := by decide +kernel
theorem dX3_findPathHome_36 : decode cX3_findPathHome 36 = .ok (.if_icmp .ge 24, 3) := by decide +kernel
theorem dX3_findPathHome_39 : decode cX3_findPathHome 39 = .ok (.aload_n 0, 1) := by decide +kernel
theorem dX3_findPathHome_40 : decode cX3_findPathHome 40 = .ok (.iload_n 1, 1) := by decide +kernel
theorem dX3_findPathHome_41 : decode cX3_findPathHome 41 = .ok (.invokevirtual 287, 3) := by decide +kernel
theorem dX3_findPathHome_44 : decode cX3_findPathHome 44 = .ok (.ifCond .eq 5, 3) := by decide +kernel
theorem dX3_findPathHome_47 : decode cX3_findPathHome 47 = .ok (.iconst 1, 1) := by decide +kernel
theorem dX3_findPathHome_48 : decode cX3_findPathHome 48 = .ok (.ireturn, 1) := by decide +kernel
theorem dX3_findPathHome_49 : decode cX3_findPathHome 49 = .ok (.aload_n 0, 1) := by decide +kernel
theorem dX3_findPathHome_50 : decode cX3_findPathHome 50 = .ok (.iload_n 1, 1) := by decide +kernel
theorem dX3_findPathHome_51 : decode cX3_findPathHome 51 = .ok (.invokevirtual 290, 3) := by decide +kernel
theorem dX3_findPathHome_54 : decode cX3_findPathHome 54 = .ok (.iinc 3 1, 3) := by decide +kernel
theorem dX3_findPathHome_57 : decode cX3_findPathHome 57 = .ok (.goto (-23), 3) := by decide +kernel
theorem dX3_findPathHome_60 : decode cX3_findPathHome 60 = .ok (.iconst 0, 1) := by decide +kernel
theorem dX3_findPathHome_61 : decode cX3_findPathHome 61 = .ok (.ireturn, 1) := by decide +kernel
theorem dX3_nextPath_0 : decode cX3_nextPath 0 = .ok (.iload_n 1, 1) := by decide +kernel
theorem dX3_nextPath_1 : decode cX3_nextPath 1 = .ok (.iconst 1, 1) := by decide +kernel
theorem dX3_nextPath_2 : decode cX3_nextPath 2 = .ok (.isub, 1) := by decide +kernel
theorem dX3_nextPath_3 : decode cX3_nextPath 3 = .ok (.istore_n 2, 1) := by decide +kernel
theorem dX3_nextPath_4 : decode cX3_nextPath 4 = .ok (.iload_n 2, 1) := by decide +kernel
theorem dX3_nextPath_5 : decode cX3_nextPath 5 = .ok (.ifCond .lt 43, 3) := by decide +kernel
theorem dX3_nextPath_8 : decode cX3_nextPath 8 = .ok (.aload_n 0, 1) := by decide +kernel
theorem dX3_nextPath_9 : decode cX3_nextPath 9 = .ok (.getfield 40, 3) := by decide +kernel
theorem dX3_nextPath_12 : decode cX3_nextPath 12 = .ok (.iload_n 2, 1) := by decide +kernel
theorem dX3_nextPath_13 : decode cX3_nextPath 13 = .ok (.dup2, 1) := by decide +kernel
theorem dX3_nextPath_14 : decode cX3_nextPath 14 = .ok (.iaload, 1) := by decide +kernel
theorem dX3_nextPath_15 : decode cX3_nextPath 15 = .ok (.iconst 1, 1) := by decide +kernel
theorem dX3_nextPath_16 : decode cX3_nextPath 16 = .ok (.iadd, 1) := by decide +kernel
theorem dX3_nextPath_17 : decode cX3_nextPath 17 = .ok (.iastore, 1) := by decide +kernel
theorem dX3_nextPath_18 : decode cX3_nextPath 18 = .ok (.aload_n 0, 1) := by decide +kernel
theorem dX3_nextPath_19 : decode cX3_nextPath 19 = .ok (.getfield 40, 3) := by decide +kernel
theorem dX3_nextPath_22 : decode cX3_nextPath 22 = .ok (.iload_n 2, 1) := by decide +kernel
theorem dX3_nextPath_23 : decode cX3_nextPath 23 = .ok (.iaload, 1) := by decide +kernel
theorem dX3_nextPath_24 : decode cX3_nextPath 24 = .ok (.aload_n 0, 1) := by decide +kernel
theorem dX3_nextPath_25 : decode cX3_nextPath 25 = .ok (.getfield 19, 3) := by decide +kernel
theorem dX3_nextPath_28 : decode cX3_nextPath 28 = .ok (.getfield 73, 3) := by decide +kernel
theorem dX3_nextPath_31 : decode cX3_nextPath 31 = .ok (.if_icmp .ge 4, 3) := by decide +kernel
theorem dX3_nextPath_34 : decode cX3_nextPath 34 = .ok (.return_, 1) := by decide +kernel
theorem dX3_nextPath_35 : decode cX3_nextPath 35 = .ok (.aload_n 0, 1) := by decide +kernel
theorem dX3_nextPath_36 : decode cX3_nextPath 36 = .ok (.getfield 40, 3) := by decide +kernel
theorem dX3_nextPath_39 : decode cX3_nextPath 39 = .ok (.iload_n 2, 1) := by decide +kernel
theorem dX3_nextPath_40 : decode cX3_nextPath 40 = .ok (.iconst 0, 1) := by decide +kernel
theorem dX3_nextPath_41 : decode cX3_nextPath 41 = .ok (.iastore, 1) := by decide +kernel
theorem dX3_nextPath_42 : decode cX3_nextPath 42 = .ok (.iinc 2 (-1), 3) := by decide +kernel
theorem dX3_nextPath_45 : decode cX3_nextPath 45 = .ok (.goto (-41), 3) := by decide +kernel
theorem dX3_nextPath_48 : decode cX3_nextPath 48 = .ok (.return_, 1) := by decide +kernel
theorem dX3_pathLeadsHome_0 : decode cX3_pathLeadsHome 0 = .ok (.iconst 0, 1) := by decide +kernel
theorem dX3_pathLeadsHome_1 : decode cX3_pathLeadsHome 1 = .ok (.istore_n 2, 1) := by decide +kernel
theorem dX3_pathLeadsHome_2 : decode cX3_pathLeadsHome 2 = .ok (.iload_n 2, 1) := by decide +kernel
theorem dX3_pathLeadsHome_3 : decode cX3_pathLeadsHome 3 = .ok (.aload_n 0, 1) := by decide +kernel
theorem dX3_pathLeadsHome_4 : decode cX3_pathLeadsHome 4 = .ok (.getfield 19, 3) := by decide +kernel
theorem dX3_pathLeadsHome_7 : decode cX3_pathLeadsHome 7 = .ok (.getfield 201, 3) := by decide +kernel
theorem dX3_pathLeadsHome_10 : decode cX3_pathLeadsHome 10 = .ok (.if_icmp .ge 57, 3) := by decide +kernel
theorem dX3_pathLeadsHome_13 : decode cX3_pathLeadsHome 13 = .ok (.iload_n 2, 1) := by decide +kernel
theorem dX3_pathLeadsHome_14 : decode cX3_pathLeadsHome 14 = .ok (.istore_n 3, 1) := by decide +kernel
theorem dX3_pathLeadsHome_15 : decode cX3_pathLeadsHome 15 = .ok (.iconst 0, 1) := by decide +kernel
theorem dX3_pathLeadsHome_16 : decode cX3_pathLeadsHome 16 = .ok (.istore 4, 2) := by decide +kernel
theorem dX3_pathLeadsHome_18 : decode cX3_pathLeadsHome 18 = .ok (.iload 4, 2) := by decide +kernel
theorem dX3_pathLeadsHome_20 : decode cX3_pathLeadsHome 20 = .ok (.iload_n 1, 1) := by decide +kernel
theorem dX3_pathLeadsHome_21 : decode cX3_pathLeadsHome 21 = .ok (.if_icmp .ge 25, 3) := by decide +kernel
theorem dX3_pathLeadsHome_24 : decode cX3_pathLeadsHome 24 = .ok (.aload_n 0, 1) := by decide +kernel
theorem dX3_pathLeadsHome_25 : decode cX3_pathLeadsHome 25 = .ok (.getfield 19, 3) := by decide +kernel
theorem dX3_pathLeadsHome_28 : decode cX3_pathLeadsHome 28 = .ok (.aload_n 0, 1) := by decide +kernel
theorem dX3_pathLeadsHome_29 : decode cX3_pathLeadsHome 29 = .ok (.getfield 40, 3) := by decide +kernel
theorem dX3_pathLeadsHome_32 : decode cX3_pathLeadsHome 32 = .ok (.iload 4, 2) := by decide +kernel
theorem dX3_pathLeadsHome_34 : decode cX3_pathLeadsHome 34 = .ok (.iaload, 1) := by decide +kernel
theorem dX3_pathLeadsHome_35 : decode cX3_pathLeadsHome 35 = .ok (.iload_n 3, 1) := by decide +kernel
theorem dX3_pathLeadsHome_36 : decode cX3_pathLeadsHome 36 = .ok (.invokevirtual 114, 3) := by decide +kernel
theorem dX3_pathLeadsHome_39 : decode cX3_pathLeadsHome 39 = .ok (.istore_n 3, 1) := by decide +kernel
theorem dX3_pathLeadsHome_40 : decode cX3_pathLeadsHome 40 = .ok (.iinc 4 1, 3) := by decide +kernel
theorem dX3_pathLeadsHome_43 : decode cX3_pathLeadsHome 43 = .ok (.goto (-25), 3) := by decide +kernel
theorem dX3_pathLeadsHome_46 : decode cX3_pathLeadsHome 46 = .ok (.iload_n 3, 1) := by decide +kernel
theorem dX3_pathLeadsHome_47 : decode cX3_pathLeadsHome 47 = .ok (.aload_n 0, 1) := by decide +kernel
theorem dX3_pathLeadsHome_48 : decode cX3_pathLeadsHome 48 = .ok (.getfield 19, 3) := by decide +kernel
theorem dX3_pathLeadsHome_51 : decode cX3_pathLeadsHome 51 = .ok (.getfield 111, 3) := by decide +kernel
theorem dX3_pathLeadsHome_54 : decode cX3_pathLeadsHome 54 = .ok (.iload_n 2, 1) := by decide +kernel
theorem dX3_pathLeadsHome_55 : decode cX3_pathLeadsHome 55 = .ok (.iaload, 1) := by decide +kernel
theorem dX3_pathLeadsHome_56 : decode cX3_pathLeadsHome 56 = .ok (.if_icmp .eq 5, 3) := by decide +kernel
theorem dX3_pathLeadsHome_59 : decode cX3_pathLeadsHome 59 = .ok (.iconst 0, 1) := by decide +kernel
theorem dX3_pathLeadsHome_60 : decode cX3_pathLeadsHome 60 = .ok (.ireturn, 1) := by decide +kernel
theorem dX3_pathLeadsHome_61 : decode cX3_pathLeadsHome 61 = .ok (.iinc 2 1, 3) := by decide +kernel
theorem dX3_pathLeadsHome_64 : decode cX3_pathLeadsHome 64 = .ok (.goto (-62), 3) := by decide +kernel
theorem dX3_pathLeadsHome_67 : decode cX3_pathLeadsHome 67 = .ok (.iconst 1, 1) := by decide +kernel
theorem dX3_pathLeadsHome_68 : decode cX3_pathLeadsHome 68 = .ok (.ireturn, 1) := by decide +kernel
theorem dX3_pathInDigits_0 : decode cX3_pathInDigits 0 = .ok (.iconst 0, 1) := by decide +kernel
theorem dX3_pathInDigits_1 : decode cX3_pathInDigits 1 = .ok (.istore_n 2, 1) := by decide +kernel
theorem dX3_pathInDigits_2 : decode cX3_pathInDigits 2 = .ok (.iconst 0, 1) := by decide +kernel
theorem dX3_pathInDigits_3 : decode cX3_pathInDigits 3 = .ok (.istore_n 3, 1) := by decide +kernel
theorem dX3_pathInDigits_4 : decode cX3_pathInDigits 4 = .ok (.iload_n 3, 1) := by decide +kernel
theorem dX3_pathInDigits_5 : decode cX3_pathInDigits 5 = .ok (.iload_n 1, 1) := by decide +kernel
theorem dX3_pathInDigits_6 : decode cX3_pathInDigits 6 = .ok (.if_icmp .ge 23, 3) := by decide +kernel
theorem dX3_pathInDigits_9 : decode cX3_pathInDigits 9 = .ok (.bipush 10, 2) := by decide +kernel
theorem dX3_pathInDigits_11 : decode cX3_pathInDigits 11 = .ok (.iload_n 2, 1) := by decide +kernel
theorem dX3_pathInDigits_12 : decode cX3_pathInDigits 12 = .ok (.imul, 1) := by decide +kernel
theorem dX3_pathInDigits_13 : decode cX3_pathInDigits 13 = .ok (.aload_n 0, 1) := by decide +kernel
theorem dX3_pathInDigits_14 : decode cX3_pathInDigits 14 = .ok (.getfield 40, 3) := by decide +kernel
theorem dX3_pathInDigits_17 : decode cX3_pathInDigits 17 = .ok (.iload_n 3, 1) := by decide +kernel
theorem dX3_pathInDigits_18 : decode cX3_pathInDigits 18 = .ok (.iaload, 1) := by decide +kernel
theorem dX3_pathInDigits_19 : decode cX3_pathInDigits 19 = .ok (.iadd, 1) := by decide +kernel
theorem dX3_pathInDigits_20 : decode cX3_pathInDigits 20 = .ok (.iconst 1, 1) := by decide +kernel
theorem dX3_pathInDigits_21 : decode cX3_pathInDigits 21 = .ok (.iadd, 1) := by decide +kernel
theorem dX3_pathInDigits_22 : decode cX3_pathInDigits 22 = .ok (.istore_n 2, 1) := by decide +kernel
theorem dX3_pathInDigits_23 : decode cX3_pathInDigits 23 = .ok (.iinc 3 1, 3) := by decide +kernel
theorem dX3_pathInDigits_26 : decode cX3_pathInDigits 26 = .ok (.goto (-22), 3) := by decide +kernel
theorem dX3_pathInDigits_29 : decode cX3_pathInDigits 29 = .ok (.iload_n 2, 1) := by decide +kernel
theorem dX3_pathInDigits_30 : decode cX3_pathInDigits 30 = .ok (.ireturn, 1) := by decide +kernel
theorem dX3_tellDrawsFrom_0 : decode cX3_tellDrawsFrom 0 = .ok (.aload_n 0, 1) := by decide +kernel
theorem dX3_tellDrawsFrom_1 : decode cX3_tellDrawsFrom 1 = .ok (.getfield 33, 3) := by decide +kernel
theorem dX3_tellDrawsFrom_4 : decode cX3_tellDrawsFrom 4 = .ok (.iconst 0, 1) := by decide +kernel
theorem dX3_tellDrawsFrom_5 : decode cX3_tellDrawsFrom 5 = .ok (.invokestatic 270, 3) := by decide +kernel
theorem dX3_tellDrawsFrom_8 : decode cX3_tellDrawsFrom 8 = .ok (.aload_n 0, 1) := by decide +kernel
theorem dX3_tellDrawsFrom_9 : decode cX3_tellDrawsFrom 9 = .ok (.getfield 33, 3) := by decide +kernel
theorem dX3_tellDrawsFrom_12 : decode cX3_tellDrawsFrom 12 = .ok (.iload_n 1, 1) := by decide +kernel
end
section
theorem dX3_tellDrawsFrom_13 : decode cX3_tellDrawsFrom 13 = .ok (.iconst 1, 1) := by decide +kernel
theorem dX3_tellDrawsFrom_14 : decode cX3_tellDrawsFrom 14 = .ok (.iastore, 1) := by decide +kernel
theorem dX3_tellDrawsFrom_15 : decode cX3_tellDrawsFrom 15 = .ok (.iconst 0, 1) := by decide +kernel
theorem dX3_tellDrawsFrom_16 : decode cX3_tellDrawsFrom 16 = .ok (.istore_n 3, 1) := by decide +kernel
theorem dX3_tellDrawsFrom_17 : decode cX3_tellDrawsFrom 17 = .ok (.iload_n 3, 1) := by decide +kernel
theorem dX3_tellDrawsFrom_18 : decode cX3_tellDrawsFrom 18 = .ok (.iload_n 2, 1) := by decide +kernel
theorem dX3_tellDrawsFrom_19 : decode cX3_tellDrawsFrom 19 = .ok (.if_icmp .ge 105, 3) := by decide +kernel
theorem dX3_tellDrawsFrom_22 : decode cX3_tellDrawsFrom 22 = .ok (.aload_n 0, 1) := by decide +kernel
theorem dX3_tellDrawsFrom_23 : decode cX3_tellDrawsFrom 23 = .ok (.getfield 37, 3) := by decide +kernel
theorem dX3_tellDrawsFrom_26 : decode cX3_tellDrawsFrom 26 = .ok (.iconst 0, 1) := by decide +kernel
theorem dX3_tellDrawsFrom_27 : decode cX3_tellDrawsFrom 27 = .ok (.invokestatic 270, 3) := by decide +kernel
theorem dX3_tellDrawsFrom_30 : decode cX3_tellDrawsFrom 30 = .ok (.iconst 0, 1) := by decide +kernel
theorem dX3_tellDrawsFrom_31 : decode cX3_tellDrawsFrom 31 = .ok (.istore 4, 2) := by decide +kernel
theorem dX3_tellDrawsFrom_33 : decode cX3_tellDrawsFrom 33 = .ok (.iload 4, 2) := by decide +kernel
theorem dX3_tellDrawsFrom_35 : decode cX3_tellDrawsFrom 35 = .ok (.aload_n 0, 1) := by decide +kernel
theorem dX3_tellDrawsFrom_36 : decode cX3_tellDrawsFrom 36 = .ok (.getfield 19, 3) := by decide +kernel
theorem dX3_tellDrawsFrom_39 : decode cX3_tellDrawsFrom 39 = .ok (.getfield 201, 3) := by decide +kernel
theorem dX3_tellDrawsFrom_42 : decode cX3_tellDrawsFrom 42 = .ok (.if_icmp .ge 56, 3) := by decide +kernel
theorem dX3_tellDrawsFrom_45 : decode cX3_tellDrawsFrom 45 = .ok (.iconst 0, 1) := by decide +kernel
theorem dX3_tellDrawsFrom_46 : decode cX3_tellDrawsFrom 46 = .ok (.istore 5, 2) := by decide +kernel
theorem dX3_tellDrawsFrom_48 : decode cX3_tellDrawsFrom 48 = .ok (.iload 5, 2) := by decide +kernel
theorem dX3_tellDrawsFrom_50 : decode cX3_tellDrawsFrom 50 = .ok (.aload_n 0, 1) := by decide +kernel
theorem dX3_tellDrawsFrom_51 : decode cX3_tellDrawsFrom 51 = .ok (.getfield 19, 3) := by decide +kernel
theorem dX3_tellDrawsFrom_54 : decode cX3_tellDrawsFrom 54 = .ok (.getfield 73, 3) := by decide +kernel
theorem dX3_tellDrawsFrom_57 : decode cX3_tellDrawsFrom 57 = .ok (.if_icmp .ge 35, 3) := by decide +kernel
theorem dX3_tellDrawsFrom_60 : decode cX3_tellDrawsFrom 60 = .ok (.aload_n 0, 1) := by decide +kernel
theorem dX3_tellDrawsFrom_61 : decode cX3_tellDrawsFrom 61 = .ok (.getfield 37, 3) := by decide +kernel
theorem dX3_tellDrawsFrom_64 : decode cX3_tellDrawsFrom 64 = .ok (.aload_n 0, 1) := by decide +kernel
theorem dX3_tellDrawsFrom_65 : decode cX3_tellDrawsFrom 65 = .ok (.getfield 19, 3) := by decide +kernel
theorem dX3_tellDrawsFrom_68 : decode cX3_tellDrawsFrom 68 = .ok (.iload 5, 2) := by decide +kernel
theorem dX3_tellDrawsFrom_70 : decode cX3_tellDrawsFrom 70 = .ok (.iload 4, 2) := by decide +kernel
theorem dX3_tellDrawsFrom_72 : decode cX3_tellDrawsFrom 72 = .ok (.invokevirtual 114, 3) := by decide +kernel
theorem dX3_tellDrawsFrom_75 : decode cX3_tellDrawsFrom 75 = .ok (.dup2, 1) := by decide +kernel
theorem dX3_tellDrawsFrom_76 : decode cX3_tellDrawsFrom 76 = .ok (.iaload, 1) := by decide +kernel
theorem dX3_tellDrawsFrom_77 : decode cX3_tellDrawsFrom 77 = .ok (.aload_n 0, 1) := by decide +kernel
theorem dX3_tellDrawsFrom_78 : decode cX3_tellDrawsFrom 78 = .ok (.getfield 33, 3) := by decide +kernel
theorem dX3_tellDrawsFrom_81 : decode cX3_tellDrawsFrom 81 = .ok (.iload 4, 2) := by decide +kernel
theorem dX3_tellDrawsFrom_83 : decode cX3_tellDrawsFrom 83 = .ok (.iaload, 1) := by decide +kernel
theorem dX3_tellDrawsFrom_84 : decode cX3_tellDrawsFrom 84 = .ok (.iadd, 1) := by decide +kernel
theorem dX3_tellDrawsFrom_85 : decode cX3_tellDrawsFrom 85 = .ok (.iastore, 1) := by decide +kernel
theorem dX3_tellDrawsFrom_86 : decode cX3_tellDrawsFrom 86 = .ok (.iinc 5 1, 3) := by decide +kernel
theorem dX3_tellDrawsFrom_89 : decode cX3_tellDrawsFrom 89 = .ok (.goto (-41), 3) := by decide +kernel
theorem dX3_tellDrawsFrom_92 : decode cX3_tellDrawsFrom 92 = .ok (.iinc 4 1, 3) := by decide +kernel
theorem dX3_tellDrawsFrom_95 : decode cX3_tellDrawsFrom 95 = .ok (.goto (-62), 3) := by decide +kernel
theorem dX3_tellDrawsFrom_98 : decode cX3_tellDrawsFrom 98 = .ok (.aload_n 0, 1) := by decide +kernel
theorem dX3_tellDrawsFrom_99 : decode cX3_tellDrawsFrom 99 = .ok (.getfield 37, 3) := by decide +kernel
theorem dX3_tellDrawsFrom_102 : decode cX3_tellDrawsFrom 102 = .ok (.iconst 0, 1) := by decide +kernel
theorem dX3_tellDrawsFrom_103 : decode cX3_tellDrawsFrom 103 = .ok (.aload_n 0, 1) := by decide +kernel
theorem dX3_tellDrawsFrom_104 : decode cX3_tellDrawsFrom 104 = .ok (.getfield 33, 3) := by decide +kernel
theorem dX3_tellDrawsFrom_107 : decode cX3_tellDrawsFrom 107 = .ok (.iconst 0, 1) := by decide +kernel
theorem dX3_tellDrawsFrom_108 : decode cX3_tellDrawsFrom 108 = .ok (.aload_n 0, 1) := by decide +kernel
theorem dX3_tellDrawsFrom_109 : decode cX3_tellDrawsFrom 109 = .ok (.getfield 19, 3) := by decide +kernel
theorem dX3_tellDrawsFrom_112 : decode cX3_tellDrawsFrom 112 = .ok (.getfield 201, 3) := by decide +kernel
theorem dX3_tellDrawsFrom_115 : decode cX3_tellDrawsFrom 115 = .ok (.invokestatic 261, 3) := by decide +kernel
theorem dX3_tellDrawsFrom_118 : decode cX3_tellDrawsFrom 118 = .ok (.iinc 3 1, 3) := by decide +kernel
theorem dX3_tellDrawsFrom_121 : decode cX3_tellDrawsFrom 121 = .ok (.goto (-104), 3) := by decide +kernel
theorem dX3_tellDrawsFrom_124 : decode cX3_tellDrawsFrom 124 = .ok (.return_, 1) := by decide +kernel
theorem dX3_drawSteps_0 : decode cX3_drawSteps 0 = .ok (.iload_n 2, 1) := by decide +kernel
theorem dX3_drawSteps_1 : decode cX3_drawSteps 1 = .ok (.i2l, 1) := by decide +kernel
theorem dX3_drawSteps_2 : decode cX3_drawSteps 2 = .ok (.lstore_n 3, 1) := by decide +kernel
theorem dX3_drawSteps_3 : decode cX3_drawSteps 3 = .ok (.aload_n 0, 1) := by decide +kernel
theorem dX3_drawSteps_4 : decode cX3_drawSteps 4 = .ok (.getfield 29, 3) := by decide +kernel
theorem dX3_drawSteps_7 : decode cX3_drawSteps 7 = .ok (.aload_n 0, 1) := by decide +kernel
theorem dX3_drawSteps_8 : decode cX3_drawSteps 8 = .ok (.getfield 19, 3) := by decide +kernel
theorem dX3_drawSteps_11 : decode cX3_drawSteps 11 = .ok (.getfield 201, 3) := by decide +kernel
theorem dX3_drawSteps_14 : decode cX3_drawSteps 14 = .ok (.invokevirtual 254, 3) := by decide +kernel
theorem dX3_drawSteps_17 : decode cX3_drawSteps 17 = .ok (.iconst 0, 1) := by decide +kernel
theorem dX3_drawSteps_18 : decode cX3_drawSteps 18 = .ok (.istore 5, 2) := by decide +kernel
theorem dX3_drawSteps_20 : decode cX3_drawSteps 20 = .ok (.iload 5, 2) := by decide +kernel
theorem dX3_drawSteps_22 : decode cX3_drawSteps 22 = .ok (.iload_n 1, 1) := by decide +kernel
theorem dX3_drawSteps_23 : decode cX3_drawSteps 23 = .ok (.if_icmp .ge 59, 3) := by decide +kernel
theorem dX3_drawSteps_26 : decode cX3_drawSteps 26 = .ok (.aload_n 0, 1) := by decide +kernel
theorem dX3_drawSteps_27 : decode cX3_drawSteps 27 = .ok (.getfield 19, 3) := by decide +kernel
theorem dX3_drawSteps_30 : decode cX3_drawSteps 30 = .ok (.getfield 73, 3) := by decide +kernel
theorem dX3_drawSteps_33 : decode cX3_drawSteps 33 = .ok (.ifCond .le 49, 3) := by decide +kernel
theorem dX3_drawSteps_36 : decode cX3_drawSteps 36 = .ok (.ldc2_w 293, 3) := by decide +kernel
theorem dX3_drawSteps_39 : decode cX3_drawSteps 39 = .ok (.lload_n 3, 1) := by decide +kernel
theorem dX3_drawSteps_40 : decode cX3_drawSteps 40 = .ok (.lmul, 1) := by decide +kernel
theorem dX3_drawSteps_41 : decode cX3_drawSteps 41 = .ok (.ldc2_w 295, 3) := by decide +kernel
theorem dX3_drawSteps_44 : decode cX3_drawSteps 44 = .ok (.ladd, 1) := by decide +kernel
theorem dX3_drawSteps_45 : decode cX3_drawSteps 45 = .ok (.ldc2_w 297, 3) := by decide +kernel
theorem dX3_drawSteps_48 : decode cX3_drawSteps 48 = .ok (.lrem, 1) := by decide +kernel
theorem dX3_drawSteps_49 : decode cX3_drawSteps 49 = .ok (.lstore_n 3, 1) := by decide +kernel
theorem dX3_drawSteps_50 : decode cX3_drawSteps 50 = .ok (.aload_n 0, 1) := by decide +kernel
theorem dX3_drawSteps_51 : decode cX3_drawSteps 51 = .ok (.getfield 29, 3) := by decide +kernel
theorem dX3_drawSteps_54 : decode cX3_drawSteps 54 = .ok (.aload_n 0, 1) := by decide +kernel
theorem dX3_drawSteps_55 : decode cX3_drawSteps 55 = .ok (.getfield 19, 3) := by decide +kernel
theorem dX3_drawSteps_58 : decode cX3_drawSteps 58 = .ok (.lload_n 3, 1) := by decide +kernel
theorem dX3_drawSteps_59 : decode cX3_drawSteps 59 = .ok (.ldc2_w 299, 3) := by decide +kernel
theorem dX3_drawSteps_62 : decode cX3_drawSteps 62 = .ok (.ldiv, 1) := by decide +kernel
theorem dX3_drawSteps_63 : decode cX3_drawSteps 63 = .ok (.aload_n 0, 1) := by decide +kernel
theorem dX3_drawSteps_64 : decode cX3_drawSteps 64 = .ok (.getfield 19, 3) := by decide +kernel
theorem dX3_drawSteps_67 : decode cX3_drawSteps 67 = .ok (.getfield 73, 3) := by decide +kernel
theorem dX3_drawSteps_70 : decode cX3_drawSteps 70 = .ok (.i2l, 1) := by decide +kernel
theorem dX3_drawSteps_71 : decode cX3_drawSteps 71 = .ok (.lrem, 1) := by decide +kernel
theorem dX3_drawSteps_72 : decode cX3_drawSteps 72 = .ok (.l2i, 1) := by decide +kernel
theorem dX3_drawSteps_73 : decode cX3_drawSteps 73 = .ok (.invokevirtual 257, 3) := by decide +kernel
theorem dX3_drawSteps_76 : decode cX3_drawSteps 76 = .ok (.iinc 5 1, 3) := by decide +kernel
theorem dX3_drawSteps_79 : decode cX3_drawSteps 79 = .ok (.goto (-59), 3) := by decide +kernel
theorem dX3_drawSteps_82 : decode cX3_drawSteps 82 = .ok (.lload_n 3, 1) := by decide +kernel
theorem dX3_drawSteps_83 : decode cX3_drawSteps 83 = .ok (.l2i, 1) := by decide +kernel
theorem dX3_drawSteps_84 : decode cX3_drawSteps 84 = .ok (.ireturn, 1) := by decide +kernel
theorem dX3_isOfKind_0 : decode cX3_isOfKind 0 = .ok (.iload_n 1, 1) := by decide +kernel
theorem dX3_isOfKind_1 : decode cX3_isOfKind 1 = .ok (.ifCond .eq 18, 3) := by decide +kernel
theorem dX3_isOfKind_4 : decode cX3_isOfKind 4 = .ok (.iload_n 1, 1) := by decide +kernel
theorem dX3_isOfKind_5 : decode cX3_isOfKind 5 = .ok (.iload_n 0, 1) := by decide +kernel
theorem dX3_isOfKind_6 : decode cX3_isOfKind 6 = .ok (.if_icmp .eq 13, 3) := by decide +kernel
theorem dX3_isOfKind_9 : decode cX3_isOfKind 9 = .ok (.iload_n 1, 1) := by decide +kernel
theorem dX3_isOfKind_10 : decode cX3_isOfKind 10 = .ok (.iconst 2, 1) := by decide +kernel
theorem dX3_isOfKind_11 : decode cX3_isOfKind 11 = .ok (.if_icmp .ne 12, 3) := by decide +kernel
theorem dX3_isOfKind_14 : decode cX3_isOfKind 14 = .ok (.iload_n 0, 1) := by decide +kernel
theorem dX3_isOfKind_15 : decode cX3_isOfKind 15 = .ok (.iconst 4, 1) := by decide +kernel
theorem dX3_isOfKind_16 : decode cX3_isOfKind 16 = .ok (.if_icmp .ne 7, 3) := by decide +kernel
theorem dX3_isOfKind_19 : decode cX3_isOfKind 19 = .ok (.iconst 1, 1) := by decide +kernel
theorem dX3_isOfKind_20 : decode cX3_isOfKind 20 = .ok (.goto 4, 3) := by decide +kernel
theorem dX3_isOfKind_23 : decode cX3_isOfKind 23 = .ok (.iconst 0, 1) := by decide +kernel
theorem dX3_isOfKind_24 : decode cX3_isOfKind 24 = .ok (.ireturn, 1) := by decide +kernel
theorem dX3_greatestDivisor_0 : decode cX3_greatestDivisor 0 = .ok (.iload_n 0, 1) := by decide +kernel
theorem dX3_greatestDivisor_1 : decode cX3_greatestDivisor 1 = .ok (.istore_n 2, 1) := by decide +kernel
theorem dX3_greatestDivisor_2 : decode cX3_greatestDivisor 2 = .ok (.iload_n 1, 1) := by decide +kernel
theorem dX3_greatestDivisor_3 : decode cX3_greatestDivisor 3 = .ok (.istore_n 3, 1) := by decide +kernel
theorem dX3_greatestDivisor_4 : decode cX3_greatestDivisor 4 = .ok (.iconst 0, 1) := by decide +kernel
theorem dX3_greatestDivisor_5 : decode cX3_greatestDivisor 5 = .ok (.istore 4, 2) := by decide +kernel
theorem dX3_greatestDivisor_7 : decode cX3_greatestDivisor 7 = .ok (.iload 4, 2) := by decide +kernel
theorem dX3_greatestDivisor_9 : decode cX3_greatestDivisor 9 = .ok (.bipush 64, 2) := by decide +kernel
theorem dX3_greatestDivisor_11 : decode cX3_greatestDivisor 11 = .ok (.if_icmp .ge 23, 3) := by decide +kernel
theorem dX3_greatestDivisor_14 : decode cX3_greatestDivisor 14 = .ok (.iload_n 3, 1) := by decide +kernel
theorem dX3_greatestDivisor_15 : decode cX3_greatestDivisor 15 = .ok (.ifCond .le 19, 3) := by decide +kernel
theorem dX3_greatestDivisor_18 : decode cX3_greatestDivisor 18 = .ok (.iload_n 2, 1) := by decide +kernel
theorem dX3_greatestDivisor_19 : decode cX3_greatestDivisor 19 = .ok (.iload_n 3, 1) := by decide +kernel
theorem dX3_greatestDivisor_20 : decode cX3_greatestDivisor 20 = .ok (.irem, 1) := by decide +kernel
theorem dX3_greatestDivisor_21 : decode cX3_greatestDivisor 21 = .ok (.istore 5, 2) := by decide +kernel
theorem dX3_greatestDivisor_23 : decode cX3_greatestDivisor 23 = .ok (.iload_n 3, 1) := by decide +kernel
theorem dX3_greatestDivisor_24 : decode cX3_greatestDivisor 24 = .ok (.istore_n 2, 1) := by decide +kernel
theorem dX3_greatestDivisor_25 : decode cX3_greatestDivisor 25 = .ok (.iload 5, 2) := by decide +kernel
theorem dX3_greatestDivisor_27 : decode cX3_greatestDivisor 27 = .ok (.istore_n 3, 1) := by decide +kernel
theorem dX3_greatestDivisor_28 : decode cX3_greatestDivisor 28 = .ok (.iinc 4 1, 3) := by decide +kernel
theorem dX3_greatestDivisor_31 : decode cX3_greatestDivisor 31 = .ok (.goto (-24), 3) := by decide +kernel
theorem dX3_greatestDivisor_34 : decode cX3_greatestDivisor 34 = .ok (.iload_n 2, 1) := by decide +kernel
theorem dX3_greatestDivisor_35 : decode cX3_greatestDivisor 35 = .ok (.ireturn, 1) := by decide +kernel
theorem dX3_moved_0 : decode cX3_moved 0 = .ok (.iload_n 0, 1) := by decide +kernel
theorem dX3_moved_1 : decode cX3_moved 1 = .ok (.tableswitch 64 1 4 #[31, 38, 46, 56], 31) := by decide +kernel
theorem dX3_moved_32 : decode cX3_moved 32 = .ok (.iload_n 1, 1) := by decide +kernel
theorem dX3_moved_33 : decode cX3_moved 33 = .ok (.iload_n 2, 1) := by decide +kernel
theorem dX3_moved_34 : decode cX3_moved 34 = .ok (.iload_n 3, 1) := by decide +kernel
theorem dX3_moved_35 : decode cX3_moved 35 = .ok (.invokestatic 301, 3) := by decide +kernel
theorem dX3_moved_38 : decode cX3_moved 38 = .ok (.ireturn, 1) := by decide +kernel
theorem dX3_moved_39 : decode cX3_moved 39 = .ok (.iload_n 1, 1) := by decide +kernel
theorem dX3_moved_40 : decode cX3_moved 40 = .ok (.iload_n 2, 1) := by decide +kernel
theorem dX3_moved_41 : decode cX3_moved 41 = .ok (.iload_n 3, 1) := by decide +kernel
theorem dX3_moved_42 : decode cX3_moved 42 = .ok (.iconst 0, 1) := by decide +kernel
theorem dX3_moved_43 : decode cX3_moved 43 = .ok (.invokestatic 304, 3) := by decide +kernel
theorem dX3_moved_46 : decode cX3_moved 46 = .ok (.ireturn, 1) := by decide +kernel
theorem dX3_moved_47 : decode cX3_moved 47 = .ok (.iload_n 1, 1) := by decide +kernel
theorem dX3_moved_48 : decode cX3_moved 48 = .ok (.iload_n 2, 1) := by decide +kernel
theorem dX3_moved_49 : decode cX3_moved 49 = .ok (.invokestatic 308, 3) := by decide +kernel
theorem dX3_moved_52 : decode cX3_moved 52 = .ok (.iload_n 3, 1) := by decide +kernel
theorem dX3_moved_53 : decode cX3_moved 53 = .ok (.invokestatic 311, 3) := by decide +kernel
theorem dX3_moved_56 : decode cX3_moved 56 = .ok (.ireturn, 1) := by decide +kernel
theorem dX3_moved_57 : decode cX3_moved 57 = .ok (.iload_n 1, 1) := by decide +kernel
theorem dX3_moved_58 : decode cX3_moved 58 = .ok (.iload_n 2, 1) := by decide +kernel
theorem dX3_moved_59 : decode cX3_moved 59 = .ok (.iload_n 3, 1) := by decide +kernel
theorem dX3_moved_60 : decode cX3_moved 60 = .ok (.iconst 1, 1) := by decide +kernel
theorem dX3_moved_61 : decode cX3_moved 61 = .ok (.invokestatic 304, 3) := by decide +kernel
theorem dX3_moved_64 : decode cX3_moved 64 = .ok (.ireturn, 1) := by decide +kernel
theorem dX3_moved_65 : decode cX3_moved 65 = .ok (.iload_n 1, 1) := by decide +kernel
theorem dX3_moved_66 : decode cX3_moved 66 = .ok (.iload_n 2, 1) := by decide +kernel
theorem dX3_moved_67 : decode cX3_moved 67 = .ok (.iconst 1, 1) := by decide +kernel
theorem dX3_moved_68 : decode cX3_moved 68 = .ok (.isub, 1) := by decide +kernel
theorem dX3_moved_69 : decode cX3_moved 69 = .ok (.invokestatic 308, 3) := by decide +kernel
theorem dX3_moved_72 : decode cX3_moved 72 = .ok (.iload_n 3, 1) := by decide +kernel
theorem dX3_moved_73 : decode cX3_moved 73 = .ok (.invokestatic 314, 3) := by decide +kernel
theorem dX3_moved_76 : decode cX3_moved 76 = .ok (.ireturn, 1) := by decide +kernel
theorem dX3_movedByStep_0 : decode cX3_movedByStep 0 = .ok (.iload_n 1, 1) := by decide +kernel
theorem dX3_movedByStep_1 : decode cX3_movedByStep 1 = .ok (.ifCond .ne 5, 3) := by decide +kernel
theorem dX3_movedByStep_4 : decode cX3_movedByStep 4 = .ok (.iload_n 0, 1) := by decide +kernel
theorem dX3_movedByStep_5 : decode cX3_movedByStep 5 = .ok (.ireturn, 1) := by decide +kernel
theorem dX3_movedByStep_6 : decode cX3_movedByStep 6 = .ok (.iload_n 1, 1) := by decide +kernel
theorem dX3_movedByStep_7 : decode cX3_movedByStep 7 = .ok (.iload_n 0, 1) := by decide +kernel
theorem dX3_movedByStep_8 : decode cX3_movedByStep 8 = .ok (.if_icmp .gt 9, 3) := by decide +kernel
theorem dX3_movedByStep_11 : decode cX3_movedByStep 11 = .ok (.iload_n 1, 1) := by decide +kernel
theorem dX3_movedByStep_12 : decode cX3_movedByStep 12 = .ok (.iconst 1, 1) := by decide +kernel
theorem dX3_movedByStep_13 : decode cX3_movedByStep 13 = .ok (.isub, 1) := by decide +kernel
theorem dX3_movedByStep_14 : decode cX3_movedByStep 14 = .ok (.goto 4, 3) := by decide +kernel
theorem dX3_movedByStep_17 : decode cX3_movedByStep 17 = .ok (.iload_n 1, 1) := by decide +kernel
theorem dX3_movedByStep_18 : decode cX3_movedByStep 18 = .ok (.ireturn, 1) := by decide +kernel
theorem dX3_movedByCut_0 : decode cX3_movedByCut 0 = .ok (.iload_n 1, 1) := by decide +kernel
theorem dX3_movedByCut_1 : decode cX3_movedByCut 1 = .ok (.ifCond .le 9, 3) := by decide +kernel
theorem dX3_movedByCut_4 : decode cX3_movedByCut 4 = .ok (.iload_n 0, 1) := by decide +kernel
theorem dX3_movedByCut_5 : decode cX3_movedByCut 5 = .ok (.iload_n 1, 1) := by decide +kernel
theorem dX3_movedByCut_6 : decode cX3_movedByCut 6 = .ok (.irem, 1) := by decide +kernel
theorem dX3_movedByCut_7 : decode cX3_movedByCut 7 = .ok (.goto 4, 3) := by decide +kernel
theorem dX3_movedByCut_10 : decode cX3_movedByCut 10 = .ok (.iconst 0, 1) := by decide +kernel
theorem dX3_movedByCut_11 : decode cX3_movedByCut 11 = .ok (.istore_n 3, 1) := by decide +kernel
theorem dX3_movedByCut_12 : decode cX3_movedByCut 12 = .ok (.iload_n 2, 1) := by decide +kernel
theorem dX3_movedByCut_13 : decode cX3_movedByCut 13 = .ok (.iload_n 3, 1) := by decide +kernel
theorem dX3_movedByCut_14 : decode cX3_movedByCut 14 = .ok (.if_icmp .ge 11, 3) := by decide +kernel
theorem dX3_movedByCut_17 : decode cX3_movedByCut 17 = .ok (.iload_n 2, 1) := by decide +kernel
theorem dX3_movedByCut_18 : decode cX3_movedByCut 18 = .ok (.iload_n 3, 1) := by decide +kernel
theorem dX3_movedByCut_19 : decode cX3_movedByCut 19 = .ok (.isub, 1) := by decide +kernel
theorem dX3_movedByCut_20 : decode cX3_movedByCut 20 = .ok (.iload_n 1, 1) := by decide +kernel
theorem dX3_movedByCut_21 : decode cX3_movedByCut 21 = .ok (.iadd, 1) := by decide +kernel
theorem dX3_movedByCut_22 : decode cX3_movedByCut 22 = .ok (.goto 6, 3) := by decide +kernel
theorem dX3_movedByCut_25 : decode cX3_movedByCut 25 = .ok (.iload_n 2, 1) := by decide +kernel
theorem dX3_movedByCut_26 : decode cX3_movedByCut 26 = .ok (.iload_n 3, 1) := by decide +kernel
theorem dX3_movedByCut_27 : decode cX3_movedByCut 27 = .ok (.isub, 1) := by decide +kernel
theorem dX3_movedByCut_28 : decode cX3_movedByCut 28 = .ok (.ireturn, 1) := by decide +kernel
theorem dX3_movedByTurn_0 : decode cX3_movedByTurn 0 = .ok (.iload_n 1, 1) := by decide +kernel
theorem dX3_movedByTurn_1 : decode cX3_movedByTurn 1 = .ok (.iload_n 0, 1) := by decide +kernel
theorem dX3_movedByTurn_2 : decode cX3_movedByTurn 2 = .ok (.if_icmp .ge 11, 3) := by decide +kernel
theorem dX3_movedByTurn_5 : decode cX3_movedByTurn 5 = .ok (.iload_n 0, 1) := by decide +kernel
theorem dX3_movedByTurn_6 : decode cX3_movedByTurn 6 = .ok (.iconst 1, 1) := by decide +kernel
theorem dX3_movedByTurn_7 : decode cX3_movedByTurn 7 = .ok (.isub, 1) := by decide +kernel
theorem dX3_movedByTurn_8 : decode cX3_movedByTurn 8 = .ok (.iload_n 1, 1) := by decide +kernel
theorem dX3_movedByTurn_9 : decode cX3_movedByTurn 9 = .ok (.isub, 1) := by decide +kernel
theorem dX3_movedByTurn_10 : decode cX3_movedByTurn 10 = .ok (.goto 4, 3) := by decide +kernel
theorem dX3_movedByTurn_13 : decode cX3_movedByTurn 13 = .ok (.iload_n 1, 1) := by decide +kernel
theorem dX3_movedByTurn_14 : decode cX3_movedByTurn 14 = .ok (.ireturn, 1) := by decide +kernel
theorem dX3_movedByDeal_0 : decode cX3_movedByDeal 0 = .ok (.iconst 1, 1) := by decide +kernel
theorem dX3_movedByDeal_1 : decode cX3_movedByDeal 1 = .ok (.iload_n 0, 1) := by decide +kernel
theorem dX3_movedByDeal_2 : decode cX3_movedByDeal 2 = .ok (.iload_n 1, 1) := by decide +kernel
theorem dX3_movedByDeal_3 : decode cX3_movedByDeal 3 = .ok (.invokestatic 308, 3) := by decide +kernel
theorem dX3_movedByDeal_6 : decode cX3_movedByDeal 6 = .ok (.invokestatic 279, 3) := by decide +kernel
theorem dX3_movedByDeal_9 : decode cX3_movedByDeal 9 = .ok (.istore 4, 2) := by decide +kernel
theorem dX3_movedByDeal_11 : decode cX3_movedByDeal 11 = .ok (.iload_n 1, 1) := by decide +kernel
theorem dX3_movedByDeal_12 : decode cX3_movedByDeal 12 = .ok (.iload 4, 2) := by decide +kernel
theorem dX3_movedByDeal_14 : decode cX3_movedByDeal 14 = .ok (.idiv, 1) := by decide +kernel
theorem dX3_movedByDeal_15 : decode cX3_movedByDeal 15 = .ok (.istore 5, 2) := by decide +kernel
theorem dX3_movedByDeal_17 : decode cX3_movedByDeal 17 = .ok (.iload_n 1, 1) := by decide +kernel
theorem dX3_movedByDeal_18 : decode cX3_movedByDeal 18 = .ok (.iload 4, 2) := by decide +kernel
theorem dX3_movedByDeal_20 : decode cX3_movedByDeal 20 = .ok (.irem, 1) := by decide +kernel
theorem dX3_movedByDeal_21 : decode cX3_movedByDeal 21 = .ok (.istore 6, 2) := by decide +kernel
theorem dX3_movedByDeal_23 : decode cX3_movedByDeal 23 = .ok (.iload_n 2, 1) := by decide +kernel
theorem dX3_movedByDeal_24 : decode cX3_movedByDeal 24 = .ok (.iload 4, 2) := by decide +kernel
theorem dX3_movedByDeal_26 : decode cX3_movedByDeal 26 = .ok (.irem, 1) := by decide +kernel
theorem dX3_movedByDeal_27 : decode cX3_movedByDeal 27 = .ok (.istore 7, 2) := by decide +kernel
theorem dX3_movedByDeal_29 : decode cX3_movedByDeal 29 = .ok (.iload 7, 2) := by decide +kernel
theorem dX3_movedByDeal_31 : decode cX3_movedByDeal 31 = .ok (.iload 6, 2) := by decide +kernel
theorem dX3_movedByDeal_33 : decode cX3_movedByDeal 33 = .ok (.if_icmp .ge 10, 3) := by decide +kernel
theorem dX3_movedByDeal_36 : decode cX3_movedByDeal 36 = .ok (.iload 5, 2) := by decide +kernel
theorem dX3_movedByDeal_38 : decode cX3_movedByDeal 38 = .ok (.iconst 1, 1) := by decide +kernel
theorem dX3_movedByDeal_39 : decode cX3_movedByDeal 39 = .ok (.iadd, 1) := by decide +kernel
theorem dX3_movedByDeal_40 : decode cX3_movedByDeal 40 = .ok (.goto 5, 3) := by decide +kernel
theorem dX3_movedByDeal_43 : decode cX3_movedByDeal 43 = .ok (.iload 5, 2) := by decide +kernel
theorem dX3_movedByDeal_45 : decode cX3_movedByDeal 45 = .ok (.istore 8, 2) := by decide +kernel
theorem dX3_movedByDeal_47 : decode cX3_movedByDeal 47 = .ok (.iload 7, 2) := by decide +kernel
theorem dX3_movedByDeal_49 : decode cX3_movedByDeal 49 = .ok (.iload 5, 2) := by decide +kernel
theorem dX3_movedByDeal_51 : decode cX3_movedByDeal 51 = .ok (.imul, 1) := by decide +kernel
theorem dX3_movedByDeal_52 : decode cX3_movedByDeal 52 = .ok (.iload 7, 2) := by decide +kernel
theorem dX3_movedByDeal_54 : decode cX3_movedByDeal 54 = .ok (.iload 6, 2) := by decide +kernel
theorem dX3_movedByDeal_56 : decode cX3_movedByDeal 56 = .ok (.invokestatic 308, 3) := by decide +kernel
theorem dX3_movedByDeal_59 : decode cX3_movedByDeal 59 = .ok (.iadd, 1) := by decide +kernel
theorem dX3_movedByDeal_60 : decode cX3_movedByDeal 60 = .ok (.istore 9, 2) := by decide +kernel
theorem dX3_movedByDeal_62 : decode cX3_movedByDeal 62 = .ok (.iload_n 3, 1) := by decide +kernel
theorem dX3_movedByDeal_63 : decode cX3_movedByDeal 63 = .ok (.ifCond .eq 8, 3) := by decide +kernel
theorem dX3_movedByDeal_66 : decode cX3_movedByDeal 66 = .ok (.iload 9, 2) := by decide +kernel
theorem dX3_movedByDeal_68 : decode cX3_movedByDeal 68 = .ok (.goto 10, 3) := by decide +kernel
theorem dX3_movedByDeal_71 : decode cX3_movedByDeal 71 = .ok (.iload_n 1, 1) := by decide +kernel
theorem dX3_movedByDeal_72 : decode cX3_movedByDeal 72 = .ok (.iload 9, 2) := by decide +kernel
theorem dX3_movedByDeal_74 : decode cX3_movedByDeal 74 = .ok (.isub, 1) := by decide +kernel
theorem dX3_movedByDeal_75 : decode cX3_movedByDeal 75 = .ok (.iload 8, 2) := by decide +kernel
theorem dX3_movedByDeal_77 : decode cX3_movedByDeal 77 = .ok (.isub, 1) := by decide +kernel
theorem dX3_movedByDeal_78 : decode cX3_movedByDeal 78 = .ok (.istore 10, 2) := by decide +kernel
theorem dX3_movedByDeal_80 : decode cX3_movedByDeal 80 = .ok (.iload 10, 2) := by decide +kernel
theorem dX3_movedByDeal_82 : decode cX3_movedByDeal 82 = .ok (.iload 8, 2) := by decide +kernel
theorem dX3_movedByDeal_84 : decode cX3_movedByDeal 84 = .ok (.iadd, 1) := by decide +kernel
theorem dX3_movedByDeal_85 : decode cX3_movedByDeal 85 = .ok (.iconst 1, 1) := by decide +kernel
theorem dX3_movedByDeal_86 : decode cX3_movedByDeal 86 = .ok (.isub, 1) := by decide +kernel
theorem dX3_movedByDeal_87 : decode cX3_movedByDeal 87 = .ok (.iload_n 2, 1) := by decide +kernel
theorem dX3_movedByDeal_88 : decode cX3_movedByDeal 88 = .ok (.iload 4, 2) := by decide +kernel
theorem dX3_movedByDeal_90 : decode cX3_movedByDeal 90 = .ok (.idiv, 1) := by decide +kernel
theorem dX3_movedByDeal_91 : decode cX3_movedByDeal 91 = .ok (.isub, 1) := by decide +kernel
theorem dX3_movedByDeal_92 : decode cX3_movedByDeal 92 = .ok (.ireturn, 1) := by decide +kernel
theorem dX4_init_0 : decode cX4_init 0 = .ok (.aload_n 0, 1) := by decide +kernel
theorem dX4_init_1 : decode cX4_init 1 = .ok (.invokespecial 1, 3) := by decide +kernel
theorem dX4_init_4 : decode cX4_init 4 = .ok (.aload_n 0, 1) := by decide +kernel
theorem dX4_init_5 : decode cX4_init 5 = .ok (.bipush 22, 2) := by decide +kernel
theorem dX4_init_7 : decode cX4_init 7 = .ok (.newarray .int, 2) := by decide +kernel
theorem dX4_init_9 : decode cX4_init 9 = .ok (.putfield 7, 3) := by decide +kernel
theorem dX4_init_12 : decode cX4_init 12 = .ok (.aload_n 0, 1) := by decide +kernel
theorem dX4_init_13 : decode cX4_init 13 = .ok (.bipush 6, 2) := by decide +kernel
theorem dX4_init_15 : decode cX4_init 15 = .ok (.newarray .int, 2) := by decide +kernel
theorem dX4_init_17 : decode cX4_init 17 = .ok (.putfield 13, 3) := by decide +kernel
theorem dX4_init_20 : decode cX4_init 20 = .ok (.aload_n 0, 1) := by decide +kernel
theorem dX4_init_21 : decode cX4_init 21 = .ok (.bipush 6, 2) := by decide +kernel
theorem dX4_init_23 : decode cX4_init 23 = .ok (.newarray .int, 2) := by decide +kernel
theorem dX4_init_25 : decode cX4_init 25 = .ok (.putfield 16, 3) := by decide +kernel
theorem dX4_init_28 : decode cX4_init 28 = .ok (.aload_n 0, 1) := by decide +kernel
theorem dX4_init_29 : decode cX4_init 29 = .ok (.bipush 12, 2) := by decide +kernel
theorem dX4_init_31 : decode cX4_init 31 = .ok (.newarray .int, 2) := by decide +kernel
theorem dX4_init_33 : decode cX4_init 33 = .ok (.putfield 19, 3) := by decide +kernel
theorem dX4_init_36 : decode cX4_init 36 = .ok (.aload_n 0, 1) := by decide +kernel
theorem dX4_init_37 : decode cX4_init 37 = .ok (.bipush 12, 2) := by decide +kernel
theorem dX4_init_39 : decode cX4_init 39 = .ok (.newarray .int, 2) := by decide +kernel
theorem dX4_init_41 : decode cX4_init 41 = .ok (.putfield 22, 3) := by decide +kernel
theorem dX4_init_44 : decode cX4_init 44 = .ok (.aload_n 0, 1) := by decide +kernel
theorem dX4_init_45 : decode cX4_init 45 = .ok (.bipush 12, 2) := by decide +kernel
theorem dX4_init_47 : decode cX4_init 47 = .ok (.newarray .int, 2) := by decide +kernel
theorem dX4_init_49 : decode cX4_init 49 = .ok (.putfield 25, 3) := by decide +kernel
theorem dX4_init_52 : decode cX4_init 52 = .ok (.aload_n 0, 1) := by decide +kernel
theorem dX4_init_53 : decode cX4_init 53 = .ok (.bipush 12, 2) := by decide +kernel
theorem dX4_init_55 : decode cX4_init 55 = .ok (.newarray .int, 2) := by decide +kernel
theorem dX4_init_57 : decode cX4_init 57 = .ok (.putfield 28, 3) := by decide +kernel
theorem dX4_init_60 : decode cX4_init 60 = .ok (.aload_n 0, 1) := by decide +kernel
theorem dX4_init_61 : decode cX4_init 61 = .ok (.bipush 12, 2) := by decide +kernel
theorem dX4_init_63 : decode cX4_init 63 = .ok (.newarray .int, 2) := by decide +kernel
theorem dX4_init_65 : decode cX4_init 65 = .ok (.putfield 31, 3) := by decide +kernel
theorem dX4_init_68 : decode cX4_init 68 = .ok (.aload_n 0, 1) := by decide +kernel
theorem dX4_init_69 : decode cX4_init 69 = .ok (.bipush 12, 2) := by decide +kernel
theorem dX4_init_71 : decode cX4_init 71 = .ok (.newarray .int, 2) := by decide +kernel
theorem dX4_init_73 : decode cX4_init 73 = .ok (.putfield 34, 3) := by decide +kernel
theorem dX4_init_76 : decode cX4_init 76 = .ok (.aload_n 0, 1) := by decide +kernel
theorem dX4_init_77 : decode cX4_init 77 = .ok (.bipush 12, 2) := by decide +kernel
theorem dX4_init_79 : decode cX4_init 79 = .ok (.newarray .int, 2) := by decide +kernel
theorem dX4_init_81 : decode cX4_init 81 = .ok (.putfield 37, 3) := by decide +kernel
theorem dX4_init_84 : decode cX4_init 84 = .ok (.aload_n 0, 1) := by decide +kernel
theorem dX4_init_85 : decode cX4_init 85 = .ok (.bipush 18, 2) := by decide +kernel
theorem dX4_init_87 : decode cX4_init 87 = .ok (.newarray .int, 2) := by decide +kernel
theorem dX4_init_89 : decode cX4_init 89 = .ok (.putfield 40, 3) := by decide +kernel
theorem dX4_init_92 : decode cX4_init 92 = .ok (.aload_n 0, 1) := by decide +kernel
theorem dX4_init_93 : decode cX4_init 93 = .ok (.bipush 6, 2) := by decide +kernel
theorem dX4_init_95 : decode cX4_init 95 = .ok (.newarray .int, 2) := by decide +kernel
theorem dX4_init_97 : decode cX4_init 97 = .ok (.putfield 43, 3) := by decide +kernel
theorem dX4_init_100 : decode cX4_init 100 = .ok (.aload_n 0, 1) := by decide +kernel
theorem dX4_init_101 : decode cX4_init 101 = .ok (.bipush 6, 2) := by decide +kernel
theorem dX4_init_103 : decode cX4_init 103 = .ok (.newarray .int, 2) := by decide +kernel
theorem dX4_init_105 : decode cX4_init 105 = .ok (.putfield 46, 3) := by decide +kernel
theorem dX4_init_108 : decode cX4_init 108 = .ok (.aload_n 0, 1) := by decide +kernel
theorem dX4_init_109 : decode cX4_init 109 = .ok (.bipush 12, 2) := by decide +kernel
theorem dX4_init_111 : decode cX4_init 111 = .ok (.newarray .int, 2) := by decide +kernel
theorem dX4_init_113 : decode cX4_init 113 = .ok (.putfield 49, 3) := by decide +kernel
theorem dX4_init_116 : decode cX4_init 116 = .ok (.aload_n 0, 1) := by decide +kernel
theorem dX4_init_117 : decode cX4_init 117 = .ok (.bipush 18, 2) := by decide +kernel
theorem dX4_init_119 : decode cX4_init 119 = .ok (.newarray .int, 2) := by decide +kernel
theorem dX4_init_121 : decode cX4_init 121 = .ok (.putfield 52, 3) := by decide +kernel
theorem dX4_init_124 : decode cX4_init 124 = .ok (.aload_n 0, 1) := by decide +kernel
theorem dX4_init_125 : decode cX4_init 125 = .ok (.iconst (-1), 1) := by decide +kernel
theorem dX4_init_126 : decode cX4_init 126 = .ok (.putfield 55, 3) := by decide +kernel
theorem dX4_init_129 : decode cX4_init 129 = .ok (.return_, 1) := by decide +kernel
theorem dX4_in_0 : decode cX4_in 0 = .ok (.lload_n 0, 1) := by decide +kernel
theorem dX4_in_1 : decode cX4_in 1 = .ok (.lload_n 2, 1) := by decide +kernel
theorem dX4_in_2 : decode cX4_in 2 = .ok (.lcmp, 1) := by decide +kernel
theorem dX4_in_3 : decode cX4_in 3 = .ok (.ifCond .lt 14, 3) := by decide +kernel
theorem dX4_in_6 : decode cX4_in 6 = .ok (.lload_n 0, 1) := by decide +kernel
theorem dX4_in_7 : decode cX4_in 7 = .ok (.lload 4, 2) := by decide +kernel
theorem dX4_in_9 : decode cX4_in 9 = .ok (.lcmp, 1) := by decide +kernel
theorem dX4_in_10 : decode cX4_in 10 = .ok (.ifCond .gt 7, 3) := by decide +kernel
theorem dX4_in_13 : decode cX4_in 13 = .ok (.iconst 1, 1) := by decide +kernel
theorem dX4_in_14 : decode cX4_in 14 = .ok (.goto 4, 3) := by decide +kernel
theorem dX4_in_17 : decode cX4_in 17 = .ok (.iconst 0, 1) := by decide +kernel
theorem dX4_in_18 : decode cX4_in 18 = .ok (.ireturn, 1) := by decide +kernel
theorem dX4_copy_0 : decode cX4_copy 0 = .ok (.iconst 0, 1) := by decide +kernel
theorem dX4_copy_1 : decode cX4_copy 1 = .ok (.istore_n 2, 1) := by decide +kernel
theorem dX4_copy_2 : decode cX4_copy 2 = .ok (.iload_n 2, 1) := by decide +kernel
theorem dX4_copy_3 : decode cX4_copy 3 = .ok (.aload_n 0, 1) := by decide +kernel
theorem dX4_copy_4 : decode cX4_copy 4 = .ok (.arraylength, 1) := by decide +kernel
theorem dX4_copy_5 : decode cX4_copy 5 = .ok (.if_icmp .ge 15, 3) := by decide +kernel
theorem dX4_copy_8 : decode cX4_copy 8 = .ok (.aload_n 1, 1) := by decide +kernel
theorem dX4_copy_9 : decode cX4_copy 9 = .ok (.iload_n 2, 1) := by decide +kernel
theorem dX4_copy_10 : decode cX4_copy 10 = .ok (.aload_n 0, 1) := by decide +kernel
theorem dX4_copy_11 : decode cX4_copy 11 = .ok (.iload_n 2, 1) := by decide +kernel
theorem dX4_copy_12 : decode cX4_copy 12 = .ok (.iaload, 1) := by decide +kernel
theorem dX4_copy_13 : decode cX4_copy 13 = .ok (.iastore, 1) := by decide +kernel
theorem dX4_copy_14 : decode cX4_copy 14 = .ok (.iinc 2 1, 3) := by decide +kernel
theorem dX4_copy_17 : decode cX4_copy 17 = .ok (.goto (-15), 3) := by decide +kernel
theorem dX4_copy_20 : decode cX4_copy 20 = .ok (.return_, 1) := by decide +kernel
theorem dX4_common_0 : decode cX4_common 0 = .ok (.iload_n 0, 1) := by decide +kernel
theorem dX4_common_1 : decode cX4_common 1 = .ok (.istore_n 2, 1) := by decide +kernel
theorem dX4_common_2 : decode cX4_common 2 = .ok (.iload_n 1, 1) := by decide +kernel
theorem dX4_common_3 : decode cX4_common 3 = .ok (.istore_n 3, 1) := by decide +kernel
theorem dX4_common_4 : decode cX4_common 4 = .ok (.iload_n 3, 1) := by decide +kernel
theorem dX4_common_5 : decode cX4_common 5 = .ok (.ifCond .le 16, 3) := by decide +kernel
theorem dX4_common_8 : decode cX4_common 8 = .ok (.iload_n 2, 1) := by decide +kernel
theorem dX4_common_9 : decode cX4_common 9 = .ok (.iload_n 3, 1) := by decide +kernel
theorem dX4_common_10 : decode cX4_common 10 = .ok (.irem, 1) := by decide +kernel
theorem dX4_common_11 : decode cX4_common 11 = .ok (.istore 4, 2) := by decide +kernel
theorem dX4_common_13 : decode cX4_common 13 = .ok (.iload_n 3, 1) := by decide +kernel
theorem dX4_common_14 : decode cX4_common 14 = .ok (.istore_n 2, 1) := by decide +kernel
theorem dX4_common_15 : decode cX4_common 15 = .ok (.iload 4, 2) := by decide +kernel
theorem dX4_common_17 : decode cX4_common 17 = .ok (.istore_n 3, 1) := by decide +kernel
theorem dX4_common_18 : decode cX4_common 18 = .ok (.goto (-14), 3) := by decide +kernel
theorem dX4_common_21 : decode cX4_common 21 = .ok (.iload_n 2, 1) := by decide +kernel
theorem dX4_common_22 : decode cX4_common 22 = .ok (.ireturn, 1) := by decide +kernel
theorem dX4_letter_0 : decode cX4_letter 0 = .ok (.iload_n 1, 1) := by decide +kernel
theorem dX4_letter_1 : decode cX4_letter 1 = .ok (.i2l, 1) := by decide +kernel
theorem dX4_letter_2 : decode cX4_letter 2 = .ok (.lconst 1, 1) := by decide +kernel
theorem dX4_letter_3 : decode cX4_letter 3 = .ok (.ldc2_w 59, 3) := by decide +kernel
theorem dX4_letter_6 : decode cX4_letter 6 = .ok (.invokestatic 61, 3) := by decide +kernel
theorem dX4_letter_9 : decode cX4_letter 9 = .ok (.ifCond .ne 6, 3) := by decide +kernel
theorem dX4_letter_12 : decode cX4_letter 12 = .ok (.bipush (-102), 2) := by decide +kernel
theorem dX4_letter_14 : decode cX4_letter 14 = .ok (.ireturn, 1) := by decide +kernel
theorem dX4_letter_15 : decode cX4_letter 15 = .ok (.aload_n 0, 1) := by decide +kernel
theorem dX4_letter_16 : decode cX4_letter 16 = .ok (.getfield 65, 3) := by decide +kernel
theorem dX4_letter_19 : decode cX4_letter 19 = .ok (.bipush 22, 2) := by decide +kernel
theorem dX4_letter_21 : decode cX4_letter 21 = .ok (.if_icmp .ne 6, 3) := by decide +kernel
theorem dX4_letter_24 : decode cX4_letter 24 = .ok (.bipush (-104), 2) := by decide +kernel
theorem dX4_letter_26 : decode cX4_letter 26 = .ok (.ireturn, 1) := by decide +kernel
theorem dX4_letter_27 : decode cX4_letter 27 = .ok (.aload_n 0, 1) := by decide +kernel
theorem dX4_letter_28 : decode cX4_letter 28 = .ok (.getfield 7, 3) := by decide +kernel
theorem dX4_letter_31 : decode cX4_letter 31 = .ok (.aload_n 0, 1) := by decide +kernel
theorem dX4_letter_32 : decode cX4_letter 32 = .ok (.getfield 65, 3) := by decide +kernel
theorem dX4_letter_35 : decode cX4_letter 35 = .ok (.iload_n 1, 1) := by decide +kernel
theorem dX4_letter_36 : decode cX4_letter 36 = .ok (.iastore, 1) := by decide +kernel
theorem dX4_letter_37 : decode cX4_letter 37 = .ok (.aload_n 0, 1) := by decide +kernel
theorem dX4_letter_38 : decode cX4_letter 38 = .ok (.dup, 1) := by decide +kernel
theorem dX4_letter_39 : decode cX4_letter 39 = .ok (.getfield 65, 3) := by decide +kernel
theorem dX4_letter_42 : decode cX4_letter 42 = .ok (.iconst 1, 1) := by decide +kernel
theorem dX4_letter_43 : decode cX4_letter 43 = .ok (.iadd, 1) := by decide +kernel
theorem dX4_letter_44 : decode cX4_letter 44 = .ok (.putfield 65, 3) := by decide +kernel
theorem dX4_letter_47 : decode cX4_letter 47 = .ok (.aload_n 0, 1) := by decide +kernel
theorem dX4_letter_48 : decode cX4_letter 48 = .ok (.getfield 65, 3) := by decide +kernel
theorem dX4_letter_51 : decode cX4_letter 51 = .ok (.ireturn, 1) := by decide +kernel
theorem dX4_blank_0 : decode cX4_blank 0 = .ok (.aload_n 0, 1) := by decide +kernel
theorem dX4_blank_1 : decode cX4_blank 1 = .ok (.getfield 65, 3) := by decide +kernel
theorem dX4_blank_4 : decode cX4_blank 4 = .ok (.istore_n 1, 1) := by decide +kernel
theorem dX4_blank_5 : decode cX4_blank 5 = .ok (.aload_n 0, 1) := by decide +kernel
theorem dX4_blank_6 : decode cX4_blank 6 = .ok (.iconst 0, 1) := by decide +kernel
theorem dX4_blank_7 : decode cX4_blank 7 = .ok (.putfield 65, 3) := by decide +kernel
theorem dX4_blank_10 : decode cX4_blank 10 = .ok (.iload_n 1, 1) := by decide +kernel
theorem dX4_blank_11 : decode cX4_blank 11 = .ok (.ireturn, 1) := by decide +kernel
theorem dX4_kindBy_0 : decode cX4_kindBy 0 = .ok (.iload_n 0, 1) := by decide +kernel
theorem dX4_kindBy_1 : decode cX4_kindBy 1 = .ok (.lookupswitch 61 #[(99, 53), (100, 55), (111, 59), (115, 51), (116, 57)], 51) := by decide +kernel
theorem dX4_kindBy_52 : decode cX4_kindBy 52 = .ok (.iconst 0, 1) := by decide +kernel
theorem dX4_kindBy_53 : decode cX4_kindBy 53 = .ok (.ireturn, 1) := by decide +kernel
theorem dX4_kindBy_54 : decode cX4_kindBy 54 = .ok (.iconst 1, 1) := by decide +kernel
theorem dX4_kindBy_55 : decode cX4_kindBy 55 = .ok (.ireturn, 1) := by decide +kernel
theorem dX4_kindBy_56 : decode cX4_kindBy 56 = .ok (.iconst 2, 1) := by decide +kernel
theorem dX4_kindBy_57 : decode cX4_kindBy 57 = .ok (.ireturn, 1) := by decide +kernel
theorem dX4_kindBy_58 : decode cX4_kindBy 58 = .ok (.iconst 3, 1) := by decide +kernel
theorem dX4_kindBy_59 : decode cX4_kindBy 59 = .ok (.ireturn, 1) := by decide +kernel
theorem dX4_kindBy_60 : decode cX4_kindBy 60 = .ok (.iconst 4, 1) := by decide +kernel
theorem dX4_kindBy_61 : decode cX4_kindBy 61 = .ok (.ireturn, 1) := by decide +kernel
theorem dX4_kindBy_62 : decode cX4_kindBy 62 = .ok (.iconst (-1), 1) := by decide +kernel
theorem dX4_kindBy_63 : decode cX4_kindBy 63 = .ok (.ireturn, 1) := by decide +kernel
theorem dX4_isGood_0 : decode cX4_isGood 0 = .ok (.aload_n 0, 1) := by decide +kernel
theorem dX4_isGood_1 : decode cX4_isGood 1 = .ok (.getfield 7, 3) := by decide +kernel
theorem dX4_isGood_4 : decode cX4_isGood 4 = .ok (.iload_n 1, 1) := by decide +kernel
theorem dX4_isGood_5 : decode cX4_isGood 5 = .ok (.iaload, 1) := by decide +kernel
theorem dX4_isGood_6 : decode cX4_isGood 6 = .ok (.istore_n 2, 1) := by decide +kernel
theorem dX4_isGood_7 : decode cX4_isGood 7 = .ok (.iload_n 1, 1) := by decide +kernel
theorem dX4_isGood_8 : decode cX4_isGood 8 = .ok (.tableswitch 95 0 2 #[28, 46, 83], 28) := by decide +kernel
theorem dX4_isGood_36 : decode cX4_isGood 36 = .ok (.iload_n 2, 1) := by decide +kernel
theorem dX4_isGood_37 : decode cX4_isGood 37 = .ok (.bipush 48, 2) := by decide +kernel
theorem dX4_isGood_39 : decode cX4_isGood 39 = .ok (.if_icmp .eq 9, 3) := by decide +kernel
theorem dX4_isGood_42 : decode cX4_isGood 42 = .ok (.iload_n 2, 1) := by decide +kernel
theorem dX4_isGood_43 : decode cX4_isGood 43 = .ok (.bipush 49, 2) := by decide +kernel
theorem dX4_isGood_45 : decode cX4_isGood 45 = .ok (.if_icmp .ne 7, 3) := by decide +kernel
theorem dX4_isGood_48 : decode cX4_isGood 48 = .ok (.iconst 1, 1) := by decide +kernel
theorem dX4_isGood_49 : decode cX4_isGood 49 = .ok (.goto 4, 3) := by decide +kernel
theorem dX4_isGood_52 : decode cX4_isGood 52 = .ok (.iconst 0, 1) := by decide +kernel
theorem dX4_isGood_53 : decode cX4_isGood 53 = .ok (.ireturn, 1) := by decide +kernel
theorem dX4_isGood_54 : decode cX4_isGood 54 = .ok (.aload_n 0, 1) := by decide +kernel
theorem dX4_isGood_55 : decode cX4_isGood 55 = .ok (.getfield 7, 3) := by decide +kernel
theorem dX4_isGood_58 : decode cX4_isGood 58 = .ok (.iconst 0, 1) := by decide +kernel
theorem dX4_isGood_59 : decode cX4_isGood 59 = .ok (.iaload, 1) := by decide +kernel
theorem dX4_isGood_60 : decode cX4_isGood 60 = .ok (.bipush 48, 2) := by decide +kernel
theorem dX4_isGood_62 : decode cX4_isGood 62 = .ok (.if_icmp .ne 17, 3) := by decide +kernel
theorem dX4_isGood_65 : decode cX4_isGood 65 = .ok (.iload_n 2, 1) := by decide +kernel
theorem dX4_isGood_66 : decode cX4_isGood 66 = .ok (.i2l, 1) := by decide +kernel
theorem dX4_isGood_67 : decode cX4_isGood 67 = .ok (.ldc2_w 68, 3) := by decide +kernel
theorem dX4_isGood_70 : decode cX4_isGood 70 = .ok (.ldc2_w 70, 3) := by decide +kernel
theorem dX4_isGood_73 : decode cX4_isGood 73 = .ok (.invokestatic 61, 3) := by decide +kernel
theorem dX4_isGood_76 : decode cX4_isGood 76 = .ok (.goto 14, 3) := by decide +kernel
theorem dX4_isGood_79 : decode cX4_isGood 79 = .ok (.iload_n 2, 1) := by decide +kernel
theorem dX4_isGood_80 : decode cX4_isGood 80 = .ok (.i2l, 1) := by decide +kernel
theorem dX4_isGood_81 : decode cX4_isGood 81 = .ok (.ldc2_w 72, 3) := by decide +kernel
theorem dX4_isGood_84 : decode cX4_isGood 84 = .ok (.ldc2_w 68, 3) := by decide +kernel
theorem dX4_isGood_87 : decode cX4_isGood 87 = .ok (.invokestatic 61, 3) := by decide +kernel
theorem dX4_isGood_90 : decode cX4_isGood 90 = .ok (.ireturn, 1) := by decide +kernel
theorem dX4_isGood_91 : decode cX4_isGood 91 = .ok (.iload_n 2, 1) := by decide +kernel
theorem dX4_isGood_92 : decode cX4_isGood 92 = .ok (.bipush 59, 2) := by decide +kernel
theorem dX4_isGood_94 : decode cX4_isGood 94 = .ok (.if_icmp .ne 7, 3) := by decide +kernel
theorem dX4_isGood_97 : decode cX4_isGood 97 = .ok (.iconst 1, 1) := by decide +kernel
theorem dX4_isGood_98 : decode cX4_isGood 98 = .ok (.goto 4, 3) := by decide +kernel
theorem dX4_isGood_101 : decode cX4_isGood 101 = .ok (.iconst 0, 1) := by decide +kernel
theorem dX4_isGood_102 : decode cX4_isGood 102 = .ok (.ireturn, 1) := by decide +kernel
theorem dX4_isGood_103 : decode cX4_isGood 103 = .ok (.iload_n 1, 1) := by decide +kernel
theorem dX4_isGood_104 : decode cX4_isGood 104 = .ok (.iconst 3, 1) := by decide +kernel
theorem dX4_isGood_105 : decode cX4_isGood 105 = .ok (.irem, 1) := by decide +kernel
theorem dX4_isGood_106 : decode cX4_isGood 106 = .ok (.lookupswitch 52 #[(0, 26), (1, 40)], 26) := by decide +kernel
theorem dX4_isGood_132 : decode cX4_isGood 132 = .ok (.iload_n 2, 1) := by decide +kernel
theorem dX4_isGood_133 : decode cX4_isGood 133 = .ok (.invokestatic 74, 3) := by decide +kernel
theorem dX4_isGood_136 : decode cX4_isGood 136 = .ok (.iconst (-1), 1) := by decide +kernel
theorem dX4_isGood_137 : decode cX4_isGood 137 = .ok (.if_icmp .eq 7, 3) := by decide +kernel
theorem dX4_isGood_140 : decode cX4_isGood 140 = .ok (.iconst 1, 1) := by decide +kernel
theorem dX4_isGood_141 : decode cX4_isGood 141 = .ok (.goto 4, 3) := by decide +kernel
theorem dX4_isGood_144 : decode cX4_isGood 144 = .ok (.iconst 0, 1) := by decide +kernel
theorem dX4_isGood_145 : decode cX4_isGood 145 = .ok (.ireturn, 1) := by decide +kernel
theorem dX4_isGood_146 : decode cX4_isGood 146 = .ok (.iload_n 2, 1) := by decide +kernel
theorem dX4_isGood_147 : decode cX4_isGood 147 = .ok (.i2l, 1) := by decide +kernel
theorem dX4_isGood_148 : decode cX4_isGood 148 = .ok (.ldc2_w 72, 3) := by decide +kernel
theorem dX4_isGood_151 : decode cX4_isGood 151 = .ok (.ldc2_w 70, 3) := by decide +kernel
theorem dX4_isGood_154 : decode cX4_isGood 154 = .ok (.invokestatic 61, 3) := by decide +kernel
theorem dX4_isGood_157 : decode cX4_isGood 157 = .ok (.ireturn, 1) := by decide +kernel
theorem dX4_isGood_158 : decode cX4_isGood 158 = .ok (.iload_n 2, 1) := by decide +kernel
theorem dX4_isGood_159 : decode cX4_isGood 159 = .ok (.bipush 44, 2) := by decide +kernel
theorem dX4_isGood_161 : decode cX4_isGood 161 = .ok (.if_icmp .ne 13, 3) := by decide +kernel
theorem dX4_isGood_164 : decode cX4_isGood 164 = .ok (.iload_n 1, 1) := by decide +kernel
theorem dX4_isGood_165 : decode cX4_isGood 165 = .ok (.bipush 20, 2) := by decide +kernel
theorem dX4_isGood_167 : decode cX4_isGood 167 = .ok (.if_icmp .ge 7, 3) := by decide +kernel
theorem dX4_isGood_170 : decode cX4_isGood 170 = .ok (.iconst 1, 1) := by decide +kernel
theorem dX4_isGood_171 : decode cX4_isGood 171 = .ok (.goto 4, 3) := by decide +kernel
theorem dX4_isGood_174 : decode cX4_isGood 174 = .ok (.iconst 0, 1) := by decide +kernel
theorem dX4_isGood_175 : decode cX4_isGood 175 = .ok (.ireturn, 1) := by decide +kernel
theorem dX4_faultOf_0 : decode cX4_faultOf 0 = .ok (.iconst 0, 1) := by decide +kernel
theorem dX4_faultOf_1 : decode cX4_faultOf 1 = .ok (.istore_n 1, 1) := by decide +kernel
theorem dX4_faultOf_2 : decode cX4_faultOf 2 = .ok (.iload_n 1, 1) := by decide +kernel
theorem dX4_faultOf_3 : decode cX4_faultOf 3 = .ok (.aload_n 0, 1) := by decide +kernel
theorem dX4_faultOf_4 : decode cX4_faultOf 4 = .ok (.getfield 65, 3) := by decide +kernel
theorem dX4_faultOf_7 : decode cX4_faultOf 7 = .ok (.if_icmp .ge 17, 3) := by decide +kernel
theorem dX4_faultOf_10 : decode cX4_faultOf 10 = .ok (.aload_n 0, 1) := by decide +kernel
theorem dX4_faultOf_11 : decode cX4_faultOf 11 = .ok (.iload_n 1, 1) := by decide +kernel
theorem dX4_faultOf_12 : decode cX4_faultOf 12 = .ok (.invokevirtual 78, 3) := by decide +kernel
theorem dX4_faultOf_15 : decode cX4_faultOf 15 = .ok (.ifCond .eq 9, 3) := by decide +kernel
theorem dX4_faultOf_18 : decode cX4_faultOf 18 = .ok (.iinc 1 1, 3) := by decide +kernel
theorem dX4_faultOf_21 : decode cX4_faultOf 21 = .ok (.goto (-19), 3) := by decide +kernel
theorem dX4_faultOf_24 : decode cX4_faultOf 24 = .ok (.iload_n 1, 1) := by decide +kernel
theorem dX4_faultOf_25 : decode cX4_faultOf 25 = .ok (.ireturn, 1) := by decide +kernel
theorem dX4_fault_0 : decode cX4_fault 0 = .ok (.aload_n 0, 1) := by decide +kernel
theorem dX4_fault_1 : decode cX4_fault 1 = .ok (.invokevirtual 82, 3) := by decide +kernel
theorem dX4_fault_4 : decode cX4_fault 4 = .ok (.ireturn, 1) := by decide +kernel
theorem dX4_routine_0 : decode cX4_routine 0 = .ok (.aload_n 0, 1) := by decide +kernel
theorem dX4_routine_1 : decode cX4_routine 1 = .ok (.getfield 65, 3) := by decide +kernel
theorem dX4_routine_4 : decode cX4_routine 4 = .ok (.iconst 5, 1) := by decide +kernel
theorem dX4_routine_5 : decode cX4_routine 5 = .ok (.if_icmp .lt 24, 3) := by decide +kernel
theorem dX4_routine_8 : decode cX4_routine 8 = .ok (.aload_n 0, 1) := by decide +kernel
theorem dX4_routine_9 : decode cX4_routine 9 = .ok (.getfield 65, 3) := by decide +kernel
theorem dX4_routine_12 : decode cX4_routine 12 = .ok (.iconst 3, 1) := by decide +kernel
theorem dX4_routine_13 : decode cX4_routine 13 = .ok (.irem, 1) := by decide +kernel
theorem dX4_routine_14 : decode cX4_routine 14 = .ok (.iconst 2, 1) := by decide +kernel
theorem dX4_routine_15 : decode cX4_routine 15 = .ok (.if_icmp .ne 14, 3) := by decide +kernel
theorem dX4_routine_18 : decode cX4_routine 18 = .ok (.aload_n 0, 1) := by decide +kernel
theorem dX4_routine_19 : decode cX4_routine 19 = .ok (.invokevirtual 82, 3) := by decide +kernel
theorem dX4_routine_22 : decode cX4_routine 22 = .ok (.aload_n 0, 1) := by decide +kernel
theorem dX4_routine_23 : decode cX4_routine 23 = .ok (.getfield 65, 3) := by decide +kernel
theorem dX4_routine_26 : decode cX4_routine 26 = .ok (.if_icmp .ge 6, 3) := by decide +kernel
theorem dX4_routine_29 : decode cX4_routine 29 = .ok (.bipush (-103), 2) := by decide +kernel
theorem dX4_routine_31 : decode cX4_routine 31 = .ok (.ireturn, 1) := by decide +kernel
theorem dX4_routine_32 : decode cX4_routine 32 = .ok (.aload_n 0, 1) := by decide +kernel
theorem dX4_routine_33 : decode cX4_routine 33 = .ok (.bipush 10, 2) := by decide +kernel
theorem dX4_routine_35 : decode cX4_routine 35 = .ok (.aload_n 0, 1) := by decide +kernel
theorem dX4_routine_36 : decode cX4_routine 36 = .ok (.getfield 7, 3) := by decide +kernel
theorem dX4_routine_39 : decode cX4_routine 39 = .ok (.iconst 0, 1) := by decide +kernel
theorem dX4_routine_40 : decode cX4_routine 40 = .ok (.iaload, 1) := by decide +kernel
theorem dX4_routine_41 : decode cX4_routine 41 = .ok (.bipush 48, 2) := by decide +kernel
theorem dX4_routine_43 : decode cX4_routine 43 = .ok (.isub, 1) := by decide +kernel
theorem dX4_routine_44 : decode cX4_routine 44 = .ok (.imul, 1) := by decide +kernel
theorem dX4_routine_45 : decode cX4_routine 45 = .ok (.aload_n 0, 1) := by decide +kernel
theorem dX4_routine_46 : decode cX4_routine 46 = .ok (.getfield 7, 3) := by decide +kernel
theorem dX4_routine_49 : decode cX4_routine 49 = .ok (.iconst 1, 1) := by decide +kernel
theorem dX4_routine_50 : decode cX4_routine 50 = .ok (.iaload, 1) := by decide +kernel
theorem dX4_routine_51 : decode cX4_routine 51 = .ok (.iadd, 1) := by decide +kernel
theorem dX4_routine_52 : decode cX4_routine 52 = .ok (.bipush 48, 2) := by decide +kernel
theorem dX4_routine_54 : decode cX4_routine 54 = .ok (.isub, 1) := by decide +kernel
theorem dX4_routine_55 : decode cX4_routine 55 = .ok (.putfield 86, 3) := by decide +kernel
theorem dX4_routine_58 : decode cX4_routine 58 = .ok (.aload_n 0, 1) := by decide +kernel
theorem dX4_routine_59 : decode cX4_routine 59 = .ok (.aload_n 0, 1) := by decide +kernel
theorem dX4_routine_60 : decode cX4_routine 60 = .ok (.getfield 65, 3) := by decide +kernel
theorem dX4_routine_63 : decode cX4_routine 63 = .ok (.iconst 2, 1) := by decide +kernel
theorem dX4_routine_64 : decode cX4_routine 64 = .ok (.isub, 1) := by decide +kernel
theorem dX4_routine_65 : decode cX4_routine 65 = .ok (.iconst 3, 1) := by decide +kernel
theorem dX4_routine_66 : decode cX4_routine 66 = .ok (.idiv, 1) := by decide +kernel
theorem dX4_routine_67 : decode cX4_routine 67 = .ok (.putfield 89, 3) := by decide +kernel
theorem dX4_routine_70 : decode cX4_routine 70 = .ok (.iconst 0, 1) := by decide +kernel
theorem dX4_routine_71 : decode cX4_routine 71 = .ok (.istore_n 1, 1) := by decide +kernel
theorem dX4_routine_72 : decode cX4_routine 72 = .ok (.iload_n 1, 1) := by decide +kernel
theorem dX4_routine_73 : decode cX4_routine 73 = .ok (.aload_n 0, 1) := by decide +kernel
theorem dX4_routine_74 : decode cX4_routine 74 = .ok (.getfield 89, 3) := by decide +kernel
theorem dX4_routine_77 : decode cX4_routine 77 = .ok (.if_icmp .ge 47, 3) := by decide +kernel
theorem dX4_routine_80 : decode cX4_routine 80 = .ok (.aload_n 0, 1) := by decide +kernel
theorem dX4_routine_81 : decode cX4_routine 81 = .ok (.getfield 13, 3) := by decide +kernel
theorem dX4_routine_84 : decode cX4_routine 84 = .ok (.iload_n 1, 1) := by decide +kernel
theorem dX4_routine_85 : decode cX4_routine 85 = .ok (.aload_n 0, 1) := by decide +kernel
theorem dX4_routine_86 : decode cX4_routine 86 = .ok (.getfield 7, 3) := by decide +kernel
theorem dX4_routine_89 : decode cX4_routine 89 = .ok (.iconst 3, 1) := by decide +kernel
theorem dX4_routine_90 : decode cX4_routine 90 = .ok (.iconst 3, 1) := by decide +kernel
theorem dX4_routine_91 : decode cX4_routine 91 = .ok (.iload_n 1, 1) := by decide +kernel
theorem dX4_routine_92 : decode cX4_routine 92 = .ok (.imul, 1) := by decide +kernel
theorem dX4_routine_93 : decode cX4_routine 93 = .ok (.iadd, 1) := by decide +kernel
theorem dX4_routine_94 : decode cX4_routine 94 = .ok (.iaload, 1) := by decide +kernel
theorem dX4_routine_95 : decode cX4_routine 95 = .ok (.invokestatic 74, 3) := by decide +kernel
theorem dX4_routine_98 : decode cX4_routine 98 = .ok (.iastore, 1) := by decide +kernel
theorem dX4_routine_99 : decode cX4_routine 99 = .ok (.aload_n 0, 1) := by decide +kernel
theorem dX4_routine_100 : decode cX4_routine 100 = .ok (.getfield 16, 3) := by decide +kernel
theorem dX4_routine_103 : decode cX4_routine 103 = .ok (.iload_n 1, 1) := by decide +kernel
theorem dX4_routine_104 : decode cX4_routine 104 = .ok (.aload_n 0, 1) := by decide +kernel
theorem dX4_routine_105 : decode cX4_routine 105 = .ok (.getfield 7, 3) := by decide +kernel
theorem dX4_routine_108 : decode cX4_routine 108 = .ok (.iconst 4, 1) := by decide +kernel
theorem dX4_routine_109 : decode cX4_routine 109 = .ok (.iconst 3, 1) := by decide +kernel
theorem dX4_routine_110 : decode cX4_routine 110 = .ok (.iload_n 1, 1) := by decide +kernel
theorem dX4_routine_111 : decode cX4_routine 111 = .ok (.imul, 1) := by decide +kernel
theorem dX4_routine_112 : decode cX4_routine 112 = .ok (.iadd, 1) := by decide +kernel
theorem dX4_routine_113 : decode cX4_routine 113 = .ok (.iaload, 1) := by decide +kernel
theorem dX4_routine_114 : decode cX4_routine 114 = .ok (.bipush 48, 2) := by decide +kernel
theorem dX4_routine_116 : decode cX4_routine 116 = .ok (.isub, 1) := by decide +kernel
theorem dX4_routine_117 : decode cX4_routine 117 = .ok (.iastore, 1) := by decide +kernel
theorem dX4_routine_118 : decode cX4_routine 118 = .ok (.iinc 1 1, 3) := by decide +kernel
theorem dX4_routine_121 : decode cX4_routine 121 = .ok (.goto (-49), 3) := by decide +kernel
theorem dX4_routine_124 : decode cX4_routine 124 = .ok (.aload_n 0, 1) := by decide +kernel
theorem dX4_routine_125 : decode cX4_routine 125 = .ok (.invokevirtual 92, 3) := by decide +kernel
theorem dX4_routine_128 : decode cX4_routine 128 = .ok (.aload_n 0, 1) := by decide +kernel
theorem dX4_routine_129 : decode cX4_routine 129 = .ok (.iconst 0, 1) := by decide +kernel
theorem dX4_routine_130 : decode cX4_routine 130 = .ok (.putfield 95, 3) := by decide +kernel
theorem dX4_routine_133 : decode cX4_routine 133 = .ok (.aload_n 0, 1) := by decide +kernel
theorem dX4_routine_134 : decode cX4_routine 134 = .ok (.iconst 0, 1) := by decide +kernel
theorem dX4_routine_135 : decode cX4_routine 135 = .ok (.putfield 98, 3) := by decide +kernel
theorem dX4_routine_138 : decode cX4_routine 138 = .ok (.aload_n 0, 1) := by decide +kernel
theorem dX4_routine_139 : decode cX4_routine 139 = .ok (.dup, 1) := by decide +kernel
theorem dX4_routine_140 : decode cX4_routine 140 = .ok (.getfield 101, 3) := by decide +kernel
theorem dX4_routine_143 : decode cX4_routine 143 = .ok (.iconst 1, 1) := by decide +kernel
theorem dX4_routine_144 : decode cX4_routine 144 = .ok (.iadd, 1) := by decide +kernel
theorem dX4_routine_145 : decode cX4_routine 145 = .ok (.putfield 101, 3) := by decide +kernel
theorem dX4_routine_148 : decode cX4_routine 148 = .ok (.aload_n 0, 1) := by decide +kernel
theorem dX4_routine_149 : decode cX4_routine 149 = .ok (.iconst 0, 1) := by decide +kernel
theorem dX4_routine_150 : decode cX4_routine 150 = .ok (.putfield 65, 3) := by decide +kernel
theorem dX4_routine_153 : decode cX4_routine 153 = .ok (.aload_n 0, 1) := by decide +kernel
theorem dX4_routine_154 : decode cX4_routine 154 = .ok (.getfield 89, 3) := by decide +kernel
theorem dX4_routine_157 : decode cX4_routine 157 = .ok (.ireturn, 1) := by decide +kernel
theorem dX4_layFirst_0 : decode cX4_layFirst 0 = .ok (.iconst 0, 1) := by decide +kernel
theorem dX4_layFirst_1 : decode cX4_layFirst 1 = .ok (.istore_n 1, 1) := by decide +kernel
theorem dX4_layFirst_2 : decode cX4_layFirst 2 = .ok (.iload_n 1, 1) := by decide +kernel
theorem dX4_layFirst_3 : decode cX4_layFirst 3 = .ok (.aload_n 0, 1) := by decide +kernel
theorem dX4_layFirst_4 : decode cX4_layFirst 4 = .ok (.getfield 86, 3) := by decide +kernel
theorem dX4_layFirst_7 : decode cX4_layFirst 7 = .ok (.if_icmp .ge 16, 3) := by decide +kernel
theorem dX4_layFirst_10 : decode cX4_layFirst 10 = .ok (.aload_n 0, 1) := by decide +kernel
theorem dX4_layFirst_11 : decode cX4_layFirst 11 = .ok (.getfield 19, 3) := by decide +kernel
theorem dX4_layFirst_14 : decode cX4_layFirst 14 = .ok (.iload_n 1, 1) := by decide +kernel
theorem dX4_layFirst_15 : decode cX4_layFirst 15 = .ok (.iload_n 1, 1) := by decide +kernel
theorem dX4_layFirst_16 : decode cX4_layFirst 16 = .ok (.iastore, 1) := by decide +kernel
theorem dX4_layFirst_17 : decode cX4_layFirst 17 = .ok (.iinc 1 1, 3) := by decide +kernel
theorem dX4_layFirst_20 : decode cX4_layFirst 20 = .ok (.goto (-18), 3) := by decide +kernel
theorem dX4_layFirst_23 : decode cX4_layFirst 23 = .ok (.return_, 1) := by decide +kernel
theorem dX4_lacks_0 : decode cX4_lacks 0 = .ok (.aload_n 0, 1) := by decide +kernel
theorem dX4_lacks_1 : decode cX4_lacks 1 = .ok (.getfield 89, 3) := by decide +kernel
theorem dX4_lacks_4 : decode cX4_lacks 4 = .ok (.ifCond .ne 7, 3) := by decide +kernel
theorem dX4_lacks_7 : decode cX4_lacks 7 = .ok (.iconst 1, 1) := by decide +kernel
theorem dX4_lacks_8 : decode cX4_lacks 8 = .ok (.goto 4, 3) := by decide +kernel
theorem dX4_lacks_11 : decode cX4_lacks 11 = .ok (.iconst 0, 1) := by decide +kernel
theorem dX4_lacks_12 : decode cX4_lacks 12 = .ok (.ireturn, 1) := by decide +kernel
theorem dX4_isStep_0 : decode cX4_isStep 0 = .ok (.iload_n 1, 1) := by decide +kernel
theorem dX4_isStep_1 : decode cX4_isStep 1 = .ok (.i2l, 1) := by decide +kernel
theorem dX4_isStep_2 : decode cX4_isStep 2 = .ok (.lconst 0, 1) := by decide +kernel
theorem dX4_isStep_3 : decode cX4_isStep 3 = .ok (.aload_n 0, 1) := by decide +kernel
theorem dX4_isStep_4 : decode cX4_isStep 4 = .ok (.getfield 89, 3) := by decide +kernel
theorem dX4_isStep_7 : decode cX4_isStep 7 = .ok (.iconst 1, 1) := by decide +kernel
theorem dX4_isStep_8 : decode cX4_isStep 8 = .ok (.isub, 1) := by decide +kernel
theorem dX4_isStep_9 : decode cX4_isStep 9 = .ok (.i2l, 1) := by decide +kernel
theorem dX4_isStep_10 : decode cX4_isStep 10 = .ok (.invokestatic 61, 3) := by decide +kernel
theorem dX4_isStep_13 : decode cX4_isStep 13 = .ok (.ireturn, 1) := by decide +kernel
theorem dX4_isPlace_0 : decode cX4_isPlace 0 = .ok (.iload_n 1, 1) := by decide +kernel
theorem dX4_isPlace_1 : decode cX4_isPlace 1 = .ok (.i2l, 1) := by decide +kernel
theorem dX4_isPlace_2 : decode cX4_isPlace 2 = .ok (.lconst 0, 1) := by decide +kernel
theorem dX4_isPlace_3 : decode cX4_isPlace 3 = .ok (.aload_n 0, 1) := by decide +kernel
theorem dX4_isPlace_4 : decode cX4_isPlace 4 = .ok (.getfield 86, 3) := by decide +kernel
theorem dX4_isPlace_7 : decode cX4_isPlace 7 = .ok (.iconst 1, 1) := by decide +kernel
theorem dX4_isPlace_8 : decode cX4_isPlace 8 = .ok (.isub, 1) := by decide +kernel
theorem dX4_isPlace_9 : decode cX4_isPlace 9 = .ok (.i2l, 1) := by decide +kernel
theorem dX4_isPlace_10 : decode cX4_isPlace 10 = .ok (.invokestatic 61, 3) := by decide +kernel
theorem dX4_isPlace_13 : decode cX4_isPlace 13 = .ok (.ireturn, 1) := by decide +kernel
theorem dX4_byStep_0 : decode cX4_byStep 0 = .ok (.iload_n 1, 1) := by decide +kernel
theorem dX4_byStep_1 : decode cX4_byStep 1 = .ok (.aload_n 0, 1) := by decide +kernel
theorem dX4_byStep_2 : decode cX4_byStep 2 = .ok (.getfield 86, 3) := by decide +kernel
theorem dX4_byStep_5 : decode cX4_byStep 5 = .ok (.if_icmp .ge 7, 3) := by decide +kernel
theorem dX4_byStep_8 : decode cX4_byStep 8 = .ok (.iload_n 1, 1) := by decide +kernel
theorem dX4_byStep_9 : decode cX4_byStep 9 = .ok (.goto 9, 3) := by decide +kernel
theorem dX4_byStep_12 : decode cX4_byStep 12 = .ok (.aload_n 0, 1) := by decide +kernel
theorem dX4_byStep_13 : decode cX4_byStep 13 = .ok (.getfield 86, 3) := by decide +kernel
theorem dX4_byStep_16 : decode cX4_byStep 16 = .ok (.iconst 1, 1) := by decide +kernel
theorem dX4_byStep_17 : decode cX4_byStep 17 = .ok (.isub, 1) := by decide +kernel
theorem dX4_byStep_18 : decode cX4_byStep 18 = .ok (.istore_n 3, 1) := by decide +kernel
theorem dX4_byStep_19 : decode cX4_byStep 19 = .ok (.iload_n 2, 1) := by decide +kernel
theorem dX4_byStep_20 : decode cX4_byStep 20 = .ok (.ifCond .ne 7, 3) := by decide +kernel
theorem dX4_byStep_23 : decode cX4_byStep 23 = .ok (.iload_n 3, 1) := by decide +kernel
theorem dX4_byStep_24 : decode cX4_byStep 24 = .ok (.goto 15, 3) := by decide +kernel
theorem dX4_byStep_27 : decode cX4_byStep 27 = .ok (.iload_n 2, 1) := by decide +kernel
theorem dX4_byStep_28 : decode cX4_byStep 28 = .ok (.iload_n 3, 1) := by decide +kernel
theorem dX4_byStep_29 : decode cX4_byStep 29 = .ok (.if_icmp .gt 9, 3) := by decide +kernel
theorem dX4_byStep_32 : decode cX4_byStep 32 = .ok (.iload_n 2, 1) := by decide +kernel
theorem dX4_byStep_33 : decode cX4_byStep 33 = .ok (.iconst 1, 1) := by decide +kernel
theorem dX4_byStep_34 : decode cX4_byStep 34 = .ok (.isub, 1) := by decide +kernel
theorem dX4_byStep_35 : decode cX4_byStep 35 = .ok (.goto 4, 3) := by decide +kernel
theorem dX4_byStep_38 : decode cX4_byStep 38 = .ok (.iload_n 2, 1) := by decide +kernel
theorem dX4_byStep_39 : decode cX4_byStep 39 = .ok (.ireturn, 1) := by decide +kernel
theorem dX4_pileOf_0 : decode cX4_pileOf 0 = .ok (.aload_n 0, 1) := by decide +kernel
theorem dX4_pileOf_1 : decode cX4_pileOf 1 = .ok (.getfield 86, 3) := by decide +kernel
theorem dX4_pileOf_4 : decode cX4_pileOf 4 = .ok (.iload_n 2, 1) := by decide +kernel
theorem dX4_pileOf_5 : decode cX4_pileOf 5 = .ok (.isub, 1) := by decide +kernel
theorem dX4_pileOf_6 : decode cX4_pileOf 6 = .ok (.iload_n 1, 1) := by decide +kernel
theorem dX4_pileOf_7 : decode cX4_pileOf 7 = .ok (.iadd, 1) := by decide +kernel
theorem dX4_pileOf_8 : decode cX4_pileOf 8 = .ok (.iconst 1, 1) := by decide +kernel
theorem dX4_pileOf_9 : decode cX4_pileOf 9 = .ok (.isub, 1) := by decide +kernel
theorem dX4_pileOf_10 : decode cX4_pileOf 10 = .ok (.iload_n 1, 1) := by decide +kernel
theorem dX4_pileOf_11 : decode cX4_pileOf 11 = .ok (.idiv, 1) := by decide +kernel
theorem dX4_pileOf_12 : decode cX4_pileOf 12 = .ok (.ireturn, 1) := by decide +kernel
theorem dX4_byDeal_0 : decode cX4_byDeal 0 = .ok (.iload_n 1, 1) := by decide +kernel
theorem dX4_byDeal_1 : decode cX4_byDeal 1 = .ok (.ifCond .ne 7, 3) := by decide +kernel
theorem dX4_byDeal_4 : decode cX4_byDeal 4 = .ok (.iconst 1, 1) := by decide +kernel
theorem dX4_byDeal_5 : decode cX4_byDeal 5 = .ok (.goto 19, 3) := by decide +kernel
theorem dX4_byDeal_8 : decode cX4_byDeal 8 = .ok (.iload_n 1, 1) := by decide +kernel
theorem dX4_byDeal_9 : decode cX4_byDeal 9 = .ok (.aload_n 0, 1) := by decide +kernel
end
section
theorem dX4_byDeal_10 : decode cX4_byDeal 10 = .ok (.getfield 86, 3) := by decide +kernel
theorem dX4_byDeal_13 : decode cX4_byDeal 13 = .ok (.if_icmp .le 10, 3) := by decide +kernel
theorem dX4_byDeal_16 : decode cX4_byDeal 16 = .ok (.aload_n 0, 1) := by decide +kernel
theorem dX4_byDeal_17 : decode cX4_byDeal 17 = .ok (.getfield 86, 3) := by decide +kernel
theorem dX4_byDeal_20 : decode cX4_byDeal 20 = .ok (.goto 4, 3) := by decide +kernel
theorem dX4_byDeal_23 : decode cX4_byDeal 23 = .ok (.iload_n 1, 1) := by decide +kernel
theorem dX4_byDeal_24 : decode cX4_byDeal 24 = .ok (.istore 4, 2) := by decide +kernel
theorem dX4_byDeal_26 : decode cX4_byDeal 26 = .ok (.iload_n 2, 1) := by decide +kernel
theorem dX4_byDeal_27 : decode cX4_byDeal 27 = .ok (.iload 4, 2) := by decide +kernel
theorem dX4_byDeal_29 : decode cX4_byDeal 29 = .ok (.irem, 1) := by decide +kernel
theorem dX4_byDeal_30 : decode cX4_byDeal 30 = .ok (.istore 5, 2) := by decide +kernel
theorem dX4_byDeal_32 : decode cX4_byDeal 32 = .ok (.aload_n 0, 1) := by decide +kernel
theorem dX4_byDeal_33 : decode cX4_byDeal 33 = .ok (.iload 4, 2) := by decide +kernel
theorem dX4_byDeal_35 : decode cX4_byDeal 35 = .ok (.iload 5, 2) := by decide +kernel
theorem dX4_byDeal_37 : decode cX4_byDeal 37 = .ok (.invokevirtual 104, 3) := by decide +kernel
theorem dX4_byDeal_40 : decode cX4_byDeal 40 = .ok (.iconst 1, 1) := by decide +kernel
theorem dX4_byDeal_41 : decode cX4_byDeal 41 = .ok (.isub, 1) := by decide +kernel
theorem dX4_byDeal_42 : decode cX4_byDeal 42 = .ok (.iload_n 2, 1) := by decide +kernel
theorem dX4_byDeal_43 : decode cX4_byDeal 43 = .ok (.iload 4, 2) := by decide +kernel
theorem dX4_byDeal_45 : decode cX4_byDeal 45 = .ok (.idiv, 1) := by decide +kernel
theorem dX4_byDeal_46 : decode cX4_byDeal 46 = .ok (.isub, 1) := by decide +kernel
theorem dX4_byDeal_47 : decode cX4_byDeal 47 = .ok (.istore 6, 2) := by decide +kernel
theorem dX4_byDeal_49 : decode cX4_byDeal 49 = .ok (.iconst 0, 1) := by decide +kernel
theorem dX4_byDeal_50 : decode cX4_byDeal 50 = .ok (.istore 7, 2) := by decide +kernel
theorem dX4_byDeal_52 : decode cX4_byDeal 52 = .ok (.iload 7, 2) := by decide +kernel
theorem dX4_byDeal_54 : decode cX4_byDeal 54 = .ok (.iload 4, 2) := by decide +kernel
theorem dX4_byDeal_56 : decode cX4_byDeal 56 = .ok (.if_icmp .ge 64, 3) := by decide +kernel
theorem dX4_byDeal_59 : decode cX4_byDeal 59 = .ok (.iload_n 3, 1) := by decide +kernel
theorem dX4_byDeal_60 : decode cX4_byDeal 60 = .ok (.ifCond .eq 18, 3) := by decide +kernel
theorem dX4_byDeal_63 : decode cX4_byDeal 63 = .ok (.iload 7, 2) := by decide +kernel
theorem dX4_byDeal_65 : decode cX4_byDeal 65 = .ok (.iload 5, 2) := by decide +kernel
theorem dX4_byDeal_67 : decode cX4_byDeal 67 = .ok (.if_icmp .ge 7, 3) := by decide +kernel
theorem dX4_byDeal_70 : decode cX4_byDeal 70 = .ok (.iconst 1, 1) := by decide +kernel
theorem dX4_byDeal_71 : decode cX4_byDeal 71 = .ok (.goto 19, 3) := by decide +kernel
theorem dX4_byDeal_74 : decode cX4_byDeal 74 = .ok (.iconst 0, 1) := by decide +kernel
theorem dX4_byDeal_75 : decode cX4_byDeal 75 = .ok (.goto 15, 3) := by decide +kernel
theorem dX4_byDeal_78 : decode cX4_byDeal 78 = .ok (.iload 7, 2) := by decide +kernel
theorem dX4_byDeal_80 : decode cX4_byDeal 80 = .ok (.iload 5, 2) := by decide +kernel
theorem dX4_byDeal_82 : decode cX4_byDeal 82 = .ok (.if_icmp .le 7, 3) := by decide +kernel
theorem dX4_byDeal_85 : decode cX4_byDeal 85 = .ok (.iconst 1, 1) := by decide +kernel
theorem dX4_byDeal_86 : decode cX4_byDeal 86 = .ok (.goto 4, 3) := by decide +kernel
theorem dX4_byDeal_89 : decode cX4_byDeal 89 = .ok (.iconst 0, 1) := by decide +kernel
theorem dX4_byDeal_90 : decode cX4_byDeal 90 = .ok (.istore 8, 2) := by decide +kernel
theorem dX4_byDeal_92 : decode cX4_byDeal 92 = .ok (.iload 6, 2) := by decide +kernel
theorem dX4_byDeal_94 : decode cX4_byDeal 94 = .ok (.iload 8, 2) := by decide +kernel
theorem dX4_byDeal_96 : decode cX4_byDeal 96 = .ok (.ifCond .eq 14, 3) := by decide +kernel
theorem dX4_byDeal_99 : decode cX4_byDeal 99 = .ok (.aload_n 0, 1) := by decide +kernel
theorem dX4_byDeal_100 : decode cX4_byDeal 100 = .ok (.iload 4, 2) := by decide +kernel
theorem dX4_byDeal_102 : decode cX4_byDeal 102 = .ok (.iload 7, 2) := by decide +kernel
theorem dX4_byDeal_104 : decode cX4_byDeal 104 = .ok (.invokevirtual 104, 3) := by decide +kernel
theorem dX4_byDeal_107 : decode cX4_byDeal 107 = .ok (.goto 4, 3) := by decide +kernel
theorem dX4_byDeal_110 : decode cX4_byDeal 110 = .ok (.iconst 0, 1) := by decide +kernel
theorem dX4_byDeal_111 : decode cX4_byDeal 111 = .ok (.iadd, 1) := by decide +kernel
theorem dX4_byDeal_112 : decode cX4_byDeal 112 = .ok (.istore 6, 2) := by decide +kernel
theorem dX4_byDeal_114 : decode cX4_byDeal 114 = .ok (.iinc 7 1, 3) := by decide +kernel
theorem dX4_byDeal_117 : decode cX4_byDeal 117 = .ok (.goto (-65), 3) := by decide +kernel
theorem dX4_byDeal_120 : decode cX4_byDeal 120 = .ok (.iload 6, 2) := by decide +kernel
theorem dX4_byDeal_122 : decode cX4_byDeal 122 = .ok (.ireturn, 1) := by decide +kernel
theorem dX4_byTurn_0 : decode cX4_byTurn 0 = .ok (.iload_n 1, 1) := by decide +kernel
theorem dX4_byTurn_1 : decode cX4_byTurn 1 = .ok (.aload_n 0, 1) := by decide +kernel
theorem dX4_byTurn_2 : decode cX4_byTurn 2 = .ok (.getfield 86, 3) := by decide +kernel
theorem dX4_byTurn_5 : decode cX4_byTurn 5 = .ok (.if_icmp .ge 7, 3) := by decide +kernel
theorem dX4_byTurn_8 : decode cX4_byTurn 8 = .ok (.iload_n 1, 1) := by decide +kernel
theorem dX4_byTurn_9 : decode cX4_byTurn 9 = .ok (.goto 7, 3) := by decide +kernel
theorem dX4_byTurn_12 : decode cX4_byTurn 12 = .ok (.aload_n 0, 1) := by decide +kernel
theorem dX4_byTurn_13 : decode cX4_byTurn 13 = .ok (.getfield 86, 3) := by decide +kernel
theorem dX4_byTurn_16 : decode cX4_byTurn 16 = .ok (.istore_n 3, 1) := by decide +kernel
theorem dX4_byTurn_17 : decode cX4_byTurn 17 = .ok (.iload_n 2, 1) := by decide +kernel
theorem dX4_byTurn_18 : decode cX4_byTurn 18 = .ok (.iload_n 3, 1) := by decide +kernel
theorem dX4_byTurn_19 : decode cX4_byTurn 19 = .ok (.if_icmp .ge 11, 3) := by decide +kernel
theorem dX4_byTurn_22 : decode cX4_byTurn 22 = .ok (.iload_n 3, 1) := by decide +kernel
theorem dX4_byTurn_23 : decode cX4_byTurn 23 = .ok (.iconst 1, 1) := by decide +kernel
theorem dX4_byTurn_24 : decode cX4_byTurn 24 = .ok (.isub, 1) := by decide +kernel
theorem dX4_byTurn_25 : decode cX4_byTurn 25 = .ok (.iload_n 2, 1) := by decide +kernel
theorem dX4_byTurn_26 : decode cX4_byTurn 26 = .ok (.isub, 1) := by decide +kernel
theorem dX4_byTurn_27 : decode cX4_byTurn 27 = .ok (.goto 4, 3) := by decide +kernel
theorem dX4_byTurn_30 : decode cX4_byTurn 30 = .ok (.iload_n 2, 1) := by decide +kernel
theorem dX4_byTurn_31 : decode cX4_byTurn 31 = .ok (.ireturn, 1) := by decide +kernel
theorem dX4_goesBy_0 : decode cX4_goesBy 0 = .ok (.iload_n 1, 1) := by decide +kernel
theorem dX4_goesBy_1 : decode cX4_goesBy 1 = .ok (.tableswitch 74 1 4 #[31, 50, 67, 50], 31) := by decide +kernel
theorem dX4_goesBy_32 : decode cX4_goesBy 32 = .ok (.iload_n 3, 1) := by decide +kernel
theorem dX4_goesBy_33 : decode cX4_goesBy 33 = .ok (.aload_n 0, 1) := by decide +kernel
theorem dX4_goesBy_34 : decode cX4_goesBy 34 = .ok (.getfield 86, 3) := by decide +kernel
theorem dX4_goesBy_37 : decode cX4_goesBy 37 = .ok (.iadd, 1) := by decide +kernel
theorem dX4_goesBy_38 : decode cX4_goesBy 38 = .ok (.iload_n 2, 1) := by decide +kernel
theorem dX4_goesBy_39 : decode cX4_goesBy 39 = .ok (.aload_n 0, 1) := by decide +kernel
theorem dX4_goesBy_40 : decode cX4_goesBy 40 = .ok (.getfield 86, 3) := by decide +kernel
theorem dX4_goesBy_43 : decode cX4_goesBy 43 = .ok (.irem, 1) := by decide +kernel
theorem dX4_goesBy_44 : decode cX4_goesBy 44 = .ok (.isub, 1) := by decide +kernel
theorem dX4_goesBy_45 : decode cX4_goesBy 45 = .ok (.aload_n 0, 1) := by decide +kernel
theorem dX4_goesBy_46 : decode cX4_goesBy 46 = .ok (.getfield 86, 3) := by decide +kernel
theorem dX4_goesBy_49 : decode cX4_goesBy 49 = .ok (.irem, 1) := by decide +kernel
theorem dX4_goesBy_50 : decode cX4_goesBy 50 = .ok (.ireturn, 1) := by decide +kernel
theorem dX4_goesBy_51 : decode cX4_goesBy 51 = .ok (.aload_n 0, 1) := by decide +kernel
theorem dX4_goesBy_52 : decode cX4_goesBy 52 = .ok (.iload_n 2, 1) := by decide +kernel
theorem dX4_goesBy_53 : decode cX4_goesBy 53 = .ok (.iload_n 3, 1) := by decide +kernel
theorem dX4_goesBy_54 : decode cX4_goesBy 54 = .ok (.iload_n 1, 1) := by decide +kernel
theorem dX4_goesBy_55 : decode cX4_goesBy 55 = .ok (.iconst 4, 1) := by decide +kernel
theorem dX4_goesBy_56 : decode cX4_goesBy 56 = .ok (.if_icmp .ne 7, 3) := by decide +kernel
theorem dX4_goesBy_59 : decode cX4_goesBy 59 = .ok (.iconst 1, 1) := by decide +kernel
theorem dX4_goesBy_60 : decode cX4_goesBy 60 = .ok (.goto 4, 3) := by decide +kernel
theorem dX4_goesBy_63 : decode cX4_goesBy 63 = .ok (.iconst 0, 1) := by decide +kernel
theorem dX4_goesBy_64 : decode cX4_goesBy 64 = .ok (.invokevirtual 108, 3) := by decide +kernel
theorem dX4_goesBy_67 : decode cX4_goesBy 67 = .ok (.ireturn, 1) := by decide +kernel
theorem dX4_goesBy_68 : decode cX4_goesBy 68 = .ok (.aload_n 0, 1) := by decide +kernel
theorem dX4_goesBy_69 : decode cX4_goesBy 69 = .ok (.iload_n 2, 1) := by decide +kernel
theorem dX4_goesBy_70 : decode cX4_goesBy 70 = .ok (.iload_n 3, 1) := by decide +kernel
theorem dX4_goesBy_71 : decode cX4_goesBy 71 = .ok (.invokevirtual 112, 3) := by decide +kernel
theorem dX4_goesBy_74 : decode cX4_goesBy 74 = .ok (.ireturn, 1) := by decide +kernel
theorem dX4_goesBy_75 : decode cX4_goesBy 75 = .ok (.aload_n 0, 1) := by decide +kernel
theorem dX4_goesBy_76 : decode cX4_goesBy 76 = .ok (.iload_n 2, 1) := by decide +kernel
theorem dX4_goesBy_77 : decode cX4_goesBy 77 = .ok (.iload_n 3, 1) := by decide +kernel
theorem dX4_goesBy_78 : decode cX4_goesBy 78 = .ok (.invokevirtual 115, 3) := by decide +kernel
theorem dX4_goesBy_81 : decode cX4_goesBy 81 = .ok (.ireturn, 1) := by decide +kernel
theorem dX4_goesOf_0 : decode cX4_goesOf 0 = .ok (.aload_n 0, 1) := by decide +kernel
theorem dX4_goesOf_1 : decode cX4_goesOf 1 = .ok (.aload_n 0, 1) := by decide +kernel
theorem dX4_goesOf_2 : decode cX4_goesOf 2 = .ok (.getfield 13, 3) := by decide +kernel
theorem dX4_goesOf_5 : decode cX4_goesOf 5 = .ok (.iload_n 1, 1) := by decide +kernel
theorem dX4_goesOf_6 : decode cX4_goesOf 6 = .ok (.iaload, 1) := by decide +kernel
theorem dX4_goesOf_7 : decode cX4_goesOf 7 = .ok (.aload_n 0, 1) := by decide +kernel
theorem dX4_goesOf_8 : decode cX4_goesOf 8 = .ok (.getfield 16, 3) := by decide +kernel
theorem dX4_goesOf_11 : decode cX4_goesOf 11 = .ok (.iload_n 1, 1) := by decide +kernel
theorem dX4_goesOf_12 : decode cX4_goesOf 12 = .ok (.iaload, 1) := by decide +kernel
theorem dX4_goesOf_13 : decode cX4_goesOf 13 = .ok (.iload_n 2, 1) := by decide +kernel
theorem dX4_goesOf_14 : decode cX4_goesOf 14 = .ok (.invokevirtual 118, 3) := by decide +kernel
theorem dX4_goesOf_17 : decode cX4_goesOf 17 = .ok (.ireturn, 1) := by decide +kernel
theorem dX4_goes_0 : decode cX4_goes 0 = .ok (.aload_n 0, 1) := by decide +kernel
theorem dX4_goes_1 : decode cX4_goes 1 = .ok (.iload_n 1, 1) := by decide +kernel
theorem dX4_goes_2 : decode cX4_goes 2 = .ok (.invokevirtual 122, 3) := by decide +kernel
theorem dX4_goes_5 : decode cX4_goes 5 = .ok (.ifCond .eq 20, 3) := by decide +kernel
theorem dX4_goes_8 : decode cX4_goes 8 = .ok (.aload_n 0, 1) := by decide +kernel
theorem dX4_goes_9 : decode cX4_goes 9 = .ok (.iload_n 2, 1) := by decide +kernel
theorem dX4_goes_10 : decode cX4_goes 10 = .ok (.invokevirtual 125, 3) := by decide +kernel
theorem dX4_goes_13 : decode cX4_goes 13 = .ok (.ifCond .eq 12, 3) := by decide +kernel
theorem dX4_goes_16 : decode cX4_goes 16 = .ok (.aload_n 0, 1) := by decide +kernel
theorem dX4_goes_17 : decode cX4_goes 17 = .ok (.iload_n 1, 1) := by decide +kernel
theorem dX4_goes_18 : decode cX4_goes 18 = .ok (.iload_n 2, 1) := by decide +kernel
theorem dX4_goes_19 : decode cX4_goes 19 = .ok (.invokevirtual 128, 3) := by decide +kernel
theorem dX4_goes_22 : decode cX4_goes 22 = .ok (.goto 5, 3) := by decide +kernel
theorem dX4_goes_25 : decode cX4_goes 25 = .ok (.bipush (-101), 2) := by decide +kernel
theorem dX4_goes_27 : decode cX4_goes 27 = .ok (.ireturn, 1) := by decide +kernel
theorem dX4_roundOf_0 : decode cX4_roundOf 0 = .ok (.iload_n 1, 1) := by decide +kernel
theorem dX4_roundOf_1 : decode cX4_roundOf 1 = .ok (.istore_n 2, 1) := by decide +kernel
theorem dX4_roundOf_2 : decode cX4_roundOf 2 = .ok (.iconst 0, 1) := by decide +kernel
theorem dX4_roundOf_3 : decode cX4_roundOf 3 = .ok (.istore_n 3, 1) := by decide +kernel
theorem dX4_roundOf_4 : decode cX4_roundOf 4 = .ok (.iload_n 3, 1) := by decide +kernel
theorem dX4_roundOf_5 : decode cX4_roundOf 5 = .ok (.aload_n 0, 1) := by decide +kernel
theorem dX4_roundOf_6 : decode cX4_roundOf 6 = .ok (.getfield 89, 3) := by decide +kernel
theorem dX4_roundOf_9 : decode cX4_roundOf 9 = .ok (.if_icmp .ge 16, 3) := by decide +kernel
theorem dX4_roundOf_12 : decode cX4_roundOf 12 = .ok (.aload_n 0, 1) := by decide +kernel
theorem dX4_roundOf_13 : decode cX4_roundOf 13 = .ok (.iload_n 3, 1) := by decide +kernel
theorem dX4_roundOf_14 : decode cX4_roundOf 14 = .ok (.iload_n 2, 1) := by decide +kernel
theorem dX4_roundOf_15 : decode cX4_roundOf 15 = .ok (.invokevirtual 128, 3) := by decide +kernel
theorem dX4_roundOf_18 : decode cX4_roundOf 18 = .ok (.istore_n 2, 1) := by decide +kernel
theorem dX4_roundOf_19 : decode cX4_roundOf 19 = .ok (.iinc 3 1, 3) := by decide +kernel
theorem dX4_roundOf_22 : decode cX4_roundOf 22 = .ok (.goto (-18), 3) := by decide +kernel
theorem dX4_roundOf_25 : decode cX4_roundOf 25 = .ok (.iload_n 2, 1) := by decide +kernel
theorem dX4_roundOf_26 : decode cX4_roundOf 26 = .ok (.ireturn, 1) := by decide +kernel
theorem dX4_round_0 : decode cX4_round 0 = .ok (.aload_n 0, 1) := by decide +kernel
theorem dX4_round_1 : decode cX4_round 1 = .ok (.iload_n 1, 1) := by decide +kernel
theorem dX4_round_2 : decode cX4_round 2 = .ok (.invokevirtual 125, 3) := by decide +kernel
theorem dX4_round_5 : decode cX4_round 5 = .ok (.ifCond .eq 11, 3) := by decide +kernel
theorem dX4_round_8 : decode cX4_round 8 = .ok (.aload_n 0, 1) := by decide +kernel
theorem dX4_round_9 : decode cX4_round 9 = .ok (.iload_n 1, 1) := by decide +kernel
theorem dX4_round_10 : decode cX4_round 10 = .ok (.invokevirtual 131, 3) := by decide +kernel
theorem dX4_round_13 : decode cX4_round 13 = .ok (.goto 5, 3) := by decide +kernel
theorem dX4_round_16 : decode cX4_round 16 = .ok (.bipush (-101), 2) := by decide +kernel
theorem dX4_round_18 : decode cX4_round 18 = .ok (.ireturn, 1) := by decide +kernel
theorem dX4_ringOf_0 : decode cX4_ringOf 0 = .ok (.iconst 1, 1) := by decide +kernel
theorem dX4_ringOf_1 : decode cX4_ringOf 1 = .ok (.istore_n 2, 1) := by decide +kernel
theorem dX4_ringOf_2 : decode cX4_ringOf 2 = .ok (.aload_n 0, 1) := by decide +kernel
theorem dX4_ringOf_3 : decode cX4_ringOf 3 = .ok (.getfield 22, 3) := by decide +kernel
theorem dX4_ringOf_6 : decode cX4_ringOf 6 = .ok (.iload_n 1, 1) := by decide +kernel
theorem dX4_ringOf_7 : decode cX4_ringOf 7 = .ok (.iaload, 1) := by decide +kernel
theorem dX4_ringOf_8 : decode cX4_ringOf 8 = .ok (.istore_n 3, 1) := by decide +kernel
theorem dX4_ringOf_9 : decode cX4_ringOf 9 = .ok (.iload_n 3, 1) := by decide +kernel
theorem dX4_ringOf_10 : decode cX4_ringOf 10 = .ok (.iload_n 1, 1) := by decide +kernel
theorem dX4_ringOf_11 : decode cX4_ringOf 11 = .ok (.if_icmp .eq 16, 3) := by decide +kernel
theorem dX4_ringOf_14 : decode cX4_ringOf 14 = .ok (.iinc 2 1, 3) := by decide +kernel
theorem dX4_ringOf_17 : decode cX4_ringOf 17 = .ok (.aload_n 0, 1) := by decide +kernel
theorem dX4_ringOf_18 : decode cX4_ringOf 18 = .ok (.getfield 22, 3) := by decide +kernel
theorem dX4_ringOf_21 : decode cX4_ringOf 21 = .ok (.iload_n 3, 1) := by decide +kernel
theorem dX4_ringOf_22 : decode cX4_ringOf 22 = .ok (.iaload, 1) := by decide +kernel
theorem dX4_ringOf_23 : decode cX4_ringOf 23 = .ok (.istore_n 3, 1) := by decide +kernel
theorem dX4_ringOf_24 : decode cX4_ringOf 24 = .ok (.goto (-15), 3) := by decide +kernel
theorem dX4_ringOf_27 : decode cX4_ringOf 27 = .ok (.iload_n 2, 1) := by decide +kernel
theorem dX4_ringOf_28 : decode cX4_ringOf 28 = .ok (.ireturn, 1) := by decide +kernel
theorem dX4_layRings_0 : decode cX4_layRings 0 = .ok (.aload_n 0, 1) := by decide +kernel
theorem dX4_layRings_1 : decode cX4_layRings 1 = .ok (.iconst 0, 1) := by decide +kernel
theorem dX4_layRings_2 : decode cX4_layRings 2 = .ok (.putfield 134, 3) := by decide +kernel
theorem dX4_layRings_5 : decode cX4_layRings 5 = .ok (.aload_n 0, 1) := by decide +kernel
theorem dX4_layRings_6 : decode cX4_layRings 6 = .ok (.iconst 0, 1) := by decide +kernel
theorem dX4_layRings_7 : decode cX4_layRings 7 = .ok (.putfield 137, 3) := by decide +kernel
theorem dX4_layRings_10 : decode cX4_layRings 10 = .ok (.aload_n 0, 1) := by decide +kernel
theorem dX4_layRings_11 : decode cX4_layRings 11 = .ok (.iconst 1, 1) := by decide +kernel
theorem dX4_layRings_12 : decode cX4_layRings 12 = .ok (.putfield 140, 3) := by decide +kernel
theorem dX4_layRings_15 : decode cX4_layRings 15 = .ok (.iconst 0, 1) := by decide +kernel
theorem dX4_layRings_16 : decode cX4_layRings 16 = .ok (.istore_n 1, 1) := by decide +kernel
theorem dX4_layRings_17 : decode cX4_layRings 17 = .ok (.iconst 0, 1) := by decide +kernel
theorem dX4_layRings_18 : decode cX4_layRings 18 = .ok (.istore_n 2, 1) := by decide +kernel
theorem dX4_layRings_19 : decode cX4_layRings 19 = .ok (.iload_n 2, 1) := by decide +kernel
theorem dX4_layRings_20 : decode cX4_layRings 20 = .ok (.aload_n 0, 1) := by decide +kernel
theorem dX4_layRings_21 : decode cX4_layRings 21 = .ok (.getfield 86, 3) := by decide +kernel
theorem dX4_layRings_24 : decode cX4_layRings 24 = .ok (.if_icmp .ge 81, 3) := by decide +kernel
theorem dX4_layRings_27 : decode cX4_layRings 27 = .ok (.aload_n 0, 1) := by decide +kernel
theorem dX4_layRings_28 : decode cX4_layRings 28 = .ok (.iload_n 2, 1) := by decide +kernel
theorem dX4_layRings_29 : decode cX4_layRings 29 = .ok (.invokevirtual 143, 3) := by decide +kernel
theorem dX4_layRings_32 : decode cX4_layRings 32 = .ok (.istore_n 3, 1) := by decide +kernel
theorem dX4_layRings_33 : decode cX4_layRings 33 = .ok (.aload_n 0, 1) := by decide +kernel
theorem dX4_layRings_34 : decode cX4_layRings 34 = .ok (.iload_n 3, 1) := by decide +kernel
theorem dX4_layRings_35 : decode cX4_layRings 35 = .ok (.aload_n 0, 1) := by decide +kernel
theorem dX4_layRings_36 : decode cX4_layRings 36 = .ok (.getfield 134, 3) := by decide +kernel
theorem dX4_layRings_39 : decode cX4_layRings 39 = .ok (.if_icmp .le 7, 3) := by decide +kernel
theorem dX4_layRings_42 : decode cX4_layRings 42 = .ok (.iload_n 3, 1) := by decide +kernel
theorem dX4_layRings_43 : decode cX4_layRings 43 = .ok (.goto 7, 3) := by decide +kernel
theorem dX4_layRings_46 : decode cX4_layRings 46 = .ok (.aload_n 0, 1) := by decide +kernel
theorem dX4_layRings_47 : decode cX4_layRings 47 = .ok (.getfield 134, 3) := by decide +kernel
theorem dX4_layRings_50 : decode cX4_layRings 50 = .ok (.putfield 134, 3) := by decide +kernel
theorem dX4_layRings_53 : decode cX4_layRings 53 = .ok (.aload_n 0, 1) := by decide +kernel
theorem dX4_layRings_54 : decode cX4_layRings 54 = .ok (.dup, 1) := by decide +kernel
theorem dX4_layRings_55 : decode cX4_layRings 55 = .ok (.getfield 137, 3) := by decide +kernel
theorem dX4_layRings_58 : decode cX4_layRings 58 = .ok (.iload_n 3, 1) := by decide +kernel
theorem dX4_layRings_59 : decode cX4_layRings 59 = .ok (.iconst 1, 1) := by decide +kernel
theorem dX4_layRings_60 : decode cX4_layRings 60 = .ok (.if_icmp .ne 7, 3) := by decide +kernel
theorem dX4_layRings_63 : decode cX4_layRings 63 = .ok (.iconst 1, 1) := by decide +kernel
theorem dX4_layRings_64 : decode cX4_layRings 64 = .ok (.goto 4, 3) := by decide +kernel
theorem dX4_layRings_67 : decode cX4_layRings 67 = .ok (.iconst 0, 1) := by decide +kernel
theorem dX4_layRings_68 : decode cX4_layRings 68 = .ok (.iadd, 1) := by decide +kernel
theorem dX4_layRings_69 : decode cX4_layRings 69 = .ok (.putfield 137, 3) := by decide +kernel
theorem dX4_layRings_72 : decode cX4_layRings 72 = .ok (.aload_n 0, 1) := by decide +kernel
theorem dX4_layRings_73 : decode cX4_layRings 73 = .ok (.aload_n 0, 1) := by decide +kernel
theorem dX4_layRings_74 : decode cX4_layRings 74 = .ok (.getfield 140, 3) := by decide +kernel
theorem dX4_layRings_77 : decode cX4_layRings 77 = .ok (.aload_n 0, 1) := by decide +kernel
theorem dX4_layRings_78 : decode cX4_layRings 78 = .ok (.getfield 140, 3) := by decide +kernel
theorem dX4_layRings_81 : decode cX4_layRings 81 = .ok (.iload_n 3, 1) := by decide +kernel
theorem dX4_layRings_82 : decode cX4_layRings 82 = .ok (.invokestatic 146, 3) := by decide +kernel
theorem dX4_layRings_85 : decode cX4_layRings 85 = .ok (.idiv, 1) := by decide +kernel
theorem dX4_layRings_86 : decode cX4_layRings 86 = .ok (.iload_n 3, 1) := by decide +kernel
theorem dX4_layRings_87 : decode cX4_layRings 87 = .ok (.imul, 1) := by decide +kernel
theorem dX4_layRings_88 : decode cX4_layRings 88 = .ok (.putfield 140, 3) := by decide +kernel
theorem dX4_layRings_91 : decode cX4_layRings 91 = .ok (.iload_n 1, 1) := by decide +kernel
theorem dX4_layRings_92 : decode cX4_layRings 92 = .ok (.sipush 27720, 3) := by decide +kernel
theorem dX4_layRings_95 : decode cX4_layRings 95 = .ok (.iload_n 3, 1) := by decide +kernel
theorem dX4_layRings_96 : decode cX4_layRings 96 = .ok (.idiv, 1) := by decide +kernel
theorem dX4_layRings_97 : decode cX4_layRings 97 = .ok (.iadd, 1) := by decide +kernel
theorem dX4_layRings_98 : decode cX4_layRings 98 = .ok (.istore_n 1, 1) := by decide +kernel
theorem dX4_layRings_99 : decode cX4_layRings 99 = .ok (.iinc 2 1, 3) := by decide +kernel
theorem dX4_layRings_102 : decode cX4_layRings 102 = .ok (.goto (-83), 3) := by decide +kernel
theorem dX4_layRings_105 : decode cX4_layRings 105 = .ok (.aload_n 0, 1) := by decide +kernel
theorem dX4_layRings_106 : decode cX4_layRings 106 = .ok (.iload_n 1, 1) := by decide +kernel
theorem dX4_layRings_107 : decode cX4_layRings 107 = .ok (.sipush 27720, 3) := by decide +kernel
theorem dX4_layRings_110 : decode cX4_layRings 110 = .ok (.idiv, 1) := by decide +kernel
theorem dX4_layRings_111 : decode cX4_layRings 111 = .ok (.putfield 149, 3) := by decide +kernel
theorem dX4_layRings_114 : decode cX4_layRings 114 = .ok (.return_, 1) := by decide +kernel
theorem dX4_layRound_0 : decode cX4_layRound 0 = .ok (.iconst 0, 1) := by decide +kernel
theorem dX4_layRound_1 : decode cX4_layRound 1 = .ok (.istore_n 1, 1) := by decide +kernel
theorem dX4_layRound_2 : decode cX4_layRound 2 = .ok (.iload_n 1, 1) := by decide +kernel
theorem dX4_layRound_3 : decode cX4_layRound 3 = .ok (.aload_n 0, 1) := by decide +kernel
theorem dX4_layRound_4 : decode cX4_layRound 4 = .ok (.getfield 86, 3) := by decide +kernel
theorem dX4_layRound_7 : decode cX4_layRound 7 = .ok (.if_icmp .ge 20, 3) := by decide +kernel
theorem dX4_layRound_10 : decode cX4_layRound 10 = .ok (.aload_n 0, 1) := by decide +kernel
theorem dX4_layRound_11 : decode cX4_layRound 11 = .ok (.getfield 22, 3) := by decide +kernel
theorem dX4_layRound_14 : decode cX4_layRound 14 = .ok (.iload_n 1, 1) := by decide +kernel
theorem dX4_layRound_15 : decode cX4_layRound 15 = .ok (.aload_n 0, 1) := by decide +kernel
theorem dX4_layRound_16 : decode cX4_layRound 16 = .ok (.iload_n 1, 1) := by decide +kernel
theorem dX4_layRound_17 : decode cX4_layRound 17 = .ok (.invokevirtual 131, 3) := by decide +kernel
theorem dX4_layRound_20 : decode cX4_layRound 20 = .ok (.iastore, 1) := by decide +kernel
theorem dX4_layRound_21 : decode cX4_layRound 21 = .ok (.iinc 1 1, 3) := by decide +kernel
theorem dX4_layRound_24 : decode cX4_layRound 24 = .ok (.goto (-22), 3) := by decide +kernel
theorem dX4_layRound_27 : decode cX4_layRound 27 = .ok (.aload_n 0, 1) := by decide +kernel
theorem dX4_layRound_28 : decode cX4_layRound 28 = .ok (.invokevirtual 152, 3) := by decide +kernel
theorem dX4_layRound_31 : decode cX4_layRound 31 = .ok (.return_, 1) := by decide +kernel
theorem dX4_ringsOf_0 : decode cX4_ringsOf 0 = .ok (.aload_n 0, 1) := by decide +kernel
theorem dX4_ringsOf_1 : decode cX4_ringsOf 1 = .ok (.invokevirtual 155, 3) := by decide +kernel
theorem dX4_ringsOf_4 : decode cX4_ringsOf 4 = .ok (.iload_n 1, 1) := by decide +kernel
theorem dX4_ringsOf_5 : decode cX4_ringsOf 5 = .ok (.ifCond .ne 10, 3) := by decide +kernel
theorem dX4_ringsOf_8 : decode cX4_ringsOf 8 = .ok (.aload_n 0, 1) := by decide +kernel
theorem dX4_ringsOf_9 : decode cX4_ringsOf 9 = .ok (.getfield 140, 3) := by decide +kernel
theorem dX4_ringsOf_12 : decode cX4_ringsOf 12 = .ok (.goto 31, 3) := by decide +kernel
theorem dX4_ringsOf_15 : decode cX4_ringsOf 15 = .ok (.iload_n 1, 1) := by decide +kernel
theorem dX4_ringsOf_16 : decode cX4_ringsOf 16 = .ok (.iconst 1, 1) := by decide +kernel
theorem dX4_ringsOf_17 : decode cX4_ringsOf 17 = .ok (.if_icmp .ne 10, 3) := by decide +kernel
theorem dX4_ringsOf_20 : decode cX4_ringsOf 20 = .ok (.aload_n 0, 1) := by decide +kernel
theorem dX4_ringsOf_21 : decode cX4_ringsOf 21 = .ok (.getfield 149, 3) := by decide +kernel
theorem dX4_ringsOf_24 : decode cX4_ringsOf 24 = .ok (.goto 19, 3) := by decide +kernel
theorem dX4_ringsOf_27 : decode cX4_ringsOf 27 = .ok (.iload_n 1, 1) := by decide +kernel
theorem dX4_ringsOf_28 : decode cX4_ringsOf 28 = .ok (.iconst 2, 1) := by decide +kernel
theorem dX4_ringsOf_29 : decode cX4_ringsOf 29 = .ok (.if_icmp .ne 10, 3) := by decide +kernel
theorem dX4_ringsOf_32 : decode cX4_ringsOf 32 = .ok (.aload_n 0, 1) := by decide +kernel
theorem dX4_ringsOf_33 : decode cX4_ringsOf 33 = .ok (.getfield 134, 3) := by decide +kernel
theorem dX4_ringsOf_36 : decode cX4_ringsOf 36 = .ok (.goto 7, 3) := by decide +kernel
theorem dX4_ringsOf_39 : decode cX4_ringsOf 39 = .ok (.aload_n 0, 1) := by decide +kernel
theorem dX4_ringsOf_40 : decode cX4_ringsOf 40 = .ok (.getfield 137, 3) := by decide +kernel
theorem dX4_ringsOf_43 : decode cX4_ringsOf 43 = .ok (.ireturn, 1) := by decide +kernel
theorem dX4_rings_0 : decode cX4_rings 0 = .ok (.iload_n 1, 1) := by decide +kernel
theorem dX4_rings_1 : decode cX4_rings 1 = .ok (.i2l, 1) := by decide +kernel
theorem dX4_rings_2 : decode cX4_rings 2 = .ok (.lconst 0, 1) := by decide +kernel
theorem dX4_rings_3 : decode cX4_rings 3 = .ok (.ldc2_w 158, 3) := by decide +kernel
theorem dX4_rings_6 : decode cX4_rings 6 = .ok (.invokestatic 61, 3) := by decide +kernel
theorem dX4_rings_9 : decode cX4_rings 9 = .ok (.ifCond .ne 6, 3) := by decide +kernel
theorem dX4_rings_12 : decode cX4_rings 12 = .ok (.bipush (-102), 2) := by decide +kernel
theorem dX4_rings_14 : decode cX4_rings 14 = .ok (.ireturn, 1) := by decide +kernel
theorem dX4_rings_15 : decode cX4_rings 15 = .ok (.aload_n 0, 1) := by decide +kernel
theorem dX4_rings_16 : decode cX4_rings 16 = .ok (.invokevirtual 160, 3) := by decide +kernel
theorem dX4_rings_19 : decode cX4_rings 19 = .ok (.ifCond .eq 8, 3) := by decide +kernel
theorem dX4_rings_22 : decode cX4_rings 22 = .ok (.bipush (-103), 2) := by decide +kernel
theorem dX4_rings_24 : decode cX4_rings 24 = .ok (.goto 8, 3) := by decide +kernel
theorem dX4_rings_27 : decode cX4_rings 27 = .ok (.aload_n 0, 1) := by decide +kernel
theorem dX4_rings_28 : decode cX4_rings 28 = .ok (.iload_n 1, 1) := by decide +kernel
theorem dX4_rings_29 : decode cX4_rings 29 = .ok (.invokevirtual 164, 3) := by decide +kernel
theorem dX4_rings_32 : decode cX4_rings 32 = .ok (.ireturn, 1) := by decide +kernel
theorem dX4_afterOf_0 : decode cX4_afterOf 0 = .ok (.aload_n 0, 1) := by decide +kernel
theorem dX4_afterOf_1 : decode cX4_afterOf 1 = .ok (.invokevirtual 155, 3) := by decide +kernel
theorem dX4_afterOf_4 : decode cX4_afterOf 4 = .ok (.iload_n 2, 1) := by decide +kernel
theorem dX4_afterOf_5 : decode cX4_afterOf 5 = .ok (.aload_n 0, 1) := by decide +kernel
theorem dX4_afterOf_6 : decode cX4_afterOf 6 = .ok (.iload_n 1, 1) := by decide +kernel
theorem dX4_afterOf_7 : decode cX4_afterOf 7 = .ok (.invokevirtual 143, 3) := by decide +kernel
theorem dX4_afterOf_10 : decode cX4_afterOf 10 = .ok (.irem, 1) := by decide +kernel
theorem dX4_afterOf_11 : decode cX4_afterOf 11 = .ok (.istore_n 3, 1) := by decide +kernel
theorem dX4_afterOf_12 : decode cX4_afterOf 12 = .ok (.iload_n 1, 1) := by decide +kernel
theorem dX4_afterOf_13 : decode cX4_afterOf 13 = .ok (.istore 4, 2) := by decide +kernel
theorem dX4_afterOf_15 : decode cX4_afterOf 15 = .ok (.iconst 0, 1) := by decide +kernel
theorem dX4_afterOf_16 : decode cX4_afterOf 16 = .ok (.istore 5, 2) := by decide +kernel
theorem dX4_afterOf_18 : decode cX4_afterOf 18 = .ok (.iload 5, 2) := by decide +kernel
theorem dX4_afterOf_20 : decode cX4_afterOf 20 = .ok (.iload_n 3, 1) := by decide +kernel
theorem dX4_afterOf_21 : decode cX4_afterOf 21 = .ok (.if_icmp .ge 18, 3) := by decide +kernel
theorem dX4_afterOf_24 : decode cX4_afterOf 24 = .ok (.aload_n 0, 1) := by decide +kernel
theorem dX4_afterOf_25 : decode cX4_afterOf 25 = .ok (.getfield 22, 3) := by decide +kernel
theorem dX4_afterOf_28 : decode cX4_afterOf 28 = .ok (.iload 4, 2) := by decide +kernel
theorem dX4_afterOf_30 : decode cX4_afterOf 30 = .ok (.iaload, 1) := by decide +kernel
theorem dX4_afterOf_31 : decode cX4_afterOf 31 = .ok (.istore 4, 2) := by decide +kernel
theorem dX4_afterOf_33 : decode cX4_afterOf 33 = .ok (.iinc 5 1, 3) := by decide +kernel
theorem dX4_afterOf_36 : decode cX4_afterOf 36 = .ok (.goto (-18), 3) := by decide +kernel
theorem dX4_afterOf_39 : decode cX4_afterOf 39 = .ok (.iload 4, 2) := by decide +kernel
theorem dX4_afterOf_41 : decode cX4_afterOf 41 = .ok (.ireturn, 1) := by decide +kernel
theorem dX4_after_0 : decode cX4_after 0 = .ok (.aload_n 0, 1) := by decide +kernel
theorem dX4_after_1 : decode cX4_after 1 = .ok (.iload_n 1, 1) := by decide +kernel
theorem dX4_after_2 : decode cX4_after 2 = .ok (.invokevirtual 125, 3) := by decide +kernel
theorem dX4_after_5 : decode cX4_after 5 = .ok (.ifCond .ne 6, 3) := by decide +kernel
theorem dX4_after_8 : decode cX4_after 8 = .ok (.bipush (-101), 2) := by decide +kernel
theorem dX4_after_10 : decode cX4_after 10 = .ok (.ireturn, 1) := by decide +kernel
theorem dX4_after_11 : decode cX4_after 11 = .ok (.iload_n 2, 1) := by decide +kernel
theorem dX4_after_12 : decode cX4_after 12 = .ok (.i2l, 1) := by decide +kernel
theorem dX4_after_13 : decode cX4_after 13 = .ok (.lconst 0, 1) := by decide +kernel
theorem dX4_after_14 : decode cX4_after 14 = .ok (.ldc2_w 167, 3) := by decide +kernel
theorem dX4_after_17 : decode cX4_after 17 = .ok (.invokestatic 61, 3) := by decide +kernel
theorem dX4_after_20 : decode cX4_after 20 = .ok (.ifCond .eq 12, 3) := by decide +kernel
theorem dX4_after_23 : decode cX4_after 23 = .ok (.aload_n 0, 1) := by decide +kernel
theorem dX4_after_24 : decode cX4_after 24 = .ok (.iload_n 1, 1) := by decide +kernel
theorem dX4_after_25 : decode cX4_after 25 = .ok (.iload_n 2, 1) := by decide +kernel
theorem dX4_after_26 : decode cX4_after 26 = .ok (.invokevirtual 169, 3) := by decide +kernel
theorem dX4_after_29 : decode cX4_after 29 = .ok (.goto 5, 3) := by decide +kernel
theorem dX4_after_32 : decode cX4_after 32 = .ok (.bipush (-102), 2) := by decide +kernel
theorem dX4_after_34 : decode cX4_after 34 = .ok (.ireturn, 1) := by decide +kernel
theorem dX4_ofStep_0 : decode cX4_ofStep 0 = .ok (.iconst 0, 1) := by decide +kernel
theorem dX4_ofStep_1 : decode cX4_ofStep 1 = .ok (.istore_n 3, 1) := by decide +kernel
theorem dX4_ofStep_2 : decode cX4_ofStep 2 = .ok (.iload_n 3, 1) := by decide +kernel
theorem dX4_ofStep_3 : decode cX4_ofStep 3 = .ok (.aload_n 0, 1) := by decide +kernel
theorem dX4_ofStep_4 : decode cX4_ofStep 4 = .ok (.getfield 86, 3) := by decide +kernel
theorem dX4_ofStep_7 : decode cX4_ofStep 7 = .ok (.if_icmp .ge 21, 3) := by decide +kernel
theorem dX4_ofStep_10 : decode cX4_ofStep 10 = .ok (.aload_n 0, 1) := by decide +kernel
theorem dX4_ofStep_11 : decode cX4_ofStep 11 = .ok (.getfield 22, 3) := by decide +kernel
theorem dX4_ofStep_14 : decode cX4_ofStep 14 = .ok (.iload_n 3, 1) := by decide +kernel
theorem dX4_ofStep_15 : decode cX4_ofStep 15 = .ok (.aload_n 0, 1) := by decide +kernel
theorem dX4_ofStep_16 : decode cX4_ofStep 16 = .ok (.iload_n 1, 1) := by decide +kernel
theorem dX4_ofStep_17 : decode cX4_ofStep 17 = .ok (.iload_n 3, 1) := by decide +kernel
theorem dX4_ofStep_18 : decode cX4_ofStep 18 = .ok (.invokevirtual 128, 3) := by decide +kernel
theorem dX4_ofStep_21 : decode cX4_ofStep 21 = .ok (.iastore, 1) := by decide +kernel
theorem dX4_ofStep_22 : decode cX4_ofStep 22 = .ok (.iinc 3 1, 3) := by decide +kernel
theorem dX4_ofStep_25 : decode cX4_ofStep 25 = .ok (.goto (-23), 3) := by decide +kernel
theorem dX4_ofStep_28 : decode cX4_ofStep 28 = .ok (.aload_n 0, 1) := by decide +kernel
theorem dX4_ofStep_29 : decode cX4_ofStep 29 = .ok (.invokevirtual 152, 3) := by decide +kernel
theorem dX4_ofStep_32 : decode cX4_ofStep 32 = .ok (.iload_n 2, 1) := by decide +kernel
theorem dX4_ofStep_33 : decode cX4_ofStep 33 = .ok (.iconst 2, 1) := by decide +kernel
theorem dX4_ofStep_34 : decode cX4_ofStep 34 = .ok (.if_icmp .ne 10, 3) := by decide +kernel
theorem dX4_ofStep_37 : decode cX4_ofStep 37 = .ok (.aload_n 0, 1) := by decide +kernel
theorem dX4_ofStep_38 : decode cX4_ofStep 38 = .ok (.getfield 137, 3) := by decide +kernel
theorem dX4_ofStep_41 : decode cX4_ofStep 41 = .ok (.goto 7, 3) := by decide +kernel
theorem dX4_ofStep_44 : decode cX4_ofStep 44 = .ok (.aload_n 0, 1) := by decide +kernel
theorem dX4_ofStep_45 : decode cX4_ofStep 45 = .ok (.getfield 140, 3) := by decide +kernel
theorem dX4_ofStep_48 : decode cX4_ofStep 48 = .ok (.ireturn, 1) := by decide +kernel
theorem dX4_tellStep_0 : decode cX4_tellStep 0 = .ok (.iload_n 2, 1) := by decide +kernel
theorem dX4_tellStep_1 : decode cX4_tellStep 1 = .ok (.tableswitch 72 0 5 #[39, 46, 53, 53, 60, 66], 39) := by decide +kernel
theorem dX4_tellStep_40 : decode cX4_tellStep 40 = .ok (.aload_n 0, 1) := by decide +kernel
theorem dX4_tellStep_41 : decode cX4_tellStep 41 = .ok (.getfield 13, 3) := by decide +kernel
theorem dX4_tellStep_44 : decode cX4_tellStep 44 = .ok (.iload_n 1, 1) := by decide +kernel
theorem dX4_tellStep_45 : decode cX4_tellStep 45 = .ok (.iaload, 1) := by decide +kernel
theorem dX4_tellStep_46 : decode cX4_tellStep 46 = .ok (.ireturn, 1) := by decide +kernel
theorem dX4_tellStep_47 : decode cX4_tellStep 47 = .ok (.aload_n 0, 1) := by decide +kernel
theorem dX4_tellStep_48 : decode cX4_tellStep 48 = .ok (.getfield 16, 3) := by decide +kernel
theorem dX4_tellStep_51 : decode cX4_tellStep 51 = .ok (.iload_n 1, 1) := by decide +kernel
theorem dX4_tellStep_52 : decode cX4_tellStep 52 = .ok (.iaload, 1) := by decide +kernel
theorem dX4_tellStep_53 : decode cX4_tellStep 53 = .ok (.ireturn, 1) := by decide +kernel
theorem dX4_tellStep_54 : decode cX4_tellStep 54 = .ok (.aload_n 0, 1) := by decide +kernel
theorem dX4_tellStep_55 : decode cX4_tellStep 55 = .ok (.iload_n 1, 1) := by decide +kernel
theorem dX4_tellStep_56 : decode cX4_tellStep 56 = .ok (.iload_n 2, 1) := by decide +kernel
theorem dX4_tellStep_57 : decode cX4_tellStep 57 = .ok (.invokevirtual 172, 3) := by decide +kernel
theorem dX4_tellStep_60 : decode cX4_tellStep 60 = .ok (.ireturn, 1) := by decide +kernel
theorem dX4_tellStep_61 : decode cX4_tellStep 61 = .ok (.aload_n 0, 1) := by decide +kernel
theorem dX4_tellStep_62 : decode cX4_tellStep 62 = .ok (.iload_n 1, 1) := by decide +kernel
theorem dX4_tellStep_63 : decode cX4_tellStep 63 = .ok (.invokevirtual 175, 3) := by decide +kernel
theorem dX4_tellStep_66 : decode cX4_tellStep 66 = .ok (.ireturn, 1) := by decide +kernel
theorem dX4_tellStep_67 : decode cX4_tellStep 67 = .ok (.aload_n 0, 1) := by decide +kernel
theorem dX4_tellStep_68 : decode cX4_tellStep 68 = .ok (.iload_n 1, 1) := by decide +kernel
theorem dX4_tellStep_69 : decode cX4_tellStep 69 = .ok (.invokevirtual 178, 3) := by decide +kernel
theorem dX4_tellStep_72 : decode cX4_tellStep 72 = .ok (.ireturn, 1) := by decide +kernel
theorem dX4_tellStep_73 : decode cX4_tellStep 73 = .ok (.bipush (-102), 2) := by decide +kernel
theorem dX4_tellStep_75 : decode cX4_tellStep 75 = .ok (.ireturn, 1) := by decide +kernel
theorem dX4_step_0 : decode cX4_step 0 = .ok (.aload_n 0, 1) := by decide +kernel
theorem dX4_step_1 : decode cX4_step 1 = .ok (.iload_n 1, 1) := by decide +kernel
theorem dX4_step_2 : decode cX4_step 2 = .ok (.invokevirtual 122, 3) := by decide +kernel
theorem dX4_step_5 : decode cX4_step 5 = .ok (.ifCond .eq 12, 3) := by decide +kernel
theorem dX4_step_8 : decode cX4_step 8 = .ok (.aload_n 0, 1) := by decide +kernel
theorem dX4_step_9 : decode cX4_step 9 = .ok (.iload_n 1, 1) := by decide +kernel
theorem dX4_step_10 : decode cX4_step 10 = .ok (.iload_n 2, 1) := by decide +kernel
theorem dX4_step_11 : decode cX4_step 11 = .ok (.invokevirtual 181, 3) := by decide +kernel
theorem dX4_step_14 : decode cX4_step 14 = .ok (.goto 5, 3) := by decide +kernel
theorem dX4_step_17 : decode cX4_step 17 = .ok (.bipush (-101), 2) := by decide +kernel
theorem dX4_step_19 : decode cX4_step 19 = .ok (.ireturn, 1) := by decide +kernel
theorem dX4_as_0 : decode cX4_as 0 = .ok (.aload_n 0, 1) := by decide +kernel
theorem dX4_as_1 : decode cX4_as 1 = .ok (.iload_n 1, 1) := by decide +kernel
theorem dX4_as_2 : decode cX4_as 2 = .ok (.invokevirtual 122, 3) := by decide +kernel
theorem dX4_as_5 : decode cX4_as 5 = .ok (.ifCond .ne 6, 3) := by decide +kernel
theorem dX4_as_8 : decode cX4_as 8 = .ok (.bipush (-101), 2) := by decide +kernel
theorem dX4_as_10 : decode cX4_as 10 = .ok (.ireturn, 1) := by decide +kernel
theorem dX4_as_11 : decode cX4_as 11 = .ok (.iload_n 2, 1) := by decide +kernel
theorem dX4_as_12 : decode cX4_as 12 = .ok (.i2l, 1) := by decide +kernel
theorem dX4_as_13 : decode cX4_as 13 = .ok (.lconst 0, 1) := by decide +kernel
theorem dX4_as_14 : decode cX4_as 14 = .ok (.ldc2_w 184, 3) := by decide +kernel
theorem dX4_as_17 : decode cX4_as 17 = .ok (.invokestatic 61, 3) := by decide +kernel
theorem dX4_as_20 : decode cX4_as 20 = .ok (.ifCond .ne 6, 3) := by decide +kernel
theorem dX4_as_23 : decode cX4_as 23 = .ok (.bipush (-102), 2) := by decide +kernel
theorem dX4_as_25 : decode cX4_as 25 = .ok (.ireturn, 1) := by decide +kernel
theorem dX4_as_26 : decode cX4_as 26 = .ok (.iload_n 2, 1) := by decide +kernel
theorem dX4_as_27 : decode cX4_as 27 = .ok (.ifCond .eq 28, 3) := by decide +kernel
theorem dX4_as_30 : decode cX4_as 30 = .ok (.iload_n 2, 1) := by decide +kernel
theorem dX4_as_31 : decode cX4_as 31 = .ok (.aload_n 0, 1) := by decide +kernel
theorem dX4_as_32 : decode cX4_as 32 = .ok (.getfield 13, 3) := by decide +kernel
theorem dX4_as_35 : decode cX4_as 35 = .ok (.iload_n 1, 1) := by decide +kernel
theorem dX4_as_36 : decode cX4_as 36 = .ok (.iaload, 1) := by decide +kernel
theorem dX4_as_37 : decode cX4_as 37 = .ok (.if_icmp .eq 18, 3) := by decide +kernel
theorem dX4_as_40 : decode cX4_as 40 = .ok (.iload_n 2, 1) := by decide +kernel
theorem dX4_as_41 : decode cX4_as 41 = .ok (.iconst 2, 1) := by decide +kernel
theorem dX4_as_42 : decode cX4_as 42 = .ok (.if_icmp .ne 17, 3) := by decide +kernel
theorem dX4_as_45 : decode cX4_as 45 = .ok (.aload_n 0, 1) := by decide +kernel
theorem dX4_as_46 : decode cX4_as 46 = .ok (.getfield 13, 3) := by decide +kernel
theorem dX4_as_49 : decode cX4_as 49 = .ok (.iload_n 1, 1) := by decide +kernel
theorem dX4_as_50 : decode cX4_as 50 = .ok (.iaload, 1) := by decide +kernel
theorem dX4_as_51 : decode cX4_as 51 = .ok (.iconst 4, 1) := by decide +kernel
theorem dX4_as_52 : decode cX4_as 52 = .ok (.if_icmp .ne 7, 3) := by decide +kernel
theorem dX4_as_55 : decode cX4_as 55 = .ok (.iconst 1, 1) := by decide +kernel
theorem dX4_as_56 : decode cX4_as 56 = .ok (.goto 4, 3) := by decide +kernel
theorem dX4_as_59 : decode cX4_as 59 = .ok (.iconst 0, 1) := by decide +kernel
theorem dX4_as_60 : decode cX4_as 60 = .ok (.istore_n 3, 1) := by decide +kernel
theorem dX4_as_61 : decode cX4_as 61 = .ok (.iload_n 3, 1) := by decide +kernel
theorem dX4_as_62 : decode cX4_as 62 = .ok (.ifCond .eq 7, 3) := by decide +kernel
theorem dX4_as_65 : decode cX4_as 65 = .ok (.iload_n 1, 1) := by decide +kernel
theorem dX4_as_66 : decode cX4_as 66 = .ok (.goto 4, 3) := by decide +kernel
theorem dX4_as_69 : decode cX4_as 69 = .ok (.iconst (-1), 1) := by decide +kernel
theorem dX4_as_70 : decode cX4_as 70 = .ok (.ireturn, 1) := by decide +kernel
theorem dX4_at_0 : decode cX4_at 0 = .ok (.aload_n 0, 1) := by decide +kernel
theorem dX4_at_1 : decode cX4_at 1 = .ok (.iload_n 1, 1) := by decide +kernel
theorem dX4_at_2 : decode cX4_at 2 = .ok (.invokevirtual 125, 3) := by decide +kernel
theorem dX4_at_5 : decode cX4_at 5 = .ok (.ifCond .eq 12, 3) := by decide +kernel
theorem dX4_at_8 : decode cX4_at 8 = .ok (.aload_n 0, 1) := by decide +kernel
theorem dX4_at_9 : decode cX4_at 9 = .ok (.getfield 19, 3) := by decide +kernel
theorem dX4_at_12 : decode cX4_at 12 = .ok (.iload_n 1, 1) := by decide +kernel
theorem dX4_at_13 : decode cX4_at 13 = .ok (.iaload, 1) := by decide +kernel
theorem dX4_at_14 : decode cX4_at 14 = .ok (.goto 5, 3) := by decide +kernel
theorem dX4_at_17 : decode cX4_at 17 = .ok (.bipush (-101), 2) := by decide +kernel
theorem dX4_at_19 : decode cX4_at 19 = .ok (.ireturn, 1) := by decide +kernel
theorem dX4_doThen_0 : decode cX4_doThen 0 = .ok (.aload_n 0, 1) := by decide +kernel
theorem dX4_doThen_1 : decode cX4_doThen 1 = .ok (.getfield 25, 3) := by decide +kernel
theorem dX4_doThen_4 : decode cX4_doThen 4 = .ok (.aload_n 0, 1) := by decide +kernel
theorem dX4_doThen_5 : decode cX4_doThen 5 = .ok (.getfield 28, 3) := by decide +kernel
theorem dX4_doThen_8 : decode cX4_doThen 8 = .ok (.invokestatic 186, 3) := by decide +kernel
theorem dX4_doThen_11 : decode cX4_doThen 11 = .ok (.iconst 0, 1) := by decide +kernel
theorem dX4_doThen_12 : decode cX4_doThen 12 = .ok (.istore_n 2, 1) := by decide +kernel
theorem dX4_doThen_13 : decode cX4_doThen 13 = .ok (.iload_n 2, 1) := by decide +kernel
theorem dX4_doThen_14 : decode cX4_doThen 14 = .ok (.aload_n 0, 1) := by decide +kernel
theorem dX4_doThen_15 : decode cX4_doThen 15 = .ok (.getfield 86, 3) := by decide +kernel
theorem dX4_doThen_18 : decode cX4_doThen 18 = .ok (.if_icmp .ge 26, 3) := by decide +kernel
theorem dX4_doThen_21 : decode cX4_doThen 21 = .ok (.aload_n 0, 1) := by decide +kernel
theorem dX4_doThen_22 : decode cX4_doThen 22 = .ok (.getfield 25, 3) := by decide +kernel
theorem dX4_doThen_25 : decode cX4_doThen 25 = .ok (.aload_n 0, 1) := by decide +kernel
theorem dX4_doThen_26 : decode cX4_doThen 26 = .ok (.iload_n 1, 1) := by decide +kernel
theorem dX4_doThen_27 : decode cX4_doThen 27 = .ok (.iload_n 2, 1) := by decide +kernel
theorem dX4_doThen_28 : decode cX4_doThen 28 = .ok (.invokevirtual 128, 3) := by decide +kernel
theorem dX4_doThen_31 : decode cX4_doThen 31 = .ok (.aload_n 0, 1) := by decide +kernel
theorem dX4_doThen_32 : decode cX4_doThen 32 = .ok (.getfield 28, 3) := by decide +kernel
theorem dX4_doThen_35 : decode cX4_doThen 35 = .ok (.iload_n 2, 1) := by decide +kernel
theorem dX4_doThen_36 : decode cX4_doThen 36 = .ok (.iaload, 1) := by decide +kernel
theorem dX4_doThen_37 : decode cX4_doThen 37 = .ok (.iastore, 1) := by decide +kernel
theorem dX4_doThen_38 : decode cX4_doThen 38 = .ok (.iinc 2 1, 3) := by decide +kernel
theorem dX4_doThen_41 : decode cX4_doThen 41 = .ok (.goto (-28), 3) := by decide +kernel
theorem dX4_doThen_44 : decode cX4_doThen 44 = .ok (.return_, 1) := by decide +kernel
theorem dX4_act_0 : decode cX4_act 0 = .ok (.aload_n 0, 1) := by decide +kernel
theorem dX4_act_1 : decode cX4_act 1 = .ok (.iload_n 1, 1) := by decide +kernel
theorem dX4_act_2 : decode cX4_act 2 = .ok (.invokevirtual 122, 3) := by decide +kernel
theorem dX4_act_5 : decode cX4_act 5 = .ok (.ifCond .ne 6, 3) := by decide +kernel
theorem dX4_act_8 : decode cX4_act 8 = .ok (.bipush (-101), 2) := by decide +kernel
theorem dX4_act_10 : decode cX4_act 10 = .ok (.ireturn, 1) := by decide +kernel
theorem dX4_act_11 : decode cX4_act 11 = .ok (.aload_n 0, 1) := by decide +kernel
theorem dX4_act_12 : decode cX4_act 12 = .ok (.getfield 95, 3) := by decide +kernel
theorem dX4_act_15 : decode cX4_act 15 = .ok (.sipush 9999, 3) := by decide +kernel
theorem dX4_act_18 : decode cX4_act 18 = .ok (.if_icmp .ne 6, 3) := by decide +kernel
theorem dX4_act_21 : decode cX4_act 21 = .ok (.bipush (-104), 2) := by decide +kernel
theorem dX4_act_23 : decode cX4_act 23 = .ok (.ireturn, 1) := by decide +kernel
theorem dX4_act_24 : decode cX4_act 24 = .ok (.aload_n 0, 1) := by decide +kernel
theorem dX4_act_25 : decode cX4_act 25 = .ok (.getfield 19, 3) := by decide +kernel
theorem dX4_act_28 : decode cX4_act 28 = .ok (.aload_n 0, 1) := by decide +kernel
theorem dX4_act_29 : decode cX4_act 29 = .ok (.getfield 25, 3) := by decide +kernel
theorem dX4_act_32 : decode cX4_act 32 = .ok (.invokestatic 186, 3) := by decide +kernel
theorem dX4_act_35 : decode cX4_act 35 = .ok (.aload_n 0, 1) := by decide +kernel
theorem dX4_act_36 : decode cX4_act 36 = .ok (.iload_n 1, 1) := by decide +kernel
theorem dX4_act_37 : decode cX4_act 37 = .ok (.invokevirtual 190, 3) := by decide +kernel
theorem dX4_act_40 : decode cX4_act 40 = .ok (.aload_n 0, 1) := by decide +kernel
theorem dX4_act_41 : decode cX4_act 41 = .ok (.getfield 25, 3) := by decide +kernel
theorem dX4_act_44 : decode cX4_act 44 = .ok (.aload_n 0, 1) := by decide +kernel
theorem dX4_act_45 : decode cX4_act 45 = .ok (.getfield 19, 3) := by decide +kernel
theorem dX4_act_48 : decode cX4_act 48 = .ok (.invokestatic 186, 3) := by decide +kernel
theorem dX4_act_51 : decode cX4_act 51 = .ok (.aload_n 0, 1) := by decide +kernel
theorem dX4_act_52 : decode cX4_act 52 = .ok (.dup, 1) := by decide +kernel
theorem dX4_act_53 : decode cX4_act 53 = .ok (.getfield 95, 3) := by decide +kernel
theorem dX4_act_56 : decode cX4_act 56 = .ok (.iconst 1, 1) := by decide +kernel
theorem dX4_act_57 : decode cX4_act 57 = .ok (.iadd, 1) := by decide +kernel
theorem dX4_act_58 : decode cX4_act 58 = .ok (.putfield 95, 3) := by decide +kernel
theorem dX4_act_61 : decode cX4_act 61 = .ok (.aload_n 0, 1) := by decide +kernel
theorem dX4_act_62 : decode cX4_act 62 = .ok (.getfield 19, 3) := by decide +kernel
theorem dX4_act_65 : decode cX4_act 65 = .ok (.iconst 0, 1) := by decide +kernel
theorem dX4_act_66 : decode cX4_act 66 = .ok (.iaload, 1) := by decide +kernel
theorem dX4_act_67 : decode cX4_act 67 = .ok (.ireturn, 1) := by decide +kernel
theorem dX4_whole_0 : decode cX4_whole 0 = .ok (.aload_n 0, 1) := by decide +kernel
theorem dX4_whole_1 : decode cX4_whole 1 = .ok (.invokevirtual 160, 3) := by decide +kernel
theorem dX4_whole_4 : decode cX4_whole 4 = .ok (.ifCond .eq 6, 3) := by decide +kernel
theorem dX4_whole_7 : decode cX4_whole 7 = .ok (.bipush (-103), 2) := by decide +kernel
theorem dX4_whole_9 : decode cX4_whole 9 = .ok (.ireturn, 1) := by decide +kernel
theorem dX4_whole_10 : decode cX4_whole 10 = .ok (.aload_n 0, 1) := by decide +kernel
theorem dX4_whole_11 : decode cX4_whole 11 = .ok (.getfield 95, 3) := by decide +kernel
theorem dX4_whole_14 : decode cX4_whole 14 = .ok (.aload_n 0, 1) := by decide +kernel
theorem dX4_whole_15 : decode cX4_whole 15 = .ok (.getfield 89, 3) := by decide +kernel
theorem dX4_whole_18 : decode cX4_whole 18 = .ok (.iadd, 1) := by decide +kernel
theorem dX4_whole_19 : decode cX4_whole 19 = .ok (.sipush 9999, 3) := by decide +kernel
theorem dX4_whole_22 : decode cX4_whole 22 = .ok (.if_icmp .le 6, 3) := by decide +kernel
theorem dX4_whole_25 : decode cX4_whole 25 = .ok (.bipush (-104), 2) := by decide +kernel
theorem dX4_whole_27 : decode cX4_whole 27 = .ok (.ireturn, 1) := by decide +kernel
theorem dX4_whole_28 : decode cX4_whole 28 = .ok (.aload_n 0, 1) := by decide +kernel
theorem dX4_whole_29 : decode cX4_whole 29 = .ok (.getfield 19, 3) := by decide +kernel
theorem dX4_whole_32 : decode cX4_whole 32 = .ok (.aload_n 0, 1) := by decide +kernel
theorem dX4_whole_33 : decode cX4_whole 33 = .ok (.getfield 25, 3) := by decide +kernel
theorem dX4_whole_36 : decode cX4_whole 36 = .ok (.invokestatic 186, 3) := by decide +kernel
theorem dX4_whole_39 : decode cX4_whole 39 = .ok (.iconst 0, 1) := by decide +kernel
theorem dX4_whole_40 : decode cX4_whole 40 = .ok (.istore_n 1, 1) := by decide +kernel
theorem dX4_whole_41 : decode cX4_whole 41 = .ok (.iload_n 1, 1) := by decide +kernel
theorem dX4_whole_42 : decode cX4_whole 42 = .ok (.aload_n 0, 1) := by decide +kernel
theorem dX4_whole_43 : decode cX4_whole 43 = .ok (.getfield 89, 3) := by decide +kernel
theorem dX4_whole_46 : decode cX4_whole 46 = .ok (.if_icmp .ge 14, 3) := by decide +kernel
theorem dX4_whole_49 : decode cX4_whole 49 = .ok (.aload_n 0, 1) := by decide +kernel
theorem dX4_whole_50 : decode cX4_whole 50 = .ok (.iload_n 1, 1) := by decide +kernel
theorem dX4_whole_51 : decode cX4_whole 51 = .ok (.invokevirtual 190, 3) := by decide +kernel
theorem dX4_whole_54 : decode cX4_whole 54 = .ok (.iinc 1 1, 3) := by decide +kernel
theorem dX4_whole_57 : decode cX4_whole 57 = .ok (.goto (-16), 3) := by decide +kernel
theorem dX4_whole_60 : decode cX4_whole 60 = .ok (.aload_n 0, 1) := by decide +kernel
theorem dX4_whole_61 : decode cX4_whole 61 = .ok (.getfield 25, 3) := by decide +kernel
theorem dX4_whole_64 : decode cX4_whole 64 = .ok (.aload_n 0, 1) := by decide +kernel
theorem dX4_whole_65 : decode cX4_whole 65 = .ok (.getfield 19, 3) := by decide +kernel
theorem dX4_whole_68 : decode cX4_whole 68 = .ok (.invokestatic 186, 3) := by decide +kernel
theorem dX4_whole_71 : decode cX4_whole 71 = .ok (.aload_n 0, 1) := by decide +kernel
theorem dX4_whole_72 : decode cX4_whole 72 = .ok (.dup, 1) := by decide +kernel
theorem dX4_whole_73 : decode cX4_whole 73 = .ok (.getfield 95, 3) := by decide +kernel
theorem dX4_whole_76 : decode cX4_whole 76 = .ok (.aload_n 0, 1) := by decide +kernel
theorem dX4_whole_77 : decode cX4_whole 77 = .ok (.getfield 89, 3) := by decide +kernel
theorem dX4_whole_80 : decode cX4_whole 80 = .ok (.iadd, 1) := by decide +kernel
theorem dX4_whole_81 : decode cX4_whole 81 = .ok (.putfield 95, 3) := by decide +kernel
theorem dX4_whole_84 : decode cX4_whole 84 = .ok (.aload_n 0, 1) := by decide +kernel
theorem dX4_whole_85 : decode cX4_whole 85 = .ok (.getfield 19, 3) := by decide +kernel
theorem dX4_whole_88 : decode cX4_whole 88 = .ok (.iconst 0, 1) := by decide +kernel
theorem dX4_whole_89 : decode cX4_whole 89 = .ok (.iaload, 1) := by decide +kernel
theorem dX4_whole_90 : decode cX4_whole 90 = .ok (.ireturn, 1) := by decide +kernel
theorem dX4_exchange_0 : decode cX4_exchange 0 = .ok (.aload_n 0, 1) := by decide +kernel
theorem dX4_exchange_1 : decode cX4_exchange 1 = .ok (.iload_n 1, 1) := by decide +kernel
theorem dX4_exchange_2 : decode cX4_exchange 2 = .ok (.invokevirtual 125, 3) := by decide +kernel
theorem dX4_exchange_5 : decode cX4_exchange 5 = .ok (.ifCond .eq 16, 3) := by decide +kernel
theorem dX4_exchange_8 : decode cX4_exchange 8 = .ok (.aload_n 0, 1) := by decide +kernel
theorem dX4_exchange_9 : decode cX4_exchange 9 = .ok (.iload_n 2, 1) := by decide +kernel
theorem dX4_exchange_10 : decode cX4_exchange 10 = .ok (.invokevirtual 125, 3) := by decide +kernel
theorem dX4_exchange_13 : decode cX4_exchange 13 = .ok (.ifCond .eq 8, 3) := by decide +kernel
theorem dX4_exchange_16 : decode cX4_exchange 16 = .ok (.iload_n 1, 1) := by decide +kernel
theorem dX4_exchange_17 : decode cX4_exchange 17 = .ok (.iload_n 2, 1) := by decide +kernel
theorem dX4_exchange_18 : decode cX4_exchange 18 = .ok (.if_icmp .ne 6, 3) := by decide +kernel
theorem dX4_exchange_21 : decode cX4_exchange 21 = .ok (.bipush (-101), 2) := by decide +kernel
theorem dX4_exchange_23 : decode cX4_exchange 23 = .ok (.ireturn, 1) := by decide +kernel
theorem dX4_exchange_24 : decode cX4_exchange 24 = .ok (.aload_n 0, 1) := by decide +kernel
theorem dX4_exchange_25 : decode cX4_exchange 25 = .ok (.getfield 19, 3) := by decide +kernel
theorem dX4_exchange_28 : decode cX4_exchange 28 = .ok (.iload_n 1, 1) := by decide +kernel
theorem dX4_exchange_29 : decode cX4_exchange 29 = .ok (.iaload, 1) := by decide +kernel
theorem dX4_exchange_30 : decode cX4_exchange 30 = .ok (.istore_n 3, 1) := by decide +kernel
theorem dX4_exchange_31 : decode cX4_exchange 31 = .ok (.aload_n 0, 1) := by decide +kernel
theorem dX4_exchange_32 : decode cX4_exchange 32 = .ok (.getfield 19, 3) := by decide +kernel
theorem dX4_exchange_35 : decode cX4_exchange 35 = .ok (.iload_n 1, 1) := by decide +kernel
theorem dX4_exchange_36 : decode cX4_exchange 36 = .ok (.aload_n 0, 1) := by decide +kernel
theorem dX4_exchange_37 : decode cX4_exchange 37 = .ok (.getfield 19, 3) := by decide +kernel
theorem dX4_exchange_40 : decode cX4_exchange 40 = .ok (.iload_n 2, 1) := by decide +kernel
theorem dX4_exchange_41 : decode cX4_exchange 41 = .ok (.iaload, 1) := by decide +kernel
theorem dX4_exchange_42 : decode cX4_exchange 42 = .ok (.iastore, 1) := by decide +kernel
theorem dX4_exchange_43 : decode cX4_exchange 43 = .ok (.aload_n 0, 1) := by decide +kernel
theorem dX4_exchange_44 : decode cX4_exchange 44 = .ok (.getfield 19, 3) := by decide +kernel
theorem dX4_exchange_47 : decode cX4_exchange 47 = .ok (.iload_n 2, 1) := by decide +kernel
theorem dX4_exchange_48 : decode cX4_exchange 48 = .ok (.iload_n 3, 1) := by decide +kernel
theorem dX4_exchange_49 : decode cX4_exchange 49 = .ok (.iastore, 1) := by decide +kernel
theorem dX4_exchange_50 : decode cX4_exchange 50 = .ok (.aload_n 0, 1) := by decide +kernel
theorem dX4_exchange_51 : decode cX4_exchange 51 = .ok (.getfield 19, 3) := by decide +kernel
theorem dX4_exchange_54 : decode cX4_exchange 54 = .ok (.iconst 0, 1) := by decide +kernel
theorem dX4_exchange_55 : decode cX4_exchange 55 = .ok (.iaload, 1) := by decide +kernel
theorem dX4_exchange_56 : decode cX4_exchange 56 = .ok (.ireturn, 1) := by decide +kernel
theorem dX4_homely_0 : decode cX4_homely 0 = .ok (.iconst 0, 1) := by decide +kernel
theorem dX4_homely_1 : decode cX4_homely 1 = .ok (.istore_n 2, 1) := by decide +kernel
theorem dX4_homely_2 : decode cX4_homely 2 = .ok (.iconst 0, 1) := by decide +kernel
theorem dX4_homely_3 : decode cX4_homely 3 = .ok (.istore_n 3, 1) := by decide +kernel
theorem dX4_homely_4 : decode cX4_homely 4 = .ok (.iload_n 3, 1) := by decide +kernel
theorem dX4_homely_5 : decode cX4_homely 5 = .ok (.aload_n 0, 1) := by decide +kernel
theorem dX4_homely_6 : decode cX4_homely 6 = .ok (.getfield 86, 3) := by decide +kernel
theorem dX4_homely_9 : decode cX4_homely 9 = .ok (.if_icmp .ge 24, 3) := by decide +kernel
theorem dX4_homely_12 : decode cX4_homely 12 = .ok (.iload_n 2, 1) := by decide +kernel
theorem dX4_homely_13 : decode cX4_homely 13 = .ok (.aload_n 1, 1) := by decide +kernel
theorem dX4_homely_14 : decode cX4_homely 14 = .ok (.iload_n 3, 1) := by decide +kernel
theorem dX4_homely_15 : decode cX4_homely 15 = .ok (.iaload, 1) := by decide +kernel
theorem dX4_homely_16 : decode cX4_homely 16 = .ok (.iload_n 3, 1) := by decide +kernel
theorem dX4_homely_17 : decode cX4_homely 17 = .ok (.if_icmp .ne 7, 3) := by decide +kernel
theorem dX4_homely_20 : decode cX4_homely 20 = .ok (.iconst 1, 1) := by decide +kernel
theorem dX4_homely_21 : decode cX4_homely 21 = .ok (.goto 4, 3) := by decide +kernel
theorem dX4_homely_24 : decode cX4_homely 24 = .ok (.iconst 0, 1) := by decide +kernel
theorem dX4_homely_25 : decode cX4_homely 25 = .ok (.iadd, 1) := by decide +kernel
theorem dX4_homely_26 : decode cX4_homely 26 = .ok (.istore_n 2, 1) := by decide +kernel
theorem dX4_homely_27 : decode cX4_homely 27 = .ok (.iinc 3 1, 3) := by decide +kernel
theorem dX4_homely_30 : decode cX4_homely 30 = .ok (.goto (-26), 3) := by decide +kernel
theorem dX4_homely_33 : decode cX4_homely 33 = .ok (.iload_n 2, 1) := by decide +kernel
theorem dX4_homely_34 : decode cX4_homely 34 = .ok (.ireturn, 1) := by decide +kernel
theorem dX4_sort_0 : decode cX4_sort 0 = .ok (.aload_n 0, 1) := by decide +kernel
theorem dX4_sort_1 : decode cX4_sort 1 = .ok (.invokevirtual 160, 3) := by decide +kernel
theorem dX4_sort_4 : decode cX4_sort 4 = .ok (.ifCond .eq 6, 3) := by decide +kernel
theorem dX4_sort_7 : decode cX4_sort 7 = .ok (.bipush (-103), 2) := by decide +kernel
theorem dX4_sort_9 : decode cX4_sort 9 = .ok (.ireturn, 1) := by decide +kernel
theorem dX4_sort_10 : decode cX4_sort 10 = .ok (.aload_n 0, 1) := by decide +kernel
theorem dX4_sort_11 : decode cX4_sort 11 = .ok (.aload_n 0, 1) := by decide +kernel
theorem dX4_sort_12 : decode cX4_sort 12 = .ok (.getfield 19, 3) := by decide +kernel
theorem dX4_sort_15 : decode cX4_sort 15 = .ok (.invokevirtual 194, 3) := by decide +kernel
theorem dX4_sort_18 : decode cX4_sort 18 = .ok (.istore_n 1, 1) := by decide +kernel
theorem dX4_sort_19 : decode cX4_sort 19 = .ok (.aload_n 0, 1) := by decide +kernel
theorem dX4_sort_20 : decode cX4_sort 20 = .ok (.invokevirtual 92, 3) := by decide +kernel
theorem dX4_sort_23 : decode cX4_sort 23 = .ok (.iload_n 1, 1) := by decide +kernel
theorem dX4_sort_24 : decode cX4_sort 24 = .ok (.ireturn, 1) := by decide +kernel
theorem dX4_change_0 : decode cX4_change 0 = .ok (.aload_n 0, 1) := by decide +kernel
theorem dX4_change_1 : decode cX4_change 1 = .ok (.iload_n 1, 1) := by decide +kernel
theorem dX4_change_2 : decode cX4_change 2 = .ok (.invokevirtual 122, 3) := by decide +kernel
theorem dX4_change_5 : decode cX4_change 5 = .ok (.ifCond .ne 6, 3) := by decide +kernel
theorem dX4_change_8 : decode cX4_change 8 = .ok (.bipush (-101), 2) := by decide +kernel
theorem dX4_change_10 : decode cX4_change 10 = .ok (.ireturn, 1) := by decide +kernel
theorem dX4_change_11 : decode cX4_change 11 = .ok (.iload_n 2, 1) := by decide +kernel
theorem dX4_change_12 : decode cX4_change 12 = .ok (.i2l, 1) := by decide +kernel
theorem dX4_change_13 : decode cX4_change 13 = .ok (.lconst 0, 1) := by decide +kernel
theorem dX4_change_14 : decode cX4_change 14 = .ok (.ldc2_w 184, 3) := by decide +kernel
theorem dX4_change_17 : decode cX4_change 17 = .ok (.invokestatic 61, 3) := by decide +kernel
theorem dX4_change_20 : decode cX4_change 20 = .ok (.ifCond .eq 15, 3) := by decide +kernel
theorem dX4_change_23 : decode cX4_change 23 = .ok (.iload_n 3, 1) := by decide +kernel
theorem dX4_change_24 : decode cX4_change 24 = .ok (.i2l, 1) := by decide +kernel
theorem dX4_change_25 : decode cX4_change 25 = .ok (.lconst 0, 1) := by decide +kernel
theorem dX4_change_26 : decode cX4_change 26 = .ok (.ldc2_w 198, 3) := by decide +kernel
theorem dX4_change_29 : decode cX4_change 29 = .ok (.invokestatic 61, 3) := by decide +kernel
theorem dX4_change_32 : decode cX4_change 32 = .ok (.ifCond .ne 6, 3) := by decide +kernel
theorem dX4_change_35 : decode cX4_change 35 = .ok (.bipush (-102), 2) := by decide +kernel
theorem dX4_change_37 : decode cX4_change 37 = .ok (.ireturn, 1) := by decide +kernel
theorem dX4_change_38 : decode cX4_change 38 = .ok (.aload_n 0, 1) := by decide +kernel
theorem dX4_change_39 : decode cX4_change 39 = .ok (.getfield 13, 3) := by decide +kernel
theorem dX4_change_42 : decode cX4_change 42 = .ok (.iload_n 1, 1) := by decide +kernel
theorem dX4_change_43 : decode cX4_change 43 = .ok (.iaload, 1) := by decide +kernel
theorem dX4_change_44 : decode cX4_change 44 = .ok (.istore 4, 2) := by decide +kernel
theorem dX4_change_46 : decode cX4_change 46 = .ok (.aload_n 0, 1) := by decide +kernel
theorem dX4_change_47 : decode cX4_change 47 = .ok (.getfield 13, 3) := by decide +kernel
theorem dX4_change_50 : decode cX4_change 50 = .ok (.iload_n 1, 1) := by decide +kernel
theorem dX4_change_51 : decode cX4_change 51 = .ok (.iload_n 2, 1) := by decide +kernel
theorem dX4_change_52 : decode cX4_change 52 = .ok (.iastore, 1) := by decide +kernel
theorem dX4_change_53 : decode cX4_change 53 = .ok (.aload_n 0, 1) := by decide +kernel
theorem dX4_change_54 : decode cX4_change 54 = .ok (.getfield 16, 3) := by decide +kernel
theorem dX4_change_57 : decode cX4_change 57 = .ok (.iload_n 1, 1) := by decide +kernel
theorem dX4_change_58 : decode cX4_change 58 = .ok (.iload_n 3, 1) := by decide +kernel
theorem dX4_change_59 : decode cX4_change 59 = .ok (.iastore, 1) := by decide +kernel
theorem dX4_change_60 : decode cX4_change 60 = .ok (.iload 4, 2) := by decide +kernel
theorem dX4_change_62 : decode cX4_change 62 = .ok (.ireturn, 1) := by decide +kernel
theorem dX4_placeOf_0 : decode cX4_placeOf 0 = .ok (.iconst 0, 1) := by decide +kernel
theorem dX4_placeOf_1 : decode cX4_placeOf 1 = .ok (.istore_n 2, 1) := by decide +kernel
theorem dX4_placeOf_2 : decode cX4_placeOf 2 = .ok (.aload_n 0, 1) := by decide +kernel
theorem dX4_placeOf_3 : decode cX4_placeOf 3 = .ok (.getfield 19, 3) := by decide +kernel
theorem dX4_placeOf_6 : decode cX4_placeOf 6 = .ok (.iload_n 2, 1) := by decide +kernel
theorem dX4_placeOf_7 : decode cX4_placeOf 7 = .ok (.iaload, 1) := by decide +kernel
theorem dX4_placeOf_8 : decode cX4_placeOf 8 = .ok (.iload_n 1, 1) := by decide +kernel
theorem dX4_placeOf_9 : decode cX4_placeOf 9 = .ok (.if_icmp .eq 9, 3) := by decide +kernel
theorem dX4_placeOf_12 : decode cX4_placeOf 12 = .ok (.iinc 2 1, 3) := by decide +kernel
theorem dX4_placeOf_15 : decode cX4_placeOf 15 = .ok (.goto (-13), 3) := by decide +kernel
theorem dX4_placeOf_18 : decode cX4_placeOf 18 = .ok (.iload_n 2, 1) := by decide +kernel
end
section
theorem dX4_placeOf_19 : decode cX4_placeOf 19 = .ok (.ireturn, 1) := by decide +kernel
theorem dX4_layFar_0 : decode cX4_layFar 0 = .ok (.iconst 0, 1) := by decide +kernel
theorem dX4_layFar_1 : decode cX4_layFar 1 = .ok (.istore_n 2, 1) := by decide +kernel
theorem dX4_layFar_2 : decode cX4_layFar 2 = .ok (.iload_n 2, 1) := by decide +kernel
theorem dX4_layFar_3 : decode cX4_layFar 3 = .ok (.aload_n 0, 1) := by decide +kernel
theorem dX4_layFar_4 : decode cX4_layFar 4 = .ok (.getfield 86, 3) := by decide +kernel
theorem dX4_layFar_7 : decode cX4_layFar 7 = .ok (.if_icmp .ge 25, 3) := by decide +kernel
theorem dX4_layFar_10 : decode cX4_layFar 10 = .ok (.aload_n 0, 1) := by decide +kernel
theorem dX4_layFar_11 : decode cX4_layFar 11 = .ok (.getfield 31, 3) := by decide +kernel
theorem dX4_layFar_14 : decode cX4_layFar 14 = .ok (.iload_n 2, 1) := by decide +kernel
theorem dX4_layFar_15 : decode cX4_layFar 15 = .ok (.iload_n 2, 1) := by decide +kernel
theorem dX4_layFar_16 : decode cX4_layFar 16 = .ok (.iload_n 1, 1) := by decide +kernel
theorem dX4_layFar_17 : decode cX4_layFar 17 = .ok (.if_icmp .ne 7, 3) := by decide +kernel
theorem dX4_layFar_20 : decode cX4_layFar 20 = .ok (.iconst 0, 1) := by decide +kernel
theorem dX4_layFar_21 : decode cX4_layFar 21 = .ok (.goto 4, 3) := by decide +kernel
theorem dX4_layFar_24 : decode cX4_layFar 24 = .ok (.iconst (-1), 1) := by decide +kernel
theorem dX4_layFar_25 : decode cX4_layFar 25 = .ok (.iastore, 1) := by decide +kernel
theorem dX4_layFar_26 : decode cX4_layFar 26 = .ok (.iinc 2 1, 3) := by decide +kernel
theorem dX4_layFar_29 : decode cX4_layFar 29 = .ok (.goto (-27), 3) := by decide +kernel
theorem dX4_layFar_32 : decode cX4_layFar 32 = .ok (.iconst 0, 1) := by decide +kernel
theorem dX4_layFar_33 : decode cX4_layFar 33 = .ok (.istore_n 2, 1) := by decide +kernel
theorem dX4_layFar_34 : decode cX4_layFar 34 = .ok (.iload_n 2, 1) := by decide +kernel
theorem dX4_layFar_35 : decode cX4_layFar 35 = .ok (.aload_n 0, 1) := by decide +kernel
theorem dX4_layFar_36 : decode cX4_layFar 36 = .ok (.getfield 86, 3) := by decide +kernel
theorem dX4_layFar_39 : decode cX4_layFar 39 = .ok (.if_icmp .ge 80, 3) := by decide +kernel
theorem dX4_layFar_42 : decode cX4_layFar 42 = .ok (.iconst 0, 1) := by decide +kernel
theorem dX4_layFar_43 : decode cX4_layFar 43 = .ok (.istore_n 3, 1) := by decide +kernel
theorem dX4_layFar_44 : decode cX4_layFar 44 = .ok (.iload_n 3, 1) := by decide +kernel
theorem dX4_layFar_45 : decode cX4_layFar 45 = .ok (.aload_n 0, 1) := by decide +kernel
theorem dX4_layFar_46 : decode cX4_layFar 46 = .ok (.getfield 86, 3) := by decide +kernel
theorem dX4_layFar_49 : decode cX4_layFar 49 = .ok (.aload_n 0, 1) := by decide +kernel
theorem dX4_layFar_50 : decode cX4_layFar 50 = .ok (.getfield 89, 3) := by decide +kernel
theorem dX4_layFar_53 : decode cX4_layFar 53 = .ok (.imul, 1) := by decide +kernel
theorem dX4_layFar_54 : decode cX4_layFar 54 = .ok (.if_icmp .ge 59, 3) := by decide +kernel
theorem dX4_layFar_57 : decode cX4_layFar 57 = .ok (.iload_n 3, 1) := by decide +kernel
theorem dX4_layFar_58 : decode cX4_layFar 58 = .ok (.aload_n 0, 1) := by decide +kernel
theorem dX4_layFar_59 : decode cX4_layFar 59 = .ok (.getfield 89, 3) := by decide +kernel
theorem dX4_layFar_62 : decode cX4_layFar 62 = .ok (.idiv, 1) := by decide +kernel
theorem dX4_layFar_63 : decode cX4_layFar 63 = .ok (.istore 4, 2) := by decide +kernel
theorem dX4_layFar_65 : decode cX4_layFar 65 = .ok (.aload_n 0, 1) := by decide +kernel
theorem dX4_layFar_66 : decode cX4_layFar 66 = .ok (.getfield 31, 3) := by decide +kernel
theorem dX4_layFar_69 : decode cX4_layFar 69 = .ok (.iload 4, 2) := by decide +kernel
theorem dX4_layFar_71 : decode cX4_layFar 71 = .ok (.iaload, 1) := by decide +kernel
theorem dX4_layFar_72 : decode cX4_layFar 72 = .ok (.iconst (-1), 1) := by decide +kernel
theorem dX4_layFar_73 : decode cX4_layFar 73 = .ok (.if_icmp .ne 34, 3) := by decide +kernel
theorem dX4_layFar_76 : decode cX4_layFar 76 = .ok (.aload_n 0, 1) := by decide +kernel
theorem dX4_layFar_77 : decode cX4_layFar 77 = .ok (.getfield 31, 3) := by decide +kernel
theorem dX4_layFar_80 : decode cX4_layFar 80 = .ok (.aload_n 0, 1) := by decide +kernel
theorem dX4_layFar_81 : decode cX4_layFar 81 = .ok (.iload_n 3, 1) := by decide +kernel
theorem dX4_layFar_82 : decode cX4_layFar 82 = .ok (.aload_n 0, 1) := by decide +kernel
theorem dX4_layFar_83 : decode cX4_layFar 83 = .ok (.getfield 89, 3) := by decide +kernel
theorem dX4_layFar_86 : decode cX4_layFar 86 = .ok (.irem, 1) := by decide +kernel
theorem dX4_layFar_87 : decode cX4_layFar 87 = .ok (.iload 4, 2) := by decide +kernel
theorem dX4_layFar_89 : decode cX4_layFar 89 = .ok (.invokevirtual 128, 3) := by decide +kernel
theorem dX4_layFar_92 : decode cX4_layFar 92 = .ok (.iaload, 1) := by decide +kernel
theorem dX4_layFar_93 : decode cX4_layFar 93 = .ok (.iload_n 2, 1) := by decide +kernel
theorem dX4_layFar_94 : decode cX4_layFar 94 = .ok (.if_icmp .ne 13, 3) := by decide +kernel
theorem dX4_layFar_97 : decode cX4_layFar 97 = .ok (.aload_n 0, 1) := by decide +kernel
theorem dX4_layFar_98 : decode cX4_layFar 98 = .ok (.getfield 31, 3) := by decide +kernel
theorem dX4_layFar_101 : decode cX4_layFar 101 = .ok (.iload 4, 2) := by decide +kernel
theorem dX4_layFar_103 : decode cX4_layFar 103 = .ok (.iload_n 2, 1) := by decide +kernel
theorem dX4_layFar_104 : decode cX4_layFar 104 = .ok (.iconst 1, 1) := by decide +kernel
theorem dX4_layFar_105 : decode cX4_layFar 105 = .ok (.iadd, 1) := by decide +kernel
theorem dX4_layFar_106 : decode cX4_layFar 106 = .ok (.iastore, 1) := by decide +kernel
theorem dX4_layFar_107 : decode cX4_layFar 107 = .ok (.iinc 3 1, 3) := by decide +kernel
theorem dX4_layFar_110 : decode cX4_layFar 110 = .ok (.goto (-66), 3) := by decide +kernel
theorem dX4_layFar_113 : decode cX4_layFar 113 = .ok (.iinc 2 1, 3) := by decide +kernel
theorem dX4_layFar_116 : decode cX4_layFar 116 = .ok (.goto (-82), 3) := by decide +kernel
theorem dX4_layFar_119 : decode cX4_layFar 119 = .ok (.return_, 1) := by decide +kernel
theorem dX4_bringOf_0 : decode cX4_bringOf 0 = .ok (.aload_n 0, 1) := by decide +kernel
theorem dX4_bringOf_1 : decode cX4_bringOf 1 = .ok (.iload_n 2, 1) := by decide +kernel
theorem dX4_bringOf_2 : decode cX4_bringOf 2 = .ok (.invokevirtual 200, 3) := by decide +kernel
theorem dX4_bringOf_5 : decode cX4_bringOf 5 = .ok (.aload_n 0, 1) := by decide +kernel
theorem dX4_bringOf_6 : decode cX4_bringOf 6 = .ok (.iload_n 1, 1) := by decide +kernel
theorem dX4_bringOf_7 : decode cX4_bringOf 7 = .ok (.invokevirtual 203, 3) := by decide +kernel
theorem dX4_bringOf_10 : decode cX4_bringOf 10 = .ok (.istore 4, 2) := by decide +kernel
theorem dX4_bringOf_12 : decode cX4_bringOf 12 = .ok (.iload_n 3, 1) := by decide +kernel
theorem dX4_bringOf_13 : decode cX4_bringOf 13 = .ok (.ifCond .eq 14, 3) := by decide +kernel
theorem dX4_bringOf_16 : decode cX4_bringOf 16 = .ok (.aload_n 0, 1) := by decide +kernel
theorem dX4_bringOf_17 : decode cX4_bringOf 17 = .ok (.getfield 31, 3) := by decide +kernel
theorem dX4_bringOf_20 : decode cX4_bringOf 20 = .ok (.iload 4, 2) := by decide +kernel
theorem dX4_bringOf_22 : decode cX4_bringOf 22 = .ok (.iaload, 1) := by decide +kernel
theorem dX4_bringOf_23 : decode cX4_bringOf 23 = .ok (.iconst 1, 1) := by decide +kernel
theorem dX4_bringOf_24 : decode cX4_bringOf 24 = .ok (.if_icmp .ge 19, 3) := by decide +kernel
theorem dX4_bringOf_27 : decode cX4_bringOf 27 = .ok (.iload_n 3, 1) := by decide +kernel
theorem dX4_bringOf_28 : decode cX4_bringOf 28 = .ok (.ifCond .ne 13, 3) := by decide +kernel
theorem dX4_bringOf_31 : decode cX4_bringOf 31 = .ok (.aload_n 0, 1) := by decide +kernel
theorem dX4_bringOf_32 : decode cX4_bringOf 32 = .ok (.getfield 31, 3) := by decide +kernel
theorem dX4_bringOf_35 : decode cX4_bringOf 35 = .ok (.iload 4, 2) := by decide +kernel
theorem dX4_bringOf_37 : decode cX4_bringOf 37 = .ok (.iaload, 1) := by decide +kernel
theorem dX4_bringOf_38 : decode cX4_bringOf 38 = .ok (.goto 4, 3) := by decide +kernel
theorem dX4_bringOf_41 : decode cX4_bringOf 41 = .ok (.iconst (-1), 1) := by decide +kernel
theorem dX4_bringOf_42 : decode cX4_bringOf 42 = .ok (.ireturn, 1) := by decide +kernel
theorem dX4_bringOf_43 : decode cX4_bringOf 43 = .ok (.iconst 0, 1) := by decide +kernel
theorem dX4_bringOf_44 : decode cX4_bringOf 44 = .ok (.istore 5, 2) := by decide +kernel
theorem dX4_bringOf_46 : decode cX4_bringOf 46 = .ok (.aload_n 0, 1) := by decide +kernel
theorem dX4_bringOf_47 : decode cX4_bringOf 47 = .ok (.getfield 31, 3) := by decide +kernel
theorem dX4_bringOf_50 : decode cX4_bringOf 50 = .ok (.aload_n 0, 1) := by decide +kernel
theorem dX4_bringOf_51 : decode cX4_bringOf 51 = .ok (.iload 5, 2) := by decide +kernel
theorem dX4_bringOf_53 : decode cX4_bringOf 53 = .ok (.iload 4, 2) := by decide +kernel
theorem dX4_bringOf_55 : decode cX4_bringOf 55 = .ok (.invokevirtual 128, 3) := by decide +kernel
theorem dX4_bringOf_58 : decode cX4_bringOf 58 = .ok (.iaload, 1) := by decide +kernel
theorem dX4_bringOf_59 : decode cX4_bringOf 59 = .ok (.aload_n 0, 1) := by decide +kernel
theorem dX4_bringOf_60 : decode cX4_bringOf 60 = .ok (.getfield 31, 3) := by decide +kernel
theorem dX4_bringOf_63 : decode cX4_bringOf 63 = .ok (.iload 4, 2) := by decide +kernel
theorem dX4_bringOf_65 : decode cX4_bringOf 65 = .ok (.iaload, 1) := by decide +kernel
theorem dX4_bringOf_66 : decode cX4_bringOf 66 = .ok (.iconst 1, 1) := by decide +kernel
theorem dX4_bringOf_67 : decode cX4_bringOf 67 = .ok (.isub, 1) := by decide +kernel
theorem dX4_bringOf_68 : decode cX4_bringOf 68 = .ok (.if_icmp .eq 9, 3) := by decide +kernel
theorem dX4_bringOf_71 : decode cX4_bringOf 71 = .ok (.iinc 5 1, 3) := by decide +kernel
theorem dX4_bringOf_74 : decode cX4_bringOf 74 = .ok (.goto (-28), 3) := by decide +kernel
theorem dX4_bringOf_77 : decode cX4_bringOf 77 = .ok (.iload 5, 2) := by decide +kernel
theorem dX4_bringOf_79 : decode cX4_bringOf 79 = .ok (.ireturn, 1) := by decide +kernel
theorem dX4_bring_0 : decode cX4_bring 0 = .ok (.aload_n 0, 1) := by decide +kernel
theorem dX4_bring_1 : decode cX4_bring 1 = .ok (.iload_n 1, 1) := by decide +kernel
theorem dX4_bring_2 : decode cX4_bring 2 = .ok (.invokevirtual 125, 3) := by decide +kernel
theorem dX4_bring_5 : decode cX4_bring 5 = .ok (.ifCond .eq 11, 3) := by decide +kernel
theorem dX4_bring_8 : decode cX4_bring 8 = .ok (.aload_n 0, 1) := by decide +kernel
theorem dX4_bring_9 : decode cX4_bring 9 = .ok (.iload_n 2, 1) := by decide +kernel
theorem dX4_bring_10 : decode cX4_bring 10 = .ok (.invokevirtual 125, 3) := by decide +kernel
theorem dX4_bring_13 : decode cX4_bring 13 = .ok (.ifCond .ne 6, 3) := by decide +kernel
theorem dX4_bring_16 : decode cX4_bring 16 = .ok (.bipush (-101), 2) := by decide +kernel
theorem dX4_bring_18 : decode cX4_bring 18 = .ok (.ireturn, 1) := by decide +kernel
theorem dX4_bring_19 : decode cX4_bring 19 = .ok (.iload_n 3, 1) := by decide +kernel
theorem dX4_bring_20 : decode cX4_bring 20 = .ok (.i2l, 1) := by decide +kernel
theorem dX4_bring_21 : decode cX4_bring 21 = .ok (.lconst 0, 1) := by decide +kernel
theorem dX4_bring_22 : decode cX4_bring 22 = .ok (.lconst 1, 1) := by decide +kernel
theorem dX4_bring_23 : decode cX4_bring 23 = .ok (.invokestatic 61, 3) := by decide +kernel
theorem dX4_bring_26 : decode cX4_bring 26 = .ok (.ifCond .eq 13, 3) := by decide +kernel
theorem dX4_bring_29 : decode cX4_bring 29 = .ok (.aload_n 0, 1) := by decide +kernel
theorem dX4_bring_30 : decode cX4_bring 30 = .ok (.iload_n 1, 1) := by decide +kernel
theorem dX4_bring_31 : decode cX4_bring 31 = .ok (.iload_n 2, 1) := by decide +kernel
theorem dX4_bring_32 : decode cX4_bring 32 = .ok (.iload_n 3, 1) := by decide +kernel
theorem dX4_bring_33 : decode cX4_bring 33 = .ok (.invokevirtual 206, 3) := by decide +kernel
theorem dX4_bring_36 : decode cX4_bring 36 = .ok (.goto 5, 3) := by decide +kernel
theorem dX4_bring_39 : decode cX4_bring 39 = .ok (.bipush (-102), 2) := by decide +kernel
theorem dX4_bring_41 : decode cX4_bring 41 = .ok (.ireturn, 1) := by decide +kernel
theorem dX4_power_0 : decode cX4_power 0 = .ok (.iconst 1, 1) := by decide +kernel
theorem dX4_power_1 : decode cX4_power 1 = .ok (.istore_n 2, 1) := by decide +kernel
theorem dX4_power_2 : decode cX4_power 2 = .ok (.iconst 0, 1) := by decide +kernel
theorem dX4_power_3 : decode cX4_power 3 = .ok (.istore_n 3, 1) := by decide +kernel
theorem dX4_power_4 : decode cX4_power 4 = .ok (.iload_n 3, 1) := by decide +kernel
theorem dX4_power_5 : decode cX4_power 5 = .ok (.iload_n 1, 1) := by decide +kernel
theorem dX4_power_6 : decode cX4_power 6 = .ok (.if_icmp .ge 13, 3) := by decide +kernel
theorem dX4_power_9 : decode cX4_power 9 = .ok (.iload_n 2, 1) := by decide +kernel
theorem dX4_power_10 : decode cX4_power 10 = .ok (.iload_n 0, 1) := by decide +kernel
theorem dX4_power_11 : decode cX4_power 11 = .ok (.imul, 1) := by decide +kernel
theorem dX4_power_12 : decode cX4_power 12 = .ok (.istore_n 2, 1) := by decide +kernel
theorem dX4_power_13 : decode cX4_power 13 = .ok (.iinc 3 1, 3) := by decide +kernel
theorem dX4_power_16 : decode cX4_power 16 = .ok (.goto (-12), 3) := by decide +kernel
theorem dX4_power_19 : decode cX4_power 19 = .ok (.iload_n 2, 1) := by decide +kernel
theorem dX4_power_20 : decode cX4_power 20 = .ok (.ireturn, 1) := by decide +kernel
theorem dX4_isHomeBy_0 : decode cX4_isHomeBy 0 = .ok (.aload_n 0, 1) := by decide +kernel
theorem dX4_isHomeBy_1 : decode cX4_isHomeBy 1 = .ok (.getfield 19, 3) := by decide +kernel
theorem dX4_isHomeBy_4 : decode cX4_isHomeBy 4 = .ok (.aload_n 0, 1) := by decide +kernel
theorem dX4_isHomeBy_5 : decode cX4_isHomeBy 5 = .ok (.getfield 25, 3) := by decide +kernel
theorem dX4_isHomeBy_8 : decode cX4_isHomeBy 8 = .ok (.invokestatic 186, 3) := by decide +kernel
theorem dX4_isHomeBy_11 : decode cX4_isHomeBy 11 = .ok (.aload_n 0, 1) := by decide +kernel
theorem dX4_isHomeBy_12 : decode cX4_isHomeBy 12 = .ok (.iconst 0, 1) := by decide +kernel
theorem dX4_isHomeBy_13 : decode cX4_isHomeBy 13 = .ok (.putfield 209, 3) := by decide +kernel
theorem dX4_isHomeBy_16 : decode cX4_isHomeBy 16 = .ok (.iload_n 2, 1) := by decide +kernel
theorem dX4_isHomeBy_17 : decode cX4_isHomeBy 17 = .ok (.iconst 1, 1) := by decide +kernel
theorem dX4_isHomeBy_18 : decode cX4_isHomeBy 18 = .ok (.isub, 1) := by decide +kernel
theorem dX4_isHomeBy_19 : decode cX4_isHomeBy 19 = .ok (.istore_n 3, 1) := by decide +kernel
theorem dX4_isHomeBy_20 : decode cX4_isHomeBy 20 = .ok (.iload_n 3, 1) := by decide +kernel
theorem dX4_isHomeBy_21 : decode cX4_isHomeBy 21 = .ok (.ifCond .lt 48, 3) := by decide +kernel
theorem dX4_isHomeBy_24 : decode cX4_isHomeBy 24 = .ok (.iload_n 1, 1) := by decide +kernel
theorem dX4_isHomeBy_25 : decode cX4_isHomeBy 25 = .ok (.aload_n 0, 1) := by decide +kernel
theorem dX4_isHomeBy_26 : decode cX4_isHomeBy 26 = .ok (.getfield 89, 3) := by decide +kernel
theorem dX4_isHomeBy_29 : decode cX4_isHomeBy 29 = .ok (.iload_n 3, 1) := by decide +kernel
theorem dX4_isHomeBy_30 : decode cX4_isHomeBy 30 = .ok (.invokestatic 212, 3) := by decide +kernel
theorem dX4_isHomeBy_33 : decode cX4_isHomeBy 33 = .ok (.idiv, 1) := by decide +kernel
theorem dX4_isHomeBy_34 : decode cX4_isHomeBy 34 = .ok (.aload_n 0, 1) := by decide +kernel
theorem dX4_isHomeBy_35 : decode cX4_isHomeBy 35 = .ok (.getfield 89, 3) := by decide +kernel
theorem dX4_isHomeBy_38 : decode cX4_isHomeBy 38 = .ok (.irem, 1) := by decide +kernel
theorem dX4_isHomeBy_39 : decode cX4_isHomeBy 39 = .ok (.istore 4, 2) := by decide +kernel
theorem dX4_isHomeBy_41 : decode cX4_isHomeBy 41 = .ok (.aload_n 0, 1) := by decide +kernel
theorem dX4_isHomeBy_42 : decode cX4_isHomeBy 42 = .ok (.bipush 10, 2) := by decide +kernel
theorem dX4_isHomeBy_44 : decode cX4_isHomeBy 44 = .ok (.aload_n 0, 1) := by decide +kernel
theorem dX4_isHomeBy_45 : decode cX4_isHomeBy 45 = .ok (.getfield 209, 3) := by decide +kernel
theorem dX4_isHomeBy_48 : decode cX4_isHomeBy 48 = .ok (.imul, 1) := by decide +kernel
theorem dX4_isHomeBy_49 : decode cX4_isHomeBy 49 = .ok (.iload 4, 2) := by decide +kernel
theorem dX4_isHomeBy_51 : decode cX4_isHomeBy 51 = .ok (.iadd, 1) := by decide +kernel
theorem dX4_isHomeBy_52 : decode cX4_isHomeBy 52 = .ok (.iconst 1, 1) := by decide +kernel
theorem dX4_isHomeBy_53 : decode cX4_isHomeBy 53 = .ok (.iadd, 1) := by decide +kernel
theorem dX4_isHomeBy_54 : decode cX4_isHomeBy 54 = .ok (.putfield 209, 3) := by decide +kernel
theorem dX4_isHomeBy_57 : decode cX4_isHomeBy 57 = .ok (.aload_n 0, 1) := by decide +kernel
theorem dX4_isHomeBy_58 : decode cX4_isHomeBy 58 = .ok (.iload 4, 2) := by decide +kernel
theorem dX4_isHomeBy_60 : decode cX4_isHomeBy 60 = .ok (.invokevirtual 190, 3) := by decide +kernel
theorem dX4_isHomeBy_63 : decode cX4_isHomeBy 63 = .ok (.iinc 3 (-1), 3) := by decide +kernel
theorem dX4_isHomeBy_66 : decode cX4_isHomeBy 66 = .ok (.goto (-46), 3) := by decide +kernel
theorem dX4_isHomeBy_69 : decode cX4_isHomeBy 69 = .ok (.aload_n 0, 1) := by decide +kernel
theorem dX4_isHomeBy_70 : decode cX4_isHomeBy 70 = .ok (.aload_n 0, 1) := by decide +kernel
theorem dX4_isHomeBy_71 : decode cX4_isHomeBy 71 = .ok (.getfield 25, 3) := by decide +kernel
theorem dX4_isHomeBy_74 : decode cX4_isHomeBy 74 = .ok (.invokevirtual 194, 3) := by decide +kernel
theorem dX4_isHomeBy_77 : decode cX4_isHomeBy 77 = .ok (.aload_n 0, 1) := by decide +kernel
theorem dX4_isHomeBy_78 : decode cX4_isHomeBy 78 = .ok (.getfield 86, 3) := by decide +kernel
theorem dX4_isHomeBy_81 : decode cX4_isHomeBy 81 = .ok (.if_icmp .ne 7, 3) := by decide +kernel
theorem dX4_isHomeBy_84 : decode cX4_isHomeBy 84 = .ok (.iconst 1, 1) := by decide +kernel
theorem dX4_isHomeBy_85 : decode cX4_isHomeBy 85 = .ok (.goto 4, 3) := by decide +kernel
theorem dX4_isHomeBy_88 : decode cX4_isHomeBy 88 = .ok (.iconst 0, 1) := by decide +kernel
theorem dX4_isHomeBy_89 : decode cX4_isHomeBy 89 = .ok (.ireturn, 1) := by decide +kernel
theorem dX4_homeOf_0 : decode cX4_homeOf 0 = .ok (.iconst 0, 1) := by decide +kernel
theorem dX4_homeOf_1 : decode cX4_homeOf 1 = .ok (.istore_n 2, 1) := by decide +kernel
theorem dX4_homeOf_2 : decode cX4_homeOf 2 = .ok (.iload_n 2, 1) := by decide +kernel
theorem dX4_homeOf_3 : decode cX4_homeOf 3 = .ok (.iconst 5, 1) := by decide +kernel
theorem dX4_homeOf_4 : decode cX4_homeOf 4 = .ok (.if_icmp .ge 51, 3) := by decide +kernel
theorem dX4_homeOf_7 : decode cX4_homeOf 7 = .ok (.iconst 0, 1) := by decide +kernel
theorem dX4_homeOf_8 : decode cX4_homeOf 8 = .ok (.istore_n 3, 1) := by decide +kernel
theorem dX4_homeOf_9 : decode cX4_homeOf 9 = .ok (.iload_n 3, 1) := by decide +kernel
theorem dX4_homeOf_10 : decode cX4_homeOf 10 = .ok (.aload_n 0, 1) := by decide +kernel
theorem dX4_homeOf_11 : decode cX4_homeOf 11 = .ok (.getfield 89, 3) := by decide +kernel
theorem dX4_homeOf_14 : decode cX4_homeOf 14 = .ok (.iload_n 2, 1) := by decide +kernel
theorem dX4_homeOf_15 : decode cX4_homeOf 15 = .ok (.invokestatic 212, 3) := by decide +kernel
theorem dX4_homeOf_18 : decode cX4_homeOf 18 = .ok (.if_icmp .ge 31, 3) := by decide +kernel
theorem dX4_homeOf_21 : decode cX4_homeOf 21 = .ok (.aload_n 0, 1) := by decide +kernel
theorem dX4_homeOf_22 : decode cX4_homeOf 22 = .ok (.iload_n 3, 1) := by decide +kernel
theorem dX4_homeOf_23 : decode cX4_homeOf 23 = .ok (.iload_n 2, 1) := by decide +kernel
theorem dX4_homeOf_24 : decode cX4_homeOf 24 = .ok (.invokevirtual 215, 3) := by decide +kernel
theorem dX4_homeOf_27 : decode cX4_homeOf 27 = .ok (.ifCond .eq 16, 3) := by decide +kernel
theorem dX4_homeOf_30 : decode cX4_homeOf 30 = .ok (.iload_n 1, 1) := by decide +kernel
theorem dX4_homeOf_31 : decode cX4_homeOf 31 = .ok (.ifCond .ne 7, 3) := by decide +kernel
theorem dX4_homeOf_34 : decode cX4_homeOf 34 = .ok (.iload_n 2, 1) := by decide +kernel
theorem dX4_homeOf_35 : decode cX4_homeOf 35 = .ok (.goto 7, 3) := by decide +kernel
theorem dX4_homeOf_38 : decode cX4_homeOf 38 = .ok (.aload_n 0, 1) := by decide +kernel
theorem dX4_homeOf_39 : decode cX4_homeOf 39 = .ok (.getfield 209, 3) := by decide +kernel
theorem dX4_homeOf_42 : decode cX4_homeOf 42 = .ok (.ireturn, 1) := by decide +kernel
theorem dX4_homeOf_43 : decode cX4_homeOf 43 = .ok (.iinc 3 1, 3) := by decide +kernel
theorem dX4_homeOf_46 : decode cX4_homeOf 46 = .ok (.goto (-37), 3) := by decide +kernel
theorem dX4_homeOf_49 : decode cX4_homeOf 49 = .ok (.iinc 2 1, 3) := by decide +kernel
theorem dX4_homeOf_52 : decode cX4_homeOf 52 = .ok (.goto (-50), 3) := by decide +kernel
theorem dX4_homeOf_55 : decode cX4_homeOf 55 = .ok (.iconst (-1), 1) := by decide +kernel
theorem dX4_homeOf_56 : decode cX4_homeOf 56 = .ok (.ireturn, 1) := by decide +kernel
theorem dX4_home_0 : decode cX4_home 0 = .ok (.iload_n 1, 1) := by decide +kernel
theorem dX4_home_1 : decode cX4_home 1 = .ok (.i2l, 1) := by decide +kernel
theorem dX4_home_2 : decode cX4_home 2 = .ok (.lconst 0, 1) := by decide +kernel
theorem dX4_home_3 : decode cX4_home 3 = .ok (.lconst 1, 1) := by decide +kernel
theorem dX4_home_4 : decode cX4_home 4 = .ok (.invokestatic 61, 3) := by decide +kernel
theorem dX4_home_7 : decode cX4_home 7 = .ok (.ifCond .ne 6, 3) := by decide +kernel
theorem dX4_home_10 : decode cX4_home 10 = .ok (.bipush (-102), 2) := by decide +kernel
theorem dX4_home_12 : decode cX4_home 12 = .ok (.ireturn, 1) := by decide +kernel
theorem dX4_home_13 : decode cX4_home 13 = .ok (.aload_n 0, 1) := by decide +kernel
theorem dX4_home_14 : decode cX4_home 14 = .ok (.invokevirtual 160, 3) := by decide +kernel
theorem dX4_home_17 : decode cX4_home 17 = .ok (.ifCond .ne 12, 3) := by decide +kernel
theorem dX4_home_20 : decode cX4_home 20 = .ok (.aload_n 0, 1) := by decide +kernel
theorem dX4_home_21 : decode cX4_home 21 = .ok (.getfield 219, 3) := by decide +kernel
theorem dX4_home_24 : decode cX4_home 24 = .ok (.bipush 30, 2) := by decide +kernel
theorem dX4_home_26 : decode cX4_home 26 = .ok (.if_icmp .ne 6, 3) := by decide +kernel
theorem dX4_home_29 : decode cX4_home 29 = .ok (.bipush (-103), 2) := by decide +kernel
theorem dX4_home_31 : decode cX4_home 31 = .ok (.ireturn, 1) := by decide +kernel
theorem dX4_home_32 : decode cX4_home 32 = .ok (.aload_n 0, 1) := by decide +kernel
theorem dX4_home_33 : decode cX4_home 33 = .ok (.dup, 1) := by decide +kernel
theorem dX4_home_34 : decode cX4_home 34 = .ok (.getfield 219, 3) := by decide +kernel
theorem dX4_home_37 : decode cX4_home 37 = .ok (.iconst 1, 1) := by decide +kernel
theorem dX4_home_38 : decode cX4_home 38 = .ok (.iadd, 1) := by decide +kernel
theorem dX4_home_39 : decode cX4_home 39 = .ok (.putfield 219, 3) := by decide +kernel
theorem dX4_home_42 : decode cX4_home 42 = .ok (.aload_n 0, 1) := by decide +kernel
theorem dX4_home_43 : decode cX4_home 43 = .ok (.iload_n 1, 1) := by decide +kernel
theorem dX4_home_44 : decode cX4_home 44 = .ok (.invokevirtual 222, 3) := by decide +kernel
theorem dX4_home_47 : decode cX4_home 47 = .ok (.ireturn, 1) := by decide +kernel
theorem dX4_oddsOf_0 : decode cX4_oddsOf 0 = .ok (.iconst 0, 1) := by decide +kernel
theorem dX4_oddsOf_1 : decode cX4_oddsOf 1 = .ok (.istore 5, 2) := by decide +kernel
theorem dX4_oddsOf_3 : decode cX4_oddsOf 3 = .ok (.iload 5, 2) := by decide +kernel
theorem dX4_oddsOf_5 : decode cX4_oddsOf 5 = .ok (.aload_n 0, 1) := by decide +kernel
theorem dX4_oddsOf_6 : decode cX4_oddsOf 6 = .ok (.getfield 86, 3) := by decide +kernel
theorem dX4_oddsOf_9 : decode cX4_oddsOf 9 = .ok (.if_icmp .ge 31, 3) := by decide +kernel
theorem dX4_oddsOf_12 : decode cX4_oddsOf 12 = .ok (.aload_n 0, 1) := by decide +kernel
theorem dX4_oddsOf_13 : decode cX4_oddsOf 13 = .ok (.getfield 34, 3) := by decide +kernel
theorem dX4_oddsOf_16 : decode cX4_oddsOf 16 = .ok (.iload 5, 2) := by decide +kernel
theorem dX4_oddsOf_18 : decode cX4_oddsOf 18 = .ok (.iload 5, 2) := by decide +kernel
theorem dX4_oddsOf_20 : decode cX4_oddsOf 20 = .ok (.aload_n 0, 1) := by decide +kernel
theorem dX4_oddsOf_21 : decode cX4_oddsOf 21 = .ok (.iload_n 1, 1) := by decide +kernel
theorem dX4_oddsOf_22 : decode cX4_oddsOf 22 = .ok (.invokevirtual 203, 3) := by decide +kernel
theorem dX4_oddsOf_25 : decode cX4_oddsOf 25 = .ok (.if_icmp .ne 7, 3) := by decide +kernel
theorem dX4_oddsOf_28 : decode cX4_oddsOf 28 = .ok (.iconst 1, 1) := by decide +kernel
theorem dX4_oddsOf_29 : decode cX4_oddsOf 29 = .ok (.goto 4, 3) := by decide +kernel
theorem dX4_oddsOf_32 : decode cX4_oddsOf 32 = .ok (.iconst 0, 1) := by decide +kernel
theorem dX4_oddsOf_33 : decode cX4_oddsOf 33 = .ok (.iastore, 1) := by decide +kernel
theorem dX4_oddsOf_34 : decode cX4_oddsOf 34 = .ok (.iinc 5 1, 3) := by decide +kernel
theorem dX4_oddsOf_37 : decode cX4_oddsOf 37 = .ok (.goto (-34), 3) := by decide +kernel
theorem dX4_oddsOf_40 : decode cX4_oddsOf 40 = .ok (.iconst 0, 1) := by decide +kernel
theorem dX4_oddsOf_41 : decode cX4_oddsOf 41 = .ok (.istore 5, 2) := by decide +kernel
theorem dX4_oddsOf_43 : decode cX4_oddsOf 43 = .ok (.iload 5, 2) := by decide +kernel
theorem dX4_oddsOf_45 : decode cX4_oddsOf 45 = .ok (.iload_n 3, 1) := by decide +kernel
theorem dX4_oddsOf_46 : decode cX4_oddsOf 46 = .ok (.if_icmp .ge 107, 3) := by decide +kernel
theorem dX4_oddsOf_49 : decode cX4_oddsOf 49 = .ok (.iconst 0, 1) := by decide +kernel
theorem dX4_oddsOf_50 : decode cX4_oddsOf 50 = .ok (.istore 6, 2) := by decide +kernel
theorem dX4_oddsOf_52 : decode cX4_oddsOf 52 = .ok (.iload 6, 2) := by decide +kernel
theorem dX4_oddsOf_54 : decode cX4_oddsOf 54 = .ok (.aload_n 0, 1) := by decide +kernel
theorem dX4_oddsOf_55 : decode cX4_oddsOf 55 = .ok (.getfield 86, 3) := by decide +kernel
theorem dX4_oddsOf_58 : decode cX4_oddsOf 58 = .ok (.if_icmp .ge 17, 3) := by decide +kernel
theorem dX4_oddsOf_61 : decode cX4_oddsOf 61 = .ok (.aload_n 0, 1) := by decide +kernel
theorem dX4_oddsOf_62 : decode cX4_oddsOf 62 = .ok (.getfield 37, 3) := by decide +kernel
theorem dX4_oddsOf_65 : decode cX4_oddsOf 65 = .ok (.iload 6, 2) := by decide +kernel
theorem dX4_oddsOf_67 : decode cX4_oddsOf 67 = .ok (.iconst 0, 1) := by decide +kernel
theorem dX4_oddsOf_68 : decode cX4_oddsOf 68 = .ok (.iastore, 1) := by decide +kernel
theorem dX4_oddsOf_69 : decode cX4_oddsOf 69 = .ok (.iinc 6 1, 3) := by decide +kernel
theorem dX4_oddsOf_72 : decode cX4_oddsOf 72 = .ok (.goto (-20), 3) := by decide +kernel
theorem dX4_oddsOf_75 : decode cX4_oddsOf 75 = .ok (.iconst 0, 1) := by decide +kernel
theorem dX4_oddsOf_76 : decode cX4_oddsOf 76 = .ok (.istore 6, 2) := by decide +kernel
theorem dX4_oddsOf_78 : decode cX4_oddsOf 78 = .ok (.iload 6, 2) := by decide +kernel
theorem dX4_oddsOf_80 : decode cX4_oddsOf 80 = .ok (.aload_n 0, 1) := by decide +kernel
theorem dX4_oddsOf_81 : decode cX4_oddsOf 81 = .ok (.getfield 86, 3) := by decide +kernel
theorem dX4_oddsOf_84 : decode cX4_oddsOf 84 = .ok (.aload_n 0, 1) := by decide +kernel
theorem dX4_oddsOf_85 : decode cX4_oddsOf 85 = .ok (.getfield 89, 3) := by decide +kernel
theorem dX4_oddsOf_88 : decode cX4_oddsOf 88 = .ok (.imul, 1) := by decide +kernel
theorem dX4_oddsOf_89 : decode cX4_oddsOf 89 = .ok (.if_icmp .ge 47, 3) := by decide +kernel
theorem dX4_oddsOf_92 : decode cX4_oddsOf 92 = .ok (.aload_n 0, 1) := by decide +kernel
theorem dX4_oddsOf_93 : decode cX4_oddsOf 93 = .ok (.getfield 37, 3) := by decide +kernel
theorem dX4_oddsOf_96 : decode cX4_oddsOf 96 = .ok (.aload_n 0, 1) := by decide +kernel
theorem dX4_oddsOf_97 : decode cX4_oddsOf 97 = .ok (.iload 6, 2) := by decide +kernel
theorem dX4_oddsOf_99 : decode cX4_oddsOf 99 = .ok (.aload_n 0, 1) := by decide +kernel
theorem dX4_oddsOf_100 : decode cX4_oddsOf 100 = .ok (.getfield 89, 3) := by decide +kernel
theorem dX4_oddsOf_103 : decode cX4_oddsOf 103 = .ok (.irem, 1) := by decide +kernel
theorem dX4_oddsOf_104 : decode cX4_oddsOf 104 = .ok (.iload 6, 2) := by decide +kernel
theorem dX4_oddsOf_106 : decode cX4_oddsOf 106 = .ok (.aload_n 0, 1) := by decide +kernel
theorem dX4_oddsOf_107 : decode cX4_oddsOf 107 = .ok (.getfield 89, 3) := by decide +kernel
theorem dX4_oddsOf_110 : decode cX4_oddsOf 110 = .ok (.idiv, 1) := by decide +kernel
theorem dX4_oddsOf_111 : decode cX4_oddsOf 111 = .ok (.invokevirtual 128, 3) := by decide +kernel
theorem dX4_oddsOf_114 : decode cX4_oddsOf 114 = .ok (.dup2, 1) := by decide +kernel
theorem dX4_oddsOf_115 : decode cX4_oddsOf 115 = .ok (.iaload, 1) := by decide +kernel
theorem dX4_oddsOf_116 : decode cX4_oddsOf 116 = .ok (.aload_n 0, 1) := by decide +kernel
theorem dX4_oddsOf_117 : decode cX4_oddsOf 117 = .ok (.getfield 34, 3) := by decide +kernel
theorem dX4_oddsOf_120 : decode cX4_oddsOf 120 = .ok (.iload 6, 2) := by decide +kernel
theorem dX4_oddsOf_122 : decode cX4_oddsOf 122 = .ok (.aload_n 0, 1) := by decide +kernel
theorem dX4_oddsOf_123 : decode cX4_oddsOf 123 = .ok (.getfield 89, 3) := by decide +kernel
theorem dX4_oddsOf_126 : decode cX4_oddsOf 126 = .ok (.idiv, 1) := by decide +kernel
theorem dX4_oddsOf_127 : decode cX4_oddsOf 127 = .ok (.iaload, 1) := by decide +kernel
theorem dX4_oddsOf_128 : decode cX4_oddsOf 128 = .ok (.iadd, 1) := by decide +kernel
theorem dX4_oddsOf_129 : decode cX4_oddsOf 129 = .ok (.iastore, 1) := by decide +kernel
theorem dX4_oddsOf_130 : decode cX4_oddsOf 130 = .ok (.iinc 6 1, 3) := by decide +kernel
theorem dX4_oddsOf_133 : decode cX4_oddsOf 133 = .ok (.goto (-55), 3) := by decide +kernel
theorem dX4_oddsOf_136 : decode cX4_oddsOf 136 = .ok (.aload_n 0, 1) := by decide +kernel
theorem dX4_oddsOf_137 : decode cX4_oddsOf 137 = .ok (.getfield 37, 3) := by decide +kernel
theorem dX4_oddsOf_140 : decode cX4_oddsOf 140 = .ok (.aload_n 0, 1) := by decide +kernel
theorem dX4_oddsOf_141 : decode cX4_oddsOf 141 = .ok (.getfield 34, 3) := by decide +kernel
theorem dX4_oddsOf_144 : decode cX4_oddsOf 144 = .ok (.invokestatic 186, 3) := by decide +kernel
theorem dX4_oddsOf_147 : decode cX4_oddsOf 147 = .ok (.iinc 5 1, 3) := by decide +kernel
theorem dX4_oddsOf_150 : decode cX4_oddsOf 150 = .ok (.goto (-107), 3) := by decide +kernel
theorem dX4_oddsOf_153 : decode cX4_oddsOf 153 = .ok (.aload_n 0, 1) := by decide +kernel
theorem dX4_oddsOf_154 : decode cX4_oddsOf 154 = .ok (.getfield 89, 3) := by decide +kernel
theorem dX4_oddsOf_157 : decode cX4_oddsOf 157 = .ok (.iload_n 3, 1) := by decide +kernel
theorem dX4_oddsOf_158 : decode cX4_oddsOf 158 = .ok (.invokestatic 212, 3) := by decide +kernel
theorem dX4_oddsOf_161 : decode cX4_oddsOf 161 = .ok (.istore 5, 2) := by decide +kernel
theorem dX4_oddsOf_163 : decode cX4_oddsOf 163 = .ok (.iload 5, 2) := by decide +kernel
theorem dX4_oddsOf_165 : decode cX4_oddsOf 165 = .ok (.aload_n 0, 1) := by decide +kernel
theorem dX4_oddsOf_166 : decode cX4_oddsOf 166 = .ok (.getfield 34, 3) := by decide +kernel
theorem dX4_oddsOf_169 : decode cX4_oddsOf 169 = .ok (.iload_n 2, 1) := by decide +kernel
theorem dX4_oddsOf_170 : decode cX4_oddsOf 170 = .ok (.iaload, 1) := by decide +kernel
theorem dX4_oddsOf_171 : decode cX4_oddsOf 171 = .ok (.invokestatic 146, 3) := by decide +kernel
theorem dX4_oddsOf_174 : decode cX4_oddsOf 174 = .ok (.istore 6, 2) := by decide +kernel
theorem dX4_oddsOf_176 : decode cX4_oddsOf 176 = .ok (.iload 4, 2) := by decide +kernel
theorem dX4_oddsOf_178 : decode cX4_oddsOf 178 = .ok (.ifCond .ne 15, 3) := by decide +kernel
theorem dX4_oddsOf_181 : decode cX4_oddsOf 181 = .ok (.aload_n 0, 1) := by decide +kernel
theorem dX4_oddsOf_182 : decode cX4_oddsOf 182 = .ok (.getfield 34, 3) := by decide +kernel
theorem dX4_oddsOf_185 : decode cX4_oddsOf 185 = .ok (.iload_n 2, 1) := by decide +kernel
theorem dX4_oddsOf_186 : decode cX4_oddsOf 186 = .ok (.iaload, 1) := by decide +kernel
theorem dX4_oddsOf_187 : decode cX4_oddsOf 187 = .ok (.iload 6, 2) := by decide +kernel
theorem dX4_oddsOf_189 : decode cX4_oddsOf 189 = .ok (.idiv, 1) := by decide +kernel
theorem dX4_oddsOf_190 : decode cX4_oddsOf 190 = .ok (.goto 8, 3) := by decide +kernel
theorem dX4_oddsOf_193 : decode cX4_oddsOf 193 = .ok (.iload 5, 2) := by decide +kernel
theorem dX4_oddsOf_195 : decode cX4_oddsOf 195 = .ok (.iload 6, 2) := by decide +kernel
theorem dX4_oddsOf_197 : decode cX4_oddsOf 197 = .ok (.idiv, 1) := by decide +kernel
theorem dX4_oddsOf_198 : decode cX4_oddsOf 198 = .ok (.ireturn, 1) := by decide +kernel
theorem dX4_odds_0 : decode cX4_odds 0 = .ok (.aload_n 0, 1) := by decide +kernel
theorem dX4_odds_1 : decode cX4_odds 1 = .ok (.iload_n 1, 1) := by decide +kernel
theorem dX4_odds_2 : decode cX4_odds 2 = .ok (.invokevirtual 125, 3) := by decide +kernel
theorem dX4_odds_5 : decode cX4_odds 5 = .ok (.ifCond .eq 11, 3) := by decide +kernel
theorem dX4_odds_8 : decode cX4_odds 8 = .ok (.aload_n 0, 1) := by decide +kernel
theorem dX4_odds_9 : decode cX4_odds 9 = .ok (.iload_n 2, 1) := by decide +kernel
theorem dX4_odds_10 : decode cX4_odds 10 = .ok (.invokevirtual 125, 3) := by decide +kernel
theorem dX4_odds_13 : decode cX4_odds 13 = .ok (.ifCond .ne 6, 3) := by decide +kernel
theorem dX4_odds_16 : decode cX4_odds 16 = .ok (.bipush (-101), 2) := by decide +kernel
theorem dX4_odds_18 : decode cX4_odds 18 = .ok (.ireturn, 1) := by decide +kernel
theorem dX4_odds_19 : decode cX4_odds 19 = .ok (.iload_n 3, 1) := by decide +kernel
theorem dX4_odds_20 : decode cX4_odds 20 = .ok (.i2l, 1) := by decide +kernel
theorem dX4_odds_21 : decode cX4_odds 21 = .ok (.lconst 1, 1) := by decide +kernel
theorem dX4_odds_22 : decode cX4_odds 22 = .ok (.ldc2_w 225, 3) := by decide +kernel
theorem dX4_odds_25 : decode cX4_odds 25 = .ok (.invokestatic 61, 3) := by decide +kernel
theorem dX4_odds_28 : decode cX4_odds 28 = .ok (.ifCond .eq 26, 3) := by decide +kernel
theorem dX4_odds_31 : decode cX4_odds 31 = .ok (.iload 4, 2) := by decide +kernel
theorem dX4_odds_33 : decode cX4_odds 33 = .ok (.i2l, 1) := by decide +kernel
theorem dX4_odds_34 : decode cX4_odds 34 = .ok (.lconst 0, 1) := by decide +kernel
theorem dX4_odds_35 : decode cX4_odds 35 = .ok (.lconst 1, 1) := by decide +kernel
theorem dX4_odds_36 : decode cX4_odds 36 = .ok (.invokestatic 61, 3) := by decide +kernel
theorem dX4_odds_39 : decode cX4_odds 39 = .ok (.ifCond .eq 15, 3) := by decide +kernel
theorem dX4_odds_42 : decode cX4_odds 42 = .ok (.aload_n 0, 1) := by decide +kernel
theorem dX4_odds_43 : decode cX4_odds 43 = .ok (.iload_n 1, 1) := by decide +kernel
theorem dX4_odds_44 : decode cX4_odds 44 = .ok (.iload_n 2, 1) := by decide +kernel
theorem dX4_odds_45 : decode cX4_odds 45 = .ok (.iload_n 3, 1) := by decide +kernel
theorem dX4_odds_46 : decode cX4_odds 46 = .ok (.iload 4, 2) := by decide +kernel
theorem dX4_odds_48 : decode cX4_odds 48 = .ok (.invokevirtual 227, 3) := by decide +kernel
theorem dX4_odds_51 : decode cX4_odds 51 = .ok (.goto 5, 3) := by decide +kernel
theorem dX4_odds_54 : decode cX4_odds 54 = .ok (.bipush (-102), 2) := by decide +kernel
theorem dX4_odds_56 : decode cX4_odds 56 = .ok (.ireturn, 1) := by decide +kernel
theorem dX4_see_0 : decode cX4_see 0 = .ok (.aload_n 0, 1) := by decide +kernel
theorem dX4_see_1 : decode cX4_see 1 = .ok (.iload_n 1, 1) := by decide +kernel
theorem dX4_see_2 : decode cX4_see 2 = .ok (.invokevirtual 122, 3) := by decide +kernel
theorem dX4_see_5 : decode cX4_see 5 = .ok (.ifCond .eq 19, 3) := by decide +kernel
theorem dX4_see_8 : decode cX4_see 8 = .ok (.aload_n 0, 1) := by decide +kernel
theorem dX4_see_9 : decode cX4_see 9 = .ok (.iload_n 2, 1) := by decide +kernel
theorem dX4_see_10 : decode cX4_see 10 = .ok (.invokevirtual 125, 3) := by decide +kernel
theorem dX4_see_13 : decode cX4_see 13 = .ok (.ifCond .eq 11, 3) := by decide +kernel
theorem dX4_see_16 : decode cX4_see 16 = .ok (.aload_n 0, 1) := by decide +kernel
theorem dX4_see_17 : decode cX4_see 17 = .ok (.iload_n 3, 1) := by decide +kernel
theorem dX4_see_18 : decode cX4_see 18 = .ok (.invokevirtual 125, 3) := by decide +kernel
theorem dX4_see_21 : decode cX4_see 21 = .ok (.ifCond .ne 6, 3) := by decide +kernel
theorem dX4_see_24 : decode cX4_see 24 = .ok (.bipush (-101), 2) := by decide +kernel
theorem dX4_see_26 : decode cX4_see 26 = .ok (.ireturn, 1) := by decide +kernel
theorem dX4_see_27 : decode cX4_see 27 = .ok (.aload_n 0, 1) := by decide +kernel
theorem dX4_see_28 : decode cX4_see 28 = .ok (.getfield 98, 3) := by decide +kernel
theorem dX4_see_31 : decode cX4_see 31 = .ok (.bipush 6, 2) := by decide +kernel
theorem dX4_see_33 : decode cX4_see 33 = .ok (.if_icmp .ne 6, 3) := by decide +kernel
theorem dX4_see_36 : decode cX4_see 36 = .ok (.bipush (-104), 2) := by decide +kernel
theorem dX4_see_38 : decode cX4_see 38 = .ok (.ireturn, 1) := by decide +kernel
theorem dX4_see_39 : decode cX4_see 39 = .ok (.aload_n 0, 1) := by decide +kernel
theorem dX4_see_40 : decode cX4_see 40 = .ok (.getfield 40, 3) := by decide +kernel
theorem dX4_see_43 : decode cX4_see 43 = .ok (.iconst 3, 1) := by decide +kernel
theorem dX4_see_44 : decode cX4_see 44 = .ok (.aload_n 0, 1) := by decide +kernel
theorem dX4_see_45 : decode cX4_see 45 = .ok (.getfield 98, 3) := by decide +kernel
theorem dX4_see_48 : decode cX4_see 48 = .ok (.imul, 1) := by decide +kernel
theorem dX4_see_49 : decode cX4_see 49 = .ok (.iload_n 1, 1) := by decide +kernel
theorem dX4_see_50 : decode cX4_see 50 = .ok (.iastore, 1) := by decide +kernel
theorem dX4_see_51 : decode cX4_see 51 = .ok (.aload_n 0, 1) := by decide +kernel
theorem dX4_see_52 : decode cX4_see 52 = .ok (.getfield 40, 3) := by decide +kernel
theorem dX4_see_55 : decode cX4_see 55 = .ok (.iconst 3, 1) := by decide +kernel
theorem dX4_see_56 : decode cX4_see 56 = .ok (.aload_n 0, 1) := by decide +kernel
theorem dX4_see_57 : decode cX4_see 57 = .ok (.getfield 98, 3) := by decide +kernel
theorem dX4_see_60 : decode cX4_see 60 = .ok (.imul, 1) := by decide +kernel
theorem dX4_see_61 : decode cX4_see 61 = .ok (.iconst 1, 1) := by decide +kernel
theorem dX4_see_62 : decode cX4_see 62 = .ok (.iadd, 1) := by decide +kernel
theorem dX4_see_63 : decode cX4_see 63 = .ok (.iload_n 2, 1) := by decide +kernel
theorem dX4_see_64 : decode cX4_see 64 = .ok (.iastore, 1) := by decide +kernel
theorem dX4_see_65 : decode cX4_see 65 = .ok (.aload_n 0, 1) := by decide +kernel
theorem dX4_see_66 : decode cX4_see 66 = .ok (.getfield 40, 3) := by decide +kernel
theorem dX4_see_69 : decode cX4_see 69 = .ok (.iconst 3, 1) := by decide +kernel
theorem dX4_see_70 : decode cX4_see 70 = .ok (.aload_n 0, 1) := by decide +kernel
theorem dX4_see_71 : decode cX4_see 71 = .ok (.getfield 98, 3) := by decide +kernel
theorem dX4_see_74 : decode cX4_see 74 = .ok (.imul, 1) := by decide +kernel
theorem dX4_see_75 : decode cX4_see 75 = .ok (.iconst 2, 1) := by decide +kernel
theorem dX4_see_76 : decode cX4_see 76 = .ok (.iadd, 1) := by decide +kernel
theorem dX4_see_77 : decode cX4_see 77 = .ok (.iload_n 3, 1) := by decide +kernel
theorem dX4_see_78 : decode cX4_see 78 = .ok (.iastore, 1) := by decide +kernel
theorem dX4_see_79 : decode cX4_see 79 = .ok (.aload_n 0, 1) := by decide +kernel
theorem dX4_see_80 : decode cX4_see 80 = .ok (.dup, 1) := by decide +kernel
theorem dX4_see_81 : decode cX4_see 81 = .ok (.getfield 98, 3) := by decide +kernel
theorem dX4_see_84 : decode cX4_see 84 = .ok (.iconst 1, 1) := by decide +kernel
theorem dX4_see_85 : decode cX4_see 85 = .ok (.iadd, 1) := by decide +kernel
theorem dX4_see_86 : decode cX4_see 86 = .ok (.putfield 98, 3) := by decide +kernel
theorem dX4_see_89 : decode cX4_see 89 = .ok (.aload_n 0, 1) := by decide +kernel
theorem dX4_see_90 : decode cX4_see 90 = .ok (.getfield 98, 3) := by decide +kernel
theorem dX4_see_93 : decode cX4_see 93 = .ok (.ireturn, 1) := by decide +kernel
theorem dX4_forget_0 : decode cX4_forget 0 = .ok (.aload_n 0, 1) := by decide +kernel
theorem dX4_forget_1 : decode cX4_forget 1 = .ok (.getfield 98, 3) := by decide +kernel
theorem dX4_forget_4 : decode cX4_forget 4 = .ok (.istore_n 1, 1) := by decide +kernel
theorem dX4_forget_5 : decode cX4_forget 5 = .ok (.aload_n 0, 1) := by decide +kernel
theorem dX4_forget_6 : decode cX4_forget 6 = .ok (.iconst 0, 1) := by decide +kernel
theorem dX4_forget_7 : decode cX4_forget 7 = .ok (.putfield 98, 3) := by decide +kernel
theorem dX4_forget_10 : decode cX4_forget 10 = .ok (.iload_n 1, 1) := by decide +kernel
theorem dX4_forget_11 : decode cX4_forget 11 = .ok (.ireturn, 1) := by decide +kernel
theorem dX4_numbersOf_0 : decode cX4_numbersOf 0 = .ok (.iconst 0, 1) := by decide +kernel
theorem dX4_numbersOf_1 : decode cX4_numbersOf 1 = .ok (.istore_n 2, 1) := by decide +kernel
theorem dX4_numbersOf_2 : decode cX4_numbersOf 2 = .ok (.iconst 0, 1) := by decide +kernel
theorem dX4_numbersOf_3 : decode cX4_numbersOf 3 = .ok (.istore_n 3, 1) := by decide +kernel
theorem dX4_numbersOf_4 : decode cX4_numbersOf 4 = .ok (.iload_n 3, 1) := by decide +kernel
theorem dX4_numbersOf_5 : decode cX4_numbersOf 5 = .ok (.bipush 10, 2) := by decide +kernel
theorem dX4_numbersOf_7 : decode cX4_numbersOf 7 = .ok (.if_icmp .ge 102, 3) := by decide +kernel
theorem dX4_numbersOf_10 : decode cX4_numbersOf 10 = .ok (.iconst 1, 1) := by decide +kernel
theorem dX4_numbersOf_11 : decode cX4_numbersOf 11 = .ok (.istore 4, 2) := by decide +kernel
theorem dX4_numbersOf_13 : decode cX4_numbersOf 13 = .ok (.iconst 0, 1) := by decide +kernel
theorem dX4_numbersOf_14 : decode cX4_numbersOf 14 = .ok (.istore 5, 2) := by decide +kernel
theorem dX4_numbersOf_16 : decode cX4_numbersOf 16 = .ok (.iload 5, 2) := by decide +kernel
theorem dX4_numbersOf_18 : decode cX4_numbersOf 18 = .ok (.iconst 3, 1) := by decide +kernel
theorem dX4_numbersOf_19 : decode cX4_numbersOf 19 = .ok (.aload_n 0, 1) := by decide +kernel
theorem dX4_numbersOf_20 : decode cX4_numbersOf 20 = .ok (.getfield 98, 3) := by decide +kernel
theorem dX4_numbersOf_23 : decode cX4_numbersOf 23 = .ok (.imul, 1) := by decide +kernel
theorem dX4_numbersOf_24 : decode cX4_numbersOf 24 = .ok (.if_icmp .ge 64, 3) := by decide +kernel
theorem dX4_numbersOf_27 : decode cX4_numbersOf 27 = .ok (.iload 4, 2) := by decide +kernel
theorem dX4_numbersOf_29 : decode cX4_numbersOf 29 = .ok (.ifCond .eq 50, 3) := by decide +kernel
theorem dX4_numbersOf_32 : decode cX4_numbersOf 32 = .ok (.aload_n 0, 1) := by decide +kernel
theorem dX4_numbersOf_33 : decode cX4_numbersOf 33 = .ok (.getfield 40, 3) := by decide +kernel
theorem dX4_numbersOf_36 : decode cX4_numbersOf 36 = .ok (.iload 5, 2) := by decide +kernel
theorem dX4_numbersOf_38 : decode cX4_numbersOf 38 = .ok (.iaload, 1) := by decide +kernel
theorem dX4_numbersOf_39 : decode cX4_numbersOf 39 = .ok (.iload_n 1, 1) := by decide +kernel
theorem dX4_numbersOf_40 : decode cX4_numbersOf 40 = .ok (.if_icmp .ne 35, 3) := by decide +kernel
theorem dX4_numbersOf_43 : decode cX4_numbersOf 43 = .ok (.aload_n 0, 1) := by decide +kernel
theorem dX4_numbersOf_44 : decode cX4_numbersOf 44 = .ok (.aload_n 0, 1) := by decide +kernel
theorem dX4_numbersOf_45 : decode cX4_numbersOf 45 = .ok (.getfield 13, 3) := by decide +kernel
theorem dX4_numbersOf_48 : decode cX4_numbersOf 48 = .ok (.iload_n 1, 1) := by decide +kernel
theorem dX4_numbersOf_49 : decode cX4_numbersOf 49 = .ok (.iaload, 1) := by decide +kernel
theorem dX4_numbersOf_50 : decode cX4_numbersOf 50 = .ok (.iload_n 3, 1) := by decide +kernel
theorem dX4_numbersOf_51 : decode cX4_numbersOf 51 = .ok (.aload_n 0, 1) := by decide +kernel
theorem dX4_numbersOf_52 : decode cX4_numbersOf 52 = .ok (.getfield 40, 3) := by decide +kernel
theorem dX4_numbersOf_55 : decode cX4_numbersOf 55 = .ok (.iload 5, 2) := by decide +kernel
theorem dX4_numbersOf_57 : decode cX4_numbersOf 57 = .ok (.iconst 1, 1) := by decide +kernel
theorem dX4_numbersOf_58 : decode cX4_numbersOf 58 = .ok (.iadd, 1) := by decide +kernel
theorem dX4_numbersOf_59 : decode cX4_numbersOf 59 = .ok (.iaload, 1) := by decide +kernel
theorem dX4_numbersOf_60 : decode cX4_numbersOf 60 = .ok (.invokevirtual 118, 3) := by decide +kernel
theorem dX4_numbersOf_63 : decode cX4_numbersOf 63 = .ok (.aload_n 0, 1) := by decide +kernel
theorem dX4_numbersOf_64 : decode cX4_numbersOf 64 = .ok (.getfield 40, 3) := by decide +kernel
theorem dX4_numbersOf_67 : decode cX4_numbersOf 67 = .ok (.iload 5, 2) := by decide +kernel
theorem dX4_numbersOf_69 : decode cX4_numbersOf 69 = .ok (.iconst 2, 1) := by decide +kernel
theorem dX4_numbersOf_70 : decode cX4_numbersOf 70 = .ok (.iadd, 1) := by decide +kernel
theorem dX4_numbersOf_71 : decode cX4_numbersOf 71 = .ok (.iaload, 1) := by decide +kernel
theorem dX4_numbersOf_72 : decode cX4_numbersOf 72 = .ok (.if_icmp .ne 7, 3) := by decide +kernel
theorem dX4_numbersOf_75 : decode cX4_numbersOf 75 = .ok (.iconst 1, 1) := by decide +kernel
theorem dX4_numbersOf_76 : decode cX4_numbersOf 76 = .ok (.goto 4, 3) := by decide +kernel
theorem dX4_numbersOf_79 : decode cX4_numbersOf 79 = .ok (.iconst 0, 1) := by decide +kernel
theorem dX4_numbersOf_80 : decode cX4_numbersOf 80 = .ok (.istore 4, 2) := by decide +kernel
theorem dX4_numbersOf_82 : decode cX4_numbersOf 82 = .ok (.iinc 5 3, 3) := by decide +kernel
theorem dX4_numbersOf_85 : decode cX4_numbersOf 85 = .ok (.goto (-69), 3) := by decide +kernel
theorem dX4_numbersOf_88 : decode cX4_numbersOf 88 = .ok (.iload_n 2, 1) := by decide +kernel
theorem dX4_numbersOf_89 : decode cX4_numbersOf 89 = .ok (.iload 4, 2) := by decide +kernel
theorem dX4_numbersOf_91 : decode cX4_numbersOf 91 = .ok (.ifCond .eq 9, 3) := by decide +kernel
theorem dX4_numbersOf_94 : decode cX4_numbersOf 94 = .ok (.iconst 1, 1) := by decide +kernel
theorem dX4_numbersOf_95 : decode cX4_numbersOf 95 = .ok (.iload_n 3, 1) := by decide +kernel
theorem dX4_numbersOf_96 : decode cX4_numbersOf 96 = .ok (.ishl, 1) := by decide +kernel
theorem dX4_numbersOf_97 : decode cX4_numbersOf 97 = .ok (.goto 4, 3) := by decide +kernel
theorem dX4_numbersOf_100 : decode cX4_numbersOf 100 = .ok (.iconst 0, 1) := by decide +kernel
theorem dX4_numbersOf_101 : decode cX4_numbersOf 101 = .ok (.ior, 1) := by decide +kernel
theorem dX4_numbersOf_102 : decode cX4_numbersOf 102 = .ok (.istore_n 2, 1) := by decide +kernel
theorem dX4_numbersOf_103 : decode cX4_numbersOf 103 = .ok (.iinc 3 1, 3) := by decide +kernel
theorem dX4_numbersOf_106 : decode cX4_numbersOf 106 = .ok (.goto (-102), 3) := by decide +kernel
theorem dX4_numbersOf_109 : decode cX4_numbersOf 109 = .ok (.iload_n 2, 1) := by decide +kernel
theorem dX4_numbersOf_110 : decode cX4_numbersOf 110 = .ok (.ireturn, 1) := by decide +kernel
theorem dX4_watchOf_0 : decode cX4_watchOf 0 = .ok (.aload_n 0, 1) := by decide +kernel
theorem dX4_watchOf_1 : decode cX4_watchOf 1 = .ok (.iload_n 1, 1) := by decide +kernel
theorem dX4_watchOf_2 : decode cX4_watchOf 2 = .ok (.invokevirtual 175, 3) := by decide +kernel
theorem dX4_watchOf_5 : decode cX4_watchOf 5 = .ok (.istore_n 2, 1) := by decide +kernel
theorem dX4_watchOf_6 : decode cX4_watchOf 6 = .ok (.iconst (-1), 1) := by decide +kernel
theorem dX4_watchOf_7 : decode cX4_watchOf 7 = .ok (.istore_n 3, 1) := by decide +kernel
theorem dX4_watchOf_8 : decode cX4_watchOf 8 = .ok (.bipush 11, 2) := by decide +kernel
theorem dX4_watchOf_10 : decode cX4_watchOf 10 = .ok (.istore 4, 2) := by decide +kernel
theorem dX4_watchOf_12 : decode cX4_watchOf 12 = .ok (.iconst 0, 1) := by decide +kernel
theorem dX4_watchOf_13 : decode cX4_watchOf 13 = .ok (.istore 5, 2) := by decide +kernel
theorem dX4_watchOf_15 : decode cX4_watchOf 15 = .ok (.iload 5, 2) := by decide +kernel
theorem dX4_watchOf_17 : decode cX4_watchOf 17 = .ok (.aload_n 0, 1) := by decide +kernel
theorem dX4_watchOf_18 : decode cX4_watchOf 18 = .ok (.getfield 86, 3) := by decide +kernel
theorem dX4_watchOf_21 : decode cX4_watchOf 21 = .ok (.if_icmp .ge 133, 3) := by decide +kernel
theorem dX4_watchOf_24 : decode cX4_watchOf 24 = .ok (.iload_n 2, 1) := by decide +kernel
theorem dX4_watchOf_25 : decode cX4_watchOf 25 = .ok (.ifCond .eq 129, 3) := by decide +kernel
theorem dX4_watchOf_28 : decode cX4_watchOf 28 = .ok (.iconst 0, 1) := by decide +kernel
theorem dX4_watchOf_29 : decode cX4_watchOf 29 = .ok (.istore 6, 2) := by decide +kernel
theorem dX4_watchOf_31 : decode cX4_watchOf 31 = .ok (.iconst 0, 1) := by decide +kernel
theorem dX4_watchOf_32 : decode cX4_watchOf 32 = .ok (.istore 7, 2) := by decide +kernel
theorem dX4_watchOf_34 : decode cX4_watchOf 34 = .ok (.iload 7, 2) := by decide +kernel
theorem dX4_watchOf_36 : decode cX4_watchOf 36 = .ok (.aload_n 0, 1) := by decide +kernel
theorem dX4_watchOf_37 : decode cX4_watchOf 37 = .ok (.getfield 86, 3) := by decide +kernel
theorem dX4_watchOf_40 : decode cX4_watchOf 40 = .ok (.if_icmp .ge 78, 3) := by decide +kernel
theorem dX4_watchOf_43 : decode cX4_watchOf 43 = .ok (.iconst 0, 1) := by decide +kernel
theorem dX4_watchOf_44 : decode cX4_watchOf 44 = .ok (.istore 8, 2) := by decide +kernel
theorem dX4_watchOf_46 : decode cX4_watchOf 46 = .ok (.iconst 0, 1) := by decide +kernel
theorem dX4_watchOf_47 : decode cX4_watchOf 47 = .ok (.istore 9, 2) := by decide +kernel
theorem dX4_watchOf_49 : decode cX4_watchOf 49 = .ok (.iload 9, 2) := by decide +kernel
theorem dX4_watchOf_51 : decode cX4_watchOf 51 = .ok (.bipush 10, 2) := by decide +kernel
theorem dX4_watchOf_53 : decode cX4_watchOf 53 = .ok (.if_icmp .ge 43, 3) := by decide +kernel
theorem dX4_watchOf_56 : decode cX4_watchOf 56 = .ok (.iload 8, 2) := by decide +kernel
theorem dX4_watchOf_58 : decode cX4_watchOf 58 = .ok (.aload_n 0, 1) := by decide +kernel
theorem dX4_watchOf_59 : decode cX4_watchOf 59 = .ok (.aload_n 0, 1) := by decide +kernel
theorem dX4_watchOf_60 : decode cX4_watchOf 60 = .ok (.getfield 13, 3) := by decide +kernel
theorem dX4_watchOf_63 : decode cX4_watchOf 63 = .ok (.iload_n 1, 1) := by decide +kernel
theorem dX4_watchOf_64 : decode cX4_watchOf 64 = .ok (.iaload, 1) := by decide +kernel
theorem dX4_watchOf_65 : decode cX4_watchOf 65 = .ok (.iload 9, 2) := by decide +kernel
theorem dX4_watchOf_67 : decode cX4_watchOf 67 = .ok (.iload 5, 2) := by decide +kernel
theorem dX4_watchOf_69 : decode cX4_watchOf 69 = .ok (.invokevirtual 118, 3) := by decide +kernel
theorem dX4_watchOf_72 : decode cX4_watchOf 72 = .ok (.iload 7, 2) := by decide +kernel
theorem dX4_watchOf_74 : decode cX4_watchOf 74 = .ok (.if_icmp .ne 12, 3) := by decide +kernel
theorem dX4_watchOf_77 : decode cX4_watchOf 77 = .ok (.iload_n 2, 1) := by decide +kernel
theorem dX4_watchOf_78 : decode cX4_watchOf 78 = .ok (.iload 9, 2) := by decide +kernel
theorem dX4_watchOf_80 : decode cX4_watchOf 80 = .ok (.ishr, 1) := by decide +kernel
theorem dX4_watchOf_81 : decode cX4_watchOf 81 = .ok (.iconst 1, 1) := by decide +kernel
theorem dX4_watchOf_82 : decode cX4_watchOf 82 = .ok (.iand, 1) := by decide +kernel
theorem dX4_watchOf_83 : decode cX4_watchOf 83 = .ok (.goto 4, 3) := by decide +kernel
theorem dX4_watchOf_86 : decode cX4_watchOf 86 = .ok (.iconst 0, 1) := by decide +kernel
theorem dX4_watchOf_87 : decode cX4_watchOf 87 = .ok (.iadd, 1) := by decide +kernel
theorem dX4_watchOf_88 : decode cX4_watchOf 88 = .ok (.istore 8, 2) := by decide +kernel
theorem dX4_watchOf_90 : decode cX4_watchOf 90 = .ok (.iinc 9 1, 3) := by decide +kernel
theorem dX4_watchOf_93 : decode cX4_watchOf 93 = .ok (.goto (-44), 3) := by decide +kernel
theorem dX4_watchOf_96 : decode cX4_watchOf 96 = .ok (.iload 8, 2) := by decide +kernel
theorem dX4_watchOf_98 : decode cX4_watchOf 98 = .ok (.iload 6, 2) := by decide +kernel
theorem dX4_watchOf_100 : decode cX4_watchOf 100 = .ok (.if_icmp .le 8, 3) := by decide +kernel
theorem dX4_watchOf_103 : decode cX4_watchOf 103 = .ok (.iload 8, 2) := by decide +kernel
theorem dX4_watchOf_105 : decode cX4_watchOf 105 = .ok (.goto 5, 3) := by decide +kernel
theorem dX4_watchOf_108 : decode cX4_watchOf 108 = .ok (.iload 6, 2) := by decide +kernel
theorem dX4_watchOf_110 : decode cX4_watchOf 110 = .ok (.istore 6, 2) := by decide +kernel
theorem dX4_watchOf_112 : decode cX4_watchOf 112 = .ok (.iinc 7 1, 3) := by decide +kernel
theorem dX4_watchOf_115 : decode cX4_watchOf 115 = .ok (.goto (-81), 3) := by decide +kernel
theorem dX4_watchOf_118 : decode cX4_watchOf 118 = .ok (.iload 6, 2) := by decide +kernel
theorem dX4_watchOf_120 : decode cX4_watchOf 120 = .ok (.iload 4, 2) := by decide +kernel
theorem dX4_watchOf_122 : decode cX4_watchOf 122 = .ok (.if_icmp .ge 8, 3) := by decide +kernel
theorem dX4_watchOf_125 : decode cX4_watchOf 125 = .ok (.iload 5, 2) := by decide +kernel
theorem dX4_watchOf_127 : decode cX4_watchOf 127 = .ok (.goto 4, 3) := by decide +kernel
theorem dX4_watchOf_130 : decode cX4_watchOf 130 = .ok (.iload_n 3, 1) := by decide +kernel
theorem dX4_watchOf_131 : decode cX4_watchOf 131 = .ok (.istore_n 3, 1) := by decide +kernel
theorem dX4_watchOf_132 : decode cX4_watchOf 132 = .ok (.iload 6, 2) := by decide +kernel
theorem dX4_watchOf_134 : decode cX4_watchOf 134 = .ok (.iload 4, 2) := by decide +kernel
theorem dX4_watchOf_136 : decode cX4_watchOf 136 = .ok (.if_icmp .ge 8, 3) := by decide +kernel
theorem dX4_watchOf_139 : decode cX4_watchOf 139 = .ok (.iload 6, 2) := by decide +kernel
theorem dX4_watchOf_141 : decode cX4_watchOf 141 = .ok (.goto 5, 3) := by decide +kernel
theorem dX4_watchOf_144 : decode cX4_watchOf 144 = .ok (.iload 4, 2) := by decide +kernel
theorem dX4_watchOf_146 : decode cX4_watchOf 146 = .ok (.istore 4, 2) := by decide +kernel
theorem dX4_watchOf_148 : decode cX4_watchOf 148 = .ok (.iinc 5 1, 3) := by decide +kernel
theorem dX4_watchOf_151 : decode cX4_watchOf 151 = .ok (.goto (-136), 3) := by decide +kernel
theorem dX4_watchOf_154 : decode cX4_watchOf 154 = .ok (.iload_n 3, 1) := by decide +kernel
theorem dX4_watchOf_155 : decode cX4_watchOf 155 = .ok (.ireturn, 1) := by decide +kernel
theorem dX4_draw_0 : decode cX4_draw 0 = .ok (.aload_n 0, 1) := by decide +kernel
theorem dX4_draw_1 : decode cX4_draw 1 = .ok (.ldc2_w 231, 3) := by decide +kernel
theorem dX4_draw_4 : decode cX4_draw 4 = .ok (.aload_n 0, 1) := by decide +kernel
theorem dX4_draw_5 : decode cX4_draw 5 = .ok (.getfield 233, 3) := by decide +kernel
theorem dX4_draw_8 : decode cX4_draw 8 = .ok (.i2l, 1) := by decide +kernel
theorem dX4_draw_9 : decode cX4_draw 9 = .ok (.lmul, 1) := by decide +kernel
theorem dX4_draw_10 : decode cX4_draw 10 = .ok (.ldc2_w 236, 3) := by decide +kernel
theorem dX4_draw_13 : decode cX4_draw 13 = .ok (.ladd, 1) := by decide +kernel
theorem dX4_draw_14 : decode cX4_draw 14 = .ok (.ldc2_w 238, 3) := by decide +kernel
theorem dX4_draw_17 : decode cX4_draw 17 = .ok (.land, 1) := by decide +kernel
theorem dX4_draw_18 : decode cX4_draw 18 = .ok (.l2i, 1) := by decide +kernel
theorem dX4_draw_19 : decode cX4_draw 19 = .ok (.putfield 233, 3) := by decide +kernel
theorem dX4_draw_22 : decode cX4_draw 22 = .ok (.aload_n 0, 1) := by decide +kernel
theorem dX4_draw_23 : decode cX4_draw 23 = .ok (.getfield 233, 3) := by decide +kernel
theorem dX4_draw_26 : decode cX4_draw 26 = .ok (.ldc 240, 2) := by decide +kernel
theorem dX4_draw_28 : decode cX4_draw 28 = .ok (.idiv, 1) := by decide +kernel
theorem dX4_draw_29 : decode cX4_draw 29 = .ok (.iload_n 1, 1) := by decide +kernel
theorem dX4_draw_30 : decode cX4_draw 30 = .ok (.irem, 1) := by decide +kernel
theorem dX4_draw_31 : decode cX4_draw 31 = .ok (.ireturn, 1) := by decide +kernel
theorem dX4_runs_0 : decode cX4_runs 0 = .ok (.iload_n 1, 1) := by decide +kernel
theorem dX4_runs_1 : decode cX4_runs 1 = .ok (.i2l, 1) := by decide +kernel
theorem dX4_runs_2 : decode cX4_runs 2 = .ok (.lconst 1, 1) := by decide +kernel
theorem dX4_runs_3 : decode cX4_runs 3 = .ok (.ldc2_w 241, 3) := by decide +kernel
theorem dX4_runs_6 : decode cX4_runs 6 = .ok (.invokestatic 61, 3) := by decide +kernel
theorem dX4_runs_9 : decode cX4_runs 9 = .ok (.ifCond .eq 19, 3) := by decide +kernel
theorem dX4_runs_12 : decode cX4_runs 12 = .ok (.iload_n 2, 1) := by decide +kernel
theorem dX4_runs_13 : decode cX4_runs 13 = .ok (.ifCond .lt 15, 3) := by decide +kernel
theorem dX4_runs_16 : decode cX4_runs 16 = .ok (.iload_n 3, 1) := by decide +kernel
theorem dX4_runs_17 : decode cX4_runs 17 = .ok (.i2l, 1) := by decide +kernel
theorem dX4_runs_18 : decode cX4_runs 18 = .ok (.lconst 0, 1) := by decide +kernel
theorem dX4_runs_19 : decode cX4_runs 19 = .ok (.ldc2_w 243, 3) := by decide +kernel
theorem dX4_runs_22 : decode cX4_runs 22 = .ok (.invokestatic 61, 3) := by decide +kernel
theorem dX4_runs_25 : decode cX4_runs 25 = .ok (.ifCond .ne 6, 3) := by decide +kernel
theorem dX4_runs_28 : decode cX4_runs 28 = .ok (.bipush (-102), 2) := by decide +kernel
theorem dX4_runs_30 : decode cX4_runs 30 = .ok (.ireturn, 1) := by decide +kernel
theorem dX4_runs_31 : decode cX4_runs 31 = .ok (.aload_n 0, 1) := by decide +kernel
theorem dX4_runs_32 : decode cX4_runs 32 = .ok (.invokevirtual 160, 3) := by decide +kernel
theorem dX4_runs_35 : decode cX4_runs 35 = .ok (.ifCond .eq 6, 3) := by decide +kernel
theorem dX4_runs_38 : decode cX4_runs 38 = .ok (.bipush (-103), 2) := by decide +kernel
theorem dX4_runs_40 : decode cX4_runs 40 = .ok (.ireturn, 1) := by decide +kernel
theorem dX4_runs_41 : decode cX4_runs 41 = .ok (.aload_n 0, 1) := by decide +kernel
theorem dX4_runs_42 : decode cX4_runs 42 = .ok (.iload_n 2, 1) := by decide +kernel
theorem dX4_runs_43 : decode cX4_runs 43 = .ok (.putfield 233, 3) := by decide +kernel
theorem dX4_runs_46 : decode cX4_runs 46 = .ok (.aload_n 0, 1) := by decide +kernel
theorem dX4_runs_47 : decode cX4_runs 47 = .ok (.getfield 19, 3) := by decide +kernel
theorem dX4_runs_50 : decode cX4_runs 50 = .ok (.aload_n 0, 1) := by decide +kernel
theorem dX4_runs_51 : decode cX4_runs 51 = .ok (.getfield 25, 3) := by decide +kernel
theorem dX4_runs_54 : decode cX4_runs 54 = .ok (.invokestatic 186, 3) := by decide +kernel
theorem dX4_runs_57 : decode cX4_runs 57 = .ok (.iconst 0, 1) := by decide +kernel
theorem dX4_runs_58 : decode cX4_runs 58 = .ok (.istore 4, 2) := by decide +kernel
theorem dX4_runs_60 : decode cX4_runs 60 = .ok (.iload 4, 2) := by decide +kernel
theorem dX4_runs_62 : decode cX4_runs 62 = .ok (.iload_n 1, 1) := by decide +kernel
theorem dX4_runs_63 : decode cX4_runs 63 = .ok (.if_icmp .ge 21, 3) := by decide +kernel
theorem dX4_runs_66 : decode cX4_runs 66 = .ok (.aload_n 0, 1) := by decide +kernel
theorem dX4_runs_67 : decode cX4_runs 67 = .ok (.aload_n 0, 1) := by decide +kernel
theorem dX4_runs_68 : decode cX4_runs 68 = .ok (.aload_n 0, 1) := by decide +kernel
theorem dX4_runs_69 : decode cX4_runs 69 = .ok (.getfield 89, 3) := by decide +kernel
theorem dX4_runs_72 : decode cX4_runs 72 = .ok (.invokevirtual 245, 3) := by decide +kernel
theorem dX4_runs_75 : decode cX4_runs 75 = .ok (.invokevirtual 190, 3) := by decide +kernel
theorem dX4_runs_78 : decode cX4_runs 78 = .ok (.iinc 4 1, 3) := by decide +kernel
theorem dX4_runs_81 : decode cX4_runs 81 = .ok (.goto (-21), 3) := by decide +kernel
theorem dX4_runs_84 : decode cX4_runs 84 = .ok (.iload_n 3, 1) := by decide +kernel
theorem dX4_runs_85 : decode cX4_runs 85 = .ok (.ifCond .ne 14, 3) := by decide +kernel
theorem dX4_runs_88 : decode cX4_runs 88 = .ok (.aload_n 0, 1) := by decide +kernel
theorem dX4_runs_89 : decode cX4_runs 89 = .ok (.aload_n 0, 1) := by decide +kernel
theorem dX4_runs_90 : decode cX4_runs 90 = .ok (.getfield 25, 3) := by decide +kernel
theorem dX4_runs_93 : decode cX4_runs 93 = .ok (.invokevirtual 194, 3) := by decide +kernel
theorem dX4_runs_96 : decode cX4_runs 96 = .ok (.goto 21, 3) := by decide +kernel
theorem dX4_runs_99 : decode cX4_runs 99 = .ok (.iload_n 3, 1) := by decide +kernel
theorem dX4_runs_100 : decode cX4_runs 100 = .ok (.iconst 1, 1) := by decide +kernel
theorem dX4_runs_101 : decode cX4_runs 101 = .ok (.if_icmp .ne 12, 3) := by decide +kernel
theorem dX4_runs_104 : decode cX4_runs 104 = .ok (.aload_n 0, 1) := by decide +kernel
theorem dX4_runs_105 : decode cX4_runs 105 = .ok (.getfield 25, 3) := by decide +kernel
theorem dX4_runs_108 : decode cX4_runs 108 = .ok (.iconst 0, 1) := by decide +kernel
theorem dX4_runs_109 : decode cX4_runs 109 = .ok (.iaload, 1) := by decide +kernel
theorem dX4_runs_110 : decode cX4_runs 110 = .ok (.goto 7, 3) := by decide +kernel
theorem dX4_runs_113 : decode cX4_runs 113 = .ok (.aload_n 0, 1) := by decide +kernel
theorem dX4_runs_114 : decode cX4_runs 114 = .ok (.getfield 233, 3) := by decide +kernel
theorem dX4_runs_117 : decode cX4_runs 117 = .ok (.ireturn, 1) := by decide +kernel
theorem dX4_image_0 : decode cX4_image 0 = .ok (.aload_n 0, 1) := by decide +kernel
theorem dX4_image_1 : decode cX4_image 1 = .ok (.invokevirtual 160, 3) := by decide +kernel
theorem dX4_image_4 : decode cX4_image 4 = .ok (.ifCond .eq 6, 3) := by decide +kernel
theorem dX4_image_7 : decode cX4_image 7 = .ok (.bipush (-103), 2) := by decide +kernel
theorem dX4_image_9 : decode cX4_image 9 = .ok (.ireturn, 1) := by decide +kernel
theorem dX4_image_10 : decode cX4_image 10 = .ok (.aload_n 0, 1) := by decide +kernel
theorem dX4_image_11 : decode cX4_image 11 = .ok (.getfield 13, 3) := by decide +kernel
theorem dX4_image_14 : decode cX4_image 14 = .ok (.aload_n 0, 1) := by decide +kernel
theorem dX4_image_15 : decode cX4_image 15 = .ok (.getfield 43, 3) := by decide +kernel
theorem dX4_image_18 : decode cX4_image 18 = .ok (.invokestatic 186, 3) := by decide +kernel
theorem dX4_image_21 : decode cX4_image 21 = .ok (.aload_n 0, 1) := by decide +kernel
theorem dX4_image_22 : decode cX4_image 22 = .ok (.getfield 16, 3) := by decide +kernel
theorem dX4_image_25 : decode cX4_image 25 = .ok (.aload_n 0, 1) := by decide +kernel
theorem dX4_image_26 : decode cX4_image 26 = .ok (.getfield 46, 3) := by decide +kernel
theorem dX4_image_29 : decode cX4_image 29 = .ok (.invokestatic 186, 3) := by decide +kernel
theorem dX4_image_32 : decode cX4_image 32 = .ok (.aload_n 0, 1) := by decide +kernel
end
section
theorem dX4_image_33 : decode cX4_image 33 = .ok (.getfield 19, 3) := by decide +kernel
theorem dX4_image_36 : decode cX4_image 36 = .ok (.aload_n 0, 1) := by decide +kernel
theorem dX4_image_37 : decode cX4_image 37 = .ok (.getfield 49, 3) := by decide +kernel
theorem dX4_image_40 : decode cX4_image 40 = .ok (.invokestatic 186, 3) := by decide +kernel
theorem dX4_image_43 : decode cX4_image 43 = .ok (.aload_n 0, 1) := by decide +kernel
theorem dX4_image_44 : decode cX4_image 44 = .ok (.getfield 40, 3) := by decide +kernel
theorem dX4_image_47 : decode cX4_image 47 = .ok (.aload_n 0, 1) := by decide +kernel
theorem dX4_image_48 : decode cX4_image 48 = .ok (.getfield 52, 3) := by decide +kernel
theorem dX4_image_51 : decode cX4_image 51 = .ok (.invokestatic 186, 3) := by decide +kernel
theorem dX4_image_54 : decode cX4_image 54 = .ok (.aload_n 0, 1) := by decide +kernel
theorem dX4_image_55 : decode cX4_image 55 = .ok (.aload_n 0, 1) := by decide +kernel
theorem dX4_image_56 : decode cX4_image 56 = .ok (.getfield 95, 3) := by decide +kernel
theorem dX4_image_59 : decode cX4_image 59 = .ok (.putfield 248, 3) := by decide +kernel
theorem dX4_image_62 : decode cX4_image 62 = .ok (.aload_n 0, 1) := by decide +kernel
theorem dX4_image_63 : decode cX4_image 63 = .ok (.aload_n 0, 1) := by decide +kernel
theorem dX4_image_64 : decode cX4_image 64 = .ok (.getfield 98, 3) := by decide +kernel
theorem dX4_image_67 : decode cX4_image 67 = .ok (.putfield 251, 3) := by decide +kernel
theorem dX4_image_70 : decode cX4_image 70 = .ok (.aload_n 0, 1) := by decide +kernel
theorem dX4_image_71 : decode cX4_image 71 = .ok (.aload_n 0, 1) := by decide +kernel
theorem dX4_image_72 : decode cX4_image 72 = .ok (.getfield 101, 3) := by decide +kernel
theorem dX4_image_75 : decode cX4_image 75 = .ok (.putfield 55, 3) := by decide +kernel
theorem dX4_image_78 : decode cX4_image 78 = .ok (.aload_n 0, 1) := by decide +kernel
theorem dX4_image_79 : decode cX4_image 79 = .ok (.getfield 95, 3) := by decide +kernel
theorem dX4_image_82 : decode cX4_image 82 = .ok (.ireturn, 1) := by decide +kernel
theorem dX4_restore_0 : decode cX4_restore 0 = .ok (.aload_n 0, 1) := by decide +kernel
theorem dX4_restore_1 : decode cX4_restore 1 = .ok (.getfield 55, 3) := by decide +kernel
theorem dX4_restore_4 : decode cX4_restore 4 = .ok (.aload_n 0, 1) := by decide +kernel
theorem dX4_restore_5 : decode cX4_restore 5 = .ok (.getfield 101, 3) := by decide +kernel
theorem dX4_restore_8 : decode cX4_restore 8 = .ok (.if_icmp .eq 6, 3) := by decide +kernel
theorem dX4_restore_11 : decode cX4_restore 11 = .ok (.bipush (-103), 2) := by decide +kernel
theorem dX4_restore_13 : decode cX4_restore 13 = .ok (.ireturn, 1) := by decide +kernel
theorem dX4_restore_14 : decode cX4_restore 14 = .ok (.aload_n 0, 1) := by decide +kernel
theorem dX4_restore_15 : decode cX4_restore 15 = .ok (.getfield 43, 3) := by decide +kernel
theorem dX4_restore_18 : decode cX4_restore 18 = .ok (.aload_n 0, 1) := by decide +kernel
theorem dX4_restore_19 : decode cX4_restore 19 = .ok (.getfield 13, 3) := by decide +kernel
theorem dX4_restore_22 : decode cX4_restore 22 = .ok (.invokestatic 186, 3) := by decide +kernel
theorem dX4_restore_25 : decode cX4_restore 25 = .ok (.aload_n 0, 1) := by decide +kernel
theorem dX4_restore_26 : decode cX4_restore 26 = .ok (.getfield 46, 3) := by decide +kernel
theorem dX4_restore_29 : decode cX4_restore 29 = .ok (.aload_n 0, 1) := by decide +kernel
theorem dX4_restore_30 : decode cX4_restore 30 = .ok (.getfield 16, 3) := by decide +kernel
theorem dX4_restore_33 : decode cX4_restore 33 = .ok (.invokestatic 186, 3) := by decide +kernel
theorem dX4_restore_36 : decode cX4_restore 36 = .ok (.aload_n 0, 1) := by decide +kernel
theorem dX4_restore_37 : decode cX4_restore 37 = .ok (.getfield 49, 3) := by decide +kernel
theorem dX4_restore_40 : decode cX4_restore 40 = .ok (.aload_n 0, 1) := by decide +kernel
theorem dX4_restore_41 : decode cX4_restore 41 = .ok (.getfield 19, 3) := by decide +kernel
theorem dX4_restore_44 : decode cX4_restore 44 = .ok (.invokestatic 186, 3) := by decide +kernel
theorem dX4_restore_47 : decode cX4_restore 47 = .ok (.aload_n 0, 1) := by decide +kernel
theorem dX4_restore_48 : decode cX4_restore 48 = .ok (.getfield 52, 3) := by decide +kernel
theorem dX4_restore_51 : decode cX4_restore 51 = .ok (.aload_n 0, 1) := by decide +kernel
theorem dX4_restore_52 : decode cX4_restore 52 = .ok (.getfield 40, 3) := by decide +kernel
theorem dX4_restore_55 : decode cX4_restore 55 = .ok (.invokestatic 186, 3) := by decide +kernel
theorem dX4_restore_58 : decode cX4_restore 58 = .ok (.aload_n 0, 1) := by decide +kernel
theorem dX4_restore_59 : decode cX4_restore 59 = .ok (.aload_n 0, 1) := by decide +kernel
theorem dX4_restore_60 : decode cX4_restore 60 = .ok (.getfield 248, 3) := by decide +kernel
theorem dX4_restore_63 : decode cX4_restore 63 = .ok (.putfield 95, 3) := by decide +kernel
theorem dX4_restore_66 : decode cX4_restore 66 = .ok (.aload_n 0, 1) := by decide +kernel
theorem dX4_restore_67 : decode cX4_restore 67 = .ok (.aload_n 0, 1) := by decide +kernel
theorem dX4_restore_68 : decode cX4_restore 68 = .ok (.getfield 251, 3) := by decide +kernel
theorem dX4_restore_71 : decode cX4_restore 71 = .ok (.putfield 98, 3) := by decide +kernel
theorem dX4_restore_74 : decode cX4_restore 74 = .ok (.aload_n 0, 1) := by decide +kernel
theorem dX4_restore_75 : decode cX4_restore 75 = .ok (.getfield 95, 3) := by decide +kernel
theorem dX4_restore_78 : decode cX4_restore 78 = .ok (.ireturn, 1) := by decide +kernel
theorem dX4_crossed_0 : decode cX4_crossed 0 = .ok (.iconst 0, 1) := by decide +kernel
theorem dX4_crossed_1 : decode cX4_crossed 1 = .ok (.istore_n 1, 1) := by decide +kernel
theorem dX4_crossed_2 : decode cX4_crossed 2 = .ok (.iconst 0, 1) := by decide +kernel
theorem dX4_crossed_3 : decode cX4_crossed 3 = .ok (.istore_n 2, 1) := by decide +kernel
theorem dX4_crossed_4 : decode cX4_crossed 4 = .ok (.iload_n 2, 1) := by decide +kernel
theorem dX4_crossed_5 : decode cX4_crossed 5 = .ok (.aload_n 0, 1) := by decide +kernel
theorem dX4_crossed_6 : decode cX4_crossed 6 = .ok (.getfield 86, 3) := by decide +kernel
theorem dX4_crossed_9 : decode cX4_crossed 9 = .ok (.aload_n 0, 1) := by decide +kernel
theorem dX4_crossed_10 : decode cX4_crossed 10 = .ok (.getfield 86, 3) := by decide +kernel
theorem dX4_crossed_13 : decode cX4_crossed 13 = .ok (.imul, 1) := by decide +kernel
theorem dX4_crossed_14 : decode cX4_crossed 14 = .ok (.if_icmp .ge 54, 3) := by decide +kernel
theorem dX4_crossed_17 : decode cX4_crossed 17 = .ok (.iload_n 2, 1) := by decide +kernel
theorem dX4_crossed_18 : decode cX4_crossed 18 = .ok (.aload_n 0, 1) := by decide +kernel
theorem dX4_crossed_19 : decode cX4_crossed 19 = .ok (.getfield 86, 3) := by decide +kernel
theorem dX4_crossed_22 : decode cX4_crossed 22 = .ok (.idiv, 1) := by decide +kernel
theorem dX4_crossed_23 : decode cX4_crossed 23 = .ok (.istore_n 3, 1) := by decide +kernel
theorem dX4_crossed_24 : decode cX4_crossed 24 = .ok (.iload_n 2, 1) := by decide +kernel
theorem dX4_crossed_25 : decode cX4_crossed 25 = .ok (.aload_n 0, 1) := by decide +kernel
theorem dX4_crossed_26 : decode cX4_crossed 26 = .ok (.getfield 86, 3) := by decide +kernel
theorem dX4_crossed_29 : decode cX4_crossed 29 = .ok (.irem, 1) := by decide +kernel
theorem dX4_crossed_30 : decode cX4_crossed 30 = .ok (.istore 4, 2) := by decide +kernel
theorem dX4_crossed_32 : decode cX4_crossed 32 = .ok (.iload_n 1, 1) := by decide +kernel
theorem dX4_crossed_33 : decode cX4_crossed 33 = .ok (.iload_n 3, 1) := by decide +kernel
theorem dX4_crossed_34 : decode cX4_crossed 34 = .ok (.iload 4, 2) := by decide +kernel
theorem dX4_crossed_36 : decode cX4_crossed 36 = .ok (.if_icmp .ge 23, 3) := by decide +kernel
theorem dX4_crossed_39 : decode cX4_crossed 39 = .ok (.aload_n 0, 1) := by decide +kernel
theorem dX4_crossed_40 : decode cX4_crossed 40 = .ok (.getfield 19, 3) := by decide +kernel
theorem dX4_crossed_43 : decode cX4_crossed 43 = .ok (.iload_n 3, 1) := by decide +kernel
theorem dX4_crossed_44 : decode cX4_crossed 44 = .ok (.iaload, 1) := by decide +kernel
theorem dX4_crossed_45 : decode cX4_crossed 45 = .ok (.aload_n 0, 1) := by decide +kernel
theorem dX4_crossed_46 : decode cX4_crossed 46 = .ok (.getfield 19, 3) := by decide +kernel
theorem dX4_crossed_49 : decode cX4_crossed 49 = .ok (.iload 4, 2) := by decide +kernel
theorem dX4_crossed_51 : decode cX4_crossed 51 = .ok (.iaload, 1) := by decide +kernel
theorem dX4_crossed_52 : decode cX4_crossed 52 = .ok (.if_icmp .le 7, 3) := by decide +kernel
theorem dX4_crossed_55 : decode cX4_crossed 55 = .ok (.iconst 1, 1) := by decide +kernel
theorem dX4_crossed_56 : decode cX4_crossed 56 = .ok (.goto 4, 3) := by decide +kernel
theorem dX4_crossed_59 : decode cX4_crossed 59 = .ok (.iconst 0, 1) := by decide +kernel
theorem dX4_crossed_60 : decode cX4_crossed 60 = .ok (.iadd, 1) := by decide +kernel
theorem dX4_crossed_61 : decode cX4_crossed 61 = .ok (.istore_n 1, 1) := by decide +kernel
theorem dX4_crossed_62 : decode cX4_crossed 62 = .ok (.iinc 2 1, 3) := by decide +kernel
theorem dX4_crossed_65 : decode cX4_crossed 65 = .ok (.goto (-61), 3) := by decide +kernel
theorem dX4_crossed_68 : decode cX4_crossed 68 = .ok (.iload_n 1, 1) := by decide +kernel
theorem dX4_crossed_69 : decode cX4_crossed 69 = .ok (.ireturn, 1) := by decide +kernel
theorem dX4_countOf_0 : decode cX4_countOf 0 = .ok (.iload_n 1, 1) := by decide +kernel
theorem dX4_countOf_1 : decode cX4_countOf 1 = .ok (.tableswitch 100 0 8 #[51, 56, 61, 70, 75, 80, 85, 90, 95], 51) := by decide +kernel
theorem dX4_countOf_52 : decode cX4_countOf 52 = .ok (.aload_n 0, 1) := by decide +kernel
theorem dX4_countOf_53 : decode cX4_countOf 53 = .ok (.getfield 86, 3) := by decide +kernel
theorem dX4_countOf_56 : decode cX4_countOf 56 = .ok (.ireturn, 1) := by decide +kernel
theorem dX4_countOf_57 : decode cX4_countOf 57 = .ok (.aload_n 0, 1) := by decide +kernel
theorem dX4_countOf_58 : decode cX4_countOf 58 = .ok (.getfield 89, 3) := by decide +kernel
theorem dX4_countOf_61 : decode cX4_countOf 61 = .ok (.ireturn, 1) := by decide +kernel
theorem dX4_countOf_62 : decode cX4_countOf 62 = .ok (.aload_n 0, 1) := by decide +kernel
theorem dX4_countOf_63 : decode cX4_countOf 63 = .ok (.aload_n 0, 1) := by decide +kernel
theorem dX4_countOf_64 : decode cX4_countOf 64 = .ok (.getfield 19, 3) := by decide +kernel
theorem dX4_countOf_67 : decode cX4_countOf 67 = .ok (.invokevirtual 194, 3) := by decide +kernel
theorem dX4_countOf_70 : decode cX4_countOf 70 = .ok (.ireturn, 1) := by decide +kernel
theorem dX4_countOf_71 : decode cX4_countOf 71 = .ok (.aload_n 0, 1) := by decide +kernel
theorem dX4_countOf_72 : decode cX4_countOf 72 = .ok (.invokevirtual 254, 3) := by decide +kernel
theorem dX4_countOf_75 : decode cX4_countOf 75 = .ok (.ireturn, 1) := by decide +kernel
theorem dX4_countOf_76 : decode cX4_countOf 76 = .ok (.aload_n 0, 1) := by decide +kernel
theorem dX4_countOf_77 : decode cX4_countOf 77 = .ok (.getfield 95, 3) := by decide +kernel
theorem dX4_countOf_80 : decode cX4_countOf 80 = .ok (.ireturn, 1) := by decide +kernel
theorem dX4_countOf_81 : decode cX4_countOf 81 = .ok (.aload_n 0, 1) := by decide +kernel
theorem dX4_countOf_82 : decode cX4_countOf 82 = .ok (.getfield 98, 3) := by decide +kernel
theorem dX4_countOf_85 : decode cX4_countOf 85 = .ok (.ireturn, 1) := by decide +kernel
theorem dX4_countOf_86 : decode cX4_countOf 86 = .ok (.aload_n 0, 1) := by decide +kernel
theorem dX4_countOf_87 : decode cX4_countOf 87 = .ok (.getfield 65, 3) := by decide +kernel
theorem dX4_countOf_90 : decode cX4_countOf 90 = .ok (.ireturn, 1) := by decide +kernel
theorem dX4_countOf_91 : decode cX4_countOf 91 = .ok (.aload_n 0, 1) := by decide +kernel
theorem dX4_countOf_92 : decode cX4_countOf 92 = .ok (.getfield 101, 3) := by decide +kernel
theorem dX4_countOf_95 : decode cX4_countOf 95 = .ok (.ireturn, 1) := by decide +kernel
theorem dX4_countOf_96 : decode cX4_countOf 96 = .ok (.aload_n 0, 1) := by decide +kernel
theorem dX4_countOf_97 : decode cX4_countOf 97 = .ok (.getfield 219, 3) := by decide +kernel
theorem dX4_countOf_100 : decode cX4_countOf 100 = .ok (.ireturn, 1) := by decide +kernel
theorem dX4_countOf_101 : decode cX4_countOf 101 = .ok (.bipush (-102), 2) := by decide +kernel
theorem dX4_countOf_103 : decode cX4_countOf 103 = .ok (.ireturn, 1) := by decide +kernel
theorem dX4_count_0 : decode cX4_count 0 = .ok (.aload_n 0, 1) := by decide +kernel
theorem dX4_count_1 : decode cX4_count 1 = .ok (.iload_n 1, 1) := by decide +kernel
theorem dX4_count_2 : decode cX4_count 2 = .ok (.invokevirtual 257, 3) := by decide +kernel
theorem dX4_count_5 : decode cX4_count 5 = .ok (.ireturn, 1) := by decide +kernel
theorem dX4_say_0 : decode cX4_say 0 = .ok (.aload_n 0, 1) := by decide +kernel
theorem dX4_say_1 : decode cX4_say 1 = .ok (.ldc2_w 260, 3) := by decide +kernel
theorem dX4_say_4 : decode cX4_say 4 = .ok (.aload_n 0, 1) := by decide +kernel
theorem dX4_say_5 : decode cX4_say 5 = .ok (.getfield 262, 3) := by decide +kernel
theorem dX4_say_8 : decode cX4_say 8 = .ok (.lmul, 1) := by decide +kernel
theorem dX4_say_9 : decode cX4_say 9 = .ok (.lload_n 1, 1) := by decide +kernel
theorem dX4_say_10 : decode cX4_say 10 = .ok (.ladd, 1) := by decide +kernel
theorem dX4_say_11 : decode cX4_say 11 = .ok (.putfield 262, 3) := by decide +kernel
theorem dX4_say_14 : decode cX4_say 14 = .ok (.return_, 1) := by decide +kernel
theorem dX4_sayRoutine_0 : decode cX4_sayRoutine 0 = .ok (.iconst 0, 1) := by decide +kernel
theorem dX4_sayRoutine_1 : decode cX4_sayRoutine 1 = .ok (.istore_n 1, 1) := by decide +kernel
theorem dX4_sayRoutine_2 : decode cX4_sayRoutine 2 = .ok (.iload_n 1, 1) := by decide +kernel
theorem dX4_sayRoutine_3 : decode cX4_sayRoutine 3 = .ok (.iconst 4, 1) := by decide +kernel
theorem dX4_sayRoutine_4 : decode cX4_sayRoutine 4 = .ok (.if_icmp .ge 19, 3) := by decide +kernel
theorem dX4_sayRoutine_7 : decode cX4_sayRoutine 7 = .ok (.aload_n 0, 1) := by decide +kernel
theorem dX4_sayRoutine_8 : decode cX4_sayRoutine 8 = .ok (.aload_n 0, 1) := by decide +kernel
theorem dX4_sayRoutine_9 : decode cX4_sayRoutine 9 = .ok (.iload_n 1, 1) := by decide +kernel
theorem dX4_sayRoutine_10 : decode cX4_sayRoutine 10 = .ok (.invokevirtual 164, 3) := by decide +kernel
theorem dX4_sayRoutine_13 : decode cX4_sayRoutine 13 = .ok (.i2l, 1) := by decide +kernel
theorem dX4_sayRoutine_14 : decode cX4_sayRoutine 14 = .ok (.invokevirtual 266, 3) := by decide +kernel
theorem dX4_sayRoutine_17 : decode cX4_sayRoutine 17 = .ok (.iinc 1 1, 3) := by decide +kernel
theorem dX4_sayRoutine_20 : decode cX4_sayRoutine 20 = .ok (.goto (-18), 3) := by decide +kernel
theorem dX4_sayRoutine_23 : decode cX4_sayRoutine 23 = .ok (.aload_n 0, 1) := by decide +kernel
theorem dX4_sayRoutine_24 : decode cX4_sayRoutine 24 = .ok (.aload_n 0, 1) := by decide +kernel
theorem dX4_sayRoutine_25 : decode cX4_sayRoutine 25 = .ok (.iconst 0, 1) := by decide +kernel
theorem dX4_sayRoutine_26 : decode cX4_sayRoutine 26 = .ok (.iconst 1, 1) := by decide +kernel
theorem dX4_sayRoutine_27 : decode cX4_sayRoutine 27 = .ok (.iconst 0, 1) := by decide +kernel
theorem dX4_sayRoutine_28 : decode cX4_sayRoutine 28 = .ok (.invokevirtual 206, 3) := by decide +kernel
theorem dX4_sayRoutine_31 : decode cX4_sayRoutine 31 = .ok (.i2l, 1) := by decide +kernel
theorem dX4_sayRoutine_32 : decode cX4_sayRoutine 32 = .ok (.invokevirtual 266, 3) := by decide +kernel
theorem dX4_sayRoutine_35 : decode cX4_sayRoutine 35 = .ok (.aload_n 0, 1) := by decide +kernel
theorem dX4_sayRoutine_36 : decode cX4_sayRoutine 36 = .ok (.aload_n 0, 1) := by decide +kernel
theorem dX4_sayRoutine_37 : decode cX4_sayRoutine 37 = .ok (.iconst 0, 1) := by decide +kernel
theorem dX4_sayRoutine_38 : decode cX4_sayRoutine 38 = .ok (.iconst 1, 1) := by decide +kernel
theorem dX4_sayRoutine_39 : decode cX4_sayRoutine 39 = .ok (.iconst 1, 1) := by decide +kernel
theorem dX4_sayRoutine_40 : decode cX4_sayRoutine 40 = .ok (.invokevirtual 206, 3) := by decide +kernel
theorem dX4_sayRoutine_43 : decode cX4_sayRoutine 43 = .ok (.i2l, 1) := by decide +kernel
theorem dX4_sayRoutine_44 : decode cX4_sayRoutine 44 = .ok (.invokevirtual 266, 3) := by decide +kernel
theorem dX4_sayRoutine_47 : decode cX4_sayRoutine 47 = .ok (.aload_n 0, 1) := by decide +kernel
theorem dX4_sayRoutine_48 : decode cX4_sayRoutine 48 = .ok (.aload_n 0, 1) := by decide +kernel
theorem dX4_sayRoutine_49 : decode cX4_sayRoutine 49 = .ok (.iconst 0, 1) := by decide +kernel
theorem dX4_sayRoutine_50 : decode cX4_sayRoutine 50 = .ok (.iconst 1, 1) := by decide +kernel
theorem dX4_sayRoutine_51 : decode cX4_sayRoutine 51 = .ok (.iconst 3, 1) := by decide +kernel
theorem dX4_sayRoutine_52 : decode cX4_sayRoutine 52 = .ok (.iconst 0, 1) := by decide +kernel
theorem dX4_sayRoutine_53 : decode cX4_sayRoutine 53 = .ok (.invokevirtual 227, 3) := by decide +kernel
theorem dX4_sayRoutine_56 : decode cX4_sayRoutine 56 = .ok (.i2l, 1) := by decide +kernel
theorem dX4_sayRoutine_57 : decode cX4_sayRoutine 57 = .ok (.invokevirtual 266, 3) := by decide +kernel
theorem dX4_sayRoutine_60 : decode cX4_sayRoutine 60 = .ok (.aload_n 0, 1) := by decide +kernel
theorem dX4_sayRoutine_61 : decode cX4_sayRoutine 61 = .ok (.aload_n 0, 1) := by decide +kernel
theorem dX4_sayRoutine_62 : decode cX4_sayRoutine 62 = .ok (.iconst 0, 1) := by decide +kernel
theorem dX4_sayRoutine_63 : decode cX4_sayRoutine 63 = .ok (.iconst 1, 1) := by decide +kernel
theorem dX4_sayRoutine_64 : decode cX4_sayRoutine 64 = .ok (.iconst 3, 1) := by decide +kernel
theorem dX4_sayRoutine_65 : decode cX4_sayRoutine 65 = .ok (.iconst 1, 1) := by decide +kernel
theorem dX4_sayRoutine_66 : decode cX4_sayRoutine 66 = .ok (.invokevirtual 227, 3) := by decide +kernel
theorem dX4_sayRoutine_69 : decode cX4_sayRoutine 69 = .ok (.i2l, 1) := by decide +kernel
theorem dX4_sayRoutine_70 : decode cX4_sayRoutine 70 = .ok (.invokevirtual 266, 3) := by decide +kernel
theorem dX4_sayRoutine_73 : decode cX4_sayRoutine 73 = .ok (.return_, 1) := by decide +kernel
theorem dX4_digest_0 : decode cX4_digest 0 = .ok (.aload_n 0, 1) := by decide +kernel
theorem dX4_digest_1 : decode cX4_digest 1 = .ok (.ldc2_w 270, 3) := by decide +kernel
theorem dX4_digest_4 : decode cX4_digest 4 = .ok (.putfield 262, 3) := by decide +kernel
theorem dX4_digest_7 : decode cX4_digest 7 = .ok (.iconst 0, 1) := by decide +kernel
theorem dX4_digest_8 : decode cX4_digest 8 = .ok (.istore_n 1, 1) := by decide +kernel
theorem dX4_digest_9 : decode cX4_digest 9 = .ok (.iload_n 1, 1) := by decide +kernel
theorem dX4_digest_10 : decode cX4_digest 10 = .ok (.aload_n 0, 1) := by decide +kernel
theorem dX4_digest_11 : decode cX4_digest 11 = .ok (.getfield 89, 3) := by decide +kernel
theorem dX4_digest_14 : decode cX4_digest 14 = .ok (.if_icmp .ge 34, 3) := by decide +kernel
theorem dX4_digest_17 : decode cX4_digest 17 = .ok (.iconst 0, 1) := by decide +kernel
theorem dX4_digest_18 : decode cX4_digest 18 = .ok (.istore_n 2, 1) := by decide +kernel
theorem dX4_digest_19 : decode cX4_digest 19 = .ok (.iload_n 2, 1) := by decide +kernel
theorem dX4_digest_20 : decode cX4_digest 20 = .ok (.bipush 6, 2) := by decide +kernel
theorem dX4_digest_22 : decode cX4_digest 22 = .ok (.if_icmp .ge 20, 3) := by decide +kernel
theorem dX4_digest_25 : decode cX4_digest 25 = .ok (.aload_n 0, 1) := by decide +kernel
theorem dX4_digest_26 : decode cX4_digest 26 = .ok (.aload_n 0, 1) := by decide +kernel
theorem dX4_digest_27 : decode cX4_digest 27 = .ok (.iload_n 1, 1) := by decide +kernel
theorem dX4_digest_28 : decode cX4_digest 28 = .ok (.iload_n 2, 1) := by decide +kernel
theorem dX4_digest_29 : decode cX4_digest 29 = .ok (.invokevirtual 181, 3) := by decide +kernel
theorem dX4_digest_32 : decode cX4_digest 32 = .ok (.i2l, 1) := by decide +kernel
theorem dX4_digest_33 : decode cX4_digest 33 = .ok (.invokevirtual 266, 3) := by decide +kernel
theorem dX4_digest_36 : decode cX4_digest 36 = .ok (.iinc 2 1, 3) := by decide +kernel
theorem dX4_digest_39 : decode cX4_digest 39 = .ok (.goto (-20), 3) := by decide +kernel
theorem dX4_digest_42 : decode cX4_digest 42 = .ok (.iinc 1 1, 3) := by decide +kernel
theorem dX4_digest_45 : decode cX4_digest 45 = .ok (.goto (-36), 3) := by decide +kernel
theorem dX4_digest_48 : decode cX4_digest 48 = .ok (.iconst 0, 1) := by decide +kernel
theorem dX4_digest_49 : decode cX4_digest 49 = .ok (.istore_n 1, 1) := by decide +kernel
theorem dX4_digest_50 : decode cX4_digest 50 = .ok (.iload_n 1, 1) := by decide +kernel
theorem dX4_digest_51 : decode cX4_digest 51 = .ok (.aload_n 0, 1) := by decide +kernel
theorem dX4_digest_52 : decode cX4_digest 52 = .ok (.getfield 86, 3) := by decide +kernel
theorem dX4_digest_55 : decode cX4_digest 55 = .ok (.if_icmp .ge 42, 3) := by decide +kernel
theorem dX4_digest_58 : decode cX4_digest 58 = .ok (.aload_n 0, 1) := by decide +kernel
theorem dX4_digest_59 : decode cX4_digest 59 = .ok (.aload_n 0, 1) := by decide +kernel
theorem dX4_digest_60 : decode cX4_digest 60 = .ok (.getfield 19, 3) := by decide +kernel
theorem dX4_digest_63 : decode cX4_digest 63 = .ok (.iload_n 1, 1) := by decide +kernel
theorem dX4_digest_64 : decode cX4_digest 64 = .ok (.iaload, 1) := by decide +kernel
theorem dX4_digest_65 : decode cX4_digest 65 = .ok (.i2l, 1) := by decide +kernel
theorem dX4_digest_66 : decode cX4_digest 66 = .ok (.invokevirtual 266, 3) := by decide +kernel
theorem dX4_digest_69 : decode cX4_digest 69 = .ok (.aload_n 0, 1) := by decide +kernel
theorem dX4_digest_70 : decode cX4_digest 70 = .ok (.aload_n 0, 1) := by decide +kernel
theorem dX4_digest_71 : decode cX4_digest 71 = .ok (.iload_n 1, 1) := by decide +kernel
theorem dX4_digest_72 : decode cX4_digest 72 = .ok (.invokevirtual 131, 3) := by decide +kernel
theorem dX4_digest_75 : decode cX4_digest 75 = .ok (.i2l, 1) := by decide +kernel
theorem dX4_digest_76 : decode cX4_digest 76 = .ok (.invokevirtual 266, 3) := by decide +kernel
theorem dX4_digest_79 : decode cX4_digest 79 = .ok (.aload_n 0, 1) := by decide +kernel
theorem dX4_digest_80 : decode cX4_digest 80 = .ok (.aload_n 0, 1) := by decide +kernel
theorem dX4_digest_81 : decode cX4_digest 81 = .ok (.iload_n 1, 1) := by decide +kernel
theorem dX4_digest_82 : decode cX4_digest 82 = .ok (.bipush 7, 2) := by decide +kernel
theorem dX4_digest_84 : decode cX4_digest 84 = .ok (.invokevirtual 169, 3) := by decide +kernel
theorem dX4_digest_87 : decode cX4_digest 87 = .ok (.i2l, 1) := by decide +kernel
theorem dX4_digest_88 : decode cX4_digest 88 = .ok (.invokevirtual 266, 3) := by decide +kernel
theorem dX4_digest_91 : decode cX4_digest 91 = .ok (.iinc 1 1, 3) := by decide +kernel
theorem dX4_digest_94 : decode cX4_digest 94 = .ok (.goto (-44), 3) := by decide +kernel
theorem dX4_digest_97 : decode cX4_digest 97 = .ok (.aload_n 0, 1) := by decide +kernel
theorem dX4_digest_98 : decode cX4_digest 98 = .ok (.invokevirtual 160, 3) := by decide +kernel
theorem dX4_digest_101 : decode cX4_digest 101 = .ok (.ifCond .ne 7, 3) := by decide +kernel
theorem dX4_digest_104 : decode cX4_digest 104 = .ok (.aload_n 0, 1) := by decide +kernel
theorem dX4_digest_105 : decode cX4_digest 105 = .ok (.invokevirtual 272, 3) := by decide +kernel
theorem dX4_digest_108 : decode cX4_digest 108 = .ok (.iconst 0, 1) := by decide +kernel
theorem dX4_digest_109 : decode cX4_digest 109 = .ok (.istore_n 1, 1) := by decide +kernel
theorem dX4_digest_110 : decode cX4_digest 110 = .ok (.iload_n 1, 1) := by decide +kernel
theorem dX4_digest_111 : decode cX4_digest 111 = .ok (.aload_n 0, 1) := by decide +kernel
theorem dX4_digest_112 : decode cX4_digest 112 = .ok (.getfield 65, 3) := by decide +kernel
theorem dX4_digest_115 : decode cX4_digest 115 = .ok (.if_icmp .ge 20, 3) := by decide +kernel
theorem dX4_digest_118 : decode cX4_digest 118 = .ok (.aload_n 0, 1) := by decide +kernel
theorem dX4_digest_119 : decode cX4_digest 119 = .ok (.aload_n 0, 1) := by decide +kernel
theorem dX4_digest_120 : decode cX4_digest 120 = .ok (.getfield 7, 3) := by decide +kernel
theorem dX4_digest_123 : decode cX4_digest 123 = .ok (.iload_n 1, 1) := by decide +kernel
theorem dX4_digest_124 : decode cX4_digest 124 = .ok (.iaload, 1) := by decide +kernel
theorem dX4_digest_125 : decode cX4_digest 125 = .ok (.i2l, 1) := by decide +kernel
theorem dX4_digest_126 : decode cX4_digest 126 = .ok (.invokevirtual 266, 3) := by decide +kernel
theorem dX4_digest_129 : decode cX4_digest 129 = .ok (.iinc 1 1, 3) := by decide +kernel
theorem dX4_digest_132 : decode cX4_digest 132 = .ok (.goto (-22), 3) := by decide +kernel
theorem dX4_digest_135 : decode cX4_digest 135 = .ok (.iconst 0, 1) := by decide +kernel
theorem dX4_digest_136 : decode cX4_digest 136 = .ok (.istore_n 1, 1) := by decide +kernel
theorem dX4_digest_137 : decode cX4_digest 137 = .ok (.iload_n 1, 1) := by decide +kernel
theorem dX4_digest_138 : decode cX4_digest 138 = .ok (.bipush 9, 2) := by decide +kernel
theorem dX4_digest_140 : decode cX4_digest 140 = .ok (.if_icmp .ge 19, 3) := by decide +kernel
theorem dX4_digest_143 : decode cX4_digest 143 = .ok (.aload_n 0, 1) := by decide +kernel
theorem dX4_digest_144 : decode cX4_digest 144 = .ok (.aload_n 0, 1) := by decide +kernel
theorem dX4_digest_145 : decode cX4_digest 145 = .ok (.iload_n 1, 1) := by decide +kernel
theorem dX4_digest_146 : decode cX4_digest 146 = .ok (.invokevirtual 257, 3) := by decide +kernel
theorem dX4_digest_149 : decode cX4_digest 149 = .ok (.i2l, 1) := by decide +kernel
theorem dX4_digest_150 : decode cX4_digest 150 = .ok (.invokevirtual 266, 3) := by decide +kernel
theorem dX4_digest_153 : decode cX4_digest 153 = .ok (.iinc 1 1, 3) := by decide +kernel
theorem dX4_digest_156 : decode cX4_digest 156 = .ok (.goto (-19), 3) := by decide +kernel
theorem dX4_digest_159 : decode cX4_digest 159 = .ok (.aload_n 0, 1) := by decide +kernel
theorem dX4_digest_160 : decode cX4_digest 160 = .ok (.getfield 262, 3) := by decide +kernel
theorem dX4_digest_163 : decode cX4_digest 163 = .ok (.lreturn, 1) := by decide +kernel
theorem dJ0_length_8abf5_0 : decode cJ0_length_8abf5 0 = .ok (.aload_n 0, 1) := by decide +kernel
theorem dJ0_length_8abf5_1 : decode cJ0_length_8abf5 1 = .ok (.getfield 9, 3) := by decide +kernel
theorem dJ0_length_8abf5_4 : decode cJ0_length_8abf5 4 = .ok (.arraylength, 1) := by decide +kernel
theorem dJ0_length_8abf5_5 : decode cJ0_length_8abf5 5 = .ok (.aload_n 0, 1) := by decide +kernel
theorem dJ0_length_8abf5_6 : decode cJ0_length_8abf5 6 = .ok (.invokevirtual 335, 3) := by decide +kernel
theorem dJ0_length_8abf5_9 : decode cJ0_length_8abf5 9 = .ok (.ishr, 1) := by decide +kernel
theorem dJ0_length_8abf5_10 : decode cJ0_length_8abf5 10 = .ok (.ireturn, 1) := by decide +kernel
theorem dJ0_indexOf_0f7a4_0 : decode cJ0_indexOf_0f7a4 0 = .ok (.aload_n 0, 1) := by decide +kernel
theorem dJ0_indexOf_0f7a4_1 : decode cJ0_indexOf_0f7a4 1 = .ok (.iload_n 1, 1) := by decide +kernel
theorem dJ0_indexOf_0f7a4_2 : decode cJ0_indexOf_0f7a4 2 = .ok (.iconst 0, 1) := by decide +kernel
theorem dJ0_indexOf_0f7a4_3 : decode cJ0_indexOf_0f7a4 3 = .ok (.invokevirtual 633, 3) := by decide +kernel
theorem dJ0_indexOf_0f7a4_6 : decode cJ0_indexOf_0f7a4 6 = .ok (.ireturn, 1) := by decide +kernel
theorem dJ0_indexOf_7cf53_0 : decode cJ0_indexOf_7cf53 0 = .ok (.aload_n 0, 1) := by decide +kernel
theorem dJ0_indexOf_7cf53_1 : decode cJ0_indexOf_7cf53 1 = .ok (.invokevirtual 492, 3) := by decide +kernel
theorem dJ0_indexOf_7cf53_4 : decode cJ0_indexOf_7cf53 4 = .ok (.ifCond .eq 19, 3) := by decide +kernel
theorem dJ0_indexOf_7cf53_7 : decode cJ0_indexOf_7cf53 7 = .ok (.aload_n 0, 1) := by decide +kernel
theorem dJ0_indexOf_7cf53_8 : decode cJ0_indexOf_7cf53 8 = .ok (.getfield 9, 3) := by decide +kernel
theorem dJ0_indexOf_7cf53_11 : decode cJ0_indexOf_7cf53 11 = .ok (.iload_n 1, 1) := by decide +kernel
theorem dJ0_indexOf_7cf53_12 : decode cJ0_indexOf_7cf53 12 = .ok (.iload_n 2, 1) := by decide +kernel
theorem dJ0_indexOf_7cf53_13 : decode cJ0_indexOf_7cf53 13 = .ok (.aload_n 0, 1) := by decide +kernel
theorem dJ0_indexOf_7cf53_14 : decode cJ0_indexOf_7cf53 14 = .ok (.invokevirtual 505, 3) := by decide +kernel
theorem dJ0_indexOf_7cf53_17 : decode cJ0_indexOf_7cf53 17 = .ok (.invokestatic 637, 3) := by decide +kernel
theorem dJ0_indexOf_7cf53_20 : decode cJ0_indexOf_7cf53 20 = .ok (.goto 16, 3) := by decide +kernel
theorem dJ0_indexOf_7cf53_23 : decode cJ0_indexOf_7cf53 23 = .ok (.aload_n 0, 1) := by decide +kernel
theorem dJ0_indexOf_7cf53_24 : decode cJ0_indexOf_7cf53 24 = .ok (.getfield 9, 3) := by decide +kernel
theorem dJ0_indexOf_7cf53_27 : decode cJ0_indexOf_7cf53 27 = .ok (.iload_n 1, 1) := by decide +kernel
theorem dJ0_indexOf_7cf53_28 : decode cJ0_indexOf_7cf53 28 = .ok (.iload_n 2, 1) := by decide +kernel
theorem dJ0_indexOf_7cf53_29 : decode cJ0_indexOf_7cf53 29 = .ok (.aload_n 0, 1) := by decide +kernel
theorem dJ0_indexOf_7cf53_30 : decode cJ0_indexOf_7cf53 30 = .ok (.invokevirtual 505, 3) := by decide +kernel
theorem dJ0_indexOf_7cf53_33 : decode cJ0_indexOf_7cf53 33 = .ok (.invokestatic 640, 3) := by decide +kernel
theorem dJ0_indexOf_7cf53_36 : decode cJ0_indexOf_7cf53 36 = .ok (.ireturn, 1) := by decide +kernel
theorem dJ0_coder_7d493_0 : decode cJ0_coder_7d493 0 = .ok (.getstatic 38, 3) := by decide +kernel
theorem dJ0_coder_7d493_3 : decode cJ0_coder_7d493 3 = .ok (.ifCond .eq 10, 3) := by decide +kernel
theorem dJ0_coder_7d493_6 : decode cJ0_coder_7d493 6 = .ok (.aload_n 0, 1) := by decide +kernel
theorem dJ0_coder_7d493_7 : decode cJ0_coder_7d493 7 = .ok (.getfield 15, 3) := by decide +kernel
theorem dJ0_coder_7d493_10 : decode cJ0_coder_7d493 10 = .ok (.goto 4, 3) := by decide +kernel
theorem dJ0_coder_7d493_13 : decode cJ0_coder_7d493 13 = .ok (.iconst 1, 1) := by decide +kernel
theorem dJ0_coder_7d493_14 : decode cJ0_coder_7d493 14 = .ok (.ireturn, 1) := by decide +kernel
theorem dJ0_isLatin1_aae02_0 : decode cJ0_isLatin1_aae02 0 = .ok (.getstatic 38, 3) := by decide +kernel
theorem dJ0_isLatin1_aae02_3 : decode cJ0_isLatin1_aae02 3 = .ok (.ifCond .eq 14, 3) := by decide +kernel
theorem dJ0_isLatin1_aae02_6 : decode cJ0_isLatin1_aae02 6 = .ok (.aload_n 0, 1) := by decide +kernel
theorem dJ0_isLatin1_aae02_7 : decode cJ0_isLatin1_aae02 7 = .ok (.getfield 15, 3) := by decide +kernel
theorem dJ0_isLatin1_aae02_10 : decode cJ0_isLatin1_aae02 10 = .ok (.ifCond .ne 7, 3) := by decide +kernel
theorem dJ0_isLatin1_aae02_13 : decode cJ0_isLatin1_aae02 13 = .ok (.iconst 1, 1) := by decide +kernel
theorem dJ0_isLatin1_aae02_14 : decode cJ0_isLatin1_aae02 14 = .ok (.goto 4, 3) := by decide +kernel
theorem dJ0_isLatin1_aae02_17 : decode cJ0_isLatin1_aae02 17 = .ok (.iconst 0, 1) := by decide +kernel
theorem dJ0_isLatin1_aae02_18 : decode cJ0_isLatin1_aae02 18 = .ok (.ireturn, 1) := by decide +kernel
theorem dJ1_canEncode_9a6ad_0 : decode cJ1_canEncode_9a6ad 0 = .ok (.iload_n 0, 1) := by decide +kernel
theorem dJ1_canEncode_9a6ad_1 : decode cJ1_canEncode_9a6ad 1 = .ok (.ifCond .lt 14, 3) := by decide +kernel
theorem dJ1_canEncode_9a6ad_4 : decode cJ1_canEncode_9a6ad 4 = .ok (.iload_n 0, 1) := by decide +kernel
theorem dJ1_canEncode_9a6ad_5 : decode cJ1_canEncode_9a6ad 5 = .ok (.sipush 255, 3) := by decide +kernel
theorem dJ1_canEncode_9a6ad_8 : decode cJ1_canEncode_9a6ad 8 = .ok (.if_icmp .gt 7, 3) := by decide +kernel
theorem dJ1_canEncode_9a6ad_11 : decode cJ1_canEncode_9a6ad 11 = .ok (.iconst 1, 1) := by decide +kernel
theorem dJ1_canEncode_9a6ad_12 : decode cJ1_canEncode_9a6ad 12 = .ok (.goto 4, 3) := by decide +kernel
theorem dJ1_canEncode_9a6ad_15 : decode cJ1_canEncode_9a6ad 15 = .ok (.iconst 0, 1) := by decide +kernel
theorem dJ1_canEncode_9a6ad_16 : decode cJ1_canEncode_9a6ad 16 = .ok (.ireturn, 1) := by decide +kernel
theorem dJ1_indexOf_4cfef_0 : decode cJ1_indexOf_4cfef 0 = .ok (.iload_n 1, 1) := by decide +kernel
theorem dJ1_indexOf_4cfef_1 : decode cJ1_indexOf_4cfef 1 = .ok (.invokestatic 88, 3) := by decide +kernel
theorem dJ1_indexOf_4cfef_4 : decode cJ1_indexOf_4cfef 4 = .ok (.ifCond .ne 5, 3) := by decide +kernel
theorem dJ1_indexOf_4cfef_7 : decode cJ1_indexOf_4cfef 7 = .ok (.iconst (-1), 1) := by decide +kernel
theorem dJ1_indexOf_4cfef_8 : decode cJ1_indexOf_4cfef 8 = .ok (.ireturn, 1) := by decide +kernel
theorem dJ1_indexOf_4cfef_9 : decode cJ1_indexOf_4cfef 9 = .ok (.iload_n 2, 1) := by decide +kernel
theorem dJ1_indexOf_4cfef_10 : decode cJ1_indexOf_4cfef 10 = .ok (.iconst 0, 1) := by decide +kernel
theorem dJ1_indexOf_4cfef_11 : decode cJ1_indexOf_4cfef 11 = .ok (.invokestatic 92, 3) := by decide +kernel
theorem dJ1_indexOf_4cfef_14 : decode cJ1_indexOf_4cfef 14 = .ok (.istore_n 2, 1) := by decide +kernel
theorem dJ1_indexOf_4cfef_15 : decode cJ1_indexOf_4cfef 15 = .ok (.iload_n 3, 1) := by decide +kernel
theorem dJ1_indexOf_4cfef_16 : decode cJ1_indexOf_4cfef 16 = .ok (.aload_n 0, 1) := by decide +kernel
theorem dJ1_indexOf_4cfef_17 : decode cJ1_indexOf_4cfef 17 = .ok (.arraylength, 1) := by decide +kernel
theorem dJ1_indexOf_4cfef_18 : decode cJ1_indexOf_4cfef 18 = .ok (.invokestatic 38, 3) := by decide +kernel
theorem dJ1_indexOf_4cfef_21 : decode cJ1_indexOf_4cfef 21 = .ok (.istore_n 3, 1) := by decide +kernel
theorem dJ1_indexOf_4cfef_22 : decode cJ1_indexOf_4cfef 22 = .ok (.iload_n 2, 1) := by decide +kernel
theorem dJ1_indexOf_4cfef_23 : decode cJ1_indexOf_4cfef 23 = .ok (.iload_n 3, 1) := by decide +kernel
theorem dJ1_indexOf_4cfef_24 : decode cJ1_indexOf_4cfef 24 = .ok (.if_icmp .lt 5, 3) := by decide +kernel
theorem dJ1_indexOf_4cfef_27 : decode cJ1_indexOf_4cfef 27 = .ok (.iconst (-1), 1) := by decide +kernel
theorem dJ1_indexOf_4cfef_28 : decode cJ1_indexOf_4cfef 28 = .ok (.ireturn, 1) := by decide +kernel
theorem dJ1_indexOf_4cfef_29 : decode cJ1_indexOf_4cfef 29 = .ok (.aload_n 0, 1) := by decide +kernel
theorem dJ1_indexOf_4cfef_30 : decode cJ1_indexOf_4cfef 30 = .ok (.iload_n 1, 1) := by decide +kernel
theorem dJ1_indexOf_4cfef_31 : decode cJ1_indexOf_4cfef 31 = .ok (.iload_n 2, 1) := by decide +kernel
theorem dJ1_indexOf_4cfef_32 : decode cJ1_indexOf_4cfef 32 = .ok (.iload_n 3, 1) := by decide +kernel
theorem dJ1_indexOf_4cfef_33 : decode cJ1_indexOf_4cfef 33 = .ok (.invokestatic 95, 3) := by decide +kernel
theorem dJ1_indexOf_4cfef_36 : decode cJ1_indexOf_4cfef 36 = .ok (.ireturn, 1) := by decide +kernel
theorem dJ1_indexOfChar_4cfef_0 : decode cJ1_indexOfChar_4cfef 0 = .ok (.iload_n 1, 1) := by decide +kernel
theorem dJ1_indexOfChar_4cfef_1 : decode cJ1_indexOfChar_4cfef 1 = .ok (.i2b, 1) := by decide +kernel
theorem dJ1_indexOfChar_4cfef_2 : decode cJ1_indexOfChar_4cfef 2 = .ok (.istore 4, 2) := by decide +kernel
theorem dJ1_indexOfChar_4cfef_4 : decode cJ1_indexOfChar_4cfef 4 = .ok (.iload_n 2, 1) := by decide +kernel
theorem dJ1_indexOfChar_4cfef_5 : decode cJ1_indexOfChar_4cfef 5 = .ok (.istore 5, 2) := by decide +kernel
theorem dJ1_indexOfChar_4cfef_7 : decode cJ1_indexOfChar_4cfef 7 = .ok (.iload 5, 2) := by decide +kernel
theorem dJ1_indexOfChar_4cfef_9 : decode cJ1_indexOfChar_4cfef 9 = .ok (.iload_n 3, 1) := by decide +kernel
theorem dJ1_indexOfChar_4cfef_10 : decode cJ1_indexOfChar_4cfef 10 = .ok (.if_icmp .ge 21, 3) := by decide +kernel
theorem dJ1_indexOfChar_4cfef_13 : decode cJ1_indexOfChar_4cfef 13 = .ok (.aload_n 0, 1) := by decide +kernel
theorem dJ1_indexOfChar_4cfef_14 : decode cJ1_indexOfChar_4cfef 14 = .ok (.iload 5, 2) := by decide +kernel
theorem dJ1_indexOfChar_4cfef_16 : decode cJ1_indexOfChar_4cfef 16 = .ok (.baload, 1) := by decide +kernel
theorem dJ1_indexOfChar_4cfef_17 : decode cJ1_indexOfChar_4cfef 17 = .ok (.iload 4, 2) := by decide +kernel
theorem dJ1_indexOfChar_4cfef_19 : decode cJ1_indexOfChar_4cfef 19 = .ok (.if_icmp .ne 6, 3) := by decide +kernel
theorem dJ1_indexOfChar_4cfef_22 : decode cJ1_indexOfChar_4cfef 22 = .ok (.iload 5, 2) := by decide +kernel
theorem dJ1_indexOfChar_4cfef_24 : decode cJ1_indexOfChar_4cfef 24 = .ok (.ireturn, 1) := by decide +kernel
theorem dJ1_indexOfChar_4cfef_25 : decode cJ1_indexOfChar_4cfef 25 = .ok (.iinc 5 1, 3) := by decide +kernel
theorem dJ1_indexOfChar_4cfef_28 : decode cJ1_indexOfChar_4cfef 28 = .ok (.goto (-21), 3) := by decide +kernel
theorem dJ1_indexOfChar_4cfef_31 : decode cJ1_indexOfChar_4cfef 31 = .ok (.iconst (-1), 1) := by decide +kernel
theorem dJ1_indexOfChar_4cfef_32 : decode cJ1_indexOfChar_4cfef 32 = .ok (.ireturn, 1) := by decide +kernel
theorem dJ7_fill_53178_0 : decode cJ7_fill_53178 0 = .ok (.iconst 0, 1) := by decide +kernel
theorem dJ7_fill_53178_1 : decode cJ7_fill_53178 1 = .ok (.istore_n 2, 1) := by decide +kernel
theorem dJ7_fill_53178_2 : decode cJ7_fill_53178 2 = .ok (.aload_n 0, 1) := by decide +kernel
theorem dJ7_fill_53178_3 : decode cJ7_fill_53178 3 = .ok (.arraylength, 1) := by decide +kernel
theorem dJ7_fill_53178_4 : decode cJ7_fill_53178 4 = .ok (.istore_n 3, 1) := by decide +kernel
theorem dJ7_fill_53178_5 : decode cJ7_fill_53178 5 = .ok (.iload_n 2, 1) := by decide +kernel
theorem dJ7_fill_53178_6 : decode cJ7_fill_53178 6 = .ok (.iload_n 3, 1) := by decide +kernel
theorem dJ7_fill_53178_7 : decode cJ7_fill_53178 7 = .ok (.if_icmp .ge 13, 3) := by decide +kernel
theorem dJ7_fill_53178_10 : decode cJ7_fill_53178 10 = .ok (.aload_n 0, 1) := by decide +kernel
theorem dJ7_fill_53178_11 : decode cJ7_fill_53178 11 = .ok (.iload_n 2, 1) := by decide +kernel
theorem dJ7_fill_53178_12 : decode cJ7_fill_53178 12 = .ok (.iload_n 1, 1) := by decide +kernel
theorem dJ7_fill_53178_13 : decode cJ7_fill_53178 13 = .ok (.iastore, 1) := by decide +kernel
theorem dJ7_fill_53178_14 : decode cJ7_fill_53178 14 = .ok (.iinc 2 1, 3) := by decide +kernel
theorem dJ7_fill_53178_17 : decode cJ7_fill_53178 17 = .ok (.goto (-12), 3) := by decide +kernel
theorem dJ7_fill_53178_20 : decode cJ7_fill_53178 20 = .ok (.return_, 1) := by decide +kernel
theorem dL_law_0 : decode cL_law 0 = .ok (.new 7, 3) := by decide +kernel
theorem dL_law_3 : decode cL_law 3 = .ok (.dup, 1) := by decide +kernel
theorem dL_law_4 : decode cL_law 4 = .ok (.invokespecial 9, 3) := by decide +kernel
theorem dL_law_7 : decode cL_law 7 = .ok (.astore_n 1, 1) := by decide +kernel
theorem dL_law_8 : decode cL_law 8 = .ok (.new 10, 3) := by decide +kernel
theorem dL_law_11 : decode cL_law 11 = .ok (.dup, 1) := by decide +kernel
theorem dL_law_12 : decode cL_law 12 = .ok (.invokespecial 12, 3) := by decide +kernel
theorem dL_law_15 : decode cL_law 15 = .ok (.astore_n 2, 1) := by decide +kernel
theorem dL_law_16 : decode cL_law 16 = .ok (.iconst 0, 1) := by decide +kernel
theorem dL_law_17 : decode cL_law 17 = .ok (.istore_n 3, 1) := by decide +kernel
theorem dL_law_18 : decode cL_law 18 = .ok (.iload_n 3, 1) := by decide +kernel
theorem dL_law_19 : decode cL_law 19 = .ok (.aload_n 0, 1) := by decide +kernel
theorem dL_law_20 : decode cL_law 20 = .ok (.arraylength, 1) := by decide +kernel
theorem dL_law_21 : decode cL_law 21 = .ok (.iconst 5, 1) := by decide +kernel
theorem dL_law_22 : decode cL_law 22 = .ok (.isub, 1) := by decide +kernel
theorem dL_law_23 : decode cL_law 23 = .ok (.if_icmp .gt 804, 3) := by decide +kernel
theorem dL_law_26 : decode cL_law 26 = .ok (.aload_n 0, 1) := by decide +kernel
theorem dL_law_27 : decode cL_law 27 = .ok (.iload_n 3, 1) := by decide +kernel
theorem dL_law_28 : decode cL_law 28 = .ok (.iaload, 1) := by decide +kernel
theorem dL_law_29 : decode cL_law 29 = .ok (.bipush 31, 2) := by decide +kernel
theorem dL_law_31 : decode cL_law 31 = .ok (.iand, 1) := by decide +kernel
theorem dL_law_32 : decode cL_law 32 = .ok (.tableswitch 789 0 25 #[120, 143, 156, 169, 182, 215, 248, 271, 304, 327, 340, 373, 386, 429, 452, 485, 508, 551, 574, 627, 670, 683, 726, 739, 752, 775], 120) := by decide +kernel
theorem dL_law_152 : decode cL_law 152 = .ok (.aload_n 1, 1) := by decide +kernel
theorem dL_law_153 : decode cL_law 153 = .ok (.aload_n 0, 1) := by decide +kernel
theorem dL_law_154 : decode cL_law 154 = .ok (.iload_n 3, 1) := by decide +kernel
theorem dL_law_155 : decode cL_law 155 = .ok (.iconst 1, 1) := by decide +kernel
theorem dL_law_156 : decode cL_law 156 = .ok (.iadd, 1) := by decide +kernel
theorem dL_law_157 : decode cL_law 157 = .ok (.iaload, 1) := by decide +kernel
theorem dL_law_158 : decode cL_law 158 = .ok (.invokevirtual 13, 3) := by decide +kernel
theorem dL_law_161 : decode cL_law 161 = .ok (.aload_n 2, 1) := by decide +kernel
theorem dL_law_162 : decode cL_law 162 = .ok (.aload_n 0, 1) := by decide +kernel
theorem dL_law_163 : decode cL_law 163 = .ok (.iload_n 3, 1) := by decide +kernel
theorem dL_law_164 : decode cL_law 164 = .ok (.iconst 1, 1) := by decide +kernel
theorem dL_law_165 : decode cL_law 165 = .ok (.iadd, 1) := by decide +kernel
theorem dL_law_166 : decode cL_law 166 = .ok (.iaload, 1) := by decide +kernel
theorem dL_law_167 : decode cL_law 167 = .ok (.invokevirtual 17, 3) := by decide +kernel
theorem dL_law_170 : decode cL_law 170 = .ok (.if_icmp .eq 651, 3) := by decide +kernel
theorem dL_law_173 : decode cL_law 173 = .ok (.iconst 0, 1) := by decide +kernel
theorem dL_law_174 : decode cL_law 174 = .ok (.ireturn, 1) := by decide +kernel
theorem dL_law_175 : decode cL_law 175 = .ok (.aload_n 1, 1) := by decide +kernel
theorem dL_law_176 : decode cL_law 176 = .ok (.invokevirtual 18, 3) := by decide +kernel
theorem dL_law_179 : decode cL_law 179 = .ok (.aload_n 2, 1) := by decide +kernel
theorem dL_law_180 : decode cL_law 180 = .ok (.invokevirtual 22, 3) := by decide +kernel
theorem dL_law_183 : decode cL_law 183 = .ok (.if_icmp .eq 638, 3) := by decide +kernel
theorem dL_law_186 : decode cL_law 186 = .ok (.iconst 0, 1) := by decide +kernel
theorem dL_law_187 : decode cL_law 187 = .ok (.ireturn, 1) := by decide +kernel
theorem dL_law_188 : decode cL_law 188 = .ok (.aload_n 1, 1) := by decide +kernel
theorem dL_law_189 : decode cL_law 189 = .ok (.invokevirtual 23, 3) := by decide +kernel
theorem dL_law_192 : decode cL_law 192 = .ok (.aload_n 2, 1) := by decide +kernel
theorem dL_law_193 : decode cL_law 193 = .ok (.invokevirtual 26, 3) := by decide +kernel
theorem dL_law_196 : decode cL_law 196 = .ok (.if_icmp .eq 625, 3) := by decide +kernel
theorem dL_law_199 : decode cL_law 199 = .ok (.iconst 0, 1) := by decide +kernel
theorem dL_law_200 : decode cL_law 200 = .ok (.ireturn, 1) := by decide +kernel
theorem dL_law_201 : decode cL_law 201 = .ok (.aload_n 1, 1) := by decide +kernel
theorem dL_law_202 : decode cL_law 202 = .ok (.invokevirtual 27, 3) := by decide +kernel
theorem dL_law_205 : decode cL_law 205 = .ok (.aload_n 2, 1) := by decide +kernel
theorem dL_law_206 : decode cL_law 206 = .ok (.invokevirtual 30, 3) := by decide +kernel
theorem dL_law_209 : decode cL_law 209 = .ok (.if_icmp .eq 612, 3) := by decide +kernel
theorem dL_law_212 : decode cL_law 212 = .ok (.iconst 0, 1) := by decide +kernel
theorem dL_law_213 : decode cL_law 213 = .ok (.ireturn, 1) := by decide +kernel
theorem dL_law_214 : decode cL_law 214 = .ok (.aload_n 1, 1) := by decide +kernel
theorem dL_law_215 : decode cL_law 215 = .ok (.aload_n 0, 1) := by decide +kernel
theorem dL_law_216 : decode cL_law 216 = .ok (.iload_n 3, 1) := by decide +kernel
theorem dL_law_217 : decode cL_law 217 = .ok (.iconst 1, 1) := by decide +kernel
theorem dL_law_218 : decode cL_law 218 = .ok (.iadd, 1) := by decide +kernel
theorem dL_law_219 : decode cL_law 219 = .ok (.iaload, 1) := by decide +kernel
theorem dL_law_220 : decode cL_law 220 = .ok (.aload_n 0, 1) := by decide +kernel
theorem dL_law_221 : decode cL_law 221 = .ok (.iload_n 3, 1) := by decide +kernel
theorem dL_law_222 : decode cL_law 222 = .ok (.iconst 2, 1) := by decide +kernel
theorem dL_law_223 : decode cL_law 223 = .ok (.iadd, 1) := by decide +kernel
theorem dL_law_224 : decode cL_law 224 = .ok (.iaload, 1) := by decide +kernel
theorem dL_law_225 : decode cL_law 225 = .ok (.invokevirtual 31, 3) := by decide +kernel
theorem dL_law_228 : decode cL_law 228 = .ok (.aload_n 2, 1) := by decide +kernel
theorem dL_law_229 : decode cL_law 229 = .ok (.aload_n 0, 1) := by decide +kernel
theorem dL_law_230 : decode cL_law 230 = .ok (.iload_n 3, 1) := by decide +kernel
theorem dL_law_231 : decode cL_law 231 = .ok (.iconst 1, 1) := by decide +kernel
theorem dL_law_232 : decode cL_law 232 = .ok (.iadd, 1) := by decide +kernel
theorem dL_law_233 : decode cL_law 233 = .ok (.iaload, 1) := by decide +kernel
theorem dL_law_234 : decode cL_law 234 = .ok (.aload_n 0, 1) := by decide +kernel
theorem dL_law_235 : decode cL_law 235 = .ok (.iload_n 3, 1) := by decide +kernel
theorem dL_law_236 : decode cL_law 236 = .ok (.iconst 2, 1) := by decide +kernel
theorem dL_law_237 : decode cL_law 237 = .ok (.iadd, 1) := by decide +kernel
theorem dL_law_238 : decode cL_law 238 = .ok (.iaload, 1) := by decide +kernel
theorem dL_law_239 : decode cL_law 239 = .ok (.invokevirtual 35, 3) := by decide +kernel
theorem dL_law_242 : decode cL_law 242 = .ok (.if_icmp .eq 579, 3) := by decide +kernel
theorem dL_law_245 : decode cL_law 245 = .ok (.iconst 0, 1) := by decide +kernel
theorem dL_law_246 : decode cL_law 246 = .ok (.ireturn, 1) := by decide +kernel
theorem dL_law_247 : decode cL_law 247 = .ok (.aload_n 1, 1) := by decide +kernel
theorem dL_law_248 : decode cL_law 248 = .ok (.aload_n 0, 1) := by decide +kernel
theorem dL_law_249 : decode cL_law 249 = .ok (.iload_n 3, 1) := by decide +kernel
theorem dL_law_250 : decode cL_law 250 = .ok (.iconst 1, 1) := by decide +kernel
theorem dL_law_251 : decode cL_law 251 = .ok (.iadd, 1) := by decide +kernel
theorem dL_law_252 : decode cL_law 252 = .ok (.iaload, 1) := by decide +kernel
theorem dL_law_253 : decode cL_law 253 = .ok (.aload_n 0, 1) := by decide +kernel
theorem dL_law_254 : decode cL_law 254 = .ok (.iload_n 3, 1) := by decide +kernel
theorem dL_law_255 : decode cL_law 255 = .ok (.iconst 2, 1) := by decide +kernel
theorem dL_law_256 : decode cL_law 256 = .ok (.iadd, 1) := by decide +kernel
theorem dL_law_257 : decode cL_law 257 = .ok (.iaload, 1) := by decide +kernel
theorem dL_law_258 : decode cL_law 258 = .ok (.invokevirtual 36, 3) := by decide +kernel
theorem dL_law_261 : decode cL_law 261 = .ok (.aload_n 2, 1) := by decide +kernel
theorem dL_law_262 : decode cL_law 262 = .ok (.aload_n 0, 1) := by decide +kernel
theorem dL_law_263 : decode cL_law 263 = .ok (.iload_n 3, 1) := by decide +kernel
theorem dL_law_264 : decode cL_law 264 = .ok (.iconst 1, 1) := by decide +kernel
theorem dL_law_265 : decode cL_law 265 = .ok (.iadd, 1) := by decide +kernel
theorem dL_law_266 : decode cL_law 266 = .ok (.iaload, 1) := by decide +kernel
theorem dL_law_267 : decode cL_law 267 = .ok (.aload_n 0, 1) := by decide +kernel
theorem dL_law_268 : decode cL_law 268 = .ok (.iload_n 3, 1) := by decide +kernel
theorem dL_law_269 : decode cL_law 269 = .ok (.iconst 2, 1) := by decide +kernel
theorem dL_law_270 : decode cL_law 270 = .ok (.iadd, 1) := by decide +kernel
theorem dL_law_271 : decode cL_law 271 = .ok (.iaload, 1) := by decide +kernel
theorem dL_law_272 : decode cL_law 272 = .ok (.invokevirtual 39, 3) := by decide +kernel
theorem dL_law_275 : decode cL_law 275 = .ok (.if_icmp .eq 546, 3) := by decide +kernel
theorem dL_law_278 : decode cL_law 278 = .ok (.iconst 0, 1) := by decide +kernel
theorem dL_law_279 : decode cL_law 279 = .ok (.ireturn, 1) := by decide +kernel
theorem dL_law_280 : decode cL_law 280 = .ok (.aload_n 1, 1) := by decide +kernel
theorem dL_law_281 : decode cL_law 281 = .ok (.aload_n 0, 1) := by decide +kernel
theorem dL_law_282 : decode cL_law 282 = .ok (.iload_n 3, 1) := by decide +kernel
theorem dL_law_283 : decode cL_law 283 = .ok (.iconst 1, 1) := by decide +kernel
theorem dL_law_284 : decode cL_law 284 = .ok (.iadd, 1) := by decide +kernel
theorem dL_law_285 : decode cL_law 285 = .ok (.iaload, 1) := by decide +kernel
theorem dL_law_286 : decode cL_law 286 = .ok (.invokevirtual 40, 3) := by decide +kernel
theorem dL_law_289 : decode cL_law 289 = .ok (.aload_n 2, 1) := by decide +kernel
theorem dL_law_290 : decode cL_law 290 = .ok (.aload_n 0, 1) := by decide +kernel
theorem dL_law_291 : decode cL_law 291 = .ok (.iload_n 3, 1) := by decide +kernel
theorem dL_law_292 : decode cL_law 292 = .ok (.iconst 1, 1) := by decide +kernel
theorem dL_law_293 : decode cL_law 293 = .ok (.iadd, 1) := by decide +kernel
theorem dL_law_294 : decode cL_law 294 = .ok (.iaload, 1) := by decide +kernel
theorem dL_law_295 : decode cL_law 295 = .ok (.invokevirtual 43, 3) := by decide +kernel
theorem dL_law_298 : decode cL_law 298 = .ok (.if_icmp .eq 523, 3) := by decide +kernel
theorem dL_law_301 : decode cL_law 301 = .ok (.iconst 0, 1) := by decide +kernel
theorem dL_law_302 : decode cL_law 302 = .ok (.ireturn, 1) := by decide +kernel
theorem dL_law_303 : decode cL_law 303 = .ok (.aload_n 1, 1) := by decide +kernel
theorem dL_law_304 : decode cL_law 304 = .ok (.aload_n 0, 1) := by decide +kernel
theorem dL_law_305 : decode cL_law 305 = .ok (.iload_n 3, 1) := by decide +kernel
theorem dL_law_306 : decode cL_law 306 = .ok (.iconst 1, 1) := by decide +kernel
theorem dL_law_307 : decode cL_law 307 = .ok (.iadd, 1) := by decide +kernel
theorem dL_law_308 : decode cL_law 308 = .ok (.iaload, 1) := by decide +kernel
theorem dL_law_309 : decode cL_law 309 = .ok (.aload_n 0, 1) := by decide +kernel
theorem dL_law_310 : decode cL_law 310 = .ok (.iload_n 3, 1) := by decide +kernel
theorem dL_law_311 : decode cL_law 311 = .ok (.iconst 2, 1) := by decide +kernel
theorem dL_law_312 : decode cL_law 312 = .ok (.iadd, 1) := by decide +kernel
theorem dL_law_313 : decode cL_law 313 = .ok (.iaload, 1) := by decide +kernel
theorem dL_law_314 : decode cL_law 314 = .ok (.invokevirtual 44, 3) := by decide +kernel
theorem dL_law_317 : decode cL_law 317 = .ok (.aload_n 2, 1) := by decide +kernel
theorem dL_law_318 : decode cL_law 318 = .ok (.aload_n 0, 1) := by decide +kernel
theorem dL_law_319 : decode cL_law 319 = .ok (.iload_n 3, 1) := by decide +kernel
theorem dL_law_320 : decode cL_law 320 = .ok (.iconst 1, 1) := by decide +kernel
theorem dL_law_321 : decode cL_law 321 = .ok (.iadd, 1) := by decide +kernel
theorem dL_law_322 : decode cL_law 322 = .ok (.iaload, 1) := by decide +kernel
theorem dL_law_323 : decode cL_law 323 = .ok (.aload_n 0, 1) := by decide +kernel
theorem dL_law_324 : decode cL_law 324 = .ok (.iload_n 3, 1) := by decide +kernel
theorem dL_law_325 : decode cL_law 325 = .ok (.iconst 2, 1) := by decide +kernel
theorem dL_law_326 : decode cL_law 326 = .ok (.iadd, 1) := by decide +kernel
theorem dL_law_327 : decode cL_law 327 = .ok (.iaload, 1) := by decide +kernel
theorem dL_law_328 : decode cL_law 328 = .ok (.invokevirtual 47, 3) := by decide +kernel
theorem dL_law_331 : decode cL_law 331 = .ok (.if_icmp .eq 490, 3) := by decide +kernel
theorem dL_law_334 : decode cL_law 334 = .ok (.iconst 0, 1) := by decide +kernel
theorem dL_law_335 : decode cL_law 335 = .ok (.ireturn, 1) := by decide +kernel
theorem dL_law_336 : decode cL_law 336 = .ok (.aload_n 1, 1) := by decide +kernel
theorem dL_law_337 : decode cL_law 337 = .ok (.aload_n 0, 1) := by decide +kernel
theorem dL_law_338 : decode cL_law 338 = .ok (.iload_n 3, 1) := by decide +kernel
theorem dL_law_339 : decode cL_law 339 = .ok (.iconst 1, 1) := by decide +kernel
theorem dL_law_340 : decode cL_law 340 = .ok (.iadd, 1) := by decide +kernel
theorem dL_law_341 : decode cL_law 341 = .ok (.iaload, 1) := by decide +kernel
theorem dL_law_342 : decode cL_law 342 = .ok (.invokevirtual 48, 3) := by decide +kernel
theorem dL_law_345 : decode cL_law 345 = .ok (.aload_n 2, 1) := by decide +kernel
theorem dL_law_346 : decode cL_law 346 = .ok (.aload_n 0, 1) := by decide +kernel
theorem dL_law_347 : decode cL_law 347 = .ok (.iload_n 3, 1) := by decide +kernel
theorem dL_law_348 : decode cL_law 348 = .ok (.iconst 1, 1) := by decide +kernel
theorem dL_law_349 : decode cL_law 349 = .ok (.iadd, 1) := by decide +kernel
theorem dL_law_350 : decode cL_law 350 = .ok (.iaload, 1) := by decide +kernel
theorem dL_law_351 : decode cL_law 351 = .ok (.invokevirtual 51, 3) := by decide +kernel
theorem dL_law_354 : decode cL_law 354 = .ok (.if_icmp .eq 467, 3) := by decide +kernel
theorem dL_law_357 : decode cL_law 357 = .ok (.iconst 0, 1) := by decide +kernel
theorem dL_law_358 : decode cL_law 358 = .ok (.ireturn, 1) := by decide +kernel
theorem dL_law_359 : decode cL_law 359 = .ok (.aload_n 1, 1) := by decide +kernel
theorem dL_law_360 : decode cL_law 360 = .ok (.invokevirtual 52, 3) := by decide +kernel
theorem dL_law_363 : decode cL_law 363 = .ok (.aload_n 2, 1) := by decide +kernel
theorem dL_law_364 : decode cL_law 364 = .ok (.invokevirtual 55, 3) := by decide +kernel
theorem dL_law_367 : decode cL_law 367 = .ok (.if_icmp .eq 454, 3) := by decide +kernel
theorem dL_law_370 : decode cL_law 370 = .ok (.iconst 0, 1) := by decide +kernel
theorem dL_law_371 : decode cL_law 371 = .ok (.ireturn, 1) := by decide +kernel
theorem dL_law_372 : decode cL_law 372 = .ok (.aload_n 1, 1) := by decide +kernel
theorem dL_law_373 : decode cL_law 373 = .ok (.aload_n 0, 1) := by decide +kernel
theorem dL_law_374 : decode cL_law 374 = .ok (.iload_n 3, 1) := by decide +kernel
theorem dL_law_375 : decode cL_law 375 = .ok (.iconst 1, 1) := by decide +kernel
theorem dL_law_376 : decode cL_law 376 = .ok (.iadd, 1) := by decide +kernel
theorem dL_law_377 : decode cL_law 377 = .ok (.iaload, 1) := by decide +kernel
theorem dL_law_378 : decode cL_law 378 = .ok (.aload_n 0, 1) := by decide +kernel
theorem dL_law_379 : decode cL_law 379 = .ok (.iload_n 3, 1) := by decide +kernel
theorem dL_law_380 : decode cL_law 380 = .ok (.iconst 2, 1) := by decide +kernel
theorem dL_law_381 : decode cL_law 381 = .ok (.iadd, 1) := by decide +kernel
theorem dL_law_382 : decode cL_law 382 = .ok (.iaload, 1) := by decide +kernel
theorem dL_law_383 : decode cL_law 383 = .ok (.invokevirtual 56, 3) := by decide +kernel
theorem dL_law_386 : decode cL_law 386 = .ok (.aload_n 2, 1) := by decide +kernel
theorem dL_law_387 : decode cL_law 387 = .ok (.aload_n 0, 1) := by decide +kernel
theorem dL_law_388 : decode cL_law 388 = .ok (.iload_n 3, 1) := by decide +kernel
theorem dL_law_389 : decode cL_law 389 = .ok (.iconst 1, 1) := by decide +kernel
theorem dL_law_390 : decode cL_law 390 = .ok (.iadd, 1) := by decide +kernel
theorem dL_law_391 : decode cL_law 391 = .ok (.iaload, 1) := by decide +kernel
theorem dL_law_392 : decode cL_law 392 = .ok (.aload_n 0, 1) := by decide +kernel
theorem dL_law_393 : decode cL_law 393 = .ok (.iload_n 3, 1) := by decide +kernel
theorem dL_law_394 : decode cL_law 394 = .ok (.iconst 2, 1) := by decide +kernel
theorem dL_law_395 : decode cL_law 395 = .ok (.iadd, 1) := by decide +kernel
theorem dL_law_396 : decode cL_law 396 = .ok (.iaload, 1) := by decide +kernel
theorem dL_law_397 : decode cL_law 397 = .ok (.invokevirtual 59, 3) := by decide +kernel
theorem dL_law_400 : decode cL_law 400 = .ok (.if_icmp .eq 421, 3) := by decide +kernel
theorem dL_law_403 : decode cL_law 403 = .ok (.iconst 0, 1) := by decide +kernel
theorem dL_law_404 : decode cL_law 404 = .ok (.ireturn, 1) := by decide +kernel
theorem dL_law_405 : decode cL_law 405 = .ok (.aload_n 1, 1) := by decide +kernel
theorem dL_law_406 : decode cL_law 406 = .ok (.invokevirtual 60, 3) := by decide +kernel
theorem dL_law_409 : decode cL_law 409 = .ok (.aload_n 2, 1) := by decide +kernel
theorem dL_law_410 : decode cL_law 410 = .ok (.invokevirtual 63, 3) := by decide +kernel
theorem dL_law_413 : decode cL_law 413 = .ok (.if_icmp .eq 408, 3) := by decide +kernel
theorem dL_law_416 : decode cL_law 416 = .ok (.iconst 0, 1) := by decide +kernel
theorem dL_law_417 : decode cL_law 417 = .ok (.ireturn, 1) := by decide +kernel
theorem dL_law_418 : decode cL_law 418 = .ok (.aload_n 1, 1) := by decide +kernel
theorem dL_law_419 : decode cL_law 419 = .ok (.aload_n 0, 1) := by decide +kernel
theorem dL_law_420 : decode cL_law 420 = .ok (.iload_n 3, 1) := by decide +kernel
theorem dL_law_421 : decode cL_law 421 = .ok (.iconst 1, 1) := by decide +kernel
theorem dL_law_422 : decode cL_law 422 = .ok (.iadd, 1) := by decide +kernel
theorem dL_law_423 : decode cL_law 423 = .ok (.iaload, 1) := by decide +kernel
theorem dL_law_424 : decode cL_law 424 = .ok (.aload_n 0, 1) := by decide +kernel
theorem dL_law_425 : decode cL_law 425 = .ok (.iload_n 3, 1) := by decide +kernel
theorem dL_law_426 : decode cL_law 426 = .ok (.iconst 2, 1) := by decide +kernel
theorem dL_law_427 : decode cL_law 427 = .ok (.iadd, 1) := by decide +kernel
theorem dL_law_428 : decode cL_law 428 = .ok (.iaload, 1) := by decide +kernel
theorem dL_law_429 : decode cL_law 429 = .ok (.aload_n 0, 1) := by decide +kernel
theorem dL_law_430 : decode cL_law 430 = .ok (.iload_n 3, 1) := by decide +kernel
theorem dL_law_431 : decode cL_law 431 = .ok (.iconst 3, 1) := by decide +kernel
theorem dL_law_432 : decode cL_law 432 = .ok (.iadd, 1) := by decide +kernel
theorem dL_law_433 : decode cL_law 433 = .ok (.iaload, 1) := by decide +kernel
theorem dL_law_434 : decode cL_law 434 = .ok (.invokevirtual 64, 3) := by decide +kernel
theorem dL_law_437 : decode cL_law 437 = .ok (.aload_n 2, 1) := by decide +kernel
theorem dL_law_438 : decode cL_law 438 = .ok (.aload_n 0, 1) := by decide +kernel
theorem dL_law_439 : decode cL_law 439 = .ok (.iload_n 3, 1) := by decide +kernel
theorem dL_law_440 : decode cL_law 440 = .ok (.iconst 1, 1) := by decide +kernel
theorem dL_law_441 : decode cL_law 441 = .ok (.iadd, 1) := by decide +kernel
theorem dL_law_442 : decode cL_law 442 = .ok (.iaload, 1) := by decide +kernel
theorem dL_law_443 : decode cL_law 443 = .ok (.aload_n 0, 1) := by decide +kernel
theorem dL_law_444 : decode cL_law 444 = .ok (.iload_n 3, 1) := by decide +kernel
theorem dL_law_445 : decode cL_law 445 = .ok (.iconst 2, 1) := by decide +kernel
theorem dL_law_446 : decode cL_law 446 = .ok (.iadd, 1) := by decide +kernel
theorem dL_law_447 : decode cL_law 447 = .ok (.iaload, 1) := by decide +kernel
theorem dL_law_448 : decode cL_law 448 = .ok (.aload_n 0, 1) := by decide +kernel
theorem dL_law_449 : decode cL_law 449 = .ok (.iload_n 3, 1) := by decide +kernel
theorem dL_law_450 : decode cL_law 450 = .ok (.iconst 3, 1) := by decide +kernel
theorem dL_law_451 : decode cL_law 451 = .ok (.iadd, 1) := by decide +kernel
theorem dL_law_452 : decode cL_law 452 = .ok (.iaload, 1) := by decide +kernel
theorem dL_law_453 : decode cL_law 453 = .ok (.invokevirtual 68, 3) := by decide +kernel
theorem dL_law_456 : decode cL_law 456 = .ok (.if_icmp .eq 365, 3) := by decide +kernel
theorem dL_law_459 : decode cL_law 459 = .ok (.iconst 0, 1) := by decide +kernel
theorem dL_law_460 : decode cL_law 460 = .ok (.ireturn, 1) := by decide +kernel
theorem dL_law_461 : decode cL_law 461 = .ok (.aload_n 1, 1) := by decide +kernel
theorem dL_law_462 : decode cL_law 462 = .ok (.aload_n 0, 1) := by decide +kernel
theorem dL_law_463 : decode cL_law 463 = .ok (.iload_n 3, 1) := by decide +kernel
theorem dL_law_464 : decode cL_law 464 = .ok (.iconst 1, 1) := by decide +kernel
theorem dL_law_465 : decode cL_law 465 = .ok (.iadd, 1) := by decide +kernel
theorem dL_law_466 : decode cL_law 466 = .ok (.iaload, 1) := by decide +kernel
theorem dL_law_467 : decode cL_law 467 = .ok (.invokevirtual 69, 3) := by decide +kernel
theorem dL_law_470 : decode cL_law 470 = .ok (.aload_n 2, 1) := by decide +kernel
theorem dL_law_471 : decode cL_law 471 = .ok (.aload_n 0, 1) := by decide +kernel
theorem dL_law_472 : decode cL_law 472 = .ok (.iload_n 3, 1) := by decide +kernel
theorem dL_law_473 : decode cL_law 473 = .ok (.iconst 1, 1) := by decide +kernel
theorem dL_law_474 : decode cL_law 474 = .ok (.iadd, 1) := by decide +kernel
theorem dL_law_475 : decode cL_law 475 = .ok (.iaload, 1) := by decide +kernel
theorem dL_law_476 : decode cL_law 476 = .ok (.invokevirtual 72, 3) := by decide +kernel
theorem dL_law_479 : decode cL_law 479 = .ok (.if_icmp .eq 342, 3) := by decide +kernel
theorem dL_law_482 : decode cL_law 482 = .ok (.iconst 0, 1) := by decide +kernel
theorem dL_law_483 : decode cL_law 483 = .ok (.ireturn, 1) := by decide +kernel
theorem dL_law_484 : decode cL_law 484 = .ok (.aload_n 1, 1) := by decide +kernel
theorem dL_law_485 : decode cL_law 485 = .ok (.aload_n 0, 1) := by decide +kernel
theorem dL_law_486 : decode cL_law 486 = .ok (.iload_n 3, 1) := by decide +kernel
theorem dL_law_487 : decode cL_law 487 = .ok (.iconst 1, 1) := by decide +kernel
theorem dL_law_488 : decode cL_law 488 = .ok (.iadd, 1) := by decide +kernel
theorem dL_law_489 : decode cL_law 489 = .ok (.iaload, 1) := by decide +kernel
theorem dL_law_490 : decode cL_law 490 = .ok (.aload_n 0, 1) := by decide +kernel
theorem dL_law_491 : decode cL_law 491 = .ok (.iload_n 3, 1) := by decide +kernel
theorem dL_law_492 : decode cL_law 492 = .ok (.iconst 2, 1) := by decide +kernel
theorem dL_law_493 : decode cL_law 493 = .ok (.iadd, 1) := by decide +kernel
theorem dL_law_494 : decode cL_law 494 = .ok (.iaload, 1) := by decide +kernel
theorem dL_law_495 : decode cL_law 495 = .ok (.invokevirtual 73, 3) := by decide +kernel
theorem dL_law_498 : decode cL_law 498 = .ok (.aload_n 2, 1) := by decide +kernel
theorem dL_law_499 : decode cL_law 499 = .ok (.aload_n 0, 1) := by decide +kernel
theorem dL_law_500 : decode cL_law 500 = .ok (.iload_n 3, 1) := by decide +kernel
theorem dL_law_501 : decode cL_law 501 = .ok (.iconst 1, 1) := by decide +kernel
theorem dL_law_502 : decode cL_law 502 = .ok (.iadd, 1) := by decide +kernel
theorem dL_law_503 : decode cL_law 503 = .ok (.iaload, 1) := by decide +kernel
theorem dL_law_504 : decode cL_law 504 = .ok (.aload_n 0, 1) := by decide +kernel
theorem dL_law_505 : decode cL_law 505 = .ok (.iload_n 3, 1) := by decide +kernel
theorem dL_law_506 : decode cL_law 506 = .ok (.iconst 2, 1) := by decide +kernel
theorem dL_law_507 : decode cL_law 507 = .ok (.iadd, 1) := by decide +kernel
theorem dL_law_508 : decode cL_law 508 = .ok (.iaload, 1) := by decide +kernel
theorem dL_law_509 : decode cL_law 509 = .ok (.invokevirtual 76, 3) := by decide +kernel
theorem dL_law_512 : decode cL_law 512 = .ok (.if_icmp .eq 309, 3) := by decide +kernel
theorem dL_law_515 : decode cL_law 515 = .ok (.iconst 0, 1) := by decide +kernel
theorem dL_law_516 : decode cL_law 516 = .ok (.ireturn, 1) := by decide +kernel
end
section
theorem dL_law_517 : decode cL_law 517 = .ok (.aload_n 1, 1) := by decide +kernel
theorem dL_law_518 : decode cL_law 518 = .ok (.aload_n 0, 1) := by decide +kernel
theorem dL_law_519 : decode cL_law 519 = .ok (.iload_n 3, 1) := by decide +kernel
theorem dL_law_520 : decode cL_law 520 = .ok (.iconst 1, 1) := by decide +kernel
theorem dL_law_521 : decode cL_law 521 = .ok (.iadd, 1) := by decide +kernel
theorem dL_law_522 : decode cL_law 522 = .ok (.iaload, 1) := by decide +kernel
theorem dL_law_523 : decode cL_law 523 = .ok (.invokevirtual 77, 3) := by decide +kernel
theorem dL_law_526 : decode cL_law 526 = .ok (.aload_n 2, 1) := by decide +kernel
theorem dL_law_527 : decode cL_law 527 = .ok (.aload_n 0, 1) := by decide +kernel
theorem dL_law_528 : decode cL_law 528 = .ok (.iload_n 3, 1) := by decide +kernel
theorem dL_law_529 : decode cL_law 529 = .ok (.iconst 1, 1) := by decide +kernel
theorem dL_law_530 : decode cL_law 530 = .ok (.iadd, 1) := by decide +kernel
theorem dL_law_531 : decode cL_law 531 = .ok (.iaload, 1) := by decide +kernel
theorem dL_law_532 : decode cL_law 532 = .ok (.invokevirtual 80, 3) := by decide +kernel
theorem dL_law_535 : decode cL_law 535 = .ok (.if_icmp .eq 286, 3) := by decide +kernel
theorem dL_law_538 : decode cL_law 538 = .ok (.iconst 0, 1) := by decide +kernel
theorem dL_law_539 : decode cL_law 539 = .ok (.ireturn, 1) := by decide +kernel
theorem dL_law_540 : decode cL_law 540 = .ok (.aload_n 1, 1) := by decide +kernel
theorem dL_law_541 : decode cL_law 541 = .ok (.aload_n 0, 1) := by decide +kernel
theorem dL_law_542 : decode cL_law 542 = .ok (.iload_n 3, 1) := by decide +kernel
theorem dL_law_543 : decode cL_law 543 = .ok (.iconst 1, 1) := by decide +kernel
theorem dL_law_544 : decode cL_law 544 = .ok (.iadd, 1) := by decide +kernel
theorem dL_law_545 : decode cL_law 545 = .ok (.iaload, 1) := by decide +kernel
theorem dL_law_546 : decode cL_law 546 = .ok (.aload_n 0, 1) := by decide +kernel
theorem dL_law_547 : decode cL_law 547 = .ok (.iload_n 3, 1) := by decide +kernel
theorem dL_law_548 : decode cL_law 548 = .ok (.iconst 2, 1) := by decide +kernel
theorem dL_law_549 : decode cL_law 549 = .ok (.iadd, 1) := by decide +kernel
theorem dL_law_550 : decode cL_law 550 = .ok (.iaload, 1) := by decide +kernel
theorem dL_law_551 : decode cL_law 551 = .ok (.aload_n 0, 1) := by decide +kernel
theorem dL_law_552 : decode cL_law 552 = .ok (.iload_n 3, 1) := by decide +kernel
theorem dL_law_553 : decode cL_law 553 = .ok (.iconst 3, 1) := by decide +kernel
theorem dL_law_554 : decode cL_law 554 = .ok (.iadd, 1) := by decide +kernel
theorem dL_law_555 : decode cL_law 555 = .ok (.iaload, 1) := by decide +kernel
theorem dL_law_556 : decode cL_law 556 = .ok (.invokevirtual 81, 3) := by decide +kernel
theorem dL_law_559 : decode cL_law 559 = .ok (.aload_n 2, 1) := by decide +kernel
theorem dL_law_560 : decode cL_law 560 = .ok (.aload_n 0, 1) := by decide +kernel
theorem dL_law_561 : decode cL_law 561 = .ok (.iload_n 3, 1) := by decide +kernel
theorem dL_law_562 : decode cL_law 562 = .ok (.iconst 1, 1) := by decide +kernel
theorem dL_law_563 : decode cL_law 563 = .ok (.iadd, 1) := by decide +kernel
theorem dL_law_564 : decode cL_law 564 = .ok (.iaload, 1) := by decide +kernel
theorem dL_law_565 : decode cL_law 565 = .ok (.aload_n 0, 1) := by decide +kernel
theorem dL_law_566 : decode cL_law 566 = .ok (.iload_n 3, 1) := by decide +kernel
theorem dL_law_567 : decode cL_law 567 = .ok (.iconst 2, 1) := by decide +kernel
theorem dL_law_568 : decode cL_law 568 = .ok (.iadd, 1) := by decide +kernel
theorem dL_law_569 : decode cL_law 569 = .ok (.iaload, 1) := by decide +kernel
theorem dL_law_570 : decode cL_law 570 = .ok (.aload_n 0, 1) := by decide +kernel
theorem dL_law_571 : decode cL_law 571 = .ok (.iload_n 3, 1) := by decide +kernel
theorem dL_law_572 : decode cL_law 572 = .ok (.iconst 3, 1) := by decide +kernel
theorem dL_law_573 : decode cL_law 573 = .ok (.iadd, 1) := by decide +kernel
theorem dL_law_574 : decode cL_law 574 = .ok (.iaload, 1) := by decide +kernel
theorem dL_law_575 : decode cL_law 575 = .ok (.invokevirtual 84, 3) := by decide +kernel
theorem dL_law_578 : decode cL_law 578 = .ok (.if_icmp .eq 243, 3) := by decide +kernel
theorem dL_law_581 : decode cL_law 581 = .ok (.iconst 0, 1) := by decide +kernel
theorem dL_law_582 : decode cL_law 582 = .ok (.ireturn, 1) := by decide +kernel
theorem dL_law_583 : decode cL_law 583 = .ok (.aload_n 1, 1) := by decide +kernel
theorem dL_law_584 : decode cL_law 584 = .ok (.aload_n 0, 1) := by decide +kernel
theorem dL_law_585 : decode cL_law 585 = .ok (.iload_n 3, 1) := by decide +kernel
theorem dL_law_586 : decode cL_law 586 = .ok (.iconst 1, 1) := by decide +kernel
theorem dL_law_587 : decode cL_law 587 = .ok (.iadd, 1) := by decide +kernel
theorem dL_law_588 : decode cL_law 588 = .ok (.iaload, 1) := by decide +kernel
theorem dL_law_589 : decode cL_law 589 = .ok (.invokevirtual 85, 3) := by decide +kernel
theorem dL_law_592 : decode cL_law 592 = .ok (.aload_n 2, 1) := by decide +kernel
theorem dL_law_593 : decode cL_law 593 = .ok (.aload_n 0, 1) := by decide +kernel
theorem dL_law_594 : decode cL_law 594 = .ok (.iload_n 3, 1) := by decide +kernel
theorem dL_law_595 : decode cL_law 595 = .ok (.iconst 1, 1) := by decide +kernel
theorem dL_law_596 : decode cL_law 596 = .ok (.iadd, 1) := by decide +kernel
theorem dL_law_597 : decode cL_law 597 = .ok (.iaload, 1) := by decide +kernel
theorem dL_law_598 : decode cL_law 598 = .ok (.invokevirtual 88, 3) := by decide +kernel
theorem dL_law_601 : decode cL_law 601 = .ok (.if_icmp .eq 220, 3) := by decide +kernel
theorem dL_law_604 : decode cL_law 604 = .ok (.iconst 0, 1) := by decide +kernel
theorem dL_law_605 : decode cL_law 605 = .ok (.ireturn, 1) := by decide +kernel
theorem dL_law_606 : decode cL_law 606 = .ok (.aload_n 1, 1) := by decide +kernel
theorem dL_law_607 : decode cL_law 607 = .ok (.aload_n 0, 1) := by decide +kernel
theorem dL_law_608 : decode cL_law 608 = .ok (.iload_n 3, 1) := by decide +kernel
theorem dL_law_609 : decode cL_law 609 = .ok (.iconst 1, 1) := by decide +kernel
theorem dL_law_610 : decode cL_law 610 = .ok (.iadd, 1) := by decide +kernel
theorem dL_law_611 : decode cL_law 611 = .ok (.iaload, 1) := by decide +kernel
theorem dL_law_612 : decode cL_law 612 = .ok (.aload_n 0, 1) := by decide +kernel
theorem dL_law_613 : decode cL_law 613 = .ok (.iload_n 3, 1) := by decide +kernel
theorem dL_law_614 : decode cL_law 614 = .ok (.iconst 2, 1) := by decide +kernel
theorem dL_law_615 : decode cL_law 615 = .ok (.iadd, 1) := by decide +kernel
theorem dL_law_616 : decode cL_law 616 = .ok (.iaload, 1) := by decide +kernel
theorem dL_law_617 : decode cL_law 617 = .ok (.aload_n 0, 1) := by decide +kernel
theorem dL_law_618 : decode cL_law 618 = .ok (.iload_n 3, 1) := by decide +kernel
theorem dL_law_619 : decode cL_law 619 = .ok (.iconst 3, 1) := by decide +kernel
theorem dL_law_620 : decode cL_law 620 = .ok (.iadd, 1) := by decide +kernel
theorem dL_law_621 : decode cL_law 621 = .ok (.iaload, 1) := by decide +kernel
theorem dL_law_622 : decode cL_law 622 = .ok (.aload_n 0, 1) := by decide +kernel
theorem dL_law_623 : decode cL_law 623 = .ok (.iload_n 3, 1) := by decide +kernel
theorem dL_law_624 : decode cL_law 624 = .ok (.iconst 4, 1) := by decide +kernel
theorem dL_law_625 : decode cL_law 625 = .ok (.iadd, 1) := by decide +kernel
theorem dL_law_626 : decode cL_law 626 = .ok (.iaload, 1) := by decide +kernel
theorem dL_law_627 : decode cL_law 627 = .ok (.invokevirtual 89, 3) := by decide +kernel
theorem dL_law_630 : decode cL_law 630 = .ok (.aload_n 2, 1) := by decide +kernel
theorem dL_law_631 : decode cL_law 631 = .ok (.aload_n 0, 1) := by decide +kernel
theorem dL_law_632 : decode cL_law 632 = .ok (.iload_n 3, 1) := by decide +kernel
theorem dL_law_633 : decode cL_law 633 = .ok (.iconst 1, 1) := by decide +kernel
theorem dL_law_634 : decode cL_law 634 = .ok (.iadd, 1) := by decide +kernel
theorem dL_law_635 : decode cL_law 635 = .ok (.iaload, 1) := by decide +kernel
theorem dL_law_636 : decode cL_law 636 = .ok (.aload_n 0, 1) := by decide +kernel
theorem dL_law_637 : decode cL_law 637 = .ok (.iload_n 3, 1) := by decide +kernel
theorem dL_law_638 : decode cL_law 638 = .ok (.iconst 2, 1) := by decide +kernel
theorem dL_law_639 : decode cL_law 639 = .ok (.iadd, 1) := by decide +kernel
theorem dL_law_640 : decode cL_law 640 = .ok (.iaload, 1) := by decide +kernel
theorem dL_law_641 : decode cL_law 641 = .ok (.aload_n 0, 1) := by decide +kernel
theorem dL_law_642 : decode cL_law 642 = .ok (.iload_n 3, 1) := by decide +kernel
theorem dL_law_643 : decode cL_law 643 = .ok (.iconst 3, 1) := by decide +kernel
theorem dL_law_644 : decode cL_law 644 = .ok (.iadd, 1) := by decide +kernel
theorem dL_law_645 : decode cL_law 645 = .ok (.iaload, 1) := by decide +kernel
theorem dL_law_646 : decode cL_law 646 = .ok (.aload_n 0, 1) := by decide +kernel
theorem dL_law_647 : decode cL_law 647 = .ok (.iload_n 3, 1) := by decide +kernel
theorem dL_law_648 : decode cL_law 648 = .ok (.iconst 4, 1) := by decide +kernel
theorem dL_law_649 : decode cL_law 649 = .ok (.iadd, 1) := by decide +kernel
theorem dL_law_650 : decode cL_law 650 = .ok (.iaload, 1) := by decide +kernel
theorem dL_law_651 : decode cL_law 651 = .ok (.invokevirtual 93, 3) := by decide +kernel
theorem dL_law_654 : decode cL_law 654 = .ok (.if_icmp .eq 167, 3) := by decide +kernel
theorem dL_law_657 : decode cL_law 657 = .ok (.iconst 0, 1) := by decide +kernel
theorem dL_law_658 : decode cL_law 658 = .ok (.ireturn, 1) := by decide +kernel
theorem dL_law_659 : decode cL_law 659 = .ok (.aload_n 1, 1) := by decide +kernel
theorem dL_law_660 : decode cL_law 660 = .ok (.aload_n 0, 1) := by decide +kernel
theorem dL_law_661 : decode cL_law 661 = .ok (.iload_n 3, 1) := by decide +kernel
theorem dL_law_662 : decode cL_law 662 = .ok (.iconst 1, 1) := by decide +kernel
theorem dL_law_663 : decode cL_law 663 = .ok (.iadd, 1) := by decide +kernel
theorem dL_law_664 : decode cL_law 664 = .ok (.iaload, 1) := by decide +kernel
theorem dL_law_665 : decode cL_law 665 = .ok (.aload_n 0, 1) := by decide +kernel
theorem dL_law_666 : decode cL_law 666 = .ok (.iload_n 3, 1) := by decide +kernel
theorem dL_law_667 : decode cL_law 667 = .ok (.iconst 2, 1) := by decide +kernel
theorem dL_law_668 : decode cL_law 668 = .ok (.iadd, 1) := by decide +kernel
theorem dL_law_669 : decode cL_law 669 = .ok (.iaload, 1) := by decide +kernel
theorem dL_law_670 : decode cL_law 670 = .ok (.aload_n 0, 1) := by decide +kernel
theorem dL_law_671 : decode cL_law 671 = .ok (.iload_n 3, 1) := by decide +kernel
theorem dL_law_672 : decode cL_law 672 = .ok (.iconst 3, 1) := by decide +kernel
theorem dL_law_673 : decode cL_law 673 = .ok (.iadd, 1) := by decide +kernel
theorem dL_law_674 : decode cL_law 674 = .ok (.iaload, 1) := by decide +kernel
theorem dL_law_675 : decode cL_law 675 = .ok (.invokevirtual 94, 3) := by decide +kernel
theorem dL_law_678 : decode cL_law 678 = .ok (.aload_n 2, 1) := by decide +kernel
theorem dL_law_679 : decode cL_law 679 = .ok (.aload_n 0, 1) := by decide +kernel
theorem dL_law_680 : decode cL_law 680 = .ok (.iload_n 3, 1) := by decide +kernel
theorem dL_law_681 : decode cL_law 681 = .ok (.iconst 1, 1) := by decide +kernel
theorem dL_law_682 : decode cL_law 682 = .ok (.iadd, 1) := by decide +kernel
theorem dL_law_683 : decode cL_law 683 = .ok (.iaload, 1) := by decide +kernel
theorem dL_law_684 : decode cL_law 684 = .ok (.aload_n 0, 1) := by decide +kernel
theorem dL_law_685 : decode cL_law 685 = .ok (.iload_n 3, 1) := by decide +kernel
theorem dL_law_686 : decode cL_law 686 = .ok (.iconst 2, 1) := by decide +kernel
theorem dL_law_687 : decode cL_law 687 = .ok (.iadd, 1) := by decide +kernel
theorem dL_law_688 : decode cL_law 688 = .ok (.iaload, 1) := by decide +kernel
theorem dL_law_689 : decode cL_law 689 = .ok (.aload_n 0, 1) := by decide +kernel
theorem dL_law_690 : decode cL_law 690 = .ok (.iload_n 3, 1) := by decide +kernel
theorem dL_law_691 : decode cL_law 691 = .ok (.iconst 3, 1) := by decide +kernel
theorem dL_law_692 : decode cL_law 692 = .ok (.iadd, 1) := by decide +kernel
theorem dL_law_693 : decode cL_law 693 = .ok (.iaload, 1) := by decide +kernel
theorem dL_law_694 : decode cL_law 694 = .ok (.invokevirtual 97, 3) := by decide +kernel
theorem dL_law_697 : decode cL_law 697 = .ok (.if_icmp .eq 124, 3) := by decide +kernel
theorem dL_law_700 : decode cL_law 700 = .ok (.iconst 0, 1) := by decide +kernel
theorem dL_law_701 : decode cL_law 701 = .ok (.ireturn, 1) := by decide +kernel
theorem dL_law_702 : decode cL_law 702 = .ok (.aload_n 1, 1) := by decide +kernel
theorem dL_law_703 : decode cL_law 703 = .ok (.invokevirtual 98, 3) := by decide +kernel
theorem dL_law_706 : decode cL_law 706 = .ok (.aload_n 2, 1) := by decide +kernel
theorem dL_law_707 : decode cL_law 707 = .ok (.invokevirtual 101, 3) := by decide +kernel
theorem dL_law_710 : decode cL_law 710 = .ok (.if_icmp .eq 111, 3) := by decide +kernel
theorem dL_law_713 : decode cL_law 713 = .ok (.iconst 0, 1) := by decide +kernel
theorem dL_law_714 : decode cL_law 714 = .ok (.ireturn, 1) := by decide +kernel
theorem dL_law_715 : decode cL_law 715 = .ok (.aload_n 1, 1) := by decide +kernel
theorem dL_law_716 : decode cL_law 716 = .ok (.aload_n 0, 1) := by decide +kernel
theorem dL_law_717 : decode cL_law 717 = .ok (.iload_n 3, 1) := by decide +kernel
theorem dL_law_718 : decode cL_law 718 = .ok (.iconst 1, 1) := by decide +kernel
theorem dL_law_719 : decode cL_law 719 = .ok (.iadd, 1) := by decide +kernel
theorem dL_law_720 : decode cL_law 720 = .ok (.iaload, 1) := by decide +kernel
theorem dL_law_721 : decode cL_law 721 = .ok (.aload_n 0, 1) := by decide +kernel
theorem dL_law_722 : decode cL_law 722 = .ok (.iload_n 3, 1) := by decide +kernel
theorem dL_law_723 : decode cL_law 723 = .ok (.iconst 2, 1) := by decide +kernel
theorem dL_law_724 : decode cL_law 724 = .ok (.iadd, 1) := by decide +kernel
theorem dL_law_725 : decode cL_law 725 = .ok (.iaload, 1) := by decide +kernel
theorem dL_law_726 : decode cL_law 726 = .ok (.aload_n 0, 1) := by decide +kernel
theorem dL_law_727 : decode cL_law 727 = .ok (.iload_n 3, 1) := by decide +kernel
theorem dL_law_728 : decode cL_law 728 = .ok (.iconst 3, 1) := by decide +kernel
theorem dL_law_729 : decode cL_law 729 = .ok (.iadd, 1) := by decide +kernel
theorem dL_law_730 : decode cL_law 730 = .ok (.iaload, 1) := by decide +kernel
theorem dL_law_731 : decode cL_law 731 = .ok (.invokevirtual 102, 3) := by decide +kernel
theorem dL_law_734 : decode cL_law 734 = .ok (.aload_n 2, 1) := by decide +kernel
theorem dL_law_735 : decode cL_law 735 = .ok (.aload_n 0, 1) := by decide +kernel
theorem dL_law_736 : decode cL_law 736 = .ok (.iload_n 3, 1) := by decide +kernel
theorem dL_law_737 : decode cL_law 737 = .ok (.iconst 1, 1) := by decide +kernel
theorem dL_law_738 : decode cL_law 738 = .ok (.iadd, 1) := by decide +kernel
theorem dL_law_739 : decode cL_law 739 = .ok (.iaload, 1) := by decide +kernel
theorem dL_law_740 : decode cL_law 740 = .ok (.aload_n 0, 1) := by decide +kernel
theorem dL_law_741 : decode cL_law 741 = .ok (.iload_n 3, 1) := by decide +kernel
theorem dL_law_742 : decode cL_law 742 = .ok (.iconst 2, 1) := by decide +kernel
theorem dL_law_743 : decode cL_law 743 = .ok (.iadd, 1) := by decide +kernel
theorem dL_law_744 : decode cL_law 744 = .ok (.iaload, 1) := by decide +kernel
theorem dL_law_745 : decode cL_law 745 = .ok (.aload_n 0, 1) := by decide +kernel
theorem dL_law_746 : decode cL_law 746 = .ok (.iload_n 3, 1) := by decide +kernel
theorem dL_law_747 : decode cL_law 747 = .ok (.iconst 3, 1) := by decide +kernel
theorem dL_law_748 : decode cL_law 748 = .ok (.iadd, 1) := by decide +kernel
theorem dL_law_749 : decode cL_law 749 = .ok (.iaload, 1) := by decide +kernel
theorem dL_law_750 : decode cL_law 750 = .ok (.invokevirtual 105, 3) := by decide +kernel
theorem dL_law_753 : decode cL_law 753 = .ok (.if_icmp .eq 68, 3) := by decide +kernel
theorem dL_law_756 : decode cL_law 756 = .ok (.iconst 0, 1) := by decide +kernel
theorem dL_law_757 : decode cL_law 757 = .ok (.ireturn, 1) := by decide +kernel
theorem dL_law_758 : decode cL_law 758 = .ok (.aload_n 1, 1) := by decide +kernel
theorem dL_law_759 : decode cL_law 759 = .ok (.invokevirtual 106, 3) := by decide +kernel
theorem dL_law_762 : decode cL_law 762 = .ok (.aload_n 2, 1) := by decide +kernel
theorem dL_law_763 : decode cL_law 763 = .ok (.invokevirtual 109, 3) := by decide +kernel
theorem dL_law_766 : decode cL_law 766 = .ok (.if_icmp .eq 55, 3) := by decide +kernel
theorem dL_law_769 : decode cL_law 769 = .ok (.iconst 0, 1) := by decide +kernel
theorem dL_law_770 : decode cL_law 770 = .ok (.ireturn, 1) := by decide +kernel
theorem dL_law_771 : decode cL_law 771 = .ok (.aload_n 1, 1) := by decide +kernel
theorem dL_law_772 : decode cL_law 772 = .ok (.invokevirtual 110, 3) := by decide +kernel
theorem dL_law_775 : decode cL_law 775 = .ok (.aload_n 2, 1) := by decide +kernel
theorem dL_law_776 : decode cL_law 776 = .ok (.invokevirtual 113, 3) := by decide +kernel
theorem dL_law_779 : decode cL_law 779 = .ok (.if_icmp .eq 42, 3) := by decide +kernel
theorem dL_law_782 : decode cL_law 782 = .ok (.iconst 0, 1) := by decide +kernel
theorem dL_law_783 : decode cL_law 783 = .ok (.ireturn, 1) := by decide +kernel
theorem dL_law_784 : decode cL_law 784 = .ok (.aload_n 1, 1) := by decide +kernel
theorem dL_law_785 : decode cL_law 785 = .ok (.aload_n 0, 1) := by decide +kernel
theorem dL_law_786 : decode cL_law 786 = .ok (.iload_n 3, 1) := by decide +kernel
theorem dL_law_787 : decode cL_law 787 = .ok (.iconst 1, 1) := by decide +kernel
theorem dL_law_788 : decode cL_law 788 = .ok (.iadd, 1) := by decide +kernel
theorem dL_law_789 : decode cL_law 789 = .ok (.iaload, 1) := by decide +kernel
theorem dL_law_790 : decode cL_law 790 = .ok (.invokevirtual 114, 3) := by decide +kernel
theorem dL_law_793 : decode cL_law 793 = .ok (.aload_n 2, 1) := by decide +kernel
theorem dL_law_794 : decode cL_law 794 = .ok (.aload_n 0, 1) := by decide +kernel
theorem dL_law_795 : decode cL_law 795 = .ok (.iload_n 3, 1) := by decide +kernel
theorem dL_law_796 : decode cL_law 796 = .ok (.iconst 1, 1) := by decide +kernel
theorem dL_law_797 : decode cL_law 797 = .ok (.iadd, 1) := by decide +kernel
theorem dL_law_798 : decode cL_law 798 = .ok (.iaload, 1) := by decide +kernel
theorem dL_law_799 : decode cL_law 799 = .ok (.invokevirtual 117, 3) := by decide +kernel
theorem dL_law_802 : decode cL_law 802 = .ok (.if_icmp .eq 19, 3) := by decide +kernel
theorem dL_law_805 : decode cL_law 805 = .ok (.iconst 0, 1) := by decide +kernel
theorem dL_law_806 : decode cL_law 806 = .ok (.ireturn, 1) := by decide +kernel
theorem dL_law_807 : decode cL_law 807 = .ok (.aload_n 1, 1) := by decide +kernel
theorem dL_law_808 : decode cL_law 808 = .ok (.invokevirtual 118, 3) := by decide +kernel
theorem dL_law_811 : decode cL_law 811 = .ok (.aload_n 2, 1) := by decide +kernel
theorem dL_law_812 : decode cL_law 812 = .ok (.invokevirtual 122, 3) := by decide +kernel
theorem dL_law_815 : decode cL_law 815 = .ok (.lcmp, 1) := by decide +kernel
theorem dL_law_816 : decode cL_law 816 = .ok (.ifCond .eq 5, 3) := by decide +kernel
theorem dL_law_819 : decode cL_law 819 = .ok (.iconst 0, 1) := by decide +kernel
theorem dL_law_820 : decode cL_law 820 = .ok (.ireturn, 1) := by decide +kernel
theorem dL_law_821 : decode cL_law 821 = .ok (.iinc 3 5, 3) := by decide +kernel
theorem dL_law_824 : decode cL_law 824 = .ok (.goto (-806), 3) := by decide +kernel
theorem dL_law_827 : decode cL_law 827 = .ok (.iconst 1, 1) := by decide +kernel
theorem dL_law_828 : decode cL_law 828 = .ok (.ireturn, 1) := by decide +kernel
end
section
def zI (z : Int) : Int32 := Int32.ofInt z
def zL (z : Int) : Int64 := Int64.ofInt z
/-- the tables' words that stay -/
def TT : List Cond := lw_tbl.filter goodWord
def isNest : Cond → Bool
  | .fieldLinkNest .. => true
  | .methodLinkNest .. => true
  | _ => false
theorem TT_of {w : Cond} (h : w ∈ tables_1) (hg : goodWord w = true) : w ∈ TT := List.mem_filter.mpr ⟨List.mem_append_right _ h, hg⟩
theorem TT_good {w : Cond} (h : w ∈ TT) : w ∈ lw_tbl ∧ goodWord w = true := List.mem_filter.mp h
theorem mN1 {w : Cond} {i : Nat} (h : tables_1_1[i]? = some w) : w ∈ tables_1 := List.mem_append_left _ (List.mem_of_getElem? h)
theorem mN2 {w : Cond} {i : Nat} (h : tables_1_2[i]? = some w) : w ∈ tables_1 := List.mem_append_right _ (List.mem_append_left _ (List.mem_of_getElem? h))
theorem mN3 {w : Cond} {i : Nat} (h : tables_1_3[i]? = some w) : w ∈ tables_1 := List.mem_append_right _ (List.mem_append_right _ (List.mem_append_left _ (List.mem_of_getElem? h)))
theorem mN4 {w : Cond} {i : Nat} (h : tables_1_4[i]? = some w) : w ∈ tables_1 := List.mem_append_right _ (List.mem_append_right _ (List.mem_append_right _ (List.mem_append_left _ (List.mem_of_getElem? h))))
theorem mN5 {w : Cond} {i : Nat} (h : tables_1_5[i]? = some w) : w ∈ tables_1 := List.mem_append_right _ (List.mem_append_right _ (List.mem_append_right _ (List.mem_append_right _ (List.mem_of_getElem? h))))
theorem mT1 {w : Cond} {i : Nat} (h : tables_1_1[i]? = some w) (hg : goodWord w = true) : w ∈ TT := TT_of (mN1 h) hg
theorem mT2 {w : Cond} {i : Nat} (h : tables_1_2[i]? = some w) (hg : goodWord w = true) : w ∈ TT := TT_of (mN2 h) hg
theorem mT3 {w : Cond} {i : Nat} (h : tables_1_3[i]? = some w) (hg : goodWord w = true) : w ∈ TT := TT_of (mN3 h) hg
theorem mT4 {w : Cond} {i : Nat} (h : tables_1_4[i]? = some w) (hg : goodWord w = true) : w ∈ TT := TT_of (mN4 h) hg
theorem mT5 {w : Cond} {i : Nat} (h : tables_1_5[i]? = some w) (hg : goodWord w = true) : w ∈ TT := TT_of (mN5 h) hg
theorem mTs {y : MethodName} {n i : Nat} {C : String} (h : lw_privs[i]? = some (y, n)) (hg : decide (C = y.cls) = true ∧ goodWord (Cond.selects C y y) = true) : Cond.selects C y y ∈ TT := by
  obtain ⟨h1, h2⟩ := hg
  have h1 := of_decide_eq_true h1
  subst h1
  exact List.mem_filter.mpr ⟨List.mem_append_left _ (List.mem_map.mpr ⟨(y, n), List.mem_of_getElem? h, rfl⟩), h2⟩
theorem mTu {ws : List Cond} (h : ws.all (fun w => decide (w ∈ tables_1_1) || (decide (w ∈ tables_1_2) || (decide (w ∈ tables_1_3) || decide (w ∈ tables_1_4)))) = true) (hg : ws.all goodWord = true) : ∀ w ∈ ws, w ∈ TT := by
  intro w hw
  have h1 := List.all_eq_true.mp h w hw
  have h2 := List.all_eq_true.mp hg w hw
  refine TT_of ?_ h2
  simp only [Bool.or_eq_true, decide_eq_true_eq] at h1
  rcases h1 with h | h | h | h
  · exact List.mem_append_left _ h
  · exact List.mem_append_right _ (List.mem_append_left _ h)
  · exact List.mem_append_right _ (List.mem_append_right _ (List.mem_append_left _ h))
  · exact List.mem_append_right _ (List.mem_append_right _ (List.mem_append_right _ (List.mem_append_left _ h)))
theorem qn_L : Cond.initialized RL ∈ TT := mT1 (i := 0) (by decide +kernel) (by decide +kernel)
theorem qn_X3 : Cond.initialized RX3 ∈ TT := mT1 (i := 1) (by decide +kernel) (by decide +kernel)
theorem qn_X0 : Cond.initialized RX0 ∈ TT := mT1 (i := 2) (by decide +kernel) (by decide +kernel)
theorem qn_X1 : Cond.initialized RX1 ∈ TT := mT1 (i := 3) (by decide +kernel) (by decide +kernel)
theorem qn_X2 : Cond.initialized RX2 ∈ TT := mT1 (i := 4) (by decide +kernel) (by decide +kernel)
theorem qn_X4 : Cond.initialized RX4 ∈ TT := mT1 (i := 5) (by decide +kernel) (by decide +kernel)
theorem qn_J0 : Cond.initialized RJ0 ∈ TT := mT1 (i := 6) (by decide +kernel) (by decide +kernel)
theorem qn_J1 : Cond.initialized RJ1 ∈ TT := mT1 (i := 7) (by decide +kernel) (by decide +kernel)
theorem qn_J9 : Cond.initialized RJ9 ∈ TT := mT1 (i := 8) (by decide +kernel) (by decide +kernel)
theorem qn_Math : Cond.initialized "java/lang/Math" ∈ TT := mT1 (i := 8) (by decide +kernel) (by decide +kernel)
theorem qn_J2 : Cond.initialized RJ2 ∈ TT := mT1 (i := 9) (by decide +kernel) (by decide +kernel)
theorem qn_J3 : Cond.initialized RJ3 ∈ TT := mT1 (i := 10) (by decide +kernel) (by decide +kernel)
theorem qn_J11 : Cond.initialized RJ11 ∈ TT := mT1 (i := 11) (by decide +kernel) (by decide +kernel)
theorem qn_J7 : Cond.initialized RJ7 ∈ TT := mT1 (i := 12) (by decide +kernel) (by decide +kernel)
theorem qn_J10 : Cond.initialized RJ10 ∈ TT := mT1 (i := 13) (by decide +kernel) (by decide +kernel)
theorem qn_System : Cond.initialized "java/lang/System" ∈ TT := mT1 (i := 13) (by decide +kernel) (by decide +kernel)
theorem qx_L_7 : Cond.classLink RL 7 RX3 ∈ TT := mT1 (i := 14) (by decide +kernel) (by decide +kernel)
theorem qa_X3 : Cond.instantiable RX3 10 ∈ TT := mT1 (i := 15) (by decide +kernel) (by decide +kernel)
theorem qm_L_9 : Cond.methodLink RL 9 yX3_init ∈ TT := mT1 (i := 16) (by decide +kernel) (by decide +kernel)
theorem qi_X3_init : Cond.instanceMethod yX3_init ∈ TT := mT1 (i := 17) (by decide +kernel) (by decide +kernel)
theorem qc_X3_init : Cond.code yX3_init cX3_init 1 none ∈ TT := mT1 (i := 18) (by decide +kernel) (by decide +kernel)
theorem qm_X3_1 : Cond.methodLink RX3 1 objectInit ∈ TT := mT1 (i := 19) (by decide +kernel) (by decide +kernel)
theorem qi_oinit : Cond.instanceMethod objectInit ∈ TT := mT1 (i := 20) (by decide +kernel) (by decide +kernel)
theorem qc_oinit : Cond.code objectInit ⟨#[0xb1]⟩ 1 none ∈ TT := mT1 (i := 21) (by decide +kernel) (by decide +kernel)
theorem qx_X3_7 : Cond.classLink RX3 7 RX0 ∈ TT := mT1 (i := 22) (by decide +kernel) (by decide +kernel)
theorem qa_X0 : Cond.instantiable RX0 2 ∈ TT := mT1 (i := 23) (by decide +kernel) (by decide +kernel)
theorem nk_X3_9 : Cond.methodLinkNest RX3 9 yX0_init RX3 ∈ tables_1 := mN1 (i := 24) (by decide +kernel)
theorem qi_X0_init : Cond.instanceMethod yX0_init ∈ TT := mT1 (i := 25) (by decide +kernel) (by decide +kernel)
theorem qc_X0_init : Cond.code yX0_init cX0_init 1 none ∈ TT := mT1 (i := 26) (by decide +kernel) (by decide +kernel)
theorem qm_X0_5 : Cond.methodLink RX0 5 objectInit ∈ TT := mT1 (i := 27) (by decide +kernel) (by decide +kernel)
theorem qf_X0_11 : Cond.fieldLink RX0 11 "DeckHands$Page" "letters" "[I" ∈ TT := mT1 (i := 28) (by decide +kernel) (by decide +kernel)
theorem nf_X3_219 : Cond.fieldLinkNest RX3 219 "DeckHands$Page" "letters" "[I" RX3 ∈ tables_1 := mN1 (i := 29) (by decide +kernel)
theorem qf_X0_15 : Cond.fieldLink RX0 15 "DeckHands$Page" "length" "I" ∈ TT := mT1 (i := 30) (by decide +kernel) (by decide +kernel)
theorem nf_X3_43 : Cond.fieldLinkNest RX3 43 "DeckHands$Page" "length" "I" RX3 ∈ tables_1 := mN1 (i := 31) (by decide +kernel)
theorem qr_int : Cond.arrayClass .int ∈ TT := mT1 (i := 37) (by decide +kernel) (by decide +kernel)
theorem qx_X3_16 : Cond.classLink RX3 16 RX1 ∈ TT := mT1 (i := 38) (by decide +kernel) (by decide +kernel)
theorem qa_X1 : Cond.instantiable RX1 11 ∈ TT := mT1 (i := 39) (by decide +kernel) (by decide +kernel)
theorem nk_X3_18 : Cond.methodLinkNest RX3 18 yX1_init RX3 ∈ tables_1 := mN1 (i := 40) (by decide +kernel)
theorem qi_X1_init : Cond.instanceMethod yX1_init ∈ TT := mT1 (i := 41) (by decide +kernel) (by decide +kernel)
theorem qc_X1_init : Cond.code yX1_init cX1_init 1 none ∈ TT := mT1 (i := 42) (by decide +kernel) (by decide +kernel)
theorem qm_X1_3 : Cond.methodLink RX1 3 objectInit ∈ TT := mT1 (i := 43) (by decide +kernel) (by decide +kernel)
theorem qf_X1_33 : Cond.fieldLink RX1 33 "DeckHands$Table" "cards" "I" ∈ TT := mT1 (i := 44) (by decide +kernel) (by decide +kernel)
theorem nf_X3_201 : Cond.fieldLinkNest RX3 201 "DeckHands$Table" "cards" "I" RX3 ∈ tables_1 := mN1 (i := 45) (by decide +kernel)
theorem qf_X1_37 : Cond.fieldLink RX1 37 "DeckHands$Table" "steps" "I" ∈ TT := mT1 (i := 46) (by decide +kernel) (by decide +kernel)
theorem nf_X3_73 : Cond.fieldLinkNest RX3 73 "DeckHands$Table" "steps" "I" RX3 ∈ tables_1 := mN1 (i := 47) (by decide +kernel)
theorem nf_X0_48 : Cond.fieldLinkNest RX0 48 "DeckHands$Table" "steps" "I" RX3 ∈ tables_1 := mN1 (i := 48) (by decide +kernel)
theorem qf_X1_40 : Cond.fieldLink RX1 40 "DeckHands$Table" "done" "I" ∈ TT := mT1 (i := 49) (by decide +kernel) (by decide +kernel)
theorem nf_X3_117 : Cond.fieldLinkNest RX3 117 "DeckHands$Table" "done" "I" RX3 ∈ tables_1 := mN1 (i := 50) (by decide +kernel)
theorem qf_X1_43 : Cond.fieldLink RX1 43 "DeckHands$Table" "seen" "I" ∈ TT := mT1 (i := 51) (by decide +kernel) (by decide +kernel)
theorem nf_X3_182 : Cond.fieldLinkNest RX3 182 "DeckHands$Table" "seen" "I" RX3 ∈ tables_1 := mN1 (i := 52) (by decide +kernel)
theorem qf_X1_9 : Cond.fieldLink RX1 9 "DeckHands$Table" "kinds" "[I" ∈ TT := mT1 (i := 53) (by decide +kernel) (by decide +kernel)
theorem nf_X3_80 : Cond.fieldLinkNest RX3 80 "DeckHands$Table" "kinds" "[I" RX3 ∈ tables_1 := mN1 (i := 54) (by decide +kernel)
theorem qf_X1_15 : Cond.fieldLink RX1 15 "DeckHands$Table" "numbers" "[I" ∈ TT := mT1 (i := 55) (by decide +kernel) (by decide +kernel)
theorem nf_X3_83 : Cond.fieldLinkNest RX3 83 "DeckHands$Table" "numbers" "[I" RX3 ∈ tables_1 := mN1 (i := 56) (by decide +kernel)
theorem qf_X1_18 : Cond.fieldLink RX1 18 "DeckHands$Table" "moves" "[I" ∈ TT := mT1 (i := 57) (by decide +kernel) (by decide +kernel)
theorem qf_X1_21 : Cond.fieldLink RX1 21 "DeckHands$Table" "pack" "[I" ∈ TT := mT1 (i := 58) (by decide +kernel) (by decide +kernel)
theorem nf_X3_111 : Cond.fieldLinkNest RX3 111 "DeckHands$Table" "pack" "[I" RX3 ∈ tables_1 := mN1 (i := 59) (by decide +kernel)
theorem qf_X1_24 : Cond.fieldLink RX1 24 "DeckHands$Table" "seenSteps" "[I" ∈ TT := mT1 (i := 60) (by decide +kernel) (by decide +kernel)
theorem qf_X1_27 : Cond.fieldLink RX1 27 "DeckHands$Table" "seenFrom" "[I" ∈ TT := mT1 (i := 61) (by decide +kernel) (by decide +kernel)
theorem qf_X1_30 : Cond.fieldLink RX1 30 "DeckHands$Table" "seenTo" "[I" ∈ TT := mT1 (i := 62) (by decide +kernel) (by decide +kernel)
theorem qx_X3_26 : Cond.classLink RX3 26 RX2 ∈ TT := mT1 (i := 86) (by decide +kernel) (by decide +kernel)
theorem qa_X2 : Cond.instantiable RX2 2 ∈ TT := mT1 (i := 87) (by decide +kernel) (by decide +kernel)
theorem nk_X3_28 : Cond.methodLinkNest RX3 28 yX2_init RX3 ∈ tables_1 := mN1 (i := 88) (by decide +kernel)
theorem qi_X2_init : Cond.instanceMethod yX2_init ∈ TT := mT1 (i := 89) (by decide +kernel) (by decide +kernel)
theorem qc_X2_init : Cond.code yX2_init cX2_init 1 none ∈ TT := mT1 (i := 90) (by decide +kernel) (by decide +kernel)
theorem qm_X2_3 : Cond.methodLink RX2 3 objectInit ∈ TT := mT1 (i := 91) (by decide +kernel) (by decide +kernel)
theorem qf_X2_15 : Cond.fieldLink RX2 15 "DeckHands$Way" "places" "I" ∈ TT := mT1 (i := 92) (by decide +kernel) (by decide +kernel)
theorem qf_X2_9 : Cond.fieldLink RX2 9 "DeckHands$Way" "to" "[I" ∈ TT := mT1 (i := 93) (by decide +kernel) (by decide +kernel)
theorem nf_X1_59 : Cond.fieldLinkNest RX1 59 "DeckHands$Way" "to" "[I" RX3 ∈ tables_1 := mN1 (i := 94) (by decide +kernel)
theorem nf_X3_141 : Cond.fieldLinkNest RX3 141 "DeckHands$Way" "to" "[I" RX3 ∈ tables_1 := mN1 (i := 95) (by decide +kernel)
theorem qf_X3_10 : Cond.fieldLink RX3 10 "DeckHands" "page" "LDeckHands$Page;" ∈ TT := mT1 (i := 101) (by decide +kernel) (by decide +kernel)
theorem qf_X3_19 : Cond.fieldLink RX3 19 "DeckHands" "now" "LDeckHands$Table;" ∈ TT := mT1 (i := 102) (by decide +kernel) (by decide +kernel)
theorem qf_X3_23 : Cond.fieldLink RX3 23 "DeckHands" "kept" "LDeckHands$Table;" ∈ TT := mT1 (i := 103) (by decide +kernel) (by decide +kernel)
theorem qf_X3_66 : Cond.fieldLink RX3 66 "DeckHands" "isKept" "Z" ∈ TT := mT1 (i := 104) (by decide +kernel) (by decide +kernel)
theorem qf_X3_70 : Cond.fieldLink RX3 70 "DeckHands" "routinesRead" "I" ∈ TT := mT1 (i := 105) (by decide +kernel) (by decide +kernel)
theorem qf_X3_166 : Cond.fieldLink RX3 166 "DeckHands" "homeCalls" "I" ∈ TT := mT1 (i := 106) (by decide +kernel) (by decide +kernel)
theorem qf_X3_29 : Cond.fieldLink RX3 29 "DeckHands" "way" "LDeckHands$Way;" ∈ TT := mT1 (i := 107) (by decide +kernel) (by decide +kernel)
theorem qf_X3_33 : Cond.fieldLink RX3 33 "DeckHands" "tally" "[I" ∈ TT := mT1 (i := 108) (by decide +kernel) (by decide +kernel)
theorem qf_X3_37 : Cond.fieldLink RX3 37 "DeckHands" "spare" "[I" ∈ TT := mT1 (i := 109) (by decide +kernel) (by decide +kernel)
theorem qf_X3_40 : Cond.fieldLink RX3 40 "DeckHands" "path" "[I" ∈ TT := mT1 (i := 110) (by decide +kernel) (by decide +kernel)
theorem qm_L_13 : Cond.methodLink RL 13 yX3_letter ∈ TT := mT1 (i := 132) (by decide +kernel) (by decide +kernel)
theorem qi_X3_letter : Cond.instanceMethod yX3_letter ∈ TT := mT1 (i := 133) (by decide +kernel) (by decide +kernel)
theorem ql_X3_letter : Cond.selects RX3 yX3_letter yX3_letter ∈ TT := mT1 (i := 134) (by decide +kernel) (by decide +kernel)
theorem qc_X3_letter : Cond.code yX3_letter cX3_letter 2 (some .int) ∈ TT := mT1 (i := 135) (by decide +kernel) (by decide +kernel)
theorem nk_X3_47 : Cond.methodLinkNest RX3 47 yX0_append RX3 ∈ tables_1 := mN1 (i := 136) (by decide +kernel)
theorem qi_X0_append : Cond.instanceMethod yX0_append ∈ TT := mT1 (i := 138) (by decide +kernel) (by decide +kernel)
theorem qc_X0_append : Cond.code yX0_append cX0_append 2 none ∈ TT := mT1 (i := 139) (by decide +kernel) (by decide +kernel)
theorem qm_L_18 : Cond.methodLink RL 18 yX3_blank ∈ TT := mT1 (i := 140) (by decide +kernel) (by decide +kernel)
theorem qi_X3_blank : Cond.instanceMethod yX3_blank ∈ TT := mT1 (i := 141) (by decide +kernel) (by decide +kernel)
theorem ql_X3_blank : Cond.selects RX3 yX3_blank yX3_blank ∈ TT := mT1 (i := 142) (by decide +kernel) (by decide +kernel)
theorem qc_X3_blank : Cond.code yX3_blank cX3_blank 1 (some .int) ∈ TT := mT1 (i := 143) (by decide +kernel) (by decide +kernel)
theorem nk_X3_51 : Cond.methodLinkNest RX3 51 yX0_clear RX3 ∈ tables_1 := mN1 (i := 144) (by decide +kernel)
theorem qi_X0_clear : Cond.instanceMethod yX0_clear ∈ TT := mT1 (i := 146) (by decide +kernel) (by decide +kernel)
theorem qc_X0_clear : Cond.code yX0_clear cX0_clear 2 (some .int) ∈ TT := mT1 (i := 147) (by decide +kernel) (by decide +kernel)
theorem qm_L_23 : Cond.methodLink RL 23 yX3_fault ∈ TT := mT1 (i := 148) (by decide +kernel) (by decide +kernel)
theorem qi_X3_fault : Cond.instanceMethod yX3_fault ∈ TT := mT1 (i := 149) (by decide +kernel) (by decide +kernel)
theorem ql_X3_fault : Cond.selects RX3 yX3_fault yX3_fault ∈ TT := mT1 (i := 150) (by decide +kernel) (by decide +kernel)
theorem qc_X3_fault : Cond.code yX3_fault cX3_fault 1 (some .int) ∈ TT := mT1 (i := 151) (by decide +kernel) (by decide +kernel)
theorem nk_X3_55 : Cond.methodLinkNest RX3 55 yX0_firstWrong RX3 ∈ tables_1 := mN1 (i := 152) (by decide +kernel)
theorem qi_X0_firstWrong : Cond.instanceMethod yX0_firstWrong ∈ TT := mT1 (i := 154) (by decide +kernel) (by decide +kernel)
theorem qc_X0_firstWrong : Cond.code yX0_firstWrong cX0_firstWrong 2 (some .int) ∈ TT := mT1 (i := 155) (by decide +kernel) (by decide +kernel)
theorem qm_X0_19 : Cond.methodLink RX0 19 yX0_mayStand ∈ TT := mT1 (i := 156) (by decide +kernel) (by decide +kernel)
theorem qi_X0_mayStand : Cond.instanceMethod yX0_mayStand ∈ TT := mT1 (i := 158) (by decide +kernel) (by decide +kernel)
theorem qc_X0_mayStand : Cond.code yX0_mayStand cX0_mayStand 3 (some .boolean) ∈ TT := mT1 (i := 159) (by decide +kernel) (by decide +kernel)
theorem qm_X0_23 : Cond.methodLink RX0 23 yX0_partOfStep ∈ TT := mT1 (i := 160) (by decide +kernel) (by decide +kernel)
theorem qs_X0_partOfStep : Cond.static yX0_partOfStep ∈ TT := mT1 (i := 161) (by decide +kernel) (by decide +kernel)
theorem qc_X0_partOfStep : Cond.code yX0_partOfStep cX0_partOfStep 1 (some .int) ∈ TT := mT1 (i := 162) (by decide +kernel) (by decide +kernel)
theorem qm_X0_31 : Cond.methodLink RX0 31 yX0_mayStandInStep ∈ TT := mT1 (i := 163) (by decide +kernel) (by decide +kernel)
theorem qs_X0_mayStandInStep : Cond.static yX0_mayStandInStep ∈ TT := mT1 (i := 164) (by decide +kernel) (by decide +kernel)
theorem qc_X0_mayStandInStep : Cond.code yX0_mayStandInStep cX0_mayStandInStep 2 (some .boolean) ∈ TT := mT1 (i := 165) (by decide +kernel) (by decide +kernel)
theorem qm_X0_37 : Cond.methodLink RX0 37 yJ0_indexOf_0f7a4 ∈ TT := mT1 (i := 167) (by decide +kernel) (by decide +kernel)
theorem qi_J0_indexOf_0f7a4 : Cond.instanceMethod yJ0_indexOf_0f7a4 ∈ TT := mT1 (i := 168) (by decide +kernel) (by decide +kernel)
theorem ql_J0_indexOf_0f7a4 : Cond.selects RJ0 yJ0_indexOf_0f7a4 yJ0_indexOf_0f7a4 ∈ TT := mT1 (i := 169) (by decide +kernel) (by decide +kernel)
theorem qc_J0_indexOf_0f7a4 : Cond.code yJ0_indexOf_0f7a4 cJ0_indexOf_0f7a4 2 (some .int) ∈ TT := mT1 (i := 170) (by decide +kernel) (by decide +kernel)
theorem qm_J0_633 : Cond.methodLink RJ0 633 yJ0_indexOf_7cf53 ∈ TT := mT1 (i := 171) (by decide +kernel) (by decide +kernel)
theorem qi_J0_indexOf_7cf53 : Cond.instanceMethod yJ0_indexOf_7cf53 ∈ TT := mT1 (i := 172) (by decide +kernel) (by decide +kernel)
theorem ql_J0_indexOf_7cf53 : Cond.selects RJ0 yJ0_indexOf_7cf53 yJ0_indexOf_7cf53 ∈ TT := mT1 (i := 173) (by decide +kernel) (by decide +kernel)
theorem qc_J0_indexOf_7cf53 : Cond.code yJ0_indexOf_7cf53 cJ0_indexOf_7cf53 3 (some .int) ∈ TT := mT1 (i := 174) (by decide +kernel) (by decide +kernel)
theorem qm_J0_492 : Cond.methodLink RJ0 492 yJ0_isLatin1_aae02 ∈ TT := mT1 (i := 175) (by decide +kernel) (by decide +kernel)
theorem qi_J0_isLatin1_aae02 : Cond.instanceMethod yJ0_isLatin1_aae02 ∈ TT := mT1 (i := 176) (by decide +kernel) (by decide +kernel)
theorem ql_J0_isLatin1_aae02 : Cond.selects RJ0 yJ0_isLatin1_aae02 yJ0_isLatin1_aae02 ∈ TT := mT1 (i := 177) (by decide +kernel) (by decide +kernel)
theorem qc_J0_isLatin1_aae02 : Cond.code yJ0_isLatin1_aae02 cJ0_isLatin1_aae02 1 (some .boolean) ∈ TT := mT1 (i := 178) (by decide +kernel) (by decide +kernel)
theorem qf_J0_38 : Cond.fieldLink RJ0 38 "java/lang/String" "COMPACT_STRINGS" "Z" ∈ TT := mT1 (i := 179) (by decide +kernel) (by decide +kernel)
theorem qm_J0_505 : Cond.methodLink RJ0 505 yJ0_length_8abf5 ∈ TT := mT1 (i := 181) (by decide +kernel) (by decide +kernel)
theorem qi_J0_length_8abf5 : Cond.instanceMethod yJ0_length_8abf5 ∈ TT := mT1 (i := 182) (by decide +kernel) (by decide +kernel)
theorem ql_J0_length_8abf5 : Cond.selects RJ0 yJ0_length_8abf5 yJ0_length_8abf5 ∈ TT := mT1 (i := 183) (by decide +kernel) (by decide +kernel)
theorem qc_J0_length_8abf5 : Cond.code yJ0_length_8abf5 cJ0_length_8abf5 1 (some .int) ∈ TT := mT1 (i := 184) (by decide +kernel) (by decide +kernel)
theorem qm_J0_335 : Cond.methodLink RJ0 335 yJ0_coder_7d493 ∈ TT := mT1 (i := 185) (by decide +kernel) (by decide +kernel)
theorem qi_J0_coder_7d493 : Cond.instanceMethod yJ0_coder_7d493 ∈ TT := mT1 (i := 186) (by decide +kernel) (by decide +kernel)
theorem ql_J0_coder_7d493 : Cond.selects RJ0 yJ0_coder_7d493 yJ0_coder_7d493 ∈ TT := mT1 (i := 187) (by decide +kernel) (by decide +kernel)
theorem qc_J0_coder_7d493 : Cond.code yJ0_coder_7d493 cJ0_coder_7d493 1 (some .byte) ∈ TT := mT1 (i := 188) (by decide +kernel) (by decide +kernel)
theorem qm_J0_637 : Cond.methodLink RJ0 637 yJ1_indexOf_4cfef ∈ TT := mT1 (i := 189) (by decide +kernel) (by decide +kernel)
theorem qs_J1_indexOf_4cfef : Cond.static yJ1_indexOf_4cfef ∈ TT := mT1 (i := 190) (by decide +kernel) (by decide +kernel)
theorem qc_J1_indexOf_4cfef : Cond.code yJ1_indexOf_4cfef cJ1_indexOf_4cfef 4 (some .int) ∈ TT := mT1 (i := 191) (by decide +kernel) (by decide +kernel)
theorem qm_J1_88 : Cond.methodLink RJ1 88 yJ1_canEncode_9a6ad ∈ TT := mT1 (i := 192) (by decide +kernel) (by decide +kernel)
theorem qs_J1_canEncode_9a6ad : Cond.static yJ1_canEncode_9a6ad ∈ TT := mT1 (i := 193) (by decide +kernel) (by decide +kernel)
theorem qc_J1_canEncode_9a6ad : Cond.code yJ1_canEncode_9a6ad cJ1_canEncode_9a6ad 1 (some .boolean) ∈ TT := mT1 (i := 194) (by decide +kernel) (by decide +kernel)
theorem qm_J1_92 : Cond.methodLink RJ1 92 Lib.Math.max.name ∈ TT := mT1 (i := 195) (by decide +kernel) (by decide +kernel)
theorem qs_Mmax : Cond.static Lib.Math.max.name ∈ TT := mT1 (i := 196) (by decide +kernel) (by decide +kernel)
theorem qc_Mmax : Cond.code Lib.Math.max.name Lib.Math.max.code 2 (some .int) ∈ TT := mT1 (i := 197) (by decide +kernel) (by decide +kernel)
theorem qm_J1_38 : Cond.methodLink RJ1 38 Lib.Math.min.name ∈ TT := mT1 (i := 198) (by decide +kernel) (by decide +kernel)
theorem qs_Mmin : Cond.static Lib.Math.min.name ∈ TT := mT1 (i := 199) (by decide +kernel) (by decide +kernel)
theorem qc_Mmin : Cond.code Lib.Math.min.name Lib.Math.min.code 2 (some .int) ∈ TT := mT1 (i := 200) (by decide +kernel) (by decide +kernel)
theorem qm_J1_95 : Cond.methodLink RJ1 95 yJ1_indexOfChar_4cfef ∈ TT := mT1 (i := 201) (by decide +kernel) (by decide +kernel)
theorem qs_J1_indexOfChar_4cfef : Cond.static yJ1_indexOfChar_4cfef ∈ TT := mT1 (i := 202) (by decide +kernel) (by decide +kernel)
theorem qc_J1_indexOfChar_4cfef : Cond.code yJ1_indexOfChar_4cfef cJ1_indexOfChar_4cfef 6 (some .int) ∈ TT := mT1 (i := 203) (by decide +kernel) (by decide +kernel)
theorem qf_J0_1053 : Cond.fieldLink RJ0 1053 "jdk/internal/util/Preconditions" "SIOOBE_FORMATTER" "Ljava/util/function/BiFunction;" ∈ TT := mT1 (i := 222) (by decide +kernel) (by decide +kernel)
theorem qf_J2_44 : Cond.fieldLink RJ2 44 "java/lang/StringUTF16" "$assertionsDisabled" "Z" ∈ TT := mT1 (i := 233) (by decide +kernel) (by decide +kernel)
theorem qf_J2_59 : Cond.fieldLink RJ2 59 "java/lang/StringUTF16" "HI_BYTE_SHIFT" "I" ∈ TT := mT1 (i := 235) (by decide +kernel) (by decide +kernel)
theorem qf_J2_63 : Cond.fieldLink RJ2 63 "java/lang/StringUTF16" "LO_BYTE_SHIFT" "I" ∈ TT := mT1 (i := 237) (by decide +kernel) (by decide +kernel)
theorem qr_byte : Cond.arrayClass .byte ∈ TT := mT2 (i := 13) (by decide +kernel) (by decide +kernel)
theorem qm_L_27 : Cond.methodLink RL 27 yX3_routine ∈ TT := mT2 (i := 14) (by decide +kernel) (by decide +kernel)
theorem qi_X3_routine : Cond.instanceMethod yX3_routine ∈ TT := mT2 (i := 15) (by decide +kernel) (by decide +kernel)
theorem ql_X3_routine : Cond.selects RX3 yX3_routine yX3_routine ∈ TT := mT2 (i := 16) (by decide +kernel) (by decide +kernel)
theorem qc_X3_routine : Cond.code yX3_routine cX3_routine 1 (some .int) ∈ TT := mT2 (i := 17) (by decide +kernel) (by decide +kernel)
theorem nk_X3_58 : Cond.methodLinkNest RX3 58 yX0_isRoutine RX3 ∈ tables_1 := mN2 (i := 18) (by decide +kernel)
theorem qi_X0_isRoutine : Cond.instanceMethod yX0_isRoutine ∈ TT := mT2 (i := 20) (by decide +kernel) (by decide +kernel)
theorem qc_X0_isRoutine : Cond.code yX0_isRoutine cX0_isRoutine 2 (some .boolean) ∈ TT := mT2 (i := 21) (by decide +kernel) (by decide +kernel)
theorem qm_X0_27 : Cond.methodLink RX0 27 yX0_firstWrong ∈ TT := mT2 (i := 22) (by decide +kernel) (by decide +kernel)
theorem nk_X3_62 : Cond.methodLinkNest RX3 62 yX0_readInto RX3 ∈ tables_1 := mN2 (i := 23) (by decide +kernel)
theorem qi_X0_readInto : Cond.instanceMethod yX0_readInto ∈ TT := mT2 (i := 25) (by decide +kernel) (by decide +kernel)
theorem qc_X0_readInto : Cond.code yX0_readInto cX0_readInto 6 none ∈ TT := mT2 (i := 26) (by decide +kernel) (by decide +kernel)
theorem nk_X0_42 : Cond.methodLinkNest RX0 42 yX1_begin RX3 ∈ tables_1 := mN2 (i := 27) (by decide +kernel)
theorem qi_X1_begin : Cond.instanceMethod yX1_begin ∈ TT := mT2 (i := 29) (by decide +kernel) (by decide +kernel)
theorem qc_X1_begin : Cond.code yX1_begin cX1_begin 3 none ∈ TT := mT2 (i := 30) (by decide +kernel) (by decide +kernel)
theorem qm_X1_46 : Cond.methodLink RX1 46 yX1_layInOrder ∈ TT := mT2 (i := 31) (by decide +kernel) (by decide +kernel)
theorem qi_X1_layInOrder : Cond.instanceMethod yX1_layInOrder ∈ TT := mT2 (i := 33) (by decide +kernel) (by decide +kernel)
theorem qc_X1_layInOrder : Cond.code yX1_layInOrder cX1_layInOrder 2 none ∈ TT := mT2 (i := 34) (by decide +kernel) (by decide +kernel)
theorem nk_X0_51 : Cond.methodLinkNest RX0 51 yX1_setStep RX3 ∈ tables_1 := mN2 (i := 35) (by decide +kernel)
theorem qi_X1_setStep : Cond.instanceMethod yX1_setStep ∈ TT := mT2 (i := 37) (by decide +kernel) (by decide +kernel)
theorem qc_X1_setStep : Cond.code yX1_setStep cX1_setStep 5 none ∈ TT := mT2 (i := 38) (by decide +kernel) (by decide +kernel)
theorem nk_X1_55 : Cond.methodLinkNest RX1 55 yX3_moved RX3 ∈ tables_1 := mN2 (i := 39) (by decide +kernel)
theorem qs_X3_moved : Cond.static yX3_moved ∈ TT := mT2 (i := 40) (by decide +kernel) (by decide +kernel)
theorem qc_X3_moved : Cond.code yX3_moved cX3_moved 4 (some .int) ∈ TT := mT2 (i := 41) (by decide +kernel) (by decide +kernel)
theorem qm_X3_301 : Cond.methodLink RX3 301 yX3_movedByCut ∈ TT := mT2 (i := 42) (by decide +kernel) (by decide +kernel)
theorem qs_X3_movedByCut : Cond.static yX3_movedByCut ∈ TT := mT2 (i := 43) (by decide +kernel) (by decide +kernel)
theorem qc_X3_movedByCut : Cond.code yX3_movedByCut cX3_movedByCut 4 (some .int) ∈ TT := mT2 (i := 44) (by decide +kernel) (by decide +kernel)
theorem qm_X3_304 : Cond.methodLink RX3 304 yX3_movedByDeal ∈ TT := mT2 (i := 45) (by decide +kernel) (by decide +kernel)
theorem qs_X3_movedByDeal : Cond.static yX3_movedByDeal ∈ TT := mT2 (i := 46) (by decide +kernel) (by decide +kernel)
theorem qc_X3_movedByDeal : Cond.code yX3_movedByDeal cX3_movedByDeal 11 (some .int) ∈ TT := mT2 (i := 47) (by decide +kernel) (by decide +kernel)
theorem qm_X3_308 : Cond.methodLink RX3 308 Lib.Math.min.name ∈ TT := mT2 (i := 48) (by decide +kernel) (by decide +kernel)
theorem qm_X3_279 : Cond.methodLink RX3 279 Lib.Math.max.name ∈ TT := mT2 (i := 49) (by decide +kernel) (by decide +kernel)
theorem qm_X3_311 : Cond.methodLink RX3 311 yX3_movedByTurn ∈ TT := mT2 (i := 50) (by decide +kernel) (by decide +kernel)
theorem qs_X3_movedByTurn : Cond.static yX3_movedByTurn ∈ TT := mT2 (i := 51) (by decide +kernel) (by decide +kernel)
theorem qc_X3_movedByTurn : Cond.code yX3_movedByTurn cX3_movedByTurn 2 (some .int) ∈ TT := mT2 (i := 52) (by decide +kernel) (by decide +kernel)
theorem qm_X3_314 : Cond.methodLink RX3 314 yX3_movedByStep ∈ TT := mT2 (i := 53) (by decide +kernel) (by decide +kernel)
theorem qs_X3_movedByStep : Cond.static yX3_movedByStep ∈ TT := mT2 (i := 54) (by decide +kernel) (by decide +kernel)
theorem qc_X3_movedByStep : Cond.code yX3_movedByStep cX3_movedByStep 2 (some .int) ∈ TT := mT2 (i := 55) (by decide +kernel) (by decide +kernel)
theorem qm_L_31 : Cond.methodLink RL 31 yX3_step ∈ TT := mT2 (i := 56) (by decide +kernel) (by decide +kernel)
theorem qi_X3_step : Cond.instanceMethod yX3_step ∈ TT := mT2 (i := 57) (by decide +kernel) (by decide +kernel)
theorem ql_X3_step : Cond.selects RX3 yX3_step yX3_step ∈ TT := mT2 (i := 58) (by decide +kernel) (by decide +kernel)
theorem qc_X3_step : Cond.code yX3_step cX3_step 3 (some .int) ∈ TT := mT2 (i := 59) (by decide +kernel) (by decide +kernel)
theorem nk_X3_76 : Cond.methodLinkNest RX3 76 yX1_hasStep RX3 ∈ tables_1 := mN2 (i := 60) (by decide +kernel)
theorem qi_X1_hasStep : Cond.instanceMethod yX1_hasStep ∈ TT := mT2 (i := 62) (by decide +kernel) (by decide +kernel)
theorem qc_X1_hasStep : Cond.code yX1_hasStep cX1_hasStep 2 (some .boolean) ∈ TT := mT2 (i := 63) (by decide +kernel) (by decide +kernel)
theorem qm_X3_86 : Cond.methodLink RX3 86 yX3_wayOfStep ∈ TT := mT2 (i := 64) (by decide +kernel) (by decide +kernel)
theorem qi_X3_wayOfStep : Cond.instanceMethod yX3_wayOfStep ∈ TT := mT2 (i := 66) (by decide +kernel) (by decide +kernel)
theorem qc_X3_wayOfStep : Cond.code yX3_wayOfStep cX3_wayOfStep 2 (some (.object "DeckHands$Way")) ∈ TT := mT2 (i := 67) (by decide +kernel) (by decide +kernel)
theorem nk_X3_254 : Cond.methodLinkNest RX3 254 yX2_begin RX3 ∈ tables_1 := mN2 (i := 68) (by decide +kernel)
theorem qi_X2_begin : Cond.instanceMethod yX2_begin ∈ TT := mT2 (i := 70) (by decide +kernel) (by decide +kernel)
theorem qc_X2_begin : Cond.code yX2_begin cX2_begin 3 none ∈ TT := mT2 (i := 71) (by decide +kernel) (by decide +kernel)
theorem nk_X3_257 : Cond.methodLinkNest RX3 257 yX2_add RX3 ∈ tables_1 := mN2 (i := 72) (by decide +kernel)
theorem qi_X2_add : Cond.instanceMethod yX2_add ∈ TT := mT2 (i := 74) (by decide +kernel) (by decide +kernel)
theorem qc_X2_add : Cond.code yX2_add cX2_add 4 none ∈ TT := mT2 (i := 75) (by decide +kernel) (by decide +kernel)
theorem nk_X2_19 : Cond.methodLinkNest RX2 19 yX1_placeBehind RX3 ∈ tables_1 := mN2 (i := 76) (by decide +kernel)
theorem qi_X1_placeBehind : Cond.instanceMethod yX1_placeBehind ∈ TT := mT2 (i := 78) (by decide +kernel) (by decide +kernel)
theorem qc_X1_placeBehind : Cond.code yX1_placeBehind cX1_placeBehind 3 (some .int) ∈ TT := mT2 (i := 79) (by decide +kernel) (by decide +kernel)
theorem nk_X3_90 : Cond.methodLinkNest RX3 90 yX2_stayCount RX3 ∈ tables_1 := mN2 (i := 80) (by decide +kernel)
theorem qi_X2_stayCount : Cond.instanceMethod yX2_stayCount ∈ TT := mT2 (i := 82) (by decide +kernel) (by decide +kernel)
theorem qc_X2_stayCount : Cond.code yX2_stayCount cX2_stayCount 3 (some .int) ∈ TT := mT2 (i := 83) (by decide +kernel) (by decide +kernel)
theorem nk_X3_93 : Cond.methodLinkNest RX3 93 yX2_order RX3 ∈ tables_1 := mN2 (i := 84) (by decide +kernel)
theorem qi_X2_order : Cond.instanceMethod yX2_order ∈ TT := mT2 (i := 86) (by decide +kernel) (by decide +kernel)
theorem qc_X2_order : Cond.code yX2_order cX2_order 4 (some .int) ∈ TT := mT2 (i := 87) (by decide +kernel) (by decide +kernel)
theorem qm_X2_25 : Cond.methodLink RX2 25 yX2_ringLength ∈ TT := mT2 (i := 88) (by decide +kernel) (by decide +kernel)
theorem qi_X2_ringLength : Cond.instanceMethod yX2_ringLength ∈ TT := mT2 (i := 90) (by decide +kernel) (by decide +kernel)
theorem qc_X2_ringLength : Cond.code yX2_ringLength cX2_ringLength 4 (some .int) ∈ TT := mT2 (i := 91) (by decide +kernel) (by decide +kernel)
theorem nk_X2_34 : Cond.methodLinkNest RX2 34 yX3_greatestDivisor RX3 ∈ tables_1 := mN2 (i := 92) (by decide +kernel)
theorem qs_X3_greatestDivisor : Cond.static yX3_greatestDivisor ∈ TT := mT2 (i := 93) (by decide +kernel) (by decide +kernel)
theorem qc_X3_greatestDivisor : Cond.code yX3_greatestDivisor cX3_greatestDivisor 6 (some .int) ∈ TT := mT2 (i := 94) (by decide +kernel) (by decide +kernel)
theorem qm_X2_29 : Cond.methodLink RX2 29 Lib.Math.max.name ∈ TT := mT2 (i := 95) (by decide +kernel) (by decide +kernel)
theorem nk_X3_96 : Cond.methodLinkNest RX3 96 yX1_possibleNumbers RX3 ∈ tables_1 := mN2 (i := 96) (by decide +kernel)
theorem qi_X1_possibleNumbers : Cond.instanceMethod yX1_possibleNumbers ∈ TT := mT2 (i := 98) (by decide +kernel) (by decide +kernel)
theorem qc_X1_possibleNumbers : Cond.code yX1_possibleNumbers cX1_possibleNumbers 4 (some .int) ∈ TT := mT2 (i := 99) (by decide +kernel) (by decide +kernel)
theorem qm_X1_64 : Cond.methodLink RX1 64 yX1_agreesWithSeen ∈ TT := mT2 (i := 100) (by decide +kernel) (by decide +kernel)
theorem qi_X1_agreesWithSeen : Cond.instanceMethod yX1_agreesWithSeen ∈ TT := mT2 (i := 102) (by decide +kernel) (by decide +kernel)
theorem qc_X1_agreesWithSeen : Cond.code yX1_agreesWithSeen cX1_agreesWithSeen 4 (some .boolean) ∈ TT := mT2 (i := 103) (by decide +kernel) (by decide +kernel)
theorem qm_X3_100 : Cond.methodLink RX3 100 yX3_placeToWatch ∈ TT := mT2 (i := 104) (by decide +kernel) (by decide +kernel)
theorem qi_X3_placeToWatch : Cond.instanceMethod yX3_placeToWatch ∈ TT := mT2 (i := 106) (by decide +kernel) (by decide +kernel)
theorem qc_X3_placeToWatch : Cond.code yX3_placeToWatch cX3_placeToWatch 7 (some .int) ∈ TT := mT2 (i := 107) (by decide +kernel) (by decide +kernel)
theorem qm_X3_267 : Cond.methodLink RX3 267 yX3_leftAtWorst ∈ TT := mT2 (i := 108) (by decide +kernel) (by decide +kernel)
theorem qi_X3_leftAtWorst : Cond.instanceMethod yX3_leftAtWorst ∈ TT := mT2 (i := 110) (by decide +kernel) (by decide +kernel)
theorem qc_X3_leftAtWorst : Cond.code yX3_leftAtWorst cX3_leftAtWorst 7 (some .int) ∈ TT := mT2 (i := 111) (by decide +kernel) (by decide +kernel)
theorem qm_X3_270 : Cond.methodLink RX3 270 yJ7_fill_53178 ∈ TT := mT2 (i := 112) (by decide +kernel) (by decide +kernel)
theorem qs_J7_fill_53178 : Cond.static yJ7_fill_53178 ∈ TT := mT2 (i := 113) (by decide +kernel) (by decide +kernel)
theorem qc_J7_fill_53178 : Cond.code yJ7_fill_53178 cJ7_fill_53178 4 none ∈ TT := mT2 (i := 114) (by decide +kernel) (by decide +kernel)
theorem qm_X3_276 : Cond.methodLink RX3 276 yX3_moved ∈ TT := mT2 (i := 115) (by decide +kernel) (by decide +kernel)
theorem qm_L_36 : Cond.methodLink RL 36 yX3_as ∈ TT := mT2 (i := 116) (by decide +kernel) (by decide +kernel)
theorem qi_X3_as : Cond.instanceMethod yX3_as ∈ TT := mT2 (i := 117) (by decide +kernel) (by decide +kernel)
theorem ql_X3_as : Cond.selects RX3 yX3_as yX3_as ∈ TT := mT2 (i := 118) (by decide +kernel) (by decide +kernel)
theorem qc_X3_as : Cond.code yX3_as cX3_as 3 (some .int) ∈ TT := mT2 (i := 119) (by decide +kernel) (by decide +kernel)
theorem qm_X3_104 : Cond.methodLink RX3 104 yX3_isOfKind ∈ TT := mT2 (i := 120) (by decide +kernel) (by decide +kernel)
theorem qs_X3_isOfKind : Cond.static yX3_isOfKind ∈ TT := mT2 (i := 121) (by decide +kernel) (by decide +kernel)
theorem qc_X3_isOfKind : Cond.code yX3_isOfKind cX3_isOfKind 2 (some .boolean) ∈ TT := mT2 (i := 122) (by decide +kernel) (by decide +kernel)
theorem qm_L_40 : Cond.methodLink RL 40 yX3_at ∈ TT := mT2 (i := 123) (by decide +kernel) (by decide +kernel)
theorem qi_X3_at : Cond.instanceMethod yX3_at ∈ TT := mT2 (i := 124) (by decide +kernel) (by decide +kernel)
theorem ql_X3_at : Cond.selects RX3 yX3_at yX3_at ∈ TT := mT2 (i := 125) (by decide +kernel) (by decide +kernel)
theorem qc_X3_at : Cond.code yX3_at cX3_at 2 (some .int) ∈ TT := mT2 (i := 126) (by decide +kernel) (by decide +kernel)
theorem nk_X3_108 : Cond.methodLinkNest RX3 108 yX1_hasPlace RX3 ∈ tables_1 := mN2 (i := 127) (by decide +kernel)
theorem qi_X1_hasPlace : Cond.instanceMethod yX1_hasPlace ∈ TT := mT2 (i := 129) (by decide +kernel) (by decide +kernel)
theorem qc_X1_hasPlace : Cond.code yX1_hasPlace cX1_hasPlace 2 (some .boolean) ∈ TT := mT2 (i := 130) (by decide +kernel) (by decide +kernel)
theorem qm_L_44 : Cond.methodLink RL 44 yX3_goes ∈ TT := mT2 (i := 131) (by decide +kernel) (by decide +kernel)
theorem qi_X3_goes : Cond.instanceMethod yX3_goes ∈ TT := mT2 (i := 132) (by decide +kernel) (by decide +kernel)
theorem ql_X3_goes : Cond.selects RX3 yX3_goes yX3_goes ∈ TT := mT2 (i := 133) (by decide +kernel) (by decide +kernel)
theorem qc_X3_goes : Cond.code yX3_goes cX3_goes 3 (some .int) ∈ TT := mT2 (i := 134) (by decide +kernel) (by decide +kernel)
theorem nk_X3_114 : Cond.methodLinkNest RX3 114 yX1_placeBehind RX3 ∈ tables_1 := mN2 (i := 135) (by decide +kernel)
theorem qm_L_48 : Cond.methodLink RL 48 yX3_act ∈ TT := mT2 (i := 136) (by decide +kernel) (by decide +kernel)
theorem qi_X3_act : Cond.instanceMethod yX3_act ∈ TT := mT2 (i := 137) (by decide +kernel) (by decide +kernel)
theorem ql_X3_act : Cond.selects RX3 yX3_act yX3_act ∈ TT := mT2 (i := 138) (by decide +kernel) (by decide +kernel)
theorem qc_X3_act : Cond.code yX3_act cX3_act 2 (some .int) ∈ TT := mT2 (i := 139) (by decide +kernel) (by decide +kernel)
theorem qm_X3_120 : Cond.methodLink RX3 120 yX3_carryOut ∈ TT := mT2 (i := 140) (by decide +kernel) (by decide +kernel)
theorem qi_X3_carryOut : Cond.instanceMethod yX3_carryOut ∈ TT := mT2 (i := 142) (by decide +kernel) (by decide +kernel)
theorem qc_X3_carryOut : Cond.code yX3_carryOut cX3_carryOut 4 (some .int) ∈ TT := mT2 (i := 143) (by decide +kernel) (by decide +kernel)
theorem qm_X3_261 : Cond.methodLink RX3 261 arraycopyName ∈ TT := mT2 (i := 144) (by decide +kernel) (by decide +kernel)
theorem qs_acopy : Cond.static arraycopyName ∈ TT := mT2 (i := 145) (by decide +kernel) (by decide +kernel)
theorem qv_acopy : Cond.native arraycopyName ∈ TT := mT2 (i := 146) (by decide +kernel) (by decide +kernel)
theorem qm_L_52 : Cond.methodLink RL 52 yX3_whole ∈ TT := mT2 (i := 147) (by decide +kernel) (by decide +kernel)
theorem qi_X3_whole : Cond.instanceMethod yX3_whole ∈ TT := mT2 (i := 148) (by decide +kernel) (by decide +kernel)
theorem ql_X3_whole : Cond.selects RX3 yX3_whole yX3_whole ∈ TT := mT2 (i := 149) (by decide +kernel) (by decide +kernel)
theorem qc_X3_whole : Cond.code yX3_whole cX3_whole 1 (some .int) ∈ TT := mT2 (i := 150) (by decide +kernel) (by decide +kernel)
theorem nk_X3_124 : Cond.methodLinkNest RX3 124 yX1_hasRoutine RX3 ∈ tables_1 := mN2 (i := 151) (by decide +kernel)
theorem qi_X1_hasRoutine : Cond.instanceMethod yX1_hasRoutine ∈ TT := mT2 (i := 153) (by decide +kernel) (by decide +kernel)
theorem qc_X1_hasRoutine : Cond.code yX1_hasRoutine cX1_hasRoutine 1 (some .boolean) ∈ TT := mT2 (i := 154) (by decide +kernel) (by decide +kernel)
theorem qm_X3_127 : Cond.methodLink RX3 127 yX3_wayOfRoutine ∈ TT := mT2 (i := 155) (by decide +kernel) (by decide +kernel)
theorem qi_X3_wayOfRoutine : Cond.instanceMethod yX3_wayOfRoutine ∈ TT := mT2 (i := 157) (by decide +kernel) (by decide +kernel)
theorem qc_X3_wayOfRoutine : Cond.code yX3_wayOfRoutine cX3_wayOfRoutine 2 (some (.object "DeckHands$Way")) ∈ TT := mT2 (i := 158) (by decide +kernel) (by decide +kernel)
theorem qm_L_56 : Cond.methodLink RL 56 yX3_exchange ∈ TT := mT2 (i := 159) (by decide +kernel) (by decide +kernel)
theorem qi_X3_exchange : Cond.instanceMethod yX3_exchange ∈ TT := mT2 (i := 160) (by decide +kernel) (by decide +kernel)
theorem ql_X3_exchange : Cond.selects RX3 yX3_exchange yX3_exchange ∈ TT := mT2 (i := 161) (by decide +kernel) (by decide +kernel)
theorem qc_X3_exchange : Cond.code yX3_exchange cX3_exchange 4 (some .int) ∈ TT := mT2 (i := 162) (by decide +kernel) (by decide +kernel)
theorem qm_L_60 : Cond.methodLink RL 60 yX3_sort ∈ TT := mT2 (i := 163) (by decide +kernel) (by decide +kernel)
theorem qi_X3_sort : Cond.instanceMethod yX3_sort ∈ TT := mT2 (i := 164) (by decide +kernel) (by decide +kernel)
theorem ql_X3_sort : Cond.selects RX3 yX3_sort yX3_sort ∈ TT := mT2 (i := 165) (by decide +kernel) (by decide +kernel)
theorem qc_X3_sort : Cond.code yX3_sort cX3_sort 2 (some .int) ∈ TT := mT2 (i := 166) (by decide +kernel) (by decide +kernel)
theorem nk_X3_131 : Cond.methodLinkNest RX3 131 yX1_asAtFirst RX3 ∈ tables_1 := mN2 (i := 167) (by decide +kernel)
theorem qi_X1_asAtFirst : Cond.instanceMethod yX1_asAtFirst ∈ TT := mT2 (i := 169) (by decide +kernel) (by decide +kernel)
theorem qc_X1_asAtFirst : Cond.code yX1_asAtFirst cX1_asAtFirst 3 (some .int) ∈ TT := mT2 (i := 170) (by decide +kernel) (by decide +kernel)
theorem nk_X3_134 : Cond.methodLinkNest RX3 134 yX1_layInOrder RX3 ∈ tables_1 := mN2 (i := 171) (by decide +kernel)
theorem qm_L_64 : Cond.methodLink RL 64 yX3_change ∈ TT := mT2 (i := 172) (by decide +kernel) (by decide +kernel)
theorem qi_X3_change : Cond.instanceMethod yX3_change ∈ TT := mT2 (i := 173) (by decide +kernel) (by decide +kernel)
theorem ql_X3_change : Cond.selects RX3 yX3_change yX3_change ∈ TT := mT2 (i := 174) (by decide +kernel) (by decide +kernel)
theorem qc_X3_change : Cond.code yX3_change cX3_change 5 (some .int) ∈ TT := mT2 (i := 175) (by decide +kernel) (by decide +kernel)
theorem nk_X3_137 : Cond.methodLinkNest RX3 137 yX1_setStep RX3 ∈ tables_1 := mN2 (i := 176) (by decide +kernel)
theorem qm_L_69 : Cond.methodLink RL 69 yX3_round ∈ TT := mT2 (i := 177) (by decide +kernel) (by decide +kernel)
theorem qi_X3_round : Cond.instanceMethod yX3_round ∈ TT := mT2 (i := 178) (by decide +kernel) (by decide +kernel)
theorem ql_X3_round : Cond.selects RX3 yX3_round yX3_round ∈ TT := mT2 (i := 179) (by decide +kernel) (by decide +kernel)
theorem qc_X3_round : Cond.code yX3_round cX3_round 2 (some .int) ∈ TT := mT2 (i := 180) (by decide +kernel) (by decide +kernel)
theorem qm_L_73 : Cond.methodLink RL 73 yX3_after ∈ TT := mT2 (i := 181) (by decide +kernel) (by decide +kernel)
theorem qi_X3_after : Cond.instanceMethod yX3_after ∈ TT := mT2 (i := 182) (by decide +kernel) (by decide +kernel)
theorem ql_X3_after : Cond.selects RX3 yX3_after yX3_after ∈ TT := mT2 (i := 183) (by decide +kernel) (by decide +kernel)
theorem qc_X3_after : Cond.code yX3_after cX3_after 3 (some .int) ∈ TT := mT2 (i := 184) (by decide +kernel) (by decide +kernel)
theorem qk_X3_144 : Cond.constant RX3 144 (zI 1000000000) ∈ TT := mT2 (i := 185) (by decide +kernel) (by decide +kernel)
theorem nk_X3_145 : Cond.methodLinkNest RX3 145 yX2_placeAfter RX3 ∈ tables_1 := mN2 (i := 186) (by decide +kernel)
theorem qi_X2_placeAfter : Cond.instanceMethod yX2_placeAfter ∈ TT := mT2 (i := 188) (by decide +kernel) (by decide +kernel)
theorem qc_X2_placeAfter : Cond.code yX2_placeAfter cX2_placeAfter 6 (some .int) ∈ TT := mT2 (i := 189) (by decide +kernel) (by decide +kernel)
theorem qm_L_77 : Cond.methodLink RL 77 yX3_rings ∈ TT := mT2 (i := 190) (by decide +kernel) (by decide +kernel)
theorem qi_X3_rings : Cond.instanceMethod yX3_rings ∈ TT := mT2 (i := 191) (by decide +kernel) (by decide +kernel)
theorem ql_X3_rings : Cond.selects RX3 yX3_rings yX3_rings ∈ TT := mT2 (i := 192) (by decide +kernel) (by decide +kernel)
theorem qc_X3_rings : Cond.code yX3_rings cX3_rings 3 (some .int) ∈ TT := mT2 (i := 193) (by decide +kernel) (by decide +kernel)
theorem nk_X3_148 : Cond.methodLinkNest RX3 148 yX2_ringCount RX3 ∈ tables_1 := mN2 (i := 194) (by decide +kernel)
theorem qi_X2_ringCount : Cond.instanceMethod yX2_ringCount ∈ TT := mT2 (i := 196) (by decide +kernel) (by decide +kernel)
theorem qc_X2_ringCount : Cond.code yX2_ringCount cX2_ringCount 3 (some .int) ∈ TT := mT2 (i := 197) (by decide +kernel) (by decide +kernel)
theorem qm_X2_37 : Cond.methodLink RX2 37 yX2_isLeastOfRing ∈ TT := mT2 (i := 198) (by decide +kernel) (by decide +kernel)
theorem qi_X2_isLeastOfRing : Cond.instanceMethod yX2_isLeastOfRing ∈ TT := mT2 (i := 200) (by decide +kernel) (by decide +kernel)
theorem qc_X2_isLeastOfRing : Cond.code yX2_isLeastOfRing cX2_isLeastOfRing 4 (some .boolean) ∈ TT := mT2 (i := 201) (by decide +kernel) (by decide +kernel)
theorem nk_X3_151 : Cond.methodLinkNest RX3 151 yX2_longestRing RX3 ∈ tables_1 := mN2 (i := 202) (by decide +kernel)
theorem qi_X2_longestRing : Cond.instanceMethod yX2_longestRing ∈ TT := mT2 (i := 204) (by decide +kernel) (by decide +kernel)
theorem qc_X2_longestRing : Cond.code yX2_longestRing cX2_longestRing 3 (some .int) ∈ TT := mT2 (i := 205) (by decide +kernel) (by decide +kernel)
theorem qm_L_81 : Cond.methodLink RL 81 yX3_bring ∈ TT := mT2 (i := 206) (by decide +kernel) (by decide +kernel)
theorem qi_X3_bring : Cond.instanceMethod yX3_bring ∈ TT := mT2 (i := 207) (by decide +kernel) (by decide +kernel)
theorem ql_X3_bring : Cond.selects RX3 yX3_bring yX3_bring ∈ TT := mT2 (i := 208) (by decide +kernel) (by decide +kernel)
theorem qc_X3_bring : Cond.code yX3_bring cX3_bring 5 (some .int) ∈ TT := mT2 (i := 209) (by decide +kernel) (by decide +kernel)
theorem nk_X3_154 : Cond.methodLinkNest RX3 154 yX1_hasCard RX3 ∈ tables_1 := mN2 (i := 210) (by decide +kernel)
theorem qi_X1_hasCard : Cond.instanceMethod yX1_hasCard ∈ TT := mT2 (i := 212) (by decide +kernel) (by decide +kernel)
theorem qc_X1_hasCard : Cond.code yX1_hasCard cX1_hasCard 2 (some .boolean) ∈ TT := mT2 (i := 213) (by decide +kernel) (by decide +kernel)
theorem nk_X3_157 : Cond.methodLinkNest RX3 157 yX1_placeOf RX3 ∈ tables_1 := mN2 (i := 214) (by decide +kernel)
theorem qi_X1_placeOf : Cond.instanceMethod yX1_placeOf ∈ TT := mT2 (i := 216) (by decide +kernel) (by decide +kernel)
theorem qc_X1_placeOf : Cond.code yX1_placeOf cX1_placeOf 3 (some .int) ∈ TT := mT2 (i := 217) (by decide +kernel) (by decide +kernel)
theorem qm_X3_160 : Cond.methodLink RX3 160 yX3_tellDistancesTo ∈ TT := mT2 (i := 218) (by decide +kernel) (by decide +kernel)
theorem qi_X3_tellDistancesTo : Cond.instanceMethod yX3_tellDistancesTo ∈ TT := mT2 (i := 220) (by decide +kernel) (by decide +kernel)
theorem qc_X3_tellDistancesTo : Cond.code yX3_tellDistancesTo cX3_tellDistancesTo 4 none ∈ TT := mT2 (i := 221) (by decide +kernel) (by decide +kernel)
theorem qm_X3_284 : Cond.methodLink RX3 284 yX3_stepTo ∈ TT := mT2 (i := 222) (by decide +kernel) (by decide +kernel)
theorem qi_X3_stepTo : Cond.instanceMethod yX3_stepTo ∈ TT := mT2 (i := 224) (by decide +kernel) (by decide +kernel)
theorem qc_X3_stepTo : Cond.code yX3_stepTo cX3_stepTo 4 (some .int) ∈ TT := mT2 (i := 225) (by decide +kernel) (by decide +kernel)
theorem qm_X3_163 : Cond.methodLink RX3 163 yX3_firstStepNearer ∈ TT := mT2 (i := 226) (by decide +kernel) (by decide +kernel)
theorem qi_X3_firstStepNearer : Cond.instanceMethod yX3_firstStepNearer ∈ TT := mT2 (i := 228) (by decide +kernel) (by decide +kernel)
theorem qc_X3_firstStepNearer : Cond.code yX3_firstStepNearer cX3_firstStepNearer 2 (some .int) ∈ TT := mT2 (i := 229) (by decide +kernel) (by decide +kernel)
theorem qm_L_85 : Cond.methodLink RL 85 yX3_home ∈ TT := mT2 (i := 230) (by decide +kernel) (by decide +kernel)
theorem qi_X3_home : Cond.instanceMethod yX3_home ∈ TT := mT2 (i := 231) (by decide +kernel) (by decide +kernel)
theorem ql_X3_home : Cond.selects RX3 yX3_home yX3_home ∈ TT := mT2 (i := 232) (by decide +kernel) (by decide +kernel)
theorem qc_X3_home : Cond.code yX3_home cX3_home 3 (some .int) ∈ TT := mT2 (i := 233) (by decide +kernel) (by decide +kernel)
theorem qm_X3_169 : Cond.methodLink RX3 169 yX3_findPathHome ∈ TT := mT2 (i := 234) (by decide +kernel) (by decide +kernel)
theorem qi_X3_findPathHome : Cond.instanceMethod yX3_findPathHome ∈ TT := mT2 (i := 236) (by decide +kernel) (by decide +kernel)
theorem qc_X3_findPathHome : Cond.code yX3_findPathHome cX3_findPathHome 4 (some .boolean) ∈ TT := mT2 (i := 237) (by decide +kernel) (by decide +kernel)
theorem qm_X3_287 : Cond.methodLink RX3 287 yX3_pathLeadsHome ∈ TT := mT2 (i := 238) (by decide +kernel) (by decide +kernel)
theorem qi_X3_pathLeadsHome : Cond.instanceMethod yX3_pathLeadsHome ∈ TT := mT3 (i := 0) (by decide +kernel) (by decide +kernel)
theorem qc_X3_pathLeadsHome : Cond.code yX3_pathLeadsHome cX3_pathLeadsHome 5 (some .boolean) ∈ TT := mT3 (i := 1) (by decide +kernel) (by decide +kernel)
theorem qm_X3_290 : Cond.methodLink RX3 290 yX3_nextPath ∈ TT := mT3 (i := 2) (by decide +kernel) (by decide +kernel)
theorem qi_X3_nextPath : Cond.instanceMethod yX3_nextPath ∈ TT := mT3 (i := 4) (by decide +kernel) (by decide +kernel)
theorem qc_X3_nextPath : Cond.code yX3_nextPath cX3_nextPath 3 none ∈ TT := mT3 (i := 5) (by decide +kernel) (by decide +kernel)
theorem qm_X3_172 : Cond.methodLink RX3 172 yX3_pathInDigits ∈ TT := mT3 (i := 6) (by decide +kernel) (by decide +kernel)
theorem qi_X3_pathInDigits : Cond.instanceMethod yX3_pathInDigits ∈ TT := mT3 (i := 8) (by decide +kernel) (by decide +kernel)
theorem qc_X3_pathInDigits : Cond.code yX3_pathInDigits cX3_pathInDigits 4 (some .int) ∈ TT := mT3 (i := 9) (by decide +kernel) (by decide +kernel)
theorem qm_L_89 : Cond.methodLink RL 89 yX3_odds ∈ TT := mT3 (i := 10) (by decide +kernel) (by decide +kernel)
theorem qi_X3_odds : Cond.instanceMethod yX3_odds ∈ TT := mT3 (i := 11) (by decide +kernel) (by decide +kernel)
theorem ql_X3_odds : Cond.selects RX3 yX3_odds yX3_odds ∈ TT := mT3 (i := 12) (by decide +kernel) (by decide +kernel)
theorem qc_X3_odds : Cond.code yX3_odds cX3_odds 9 (some .int) ∈ TT := mT3 (i := 13) (by decide +kernel) (by decide +kernel)
theorem qm_X3_175 : Cond.methodLink RX3 175 yX3_tellDrawsFrom ∈ TT := mT3 (i := 14) (by decide +kernel) (by decide +kernel)
theorem qi_X3_tellDrawsFrom : Cond.instanceMethod yX3_tellDrawsFrom ∈ TT := mT3 (i := 16) (by decide +kernel) (by decide +kernel)
theorem qc_X3_tellDrawsFrom : Cond.code yX3_tellDrawsFrom cX3_tellDrawsFrom 6 none ∈ TT := mT3 (i := 17) (by decide +kernel) (by decide +kernel)
theorem qm_X3_179 : Cond.methodLink RX3 179 yX3_greatestDivisor ∈ TT := mT3 (i := 18) (by decide +kernel) (by decide +kernel)
theorem qm_L_94 : Cond.methodLink RL 94 yX3_see ∈ TT := mT3 (i := 19) (by decide +kernel) (by decide +kernel)
theorem qi_X3_see : Cond.instanceMethod yX3_see ∈ TT := mT3 (i := 20) (by decide +kernel) (by decide +kernel)
theorem ql_X3_see : Cond.selects RX3 yX3_see yX3_see ∈ TT := mT3 (i := 21) (by decide +kernel) (by decide +kernel)
theorem qc_X3_see : Cond.code yX3_see cX3_see 4 (some .int) ∈ TT := mT3 (i := 22) (by decide +kernel) (by decide +kernel)
theorem nk_X3_185 : Cond.methodLinkNest RX3 185 yX1_addSeen RX3 ∈ tables_1 := mN3 (i := 23) (by decide +kernel)
theorem qi_X1_addSeen : Cond.instanceMethod yX1_addSeen ∈ TT := mT3 (i := 25) (by decide +kernel) (by decide +kernel)
theorem qc_X1_addSeen : Cond.code yX1_addSeen cX1_addSeen 4 none ∈ TT := mT3 (i := 26) (by decide +kernel) (by decide +kernel)
theorem qm_L_98 : Cond.methodLink RL 98 yX3_forget ∈ TT := mT3 (i := 27) (by decide +kernel) (by decide +kernel)
theorem qi_X3_forget : Cond.instanceMethod yX3_forget ∈ TT := mT3 (i := 28) (by decide +kernel) (by decide +kernel)
theorem ql_X3_forget : Cond.selects RX3 yX3_forget yX3_forget ∈ TT := mT3 (i := 29) (by decide +kernel) (by decide +kernel)
theorem qc_X3_forget : Cond.code yX3_forget cX3_forget 2 (some .int) ∈ TT := mT3 (i := 30) (by decide +kernel) (by decide +kernel)
theorem qm_L_102 : Cond.methodLink RL 102 yX3_runs ∈ TT := mT3 (i := 31) (by decide +kernel) (by decide +kernel)
theorem qi_X3_runs : Cond.instanceMethod yX3_runs ∈ TT := mT3 (i := 32) (by decide +kernel) (by decide +kernel)
theorem ql_X3_runs : Cond.selects RX3 yX3_runs yX3_runs ∈ TT := mT3 (i := 33) (by decide +kernel) (by decide +kernel)
theorem qc_X3_runs : Cond.code yX3_runs cX3_runs 5 (some .int) ∈ TT := mT3 (i := 34) (by decide +kernel) (by decide +kernel)
theorem qm_X3_188 : Cond.methodLink RX3 188 yX3_drawSteps ∈ TT := mT3 (i := 35) (by decide +kernel) (by decide +kernel)
theorem qi_X3_drawSteps : Cond.instanceMethod yX3_drawSteps ∈ TT := mT3 (i := 37) (by decide +kernel) (by decide +kernel)
theorem qc_X3_drawSteps : Cond.code yX3_drawSteps cX3_drawSteps 6 (some .int) ∈ TT := mT3 (i := 38) (by decide +kernel) (by decide +kernel)
theorem qk_X3_293 : Cond.constantLong RX3 293 (zL 1103515245) ∈ TT := mT3 (i := 39) (by decide +kernel) (by decide +kernel)
theorem qk_X3_295 : Cond.constantLong RX3 295 (zL 12345) ∈ TT := mT3 (i := 40) (by decide +kernel) (by decide +kernel)
theorem qk_X3_297 : Cond.constantLong RX3 297 (zL 2147483648) ∈ TT := mT3 (i := 41) (by decide +kernel) (by decide +kernel)
theorem qk_X3_299 : Cond.constantLong RX3 299 (zL 65536) ∈ TT := mT3 (i := 42) (by decide +kernel) (by decide +kernel)
theorem nk_X3_191 : Cond.methodLinkNest RX3 191 yX1_asAtFirstBehind RX3 ∈ tables_1 := mN3 (i := 43) (by decide +kernel)
theorem qi_X1_asAtFirstBehind : Cond.instanceMethod yX1_asAtFirstBehind ∈ TT := mT3 (i := 45) (by decide +kernel) (by decide +kernel)
theorem qc_X1_asAtFirstBehind : Cond.code yX1_asAtFirstBehind cX1_asAtFirstBehind 4 (some .int) ∈ TT := mT3 (i := 46) (by decide +kernel) (by decide +kernel)
theorem nk_X3_195 : Cond.methodLinkNest RX3 195 yX1_topBehind RX3 ∈ tables_1 := mN3 (i := 47) (by decide +kernel)
theorem qi_X1_topBehind : Cond.instanceMethod yX1_topBehind ∈ TT := mT3 (i := 49) (by decide +kernel) (by decide +kernel)
theorem qc_X1_topBehind : Cond.code yX1_topBehind cX1_topBehind 3 (some .int) ∈ TT := mT3 (i := 50) (by decide +kernel) (by decide +kernel)
theorem qm_L_106 : Cond.methodLink RL 106 yX3_image ∈ TT := mT3 (i := 51) (by decide +kernel) (by decide +kernel)
theorem qi_X3_image : Cond.instanceMethod yX3_image ∈ TT := mT3 (i := 52) (by decide +kernel) (by decide +kernel)
theorem ql_X3_image : Cond.selects RX3 yX3_image yX3_image ∈ TT := mT3 (i := 53) (by decide +kernel) (by decide +kernel)
theorem qc_X3_image : Cond.code yX3_image cX3_image 1 (some .int) ∈ TT := mT3 (i := 54) (by decide +kernel) (by decide +kernel)
theorem nk_X3_198 : Cond.methodLinkNest RX3 198 yX1_copy RX3 ∈ tables_1 := mN3 (i := 55) (by decide +kernel)
theorem qi_X1_copy : Cond.instanceMethod yX1_copy ∈ TT := mT3 (i := 57) (by decide +kernel) (by decide +kernel)
theorem qc_X1_copy : Cond.code yX1_copy cX1_copy 2 none ∈ TT := mT3 (i := 58) (by decide +kernel) (by decide +kernel)
theorem qm_X1_49 : Cond.methodLink RX1 49 arraycopyName ∈ TT := mT3 (i := 59) (by decide +kernel) (by decide +kernel)
theorem qm_L_110 : Cond.methodLink RL 110 yX3_restore ∈ TT := mT3 (i := 60) (by decide +kernel) (by decide +kernel)
theorem qi_X3_restore : Cond.instanceMethod yX3_restore ∈ TT := mT3 (i := 61) (by decide +kernel) (by decide +kernel)
theorem ql_X3_restore : Cond.selects RX3 yX3_restore yX3_restore ∈ TT := mT3 (i := 62) (by decide +kernel) (by decide +kernel)
theorem qc_X3_restore : Cond.code yX3_restore cX3_restore 1 (some .int) ∈ TT := mT3 (i := 63) (by decide +kernel) (by decide +kernel)
theorem qm_L_114 : Cond.methodLink RL 114 yX3_count ∈ TT := mT3 (i := 64) (by decide +kernel) (by decide +kernel)
theorem qi_X3_count : Cond.instanceMethod yX3_count ∈ TT := mT3 (i := 65) (by decide +kernel) (by decide +kernel)
theorem ql_X3_count : Cond.selects RX3 yX3_count yX3_count ∈ TT := mT3 (i := 66) (by decide +kernel) (by decide +kernel)
theorem qc_X3_count : Cond.code yX3_count cX3_count 2 (some .int) ∈ TT := mT3 (i := 67) (by decide +kernel) (by decide +kernel)
theorem nk_X3_204 : Cond.methodLinkNest RX3 204 yX1_wrongTwos RX3 ∈ tables_1 := mN3 (i := 68) (by decide +kernel)
theorem qi_X1_wrongTwos : Cond.instanceMethod yX1_wrongTwos ∈ TT := mT3 (i := 70) (by decide +kernel) (by decide +kernel)
theorem qc_X1_wrongTwos : Cond.code yX1_wrongTwos cX1_wrongTwos 4 (some .int) ∈ TT := mT3 (i := 71) (by decide +kernel) (by decide +kernel)
theorem qm_L_118 : Cond.methodLink RL 118 yX3_digest ∈ TT := mT3 (i := 72) (by decide +kernel) (by decide +kernel)
theorem qi_X3_digest : Cond.instanceMethod yX3_digest ∈ TT := mT3 (i := 73) (by decide +kernel) (by decide +kernel)
theorem ql_X3_digest : Cond.selects RX3 yX3_digest yX3_digest ∈ TT := mT3 (i := 74) (by decide +kernel) (by decide +kernel)
theorem qc_X3_digest : Cond.code yX3_digest cX3_digest 4 (some .long) ∈ TT := mT3 (i := 75) (by decide +kernel) (by decide +kernel)
theorem qk_X3_207 : Cond.constantLong RX3 207 (zL 1321) ∈ TT := mT3 (i := 76) (by decide +kernel) (by decide +kernel)
theorem qm_X3_209 : Cond.methodLink RX3 209 yX3_digestOfSteps ∈ TT := mT3 (i := 77) (by decide +kernel) (by decide +kernel)
theorem qi_X3_digestOfSteps : Cond.instanceMethod yX3_digestOfSteps ∈ TT := mT3 (i := 79) (by decide +kernel) (by decide +kernel)
theorem qc_X3_digestOfSteps : Cond.code yX3_digestOfSteps cX3_digestOfSteps 7 (some .long) ∈ TT := mT3 (i := 80) (by decide +kernel) (by decide +kernel)
theorem qm_X3_229 : Cond.methodLink RX3 229 yX3_step ∈ TT := mT3 (i := 81) (by decide +kernel) (by decide +kernel)
theorem qm_X3_222 : Cond.methodLink RX3 222 yX3_joined ∈ TT := mT3 (i := 82) (by decide +kernel) (by decide +kernel)
theorem qs_X3_joined : Cond.static yX3_joined ∈ TT := mT3 (i := 83) (by decide +kernel) (by decide +kernel)
theorem qc_X3_joined : Cond.code yX3_joined cX3_joined 4 (some .long) ∈ TT := mT3 (i := 84) (by decide +kernel) (by decide +kernel)
theorem qk_X3_252 : Cond.constantLong RX3 252 (zL 31) ∈ TT := mT3 (i := 85) (by decide +kernel) (by decide +kernel)
theorem qm_X3_213 : Cond.methodLink RX3 213 yX3_digestOfPlaces ∈ TT := mT3 (i := 86) (by decide +kernel) (by decide +kernel)
theorem qi_X3_digestOfPlaces : Cond.instanceMethod yX3_digestOfPlaces ∈ TT := mT3 (i := 88) (by decide +kernel) (by decide +kernel)
theorem qc_X3_digestOfPlaces : Cond.code yX3_digestOfPlaces cX3_digestOfPlaces 6 (some .long) ∈ TT := mT3 (i := 89) (by decide +kernel) (by decide +kernel)
theorem qm_X3_232 : Cond.methodLink RX3 232 yX3_at ∈ TT := mT3 (i := 90) (by decide +kernel) (by decide +kernel)
theorem qm_X3_235 : Cond.methodLink RX3 235 yX3_round ∈ TT := mT3 (i := 91) (by decide +kernel) (by decide +kernel)
theorem qm_X3_238 : Cond.methodLink RX3 238 yX3_after ∈ TT := mT3 (i := 92) (by decide +kernel) (by decide +kernel)
theorem qm_X3_216 : Cond.methodLink RX3 216 yX3_digestOfRoutine ∈ TT := mT3 (i := 93) (by decide +kernel) (by decide +kernel)
theorem qi_X3_digestOfRoutine : Cond.instanceMethod yX3_digestOfRoutine ∈ TT := mT3 (i := 95) (by decide +kernel) (by decide +kernel)
theorem qc_X3_digestOfRoutine : Cond.code yX3_digestOfRoutine cX3_digestOfRoutine 6 (some .long) ∈ TT := mT3 (i := 96) (by decide +kernel) (by decide +kernel)
theorem qm_X3_241 : Cond.methodLink RX3 241 yX3_rings ∈ TT := mT3 (i := 97) (by decide +kernel) (by decide +kernel)
theorem qm_X3_244 : Cond.methodLink RX3 244 yX3_bring ∈ TT := mT3 (i := 98) (by decide +kernel) (by decide +kernel)
theorem qm_X3_248 : Cond.methodLink RX3 248 yX3_odds ∈ TT := mT3 (i := 99) (by decide +kernel) (by decide +kernel)
theorem qm_X3_226 : Cond.methodLink RX3 226 yX3_count ∈ TT := mT3 (i := 100) (by decide +kernel) (by decide +kernel)
theorem qx_L_10 : Cond.classLink RL 10 RX4 ∈ TT := mT3 (i := 101) (by decide +kernel) (by decide +kernel)
theorem qa_X4 : Cond.instantiable RX4 32 ∈ TT := mT3 (i := 102) (by decide +kernel) (by decide +kernel)
theorem qm_L_12 : Cond.methodLink RL 12 yX4_init ∈ TT := mT3 (i := 103) (by decide +kernel) (by decide +kernel)
theorem qi_X4_init : Cond.instanceMethod yX4_init ∈ TT := mT3 (i := 104) (by decide +kernel) (by decide +kernel)
theorem qc_X4_init : Cond.code yX4_init cX4_init 1 none ∈ TT := mT3 (i := 105) (by decide +kernel) (by decide +kernel)
theorem qm_X4_1 : Cond.methodLink RX4 1 objectInit ∈ TT := mT3 (i := 106) (by decide +kernel) (by decide +kernel)
theorem qf_X4_7 : Cond.fieldLink RX4 7 "DeckHandsModel" "page" "[I" ∈ TT := mT3 (i := 107) (by decide +kernel) (by decide +kernel)
theorem qf_X4_65 : Cond.fieldLink RX4 65 "DeckHandsModel" "pageMany" "I" ∈ TT := mT3 (i := 108) (by decide +kernel) (by decide +kernel)
theorem qf_X4_86 : Cond.fieldLink RX4 86 "DeckHandsModel" "cards" "I" ∈ TT := mT3 (i := 109) (by decide +kernel) (by decide +kernel)
theorem qf_X4_89 : Cond.fieldLink RX4 89 "DeckHandsModel" "steps" "I" ∈ TT := mT3 (i := 110) (by decide +kernel) (by decide +kernel)
theorem qf_X4_95 : Cond.fieldLink RX4 95 "DeckHandsModel" "done" "I" ∈ TT := mT3 (i := 111) (by decide +kernel) (by decide +kernel)
theorem qf_X4_101 : Cond.fieldLink RX4 101 "DeckHandsModel" "routinesRead" "I" ∈ TT := mT3 (i := 112) (by decide +kernel) (by decide +kernel)
theorem qf_X4_13 : Cond.fieldLink RX4 13 "DeckHandsModel" "kinds" "[I" ∈ TT := mT3 (i := 113) (by decide +kernel) (by decide +kernel)
theorem qf_X4_16 : Cond.fieldLink RX4 16 "DeckHandsModel" "numbers" "[I" ∈ TT := mT3 (i := 114) (by decide +kernel) (by decide +kernel)
theorem qf_X4_19 : Cond.fieldLink RX4 19 "DeckHandsModel" "pack" "[I" ∈ TT := mT3 (i := 115) (by decide +kernel) (by decide +kernel)
theorem qf_X4_22 : Cond.fieldLink RX4 22 "DeckHandsModel" "row" "[I" ∈ TT := mT3 (i := 116) (by decide +kernel) (by decide +kernel)
theorem qf_X4_149 : Cond.fieldLink RX4 149 "DeckHandsModel" "ringMany" "I" ∈ TT := mT3 (i := 117) (by decide +kernel) (by decide +kernel)
theorem qf_X4_134 : Cond.fieldLink RX4 134 "DeckHandsModel" "longest" "I" ∈ TT := mT3 (i := 118) (by decide +kernel) (by decide +kernel)
theorem qf_X4_137 : Cond.fieldLink RX4 137 "DeckHandsModel" "stay" "I" ∈ TT := mT3 (i := 119) (by decide +kernel) (by decide +kernel)
theorem qf_X4_140 : Cond.fieldLink RX4 140 "DeckHandsModel" "orderOf" "I" ∈ TT := mT3 (i := 120) (by decide +kernel) (by decide +kernel)
theorem qf_X4_25 : Cond.fieldLink RX4 25 "DeckHandsModel" "packThen" "[I" ∈ TT := mT3 (i := 121) (by decide +kernel) (by decide +kernel)
theorem qf_X4_28 : Cond.fieldLink RX4 28 "DeckHandsModel" "packBefore" "[I" ∈ TT := mT3 (i := 122) (by decide +kernel) (by decide +kernel)
theorem qf_X4_31 : Cond.fieldLink RX4 31 "DeckHandsModel" "far" "[I" ∈ TT := mT3 (i := 123) (by decide +kernel) (by decide +kernel)
theorem qf_X4_219 : Cond.fieldLink RX4 219 "DeckHandsModel" "homesDone" "I" ∈ TT := mT3 (i := 124) (by decide +kernel) (by decide +kernel)
theorem qf_X4_209 : Cond.fieldLink RX4 209 "DeckHandsModel" "digits" "I" ∈ TT := mT3 (i := 125) (by decide +kernel) (by decide +kernel)
theorem qf_X4_34 : Cond.fieldLink RX4 34 "DeckHandsModel" "ways" "[I" ∈ TT := mT3 (i := 126) (by decide +kernel) (by decide +kernel)
theorem qf_X4_37 : Cond.fieldLink RX4 37 "DeckHandsModel" "waysThen" "[I" ∈ TT := mT3 (i := 127) (by decide +kernel) (by decide +kernel)
theorem qf_X4_98 : Cond.fieldLink RX4 98 "DeckHandsModel" "seenMany" "I" ∈ TT := mT3 (i := 128) (by decide +kernel) (by decide +kernel)
theorem qf_X4_40 : Cond.fieldLink RX4 40 "DeckHandsModel" "sights" "[I" ∈ TT := mT3 (i := 129) (by decide +kernel) (by decide +kernel)
theorem qf_X4_233 : Cond.fieldLink RX4 233 "DeckHandsModel" "seedNow" "I" ∈ TT := mT3 (i := 130) (by decide +kernel) (by decide +kernel)
theorem qf_X4_55 : Cond.fieldLink RX4 55 "DeckHandsModel" "keptRoutine" "I" ∈ TT := mT3 (i := 131) (by decide +kernel) (by decide +kernel)
theorem qf_X4_248 : Cond.fieldLink RX4 248 "DeckHandsModel" "keptDone" "I" ∈ TT := mT3 (i := 132) (by decide +kernel) (by decide +kernel)
theorem qf_X4_251 : Cond.fieldLink RX4 251 "DeckHandsModel" "keptSeen" "I" ∈ TT := mT3 (i := 133) (by decide +kernel) (by decide +kernel)
theorem qf_X4_43 : Cond.fieldLink RX4 43 "DeckHandsModel" "keptKinds" "[I" ∈ TT := mT3 (i := 134) (by decide +kernel) (by decide +kernel)
theorem qf_X4_46 : Cond.fieldLink RX4 46 "DeckHandsModel" "keptNumbers" "[I" ∈ TT := mT3 (i := 135) (by decide +kernel) (by decide +kernel)
theorem qf_X4_49 : Cond.fieldLink RX4 49 "DeckHandsModel" "keptPack" "[I" ∈ TT := mT3 (i := 136) (by decide +kernel) (by decide +kernel)
theorem qf_X4_52 : Cond.fieldLink RX4 52 "DeckHandsModel" "keptSights" "[I" ∈ TT := mT3 (i := 137) (by decide +kernel) (by decide +kernel)
theorem qf_X4_262 : Cond.fieldLink RX4 262 "DeckHandsModel" "hash" "J" ∈ TT := mT3 (i := 138) (by decide +kernel) (by decide +kernel)
theorem qm_L_17 : Cond.methodLink RL 17 yX4_letter ∈ TT := mT3 (i := 204) (by decide +kernel) (by decide +kernel)
theorem qi_X4_letter : Cond.instanceMethod yX4_letter ∈ TT := mT3 (i := 205) (by decide +kernel) (by decide +kernel)
theorem ql_X4_letter : Cond.selects RX4 yX4_letter yX4_letter ∈ TT := mT3 (i := 206) (by decide +kernel) (by decide +kernel)
theorem qc_X4_letter : Cond.code yX4_letter cX4_letter 2 (some .int) ∈ TT := mT3 (i := 207) (by decide +kernel) (by decide +kernel)
theorem qk_X4_59 : Cond.constantLong RX4 59 (zL 126) ∈ TT := mT3 (i := 208) (by decide +kernel) (by decide +kernel)
theorem qm_X4_61 : Cond.methodLink RX4 61 yX4_in ∈ TT := mT3 (i := 209) (by decide +kernel) (by decide +kernel)
theorem qs_X4_in : Cond.static yX4_in ∈ TT := mT3 (i := 210) (by decide +kernel) (by decide +kernel)
theorem qc_X4_in : Cond.code yX4_in cX4_in 6 (some .boolean) ∈ TT := mT3 (i := 211) (by decide +kernel) (by decide +kernel)
theorem qm_L_22 : Cond.methodLink RL 22 yX4_blank ∈ TT := mT3 (i := 212) (by decide +kernel) (by decide +kernel)
theorem qi_X4_blank : Cond.instanceMethod yX4_blank ∈ TT := mT3 (i := 213) (by decide +kernel) (by decide +kernel)
theorem ql_X4_blank : Cond.selects RX4 yX4_blank yX4_blank ∈ TT := mT3 (i := 214) (by decide +kernel) (by decide +kernel)
theorem qc_X4_blank : Cond.code yX4_blank cX4_blank 2 (some .int) ∈ TT := mT3 (i := 215) (by decide +kernel) (by decide +kernel)
theorem qm_L_26 : Cond.methodLink RL 26 yX4_fault ∈ TT := mT3 (i := 216) (by decide +kernel) (by decide +kernel)
theorem qi_X4_fault : Cond.instanceMethod yX4_fault ∈ TT := mT3 (i := 217) (by decide +kernel) (by decide +kernel)
theorem ql_X4_fault : Cond.selects RX4 yX4_fault yX4_fault ∈ TT := mT3 (i := 218) (by decide +kernel) (by decide +kernel)
theorem qc_X4_fault : Cond.code yX4_fault cX4_fault 1 (some .int) ∈ TT := mT3 (i := 219) (by decide +kernel) (by decide +kernel)
theorem qm_X4_82 : Cond.methodLink RX4 82 yX4_faultOf ∈ TT := mT3 (i := 220) (by decide +kernel) (by decide +kernel)
theorem qi_X4_faultOf : Cond.instanceMethod yX4_faultOf ∈ TT := mT3 (i := 222) (by decide +kernel) (by decide +kernel)
theorem qc_X4_faultOf : Cond.code yX4_faultOf cX4_faultOf 2 (some .int) ∈ TT := mT3 (i := 223) (by decide +kernel) (by decide +kernel)
theorem qm_X4_78 : Cond.methodLink RX4 78 yX4_isGood ∈ TT := mT3 (i := 224) (by decide +kernel) (by decide +kernel)
theorem qi_X4_isGood : Cond.instanceMethod yX4_isGood ∈ TT := mT3 (i := 226) (by decide +kernel) (by decide +kernel)
theorem qc_X4_isGood : Cond.code yX4_isGood cX4_isGood 3 (some .boolean) ∈ TT := mT3 (i := 227) (by decide +kernel) (by decide +kernel)
theorem qk_X4_68 : Cond.constantLong RX4 68 (zL 50) ∈ TT := mT3 (i := 228) (by decide +kernel) (by decide +kernel)
theorem qk_X4_70 : Cond.constantLong RX4 70 (zL 57) ∈ TT := mT3 (i := 229) (by decide +kernel) (by decide +kernel)
theorem qk_X4_72 : Cond.constantLong RX4 72 (zL 48) ∈ TT := mT3 (i := 230) (by decide +kernel) (by decide +kernel)
theorem qm_X4_74 : Cond.methodLink RX4 74 yX4_kindBy ∈ TT := mT3 (i := 231) (by decide +kernel) (by decide +kernel)
theorem qs_X4_kindBy : Cond.static yX4_kindBy ∈ TT := mT3 (i := 232) (by decide +kernel) (by decide +kernel)
theorem qc_X4_kindBy : Cond.code yX4_kindBy cX4_kindBy 1 (some .int) ∈ TT := mT3 (i := 233) (by decide +kernel) (by decide +kernel)
theorem qm_L_30 : Cond.methodLink RL 30 yX4_routine ∈ TT := mT3 (i := 234) (by decide +kernel) (by decide +kernel)
theorem qi_X4_routine : Cond.instanceMethod yX4_routine ∈ TT := mT3 (i := 235) (by decide +kernel) (by decide +kernel)
theorem ql_X4_routine : Cond.selects RX4 yX4_routine yX4_routine ∈ TT := mT3 (i := 236) (by decide +kernel) (by decide +kernel)
theorem qc_X4_routine : Cond.code yX4_routine cX4_routine 2 (some .int) ∈ TT := mT3 (i := 237) (by decide +kernel) (by decide +kernel)
theorem qm_X4_92 : Cond.methodLink RX4 92 yX4_layFirst ∈ TT := mT3 (i := 238) (by decide +kernel) (by decide +kernel)
theorem qi_X4_layFirst : Cond.instanceMethod yX4_layFirst ∈ TT := mT4 (i := 0) (by decide +kernel) (by decide +kernel)
theorem qc_X4_layFirst : Cond.code yX4_layFirst cX4_layFirst 2 none ∈ TT := mT4 (i := 1) (by decide +kernel) (by decide +kernel)
theorem qm_L_47 : Cond.methodLink RL 47 yX4_goes ∈ TT := mT4 (i := 2) (by decide +kernel) (by decide +kernel)
theorem qi_X4_goes : Cond.instanceMethod yX4_goes ∈ TT := mT4 (i := 3) (by decide +kernel) (by decide +kernel)
theorem ql_X4_goes : Cond.selects RX4 yX4_goes yX4_goes ∈ TT := mT4 (i := 4) (by decide +kernel) (by decide +kernel)
theorem qc_X4_goes : Cond.code yX4_goes cX4_goes 3 (some .int) ∈ TT := mT4 (i := 5) (by decide +kernel) (by decide +kernel)
theorem qm_X4_122 : Cond.methodLink RX4 122 yX4_isStep ∈ TT := mT4 (i := 6) (by decide +kernel) (by decide +kernel)
theorem qi_X4_isStep : Cond.instanceMethod yX4_isStep ∈ TT := mT4 (i := 8) (by decide +kernel) (by decide +kernel)
theorem qc_X4_isStep : Cond.code yX4_isStep cX4_isStep 2 (some .boolean) ∈ TT := mT4 (i := 9) (by decide +kernel) (by decide +kernel)
theorem qm_X4_125 : Cond.methodLink RX4 125 yX4_isPlace ∈ TT := mT4 (i := 10) (by decide +kernel) (by decide +kernel)
theorem qi_X4_isPlace : Cond.instanceMethod yX4_isPlace ∈ TT := mT4 (i := 12) (by decide +kernel) (by decide +kernel)
theorem qc_X4_isPlace : Cond.code yX4_isPlace cX4_isPlace 2 (some .boolean) ∈ TT := mT4 (i := 13) (by decide +kernel) (by decide +kernel)
theorem qm_X4_128 : Cond.methodLink RX4 128 yX4_goesOf ∈ TT := mT4 (i := 14) (by decide +kernel) (by decide +kernel)
theorem qi_X4_goesOf : Cond.instanceMethod yX4_goesOf ∈ TT := mT4 (i := 16) (by decide +kernel) (by decide +kernel)
theorem qc_X4_goesOf : Cond.code yX4_goesOf cX4_goesOf 3 (some .int) ∈ TT := mT4 (i := 17) (by decide +kernel) (by decide +kernel)
theorem qm_X4_118 : Cond.methodLink RX4 118 yX4_goesBy ∈ TT := mT4 (i := 18) (by decide +kernel) (by decide +kernel)
theorem qi_X4_goesBy : Cond.instanceMethod yX4_goesBy ∈ TT := mT4 (i := 20) (by decide +kernel) (by decide +kernel)
theorem qc_X4_goesBy : Cond.code yX4_goesBy cX4_goesBy 4 (some .int) ∈ TT := mT4 (i := 21) (by decide +kernel) (by decide +kernel)
theorem qm_X4_108 : Cond.methodLink RX4 108 yX4_byDeal ∈ TT := mT4 (i := 22) (by decide +kernel) (by decide +kernel)
theorem qi_X4_byDeal : Cond.instanceMethod yX4_byDeal ∈ TT := mT4 (i := 24) (by decide +kernel) (by decide +kernel)
theorem qc_X4_byDeal : Cond.code yX4_byDeal cX4_byDeal 9 (some .int) ∈ TT := mT4 (i := 25) (by decide +kernel) (by decide +kernel)
theorem qm_X4_104 : Cond.methodLink RX4 104 yX4_pileOf ∈ TT := mT4 (i := 26) (by decide +kernel) (by decide +kernel)
theorem qi_X4_pileOf : Cond.instanceMethod yX4_pileOf ∈ TT := mT4 (i := 28) (by decide +kernel) (by decide +kernel)
theorem qc_X4_pileOf : Cond.code yX4_pileOf cX4_pileOf 3 (some .int) ∈ TT := mT4 (i := 29) (by decide +kernel) (by decide +kernel)
theorem qm_X4_112 : Cond.methodLink RX4 112 yX4_byTurn ∈ TT := mT4 (i := 30) (by decide +kernel) (by decide +kernel)
theorem qi_X4_byTurn : Cond.instanceMethod yX4_byTurn ∈ TT := mT4 (i := 32) (by decide +kernel) (by decide +kernel)
theorem qc_X4_byTurn : Cond.code yX4_byTurn cX4_byTurn 4 (some .int) ∈ TT := mT4 (i := 33) (by decide +kernel) (by decide +kernel)
theorem qm_X4_115 : Cond.methodLink RX4 115 yX4_byStep ∈ TT := mT4 (i := 34) (by decide +kernel) (by decide +kernel)
theorem qi_X4_byStep : Cond.instanceMethod yX4_byStep ∈ TT := mT4 (i := 36) (by decide +kernel) (by decide +kernel)
theorem qc_X4_byStep : Cond.code yX4_byStep cX4_byStep 4 (some .int) ∈ TT := mT4 (i := 37) (by decide +kernel) (by decide +kernel)
theorem qm_L_72 : Cond.methodLink RL 72 yX4_round ∈ TT := mT4 (i := 38) (by decide +kernel) (by decide +kernel)
theorem qi_X4_round : Cond.instanceMethod yX4_round ∈ TT := mT4 (i := 39) (by decide +kernel) (by decide +kernel)
theorem ql_X4_round : Cond.selects RX4 yX4_round yX4_round ∈ TT := mT4 (i := 40) (by decide +kernel) (by decide +kernel)
theorem qc_X4_round : Cond.code yX4_round cX4_round 2 (some .int) ∈ TT := mT4 (i := 41) (by decide +kernel) (by decide +kernel)
theorem qm_X4_131 : Cond.methodLink RX4 131 yX4_roundOf ∈ TT := mT4 (i := 42) (by decide +kernel) (by decide +kernel)
theorem qi_X4_roundOf : Cond.instanceMethod yX4_roundOf ∈ TT := mT4 (i := 44) (by decide +kernel) (by decide +kernel)
theorem qc_X4_roundOf : Cond.code yX4_roundOf cX4_roundOf 4 (some .int) ∈ TT := mT4 (i := 45) (by decide +kernel) (by decide +kernel)
theorem qm_L_80 : Cond.methodLink RL 80 yX4_rings ∈ TT := mT4 (i := 46) (by decide +kernel) (by decide +kernel)
theorem qi_X4_rings : Cond.instanceMethod yX4_rings ∈ TT := mT4 (i := 47) (by decide +kernel) (by decide +kernel)
theorem ql_X4_rings : Cond.selects RX4 yX4_rings yX4_rings ∈ TT := mT4 (i := 48) (by decide +kernel) (by decide +kernel)
theorem qc_X4_rings : Cond.code yX4_rings cX4_rings 2 (some .int) ∈ TT := mT4 (i := 49) (by decide +kernel) (by decide +kernel)
theorem qk_X4_158 : Cond.constantLong RX4 158 (zL 3) ∈ TT := mT4 (i := 50) (by decide +kernel) (by decide +kernel)
theorem qm_X4_160 : Cond.methodLink RX4 160 yX4_lacks ∈ TT := mT4 (i := 51) (by decide +kernel) (by decide +kernel)
theorem qi_X4_lacks : Cond.instanceMethod yX4_lacks ∈ TT := mT4 (i := 53) (by decide +kernel) (by decide +kernel)
theorem qc_X4_lacks : Cond.code yX4_lacks cX4_lacks 1 (some .boolean) ∈ TT := mT4 (i := 54) (by decide +kernel) (by decide +kernel)
theorem qm_X4_164 : Cond.methodLink RX4 164 yX4_ringsOf ∈ TT := mT4 (i := 55) (by decide +kernel) (by decide +kernel)
theorem qi_X4_ringsOf : Cond.instanceMethod yX4_ringsOf ∈ TT := mT4 (i := 57) (by decide +kernel) (by decide +kernel)
theorem qc_X4_ringsOf : Cond.code yX4_ringsOf cX4_ringsOf 2 (some .int) ∈ TT := mT4 (i := 58) (by decide +kernel) (by decide +kernel)
theorem qm_X4_155 : Cond.methodLink RX4 155 yX4_layRound ∈ TT := mT4 (i := 59) (by decide +kernel) (by decide +kernel)
theorem qi_X4_layRound : Cond.instanceMethod yX4_layRound ∈ TT := mT4 (i := 61) (by decide +kernel) (by decide +kernel)
theorem qc_X4_layRound : Cond.code yX4_layRound cX4_layRound 2 none ∈ TT := mT4 (i := 62) (by decide +kernel) (by decide +kernel)
theorem qm_X4_152 : Cond.methodLink RX4 152 yX4_layRings ∈ TT := mT4 (i := 63) (by decide +kernel) (by decide +kernel)
theorem qi_X4_layRings : Cond.instanceMethod yX4_layRings ∈ TT := mT4 (i := 65) (by decide +kernel) (by decide +kernel)
theorem qc_X4_layRings : Cond.code yX4_layRings cX4_layRings 4 none ∈ TT := mT4 (i := 66) (by decide +kernel) (by decide +kernel)
theorem qm_X4_143 : Cond.methodLink RX4 143 yX4_ringOf ∈ TT := mT4 (i := 67) (by decide +kernel) (by decide +kernel)
theorem qi_X4_ringOf : Cond.instanceMethod yX4_ringOf ∈ TT := mT4 (i := 69) (by decide +kernel) (by decide +kernel)
theorem qc_X4_ringOf : Cond.code yX4_ringOf cX4_ringOf 4 (some .int) ∈ TT := mT4 (i := 70) (by decide +kernel) (by decide +kernel)
theorem qm_X4_146 : Cond.methodLink RX4 146 yX4_common ∈ TT := mT4 (i := 71) (by decide +kernel) (by decide +kernel)
theorem qs_X4_common : Cond.static yX4_common ∈ TT := mT4 (i := 72) (by decide +kernel) (by decide +kernel)
theorem qc_X4_common : Cond.code yX4_common cX4_common 5 (some .int) ∈ TT := mT4 (i := 73) (by decide +kernel) (by decide +kernel)
theorem qm_L_76 : Cond.methodLink RL 76 yX4_after ∈ TT := mT4 (i := 74) (by decide +kernel) (by decide +kernel)
theorem qi_X4_after : Cond.instanceMethod yX4_after ∈ TT := mT4 (i := 75) (by decide +kernel) (by decide +kernel)
theorem ql_X4_after : Cond.selects RX4 yX4_after yX4_after ∈ TT := mT4 (i := 76) (by decide +kernel) (by decide +kernel)
theorem qc_X4_after : Cond.code yX4_after cX4_after 3 (some .int) ∈ TT := mT4 (i := 77) (by decide +kernel) (by decide +kernel)
theorem qk_X4_167 : Cond.constantLong RX4 167 (zL 1000000000) ∈ TT := mT4 (i := 78) (by decide +kernel) (by decide +kernel)
theorem qm_X4_169 : Cond.methodLink RX4 169 yX4_afterOf ∈ TT := mT4 (i := 79) (by decide +kernel) (by decide +kernel)
theorem qi_X4_afterOf : Cond.instanceMethod yX4_afterOf ∈ TT := mT4 (i := 81) (by decide +kernel) (by decide +kernel)
theorem qc_X4_afterOf : Cond.code yX4_afterOf cX4_afterOf 6 (some .int) ∈ TT := mT4 (i := 82) (by decide +kernel) (by decide +kernel)
theorem qm_L_35 : Cond.methodLink RL 35 yX4_step ∈ TT := mT4 (i := 83) (by decide +kernel) (by decide +kernel)
theorem qi_X4_step : Cond.instanceMethod yX4_step ∈ TT := mT4 (i := 84) (by decide +kernel) (by decide +kernel)
theorem ql_X4_step : Cond.selects RX4 yX4_step yX4_step ∈ TT := mT4 (i := 85) (by decide +kernel) (by decide +kernel)
theorem qc_X4_step : Cond.code yX4_step cX4_step 3 (some .int) ∈ TT := mT4 (i := 86) (by decide +kernel) (by decide +kernel)
theorem qm_X4_181 : Cond.methodLink RX4 181 yX4_tellStep ∈ TT := mT4 (i := 87) (by decide +kernel) (by decide +kernel)
theorem qi_X4_tellStep : Cond.instanceMethod yX4_tellStep ∈ TT := mT4 (i := 89) (by decide +kernel) (by decide +kernel)
theorem qc_X4_tellStep : Cond.code yX4_tellStep cX4_tellStep 3 (some .int) ∈ TT := mT4 (i := 90) (by decide +kernel) (by decide +kernel)
theorem qm_X4_172 : Cond.methodLink RX4 172 yX4_ofStep ∈ TT := mT4 (i := 91) (by decide +kernel) (by decide +kernel)
theorem qi_X4_ofStep : Cond.instanceMethod yX4_ofStep ∈ TT := mT4 (i := 93) (by decide +kernel) (by decide +kernel)
theorem qc_X4_ofStep : Cond.code yX4_ofStep cX4_ofStep 4 (some .int) ∈ TT := mT4 (i := 94) (by decide +kernel) (by decide +kernel)
theorem qm_X4_175 : Cond.methodLink RX4 175 yX4_numbersOf ∈ TT := mT4 (i := 95) (by decide +kernel) (by decide +kernel)
theorem qi_X4_numbersOf : Cond.instanceMethod yX4_numbersOf ∈ TT := mT4 (i := 97) (by decide +kernel) (by decide +kernel)
theorem qc_X4_numbersOf : Cond.code yX4_numbersOf cX4_numbersOf 6 (some .int) ∈ TT := mT4 (i := 98) (by decide +kernel) (by decide +kernel)
theorem qm_X4_178 : Cond.methodLink RX4 178 yX4_watchOf ∈ TT := mT4 (i := 99) (by decide +kernel) (by decide +kernel)
theorem qi_X4_watchOf : Cond.instanceMethod yX4_watchOf ∈ TT := mT4 (i := 101) (by decide +kernel) (by decide +kernel)
theorem qc_X4_watchOf : Cond.code yX4_watchOf cX4_watchOf 10 (some .int) ∈ TT := mT4 (i := 102) (by decide +kernel) (by decide +kernel)
theorem qm_L_39 : Cond.methodLink RL 39 yX4_as ∈ TT := mT4 (i := 103) (by decide +kernel) (by decide +kernel)
theorem qi_X4_as : Cond.instanceMethod yX4_as ∈ TT := mT4 (i := 104) (by decide +kernel) (by decide +kernel)
theorem ql_X4_as : Cond.selects RX4 yX4_as yX4_as ∈ TT := mT4 (i := 105) (by decide +kernel) (by decide +kernel)
theorem qc_X4_as : Cond.code yX4_as cX4_as 4 (some .int) ∈ TT := mT4 (i := 106) (by decide +kernel) (by decide +kernel)
theorem qk_X4_184 : Cond.constantLong RX4 184 (zL 4) ∈ TT := mT4 (i := 107) (by decide +kernel) (by decide +kernel)
theorem qm_L_43 : Cond.methodLink RL 43 yX4_at ∈ TT := mT4 (i := 108) (by decide +kernel) (by decide +kernel)
theorem qi_X4_at : Cond.instanceMethod yX4_at ∈ TT := mT4 (i := 109) (by decide +kernel) (by decide +kernel)
theorem ql_X4_at : Cond.selects RX4 yX4_at yX4_at ∈ TT := mT4 (i := 110) (by decide +kernel) (by decide +kernel)
theorem qc_X4_at : Cond.code yX4_at cX4_at 2 (some .int) ∈ TT := mT4 (i := 111) (by decide +kernel) (by decide +kernel)
theorem qm_L_51 : Cond.methodLink RL 51 yX4_act ∈ TT := mT4 (i := 112) (by decide +kernel) (by decide +kernel)
theorem qi_X4_act : Cond.instanceMethod yX4_act ∈ TT := mT4 (i := 113) (by decide +kernel) (by decide +kernel)
theorem ql_X4_act : Cond.selects RX4 yX4_act yX4_act ∈ TT := mT4 (i := 114) (by decide +kernel) (by decide +kernel)
theorem qc_X4_act : Cond.code yX4_act cX4_act 2 (some .int) ∈ TT := mT4 (i := 115) (by decide +kernel) (by decide +kernel)
theorem qm_X4_186 : Cond.methodLink RX4 186 yX4_copy ∈ TT := mT4 (i := 116) (by decide +kernel) (by decide +kernel)
theorem qs_X4_copy : Cond.static yX4_copy ∈ TT := mT4 (i := 117) (by decide +kernel) (by decide +kernel)
theorem qc_X4_copy : Cond.code yX4_copy cX4_copy 3 none ∈ TT := mT4 (i := 118) (by decide +kernel) (by decide +kernel)
theorem qm_X4_190 : Cond.methodLink RX4 190 yX4_doThen ∈ TT := mT4 (i := 119) (by decide +kernel) (by decide +kernel)
theorem qi_X4_doThen : Cond.instanceMethod yX4_doThen ∈ TT := mT4 (i := 121) (by decide +kernel) (by decide +kernel)
theorem qc_X4_doThen : Cond.code yX4_doThen cX4_doThen 3 none ∈ TT := mT4 (i := 122) (by decide +kernel) (by decide +kernel)
theorem qm_L_55 : Cond.methodLink RL 55 yX4_whole ∈ TT := mT4 (i := 123) (by decide +kernel) (by decide +kernel)
theorem qi_X4_whole : Cond.instanceMethod yX4_whole ∈ TT := mT4 (i := 124) (by decide +kernel) (by decide +kernel)
theorem ql_X4_whole : Cond.selects RX4 yX4_whole yX4_whole ∈ TT := mT4 (i := 125) (by decide +kernel) (by decide +kernel)
theorem qc_X4_whole : Cond.code yX4_whole cX4_whole 2 (some .int) ∈ TT := mT4 (i := 126) (by decide +kernel) (by decide +kernel)
theorem qm_L_59 : Cond.methodLink RL 59 yX4_exchange ∈ TT := mT4 (i := 127) (by decide +kernel) (by decide +kernel)
theorem qi_X4_exchange : Cond.instanceMethod yX4_exchange ∈ TT := mT4 (i := 128) (by decide +kernel) (by decide +kernel)
theorem ql_X4_exchange : Cond.selects RX4 yX4_exchange yX4_exchange ∈ TT := mT4 (i := 129) (by decide +kernel) (by decide +kernel)
theorem qc_X4_exchange : Cond.code yX4_exchange cX4_exchange 4 (some .int) ∈ TT := mT4 (i := 130) (by decide +kernel) (by decide +kernel)
theorem qm_L_63 : Cond.methodLink RL 63 yX4_sort ∈ TT := mT4 (i := 131) (by decide +kernel) (by decide +kernel)
theorem qi_X4_sort : Cond.instanceMethod yX4_sort ∈ TT := mT4 (i := 132) (by decide +kernel) (by decide +kernel)
theorem ql_X4_sort : Cond.selects RX4 yX4_sort yX4_sort ∈ TT := mT4 (i := 133) (by decide +kernel) (by decide +kernel)
theorem qc_X4_sort : Cond.code yX4_sort cX4_sort 2 (some .int) ∈ TT := mT4 (i := 134) (by decide +kernel) (by decide +kernel)
theorem qm_X4_194 : Cond.methodLink RX4 194 yX4_homely ∈ TT := mT4 (i := 135) (by decide +kernel) (by decide +kernel)
theorem qi_X4_homely : Cond.instanceMethod yX4_homely ∈ TT := mT4 (i := 137) (by decide +kernel) (by decide +kernel)
theorem qc_X4_homely : Cond.code yX4_homely cX4_homely 4 (some .int) ∈ TT := mT4 (i := 138) (by decide +kernel) (by decide +kernel)
theorem qm_L_68 : Cond.methodLink RL 68 yX4_change ∈ TT := mT4 (i := 139) (by decide +kernel) (by decide +kernel)
theorem qi_X4_change : Cond.instanceMethod yX4_change ∈ TT := mT4 (i := 140) (by decide +kernel) (by decide +kernel)
theorem ql_X4_change : Cond.selects RX4 yX4_change yX4_change ∈ TT := mT4 (i := 141) (by decide +kernel) (by decide +kernel)
theorem qc_X4_change : Cond.code yX4_change cX4_change 5 (some .int) ∈ TT := mT4 (i := 142) (by decide +kernel) (by decide +kernel)
theorem qk_X4_198 : Cond.constantLong RX4 198 (zL 9) ∈ TT := mT4 (i := 143) (by decide +kernel) (by decide +kernel)
theorem qm_L_84 : Cond.methodLink RL 84 yX4_bring ∈ TT := mT4 (i := 144) (by decide +kernel) (by decide +kernel)
theorem qi_X4_bring : Cond.instanceMethod yX4_bring ∈ TT := mT4 (i := 145) (by decide +kernel) (by decide +kernel)
theorem ql_X4_bring : Cond.selects RX4 yX4_bring yX4_bring ∈ TT := mT4 (i := 146) (by decide +kernel) (by decide +kernel)
theorem qc_X4_bring : Cond.code yX4_bring cX4_bring 4 (some .int) ∈ TT := mT4 (i := 147) (by decide +kernel) (by decide +kernel)
theorem qm_X4_206 : Cond.methodLink RX4 206 yX4_bringOf ∈ TT := mT4 (i := 148) (by decide +kernel) (by decide +kernel)
theorem qi_X4_bringOf : Cond.instanceMethod yX4_bringOf ∈ TT := mT4 (i := 150) (by decide +kernel) (by decide +kernel)
theorem qc_X4_bringOf : Cond.code yX4_bringOf cX4_bringOf 6 (some .int) ∈ TT := mT4 (i := 151) (by decide +kernel) (by decide +kernel)
theorem qm_X4_200 : Cond.methodLink RX4 200 yX4_layFar ∈ TT := mT4 (i := 152) (by decide +kernel) (by decide +kernel)
theorem qi_X4_layFar : Cond.instanceMethod yX4_layFar ∈ TT := mT4 (i := 154) (by decide +kernel) (by decide +kernel)
theorem qc_X4_layFar : Cond.code yX4_layFar cX4_layFar 5 none ∈ TT := mT4 (i := 155) (by decide +kernel) (by decide +kernel)
theorem qm_X4_203 : Cond.methodLink RX4 203 yX4_placeOf ∈ TT := mT4 (i := 156) (by decide +kernel) (by decide +kernel)
theorem qi_X4_placeOf : Cond.instanceMethod yX4_placeOf ∈ TT := mT4 (i := 158) (by decide +kernel) (by decide +kernel)
theorem qc_X4_placeOf : Cond.code yX4_placeOf cX4_placeOf 3 (some .int) ∈ TT := mT4 (i := 159) (by decide +kernel) (by decide +kernel)
theorem qm_L_88 : Cond.methodLink RL 88 yX4_home ∈ TT := mT4 (i := 160) (by decide +kernel) (by decide +kernel)
theorem qi_X4_home : Cond.instanceMethod yX4_home ∈ TT := mT4 (i := 161) (by decide +kernel) (by decide +kernel)
theorem ql_X4_home : Cond.selects RX4 yX4_home yX4_home ∈ TT := mT4 (i := 162) (by decide +kernel) (by decide +kernel)
theorem qc_X4_home : Cond.code yX4_home cX4_home 2 (some .int) ∈ TT := mT4 (i := 163) (by decide +kernel) (by decide +kernel)
theorem qm_X4_222 : Cond.methodLink RX4 222 yX4_homeOf ∈ TT := mT4 (i := 164) (by decide +kernel) (by decide +kernel)
theorem qi_X4_homeOf : Cond.instanceMethod yX4_homeOf ∈ TT := mT4 (i := 166) (by decide +kernel) (by decide +kernel)
theorem qc_X4_homeOf : Cond.code yX4_homeOf cX4_homeOf 4 (some .int) ∈ TT := mT4 (i := 167) (by decide +kernel) (by decide +kernel)
theorem qm_X4_212 : Cond.methodLink RX4 212 yX4_power ∈ TT := mT4 (i := 168) (by decide +kernel) (by decide +kernel)
theorem qs_X4_power : Cond.static yX4_power ∈ TT := mT4 (i := 169) (by decide +kernel) (by decide +kernel)
theorem qc_X4_power : Cond.code yX4_power cX4_power 4 (some .int) ∈ TT := mT4 (i := 170) (by decide +kernel) (by decide +kernel)
theorem qm_X4_215 : Cond.methodLink RX4 215 yX4_isHomeBy ∈ TT := mT4 (i := 171) (by decide +kernel) (by decide +kernel)
theorem qi_X4_isHomeBy : Cond.instanceMethod yX4_isHomeBy ∈ TT := mT4 (i := 173) (by decide +kernel) (by decide +kernel)
theorem qc_X4_isHomeBy : Cond.code yX4_isHomeBy cX4_isHomeBy 5 (some .boolean) ∈ TT := mT4 (i := 174) (by decide +kernel) (by decide +kernel)
theorem qm_L_93 : Cond.methodLink RL 93 yX4_odds ∈ TT := mT4 (i := 175) (by decide +kernel) (by decide +kernel)
theorem qi_X4_odds : Cond.instanceMethod yX4_odds ∈ TT := mT4 (i := 176) (by decide +kernel) (by decide +kernel)
theorem ql_X4_odds : Cond.selects RX4 yX4_odds yX4_odds ∈ TT := mT4 (i := 177) (by decide +kernel) (by decide +kernel)
theorem qc_X4_odds : Cond.code yX4_odds cX4_odds 5 (some .int) ∈ TT := mT4 (i := 178) (by decide +kernel) (by decide +kernel)
theorem qk_X4_225 : Cond.constantLong RX4 225 (zL 8) ∈ TT := mT4 (i := 179) (by decide +kernel) (by decide +kernel)
theorem qm_X4_227 : Cond.methodLink RX4 227 yX4_oddsOf ∈ TT := mT4 (i := 180) (by decide +kernel) (by decide +kernel)
theorem qi_X4_oddsOf : Cond.instanceMethod yX4_oddsOf ∈ TT := mT4 (i := 182) (by decide +kernel) (by decide +kernel)
theorem qc_X4_oddsOf : Cond.code yX4_oddsOf cX4_oddsOf 7 (some .int) ∈ TT := mT4 (i := 183) (by decide +kernel) (by decide +kernel)
theorem qm_L_97 : Cond.methodLink RL 97 yX4_see ∈ TT := mT4 (i := 184) (by decide +kernel) (by decide +kernel)
theorem qi_X4_see : Cond.instanceMethod yX4_see ∈ TT := mT4 (i := 185) (by decide +kernel) (by decide +kernel)
theorem ql_X4_see : Cond.selects RX4 yX4_see yX4_see ∈ TT := mT4 (i := 186) (by decide +kernel) (by decide +kernel)
theorem qc_X4_see : Cond.code yX4_see cX4_see 4 (some .int) ∈ TT := mT4 (i := 187) (by decide +kernel) (by decide +kernel)
theorem qm_L_101 : Cond.methodLink RL 101 yX4_forget ∈ TT := mT4 (i := 188) (by decide +kernel) (by decide +kernel)
theorem qi_X4_forget : Cond.instanceMethod yX4_forget ∈ TT := mT4 (i := 189) (by decide +kernel) (by decide +kernel)
theorem ql_X4_forget : Cond.selects RX4 yX4_forget yX4_forget ∈ TT := mT4 (i := 190) (by decide +kernel) (by decide +kernel)
theorem qc_X4_forget : Cond.code yX4_forget cX4_forget 2 (some .int) ∈ TT := mT4 (i := 191) (by decide +kernel) (by decide +kernel)
theorem qm_L_105 : Cond.methodLink RL 105 yX4_runs ∈ TT := mT4 (i := 192) (by decide +kernel) (by decide +kernel)
theorem qi_X4_runs : Cond.instanceMethod yX4_runs ∈ TT := mT4 (i := 193) (by decide +kernel) (by decide +kernel)
theorem ql_X4_runs : Cond.selects RX4 yX4_runs yX4_runs ∈ TT := mT4 (i := 194) (by decide +kernel) (by decide +kernel)
theorem qc_X4_runs : Cond.code yX4_runs cX4_runs 5 (some .int) ∈ TT := mT4 (i := 195) (by decide +kernel) (by decide +kernel)
theorem qk_X4_241 : Cond.constantLong RX4 241 (zL 99) ∈ TT := mT4 (i := 196) (by decide +kernel) (by decide +kernel)
theorem qk_X4_243 : Cond.constantLong RX4 243 (zL 2) ∈ TT := mT4 (i := 197) (by decide +kernel) (by decide +kernel)
theorem qm_X4_245 : Cond.methodLink RX4 245 yX4_draw ∈ TT := mT4 (i := 198) (by decide +kernel) (by decide +kernel)
theorem qi_X4_draw : Cond.instanceMethod yX4_draw ∈ TT := mT4 (i := 200) (by decide +kernel) (by decide +kernel)
theorem qc_X4_draw : Cond.code yX4_draw cX4_draw 2 (some .int) ∈ TT := mT4 (i := 201) (by decide +kernel) (by decide +kernel)
theorem qk_X4_231 : Cond.constantLong RX4 231 (zL 1103515245) ∈ TT := mT4 (i := 202) (by decide +kernel) (by decide +kernel)
theorem qk_X4_236 : Cond.constantLong RX4 236 (zL 12345) ∈ TT := mT4 (i := 203) (by decide +kernel) (by decide +kernel)
theorem qk_X4_238 : Cond.constantLong RX4 238 (zL 2147483647) ∈ TT := mT4 (i := 204) (by decide +kernel) (by decide +kernel)
theorem qk_X4_240 : Cond.constant RX4 240 (zI 65536) ∈ TT := mT4 (i := 205) (by decide +kernel) (by decide +kernel)
theorem qm_L_109 : Cond.methodLink RL 109 yX4_image ∈ TT := mT4 (i := 206) (by decide +kernel) (by decide +kernel)
theorem qi_X4_image : Cond.instanceMethod yX4_image ∈ TT := mT4 (i := 207) (by decide +kernel) (by decide +kernel)
theorem ql_X4_image : Cond.selects RX4 yX4_image yX4_image ∈ TT := mT4 (i := 208) (by decide +kernel) (by decide +kernel)
theorem qc_X4_image : Cond.code yX4_image cX4_image 1 (some .int) ∈ TT := mT4 (i := 209) (by decide +kernel) (by decide +kernel)
theorem qm_L_113 : Cond.methodLink RL 113 yX4_restore ∈ TT := mT4 (i := 210) (by decide +kernel) (by decide +kernel)
theorem qi_X4_restore : Cond.instanceMethod yX4_restore ∈ TT := mT4 (i := 211) (by decide +kernel) (by decide +kernel)
theorem ql_X4_restore : Cond.selects RX4 yX4_restore yX4_restore ∈ TT := mT4 (i := 212) (by decide +kernel) (by decide +kernel)
theorem qc_X4_restore : Cond.code yX4_restore cX4_restore 1 (some .int) ∈ TT := mT4 (i := 213) (by decide +kernel) (by decide +kernel)
theorem qm_L_117 : Cond.methodLink RL 117 yX4_count ∈ TT := mT4 (i := 214) (by decide +kernel) (by decide +kernel)
theorem qi_X4_count : Cond.instanceMethod yX4_count ∈ TT := mT4 (i := 215) (by decide +kernel) (by decide +kernel)
theorem ql_X4_count : Cond.selects RX4 yX4_count yX4_count ∈ TT := mT4 (i := 216) (by decide +kernel) (by decide +kernel)
theorem qc_X4_count : Cond.code yX4_count cX4_count 2 (some .int) ∈ TT := mT4 (i := 217) (by decide +kernel) (by decide +kernel)
theorem qm_X4_257 : Cond.methodLink RX4 257 yX4_countOf ∈ TT := mT4 (i := 218) (by decide +kernel) (by decide +kernel)
theorem qi_X4_countOf : Cond.instanceMethod yX4_countOf ∈ TT := mT4 (i := 220) (by decide +kernel) (by decide +kernel)
theorem qc_X4_countOf : Cond.code yX4_countOf cX4_countOf 2 (some .int) ∈ TT := mT4 (i := 221) (by decide +kernel) (by decide +kernel)
theorem qm_X4_254 : Cond.methodLink RX4 254 yX4_crossed ∈ TT := mT4 (i := 222) (by decide +kernel) (by decide +kernel)
theorem qi_X4_crossed : Cond.instanceMethod yX4_crossed ∈ TT := mT4 (i := 224) (by decide +kernel) (by decide +kernel)
theorem qc_X4_crossed : Cond.code yX4_crossed cX4_crossed 5 (some .int) ∈ TT := mT4 (i := 225) (by decide +kernel) (by decide +kernel)
theorem qm_L_122 : Cond.methodLink RL 122 yX4_digest ∈ TT := mT4 (i := 226) (by decide +kernel) (by decide +kernel)
theorem qi_X4_digest : Cond.instanceMethod yX4_digest ∈ TT := mT4 (i := 227) (by decide +kernel) (by decide +kernel)
theorem ql_X4_digest : Cond.selects RX4 yX4_digest yX4_digest ∈ TT := mT4 (i := 228) (by decide +kernel) (by decide +kernel)
theorem qc_X4_digest : Cond.code yX4_digest cX4_digest 3 (some .long) ∈ TT := mT4 (i := 229) (by decide +kernel) (by decide +kernel)
theorem qk_X4_270 : Cond.constantLong RX4 270 (zL 1321) ∈ TT := mT4 (i := 230) (by decide +kernel) (by decide +kernel)
theorem qm_X4_266 : Cond.methodLink RX4 266 yX4_say ∈ TT := mT4 (i := 231) (by decide +kernel) (by decide +kernel)
theorem qi_X4_say : Cond.instanceMethod yX4_say ∈ TT := mT4 (i := 233) (by decide +kernel) (by decide +kernel)
theorem qc_X4_say : Cond.code yX4_say cX4_say 3 none ∈ TT := mT4 (i := 234) (by decide +kernel) (by decide +kernel)
theorem qk_X4_260 : Cond.constantLong RX4 260 (zL 31) ∈ TT := mT4 (i := 235) (by decide +kernel) (by decide +kernel)
theorem qm_X4_272 : Cond.methodLink RX4 272 yX4_sayRoutine ∈ TT := mT4 (i := 236) (by decide +kernel) (by decide +kernel)
theorem qi_X4_sayRoutine : Cond.instanceMethod yX4_sayRoutine ∈ TT := mT4 (i := 238) (by decide +kernel) (by decide +kernel)
theorem qc_X4_sayRoutine : Cond.code yX4_sayRoutine cX4_sayRoutine 2 none ∈ TT := mT4 (i := 239) (by decide +kernel) (by decide +kernel)
theorem qf_J0_15 : Cond.fieldLink RJ0 15 "java/lang/String" "coder" "B" ∈ TT := mT5 (i := 0) (by decide +kernel) (by decide +kernel)
theorem qf_J0_9 : Cond.fieldLink RJ0 9 "java/lang/String" "value" "[B" ∈ TT := mT5 (i := 1) (by decide +kernel) (by decide +kernel)
theorem ql_X0_append : Cond.selects RX0 yX0_append yX0_append ∈ TT := mTs (y := yX0_append) (n := 2) (i := 0) (by decide +kernel) (by decide +kernel)
theorem ql_X0_clear : Cond.selects RX0 yX0_clear yX0_clear ∈ TT := mTs (y := yX0_clear) (n := 2) (i := 1) (by decide +kernel) (by decide +kernel)
theorem ql_X0_firstWrong : Cond.selects RX0 yX0_firstWrong yX0_firstWrong ∈ TT := mTs (y := yX0_firstWrong) (n := 2) (i := 2) (by decide +kernel) (by decide +kernel)
theorem ql_X0_mayStand : Cond.selects RX0 yX0_mayStand yX0_mayStand ∈ TT := mTs (y := yX0_mayStand) (n := 2) (i := 3) (by decide +kernel) (by decide +kernel)
theorem ql_X0_isRoutine : Cond.selects RX0 yX0_isRoutine yX0_isRoutine ∈ TT := mTs (y := yX0_isRoutine) (n := 2) (i := 4) (by decide +kernel) (by decide +kernel)
theorem ql_X0_readInto : Cond.selects RX0 yX0_readInto yX0_readInto ∈ TT := mTs (y := yX0_readInto) (n := 2) (i := 5) (by decide +kernel) (by decide +kernel)
theorem ql_X1_begin : Cond.selects RX1 yX1_begin yX1_begin ∈ TT := mTs (y := yX1_begin) (n := 11) (i := 6) (by decide +kernel) (by decide +kernel)
theorem ql_X1_layInOrder : Cond.selects RX1 yX1_layInOrder yX1_layInOrder ∈ TT := mTs (y := yX1_layInOrder) (n := 11) (i := 7) (by decide +kernel) (by decide +kernel)
theorem ql_X1_setStep : Cond.selects RX1 yX1_setStep yX1_setStep ∈ TT := mTs (y := yX1_setStep) (n := 11) (i := 8) (by decide +kernel) (by decide +kernel)
theorem ql_X1_hasStep : Cond.selects RX1 yX1_hasStep yX1_hasStep ∈ TT := mTs (y := yX1_hasStep) (n := 11) (i := 9) (by decide +kernel) (by decide +kernel)
theorem ql_X3_wayOfStep : Cond.selects RX3 yX3_wayOfStep yX3_wayOfStep ∈ TT := mTs (y := yX3_wayOfStep) (n := 10) (i := 10) (by decide +kernel) (by decide +kernel)
theorem ql_X2_begin : Cond.selects RX2 yX2_begin yX2_begin ∈ TT := mTs (y := yX2_begin) (n := 2) (i := 11) (by decide +kernel) (by decide +kernel)
theorem ql_X2_add : Cond.selects RX2 yX2_add yX2_add ∈ TT := mTs (y := yX2_add) (n := 2) (i := 12) (by decide +kernel) (by decide +kernel)
theorem ql_X1_placeBehind : Cond.selects RX1 yX1_placeBehind yX1_placeBehind ∈ TT := mTs (y := yX1_placeBehind) (n := 11) (i := 13) (by decide +kernel) (by decide +kernel)
theorem ql_X2_stayCount : Cond.selects RX2 yX2_stayCount yX2_stayCount ∈ TT := mTs (y := yX2_stayCount) (n := 2) (i := 14) (by decide +kernel) (by decide +kernel)
theorem ql_X2_order : Cond.selects RX2 yX2_order yX2_order ∈ TT := mTs (y := yX2_order) (n := 2) (i := 15) (by decide +kernel) (by decide +kernel)
theorem ql_X2_ringLength : Cond.selects RX2 yX2_ringLength yX2_ringLength ∈ TT := mTs (y := yX2_ringLength) (n := 2) (i := 16) (by decide +kernel) (by decide +kernel)
theorem ql_X1_possibleNumbers : Cond.selects RX1 yX1_possibleNumbers yX1_possibleNumbers ∈ TT := mTs (y := yX1_possibleNumbers) (n := 11) (i := 17) (by decide +kernel) (by decide +kernel)
theorem ql_X1_agreesWithSeen : Cond.selects RX1 yX1_agreesWithSeen yX1_agreesWithSeen ∈ TT := mTs (y := yX1_agreesWithSeen) (n := 11) (i := 18) (by decide +kernel) (by decide +kernel)
theorem ql_X3_placeToWatch : Cond.selects RX3 yX3_placeToWatch yX3_placeToWatch ∈ TT := mTs (y := yX3_placeToWatch) (n := 10) (i := 19) (by decide +kernel) (by decide +kernel)
theorem ql_X3_leftAtWorst : Cond.selects RX3 yX3_leftAtWorst yX3_leftAtWorst ∈ TT := mTs (y := yX3_leftAtWorst) (n := 10) (i := 20) (by decide +kernel) (by decide +kernel)
theorem ql_X1_hasPlace : Cond.selects RX1 yX1_hasPlace yX1_hasPlace ∈ TT := mTs (y := yX1_hasPlace) (n := 11) (i := 21) (by decide +kernel) (by decide +kernel)
theorem ql_X3_carryOut : Cond.selects RX3 yX3_carryOut yX3_carryOut ∈ TT := mTs (y := yX3_carryOut) (n := 10) (i := 22) (by decide +kernel) (by decide +kernel)
theorem ql_X1_hasRoutine : Cond.selects RX1 yX1_hasRoutine yX1_hasRoutine ∈ TT := mTs (y := yX1_hasRoutine) (n := 11) (i := 23) (by decide +kernel) (by decide +kernel)
theorem ql_X3_wayOfRoutine : Cond.selects RX3 yX3_wayOfRoutine yX3_wayOfRoutine ∈ TT := mTs (y := yX3_wayOfRoutine) (n := 10) (i := 24) (by decide +kernel) (by decide +kernel)
theorem ql_X1_asAtFirst : Cond.selects RX1 yX1_asAtFirst yX1_asAtFirst ∈ TT := mTs (y := yX1_asAtFirst) (n := 11) (i := 25) (by decide +kernel) (by decide +kernel)
theorem ql_X2_placeAfter : Cond.selects RX2 yX2_placeAfter yX2_placeAfter ∈ TT := mTs (y := yX2_placeAfter) (n := 2) (i := 26) (by decide +kernel) (by decide +kernel)
theorem ql_X2_ringCount : Cond.selects RX2 yX2_ringCount yX2_ringCount ∈ TT := mTs (y := yX2_ringCount) (n := 2) (i := 27) (by decide +kernel) (by decide +kernel)
theorem ql_X2_isLeastOfRing : Cond.selects RX2 yX2_isLeastOfRing yX2_isLeastOfRing ∈ TT := mTs (y := yX2_isLeastOfRing) (n := 2) (i := 28) (by decide +kernel) (by decide +kernel)
theorem ql_X2_longestRing : Cond.selects RX2 yX2_longestRing yX2_longestRing ∈ TT := mTs (y := yX2_longestRing) (n := 2) (i := 29) (by decide +kernel) (by decide +kernel)
theorem ql_X1_hasCard : Cond.selects RX1 yX1_hasCard yX1_hasCard ∈ TT := mTs (y := yX1_hasCard) (n := 11) (i := 30) (by decide +kernel) (by decide +kernel)
theorem ql_X1_placeOf : Cond.selects RX1 yX1_placeOf yX1_placeOf ∈ TT := mTs (y := yX1_placeOf) (n := 11) (i := 31) (by decide +kernel) (by decide +kernel)
theorem ql_X3_tellDistancesTo : Cond.selects RX3 yX3_tellDistancesTo yX3_tellDistancesTo ∈ TT := mTs (y := yX3_tellDistancesTo) (n := 10) (i := 32) (by decide +kernel) (by decide +kernel)
theorem ql_X3_stepTo : Cond.selects RX3 yX3_stepTo yX3_stepTo ∈ TT := mTs (y := yX3_stepTo) (n := 10) (i := 33) (by decide +kernel) (by decide +kernel)
theorem ql_X3_firstStepNearer : Cond.selects RX3 yX3_firstStepNearer yX3_firstStepNearer ∈ TT := mTs (y := yX3_firstStepNearer) (n := 10) (i := 34) (by decide +kernel) (by decide +kernel)
theorem ql_X3_findPathHome : Cond.selects RX3 yX3_findPathHome yX3_findPathHome ∈ TT := mTs (y := yX3_findPathHome) (n := 10) (i := 35) (by decide +kernel) (by decide +kernel)
theorem ql_X3_pathLeadsHome : Cond.selects RX3 yX3_pathLeadsHome yX3_pathLeadsHome ∈ TT := mTs (y := yX3_pathLeadsHome) (n := 10) (i := 36) (by decide +kernel) (by decide +kernel)
theorem ql_X3_nextPath : Cond.selects RX3 yX3_nextPath yX3_nextPath ∈ TT := mTs (y := yX3_nextPath) (n := 10) (i := 37) (by decide +kernel) (by decide +kernel)
theorem ql_X3_pathInDigits : Cond.selects RX3 yX3_pathInDigits yX3_pathInDigits ∈ TT := mTs (y := yX3_pathInDigits) (n := 10) (i := 38) (by decide +kernel) (by decide +kernel)
theorem ql_X3_tellDrawsFrom : Cond.selects RX3 yX3_tellDrawsFrom yX3_tellDrawsFrom ∈ TT := mTs (y := yX3_tellDrawsFrom) (n := 10) (i := 39) (by decide +kernel) (by decide +kernel)
theorem ql_X1_addSeen : Cond.selects RX1 yX1_addSeen yX1_addSeen ∈ TT := mTs (y := yX1_addSeen) (n := 11) (i := 40) (by decide +kernel) (by decide +kernel)
theorem ql_X3_drawSteps : Cond.selects RX3 yX3_drawSteps yX3_drawSteps ∈ TT := mTs (y := yX3_drawSteps) (n := 10) (i := 41) (by decide +kernel) (by decide +kernel)
theorem ql_X1_asAtFirstBehind : Cond.selects RX1 yX1_asAtFirstBehind yX1_asAtFirstBehind ∈ TT := mTs (y := yX1_asAtFirstBehind) (n := 11) (i := 42) (by decide +kernel) (by decide +kernel)
theorem ql_X1_topBehind : Cond.selects RX1 yX1_topBehind yX1_topBehind ∈ TT := mTs (y := yX1_topBehind) (n := 11) (i := 43) (by decide +kernel) (by decide +kernel)
theorem ql_X1_copy : Cond.selects RX1 yX1_copy yX1_copy ∈ TT := mTs (y := yX1_copy) (n := 11) (i := 44) (by decide +kernel) (by decide +kernel)
theorem ql_X1_wrongTwos : Cond.selects RX1 yX1_wrongTwos yX1_wrongTwos ∈ TT := mTs (y := yX1_wrongTwos) (n := 11) (i := 45) (by decide +kernel) (by decide +kernel)
theorem ql_X3_digestOfSteps : Cond.selects RX3 yX3_digestOfSteps yX3_digestOfSteps ∈ TT := mTs (y := yX3_digestOfSteps) (n := 10) (i := 46) (by decide +kernel) (by decide +kernel)
theorem ql_X3_digestOfPlaces : Cond.selects RX3 yX3_digestOfPlaces yX3_digestOfPlaces ∈ TT := mTs (y := yX3_digestOfPlaces) (n := 10) (i := 47) (by decide +kernel) (by decide +kernel)
theorem ql_X3_digestOfRoutine : Cond.selects RX3 yX3_digestOfRoutine yX3_digestOfRoutine ∈ TT := mTs (y := yX3_digestOfRoutine) (n := 10) (i := 48) (by decide +kernel) (by decide +kernel)
theorem ql_X4_faultOf : Cond.selects RX4 yX4_faultOf yX4_faultOf ∈ TT := mTs (y := yX4_faultOf) (n := 32) (i := 49) (by decide +kernel) (by decide +kernel)
theorem ql_X4_isGood : Cond.selects RX4 yX4_isGood yX4_isGood ∈ TT := mTs (y := yX4_isGood) (n := 32) (i := 50) (by decide +kernel) (by decide +kernel)
theorem ql_X4_layFirst : Cond.selects RX4 yX4_layFirst yX4_layFirst ∈ TT := mTs (y := yX4_layFirst) (n := 32) (i := 51) (by decide +kernel) (by decide +kernel)
theorem ql_X4_isStep : Cond.selects RX4 yX4_isStep yX4_isStep ∈ TT := mTs (y := yX4_isStep) (n := 32) (i := 52) (by decide +kernel) (by decide +kernel)
theorem ql_X4_isPlace : Cond.selects RX4 yX4_isPlace yX4_isPlace ∈ TT := mTs (y := yX4_isPlace) (n := 32) (i := 53) (by decide +kernel) (by decide +kernel)
theorem ql_X4_goesOf : Cond.selects RX4 yX4_goesOf yX4_goesOf ∈ TT := mTs (y := yX4_goesOf) (n := 32) (i := 54) (by decide +kernel) (by decide +kernel)
theorem ql_X4_goesBy : Cond.selects RX4 yX4_goesBy yX4_goesBy ∈ TT := mTs (y := yX4_goesBy) (n := 32) (i := 55) (by decide +kernel) (by decide +kernel)
theorem ql_X4_byDeal : Cond.selects RX4 yX4_byDeal yX4_byDeal ∈ TT := mTs (y := yX4_byDeal) (n := 32) (i := 56) (by decide +kernel) (by decide +kernel)
theorem ql_X4_pileOf : Cond.selects RX4 yX4_pileOf yX4_pileOf ∈ TT := mTs (y := yX4_pileOf) (n := 32) (i := 57) (by decide +kernel) (by decide +kernel)
theorem ql_X4_byTurn : Cond.selects RX4 yX4_byTurn yX4_byTurn ∈ TT := mTs (y := yX4_byTurn) (n := 32) (i := 58) (by decide +kernel) (by decide +kernel)
theorem ql_X4_byStep : Cond.selects RX4 yX4_byStep yX4_byStep ∈ TT := mTs (y := yX4_byStep) (n := 32) (i := 59) (by decide +kernel) (by decide +kernel)
theorem ql_X4_roundOf : Cond.selects RX4 yX4_roundOf yX4_roundOf ∈ TT := mTs (y := yX4_roundOf) (n := 32) (i := 60) (by decide +kernel) (by decide +kernel)
theorem ql_X4_lacks : Cond.selects RX4 yX4_lacks yX4_lacks ∈ TT := mTs (y := yX4_lacks) (n := 32) (i := 61) (by decide +kernel) (by decide +kernel)
theorem ql_X4_ringsOf : Cond.selects RX4 yX4_ringsOf yX4_ringsOf ∈ TT := mTs (y := yX4_ringsOf) (n := 32) (i := 62) (by decide +kernel) (by decide +kernel)
theorem ql_X4_layRound : Cond.selects RX4 yX4_layRound yX4_layRound ∈ TT := mTs (y := yX4_layRound) (n := 32) (i := 63) (by decide +kernel) (by decide +kernel)
theorem ql_X4_layRings : Cond.selects RX4 yX4_layRings yX4_layRings ∈ TT := mTs (y := yX4_layRings) (n := 32) (i := 64) (by decide +kernel) (by decide +kernel)
theorem ql_X4_ringOf : Cond.selects RX4 yX4_ringOf yX4_ringOf ∈ TT := mTs (y := yX4_ringOf) (n := 32) (i := 65) (by decide +kernel) (by decide +kernel)
theorem ql_X4_afterOf : Cond.selects RX4 yX4_afterOf yX4_afterOf ∈ TT := mTs (y := yX4_afterOf) (n := 32) (i := 66) (by decide +kernel) (by decide +kernel)
theorem ql_X4_tellStep : Cond.selects RX4 yX4_tellStep yX4_tellStep ∈ TT := mTs (y := yX4_tellStep) (n := 32) (i := 67) (by decide +kernel) (by decide +kernel)
theorem ql_X4_ofStep : Cond.selects RX4 yX4_ofStep yX4_ofStep ∈ TT := mTs (y := yX4_ofStep) (n := 32) (i := 68) (by decide +kernel) (by decide +kernel)
theorem ql_X4_numbersOf : Cond.selects RX4 yX4_numbersOf yX4_numbersOf ∈ TT := mTs (y := yX4_numbersOf) (n := 32) (i := 69) (by decide +kernel) (by decide +kernel)
theorem ql_X4_watchOf : Cond.selects RX4 yX4_watchOf yX4_watchOf ∈ TT := mTs (y := yX4_watchOf) (n := 32) (i := 70) (by decide +kernel) (by decide +kernel)
theorem ql_X4_doThen : Cond.selects RX4 yX4_doThen yX4_doThen ∈ TT := mTs (y := yX4_doThen) (n := 32) (i := 71) (by decide +kernel) (by decide +kernel)
theorem ql_X4_homely : Cond.selects RX4 yX4_homely yX4_homely ∈ TT := mTs (y := yX4_homely) (n := 32) (i := 72) (by decide +kernel) (by decide +kernel)
theorem ql_X4_bringOf : Cond.selects RX4 yX4_bringOf yX4_bringOf ∈ TT := mTs (y := yX4_bringOf) (n := 32) (i := 73) (by decide +kernel) (by decide +kernel)
theorem ql_X4_layFar : Cond.selects RX4 yX4_layFar yX4_layFar ∈ TT := mTs (y := yX4_layFar) (n := 32) (i := 74) (by decide +kernel) (by decide +kernel)
theorem ql_X4_placeOf : Cond.selects RX4 yX4_placeOf yX4_placeOf ∈ TT := mTs (y := yX4_placeOf) (n := 32) (i := 75) (by decide +kernel) (by decide +kernel)
theorem ql_X4_homeOf : Cond.selects RX4 yX4_homeOf yX4_homeOf ∈ TT := mTs (y := yX4_homeOf) (n := 32) (i := 76) (by decide +kernel) (by decide +kernel)
theorem ql_X4_isHomeBy : Cond.selects RX4 yX4_isHomeBy yX4_isHomeBy ∈ TT := mTs (y := yX4_isHomeBy) (n := 32) (i := 77) (by decide +kernel) (by decide +kernel)
theorem ql_X4_oddsOf : Cond.selects RX4 yX4_oddsOf yX4_oddsOf ∈ TT := mTs (y := yX4_oddsOf) (n := 32) (i := 78) (by decide +kernel) (by decide +kernel)
theorem ql_X4_draw : Cond.selects RX4 yX4_draw yX4_draw ∈ TT := mTs (y := yX4_draw) (n := 32) (i := 79) (by decide +kernel) (by decide +kernel)
theorem ql_X4_countOf : Cond.selects RX4 yX4_countOf yX4_countOf ∈ TT := mTs (y := yX4_countOf) (n := 32) (i := 80) (by decide +kernel) (by decide +kernel)
theorem ql_X4_crossed : Cond.selects RX4 yX4_crossed yX4_crossed ∈ TT := mTs (y := yX4_crossed) (n := 32) (i := 81) (by decide +kernel) (by decide +kernel)
theorem ql_X4_say : Cond.selects RX4 yX4_say yX4_say ∈ TT := mTs (y := yX4_say) (n := 32) (i := 82) (by decide +kernel) (by decide +kernel)
theorem ql_X4_sayRoutine : Cond.selects RX4 yX4_sayRoutine yX4_sayRoutine ∈ TT := mTs (y := yX4_sayRoutine) (n := 32) (i := 83) (by decide +kernel) (by decide +kernel)
theorem inT_X0 : ∀ w ∈ u_ws RX0 TX0 2, w ∈ TT := mTu (by decide +kernel) (by decide +kernel)
theorem inT_X1 : ∀ w ∈ u_ws RX1 TX1 11, w ∈ TT := mTu (by decide +kernel) (by decide +kernel)
theorem inT_X2 : ∀ w ∈ u_ws RX2 TX2 2, w ∈ TT := mTu (by decide +kernel) (by decide +kernel)
theorem inT_X3 : ∀ w ∈ u_ws RX3 TX3 10, w ∈ TT := mTu (by decide +kernel) (by decide +kernel)
theorem inT_X4 : ∀ w ∈ u_ws RX4 TX4 32, w ∈ TT := mTu (by decide +kernel) (by decide +kernel)
end
section
/-! Numbers as integers: an int of the machine is zI of an integer, an int array is zA of a row of integers. -/
def zA (g : Nat → Int) : Nat → Int32 := fun j => zI (g j)
def zup (g : Nat → Int) (k : Nat) (v : Int) : Nat → Int := fun j => if j = k then v else g j
theorem zup_s (g : Nat → Int) (k : Nat) (v : Int) : zup g k v k = v := if_pos rfl
theorem zup_n {g : Nat → Int} {k j : Nat} {v : Int} (h : j ≠ k) : zup g k v j = g j := if_neg h
theorem zI_add (a b : Int) : zI a + zI b = zI (a + b) := (Int32.ofInt_add a b).symm
theorem zI_sub (a b : Int) : zI a - zI b = zI (a - b) := (Int32.ofInt_sub a b).symm
theorem zI_mul (a b : Int) : zI a * zI b = zI (a * b) := (Int32.ofInt_mul a b).symm
theorem zI_toInt {z : Int} (h : -2147483648 ≤ z ∧ z < 2147483648) : (zI z).toInt = z := by
  show (Int32.ofInt z).toInt = z
  rw [Int32.toInt_ofInt]
  show z.bmod (2 ^ 32) = z
  rw [Int.bmod_def]
  have h32 : ((2 ^ 32 : Nat) : Int) = 4294967296 := rfl
  rw [h32]
  split <;> omega
theorem zI_of (x : Int32) : x = zI x.toInt := (Int32.ofInt_toInt x).symm
theorem zI_rng (x : Int32) : -2147483648 ≤ x.toInt ∧ x.toInt < 2147483648 := by
  have h1 := Int32.le_toInt x
  have h2 := Int32.toInt_lt x
  omega
theorem zI_lt {a b : Int} (ha : -2147483648 ≤ a ∧ a < 2147483648) (hb : -2147483648 ≤ b ∧ b < 2147483648) : zI a < zI b ↔ a < b := by
  rw [Int32.lt_iff_toInt_lt, zI_toInt ha, zI_toInt hb]
theorem zI_le {a b : Int} (ha : -2147483648 ≤ a ∧ a < 2147483648) (hb : -2147483648 ≤ b ∧ b < 2147483648) : zI a ≤ zI b ↔ a ≤ b := by
  rw [Int32.le_iff_toInt_le, zI_toInt ha, zI_toInt hb]
theorem zI_eq {a b : Int} (ha : -2147483648 ≤ a ∧ a < 2147483648) (hb : -2147483648 ≤ b ∧ b < 2147483648) : zI a = zI b ↔ a = b := by
  constructor
  · intro h
    have h2 := congrArg Int32.toInt h
    rwa [zI_toInt ha, zI_toInt hb] at h2
  · intro h; rw [h]
theorem zI_nat (n : Nat) : zI (n : Int) = nI n := by first | rfl | (show Int32.ofInt (n : Int) = Int32.ofNat n; simp) | exact Int32.ofInt_eq_ofNat
theorem zI_0 : zI 0 = 0 := rfl
theorem zI_clamp {n : Nat} (h : n < 2147483648) : (zI (n : Int)).toNatClampNeg = n := by
  rw [zI_nat]; exact nI_clamp (by omega)
theorem zI_in {i n : Nat} (h : i < n) (hn : n < 2147483648) : vp_in (zI (i : Int)) n := by
  rw [zI_nat]; exact vp_in_nI h (by omega)
theorem zI_div {a b : Int} (ha : 0 ≤ a ∧ a < 2147483648) (hb : 0 < b ∧ b < 2147483648) : zI a / zI b = zI (a / b) := by
  obtain ⟨x, rfl⟩ := Int.eq_ofNat_of_zero_le ha.1
  obtain ⟨y, rfl⟩ := Int.eq_ofNat_of_zero_le (Int.le_of_lt hb.1)
  rw [show ((x : Int) / (y : Int)) = ((x / y : Nat) : Int) from rfl, zI_nat, zI_nat, zI_nat]
  exact pk_div (by omega) (by omega) (by omega)
theorem zI_rem {a b : Int} (ha : 0 ≤ a ∧ a < 2147483648) (hb : 0 < b ∧ b < 2147483648) : zI a - zI a / zI b * zI b = zI (a % b) := by
  obtain ⟨x, rfl⟩ := Int.eq_ofNat_of_zero_le ha.1
  obtain ⟨y, rfl⟩ := Int.eq_ofNat_of_zero_le (Int.le_of_lt hb.1)
  rw [show ((x : Int) % (y : Int)) = ((x % y : Nat) : Int) from rfl, zI_nat, zI_nat, zI_nat]
  exact pk_rem (by omega) (by omega) (by omega)
theorem zL_add (a b : Int) : zL a + zL b = zL (a + b) := (Int64.ofInt_add a b).symm
theorem zL_sub (a b : Int) : zL a - zL b = zL (a - b) := (Int64.ofInt_sub a b).symm
theorem zL_mul (a b : Int) : zL a * zL b = zL (a * b) := (Int64.ofInt_mul a b).symm
theorem zL_toInt {z : Int} (h : -9223372036854775808 ≤ z ∧ z < 9223372036854775808) : (zL z).toInt = z := by
  show (Int64.ofInt z).toInt = z
  rw [Int64.toInt_ofInt]
  show z.bmod (2 ^ 64) = z
  rw [Int.bmod_def]
  have h32 : ((2 ^ 64 : Nat) : Int) = 18446744073709551616 := rfl
  rw [h32]
  split <;> omega
theorem zL_lt {a b : Int} (ha : -9223372036854775808 ≤ a ∧ a < 9223372036854775808) (hb : -9223372036854775808 ≤ b ∧ b < 9223372036854775808) : zL a < zL b ↔ a < b := by
  rw [Int64.lt_iff_toInt_lt, zL_toInt ha, zL_toInt hb]
theorem zL_eq {a b : Int} (ha : -9223372036854775808 ≤ a ∧ a < 9223372036854775808) (hb : -9223372036854775808 ≤ b ∧ b < 9223372036854775808) : zL a = zL b ↔ a = b := by
  constructor
  · intro h
    have h2 := congrArg Int64.toInt h
    rwa [zL_toInt ha, zL_toInt hb] at h2
  · intro h; rw [h]
theorem zL_i {z : Int} (h : -2147483648 ≤ z ∧ z < 2147483648) : (zI z).toInt64 = zL z := by
  apply Int64.toInt_inj.mp
  rw [Int32.toInt_toInt64, zI_toInt h, zL_toInt (by omega)]
theorem zA_up (g : Nat → Int) (k : Nat) (v : Int) : upd (zA g) k (zI v) = zA (zup g k v) := by
  funext j
  by_cases h : j = k
  · subst h; rw [pk_us]; show zI v = zI (zup g j v j); rw [zup_s]
  · rw [pk_un h]; show zI (g j) = zI (zup g k v j); rw [zup_n h]
/-! The context of a walk -/
abbrev cls : List vw_C := [(RX0, TX0, 2), (RX1, TX1, 11), (RX2, TX2, 2), (RX3, TX3, 10), (RX4, TX4, 32)]
def zE (D : va_G) (cI : ClassId) (U : State) : Prop := va_K D cls [(cI, .int)] U ∧ ∀ w ∈ tables_1, isNest w = true → va_Nw w U
theorem nest_on {w : Cond} (h : isNest w = true) : w.onTables = true := by
  cases w <;> first | rfl | exact absurd h (by decide) | (simp [isNest] at h)
theorem zE.warm {D : va_G} {cI : ClassId} {s U : State} (hW : s.WarmedH U.vm) (h : zE D cI s) : zE D cI U := by
  refine ⟨va_K.moved hW.alike h.1, fun w hw hn => ?_⟩
  have h1 := h.2 w hw hn
  cases w
  case fieldLinkNest => exact va_Nw.warmF hW h1
  case methodLinkNest => exact va_Nw.warmM hW h1
  all_goals (simp [isNest] at hn)
theorem zE.same {D : va_G} {cI : ClassId} {u U : State} (hv : u.vm = U.vm) (h : zE D cI u) : zE D cI U := by
  refine ⟨va_K.moved (by rw [hv]; exact Vm.Alike.refl _) h.1, fun w hw hn => ?_⟩
  exact va_Nw.same (nest_on hn) hv (h.2 w hw hn)
def zPre (D : va_G) (cI : ClassId) (sz : Nat) (ws : va_W) (av : List Value) : Array Value → State → Prop := va_Pc av (fun U => U.heap.size = sz ∧ va_P D cls ws U.heap ∧ zE D cI U ∧ va_D (fun _ => True) ws)
theorem zPre_blind (D : va_G) (cI : ClassId) (sz : Nat) (ws : va_W) (av : List Value) : FrameBlind (zPre D cI sz ws av) := fun a U g mk q => by
  obtain ⟨q0, q1, qP, qE, qD⟩ := q
  exact ⟨q0, q1, qP, zE.same (u := U) (U := U.calling g mk a) rfl qE, qD⟩
def zB (D : va_G) (sz : Nat) (ws0 ws1 : va_W) (t : State) : Prop := va_P D cls ws1 t.heap ∧ va_D (va_A ws0 sz) ws1
abbrev zW (y : MethodName) (c : ByteArray) (maxL : Nat) (ret : Option FieldType) : List Cond := .code y c maxL ret :: TT
abbrev zQi {S : Type} (D : va_G) (sz : Nat) (ws0 : va_W) (post : Int → S → Prop) (w1 : S → va_W) := va_Qi (fun (r : Int32) (u : S) => ∃ z : Int, r = zI z ∧ post z u) (fun u t => zB D sz ws0 (w1 u) t) (va_A ws0 sz)
abbrev zQl {S : Type} (D : va_G) (sz : Nat) (ws0 : va_W) (post : Int → S → Prop) (w1 : S → va_W) := va_Ql (fun (r : Int64) (u : S) => ∃ z : Int, r = zL z ∧ post z u) (fun u t => zB D sz ws0 (w1 u) t) (va_A ws0 sz)
abbrev zQv {S : Type} (D : va_G) (sz : Nat) (ws0 : va_W) (post : S → Prop) (w1 : S → va_W) := va_Qv (fun (u : S) => post u) (fun u t => zB D sz ws0 (w1 u) t) (va_A ws0 sz)
abbrev zQr {S : Type} (D : va_G) (sz : Nat) (ws0 : va_W) (ra : Nat) (post : S → Prop) (w1 : S → va_W) := va_Qr (fun (u : S) => post u) (fun u a t => a = ra ∧ zB D sz ws0 (w1 u) t) (va_A ws0 sz)
def zMi {S : Type} (l : Launch) (y : MethodName) (c : ByteArray) (maxL : Nat) (ret : Option FieldType) (rm : Room) (D : va_G) (cI : ClassId) (av : List Value) (ws0 : va_W) (post : Int → S → Prop) (w1 : S → va_W) : Prop := ∀ sz : Nat, Met l y (zW y c maxL ret) rm (zPre D cI sz ws0 av) (zQi D sz ws0 post w1) 0 0 (va_A ws0 sz)
def zMl {S : Type} (l : Launch) (y : MethodName) (c : ByteArray) (maxL : Nat) (ret : Option FieldType) (rm : Room) (D : va_G) (cI : ClassId) (av : List Value) (ws0 : va_W) (post : Int → S → Prop) (w1 : S → va_W) : Prop := ∀ sz : Nat, Met l y (zW y c maxL ret) rm (zPre D cI sz ws0 av) (zQl D sz ws0 post w1) 0 0 (va_A ws0 sz)
def zMv {S : Type} (l : Launch) (y : MethodName) (c : ByteArray) (maxL : Nat) (ret : Option FieldType) (rm : Room) (D : va_G) (cI : ClassId) (av : List Value) (ws0 : va_W) (post : S → Prop) (w1 : S → va_W) : Prop := ∀ sz : Nat, Met l y (zW y c maxL ret) rm (zPre D cI sz ws0 av) (zQv D sz ws0 post w1) 0 0 (va_A ws0 sz)
def zMr {S : Type} (l : Launch) (y : MethodName) (c : ByteArray) (maxL : Nat) (ret : Option FieldType) (rm : Room) (D : va_G) (cI : ClassId) (av : List Value) (ws0 : va_W) (ra : Nat) (post : S → Prop) (w1 : S → va_W) : Prop := ∀ sz : Nat, Met l y (zW y c maxL ret) rm (zPre D cI sz ws0 av) (zQr D sz ws0 ra post w1) 0 0 (va_A ws0 sz)
def zK (p : Program) (s : State) (m : MethodId) (args : Array Value) (meth : Method) (c : Code) (cc : ByteArray) (nL : Nat) (own : String) (ret : Option FieldType) (D : va_G) (cI : ClassId) : Prop :=
  p.tables.exec = Jvm.exec ∧ c.code = cc ∧ c.maxLocals = nL ∧ s.vm.findClass own = some m.cls ∧ (∀ w ∈ TT, w.before args s = true) ∧ zE D cI s ∧ meth.sig.returnType = ret ∧ meth.locks = false
theorem zW_good {y y' : MethodName} {c c' : ByteArray} {n n' : Nat} {r r' : Option FieldType} (h : Cond.code y c n r ∈ TT) : GoodIn (zW y' c' n' r') (zW y c n r) := by
  intro w hw
  rcases List.mem_cons.mp hw with e | e
  · subst e
    exact ⟨List.mem_cons_of_mem _ h, good_of_word (TT_good h).2⟩
  · exact ⟨List.mem_cons_of_mem _ e, good_of_word (TT_good e).2⟩
theorem TT_GoodIn {y : MethodName} {c : ByteArray} {n : Nat} {r : Option FieldType} (h : Cond.code y c n r ∈ TT) : GoodIn TT (zW y c n r) := by
  intro w hw
  rcases List.mem_cons.mp hw with e | e
  · subst e
    exact ⟨h, good_of_word (TT_good h).2⟩
  · exact ⟨e, good_of_word (TT_good e).2⟩
section Z1
variable {p : Program} {l : Launch} {e : Env} {R : Room} {s : State} {m : MethodId} {args : Array Value} {below : List Frame} {meth : Method} {c : Code} {H : Heap} {locs : List Loc} {cells slots : Nat} {Q : State → Prop}
variable {cc : ByteArray} {pc : Nat} {ls : Array Slot} {rest : List Value} {D : va_G} {cI : ClassId} {nL : Nat} {own : String} {ret : Option FieldType}
theorem zstart {y : MethodName} {rm : Room} {Pc : Array Value → State → Prop} {Qc : Array Value → State → Outcome → State → Prop} {mc ms : Nat} {free : Addr → Prop} {maxL : Nat} {ws0 : va_W} {sz : Nat} {av : List Value} (hPc : Pc = zPre D cI sz ws0 av) (hy : plainName y.cls = true) (hav : (lg_sl av).length ≤ maxL)
    (body : ∀ (p : Program) (e : Env) (s : State) (m : MethodId) (below : List Frame) (meth : Method) (c : Code) (ls : Array Slot), zK p s m av.toArray meth c cc maxL y.cls ret D cI → (y.name = "<init>" → meth.name = "<init>") → s.heap.size = sz → va_P D cls ws0 s.heap → va_D (va_A ws0 sz) ws0 → va_S (va_A ws0 sz) s.heap s.heap [] → lv_has ls maxL (lv_args 0 av) →
      W p l e rm s m av.toArray below meth c s.heap [] 0 0 (MQ below Qc av.toArray s mc ms free) (F0 m 0 ls [])) : Met l y (zW y cc maxL ret) rm Pc Qc mc ms free := by
  subst hPc
  refine Met.ofW (cc := cc) (maxL := maxL) (ret := ret) hy rfl ?_
  intro p e s m args below meth c s₁ B hml hv
  obtain ⟨rfl, hsz, hP, hE, hD0⟩ := hv
  have hts := atoms_spec (ws := zW y cc maxL ret) B.pre
  have hl := lv_entry av (n := maxL) hav
  rw [lg_entry_eq]
  refine body p e s m below meth c _ ⟨B.exec, B.bytes, hml, findClass_of_methodNamed B.named, fun w hw => hts w (List.mem_cons_of_mem _ hw), hE, B.returns, B.notSynchronized⟩ (fun h => ?_) hsz hP hD0.self va_S.rf hl
  rw [← h]
  exact (name_of_methodNamed B.named B.method).1
theorem zhA {ws0 : va_W} {sz : Nat} (h : s.heap.size = sz) : ∀ q : Nat, s.heap.size ≤ q → va_A ws0 sz q := fun q hq => Or.inr (by omega)
/-! arithmetic -/
theorem z_iadd (hx : p.tables.exec = Jvm.exec) (hb : c.code = cc) {a b : Int} (v : Int) (hv : a + b = v) (hdg : decode cc pc = .ok (.iadd, 1)) (k : W p l e R s m args below meth c H locs cells slots Q (F0 m (pc + 1) ls (.int (zI v) :: rest))) : W p l e R s m args below meth c H locs cells slots Q (F0 m pc ls (.int (zI b) :: .int (zI a) :: rest)) := by
  refine lv_iadd hx hb hdg ?_
  rw [zI_add, hv]; exact k
theorem z_isub (hx : p.tables.exec = Jvm.exec) (hb : c.code = cc) {a b : Int} (v : Int) (hv : a - b = v) (hdg : decode cc pc = .ok (.isub, 1)) (k : W p l e R s m args below meth c H locs cells slots Q (F0 m (pc + 1) ls (.int (zI v) :: rest))) : W p l e R s m args below meth c H locs cells slots Q (F0 m pc ls (.int (zI b) :: .int (zI a) :: rest)) := by
  refine lv_isub hx hb hdg ?_
  rw [zI_sub, hv]; exact k
theorem z_imul (hx : p.tables.exec = Jvm.exec) (hb : c.code = cc) {a b : Int} (v : Int) (hv : a * b = v) (hdg : decode cc pc = .ok (.imul, 1)) (k : W p l e R s m args below meth c H locs cells slots Q (F0 m (pc + 1) ls (.int (zI v) :: rest))) : W p l e R s m args below meth c H locs cells slots Q (F0 m pc ls (.int (zI b) :: .int (zI a) :: rest)) := by
  refine lv_imul hx hb hdg ?_
  rw [zI_mul, hv]; exact k
theorem zI_ne0 {b : Int} (hb : 0 < b ∧ b < 2147483648) : ¬ zI b = 0 := by
  intro h
  have h2 := (zI_eq (a := b) (b := 0) (by omega) (by omega)).mp h
  omega
theorem z_idiv (hx : p.tables.exec = Jvm.exec) (hb : c.code = cc) {a b : Int} (v : Int) (hr : (0 ≤ a ∧ a < 2147483648) ∧ (0 < b ∧ b < 2147483648)) (hv : a / b = v) (hdg : decode cc pc = .ok (.idiv, 1)) (k : W p l e R s m args below meth c H locs cells slots Q (F0 m (pc + 1) ls (.int (zI v) :: rest))) : W p l e R s m args below meth c H locs cells slots Q (F0 m pc ls (.int (zI b) :: .int (zI a) :: rest)) := by
  refine lv_idiv hx hb hdg (zI_ne0 hr.2) ?_
  rw [zI_div hr.1 hr.2, hv]; exact k
theorem z_irem (hx : p.tables.exec = Jvm.exec) (hb : c.code = cc) {a b : Int} (v : Int) (hr : (0 ≤ a ∧ a < 2147483648) ∧ (0 < b ∧ b < 2147483648)) (hv : a % b = v) (hdg : decode cc pc = .ok (.irem, 1)) (k : W p l e R s m args below meth c H locs cells slots Q (F0 m (pc + 1) ls (.int (zI v) :: rest))) : W p l e R s m args below meth c H locs cells slots Q (F0 m pc ls (.int (zI b) :: .int (zI a) :: rest)) := by
  refine lv_irem hx hb hdg (zI_ne0 hr.2) ?_
  rw [zI_rem hr.1 hr.2, hv]; exact k
theorem z_iinc (hx : p.tables.exec = Jvm.exec) (hb : c.code = cc) {i k : Nat} {n a : Int} {lv lv' : List (Nat × Value)} (v : Int) (hv : a + n = v) (hdg : decode cc pc = .ok (.iinc i n, 3)) (h : lv_has ls nL lv) (hk : lv[k]? = some (i, .int (zI a))) (hn : i < nL) (hl : (i, Value.int (zI v)) :: lv.filter (fun q => !(q.1 == i) && !(q.1 + 1 == i && q.2.category == 2)) = lv')
    (kk : ∀ ls' : Array Slot, lv_has ls' nL lv' → W p l e R s m args below meth c H locs cells slots Q (F0 m (pc + 3) ls' rest)) : W p l e R s m args below meth c H locs cells slots Q (F0 m pc ls rest) :=
  lv_iinc (v := zI v) hx hb hdg h hk (by rw [← hv]; exact zI_add a n) hn hl kk
end Z1
end
section
section Z2
variable {p : Program} {l : Launch} {e : Env} {R : Room} {s : State} {m : MethodId} {args : Array Value} {below : List Frame} {meth : Method} {c : Code} {H : Heap} {locs : List Loc} {cells slots : Nat} {Q : State → Prop}
variable {cc : ByteArray} {pc : Nat} {ls : Array Slot} {rest : List Value} {D : va_G} {cI : ClassId} {nL : Nat} {own : String} {ret : Option FieldType}
theorem z_icmp_eq (hx : p.tables.exec = Jvm.exec) (hb : c.code = cc) {a b : Int} {off : Int} {tgt : Nat} (hr : (-2147483648 ≤ a ∧ a < 2147483648) ∧ (-2147483648 ≤ b ∧ b < 2147483648)) (hdg : decode cc pc = .ok (.if_icmp .eq off, 3)) (ht : (pc : Int) + off = (tgt : Int)) (kt : a = b → W p l e R s m args below meth c H locs cells slots Q (F0 m tgt ls rest)) (kf : a ≠ b → W p l e R s m args below meth c H locs cells slots Q (F0 m (pc + 3) ls rest)) : W p l e R s m args below meth c H locs cells slots Q (F0 m pc ls (.int (zI b) :: .int (zI a) :: rest)) :=
  lv_icmp_eq hx hb hdg ht (fun h => kt ((zI_eq hr.1 hr.2).mp h)) (fun h => kf (fun h2 => h (by rw [h2])))
theorem z_if_eq (hx : p.tables.exec = Jvm.exec) (hb : c.code = cc) {a : Int} {off : Int} {tgt : Nat} (hr : -2147483648 ≤ a ∧ a < 2147483648) (hdg : decode cc pc = .ok (.ifCond .eq off, 3)) (ht : (pc : Int) + off = (tgt : Int)) (kt : a = 0 → W p l e R s m args below meth c H locs cells slots Q (F0 m tgt ls rest)) (kf : a ≠ 0 → W p l e R s m args below meth c H locs cells slots Q (F0 m (pc + 3) ls rest)) : W p l e R s m args below meth c H locs cells slots Q (F0 m pc ls (.int (zI a) :: rest)) := by
  have z0r : (-2147483648 : Int) ≤ 0 ∧ (0 : Int) < 2147483648 := by omega
  have e0 : (0 : Int32) = zI 0 := rfl
  refine lv_if_eq hx hb hdg ht (fun h => ?_) (fun h => ?_) <;> rw [e0] at h
  · exact kt ((zI_eq hr z0r).mp h)
  · exact kf (fun h2 => h (by rw [h2]))
theorem z_icmp_ne (hx : p.tables.exec = Jvm.exec) (hb : c.code = cc) {a b : Int} {off : Int} {tgt : Nat} (hr : (-2147483648 ≤ a ∧ a < 2147483648) ∧ (-2147483648 ≤ b ∧ b < 2147483648)) (hdg : decode cc pc = .ok (.if_icmp .ne off, 3)) (ht : (pc : Int) + off = (tgt : Int)) (kt : a ≠ b → W p l e R s m args below meth c H locs cells slots Q (F0 m tgt ls rest)) (kf : a = b → W p l e R s m args below meth c H locs cells slots Q (F0 m (pc + 3) ls rest)) : W p l e R s m args below meth c H locs cells slots Q (F0 m pc ls (.int (zI b) :: .int (zI a) :: rest)) :=
  lv_icmp_ne hx hb hdg ht (fun h => kt (fun h2 => h (by rw [h2]))) (fun h => kf ((zI_eq hr.1 hr.2).mp h))
theorem z_if_ne (hx : p.tables.exec = Jvm.exec) (hb : c.code = cc) {a : Int} {off : Int} {tgt : Nat} (hr : -2147483648 ≤ a ∧ a < 2147483648) (hdg : decode cc pc = .ok (.ifCond .ne off, 3)) (ht : (pc : Int) + off = (tgt : Int)) (kt : a ≠ 0 → W p l e R s m args below meth c H locs cells slots Q (F0 m tgt ls rest)) (kf : a = 0 → W p l e R s m args below meth c H locs cells slots Q (F0 m (pc + 3) ls rest)) : W p l e R s m args below meth c H locs cells slots Q (F0 m pc ls (.int (zI a) :: rest)) := by
  have z0r : (-2147483648 : Int) ≤ 0 ∧ (0 : Int) < 2147483648 := by omega
  have e0 : (0 : Int32) = zI 0 := rfl
  refine lv_if_ne hx hb hdg ht (fun h => ?_) (fun h => ?_) <;> rw [e0] at h
  · exact kt (fun h2 => h (by rw [h2]))
  · exact kf ((zI_eq hr z0r).mp h)
theorem z_icmp_lt (hx : p.tables.exec = Jvm.exec) (hb : c.code = cc) {a b : Int} {off : Int} {tgt : Nat} (hr : (-2147483648 ≤ a ∧ a < 2147483648) ∧ (-2147483648 ≤ b ∧ b < 2147483648)) (hdg : decode cc pc = .ok (.if_icmp .lt off, 3)) (ht : (pc : Int) + off = (tgt : Int)) (kt : a < b → W p l e R s m args below meth c H locs cells slots Q (F0 m tgt ls rest)) (kf : b ≤ a → W p l e R s m args below meth c H locs cells slots Q (F0 m (pc + 3) ls rest)) : W p l e R s m args below meth c H locs cells slots Q (F0 m pc ls (.int (zI b) :: .int (zI a) :: rest)) :=
  lv_icmp_lt hx hb hdg ht (fun h => kt ((zI_lt hr.1 hr.2).mp h)) (fun h => kf (Int.not_lt.mp (fun h2 => h ((zI_lt hr.1 hr.2).mpr h2))))
theorem z_if_lt (hx : p.tables.exec = Jvm.exec) (hb : c.code = cc) {a : Int} {off : Int} {tgt : Nat} (hr : -2147483648 ≤ a ∧ a < 2147483648) (hdg : decode cc pc = .ok (.ifCond .lt off, 3)) (ht : (pc : Int) + off = (tgt : Int)) (kt : a < 0 → W p l e R s m args below meth c H locs cells slots Q (F0 m tgt ls rest)) (kf : 0 ≤ a → W p l e R s m args below meth c H locs cells slots Q (F0 m (pc + 3) ls rest)) : W p l e R s m args below meth c H locs cells slots Q (F0 m pc ls (.int (zI a) :: rest)) := by
  have z0r : (-2147483648 : Int) ≤ 0 ∧ (0 : Int) < 2147483648 := by omega
  have e0 : (0 : Int32) = zI 0 := rfl
  refine lv_if_lt hx hb hdg ht (fun h => ?_) (fun h => ?_) <;> rw [e0] at h
  · exact kt ((zI_lt hr z0r).mp h)
  · exact kf (Int.not_lt.mp (fun h2 => h ((zI_lt hr z0r).mpr h2)))
theorem z_icmp_ge (hx : p.tables.exec = Jvm.exec) (hb : c.code = cc) {a b : Int} {off : Int} {tgt : Nat} (hr : (-2147483648 ≤ a ∧ a < 2147483648) ∧ (-2147483648 ≤ b ∧ b < 2147483648)) (hdg : decode cc pc = .ok (.if_icmp .ge off, 3)) (ht : (pc : Int) + off = (tgt : Int)) (kt : b ≤ a → W p l e R s m args below meth c H locs cells slots Q (F0 m tgt ls rest)) (kf : a < b → W p l e R s m args below meth c H locs cells slots Q (F0 m (pc + 3) ls rest)) : W p l e R s m args below meth c H locs cells slots Q (F0 m pc ls (.int (zI b) :: .int (zI a) :: rest)) :=
  lv_icmp_ge hx hb hdg ht (fun h => kt ((zI_le hr.2 hr.1).mp h)) (fun h => kf (Int.not_le.mp (fun h2 => h ((zI_le hr.2 hr.1).mpr h2))))
theorem z_if_ge (hx : p.tables.exec = Jvm.exec) (hb : c.code = cc) {a : Int} {off : Int} {tgt : Nat} (hr : -2147483648 ≤ a ∧ a < 2147483648) (hdg : decode cc pc = .ok (.ifCond .ge off, 3)) (ht : (pc : Int) + off = (tgt : Int)) (kt : 0 ≤ a → W p l e R s m args below meth c H locs cells slots Q (F0 m tgt ls rest)) (kf : a < 0 → W p l e R s m args below meth c H locs cells slots Q (F0 m (pc + 3) ls rest)) : W p l e R s m args below meth c H locs cells slots Q (F0 m pc ls (.int (zI a) :: rest)) := by
  have z0r : (-2147483648 : Int) ≤ 0 ∧ (0 : Int) < 2147483648 := by omega
  have e0 : (0 : Int32) = zI 0 := rfl
  refine lv_if_ge hx hb hdg ht (fun h => ?_) (fun h => ?_) <;> rw [e0] at h
  · exact kt ((zI_le z0r hr).mp h)
  · exact kf (Int.not_le.mp (fun h2 => h ((zI_le z0r hr).mpr h2)))
theorem z_icmp_gt (hx : p.tables.exec = Jvm.exec) (hb : c.code = cc) {a b : Int} {off : Int} {tgt : Nat} (hr : (-2147483648 ≤ a ∧ a < 2147483648) ∧ (-2147483648 ≤ b ∧ b < 2147483648)) (hdg : decode cc pc = .ok (.if_icmp .gt off, 3)) (ht : (pc : Int) + off = (tgt : Int)) (kt : b < a → W p l e R s m args below meth c H locs cells slots Q (F0 m tgt ls rest)) (kf : a ≤ b → W p l e R s m args below meth c H locs cells slots Q (F0 m (pc + 3) ls rest)) : W p l e R s m args below meth c H locs cells slots Q (F0 m pc ls (.int (zI b) :: .int (zI a) :: rest)) :=
  lv_icmp_gt hx hb hdg ht (fun h => kt ((zI_lt hr.2 hr.1).mp h)) (fun h => kf (Int.not_lt.mp (fun h2 => h ((zI_lt hr.2 hr.1).mpr h2))))
theorem z_if_gt (hx : p.tables.exec = Jvm.exec) (hb : c.code = cc) {a : Int} {off : Int} {tgt : Nat} (hr : -2147483648 ≤ a ∧ a < 2147483648) (hdg : decode cc pc = .ok (.ifCond .gt off, 3)) (ht : (pc : Int) + off = (tgt : Int)) (kt : 0 < a → W p l e R s m args below meth c H locs cells slots Q (F0 m tgt ls rest)) (kf : a ≤ 0 → W p l e R s m args below meth c H locs cells slots Q (F0 m (pc + 3) ls rest)) : W p l e R s m args below meth c H locs cells slots Q (F0 m pc ls (.int (zI a) :: rest)) := by
  have z0r : (-2147483648 : Int) ≤ 0 ∧ (0 : Int) < 2147483648 := by omega
  have e0 : (0 : Int32) = zI 0 := rfl
  refine lv_if_gt hx hb hdg ht (fun h => ?_) (fun h => ?_) <;> rw [e0] at h
  · exact kt ((zI_lt z0r hr).mp h)
  · exact kf (Int.not_lt.mp (fun h2 => h ((zI_lt z0r hr).mpr h2)))
theorem z_icmp_le (hx : p.tables.exec = Jvm.exec) (hb : c.code = cc) {a b : Int} {off : Int} {tgt : Nat} (hr : (-2147483648 ≤ a ∧ a < 2147483648) ∧ (-2147483648 ≤ b ∧ b < 2147483648)) (hdg : decode cc pc = .ok (.if_icmp .le off, 3)) (ht : (pc : Int) + off = (tgt : Int)) (kt : a ≤ b → W p l e R s m args below meth c H locs cells slots Q (F0 m tgt ls rest)) (kf : b < a → W p l e R s m args below meth c H locs cells slots Q (F0 m (pc + 3) ls rest)) : W p l e R s m args below meth c H locs cells slots Q (F0 m pc ls (.int (zI b) :: .int (zI a) :: rest)) :=
  lv_icmp_le hx hb hdg ht (fun h => kt ((zI_le hr.1 hr.2).mp h)) (fun h => kf (Int.not_le.mp (fun h2 => h ((zI_le hr.1 hr.2).mpr h2))))
theorem z_if_le (hx : p.tables.exec = Jvm.exec) (hb : c.code = cc) {a : Int} {off : Int} {tgt : Nat} (hr : -2147483648 ≤ a ∧ a < 2147483648) (hdg : decode cc pc = .ok (.ifCond .le off, 3)) (ht : (pc : Int) + off = (tgt : Int)) (kt : a ≤ 0 → W p l e R s m args below meth c H locs cells slots Q (F0 m tgt ls rest)) (kf : 0 < a → W p l e R s m args below meth c H locs cells slots Q (F0 m (pc + 3) ls rest)) : W p l e R s m args below meth c H locs cells slots Q (F0 m pc ls (.int (zI a) :: rest)) := by
  have z0r : (-2147483648 : Int) ≤ 0 ∧ (0 : Int) < 2147483648 := by omega
  have e0 : (0 : Int32) = zI 0 := rfl
  refine lv_if_le hx hb hdg ht (fun h => ?_) (fun h => ?_) <;> rw [e0] at h
  · exact kt ((zI_le hr z0r).mp h)
  · exact kf (Int.not_le.mp (fun h2 => h ((zI_le hr z0r).mpr h2)))
/-! arrays -/
theorem z_iald (hx : p.tables.exec = Jvm.exec) (hb : c.code = cc) (hE : zE D cI s) {ws : va_W} (hP : va_P D cls ws H) (q0 : Nat) {a n : Nat} {g : Nat → Int} (ha : ws[q0]? = some (a, .inl (cI, n, .inl (zA g)))) {z : Int} (i : Nat) (hz : z = (i : Int)) (hi : i < n) (hn : n < 2147483648) (v : Int) (hv : g i = v) (hdg : decode cc pc = .ok (.iaload, 1))
    (k : W p l e R s m args below meth c H locs cells slots Q (F0 m (pc + 1) ls (.int (zI v) :: rest))) : W p l e R s m args below meth c H locs cells slots Q (F0 m pc ls (.int (zI z) :: .ref a :: rest)) := by
  subst hz
  refine va_iald hx hb hE.1 hP q0 0 ha rfl (zI_in hi hn) hdg ?_
  rw [zI_clamp (by omega)]
  show W p l e R s m args below meth c H locs cells slots Q (F0 m (pc + 1) ls (.int (zI (g i)) :: rest))
  rw [hv]; exact k
theorem z_iast (hx : p.tables.exec = Jvm.exec) (hb : c.code = cc) (hE : zE D cI s) {ws : va_W} {A : Nat → Prop} {H0 : Heap} (hP : va_P D cls ws H) (hD : va_D A ws) (hS : va_S A H0 H locs) (q0 : Nat) {a n : Nat} {g : Nat → Int} (ha : ws[q0]? = some (a, .inl (cI, n, .inl (zA g)))) {z v : Int} (i : Nat) (hz : z = (i : Int)) (hi : i < n) (hn : n < 2147483648) (g' : Nat → Int) (hg : zup g i v = g') (hdg : decode cc pc = .ok (.iastore, 1))
    (kk : ∀ (H1 : Heap) (locs1 : List Loc), va_P D cls (ws.set q0 (a, .inl (cI, n, .inl (zA g')))) H1 → va_D A (ws.set q0 (a, .inl (cI, n, .inl (zA g')))) → va_S A H0 H1 locs1 → W p l e R s m args below meth c H1 locs1 cells slots Q (F0 m (pc + 1) ls rest)) : W p l e R s m args below meth c H locs cells slots Q (F0 m pc ls (.int (zI v) :: .int (zI z) :: .ref a :: rest)) := by
  subst hz
  subst hg
  refine va_iast hx hb hE.1 hP hD hS q0 0 ha rfl (zI_in hi hn) hdg fun H1 locs1 h1 h2 h3 => ?_
  rw [zI_clamp (by omega), zA_up] at h1 h2
  exact kk H1 locs1 h1 h2 h3
theorem z_alen (hx : p.tables.exec = Jvm.exec) (hb : c.code = cc) (hE : zE D cI s) {ws : va_W} (hP : va_P D cls ws H) (q0 : Nat) {a n : Nat} {f : Nat → Int32} (ha : ws[q0]? = some (a, .inl (cI, n, .inl f))) (hdg : decode cc pc = .ok (.arraylength, 1))
    (k : W p l e R s m args below meth c H locs cells slots Q (F0 m (pc + 1) ls (.int (zI (n : Int)) :: rest))) : W p l e R s m args below meth c H locs cells slots Q (F0 m pc ls (.ref a :: rest)) :=
  va_alen hx hb hE.1 hP q0 0 ha (ty := .int) rfl (v := zI (n : Int)) (by rw [zI_nat]; rfl) hdg k
/-! longs -/
theorem z_i2l (hx : p.tables.exec = Jvm.exec) (hb : c.code = cc) {a : Int} (hr : -2147483648 ≤ a ∧ a < 2147483648) (hdg : decode cc pc = .ok (.i2l, 1)) (k : W p l e R s m args below meth c H locs cells slots Q (F0 m (pc + 1) ls (.long (zL a) :: rest))) : W p l e R s m args below meth c H locs cells slots Q (F0 m pc ls (.int (zI a) :: rest)) :=
  lv_i2l hx hb hdg (zL_i hr) k
theorem z_ladd (hx : p.tables.exec = Jvm.exec) (hb : c.code = cc) {a b : Int} (v : Int) (hv : a + b = v) (hdg : decode cc pc = .ok (.ladd, 1)) (k : W p l e R s m args below meth c H locs cells slots Q (F0 m (pc + 1) ls (.long (zL v) :: rest))) : W p l e R s m args below meth c H locs cells slots Q (F0 m pc ls (.long (zL b) :: .long (zL a) :: rest)) := by
  refine lv_ladd hx hb hdg ?_
  rw [zL_add, hv]; exact k
theorem z_lmul (hx : p.tables.exec = Jvm.exec) (hb : c.code = cc) {a b : Int} (v : Int) (hv : a * b = v) (hdg : decode cc pc = .ok (.lmul, 1)) (k : W p l e R s m args below meth c H locs cells slots Q (F0 m (pc + 1) ls (.long (zL v) :: rest))) : W p l e R s m args below meth c H locs cells slots Q (F0 m pc ls (.long (zL b) :: .long (zL a) :: rest)) := by
  refine lv_lmul hx hb hdg ?_
  rw [zL_mul, hv]; exact k
theorem z_lcmp (hx : p.tables.exec = Jvm.exec) (hb : c.code = cc) {a b : Int} (hr : (-9223372036854775808 ≤ a ∧ a < 9223372036854775808) ∧ (-9223372036854775808 ≤ b ∧ b < 9223372036854775808)) (hdg : decode cc pc = .ok (.lcmp, 1)) (k : ∀ v : Int, (v = 1 ∧ b < a ∨ v = 0 ∧ a = b ∨ v = -1 ∧ a < b) → W p l e R s m args below meth c H locs cells slots Q (F0 m (pc + 1) ls (.int (zI v) :: rest))) : W p l e R s m args below meth c H locs cells slots Q (F0 m pc ls (.long (zL b) :: .long (zL a) :: rest)) := by
  refine W.lcmp hx hb hdg ?_
  have e1 := zL_lt hr.2 hr.1
  have e2 := zL_eq hr.1 hr.2
  rcases Int.lt_trichotomy a b with h | h | h
  · have h1 : ¬ zL b < zL a := fun h3 => by have := e1.mp h3; omega
    have h2 : ¬ zL a = zL b := fun h3 => by have := e2.mp h3; omega
    have e3 : lg_cmp (zL a) (zL b) = zI (-1) := by simp [lg_cmp, h1, h2]; rfl
    rw [e3]; exact k (-1) (by omega)
  · have h1 : ¬ zL b < zL a := fun h3 => by have := e1.mp h3; omega
    have e3 : lg_cmp (zL a) (zL b) = zI 0 := by simp [lg_cmp, h1, h]; rfl
    rw [e3]; exact k 0 (by omega)
  · have e3 : lg_cmp (zL a) (zL b) = zI 1 := by simp [lg_cmp, e1.mpr h]; rfl
    rw [e3]; exact k 1 (by omega)
/-! returns -/
theorem z_iret (hK : zK p s m args meth c cc nL own (some .int) D cI) {S : Type} {ws0 : va_W} {sz : Nat} {post : Int → S → Prop} {w1 : S → va_W} (hS : va_S (va_A ws0 sz) s.heap H locs) {z : Int} (u : S) (hp : post z u) (hP : va_P D cls (w1 u) H) (hD : va_D (va_A ws0 sz) (w1 u)) (hdg : decode cc pc = .ok (.ireturn, 1)) : W p l e R s m args below meth c H locs cells slots (MQ below (zQi D sz ws0 post w1) args s cells slots (va_A ws0 sz)) (F0 m pc ls [.int (zI z)]) := by
  obtain ⟨hx, hb, _, _, _, _, hr, hlocks⟩ := hK
  exact W.iret hx hb hr (fun t ht hW => ⟨⟨zI z, u, rfl, ⟨z, rfl, hp⟩, by rw [← ht] at hP; exact hP, hD⟩, hS.F ht⟩) hS.2.2 hdg
theorem z_bret (hK : zK p s m args meth c cc nL own (some .boolean) D cI) {S : Type} {ws0 : va_W} {sz : Nat} {post : Int → S → Prop} {w1 : S → va_W} (hS : va_S (va_A ws0 sz) s.heap H locs) {z : Int} (u : S) (hp : post z u) (hz : z = 0 ∨ z = 1) (hP : va_P D cls (w1 u) H) (hD : va_D (va_A ws0 sz) (w1 u)) (hdg : decode cc pc = .ok (.ireturn, 1)) : W p l e R s m args below meth c H locs cells slots (MQ below (zQi D sz ws0 post w1) args s cells slots (va_A ws0 sz)) (F0 m pc ls [.int (zI z)]) := by
  obtain ⟨hx, hb, _, _, _, _, hr, hlocks⟩ := hK
  exact W.zret hx hb hr (by rcases hz with rfl | rfl <;> decide) (fun t ht hW => ⟨⟨zI z, u, rfl, ⟨z, rfl, hp⟩, by rw [← ht] at hP; exact hP, hD⟩, hS.F ht⟩) hS.2.2 hdg
theorem z_lret (hK : zK p s m args meth c cc nL own (some .long) D cI) {S : Type} {ws0 : va_W} {sz : Nat} {post : Int → S → Prop} {w1 : S → va_W} (hS : va_S (va_A ws0 sz) s.heap H locs) {z : Int} (u : S) (hp : post z u) (hP : va_P D cls (w1 u) H) (hD : va_D (va_A ws0 sz) (w1 u)) (hdg : decode cc pc = .ok (.lreturn, 1)) : W p l e R s m args below meth c H locs cells slots (MQ below (zQl D sz ws0 post w1) args s cells slots (va_A ws0 sz)) (F0 m pc ls [.long (zL z)]) := by
  obtain ⟨hx, hb, _, _, _, _, hr, hlocks⟩ := hK
  exact W.lret hx hb hr (fun t ht hW => ⟨⟨zL z, u, rfl, ⟨z, rfl, hp⟩, by rw [← ht] at hP; exact hP, hD⟩, hS.F ht⟩) hS.2.2 hdg
theorem z_vret (hK : zK p s m args meth c cc nL own none D cI) {S : Type} {ws0 : va_W} {sz : Nat} {post : S → Prop} {w1 : S → va_W} (hS : va_S (va_A ws0 sz) s.heap H locs) (u : S) (hp : post u) (hP : va_P D cls (w1 u) H) (hD : va_D (va_A ws0 sz) (w1 u)) (hdg : decode cc pc = .ok (.return_, 1)) : W p l e R s m args below meth c H locs cells slots (MQ below (zQv D sz ws0 post w1) args s cells slots (va_A ws0 sz)) (F0 m pc ls []) := by
  obtain ⟨hx, hb, _, _, _, _, hr, hlocks⟩ := hK
  exact W.vret hx hb hr (fun t ht hW => ⟨⟨u, rfl, hp, by rw [← ht] at hP; exact hP, hD⟩, hS.F ht⟩) hS.2.2 hdg
theorem z_aret {C : String} (hK : zK p s m args meth c cc nL own (some (.object C)) D cI) {S : Type} {ws0 : va_W} {sz : Nat} {ra : Nat} {post : S → Prop} {w1 : S → va_W} (hS : va_S (va_A ws0 sz) s.heap H locs) (u : S) (hp : post u) (hP : va_P D cls (w1 u) H) (hD : va_D (va_A ws0 sz) (w1 u)) (hdg : decode cc pc = .ok (.areturn, 1)) : W p l e R s m args below meth c H locs cells slots (MQ below (zQr D sz ws0 ra post w1) args s cells slots (va_A ws0 sz)) (F0 m pc ls [.ref ra]) := by
  obtain ⟨hx, hb, _, _, _, _, hr, hlocks⟩ := hK
  exact W.aret hx hb hr (Or.inl ⟨_, rfl⟩) (Or.inr ⟨_, rfl⟩) (fun t ht hW => ⟨⟨u, ra, rfl, hp, rfl, by rw [← ht] at hP; exact hP, hD⟩, hS.F ht⟩) hS.2.2 hdg
/-! calls: of a method's words -/
def zYv (C : String) (y : MethodName) (bytes : ByteArray) (maxL : Nat) (ret : Option FieldType) (n : Nat) : Prop := Cond.code y bytes maxL ret ∈ TT ∧ Cond.instanceMethod y ∈ TT ∧ Cond.selects C y y ∈ TT ∧ Cond.initialized y.cls ∈ TT ∧ (y.cls ≠ "java/lang/invoke/MethodHandle" ∧ y.cls ≠ "java/lang/invoke/VarHandle" ∧ (parseMethodDescriptor y.desc).map (fun d => d.parameters.length) = some n)
def zYs (y : MethodName) (bytes : ByteArray) (maxL : Nat) (ret : Option FieldType) (n : Nat) : Prop := Cond.code y bytes maxL ret ∈ TT ∧ Cond.static y ∈ TT ∧ Cond.initialized y.cls ∈ TT ∧ (y.cls ≠ "java/lang/invoke/MethodHandle" ∧ y.cls ≠ "java/lang/invoke/VarHandle" ∧ (parseMethodDescriptor y.desc).map (fun d => d.parameters.length) = some n)
def zYi (y : MethodName) (bytes : ByteArray) (maxL : Nat) (n : Nat) : Prop := Cond.code y bytes maxL none ∈ TT ∧ Cond.instanceMethod y ∈ TT ∧ Cond.initialized y.cls ∈ TT ∧ y.name = "<init>" ∧ (y.cls ≠ "java/lang/invoke/MethodHandle" ∧ y.cls ≠ "java/lang/invoke/VarHandle" ∧ (parseMethodDescriptor y.desc).map (fun d => d.parameters.length) = some n)
/-- the callee's start: its cells out of the caller's -/
theorem zpre {wc : va_W} {av : List Value} {A : Nat → Prop} (hE : zE D cI s) (hPc : va_P D cls wc H) (hDc : va_D A wc) : PreS s H (zPre D cI H.size wc av) av :=
  ⟨zPre_blind _ _ _ _ _, fun U hU hW => ⟨rfl, by rw [hU], by rw [hU]; exact hPc, zE.warm hW hE, hDc.weaken (fun _ _ _ _ => trivial)⟩⟩
abbrev zRoom (R rm : Room) (maxL : Nat) : Prop := (rm.cells = 0 ∧ rm.slots = 0) ∧ (rm.frames + 1 ≤ R.frames ∧ 8 + (maxL + 11) + rm.locals ≤ R.locals)
theorem zrunV {y : MethodName} {bytes : ByteArray} {maxL n index q0 ci : Nat} {rt : Option FieldType} {rm : Room} {C : String} {T : u_T} {N : Nat} {fs : List Value} {b : Addr} {As : List Value} {wc : va_W} {Qc : Array Value → State → Outcome → State → Prop} {A : Nat → Prop} {st : List Value}
    (hK : zK p s m args meth c cc nL own ret D cI) (hY : zYv C y bytes maxL rt n) (hl : Cond.methodLink own index y ∈ TT) (hR : zRoom R rm maxL) (hcl : cls[ci]? = some (C, T, N)) (hq : wc[q0]? = some (b, .inr (ci, fs))) (hPc : va_P D cls wc H) (hDc : va_D A wc)
    (hM : Met l y (zW y bytes maxL rt) rm (zPre D cI H.size wc (.ref b :: As)) Qc 0 0 (va_A wc H.size)) (hn : As.length = n) (hsz : ls.size = nL) (hst : st = As.reverse ++ .ref b :: rest) (hW : (rest.map fun v => v.category).sum ≤ 8) (hdg : decode cc pc = .ok (.invokevirtual index, 3)) (hf : cells ≤ R.cells ∧ slots ≤ R.slots) :
    va_Run p l e R s m args below meth c H locs cells slots 0 0 (F0 m pc ls st) rest (Qc (Value.ref b :: As).toArray) (va_A wc H.size) := by
  obtain ⟨hx, hb, hml, hown, hts, hE, hr, hlocks⟩ := hK
  obtain ⟨hc, hin, hsel, hini, hd⟩ := hY
  have hb1 := callB_of (R := R) (rm := rm) (ws := zW y bytes maxL rt) (ws' := TT) n hts (TT_GoodIn hc) rfl hR.1.1 hR.1.2 (hts _ hini) (hts _ hl) hd hR.2
  exact va_runV ⟨hx, hb, hml, hown, hts⟩ hM ⟨hb1, hts _ hin, hts _ hsel⟩ ⟨(zpre hE hPc hDc).1, va_recv hE.1 hPc hcl hq, (zpre hE hPc hDc).2⟩ rfl hn hsz hst (lv_room (m := m) (pc := pc) (ls := ls) (rest := st) hW) hdg hf
theorem zrunVN {y : MethodName} {bytes : ByteArray} {maxL n index q0 ci : Nat} {rt : Option FieldType} {rm : Room} {C host : String} {T : u_T} {N : Nat} {fs : List Value} {b : Addr} {As : List Value} {wc : va_W} {Qc : Array Value → State → Outcome → State → Prop} {A : Nat → Prop} {st : List Value}
    (hK : zK p s m args meth c cc nL own ret D cI) (hY : zYv C y bytes maxL rt n) (hl : Cond.methodLinkNest own index y host ∈ tables_1) (hR : zRoom R rm maxL) (hcl : cls[ci]? = some (C, T, N)) (hq : wc[q0]? = some (b, .inr (ci, fs))) (hPc : va_P D cls wc H) (hDc : va_D A wc)
    (hM : Met l y (zW y bytes maxL rt) rm (zPre D cI H.size wc (.ref b :: As)) Qc 0 0 (va_A wc H.size)) (hn : As.length = n) (hsz : ls.size = nL) (hst : st = As.reverse ++ .ref b :: rest) (hW : (rest.map fun v => v.category).sum ≤ 8) (hdg : decode cc pc = .ok (.invokevirtual index, 3)) (hf : cells ≤ R.cells ∧ slots ≤ R.slots) :
    va_Run p l e R s m args below meth c H locs cells slots 0 0 (F0 m pc ls st) rest (Qc (Value.ref b :: As).toArray) (va_A wc H.size) := by
  obtain ⟨hx, hb, hml, hown, hts, hE, hr, hlocks⟩ := hK
  obtain ⟨hc, hin, hsel, hini, hd⟩ := hY
  have hb1 := va_cnB (R := R) (rm := rm) (ws := zW y bytes maxL rt) (ws' := TT) n hts (TT_GoodIn hc) rfl hR.1.1 hR.1.2 (hE.2 _ hl rfl) (hts _ hini) hd hR.2
  exact va_runVN ⟨hx, hb, hml, hown, hts⟩ hM ⟨hb1, hts _ hin, hts _ hsel⟩ ⟨(zpre hE hPc hDc).1, va_recv hE.1 hPc hcl hq, (zpre hE hPc hDc).2⟩ rfl hn hsz hst (lv_room (m := m) (pc := pc) (ls := ls) (rest := st) hW) hdg hf
theorem zrunS {y : MethodName} {bytes : ByteArray} {maxL n index : Nat} {rt : Option FieldType} {rm : Room} {As : List Value} {wc : va_W} {Qc : Array Value → State → Outcome → State → Prop} {A : Nat → Prop} {st : List Value}
    (hK : zK p s m args meth c cc nL own ret D cI) (hY : zYs y bytes maxL rt n) (hl : Cond.methodLink own index y ∈ TT) (hR : zRoom R rm maxL) (hPc : va_P D cls wc H) (hDc : va_D A wc)
    (hM : Met l y (zW y bytes maxL rt) rm (zPre D cI H.size wc As) Qc 0 0 (va_A wc H.size)) (hn : As.length = n) (hsz : ls.size = nL) (hst : st = As.reverse ++ rest) (hW : (rest.map fun v => v.category).sum ≤ 8) (hdg : decode cc pc = .ok (.invokestatic index, 3)) (hf : cells ≤ R.cells ∧ slots ≤ R.slots) :
    va_Run p l e R s m args below meth c H locs cells slots 0 0 (F0 m pc ls st) rest (Qc As.toArray) (va_A wc H.size) := by
  obtain ⟨hx, hb, hml, hown, hts, hE, hr, hlocks⟩ := hK
  obtain ⟨hc, hstt, hini, hd⟩ := hY
  have hb1 := callB_of (R := R) (rm := rm) (ws := zW y bytes maxL rt) (ws' := TT) n hts (TT_GoodIn hc) rfl hR.1.1 hR.1.2 (hts _ hini) (hts _ hl) hd hR.2
  exact va_runS ⟨hx, hb, hml, hown, hts⟩ hM ⟨hb1, hts _ hstt⟩ (zpre hE hPc hDc) rfl hn hsz hst (lv_room (m := m) (pc := pc) (ls := ls) (rest := st) hW) hdg hf
theorem zrunSN {y : MethodName} {bytes : ByteArray} {maxL n index : Nat} {rt : Option FieldType} {rm : Room} {host : String} {As : List Value} {wc : va_W} {Qc : Array Value → State → Outcome → State → Prop} {A : Nat → Prop} {st : List Value}
    (hK : zK p s m args meth c cc nL own ret D cI) (hY : zYs y bytes maxL rt n) (hl : Cond.methodLinkNest own index y host ∈ tables_1) (hR : zRoom R rm maxL) (hPc : va_P D cls wc H) (hDc : va_D A wc)
    (hM : Met l y (zW y bytes maxL rt) rm (zPre D cI H.size wc As) Qc 0 0 (va_A wc H.size)) (hn : As.length = n) (hsz : ls.size = nL) (hst : st = As.reverse ++ rest) (hW : (rest.map fun v => v.category).sum ≤ 8) (hdg : decode cc pc = .ok (.invokestatic index, 3)) (hf : cells ≤ R.cells ∧ slots ≤ R.slots) :
    va_Run p l e R s m args below meth c H locs cells slots 0 0 (F0 m pc ls st) rest (Qc As.toArray) (va_A wc H.size) := by
  obtain ⟨hx, hb, hml, hown, hts, hE, hr, hlocks⟩ := hK
  obtain ⟨hc, hstt, hini, hd⟩ := hY
  have hb1 := va_cnB (R := R) (rm := rm) (ws := zW y bytes maxL rt) (ws' := TT) n hts (TT_GoodIn hc) rfl hR.1.1 hR.1.2 (hE.2 _ hl rfl) (hts _ hini) hd hR.2
  exact va_runSN ⟨hx, hb, hml, hown, hts⟩ hM ⟨hb1, hts _ hstt, trivial⟩ (zpre hE hPc hDc) rfl hn hsz hst (lv_room (m := m) (pc := pc) (ls := ls) (rest := st) hW) hdg hf
/-- the places of a part -/
abbrev zSel (is : List Nat) (ws w : va_W) : Prop := is.map (fun i => ws[i]?) = w.map some
theorem zSel_P {is : List Nat} {ws w : va_W} (hP : va_P D cls ws H) (h : zSel is ws w) : va_P D cls w H := by
  intro k q hk
  have h1 : (is.map (fun i => ws[i]?))[k]? = some (some q) := by rw [h, List.getElem?_map, hk]; rfl
  rw [List.getElem?_map] at h1
  cases hi : is[k]? with
  | none => rw [hi] at h1; cases h1
  | some i => rw [hi] at h1; exact hP i q (Option.some.inj h1)
theorem zcall_i {S : Type} {ws wc wr : va_W} {A : Nat → Prop} {post : Int → S → Prop} {w1 : S → va_W} {st : List Value} {av : Array Value} (hE : zE D cI s) (hP : va_P D cls ws H) (hD : va_D A ws) (hS : va_S A s.heap H locs) (hA : ∀ q : Nat, s.heap.size ≤ q → A q) (isC isR is2 : List Nat) (hC : zSel isC ws wc) (hR : zSel isR ws wr) (hn : va_nd isR = true) (hdis : ∀ i ∈ isR, i ∉ isC) (hn2 : va_nd is2 = true) (ws' : S → va_W) (h2 : ∀ u, zSel is2 (wr ++ w1 u) (ws' u))
    (hrun : va_P D cls wc H → va_D (va_A wc H.size) wc → va_Run p l e R s m args below meth c H locs cells slots 0 0 (F0 m pc ls st) rest (zQi D H.size wc post w1 av) (va_A wc H.size)) (hnC : va_nd isC = true)
    (kk : ∀ (z : Int) (u : S) (H1 : Heap) (locs1 : List Loc), post z u → va_P D cls (ws' u) H1 → va_D A (ws' u) → va_S A s.heap H1 locs1 → W p l e R s m args below meth c H1 locs1 cells slots Q (F0 m (pc + 3) ls (.int (zI z) :: rest))) : W p l e R s m args below meth c H locs cells slots Q (F0 m pc ls st) := by
  have hF := va_free hD hS hA isC hC
  have hPc := zSel_P hP hC
  have hDc := hD.sub isC hnC hC
  refine va_calli (hrun hPc hDc.self) hS (fun q _ h => hF q h) hF (fun r u t H1 locs1 ht hvm hw hB hz1 hk1 hS1 => ?_)
  obtain ⟨z, rfl, hpost⟩ := hw
  obtain ⟨hP1, hD1⟩ := hB
  rw [ht] at hP1
  obtain ⟨hP2, hD2⟩ := va_join hP hD isC isR hC hR hn hdis hk1 hF hP1 hD1
  exact kk z u H1 locs1 hpost (zSel_P hP2 (h2 u)) (hD2.sub is2 hn2 (h2 u)) hS1
theorem zcall_l {S : Type} {ws wc wr : va_W} {A : Nat → Prop} {post : Int → S → Prop} {w1 : S → va_W} {st : List Value} {av : Array Value} (hE : zE D cI s) (hP : va_P D cls ws H) (hD : va_D A ws) (hS : va_S A s.heap H locs) (hA : ∀ q : Nat, s.heap.size ≤ q → A q) (isC isR is2 : List Nat) (hC : zSel isC ws wc) (hR : zSel isR ws wr) (hn : va_nd isR = true) (hdis : ∀ i ∈ isR, i ∉ isC) (hn2 : va_nd is2 = true) (ws' : S → va_W) (h2 : ∀ u, zSel is2 (wr ++ w1 u) (ws' u))
    (hrun : va_P D cls wc H → va_D (va_A wc H.size) wc → va_Run p l e R s m args below meth c H locs cells slots 0 0 (F0 m pc ls st) rest (zQl D H.size wc post w1 av) (va_A wc H.size)) (hnC : va_nd isC = true)
    (kk : ∀ (z : Int) (u : S) (H1 : Heap) (locs1 : List Loc), post z u → va_P D cls (ws' u) H1 → va_D A (ws' u) → va_S A s.heap H1 locs1 → W p l e R s m args below meth c H1 locs1 cells slots Q (F0 m (pc + 3) ls (.long (zL z) :: rest))) : W p l e R s m args below meth c H locs cells slots Q (F0 m pc ls st) := by
  have hF := va_free hD hS hA isC hC
  have hPc := zSel_P hP hC
  have hDc := hD.sub isC hnC hC
  refine va_calll (hrun hPc hDc.self) hS (fun q _ h => hF q h) hF (fun r u t H1 locs1 ht hvm hw hB hz1 hk1 hS1 => ?_)
  obtain ⟨z, rfl, hpost⟩ := hw
  obtain ⟨hP1, hD1⟩ := hB
  rw [ht] at hP1
  obtain ⟨hP2, hD2⟩ := va_join hP hD isC isR hC hR hn hdis hk1 hF hP1 hD1
  exact kk z u H1 locs1 hpost (zSel_P hP2 (h2 u)) (hD2.sub is2 hn2 (h2 u)) hS1
theorem zcall_v {S : Type} {ws wc wr : va_W} {A : Nat → Prop} {post : S → Prop} {w1 : S → va_W} {st : List Value} {av : Array Value} (hE : zE D cI s) (hP : va_P D cls ws H) (hD : va_D A ws) (hS : va_S A s.heap H locs) (hA : ∀ q : Nat, s.heap.size ≤ q → A q) (isC isR is2 : List Nat) (hC : zSel isC ws wc) (hR : zSel isR ws wr) (hn : va_nd isR = true) (hdis : ∀ i ∈ isR, i ∉ isC) (hn2 : va_nd is2 = true) (ws' : S → va_W) (h2 : ∀ u, zSel is2 (wr ++ w1 u) (ws' u))
    (hrun : va_P D cls wc H → va_D (va_A wc H.size) wc → va_Run p l e R s m args below meth c H locs cells slots 0 0 (F0 m pc ls st) rest (zQv D H.size wc post w1 av) (va_A wc H.size)) (hnC : va_nd isC = true)
    (kk : ∀ (u : S) (H1 : Heap) (locs1 : List Loc), post u → va_P D cls (ws' u) H1 → va_D A (ws' u) → va_S A s.heap H1 locs1 → W p l e R s m args below meth c H1 locs1 cells slots Q (F0 m (pc + 3) ls (rest))) : W p l e R s m args below meth c H locs cells slots Q (F0 m pc ls st) := by
  have hF := va_free hD hS hA isC hC
  have hPc := zSel_P hP hC
  have hDc := hD.sub isC hnC hC
  refine va_callv (hrun hPc hDc.self) hS (fun q _ h => hF q h) hF (fun u t H1 locs1 ht hvm hw hB hz1 hk1 hS1 => ?_)
  have hpost := hw
  obtain ⟨hP1, hD1⟩ := hB
  rw [ht] at hP1
  obtain ⟨hP2, hD2⟩ := va_join hP hD isC isR hC hR hn hdis hk1 hF hP1 hD1
  exact kk u H1 locs1 hpost (zSel_P hP2 (h2 u)) (hD2.sub is2 hn2 (h2 u)) hS1
theorem zcall_r {S : Type} {ws wc wr : va_W} {A : Nat → Prop} {ra : Nat} {post : S → Prop} {w1 : S → va_W} {st : List Value} {av : Array Value} (hE : zE D cI s) (hP : va_P D cls ws H) (hD : va_D A ws) (hS : va_S A s.heap H locs) (hA : ∀ q : Nat, s.heap.size ≤ q → A q) (isC isR is2 : List Nat) (hC : zSel isC ws wc) (hR : zSel isR ws wr) (hn : va_nd isR = true) (hdis : ∀ i ∈ isR, i ∉ isC) (hn2 : va_nd is2 = true) (ws' : S → va_W) (h2 : ∀ u, zSel is2 (wr ++ w1 u) (ws' u))
    (hrun : va_P D cls wc H → va_D (va_A wc H.size) wc → va_Run p l e R s m args below meth c H locs cells slots 0 0 (F0 m pc ls st) rest (zQr D H.size wc ra post w1 av) (va_A wc H.size)) (hnC : va_nd isC = true)
    (kk : ∀ (u : S) (H1 : Heap) (locs1 : List Loc), post u → va_P D cls (ws' u) H1 → va_D A (ws' u) → va_S A s.heap H1 locs1 → W p l e R s m args below meth c H1 locs1 cells slots Q (F0 m (pc + 3) ls (.ref ra :: rest))) : W p l e R s m args below meth c H locs cells slots Q (F0 m pc ls st) := by
  have hF := va_free hD hS hA isC hC
  have hPc := zSel_P hP hC
  have hDc := hD.sub isC hnC hC
  refine va_callr (hrun hPc hDc.self) hS (fun q _ h => hF q h) hF (fun u a1 t H1 locs1 ht hvm hw hB hz1 hk1 hS1 => ?_)
  have hpost := hw
  obtain ⟨rfl, hP1, hD1⟩ := hB
  rw [ht] at hP1
  obtain ⟨hP2, hD2⟩ := va_join hP hD isC isR hC hR hn hdis hk1 hF hP1 hD1
  exact kk u H1 locs1 hpost (zSel_P hP2 (h2 u)) (hD2.sub is2 hn2 (h2 u)) hS1
end Z2
end
section
abbrev cP (h : Nat) (a : Nat) (pl : Int) : Nat × va_E := (h, .inr (0, [.ref a, .int (zI pl)]))
abbrev cT (h : Nat) (a : Nat → Nat) (n : Int) (k : Int) (d : Int) (v : Int) : Nat × va_E := (h, .inr (1, [.int (zI n), .int (zI k), .int (zI d), .int (zI v), .ref (a 0), .ref (a 1), .ref (a 2), .ref (a 3), .ref (a 4), .ref (a 5), .ref (a 6)]))
abbrev cW (h : Nat) (a : Nat) (n : Int) : Nat × va_E := (h, .inr (2, [.int (zI n), .ref a]))
abbrev cX (h : Nat) (b : Nat → Nat) (ik : Int) (rr : Int) (hc : Int) : Nat × va_E := (h, .inr (3, [.ref (b 0), .ref (b 1), .ref (b 2), .int (zI ik), .int (zI rr), .int (zI hc), .ref (b 3), .ref (b 4), .ref (b 5), .ref (b 6)]))
abbrev cM (h : Nat) (b : Nat → Nat) (pm : Int) (n : Int) (k : Int) (d : Int) (rr : Int) (hd : Int) (sm : Int) (kr : Int) (kd : Int) (ks : Int) (s0 : Int) (s1 : Int) (s2 : Int) (s3 : Int) (s4 : Int) (s5 : Int) (hs : Int) : Nat × va_E := (h, .inr (4, [.ref (b 0), .int (zI pm), .int (zI n), .int (zI k), .int (zI d), .int (zI rr), .ref (b 1), .ref (b 2), .ref (b 3), .ref (b 4), .int (zI s0), .int (zI s1), .int (zI s2), .int (zI s3), .ref (b 5), .ref (b 6), .ref (b 7), .int (zI hd), .int (zI s4), .ref (b 8), .ref (b 9), .int (zI sm), .ref (b 10), .int (zI s5), .int (zI kr), .int (zI kd), .int (zI ks), .ref (b 11), .ref (b 12), .ref (b 13), .ref (b 14), .long (zL hs)]))
abbrev cR (cI : ClassId) (a n : Nat) (g : Nat → Int) : Nat × va_E := (a, .inl (cI, n, .inl (zA g)))
/-- what a copy of the first n places makes -/
def zcp (f g : Nat → Int) (n : Nat) : Nat → Int := fun j => if j < n then f j else g j
theorem zcp_lt {f g : Nat → Int} {n j : Nat} (h : j < n) : zcp f g n j = f j := if_pos h
theorem zcp_ge {f g : Nat → Int} {n j : Nat} (h : n ≤ j) : zcp f g n j = g j := if_neg (Nat.not_lt.mpr h)
theorem zA_cp (f g : Nat → Int) (n : Nat) : va_cpy (zA f) (zA g) 0 0 n = zA (zcp f g n) := by
  funext j
  by_cases h : j < n
  · rw [pk_cpy_in (Nat.zero_le _) (by omega)]
    show zI (f (0 + (j - 0))) = zI (zcp f g n j)
    rw [zcp_lt h]; congr 2; omega
  · rw [pk_cpy_out (by omega)]
    show zI (g j) = zI (zcp f g n j)
    rw [zcp_ge (by omega)]
section Z3
variable {p : Program} {l : Launch} {e : Env} {R : Room} {s : State} {m : MethodId} {args : Array Value} {below : List Frame} {meth : Method} {c : Code} {H : Heap} {locs : List Loc} {cells slots : Nat} {Q : State → Prop}
variable {cc : ByteArray} {pc : Nat} {ls : Array Slot} {rest : List Value} {D : va_G} {cI : ClassId} {nL : Nat} {own : String} {ret : Option FieldType}
theorem z_Mmax (hx : p.tables.exec = Jvm.exec) (hb : c.code = cc) (hml : c.maxLocals = ls.size) {own : String} {index : Nat} (hown : s.vm.findClass own = some m.cls) (hlink : (Cond.methodLink own index Lib.Math.max.name).before args s = true) (hstat : (Cond.static Lib.Math.max.name).before args s = true) (hini : (Cond.initialized "java/lang/Math").before args s = true) (hcode : (Cond.code Lib.Math.max.name Lib.Math.max.code 2 (some .int)).before args s = true)
    (hframes : 1 ≤ R.frames) (hlocals : (rest.map fun v => v.category).sum + 13 ≤ R.locals) (hc : cells ≤ R.cells) (hs : slots ≤ R.slots) {a b : Int} (hr : (-2147483648 ≤ a ∧ a < 2147483648) ∧ (-2147483648 ≤ b ∧ b < 2147483648)) (v : Int) (hv : (if a < b then b else a) = v) (hdg : decode cc pc = .ok (.invokestatic index, 3))
    (kk : W p l e R s m args below meth c H locs cells slots Q (F0 m (pc + 3) ls (.int (zI v) :: rest))) : W p l e R s m args below meth c H locs cells slots Q (F0 m pc ls (.int (zI b) :: .int (zI a) :: rest)) := by
  refine va_mmax hx hb hml hown hlink hstat hini hcode hframes hlocals hc hs hdg ?_
  have e1 : (if zI a < zI b then zI b else zI a) = zI v := by
    rw [← hv]
    by_cases h : a < b
    · rw [if_pos h, if_pos ((zI_lt hr.1 hr.2).mpr h)]
    · rw [if_neg h, if_neg (fun h2 => h ((zI_lt hr.1 hr.2).mp h2))]
  rw [e1]; exact kk
theorem z_Mmin (hx : p.tables.exec = Jvm.exec) (hb : c.code = cc) (hml : c.maxLocals = ls.size) {own : String} {index : Nat} (hown : s.vm.findClass own = some m.cls) (hlink : (Cond.methodLink own index Lib.Math.min.name).before args s = true) (hstat : (Cond.static Lib.Math.min.name).before args s = true) (hini : (Cond.initialized "java/lang/Math").before args s = true) (hcode : (Cond.code Lib.Math.min.name Lib.Math.min.code 2 (some .int)).before args s = true)
    (hframes : 1 ≤ R.frames) (hlocals : (rest.map fun v => v.category).sum + 13 ≤ R.locals) (hc : cells ≤ R.cells) (hs : slots ≤ R.slots) {a b : Int} (hr : (-2147483648 ≤ a ∧ a < 2147483648) ∧ (-2147483648 ≤ b ∧ b < 2147483648)) (v : Int) (hv : (if a < b then a else b) = v) (hdg : decode cc pc = .ok (.invokestatic index, 3))
    (kk : W p l e R s m args below meth c H locs cells slots Q (F0 m (pc + 3) ls (.int (zI v) :: rest))) : W p l e R s m args below meth c H locs cells slots Q (F0 m pc ls (.int (zI b) :: .int (zI a) :: rest)) := by
  refine va_mmin hx hb hml hown hlink hstat hini hcode hframes hlocals hc hs hdg ?_
  have e2 := zI_lt hr.1 hr.2
  have e3 := zI_le hr.1 hr.2
  have e4 := zI_lt hr.2 hr.1
  first
    | (have e1 : (if zI a < zI b then zI a else zI b) = zI v := by
         rw [← hv]
         by_cases h : a < b
         · rw [if_pos h, if_pos (e2.mpr h)]
         · rw [if_neg h, if_neg (fun h2 => h (e2.mp h2))]
       rw [e1]; exact kk)
    | (have e1 : (if zI b < zI a then zI b else zI a) = zI v := by
         rw [← hv]
         by_cases h : b < a
         · rw [if_pos (e4.mpr h), if_neg (by omega)]
         · rw [if_neg (fun h2 => h (e4.mp h2))]
           by_cases h3 : a < b
           · rw [if_pos h3]
           · rw [if_neg h3]; congr 1; omega
       rw [e1]; exact kk)
    | (have e1 : (if zI a ≤ zI b then zI a else zI b) = zI v := by
         rw [← hv]
         by_cases h : a ≤ b
         · rw [if_pos (e3.mpr h)]
           by_cases h3 : a < b
           · rw [if_pos h3]
           · rw [if_neg h3]; congr 1; omega
         · rw [if_neg (fun h2 => h (e3.mp h2)), if_neg (by omega)]
       rw [e1]; exact kk)
theorem z_fit (x : Int32) : fits .int (.int x) = true := rfl
theorem z_copy (hx : p.tables.exec = Jvm.exec) (hb : c.code = cc) (hml : c.maxLocals = ls.size) {own : String} {index : Nat} (hown : s.vm.findClass own = some m.cls) (hlink : (Cond.methodLink own index arraycopyName).before args s = true) (hnat : (Cond.native arraycopyName).before args s = true) (hstat : (Cond.static arraycopyName).before args s = true) (hini : (Cond.initialized "java/lang/System").before args s = true)
    (hE : zE D cI s) {ws : va_W} {A : Nat → Prop} {H0 : Heap} (hP : va_P D cls ws H) (hD : va_D A ws) (hS : va_S A H0 H locs) (q0 q1 : Nat) {a0 a n0 n1 : Nat} {f g : Nat → Int} (ha0 : ws[q0]? = some (a0, .inl (cI, n0, .inl (zA f)))) (ha1 : ws[q1]? = some (a, .inl (cI, n1, .inl (zA g))))
    {z : Int} (n : Nat) (hz : z = (n : Int)) (hn : n ≤ n0 ∧ n ≤ n1) (h0 : n0 < 2147483648) (h1 : n1 < 2147483648)
    (hframes : 1 ≤ R.frames) (hlocals : (rest.map fun v => v.category).sum + (nativeFrameWords "java/lang/System" "arraycopy" 5 + 11) ≤ R.locals) (g' : Nat → Int) (hg : zcp f g n = g') (hdg : decode cc pc = .ok (.invokestatic index, 3))
    (kk : ∀ (H1 : Heap) (locs1 : List Loc), va_P D cls (ws.set q1 (a, .inl (cI, n1, .inl (zA g')))) H1 → va_D A (ws.set q1 (a, .inl (cI, n1, .inl (zA g')))) → va_S A H0 H1 locs1 → W p l e R s m args below meth c H1 locs1 cells slots Q (F0 m (pc + 3) ls rest)) : W p l e R s m args below meth c H locs cells slots Q (F0 m pc ls (.int (zI z) :: .int (zI 0) :: .ref a :: .int (zI 0) :: .ref a0 :: rest)) := by
  subst hz
  subst hg
  have e0 : (zI 0).toNatClampNeg = 0 := rfl
  have en : (zI (n : Int)).toNatClampNeg = n := zI_clamp (by omega)
  have h00 : ¬ zI 0 < 0 := by decide
  have hn0 : ¬ zI (n : Int) < 0 := fun h => by
    have := (zI_lt (a := (n : Int)) (b := 0) (by omega) (by omega)).mp h
    omega
  refine va_copyi hx hb hml hown hlink hnat hstat hini hE.1 hP hD hS q0 q1 0 0 ha0 ha1 rfl rfl rfl h00 h00 hn0 (by rw [e0, en]; omega) (by rw [e0, en]; omega) (fun i _ => z_fit _) hframes hlocals hdg fun H1 locs1 p1 p2 p3 => ?_
  rw [e0, en, zA_cp] at p1 p2
  exact kk H1 locs1 p1 p2 p3
end Z3
theorem k_X0_init : zYi yX0_init cX0_init 1 0 := ⟨qc_X0_init, qi_X0_init, qn_X0, rfl, ⟨by decide, by decide, by decide +kernel⟩⟩
theorem k_X0_append : zYv RX0 yX0_append cX0_append 2 none 1 := ⟨qc_X0_append, qi_X0_append, ql_X0_append, qn_X0, ⟨by decide, by decide, by decide +kernel⟩⟩
theorem k_X0_clear : zYv RX0 yX0_clear cX0_clear 2 (some .int) 0 := ⟨qc_X0_clear, qi_X0_clear, ql_X0_clear, qn_X0, ⟨by decide, by decide, by decide +kernel⟩⟩
theorem k_X0_firstWrong : zYv RX0 yX0_firstWrong cX0_firstWrong 2 (some .int) 0 := ⟨qc_X0_firstWrong, qi_X0_firstWrong, ql_X0_firstWrong, qn_X0, ⟨by decide, by decide, by decide +kernel⟩⟩
theorem k_X0_isRoutine : zYv RX0 yX0_isRoutine cX0_isRoutine 2 (some .boolean) 0 := ⟨qc_X0_isRoutine, qi_X0_isRoutine, ql_X0_isRoutine, qn_X0, ⟨by decide, by decide, by decide +kernel⟩⟩
theorem k_X0_mayStand : zYv RX0 yX0_mayStand cX0_mayStand 3 (some .boolean) 1 := ⟨qc_X0_mayStand, qi_X0_mayStand, ql_X0_mayStand, qn_X0, ⟨by decide, by decide, by decide +kernel⟩⟩
theorem k_X0_mayStandInStep : zYs yX0_mayStandInStep cX0_mayStandInStep 2 (some .boolean) 2 := ⟨qc_X0_mayStandInStep, qs_X0_mayStandInStep, qn_X0, ⟨by decide, by decide, by decide +kernel⟩⟩
theorem k_X0_partOfStep : zYs yX0_partOfStep cX0_partOfStep 1 (some .int) 1 := ⟨qc_X0_partOfStep, qs_X0_partOfStep, qn_X0, ⟨by decide, by decide, by decide +kernel⟩⟩
theorem k_X0_readInto : zYv RX0 yX0_readInto cX0_readInto 6 none 1 := ⟨qc_X0_readInto, qi_X0_readInto, ql_X0_readInto, qn_X0, ⟨by decide, by decide, by decide +kernel⟩⟩
theorem k_X1_init : zYi yX1_init cX1_init 1 0 := ⟨qc_X1_init, qi_X1_init, qn_X1, rfl, ⟨by decide, by decide, by decide +kernel⟩⟩
theorem k_X1_begin : zYv RX1 yX1_begin cX1_begin 3 none 2 := ⟨qc_X1_begin, qi_X1_begin, ql_X1_begin, qn_X1, ⟨by decide, by decide, by decide +kernel⟩⟩
theorem k_X1_copy : zYv RX1 yX1_copy cX1_copy 2 none 1 := ⟨qc_X1_copy, qi_X1_copy, ql_X1_copy, qn_X1, ⟨by decide, by decide, by decide +kernel⟩⟩
theorem k_X1_hasRoutine : zYv RX1 yX1_hasRoutine cX1_hasRoutine 1 (some .boolean) 0 := ⟨qc_X1_hasRoutine, qi_X1_hasRoutine, ql_X1_hasRoutine, qn_X1, ⟨by decide, by decide, by decide +kernel⟩⟩
theorem k_X1_hasStep : zYv RX1 yX1_hasStep cX1_hasStep 2 (some .boolean) 1 := ⟨qc_X1_hasStep, qi_X1_hasStep, ql_X1_hasStep, qn_X1, ⟨by decide, by decide, by decide +kernel⟩⟩
theorem k_X1_hasPlace : zYv RX1 yX1_hasPlace cX1_hasPlace 2 (some .boolean) 1 := ⟨qc_X1_hasPlace, qi_X1_hasPlace, ql_X1_hasPlace, qn_X1, ⟨by decide, by decide, by decide +kernel⟩⟩
theorem k_X1_hasCard : zYv RX1 yX1_hasCard cX1_hasCard 2 (some .boolean) 1 := ⟨qc_X1_hasCard, qi_X1_hasCard, ql_X1_hasCard, qn_X1, ⟨by decide, by decide, by decide +kernel⟩⟩
theorem k_X1_setStep : zYv RX1 yX1_setStep cX1_setStep 5 none 3 := ⟨qc_X1_setStep, qi_X1_setStep, ql_X1_setStep, qn_X1, ⟨by decide, by decide, by decide +kernel⟩⟩
theorem k_X1_placeBehind : zYv RX1 yX1_placeBehind cX1_placeBehind 3 (some .int) 2 := ⟨qc_X1_placeBehind, qi_X1_placeBehind, ql_X1_placeBehind, qn_X1, ⟨by decide, by decide, by decide +kernel⟩⟩
theorem k_X1_layInOrder : zYv RX1 yX1_layInOrder cX1_layInOrder 2 none 0 := ⟨qc_X1_layInOrder, qi_X1_layInOrder, ql_X1_layInOrder, qn_X1, ⟨by decide, by decide, by decide +kernel⟩⟩
theorem k_X1_placeOf : zYv RX1 yX1_placeOf cX1_placeOf 3 (some .int) 1 := ⟨qc_X1_placeOf, qi_X1_placeOf, ql_X1_placeOf, qn_X1, ⟨by decide, by decide, by decide +kernel⟩⟩
theorem k_X1_asAtFirst : zYv RX1 yX1_asAtFirst cX1_asAtFirst 3 (some .int) 0 := ⟨qc_X1_asAtFirst, qi_X1_asAtFirst, ql_X1_asAtFirst, qn_X1, ⟨by decide, by decide, by decide +kernel⟩⟩
theorem k_X1_asAtFirstBehind : zYv RX1 yX1_asAtFirstBehind cX1_asAtFirstBehind 4 (some .int) 1 := ⟨qc_X1_asAtFirstBehind, qi_X1_asAtFirstBehind, ql_X1_asAtFirstBehind, qn_X1, ⟨by decide, by decide, by decide +kernel⟩⟩
theorem k_X1_topBehind : zYv RX1 yX1_topBehind cX1_topBehind 3 (some .int) 1 := ⟨qc_X1_topBehind, qi_X1_topBehind, ql_X1_topBehind, qn_X1, ⟨by decide, by decide, by decide +kernel⟩⟩
theorem k_X1_wrongTwos : zYv RX1 yX1_wrongTwos cX1_wrongTwos 4 (some .int) 0 := ⟨qc_X1_wrongTwos, qi_X1_wrongTwos, ql_X1_wrongTwos, qn_X1, ⟨by decide, by decide, by decide +kernel⟩⟩
theorem k_X1_addSeen : zYv RX1 yX1_addSeen cX1_addSeen 4 none 3 := ⟨qc_X1_addSeen, qi_X1_addSeen, ql_X1_addSeen, qn_X1, ⟨by decide, by decide, by decide +kernel⟩⟩
theorem k_X1_possibleNumbers : zYv RX1 yX1_possibleNumbers cX1_possibleNumbers 4 (some .int) 1 := ⟨qc_X1_possibleNumbers, qi_X1_possibleNumbers, ql_X1_possibleNumbers, qn_X1, ⟨by decide, by decide, by decide +kernel⟩⟩
theorem k_X1_agreesWithSeen : zYv RX1 yX1_agreesWithSeen cX1_agreesWithSeen 4 (some .boolean) 2 := ⟨qc_X1_agreesWithSeen, qi_X1_agreesWithSeen, ql_X1_agreesWithSeen, qn_X1, ⟨by decide, by decide, by decide +kernel⟩⟩
theorem k_X2_init : zYi yX2_init cX2_init 1 0 := ⟨qc_X2_init, qi_X2_init, qn_X2, rfl, ⟨by decide, by decide, by decide +kernel⟩⟩
theorem k_X2_begin : zYv RX2 yX2_begin cX2_begin 3 none 1 := ⟨qc_X2_begin, qi_X2_begin, ql_X2_begin, qn_X2, ⟨by decide, by decide, by decide +kernel⟩⟩
theorem k_X2_add : zYv RX2 yX2_add cX2_add 4 none 2 := ⟨qc_X2_add, qi_X2_add, ql_X2_add, qn_X2, ⟨by decide, by decide, by decide +kernel⟩⟩
theorem k_X2_stayCount : zYv RX2 yX2_stayCount cX2_stayCount 3 (some .int) 0 := ⟨qc_X2_stayCount, qi_X2_stayCount, ql_X2_stayCount, qn_X2, ⟨by decide, by decide, by decide +kernel⟩⟩
theorem k_X2_ringLength : zYv RX2 yX2_ringLength cX2_ringLength 4 (some .int) 1 := ⟨qc_X2_ringLength, qi_X2_ringLength, ql_X2_ringLength, qn_X2, ⟨by decide, by decide, by decide +kernel⟩⟩
theorem k_X2_placeAfter : zYv RX2 yX2_placeAfter cX2_placeAfter 6 (some .int) 2 := ⟨qc_X2_placeAfter, qi_X2_placeAfter, ql_X2_placeAfter, qn_X2, ⟨by decide, by decide, by decide +kernel⟩⟩
theorem k_X2_order : zYv RX2 yX2_order cX2_order 4 (some .int) 0 := ⟨qc_X2_order, qi_X2_order, ql_X2_order, qn_X2, ⟨by decide, by decide, by decide +kernel⟩⟩
theorem k_X2_ringCount : zYv RX2 yX2_ringCount cX2_ringCount 3 (some .int) 0 := ⟨qc_X2_ringCount, qi_X2_ringCount, ql_X2_ringCount, qn_X2, ⟨by decide, by decide, by decide +kernel⟩⟩
theorem k_X2_isLeastOfRing : zYv RX2 yX2_isLeastOfRing cX2_isLeastOfRing 4 (some .boolean) 1 := ⟨qc_X2_isLeastOfRing, qi_X2_isLeastOfRing, ql_X2_isLeastOfRing, qn_X2, ⟨by decide, by decide, by decide +kernel⟩⟩
theorem k_X2_longestRing : zYv RX2 yX2_longestRing cX2_longestRing 3 (some .int) 0 := ⟨qc_X2_longestRing, qi_X2_longestRing, ql_X2_longestRing, qn_X2, ⟨by decide, by decide, by decide +kernel⟩⟩
theorem k_X3_init : zYi yX3_init cX3_init 1 0 := ⟨qc_X3_init, qi_X3_init, qn_X3, rfl, ⟨by decide, by decide, by decide +kernel⟩⟩
theorem k_X3_letter : zYv RX3 yX3_letter cX3_letter 2 (some .int) 1 := ⟨qc_X3_letter, qi_X3_letter, ql_X3_letter, qn_X3, ⟨by decide, by decide, by decide +kernel⟩⟩
theorem k_X3_blank : zYv RX3 yX3_blank cX3_blank 1 (some .int) 0 := ⟨qc_X3_blank, qi_X3_blank, ql_X3_blank, qn_X3, ⟨by decide, by decide, by decide +kernel⟩⟩
theorem k_X3_fault : zYv RX3 yX3_fault cX3_fault 1 (some .int) 0 := ⟨qc_X3_fault, qi_X3_fault, ql_X3_fault, qn_X3, ⟨by decide, by decide, by decide +kernel⟩⟩
theorem k_X3_routine : zYv RX3 yX3_routine cX3_routine 1 (some .int) 0 := ⟨qc_X3_routine, qi_X3_routine, ql_X3_routine, qn_X3, ⟨by decide, by decide, by decide +kernel⟩⟩
theorem k_X3_step : zYv RX3 yX3_step cX3_step 3 (some .int) 2 := ⟨qc_X3_step, qi_X3_step, ql_X3_step, qn_X3, ⟨by decide, by decide, by decide +kernel⟩⟩
theorem k_X3_as : zYv RX3 yX3_as cX3_as 3 (some .int) 2 := ⟨qc_X3_as, qi_X3_as, ql_X3_as, qn_X3, ⟨by decide, by decide, by decide +kernel⟩⟩
theorem k_X3_at : zYv RX3 yX3_at cX3_at 2 (some .int) 1 := ⟨qc_X3_at, qi_X3_at, ql_X3_at, qn_X3, ⟨by decide, by decide, by decide +kernel⟩⟩
theorem k_X3_goes : zYv RX3 yX3_goes cX3_goes 3 (some .int) 2 := ⟨qc_X3_goes, qi_X3_goes, ql_X3_goes, qn_X3, ⟨by decide, by decide, by decide +kernel⟩⟩
theorem k_X3_act : zYv RX3 yX3_act cX3_act 2 (some .int) 1 := ⟨qc_X3_act, qi_X3_act, ql_X3_act, qn_X3, ⟨by decide, by decide, by decide +kernel⟩⟩
theorem k_X3_whole : zYv RX3 yX3_whole cX3_whole 1 (some .int) 0 := ⟨qc_X3_whole, qi_X3_whole, ql_X3_whole, qn_X3, ⟨by decide, by decide, by decide +kernel⟩⟩
theorem k_X3_exchange : zYv RX3 yX3_exchange cX3_exchange 4 (some .int) 2 := ⟨qc_X3_exchange, qi_X3_exchange, ql_X3_exchange, qn_X3, ⟨by decide, by decide, by decide +kernel⟩⟩
theorem k_X3_sort : zYv RX3 yX3_sort cX3_sort 2 (some .int) 0 := ⟨qc_X3_sort, qi_X3_sort, ql_X3_sort, qn_X3, ⟨by decide, by decide, by decide +kernel⟩⟩
theorem k_X3_change : zYv RX3 yX3_change cX3_change 5 (some .int) 3 := ⟨qc_X3_change, qi_X3_change, ql_X3_change, qn_X3, ⟨by decide, by decide, by decide +kernel⟩⟩
theorem k_X3_round : zYv RX3 yX3_round cX3_round 2 (some .int) 1 := ⟨qc_X3_round, qi_X3_round, ql_X3_round, qn_X3, ⟨by decide, by decide, by decide +kernel⟩⟩
theorem k_X3_after : zYv RX3 yX3_after cX3_after 3 (some .int) 2 := ⟨qc_X3_after, qi_X3_after, ql_X3_after, qn_X3, ⟨by decide, by decide, by decide +kernel⟩⟩
theorem k_X3_rings : zYv RX3 yX3_rings cX3_rings 3 (some .int) 1 := ⟨qc_X3_rings, qi_X3_rings, ql_X3_rings, qn_X3, ⟨by decide, by decide, by decide +kernel⟩⟩
theorem k_X3_bring : zYv RX3 yX3_bring cX3_bring 5 (some .int) 3 := ⟨qc_X3_bring, qi_X3_bring, ql_X3_bring, qn_X3, ⟨by decide, by decide, by decide +kernel⟩⟩
theorem k_X3_home : zYv RX3 yX3_home cX3_home 3 (some .int) 1 := ⟨qc_X3_home, qi_X3_home, ql_X3_home, qn_X3, ⟨by decide, by decide, by decide +kernel⟩⟩
theorem k_X3_odds : zYv RX3 yX3_odds cX3_odds 9 (some .int) 4 := ⟨qc_X3_odds, qi_X3_odds, ql_X3_odds, qn_X3, ⟨by decide, by decide, by decide +kernel⟩⟩
theorem k_X3_see : zYv RX3 yX3_see cX3_see 4 (some .int) 3 := ⟨qc_X3_see, qi_X3_see, ql_X3_see, qn_X3, ⟨by decide, by decide, by decide +kernel⟩⟩
theorem k_X3_forget : zYv RX3 yX3_forget cX3_forget 2 (some .int) 0 := ⟨qc_X3_forget, qi_X3_forget, ql_X3_forget, qn_X3, ⟨by decide, by decide, by decide +kernel⟩⟩
theorem k_X3_runs : zYv RX3 yX3_runs cX3_runs 5 (some .int) 3 := ⟨qc_X3_runs, qi_X3_runs, ql_X3_runs, qn_X3, ⟨by decide, by decide, by decide +kernel⟩⟩
theorem k_X3_image : zYv RX3 yX3_image cX3_image 1 (some .int) 0 := ⟨qc_X3_image, qi_X3_image, ql_X3_image, qn_X3, ⟨by decide, by decide, by decide +kernel⟩⟩
theorem k_X3_restore : zYv RX3 yX3_restore cX3_restore 1 (some .int) 0 := ⟨qc_X3_restore, qi_X3_restore, ql_X3_restore, qn_X3, ⟨by decide, by decide, by decide +kernel⟩⟩
theorem k_X3_count : zYv RX3 yX3_count cX3_count 2 (some .int) 1 := ⟨qc_X3_count, qi_X3_count, ql_X3_count, qn_X3, ⟨by decide, by decide, by decide +kernel⟩⟩
theorem k_X3_digest : zYv RX3 yX3_digest cX3_digest 4 (some .long) 0 := ⟨qc_X3_digest, qi_X3_digest, ql_X3_digest, qn_X3, ⟨by decide, by decide, by decide +kernel⟩⟩
theorem k_X3_digestOfSteps : zYv RX3 yX3_digestOfSteps cX3_digestOfSteps 7 (some .long) 1 := ⟨qc_X3_digestOfSteps, qi_X3_digestOfSteps, ql_X3_digestOfSteps, qn_X3, ⟨by decide, by decide, by decide +kernel⟩⟩
theorem k_X3_digestOfPlaces : zYv RX3 yX3_digestOfPlaces cX3_digestOfPlaces 6 (some .long) 1 := ⟨qc_X3_digestOfPlaces, qi_X3_digestOfPlaces, ql_X3_digestOfPlaces, qn_X3, ⟨by decide, by decide, by decide +kernel⟩⟩
theorem k_X3_digestOfRoutine : zYv RX3 yX3_digestOfRoutine cX3_digestOfRoutine 6 (some .long) 1 := ⟨qc_X3_digestOfRoutine, qi_X3_digestOfRoutine, ql_X3_digestOfRoutine, qn_X3, ⟨by decide, by decide, by decide +kernel⟩⟩
theorem k_X3_joined : zYs yX3_joined cX3_joined 4 (some .long) 2 := ⟨qc_X3_joined, qs_X3_joined, qn_X3, ⟨by decide, by decide, by decide +kernel⟩⟩
theorem k_X3_wayOfStep : zYv RX3 yX3_wayOfStep cX3_wayOfStep 2 (some (.object "DeckHands$Way")) 1 := ⟨qc_X3_wayOfStep, qi_X3_wayOfStep, ql_X3_wayOfStep, qn_X3, ⟨by decide, by decide, by decide +kernel⟩⟩
theorem k_X3_wayOfRoutine : zYv RX3 yX3_wayOfRoutine cX3_wayOfRoutine 2 (some (.object "DeckHands$Way")) 0 := ⟨qc_X3_wayOfRoutine, qi_X3_wayOfRoutine, ql_X3_wayOfRoutine, qn_X3, ⟨by decide, by decide, by decide +kernel⟩⟩
theorem k_X3_carryOut : zYv RX3 yX3_carryOut cX3_carryOut 4 (some .int) 2 := ⟨qc_X3_carryOut, qi_X3_carryOut, ql_X3_carryOut, qn_X3, ⟨by decide, by decide, by decide +kernel⟩⟩
theorem k_X3_placeToWatch : zYv RX3 yX3_placeToWatch cX3_placeToWatch 7 (some .int) 2 := ⟨qc_X3_placeToWatch, qi_X3_placeToWatch, ql_X3_placeToWatch, qn_X3, ⟨by decide, by decide, by decide +kernel⟩⟩
theorem k_X3_leftAtWorst : zYv RX3 yX3_leftAtWorst cX3_leftAtWorst 7 (some .int) 3 := ⟨qc_X3_leftAtWorst, qi_X3_leftAtWorst, ql_X3_leftAtWorst, qn_X3, ⟨by decide, by decide, by decide +kernel⟩⟩
theorem k_X3_tellDistancesTo : zYv RX3 yX3_tellDistancesTo cX3_tellDistancesTo 4 none 1 := ⟨qc_X3_tellDistancesTo, qi_X3_tellDistancesTo, ql_X3_tellDistancesTo, qn_X3, ⟨by decide, by decide, by decide +kernel⟩⟩
theorem k_X3_stepTo : zYv RX3 yX3_stepTo cX3_stepTo 4 (some .int) 2 := ⟨qc_X3_stepTo, qi_X3_stepTo, ql_X3_stepTo, qn_X3, ⟨by decide, by decide, by decide +kernel⟩⟩
theorem k_X3_firstStepNearer : zYv RX3 yX3_firstStepNearer cX3_firstStepNearer 2 (some .int) 1 := ⟨qc_X3_firstStepNearer, qi_X3_firstStepNearer, ql_X3_firstStepNearer, qn_X3, ⟨by decide, by decide, by decide +kernel⟩⟩
theorem k_X3_findPathHome : zYv RX3 yX3_findPathHome cX3_findPathHome 4 (some .boolean) 1 := ⟨qc_X3_findPathHome, qi_X3_findPathHome, ql_X3_findPathHome, qn_X3, ⟨by decide, by decide, by decide +kernel⟩⟩
theorem k_X3_nextPath : zYv RX3 yX3_nextPath cX3_nextPath 3 none 1 := ⟨qc_X3_nextPath, qi_X3_nextPath, ql_X3_nextPath, qn_X3, ⟨by decide, by decide, by decide +kernel⟩⟩
theorem k_X3_pathLeadsHome : zYv RX3 yX3_pathLeadsHome cX3_pathLeadsHome 5 (some .boolean) 1 := ⟨qc_X3_pathLeadsHome, qi_X3_pathLeadsHome, ql_X3_pathLeadsHome, qn_X3, ⟨by decide, by decide, by decide +kernel⟩⟩
theorem k_X3_pathInDigits : zYv RX3 yX3_pathInDigits cX3_pathInDigits 4 (some .int) 1 := ⟨qc_X3_pathInDigits, qi_X3_pathInDigits, ql_X3_pathInDigits, qn_X3, ⟨by decide, by decide, by decide +kernel⟩⟩
theorem k_X3_tellDrawsFrom : zYv RX3 yX3_tellDrawsFrom cX3_tellDrawsFrom 6 none 2 := ⟨qc_X3_tellDrawsFrom, qi_X3_tellDrawsFrom, ql_X3_tellDrawsFrom, qn_X3, ⟨by decide, by decide, by decide +kernel⟩⟩
theorem k_X3_drawSteps : zYv RX3 yX3_drawSteps cX3_drawSteps 6 (some .int) 2 := ⟨qc_X3_drawSteps, qi_X3_drawSteps, ql_X3_drawSteps, qn_X3, ⟨by decide, by decide, by decide +kernel⟩⟩
theorem k_X3_isOfKind : zYs yX3_isOfKind cX3_isOfKind 2 (some .boolean) 2 := ⟨qc_X3_isOfKind, qs_X3_isOfKind, qn_X3, ⟨by decide, by decide, by decide +kernel⟩⟩
theorem k_X3_greatestDivisor : zYs yX3_greatestDivisor cX3_greatestDivisor 6 (some .int) 2 := ⟨qc_X3_greatestDivisor, qs_X3_greatestDivisor, qn_X3, ⟨by decide, by decide, by decide +kernel⟩⟩
theorem k_X3_moved : zYs yX3_moved cX3_moved 4 (some .int) 4 := ⟨qc_X3_moved, qs_X3_moved, qn_X3, ⟨by decide, by decide, by decide +kernel⟩⟩
theorem k_X3_movedByStep : zYs yX3_movedByStep cX3_movedByStep 2 (some .int) 2 := ⟨qc_X3_movedByStep, qs_X3_movedByStep, qn_X3, ⟨by decide, by decide, by decide +kernel⟩⟩
theorem k_X3_movedByCut : zYs yX3_movedByCut cX3_movedByCut 4 (some .int) 3 := ⟨qc_X3_movedByCut, qs_X3_movedByCut, qn_X3, ⟨by decide, by decide, by decide +kernel⟩⟩
theorem k_X3_movedByTurn : zYs yX3_movedByTurn cX3_movedByTurn 2 (some .int) 2 := ⟨qc_X3_movedByTurn, qs_X3_movedByTurn, qn_X3, ⟨by decide, by decide, by decide +kernel⟩⟩
theorem k_X3_movedByDeal : zYs yX3_movedByDeal cX3_movedByDeal 11 (some .int) 4 := ⟨qc_X3_movedByDeal, qs_X3_movedByDeal, qn_X3, ⟨by decide, by decide, by decide +kernel⟩⟩
theorem k_X4_init : zYi yX4_init cX4_init 1 0 := ⟨qc_X4_init, qi_X4_init, qn_X4, rfl, ⟨by decide, by decide, by decide +kernel⟩⟩
theorem k_X4_in : zYs yX4_in cX4_in 6 (some .boolean) 3 := ⟨qc_X4_in, qs_X4_in, qn_X4, ⟨by decide, by decide, by decide +kernel⟩⟩
theorem k_X4_copy : zYs yX4_copy cX4_copy 3 none 2 := ⟨qc_X4_copy, qs_X4_copy, qn_X4, ⟨by decide, by decide, by decide +kernel⟩⟩
theorem k_X4_common : zYs yX4_common cX4_common 5 (some .int) 2 := ⟨qc_X4_common, qs_X4_common, qn_X4, ⟨by decide, by decide, by decide +kernel⟩⟩
theorem k_X4_letter : zYv RX4 yX4_letter cX4_letter 2 (some .int) 1 := ⟨qc_X4_letter, qi_X4_letter, ql_X4_letter, qn_X4, ⟨by decide, by decide, by decide +kernel⟩⟩
theorem k_X4_blank : zYv RX4 yX4_blank cX4_blank 2 (some .int) 0 := ⟨qc_X4_blank, qi_X4_blank, ql_X4_blank, qn_X4, ⟨by decide, by decide, by decide +kernel⟩⟩
theorem k_X4_kindBy : zYs yX4_kindBy cX4_kindBy 1 (some .int) 1 := ⟨qc_X4_kindBy, qs_X4_kindBy, qn_X4, ⟨by decide, by decide, by decide +kernel⟩⟩
theorem k_X4_isGood : zYv RX4 yX4_isGood cX4_isGood 3 (some .boolean) 1 := ⟨qc_X4_isGood, qi_X4_isGood, ql_X4_isGood, qn_X4, ⟨by decide, by decide, by decide +kernel⟩⟩
theorem k_X4_faultOf : zYv RX4 yX4_faultOf cX4_faultOf 2 (some .int) 0 := ⟨qc_X4_faultOf, qi_X4_faultOf, ql_X4_faultOf, qn_X4, ⟨by decide, by decide, by decide +kernel⟩⟩
theorem k_X4_fault : zYv RX4 yX4_fault cX4_fault 1 (some .int) 0 := ⟨qc_X4_fault, qi_X4_fault, ql_X4_fault, qn_X4, ⟨by decide, by decide, by decide +kernel⟩⟩
theorem k_X4_routine : zYv RX4 yX4_routine cX4_routine 2 (some .int) 0 := ⟨qc_X4_routine, qi_X4_routine, ql_X4_routine, qn_X4, ⟨by decide, by decide, by decide +kernel⟩⟩
theorem k_X4_layFirst : zYv RX4 yX4_layFirst cX4_layFirst 2 none 0 := ⟨qc_X4_layFirst, qi_X4_layFirst, ql_X4_layFirst, qn_X4, ⟨by decide, by decide, by decide +kernel⟩⟩
theorem k_X4_lacks : zYv RX4 yX4_lacks cX4_lacks 1 (some .boolean) 0 := ⟨qc_X4_lacks, qi_X4_lacks, ql_X4_lacks, qn_X4, ⟨by decide, by decide, by decide +kernel⟩⟩
theorem k_X4_isStep : zYv RX4 yX4_isStep cX4_isStep 2 (some .boolean) 1 := ⟨qc_X4_isStep, qi_X4_isStep, ql_X4_isStep, qn_X4, ⟨by decide, by decide, by decide +kernel⟩⟩
theorem k_X4_isPlace : zYv RX4 yX4_isPlace cX4_isPlace 2 (some .boolean) 1 := ⟨qc_X4_isPlace, qi_X4_isPlace, ql_X4_isPlace, qn_X4, ⟨by decide, by decide, by decide +kernel⟩⟩
theorem k_X4_byStep : zYv RX4 yX4_byStep cX4_byStep 4 (some .int) 2 := ⟨qc_X4_byStep, qi_X4_byStep, ql_X4_byStep, qn_X4, ⟨by decide, by decide, by decide +kernel⟩⟩
theorem k_X4_pileOf : zYv RX4 yX4_pileOf cX4_pileOf 3 (some .int) 2 := ⟨qc_X4_pileOf, qi_X4_pileOf, ql_X4_pileOf, qn_X4, ⟨by decide, by decide, by decide +kernel⟩⟩
theorem k_X4_byDeal : zYv RX4 yX4_byDeal cX4_byDeal 9 (some .int) 3 := ⟨qc_X4_byDeal, qi_X4_byDeal, ql_X4_byDeal, qn_X4, ⟨by decide, by decide, by decide +kernel⟩⟩
theorem k_X4_byTurn : zYv RX4 yX4_byTurn cX4_byTurn 4 (some .int) 2 := ⟨qc_X4_byTurn, qi_X4_byTurn, ql_X4_byTurn, qn_X4, ⟨by decide, by decide, by decide +kernel⟩⟩
theorem k_X4_goesBy : zYv RX4 yX4_goesBy cX4_goesBy 4 (some .int) 3 := ⟨qc_X4_goesBy, qi_X4_goesBy, ql_X4_goesBy, qn_X4, ⟨by decide, by decide, by decide +kernel⟩⟩
theorem k_X4_goesOf : zYv RX4 yX4_goesOf cX4_goesOf 3 (some .int) 2 := ⟨qc_X4_goesOf, qi_X4_goesOf, ql_X4_goesOf, qn_X4, ⟨by decide, by decide, by decide +kernel⟩⟩
theorem k_X4_goes : zYv RX4 yX4_goes cX4_goes 3 (some .int) 2 := ⟨qc_X4_goes, qi_X4_goes, ql_X4_goes, qn_X4, ⟨by decide, by decide, by decide +kernel⟩⟩
theorem k_X4_roundOf : zYv RX4 yX4_roundOf cX4_roundOf 4 (some .int) 1 := ⟨qc_X4_roundOf, qi_X4_roundOf, ql_X4_roundOf, qn_X4, ⟨by decide, by decide, by decide +kernel⟩⟩
theorem k_X4_round : zYv RX4 yX4_round cX4_round 2 (some .int) 1 := ⟨qc_X4_round, qi_X4_round, ql_X4_round, qn_X4, ⟨by decide, by decide, by decide +kernel⟩⟩
theorem k_X4_ringOf : zYv RX4 yX4_ringOf cX4_ringOf 4 (some .int) 1 := ⟨qc_X4_ringOf, qi_X4_ringOf, ql_X4_ringOf, qn_X4, ⟨by decide, by decide, by decide +kernel⟩⟩
theorem k_X4_layRings : zYv RX4 yX4_layRings cX4_layRings 4 none 0 := ⟨qc_X4_layRings, qi_X4_layRings, ql_X4_layRings, qn_X4, ⟨by decide, by decide, by decide +kernel⟩⟩
theorem k_X4_layRound : zYv RX4 yX4_layRound cX4_layRound 2 none 0 := ⟨qc_X4_layRound, qi_X4_layRound, ql_X4_layRound, qn_X4, ⟨by decide, by decide, by decide +kernel⟩⟩
theorem k_X4_ringsOf : zYv RX4 yX4_ringsOf cX4_ringsOf 2 (some .int) 1 := ⟨qc_X4_ringsOf, qi_X4_ringsOf, ql_X4_ringsOf, qn_X4, ⟨by decide, by decide, by decide +kernel⟩⟩
theorem k_X4_rings : zYv RX4 yX4_rings cX4_rings 2 (some .int) 1 := ⟨qc_X4_rings, qi_X4_rings, ql_X4_rings, qn_X4, ⟨by decide, by decide, by decide +kernel⟩⟩
theorem k_X4_afterOf : zYv RX4 yX4_afterOf cX4_afterOf 6 (some .int) 2 := ⟨qc_X4_afterOf, qi_X4_afterOf, ql_X4_afterOf, qn_X4, ⟨by decide, by decide, by decide +kernel⟩⟩
theorem k_X4_after : zYv RX4 yX4_after cX4_after 3 (some .int) 2 := ⟨qc_X4_after, qi_X4_after, ql_X4_after, qn_X4, ⟨by decide, by decide, by decide +kernel⟩⟩
theorem k_X4_ofStep : zYv RX4 yX4_ofStep cX4_ofStep 4 (some .int) 2 := ⟨qc_X4_ofStep, qi_X4_ofStep, ql_X4_ofStep, qn_X4, ⟨by decide, by decide, by decide +kernel⟩⟩
theorem k_X4_tellStep : zYv RX4 yX4_tellStep cX4_tellStep 3 (some .int) 2 := ⟨qc_X4_tellStep, qi_X4_tellStep, ql_X4_tellStep, qn_X4, ⟨by decide, by decide, by decide +kernel⟩⟩
theorem k_X4_step : zYv RX4 yX4_step cX4_step 3 (some .int) 2 := ⟨qc_X4_step, qi_X4_step, ql_X4_step, qn_X4, ⟨by decide, by decide, by decide +kernel⟩⟩
theorem k_X4_as : zYv RX4 yX4_as cX4_as 4 (some .int) 2 := ⟨qc_X4_as, qi_X4_as, ql_X4_as, qn_X4, ⟨by decide, by decide, by decide +kernel⟩⟩
theorem k_X4_at : zYv RX4 yX4_at cX4_at 2 (some .int) 1 := ⟨qc_X4_at, qi_X4_at, ql_X4_at, qn_X4, ⟨by decide, by decide, by decide +kernel⟩⟩
theorem k_X4_doThen : zYv RX4 yX4_doThen cX4_doThen 3 none 1 := ⟨qc_X4_doThen, qi_X4_doThen, ql_X4_doThen, qn_X4, ⟨by decide, by decide, by decide +kernel⟩⟩
theorem k_X4_act : zYv RX4 yX4_act cX4_act 2 (some .int) 1 := ⟨qc_X4_act, qi_X4_act, ql_X4_act, qn_X4, ⟨by decide, by decide, by decide +kernel⟩⟩
theorem k_X4_whole : zYv RX4 yX4_whole cX4_whole 2 (some .int) 0 := ⟨qc_X4_whole, qi_X4_whole, ql_X4_whole, qn_X4, ⟨by decide, by decide, by decide +kernel⟩⟩
theorem k_X4_exchange : zYv RX4 yX4_exchange cX4_exchange 4 (some .int) 2 := ⟨qc_X4_exchange, qi_X4_exchange, ql_X4_exchange, qn_X4, ⟨by decide, by decide, by decide +kernel⟩⟩
theorem k_X4_homely : zYv RX4 yX4_homely cX4_homely 4 (some .int) 1 := ⟨qc_X4_homely, qi_X4_homely, ql_X4_homely, qn_X4, ⟨by decide, by decide, by decide +kernel⟩⟩
theorem k_X4_sort : zYv RX4 yX4_sort cX4_sort 2 (some .int) 0 := ⟨qc_X4_sort, qi_X4_sort, ql_X4_sort, qn_X4, ⟨by decide, by decide, by decide +kernel⟩⟩
theorem k_X4_change : zYv RX4 yX4_change cX4_change 5 (some .int) 3 := ⟨qc_X4_change, qi_X4_change, ql_X4_change, qn_X4, ⟨by decide, by decide, by decide +kernel⟩⟩
theorem k_X4_placeOf : zYv RX4 yX4_placeOf cX4_placeOf 3 (some .int) 1 := ⟨qc_X4_placeOf, qi_X4_placeOf, ql_X4_placeOf, qn_X4, ⟨by decide, by decide, by decide +kernel⟩⟩
theorem k_X4_layFar : zYv RX4 yX4_layFar cX4_layFar 5 none 1 := ⟨qc_X4_layFar, qi_X4_layFar, ql_X4_layFar, qn_X4, ⟨by decide, by decide, by decide +kernel⟩⟩
theorem k_X4_bringOf : zYv RX4 yX4_bringOf cX4_bringOf 6 (some .int) 3 := ⟨qc_X4_bringOf, qi_X4_bringOf, ql_X4_bringOf, qn_X4, ⟨by decide, by decide, by decide +kernel⟩⟩
theorem k_X4_bring : zYv RX4 yX4_bring cX4_bring 4 (some .int) 3 := ⟨qc_X4_bring, qi_X4_bring, ql_X4_bring, qn_X4, ⟨by decide, by decide, by decide +kernel⟩⟩
theorem k_X4_power : zYs yX4_power cX4_power 4 (some .int) 2 := ⟨qc_X4_power, qs_X4_power, qn_X4, ⟨by decide, by decide, by decide +kernel⟩⟩
theorem k_X4_isHomeBy : zYv RX4 yX4_isHomeBy cX4_isHomeBy 5 (some .boolean) 2 := ⟨qc_X4_isHomeBy, qi_X4_isHomeBy, ql_X4_isHomeBy, qn_X4, ⟨by decide, by decide, by decide +kernel⟩⟩
theorem k_X4_homeOf : zYv RX4 yX4_homeOf cX4_homeOf 4 (some .int) 1 := ⟨qc_X4_homeOf, qi_X4_homeOf, ql_X4_homeOf, qn_X4, ⟨by decide, by decide, by decide +kernel⟩⟩
theorem k_X4_home : zYv RX4 yX4_home cX4_home 2 (some .int) 1 := ⟨qc_X4_home, qi_X4_home, ql_X4_home, qn_X4, ⟨by decide, by decide, by decide +kernel⟩⟩
theorem k_X4_oddsOf : zYv RX4 yX4_oddsOf cX4_oddsOf 7 (some .int) 4 := ⟨qc_X4_oddsOf, qi_X4_oddsOf, ql_X4_oddsOf, qn_X4, ⟨by decide, by decide, by decide +kernel⟩⟩
theorem k_X4_odds : zYv RX4 yX4_odds cX4_odds 5 (some .int) 4 := ⟨qc_X4_odds, qi_X4_odds, ql_X4_odds, qn_X4, ⟨by decide, by decide, by decide +kernel⟩⟩
theorem k_X4_see : zYv RX4 yX4_see cX4_see 4 (some .int) 3 := ⟨qc_X4_see, qi_X4_see, ql_X4_see, qn_X4, ⟨by decide, by decide, by decide +kernel⟩⟩
theorem k_X4_forget : zYv RX4 yX4_forget cX4_forget 2 (some .int) 0 := ⟨qc_X4_forget, qi_X4_forget, ql_X4_forget, qn_X4, ⟨by decide, by decide, by decide +kernel⟩⟩
theorem k_X4_numbersOf : zYv RX4 yX4_numbersOf cX4_numbersOf 6 (some .int) 1 := ⟨qc_X4_numbersOf, qi_X4_numbersOf, ql_X4_numbersOf, qn_X4, ⟨by decide, by decide, by decide +kernel⟩⟩
theorem k_X4_watchOf : zYv RX4 yX4_watchOf cX4_watchOf 10 (some .int) 1 := ⟨qc_X4_watchOf, qi_X4_watchOf, ql_X4_watchOf, qn_X4, ⟨by decide, by decide, by decide +kernel⟩⟩
theorem k_X4_draw : zYv RX4 yX4_draw cX4_draw 2 (some .int) 1 := ⟨qc_X4_draw, qi_X4_draw, ql_X4_draw, qn_X4, ⟨by decide, by decide, by decide +kernel⟩⟩
theorem k_X4_runs : zYv RX4 yX4_runs cX4_runs 5 (some .int) 3 := ⟨qc_X4_runs, qi_X4_runs, ql_X4_runs, qn_X4, ⟨by decide, by decide, by decide +kernel⟩⟩
theorem k_X4_image : zYv RX4 yX4_image cX4_image 1 (some .int) 0 := ⟨qc_X4_image, qi_X4_image, ql_X4_image, qn_X4, ⟨by decide, by decide, by decide +kernel⟩⟩
theorem k_X4_restore : zYv RX4 yX4_restore cX4_restore 1 (some .int) 0 := ⟨qc_X4_restore, qi_X4_restore, ql_X4_restore, qn_X4, ⟨by decide, by decide, by decide +kernel⟩⟩
theorem k_X4_crossed : zYv RX4 yX4_crossed cX4_crossed 5 (some .int) 0 := ⟨qc_X4_crossed, qi_X4_crossed, ql_X4_crossed, qn_X4, ⟨by decide, by decide, by decide +kernel⟩⟩
theorem k_X4_countOf : zYv RX4 yX4_countOf cX4_countOf 2 (some .int) 1 := ⟨qc_X4_countOf, qi_X4_countOf, ql_X4_countOf, qn_X4, ⟨by decide, by decide, by decide +kernel⟩⟩
theorem k_X4_count : zYv RX4 yX4_count cX4_count 2 (some .int) 1 := ⟨qc_X4_count, qi_X4_count, ql_X4_count, qn_X4, ⟨by decide, by decide, by decide +kernel⟩⟩
theorem k_X4_say : zYv RX4 yX4_say cX4_say 3 none 1 := ⟨qc_X4_say, qi_X4_say, ql_X4_say, qn_X4, ⟨by decide, by decide, by decide +kernel⟩⟩
theorem k_X4_sayRoutine : zYv RX4 yX4_sayRoutine cX4_sayRoutine 2 none 0 := ⟨qc_X4_sayRoutine, qi_X4_sayRoutine, ql_X4_sayRoutine, qn_X4, ⟨by decide, by decide, by decide +kernel⟩⟩
theorem k_X4_digest : zYv RX4 yX4_digest cX4_digest 3 (some .long) 0 := ⟨qc_X4_digest, qi_X4_digest, ql_X4_digest, qn_X4, ⟨by decide, by decide, by decide +kernel⟩⟩
theorem k_J7_fill_53178 : zYs yJ7_fill_53178 cJ7_fill_53178 4 none 2 := ⟨qc_J7_fill_53178, qs_J7_fill_53178, qn_J7, ⟨by decide, by decide, by decide +kernel⟩⟩
end
section
/-! plain facts to paste, each family by itself; over the kit's nI, lN and upd -/
/-! ===== drawers: more things than places ===== -/
theorem fb_holes : ∀ (m n : Nat) (f : Nat → Nat), (∀ i, i < n → f i < m) → (∀ i j, i < j → j < n → f i ≠ f j) → n ≤ m := by
  intro m
  induction m with
  | zero =>
    intro n f h1 _
    rcases Nat.eq_zero_or_pos n with h | h
    · omega
    · exact absurd (h1 0 h) (Nat.not_lt_zero _)
  | succ m ih =>
    intro n f h1 h2
    by_cases hx : ∃ i, i < n ∧ f i = m
    · obtain ⟨a, ha, hfa⟩ := hx
      have hg := ih (n - 1) (fun i => if i < a then f i else f (i + 1)) (by
        intro i hi
        by_cases q : i < a
        · simp only [if_pos q]
          have b1 := h1 i (by omega)
          have b2 := h2 i a q ha
          omega
        · simp only [if_neg q]
          have b1 := h1 (i + 1) (by omega)
          have b2 := h2 a (i + 1) (by omega) (by omega)
          omega) (by
        intro i j hij hj
        by_cases q : i < a
        · by_cases r : j < a
          · simp only [if_pos q, if_pos r]
            exact h2 i j hij (by omega)
          · simp only [if_pos q, if_neg r]
            exact h2 i (j + 1) (by omega) (by omega)
        · have r : ¬ j < a := by omega
          simp only [if_neg q, if_neg r]
          exact h2 (i + 1) (j + 1) (by omega) (by omega))
      omega
    · have hg := ih n f (fun i hi => by
        have b1 := h1 i hi
        have b2 : f i ≠ m := fun e => hx ⟨i, hi, e⟩
        omega) h2
      omega
/-- two of them in one place -/
theorem fb_twice {m n : Nat} {f : Nat → Nat} (h : ∀ i, i < n → f i < m) (hm : m < n) : ∃ i j, i < j ∧ j < n ∧ f i = f j := by
  refine Classical.byContradiction fun hx => ?_
  have := fb_holes m n f h (fun i j hij hj e => hx ⟨i, j, hij, hj, e⟩)
  omega
/-- as many as places, none twice: each place is taken -/
theorem fb_onto {n : Nat} {f : Nat → Nat} (h : ∀ i, i < n → f i < n) (h2 : ∀ i j, i < j → j < n → f i ≠ f j) {y : Nat} (hy : y < n) : ∃ i, i < n ∧ f i = y := by
  refine Classical.byContradiction fun hx => ?_
  have hne : ∀ i, i < n → f i ≠ y := fun i hi e => hx ⟨i, hi, e⟩
  have := fb_holes (n - 1) n (fun i => if f i < y then f i else f i - 1) (by
    intro i hi
    have b1 := h i hi
    have b2 := hne i hi
    by_cases q : f i < y
    · simp only [if_pos q]; omega
    · simp only [if_neg q]; omega) (by
    intro i j hij hj
    have b1 := hne i (by omega)
    have b2 := hne j hj
    have b3 := h2 i j hij hj
    by_cases q : f i < y
    · by_cases r : f j < y
      · simp only [if_pos q, if_pos r]; exact b3
      · simp only [if_pos q, if_neg r]; omega
    · by_cases r : f j < y
      · simp only [if_neg q, if_pos r]; omega
      · simp only [if_neg q, if_neg r]; omega)
  omega
/-! ===== how many places have a property ===== -/
def fb_ct (p : Nat → Bool) : Nat → Nat
  | 0 => 0
  | n + 1 => fb_ct p n + (if p n then 1 else 0)
theorem fb_ct_succ (p : Nat → Bool) (n : Nat) : fb_ct p (n + 1) = fb_ct p n + (if p n then 1 else 0) := rfl
theorem fb_ct_le (p : Nat → Bool) : ∀ n, fb_ct p n ≤ n
  | 0 => Nat.le_refl _
  | n + 1 => by
    have h := fb_ct_le p n
    rw [fb_ct_succ]
    split <;> omega
theorem fb_ct_step (p : Nat → Bool) (m : Nat) : ∀ n, fb_ct p m ≤ fb_ct p (m + n)
  | 0 => Nat.le_refl _
  | n + 1 => by
    have h := fb_ct_step p m n
    show fb_ct p m ≤ fb_ct p (m + n + 1)
    rw [fb_ct_succ]
    omega
theorem fb_ct_mono (p : Nat → Bool) {m n : Nat} (h : m ≤ n) : fb_ct p m ≤ fb_ct p n := by
  have := fb_ct_step p m (n - m)
  rwa [Nat.add_sub_cancel' h] at this
theorem fb_ct_cong {p q : Nat → Bool} : ∀ {n : Nat}, (∀ k, k < n → p k = q k) → fb_ct p n = fb_ct q n
  | 0, _ => rfl
  | n + 1, h => by
    rw [fb_ct_succ, fb_ct_succ, fb_ct_cong (fun k hk => h k (by omega)), h n (by omega)]
/-- one place changed -/
theorem fb_ct_out (p : Nat → Bool) (b : Bool) {i n : Nat} (h : n ≤ i) : fb_ct (fun k => if k = i then b else p k) n = fb_ct p n :=
  fb_ct_cong fun k hk => if_neg (by omega)
theorem fb_ct_upd (p : Nat → Bool) (b : Bool) {i : Nat} : ∀ {n : Nat}, i < n → fb_ct (fun k => if k = i then b else p k) n + (if p i then 1 else 0) = fb_ct p n + (if b then 1 else 0)
  | 0, h => absurd h (Nat.not_lt_zero i)
  | n + 1, h => by
    rw [fb_ct_succ, fb_ct_succ]
    rcases Nat.lt_or_ge i n with q | q
    · have := fb_ct_upd p b q
      have e : (if n = i then b else p n) = p n := if_neg (by omega)
      rw [e]
      omega
    · have e : i = n := by omega
      subst e
      rw [fb_ct_out p b (Nat.le_refl _)]
      simp only [if_true]
      omega
theorem fb_ct_sub {p q : Nat → Bool} : ∀ {n : Nat}, (∀ k, k < n → p k = true → q k = true) → fb_ct p n ≤ fb_ct q n
  | 0, _ => Nat.le_refl _
  | n + 1, h => by
    have h1 := fb_ct_sub (n := n) (p := p) (q := q) (fun k hk => h k (by omega))
    have h2 := h n (by omega)
    rw [fb_ct_succ, fb_ct_succ]
    cases hp : p n <;> cases hq : q n <;> simp_all <;> omega
theorem fb_ct_or {p q : Nat → Bool} : ∀ {n : Nat}, (∀ k, k < n → ¬ (p k = true ∧ q k = true)) → fb_ct (fun k => p k || q k) n = fb_ct p n + fb_ct q n
  | 0, _ => rfl
  | n + 1, h => by
    have h1 := fb_ct_or (n := n) (p := p) (q := q) (fun k hk => h k (by omega))
    have h2 := h n (by omega)
    rw [fb_ct_succ, fb_ct_succ, fb_ct_succ, h1]
    cases hp : p n <;> cases hq : q n <;> simp_all <;> omega
theorem fb_ct_not (p : Nat → Bool) : ∀ n, fb_ct p n + fb_ct (fun k => !p k) n = n
  | 0 => rfl
  | n + 1 => by
    have h := fb_ct_not p n
    rw [fb_ct_succ, fb_ct_succ]
    cases p n <;> simp <;> omega
theorem fb_ct_split (p : Nat → Bool) (m : Nat) : ∀ n, fb_ct p (m + n) = fb_ct p m + fb_ct (fun k => p (m + k)) n
  | 0 => rfl
  | n + 1 => by
    have h := fb_ct_split p m n
    show fb_ct p (m + n + 1) = _
    rw [fb_ct_succ, fb_ct_succ, h, Nat.add_assoc]
theorem fb_ct_zero {p : Nat → Bool} : ∀ {n : Nat}, fb_ct p n = 0 ↔ ∀ k, k < n → p k = false
  | 0 => ⟨fun _ k hk => absurd hk (Nat.not_lt_zero k), fun _ => rfl⟩
  | n + 1 => by
    have h := fb_ct_zero (p := p) (n := n)
    rw [fb_ct_succ]
    constructor
    · intro e k hk
      have e1 : fb_ct p n = 0 := by omega
      rcases Nat.lt_or_ge k n with q | q
      · exact h.mp e1 k q
      · have ek : k = n := by omega
        subst ek
        cases hp : p k
        · rfl
        · simp [hp] at e
    · intro a
      rw [h.mpr (fun k hk => a k (by omega)), a n (by omega)]
      rfl
theorem fb_ct_pos {p : Nat → Bool} {n : Nat} : 0 < fb_ct p n ↔ ∃ k, k < n ∧ p k = true := by
  constructor
  · intro h
    refine Classical.byContradiction fun hx => ?_
    have := fb_ct_zero.mpr (fun k hk => by
      cases hp : p k
      · rfl
      · exact absurd ⟨k, hk, hp⟩ hx : ∀ k, k < n → p k = false)
    omega
  · rintro ⟨k, hk, hp⟩
    rcases Nat.eq_zero_or_pos (fb_ct p n) with e | e
    · have := fb_ct_zero.mp e k hk
      rw [this] at hp
      cases hp
    · exact e
theorem fb_ct_all {p : Nat → Bool} {n : Nat} : fb_ct p n = n ↔ ∀ k, k < n → p k = true := by
  have h := fb_ct_not p n
  constructor
  · intro e k hk
    have z : fb_ct (fun k => !p k) n = 0 := by omega
    have := fb_ct_zero.mp z k hk
    cases hp : p k
    · simp [hp] at this
    · rfl
  · intro a
    have z : fb_ct (fun k => !p k) n = 0 := fb_ct_zero.mpr (fun k hk => by simp [a k hk])
    omega
/-- the k-th place with the property -/
theorem fb_ct_kth {p : Nat → Bool} {k : Nat} : ∀ {n : Nat}, k < fb_ct p n → ∃ i, i < n ∧ p i = true ∧ fb_ct p i = k
  | 0, h => absurd h (Nat.not_lt_zero k)
  | n + 1, h => by
    rcases Nat.lt_or_ge k (fb_ct p n) with q | q
    · obtain ⟨i, h1, h2⟩ := fb_ct_kth q
      exact ⟨i, by omega, h2⟩
    · rw [fb_ct_succ] at h
      cases hp : p n
      · simp [hp] at h; omega
      · simp [hp] at h
        exact ⟨n, by omega, hp, by omega⟩
theorem fb_ct_kth_one {p : Nat → Bool} {i j : Nat} (hi : p i = true) (hj : p j = true) (e : fb_ct p i = fb_ct p j) : i = j := by
  have key : ∀ a b : Nat, a < b → p a = true → fb_ct p a < fb_ct p b := by
    intro a b hab ha
    have h := fb_ct_mono p (show a + 1 ≤ b from hab)
    rw [fb_ct_succ, ha] at h
    simp at h
    omega
  rcases Nat.lt_trichotomy i j with q | q | q
  · have := key i j q hi; omega
  · exact q
  · have := key j i q hj; omega
/-! ===== sums over a range: one place changed, parts, bounds ===== -/
def fb_sm (f : Nat → Nat) : Nat → Nat
  | 0 => 0
  | n + 1 => fb_sm f n + f n
theorem fb_sm_succ (f : Nat → Nat) (n : Nat) : fb_sm f (n + 1) = fb_sm f n + f n := rfl
theorem fb_sm_cong {f g : Nat → Nat} : ∀ {n : Nat}, (∀ k, k < n → f k = g k) → fb_sm f n = fb_sm g n
  | 0, _ => rfl
  | n + 1, h => by rw [fb_sm_succ, fb_sm_succ, fb_sm_cong (fun k hk => h k (by omega)), h n (by omega)]
theorem fb_sm_out (f : Nat → Nat) (v : Nat) {i n : Nat} (h : n ≤ i) : fb_sm (fun k => if k = i then v else f k) n = fb_sm f n :=
  fb_sm_cong fun k hk => if_neg (by omega)
theorem fb_sm_upd (f : Nat → Nat) (v : Nat) {i : Nat} : ∀ {n : Nat}, i < n → fb_sm (fun k => if k = i then v else f k) n + f i = fb_sm f n + v
  | 0, h => absurd h (Nat.not_lt_zero i)
  | n + 1, h => by
    rw [fb_sm_succ, fb_sm_succ]
    rcases Nat.lt_or_ge i n with q | q
    · have := fb_sm_upd f v q
      have e : (if n = i then v else f n) = f n := if_neg (by omega)
      rw [e]
      omega
    · have e : i = n := by omega
      subst e
      rw [fb_sm_out f v (Nat.le_refl _)]
      simp only [if_true]
      omega
theorem fb_sm_add (f g : Nat → Nat) : ∀ n, fb_sm (fun k => f k + g k) n = fb_sm f n + fb_sm g n
  | 0 => rfl
  | n + 1 => by
    have h := fb_sm_add f g n
    rw [fb_sm_succ, fb_sm_succ, fb_sm_succ, h]
    omega
theorem fb_sm_le {f g : Nat → Nat} : ∀ {n : Nat}, (∀ k, k < n → f k ≤ g k) → fb_sm f n ≤ fb_sm g n
  | 0, _ => Nat.le_refl _
  | n + 1, h => by
    have h1 := fb_sm_le (n := n) (f := f) (g := g) (fun k hk => h k (by omega))
    have h2 := h n (by omega)
    rw [fb_sm_succ, fb_sm_succ]
    omega
theorem fb_sm_const (c : Nat) : ∀ n, fb_sm (fun _ => c) n = n * c
  | 0 => by rw [Nat.zero_mul]; rfl
  | n + 1 => by rw [fb_sm_succ, fb_sm_const c n, Nat.succ_mul]
theorem fb_sm_bound {f : Nat → Nat} {c n : Nat} (h : ∀ k, k < n → f k ≤ c) : fb_sm f n ≤ n * c := by
  rw [← fb_sm_const c n]
  exact fb_sm_le h
theorem fb_sm_mono (f : Nat → Nat) (m : Nat) : ∀ n, fb_sm f m ≤ fb_sm f (m + n)
  | 0 => Nat.le_refl _
  | n + 1 => by
    have h := fb_sm_mono f m n
    show fb_sm f m ≤ fb_sm f (m + n + 1)
    rw [fb_sm_succ]
    omega
theorem fb_sm_part (f : Nat → Nat) {i n : Nat} (h : i < n) : fb_sm f i + f i ≤ fb_sm f n := by
  have := fb_sm_mono f (i + 1) (n - (i + 1))
  rw [fb_sm_succ, show i + 1 + (n - (i + 1)) = n by omega] at this
  exact this
theorem fb_sm_split (f : Nat → Nat) (m : Nat) : ∀ n, fb_sm f (m + n) = fb_sm f m + fb_sm (fun k => f (m + k)) n
  | 0 => rfl
  | n + 1 => by
    have h := fb_sm_split f m n
    show fb_sm f (m + n + 1) = _
    rw [fb_sm_succ, fb_sm_succ, h, Nat.add_assoc]
theorem fb_sm_zero {f : Nat → Nat} {n : Nat} (h : fb_sm f n = 0) : ∀ k, k < n → f k = 0 := fun k hk => by
  have := fb_sm_part f hk
  omega
/-- the same over whole numbers -/
def fb_si (f : Nat → Int) : Nat → Int
  | 0 => 0
  | n + 1 => fb_si f n + f n
theorem fb_si_succ (f : Nat → Int) (n : Nat) : fb_si f (n + 1) = fb_si f n + f n := rfl
theorem fb_si_cong {f g : Nat → Int} : ∀ {n : Nat}, (∀ k, k < n → f k = g k) → fb_si f n = fb_si g n
  | 0, _ => rfl
  | n + 1, h => by rw [fb_si_succ, fb_si_succ, fb_si_cong (fun k hk => h k (by omega)), h n (by omega)]
theorem fb_si_out (f : Nat → Int) (v : Int) {i n : Nat} (h : n ≤ i) : fb_si (fun k => if k = i then v else f k) n = fb_si f n :=
  fb_si_cong fun k hk => if_neg (by omega)
theorem fb_si_upd (f : Nat → Int) (v : Int) {i : Nat} : ∀ {n : Nat}, i < n → fb_si (fun k => if k = i then v else f k) n = fb_si f n - f i + v
  | 0, h => absurd h (Nat.not_lt_zero i)
  | n + 1, h => by
    rw [fb_si_succ, fb_si_succ]
    rcases Nat.lt_or_ge i n with q | q
    · have := fb_si_upd f v q
      have e : (if n = i then v else f n) = f n := if_neg (by omega)
      rw [e]
      omega
    · have e : i = n := by omega
      subst e
      rw [fb_si_out f v (Nat.le_refl _)]
      simp only [if_true]
      omega
theorem fb_si_add (f g : Nat → Int) : ∀ n, fb_si (fun k => f k + g k) n = fb_si f n + fb_si g n
  | 0 => rfl
  | n + 1 => by
    have h := fb_si_add f g n
    rw [fb_si_succ, fb_si_succ, fb_si_succ, h]
    omega
theorem fb_si_sub (f g : Nat → Int) : ∀ n, fb_si (fun k => f k - g k) n = fb_si f n - fb_si g n
  | 0 => rfl
  | n + 1 => by
    have h := fb_si_sub f g n
    rw [fb_si_succ, fb_si_succ, fb_si_succ, h]
    omega
theorem fb_si_mul (c : Int) (f : Nat → Int) : ∀ n, fb_si (fun k => c * f k) n = c * fb_si f n
  | 0 => (Int.mul_zero c).symm
  | n + 1 => by
    have h := fb_si_mul c f n
    rw [fb_si_succ, fb_si_succ, h, Int.mul_add]
theorem fb_si_split (f : Nat → Int) (m : Nat) : ∀ n, fb_si f (m + n) = fb_si f m + fb_si (fun k => f (m + k)) n
  | 0 => (Int.add_zero _).symm
  | n + 1 => by
    have h := fb_si_split f m n
    show fb_si f (m + n + 1) = _
    rw [fb_si_succ, fb_si_succ, h, Int.add_assoc]
theorem fb_si_nat (f : Nat → Nat) : ∀ n, fb_si (fun k => (f k : Int)) n = (fb_sm f n : Int)
  | 0 => rfl
  | n + 1 => by
    have h := fb_si_nat f n
    rw [fb_si_succ, fb_sm_succ, h]
    omega
theorem fb_si_bound {f : Nat → Int} {c : Int} (hc : 0 ≤ c) : ∀ {n : Nat}, (∀ k, k < n → -c ≤ f k ∧ f k ≤ c) → -(n * c) ≤ fb_si f n ∧ fb_si f n ≤ n * c
  | 0, _ => by simp [fb_si]
  | n + 1, h => by
    have h1 := fb_si_bound (n := n) (f := f) hc (fun k hk => h k (by omega))
    have h2 := h n (by omega)
    have e : ((n + 1 : Nat) : Int) * c = n * c + c := by rw [Int.natCast_add, Int.add_mul]; simp
    rw [fb_si_succ, e]
    omega
/-! ===== bits of a long that isn't negative ===== -/
theorem fb_andL (a b : Nat) : lN a &&& lN b = lN (a &&& b) := by
  apply Int64.toBitVec_inj.1
  show BitVec.ofNat 64 a &&& BitVec.ofNat 64 b = BitVec.ofNat 64 (a &&& b)
  apply BitVec.eq_of_getLsbD_eq
  intro i hi
  simp [hi]
theorem fb_orL (a b : Nat) : lN a ||| lN b = lN (a ||| b) := by
  apply Int64.toBitVec_inj.1
  show BitVec.ofNat 64 a ||| BitVec.ofNat 64 b = BitVec.ofNat 64 (a ||| b)
  apply BitVec.eq_of_getLsbD_eq
  intro i hi
  simp [hi]
theorem fb_xorL (a b : Nat) : lN a ^^^ lN b = lN (a ^^^ b) := by
  apply Int64.toBitVec_inj.1
  show BitVec.ofNat 64 a ^^^ BitVec.ofNat 64 b = BitVec.ofNat 64 (a ^^^ b)
  apply BitVec.eq_of_getLsbD_eq
  intro i hi
  simp [hi]
theorem fb_xorI (a b : Nat) : nI a ^^^ nI b = nI (a ^^^ b) := by
  apply Int32.toBitVec_inj.1
  show BitVec.ofNat 32 a ^^^ BitVec.ofNat 32 b = BitVec.ofNat 32 (a ^^^ b)
  apply BitVec.eq_of_getLsbD_eq
  intro i hi
  simp [hi]
theorem fb_maskL (n k : Nat) : lN n &&& lN (2 ^ k - 1) = lN (n % 2 ^ k) := by rw [fb_andL, Nat.and_two_pow_sub_one_eq_mod]
theorem fb_or_sumL {a k : Nat} (b : Nat) (h : a < 2 ^ k) : lN (2 ^ k * b) ||| lN a = lN (2 ^ k * b + a) := by rw [fb_orL, Nat.two_pow_add_eq_or_of_lt h]
theorem fb_lN_inj {a b : Nat} (ha : a < 2 ^ 63) (hb : b < 2 ^ 63) : lN a = lN b ↔ a = b := by
  constructor
  · intro h
    have h1 : (BitVec.ofNat 64 a).toNat = (BitVec.ofNat 64 b).toNat := congrArg (fun x : Int64 => x.toBitVec.toNat) h
    rw [BitVec.toNat_ofNat, BitVec.toNat_ofNat, Nat.mod_eq_of_lt (by omega), Nat.mod_eq_of_lt (by omega)] at h1
    exact h1
  · rintro rfl; rfl
theorem fb_bit_nat (n j : Nat) : n &&& 2 ^ j = 0 ↔ n.testBit j = false := by
  constructor
  · intro h
    have h1 : (n &&& 2 ^ j).testBit j = false := by rw [h]; simp
    rw [Nat.testBit_and] at h1
    simpa using h1
  · intro h
    apply Nat.eq_of_testBit_eq
    intro i
    rw [Nat.testBit_and]
    by_cases hi : j = i
    · subst hi; simp [h]
    · first | (simp [Nat.testBit_two_pow, hi]; done) | (simp [Nat.testBit_two_pow_of_ne hi]; done)
/-- one bit of a long -/
theorem fb_bitL {n j : Nat} (hj : j < 63) : lN n &&& lN (2 ^ j) = 0 ↔ n.testBit j = false := by
  have h2 : (2 : Nat) ^ j < 2 ^ 63 := Nat.pow_lt_pow_right (by decide) hj
  have hle : n &&& 2 ^ j ≤ 2 ^ j := Nat.and_le_right
  rw [fb_andL, ← fb_bit_nat, show (0 : Int64) = lN 0 from rfl]
  exact fb_lN_inj (by omega) (by decide)
/-- a bit set, a bit taken off -/
theorem fb_bit_set (n j i : Nat) : (n ||| 2 ^ j).testBit i = (n.testBit i || decide (i = j)) := by
  rw [Nat.testBit_or]
  by_cases h : j = i
  · subst h; simp
  · have h2 : ¬ i = j := fun e => h e.symm
    first | (simp [Nat.testBit_two_pow, h, h2]; done) | (simp [Nat.testBit_two_pow_of_ne h, h2]; done)
theorem fb_bit_flip (n j i : Nat) : (n ^^^ 2 ^ j).testBit i = (n.testBit i ^^ decide (i = j)) := by
  rw [Nat.testBit_xor]
  by_cases h : j = i
  · subst h; simp
  · have h2 : ¬ i = j := fun e => h e.symm
    first | (simp [Nat.testBit_two_pow, h, h2]; done) | (simp [Nat.testBit_two_pow_of_ne h, h2]; done)
/-! ===== a stretch of an array written over by a function ===== -/
def fb_put {α : Type} (f g : Nat → α) (a n : Nat) : Nat → α := fun k => if a ≤ k ∧ k < a + n then g (k - a) else f k
theorem fb_put_0 {α : Type} (f g : Nat → α) (a : Nat) : fb_put f g a 0 = f := funext fun k => if_neg (by omega)
theorem fb_put_in {α : Type} {f g : Nat → α} {a n k : Nat} (h1 : a ≤ k) (h2 : k < a + n) : fb_put f g a n k = g (k - a) := if_pos ⟨h1, h2⟩
theorem fb_put_out {α : Type} {f g : Nat → α} {a n k : Nat} (h : k < a ∨ a + n ≤ k) : fb_put f g a n k = f k := if_neg (by omega)
theorem fb_put_succ (f g : Nat → Int32) (a n : Nat) : upd (fb_put f g a n) (a + n) (g n) = fb_put f g a (n + 1) := by
  funext k
  by_cases h : k = a + n
  · subst h
    simp [upd, fb_put]
  · by_cases h1 : a ≤ k ∧ k < a + n
    · have h2 : a ≤ k ∧ k < a + (n + 1) := by omega
      simp only [upd, fb_put, if_neg h, if_pos h1, if_pos h2]
    · have h2 : ¬ (a ≤ k ∧ k < a + (n + 1)) := by omega
      simp only [upd, fb_put, if_neg h, if_neg h1, if_neg h2]
/-- .. from the far end down -/
theorem fb_put_down (f g : Nat → Int32) {a n m : Nat} (h : m < n) : upd (fb_put f (fun k => g (k + (m + 1))) (a + (m + 1)) (n - (m + 1))) (a + m) (g m) = fb_put f (fun k => g (k + m)) (a + m) (n - m) := by
  funext k
  by_cases h0 : k = a + m
  · subst h0
    simp only [upd, if_true]
    rw [fb_put_in (by omega) (by omega)]
    exact congrArg g (by omega)
  · simp only [upd, if_neg h0]
    by_cases h1 : a + (m + 1) ≤ k ∧ k < a + (m + 1) + (n - (m + 1))
    · rw [fb_put_in h1.1 h1.2, fb_put_in (by omega) (by omega)]
      exact congrArg g (by omega)
    · rw [fb_put_out (by omega), fb_put_out (by omega)]
theorem fb_put_cong {α : Type} {f f2 g g2 : Nat → α} {a n : Nat} (hf : ∀ k, (k < a ∨ a + n ≤ k) → f k = f2 k) (hg : ∀ k, k < n → g k = g2 k) : fb_put f g a n = fb_put f2 g2 a n := by
  funext k
  by_cases h : a ≤ k ∧ k < a + n
  · rw [fb_put_in h.1 h.2, fb_put_in h.1 h.2, hg _ (by omega)]
  · rw [fb_put_out (by omega), fb_put_out (by omega), hf _ (by omega)]
/-! ===== the least, the first, the best so far; that there is one alone ===== -/
theorem fb_first {p : Nat → Prop} [DecidablePred p] : ∀ {n : Nat}, (∃ i, i < n ∧ p i) → ∃ i, i < n ∧ p i ∧ ∀ j, j < i → ¬ p j
  | 0, h => by obtain ⟨i, hi, -⟩ := h; exact absurd hi (Nat.not_lt_zero i)
  | n + 1, h => by
    by_cases q : ∃ i, i < n ∧ p i
    · obtain ⟨i, h1, h2⟩ := fb_first q
      exact ⟨i, by omega, h2⟩
    · obtain ⟨i, h1, h2⟩ := h
      have e : i = n := by
        rcases Nat.lt_or_ge i n with r | r
        · exact absurd ⟨i, r, h2⟩ q
        · omega
      subst e
      exact ⟨i, by omega, h2, fun j hj hp => q ⟨j, hj, hp⟩⟩
theorem fb_first_one {p : Nat → Prop} {i j : Nat} (hi : p i) (hi2 : ∀ k, k < i → ¬ p k) (hj : p j) (hj2 : ∀ k, k < j → ¬ p k) : i = j := by
  rcases Nat.lt_trichotomy i j with q | q | q
  · exact absurd hi (hj2 i q)
  · exact q
  · exact absurd hj (hi2 j q)
theorem fb_last {p : Nat → Prop} [DecidablePred p] : ∀ {n : Nat}, (∃ i, i < n ∧ p i) → ∃ i, i < n ∧ p i ∧ ∀ j, i < j → j < n → ¬ p j
  | 0, h => by obtain ⟨i, hi, -⟩ := h; exact absurd hi (Nat.not_lt_zero i)
  | n + 1, h => by
    by_cases q : p n
    · exact ⟨n, by omega, q, fun j h1 h2 => by omega⟩
    · obtain ⟨i, h1, h2⟩ := h
      have hi : i < n := by
        rcases Nat.lt_or_ge i n with r | r
        · exact r
        · have e : i = n := by omega
          subst e
          exact absurd h2 q
      obtain ⟨i2, a1, a2, a3⟩ := fb_last (n := n) ⟨i, hi, h2⟩
      refine ⟨i2, by omega, a2, fun j b1 b2 => ?_⟩
      rcases Nat.lt_or_ge j n with r | r
      · exact a3 j b1 r
      · have e : j = n := by omega
        subst e
        exact q
/-- the first greatest -/
theorem fb_best (f : Nat → Int) : ∀ {n : Nat}, 0 < n → ∃ i, i < n ∧ (∀ j, j < n → f j ≤ f i) ∧ ∀ j, j < i → f j < f i
  | 0, h => absurd h (Nat.lt_irrefl 0)
  | 1, _ => ⟨0, by omega, fun j hj => by have e : j = 0 := by omega
                                         subst e; exact Int.le_refl _, fun j hj => absurd hj (Nat.not_lt_zero j)⟩
  | n + 2, _ => by
    obtain ⟨i, h1, h2, h3⟩ := fb_best f (n := n + 1) (by omega)
    by_cases q : f i < f (n + 1)
    · refine ⟨n + 1, by omega, fun j hj => ?_, fun j hj => ?_⟩
      · rcases Nat.lt_or_ge j (n + 1) with r | r
        · have := h2 j r; omega
        · have e : j = n + 1 := by omega
          subst e; exact Int.le_refl _
      · have := h2 j hj; omega
    · refine ⟨i, by omega, fun j hj => ?_, h3⟩
      rcases Nat.lt_or_ge j (n + 1) with r | r
      · exact h2 j r
      · have e : j = n + 1 := by omega
        subst e; omega
theorem fb_best_one {f : Nat → Int} {n i j : Nat} (hi : i < n) (hi2 : ∀ k, k < n → f k ≤ f i) (hi3 : ∀ k, k < i → f k < f i) (hj : j < n) (hj2 : ∀ k, k < n → f k ≤ f j) (hj3 : ∀ k, k < j → f k < f j) : i = j := by
  rcases Nat.lt_trichotomy i j with q | q | q
  · have a := hj3 i q
    have b := hi2 j hj
    omega
  · exact q
  · have a := hi3 j q
    have b := hj2 i hi
    omega
/-- the first least -/
theorem fb_low (f : Nat → Int) {n : Nat} (h : 0 < n) : ∃ i, i < n ∧ (∀ j, j < n → f i ≤ f j) ∧ ∀ j, j < i → f i < f j := by
  obtain ⟨i, h1, h2, h3⟩ := fb_best (fun k => -f k) h
  exact ⟨i, h1, fun j hj => by have := h2 j hj; omega, fun j hj => by have := h3 j hj; omega⟩
/-! ===== signed ints as whole numbers, within bounds ===== -/
theorem fb_rng (x : Int32) : -2147483648 ≤ x.toInt ∧ x.toInt < 2147483648 := by
  have h1 := Int32.le_toInt x
  have h2 := Int32.toInt_lt x
  omega
theorem fb_bmod {z : Int} (h1 : -2147483648 ≤ z) (h2 : z < 2147483648) : z.bmod (2 ^ 32) = z := by
  rw [Int.bmod_eq_of_le (by omega) (by omega)]
theorem fb_addI {x y : Int32} (h1 : -2147483648 ≤ x.toInt + y.toInt) (h2 : x.toInt + y.toInt < 2147483648) : (x + y).toInt = x.toInt + y.toInt := by
  rw [Int32.toInt_add, fb_bmod h1 h2]
theorem fb_subI {x y : Int32} (h1 : -2147483648 ≤ x.toInt - y.toInt) (h2 : x.toInt - y.toInt < 2147483648) : (x - y).toInt = x.toInt - y.toInt := by
  rw [Int32.toInt_sub, fb_bmod h1 h2]
theorem fb_mulI {x y : Int32} (h1 : -2147483648 ≤ x.toInt * y.toInt) (h2 : x.toInt * y.toInt < 2147483648) : (x * y).toInt = x.toInt * y.toInt := by
  rw [Int32.toInt_mul, fb_bmod h1 h2]
theorem fb_negI {x : Int32} (h : x.toInt ≠ -2147483648) : (-x).toInt = -x.toInt := by
  have := fb_rng x
  rw [Int32.toInt_neg, fb_bmod (by omega) (by omega)]
theorem fb_ofI {z : Int} (h1 : -2147483648 ≤ z) (h2 : z < 2147483648) : (Int32.ofInt z).toInt = z := by
  rw [Int32.toInt_ofInt, fb_bmod h1 h2]
theorem fb_asI (x : Int32) : Int32.ofInt x.toInt = x := Int32.ofInt_toInt x
theorem fb_rngL (x : Int64) : -9223372036854775808 ≤ x.toInt ∧ x.toInt < 9223372036854775808 := by
  have h1 := Int64.le_toInt x
  have h2 := Int64.toInt_lt x
  omega
theorem fb_bmodL {z : Int} (h1 : -9223372036854775808 ≤ z) (h2 : z < 9223372036854775808) : z.bmod (2 ^ 64) = z := by
  rw [Int.bmod_eq_of_le (by omega) (by omega)]
theorem fb_addL {x y : Int64} (h1 : -9223372036854775808 ≤ x.toInt + y.toInt) (h2 : x.toInt + y.toInt < 9223372036854775808) : (x + y).toInt = x.toInt + y.toInt := by
  rw [Int64.toInt_add, fb_bmodL h1 h2]
theorem fb_subL {x y : Int64} (h1 : -9223372036854775808 ≤ x.toInt - y.toInt) (h2 : x.toInt - y.toInt < 9223372036854775808) : (x - y).toInt = x.toInt - y.toInt := by
  rw [Int64.toInt_sub, fb_bmodL h1 h2]
theorem fb_mulL {x y : Int64} (h1 : -9223372036854775808 ≤ x.toInt * y.toInt) (h2 : x.toInt * y.toInt < 9223372036854775808) : (x * y).toInt = x.toInt * y.toInt := by
  rw [Int64.toInt_mul, fb_bmodL h1 h2]
/-! ===== cuts of what is narrow already ===== -/
theorem fb_byte {x : Int32} (h1 : -128 ≤ x.toInt) (h2 : x.toInt < 128) : x.toInt8.toInt32 = x := by
  apply Int32.toInt_inj.1
  rw [Int8.toInt_toInt32, Int32.toInt_toInt8, Int.bmod_eq_of_le (by omega) (by omega)]
theorem fb_short {x : Int32} (h1 : -32768 ≤ x.toInt) (h2 : x.toInt < 32768) : x.toInt16.toInt32 = x := by
  apply Int32.toInt_inj.1
  rw [Int16.toInt_toInt32, Int32.toInt_toInt16, Int.bmod_eq_of_le (by omega) (by omega)]
theorem fb_byte_rng (x : Int32) : -128 ≤ x.toInt8.toInt32.toInt ∧ x.toInt8.toInt32.toInt < 128 := by
  rw [Int8.toInt_toInt32]
  have h1 := Int8.le_toInt x.toInt8
  have h2 := Int8.toInt_lt x.toInt8
  omega
theorem fb_short_rng (x : Int32) : -32768 ≤ x.toInt16.toInt32.toInt ∧ x.toInt16.toInt32.toInt < 32768 := by
  rw [Int16.toInt_toInt32]
  have h1 := Int16.le_toInt x.toInt16
  have h2 := Int16.toInt_lt x.toInt16
  omega
theorem fb_byte_twice (x : Int32) : x.toInt8.toInt32.toInt8.toInt32 = x.toInt8.toInt32 := fb_byte (fb_byte_rng x).1 (fb_byte_rng x).2
theorem fb_short_twice (x : Int32) : x.toInt16.toInt32.toInt16.toInt32 = x.toInt16.toInt32 := fb_short (fb_short_rng x).1 (fb_short_rng x).2
theorem fb_char {n : Nat} (h : n < 65536) : (nI n).toUInt32.toUInt16.toUInt32.toInt32 = nI n := by
  apply Int32.toBitVec_inj.1
  apply BitVec.eq_of_toNat_eq
  have e1 : (nI n).toBitVec.toNat = n := by
    show (BitVec.ofNat 32 n).toNat = n
    rw [BitVec.toNat_ofNat, Nat.mod_eq_of_lt (by omega)]
  have e2 : ((nI n).toUInt32.toUInt16.toUInt32).toNat = n := by
    rw [UInt16.toNat_toUInt32, UInt32.toNat_toUInt16]
    show (nI n).toBitVec.toNat % 2 ^ 16 = n
    rw [e1, Nat.mod_eq_of_lt (by omega)]
  rw [e1]
  exact e2
end
section
/-! plain facts on numbers and arrays, to paste: each family by itself; over the kit's rows on nI and upd -/
/-! ===== order of ints, in all its forms, and through longs ===== -/
theorem fa_lt (a b : Int32) : a < b ↔ a.toInt < b.toInt := Int32.lt_iff_toInt_lt
theorem fa_le (a b : Int32) : a ≤ b ↔ a.toInt ≤ b.toInt := Int32.le_iff_toInt_le
theorem fa_eq (a b : Int32) : a = b ↔ a.toInt = b.toInt := Int32.toInt_inj.symm
theorem fa_lt64 (a b : Int64) : a < b ↔ a.toInt < b.toInt := Int64.lt_iff_toInt_lt
theorem fa_le64 (a b : Int64) : a ≤ b ↔ a.toInt ≤ b.toInt := Int64.le_iff_toInt_le
theorem fa_eq64 (a b : Int64) : a = b ↔ a.toInt = b.toInt := Int64.toInt_inj.symm
/-- a comparison of two ints taken as longs -/
theorem fa_wide_lt (a b : Int32) : a.toInt64 < b.toInt64 ↔ a < b := by rw [fa_lt64, fa_lt, Int32.toInt_toInt64, Int32.toInt_toInt64]
theorem fa_wide_le (a b : Int32) : a.toInt64 ≤ b.toInt64 ↔ a ≤ b := by rw [fa_le64, fa_le, Int32.toInt_toInt64, Int32.toInt_toInt64]
theorem fa_wide_eq (a b : Int32) : a.toInt64 = b.toInt64 ↔ a = b := by rw [fa_eq64, fa_eq, Int32.toInt_toInt64, Int32.toInt_toInt64]
/-- one strict comparison gives all the others -/
theorem fa_of_lt {a b : Int32} (h : a < b) : a ≤ b ∧ ¬ b ≤ a ∧ ¬ b < a ∧ a ≠ b ∧ b ≠ a := by
  rw [fa_lt] at h
  refine ⟨?_, ?_, ?_, ?_, ?_⟩
  · rw [fa_le]; omega
  · rw [fa_le]; omega
  · rw [fa_lt]; omega
  · intro e; rw [fa_eq] at e; omega
  · intro e; rw [fa_eq] at e; omega
theorem fa_of_nlt {a b : Int32} (h : ¬ a < b) : b ≤ a := by
  rw [fa_lt] at h
  rw [fa_le]
  omega
theorem fa_of_nle {a b : Int32} (h : ¬ a ≤ b) : b < a := by
  rw [fa_le] at h
  rw [fa_lt]
  omega
theorem fa_le_ne {a b : Int32} (h : a ≤ b) (h2 : a ≠ b) : a < b := by
  rw [fa_le] at h
  rw [fa_lt]
  have h3 : a.toInt ≠ b.toInt := fun e => h2 ((fa_eq a b).mpr e)
  omega
theorem fa_three (a b : Int32) : a < b ∨ a = b ∨ b < a := by
  rw [fa_lt, fa_lt, fa_eq]
  omega
theorem fa_trans {a b c : Int32} (h : a < b) (h2 : b ≤ c) : a < c := by
  rw [fa_lt] at *
  rw [fa_le] at h2
  omega
/-! ===== small literals as numbers ===== -/
theorem fa_lit (n : Nat) : (OfNat.ofNat n : Int32) = nI n := rfl
theorem fa_litL (n : Nat) : (OfNat.ofNat n : Int64) = lN n := rfl
/-! ===== bits of a number: 'or', masks, one bit ===== -/
theorem fa_and (a b : Nat) : nI a &&& nI b = nI (a &&& b) := by
  apply Int32.toBitVec_inj.1
  show BitVec.ofNat 32 a &&& BitVec.ofNat 32 b = BitVec.ofNat 32 (a &&& b)
  apply BitVec.eq_of_getLsbD_eq
  intro i hi
  simp [hi]
theorem fa_or (a b : Nat) : nI a ||| nI b = nI (a ||| b) := by
  apply Int32.toBitVec_inj.1
  show BitVec.ofNat 32 a ||| BitVec.ofNat 32 b = BitVec.ofNat 32 (a ||| b)
  apply BitVec.eq_of_getLsbD_eq
  intro i hi
  simp [hi]
/-- a remainder by a power of two, as a mask -/
theorem fa_mask (n k : Nat) : nI n &&& nI (2 ^ k - 1) = nI (n % 2 ^ k) := by rw [fa_and, Nat.and_two_pow_sub_one_eq_mod]
/-- 'or' of a high part and a low one that don't meet is their sum -/
theorem fa_or_sum {a k : Nat} (b : Nat) (h : a < 2 ^ k) : nI (2 ^ k * b) ||| nI a = nI (2 ^ k * b + a) := by rw [fa_or, Nat.two_pow_add_eq_or_of_lt h]
/-- one bit, by 'and' with a power of two -/
theorem fa_bit {n j : Nat} (hj : j < 31) : nI n &&& nI (2 ^ j) = 0 ↔ n.testBit j = false := by
  have h2 : (2 : Nat) ^ j < 2 ^ 31 := Nat.pow_lt_pow_right (by decide) hj
  have hle : n &&& 2 ^ j ≤ 2 ^ j := Nat.and_le_right
  have e : n &&& 2 ^ j = 0 ↔ n.testBit j = false := by
    constructor
    · intro h
      have h1 : (n &&& 2 ^ j).testBit j = false := by rw [h]; simp
      rw [Nat.testBit_and] at h1
      first | simpa using h1 | simpa [Nat.testBit_two_pow_self] using h1 | simpa [Nat.testBit_two_pow] using h1
    · intro h
      apply Nat.eq_of_testBit_eq
      intro i
      rw [Nat.testBit_and]
      by_cases hi : j = i
      · subst hi; simp [h]
      · first | (simp [Nat.testBit_two_pow, hi]; done) | (simp [Nat.testBit_two_pow_of_ne hi]; done)
  rw [fa_and]
  constructor
  · intro h
    apply e.mp
    rcases Nat.eq_zero_or_pos (n &&& 2 ^ j) with z | z
    · exact z
    · exact absurd h (nI_ne0 z (Nat.lt_of_le_of_lt hle h2))
  · intro h
    rw [e.mpr h]; exact nI_0
/-- a remainder by a power of two of a number that isn't negative, as Java divides -/
theorem fa_rem {a k : Nat} (ha : a < 2 ^ 31) (hk : k < 31) : nI a - nI a / nI (2 ^ k) * nI (2 ^ k) = nI (a % 2 ^ k) := pk_rem ha (Nat.two_pow_pos k) (Nat.pow_lt_pow_right (by decide) hk)
/-! ===== cuts to a byte, a short ===== -/
theorem fa_byte_xor (x y : Int32) : (x ^^^ y).toInt8 = x.toInt8 ^^^ y.toInt8 := by
  apply Int8.toBitVec_inj.1
  apply BitVec.eq_of_getLsbD_eq
  intro i hi
  first | (simp [hi]; done) | (simp [hi, BitVec.getLsbD_setWidth, BitVec.getLsbD_signExtend]; done)
theorem fa_short_xor (x y : Int32) : (x ^^^ y).toInt16 = x.toInt16 ^^^ y.toInt16 := by
  apply Int16.toBitVec_inj.1
  apply BitVec.eq_of_getLsbD_eq
  intro i hi
  first | (simp [hi]; done) | (simp [hi, BitVec.getLsbD_setWidth, BitVec.getLsbD_signExtend]; done)
/-- the cut to a byte sees the low byte alone -/
theorem fa_byte_low (x : Int32) : (x &&& 255).toInt8 = x.toInt8 := by
  apply Int8.toBitVec_inj.1
  apply BitVec.eq_of_getLsbD_eq
  intro i hi
  have h2 : (255 : Int32).toBitVec.getLsbD i = true := by
    have : ∀ j : Fin 8, (255 : Int32).toBitVec.getLsbD j.val = true := by decide +kernel
    exact this ⟨i, hi⟩
  have h4 : (x &&& 255).toBitVec.getLsbD i = x.toBitVec.getLsbD i := by
    show (x.toBitVec &&& (255 : Int32).toBitVec).getLsbD i = _
    rw [BitVec.getLsbD_and, h2, Bool.and_true]
  have h3 : i < 32 := by omega
  first
    | (show (((x &&& 255).toBitVec).signExtend 8).getLsbD i = (x.toBitVec.signExtend 8).getLsbD i; rw [BitVec.getLsbD_signExtend, BitVec.getLsbD_signExtend, if_pos h3, if_pos h3, h4])
    | (show (((x &&& 255).toBitVec).setWidth 8).getLsbD i = (x.toBitVec.setWidth 8).getLsbD i; rw [BitVec.getLsbD_setWidth, BitVec.getLsbD_setWidth, h4])
    | (simp [hi, h3, h4]; done)
theorem fa_short_low (x : Int32) : (x &&& 65535).toInt16 = x.toInt16 := by
  apply Int16.toBitVec_inj.1
  apply BitVec.eq_of_getLsbD_eq
  intro i hi
  have h2 : (65535 : Int32).toBitVec.getLsbD i = true := by
    have : ∀ j : Fin 16, (65535 : Int32).toBitVec.getLsbD j.val = true := by decide +kernel
    exact this ⟨i, hi⟩
  have h4 : (x &&& 65535).toBitVec.getLsbD i = x.toBitVec.getLsbD i := by
    show (x.toBitVec &&& (65535 : Int32).toBitVec).getLsbD i = _
    rw [BitVec.getLsbD_and, h2, Bool.and_true]
  have h3 : i < 32 := by omega
  first
    | (show (((x &&& 65535).toBitVec).signExtend 16).getLsbD i = (x.toBitVec.signExtend 16).getLsbD i; rw [BitVec.getLsbD_signExtend, BitVec.getLsbD_signExtend, if_pos h3, if_pos h3, h4])
    | (show (((x &&& 65535).toBitVec).setWidth 16).getLsbD i = (x.toBitVec.setWidth 16).getLsbD i; rw [BitVec.getLsbD_setWidth, BitVec.getLsbD_setWidth, h4])
    | (simp [hi, h3, h4]; done)
/-- a small number is its own byte, its own short -/
theorem fa_byte_small {n : Nat} (h : n < 128) : (nI n).toInt8.toInt32 = nI n := by
  have : ∀ j : Fin 128, (nI j.val).toInt8.toInt32 = nI j.val := by decide +kernel
  exact this ⟨n, h⟩
/-! ===== absolute difference ===== -/
theorem fa_absdiff {a b : Nat} (ha : a < 2 ^ 31) (hb : b < 2 ^ 31) : (if nI a < nI b then nI b - nI a else nI a - nI b) = nI (if a < b then b - a else a - b) := by
  by_cases h : a < b
  · rw [if_pos (nI_lt h hb), if_pos h]
    exact pk_sub (Nat.le_of_lt h)
  · rw [if_neg (nI_nlt (Nat.le_of_not_lt h) ha), if_neg h]
    exact pk_sub (Nat.le_of_not_lt h)
/-! ===== an array behind i stores, a conditional store, a row copied ===== -/
/-- f where k < i, what stood there else -/
def fa_fill {α : Type} (f g : Nat → α) (i : Nat) : Nat → α := fun k => if k < i then f k else g k
theorem fa_fill_0 {α : Type} (f g : Nat → α) : fa_fill f g 0 = g := funext fun k => if_neg (Nat.not_lt_zero k)
theorem fa_fill_in {α : Type} {f g : Nat → α} {i k : Nat} (h : k < i) : fa_fill f g i k = f k := if_pos h
theorem fa_fill_out {α : Type} {f g : Nat → α} {i k : Nat} (h : i ≤ k) : fa_fill f g i k = g k := if_neg (Nat.not_lt.mpr h)
theorem fa_fill_succ (f g : Nat → Int32) (i : Nat) : upd (fa_fill f g i) i (f i) = fa_fill f g (i + 1) := by
  funext k
  by_cases e : k = i
  · subst e
    rw [pk_us]
    exact (if_pos (Nat.lt_succ_self k)).symm
  · rw [pk_un e]
    by_cases h : k < i
    · rw [fa_fill_in h, fa_fill_in (Nat.lt_succ_of_lt h)]
    · rw [fa_fill_out (Nat.le_of_not_lt h), fa_fill_out (by omega)]
/-- a store that changes nothing -/
theorem fa_upd_same {f : Nat → Int32} {i : Nat} {x : Int32} (h : f i = x) : upd f i x = f := by
  funext k
  by_cases e : k = i
  · subst e
    rw [pk_us, h]
  · rw [pk_un e]
/-- a store under a condition, told as one -/
theorem fa_upd_if (c : Prop) [Decidable c] (f : Nat → Int32) (i : Nat) (x : Int32) : (if c then upd f i x else f) = upd f i (if c then x else f i) := by
  by_cases h : c
  · rw [if_pos h, if_pos h]
  · rw [if_neg h, if_neg h, fa_upd_same rfl]
/-- two stores at one place, at two -/
theorem fa_upd_twice (f : Nat → Int32) (i : Nat) (x y : Int32) : upd (upd f i x) i y = upd f i y := by
  funext k
  by_cases e : k = i
  · subst e
    rw [pk_us, pk_us]
  · rw [pk_un e, pk_un e, pk_un e]
theorem fa_upd_swap (f : Nat → Int32) {i j : Nat} (h : i ≠ j) (x y : Int32) : upd (upd f i x) j y = upd (upd f j y) i x := by
  funext k
  by_cases e : k = i
  · subst e
    rw [pk_un h, pk_us, pk_us]
  · by_cases e2 : k = j
    · subst e2
      rw [pk_us, pk_un e, pk_us]
    · rw [pk_un e2, pk_un e, pk_un e, pk_un e2]
/-! ===== the first index with a property; a count ===== -/
/-- the first k < n with p k, n if there is none -/
def fa_first (p : Nat → Bool) : Nat → Nat
  | 0 => 0
  | n + 1 => if fa_first p n < n then fa_first p n else if p n then n else n + 1
theorem fa_first_le (p : Nat → Bool) : ∀ n, fa_first p n ≤ n
  | 0 => Nat.le_refl 0
  | n + 1 => by
    have ih := fa_first_le p n
    unfold fa_first
    split
    · omega
    · split
      · omega
      · omega
theorem fa_first_no (p : Nat → Bool) : ∀ n k, k < fa_first p n → p k = false
  | 0, k, h => absurd h (Nat.not_lt_zero k)
  | n + 1, k, h => by
    have ih := fa_first_no p n
    have hl := fa_first_le p n
    unfold fa_first at h
    split at h
    · exact ih k h
    · rename_i h1
      split at h
      · exact ih k (by omega)
      · rename_i h2
        by_cases e : k = n
        · subst e
          exact Bool.eq_false_iff.mpr h2
        · exact ih k (by omega)
theorem fa_first_yes (p : Nat → Bool) : ∀ n, fa_first p n < n → p (fa_first p n) = true
  | 0, h => absurd h (Nat.not_lt_zero _)
  | n + 1, h => by
    have ih := fa_first_yes p n
    have hl := fa_first_le p n
    unfold fa_first at h ⊢
    split at h
    · rename_i h1
      rw [if_pos h1]
      exact ih h1
    · rename_i h1
      rw [if_neg h1]
      split at h
      · rename_i h2
        rw [if_pos h2]
        exact h2
      · omega
/-- how many k < n have p k -/
def fa_cnt (p : Nat → Bool) : Nat → Nat
  | 0 => 0
  | n + 1 => fa_cnt p n + if p n then 1 else 0
theorem fa_cnt_le (p : Nat → Bool) : ∀ n, fa_cnt p n ≤ n
  | 0 => Nat.le_refl 0
  | n + 1 => by
    have ih := fa_cnt_le p n
    unfold fa_cnt
    split
    · omega
    · omega
theorem fa_cnt_yes {p : Nat → Bool} {n : Nat} (h : p n = true) : fa_cnt p (n + 1) = fa_cnt p n + 1 := by rw [fa_cnt, if_pos h]
theorem fa_cnt_no {p : Nat → Bool} {n : Nat} (h : p n = false) : fa_cnt p (n + 1) = fa_cnt p n := by rw [fa_cnt, if_neg (by rw [h]; decide)]; rfl
theorem fa_cnt_cong {p q : Nat → Bool} : ∀ {n : Nat}, (∀ k, k < n → p k = q k) → fa_cnt p n = fa_cnt q n
  | 0, _ => rfl
  | n + 1, h => by rw [fa_cnt, fa_cnt, fa_cnt_cong (fun k hk => h k (Nat.lt_succ_of_lt hk)), h n (Nat.lt_succ_self n)]
/-! ===== an answer carried into a post; a branch on a boolean answer ===== -/
theorem fa_post {α : Type} {P : α → Prop} {x y : α} (h : x = y) (hp : P y) : P x := h ▸ hp
theorem fa_post2 {α β : Type} {P : α → β → Prop} {x y : α} {u v : β} (h : x = y) (h2 : u = v) (hp : P y v) : P x u := h ▸ h2 ▸ hp
theorem fa_bool {r : Int32} {b : Bool} (h : r = if b then 1 else 0) : (r = 0 ↔ b = false) ∧ (¬ r = 0 ↔ b = true) := by
  subst h
  cases b
  · exact ⟨⟨fun _ => rfl, fun _ => rfl⟩, ⟨fun h => absurd rfl h, fun h => absurd h (by decide)⟩⟩
  · exact ⟨⟨fun h => absurd h (by decide), fun h => absurd h (by decide)⟩, ⟨fun _ => rfl, fun _ => by decide⟩⟩
/-- a boolean's narrowing changes nothing -/
theorem fa_bool_and {r : Int32} (h : r = 0 ∨ r = 1) : r &&& 1 = r := by
  rcases h with rfl | rfl
  · decide
  · decide
theorem fa_bool_prop {c : Prop} [Decidable c] {r : Int32} (h : r = if c then 1 else 0) : (r = 0 ↔ ¬ c) ∧ (¬ r = 0 ↔ c) := by
  subst h
  by_cases hc : c
  · rw [if_pos hc]
    exact ⟨⟨fun h => absurd h (by decide), fun h => absurd hc h⟩, ⟨fun _ => hc, fun _ => by decide⟩⟩
  · rw [if_neg hc]
    exact ⟨⟨fun _ => hc, fun _ => rfl⟩, ⟨fun h => absurd rfl h, fun h => absurd h hc⟩⟩
end
section
theorem zcp_0 (f g : Nat → Int) : zcp f g 0 = g := by
  funext j; exact if_neg (Nat.not_lt_zero j)
theorem zcp_s {f g : Nat → Int} {i : Nat} {v : Int} (h : v = f i) : zup (zcp f g i) i v = zcp f g (i + 1) := by
  funext j
  by_cases h1 : j = i
  · subst h1; rw [zup_s, zcp_lt (Nat.lt_succ_self _), h]
  · rw [zup_n h1]
    by_cases h2 : j < i
    · rw [zcp_lt h2, zcp_lt (by omega)]
    · rw [zcp_ge (by omega), zcp_ge (by omega)]
/-- 1 or 0 -/
def b01 (p : Prop) [Decidable p] : Int := if p then 1 else 0
theorem b01_t {p : Prop} [Decidable p] (h : p) : b01 p = 1 := if_pos h
theorem b01_f {p : Prop} [Decidable p] (h : ¬ p) : b01 p = 0 := if_neg h
theorem b01_r (p : Prop) [Decidable p] : 0 ≤ b01 p ∧ b01 p ≤ 1 := by unfold b01; split <;> omega
theorem b01_ne {p : Prop} [Decidable p] (h : b01 p ≠ 0) : p := by
  unfold b01 at h; split at h
  · assumption
  · exact absurd rfl h
theorem b01_eq {p : Prop} [Decidable p] (h : b01 p = 0) : ¬ p := by
  unfold b01 at h; split at h
  · exact absurd h (by decide)
  · assumption
theorem ct_t {p : Nat → Bool} {i : Nat} (h : p i = true) : fb_ct p (i + 1) = fb_ct p i + 1 := by rw [fb_ct_succ, h]; rfl
theorem ct_f {p : Nat → Bool} {i : Nat} (h : p i = false) : fb_ct p (i + 1) = fb_ct p i := by rw [fb_ct_succ, h]; rfl
theorem zup_lt {g A : Nat → Int} {i : Nat} {v : Int} (h : ∀ j, j < i → g j = A j) (hv : v = A i) : ∀ j, j < i + 1 → zup g i v j = A j := by
  intro j hj
  by_cases h1 : j = i
  · subst h1; rw [zup_s, hv]
  · rw [zup_n h1]; exact h j (by omega)
theorem zup_ge {g f : Nat → Int} {i n : Nat} {v : Int} (h : ∀ j, i ≤ j → j < n → g j = f j) : ∀ j, i + 1 ≤ j → j < n → zup g i v j = f j := by
  intro j hj hn
  rw [zup_n (by omega)]; exact h j (by omega) hn
end
section
set_option maxHeartbeats 4000000 in
set_option maxRecDepth 100000 in
theorem c_J7_fill_53178 (l : Launch) (D : va_G) (cI : ClassId) (q len : Nat) (v : Int) (g : Nat → Int) (hlen : len < 2147483648) : zMv l yJ7_fill_53178 cJ7_fill_53178 4 none ({ frames := 0, cells := 0, slots := 0, locals := 0 }) D cI [.ref q, .int (zI v)] [cR cI q len g] (fun (u : Unit) => True) (fun (u : Unit) => [cR cI q len (zcp (fun _ => v) g len)]) := by
  intro sz
  refine zstart rfl (by decide) (Nat.le_of_ble_eq_true rfl) ?_
  intro p e s m below meth c ls K hnm hsz hP hD hS hl
  generalize hargs : ([.ref q, .int (zI v)] : List Value).toArray = args at K ⊢
  generalize hQf : MQ below _ args s _ _ _ = Qf
  have K : zK p s m args meth c cJ7_fill_53178 4 RJ7 none D cI := K
  obtain ⟨hx, hb, hml, hown, hts, hE, -, -⟩ := id K
  have hA := zhA (ws0 := [cR cI q len g]) hsz
  have hl : lv_has ls 4 [(0, .ref q), (1, .int (zI v))] := hl
  refine lv_iconst (v := zI 0) hx hb dJ7_fill_53178_0 rfl ?_
  refine lv_istore_n (lv' := [(2, .int (zI 0)), (0, .ref q), (1, .int (zI v))]) hx hb dJ7_fill_53178_1 rfl hl (by decide) rfl (fun ls hl => ?_)
  refine lv_aload_n hx hb dJ7_fill_53178_2 rfl (lv_at hl 1 rfl) ?_
  refine z_alen hx hb hE hP 0 rfl dJ7_fill_53178_3 ?_
  refine lv_istore_n (lv' := [(3, .int (zI ((len : Nat) : Int))), (2, .int (zI 0)), (0, .ref q), (1, .int (zI v))]) hx hb dJ7_fill_53178_4 rfl hl (by decide) rfl (fun ls hl => ?_)
  have cut_5 : ∀ (N_5 : Nat), ∀ (i : Nat) (f : Nat → Int), len - i < N_5 → (i ≤ len) → (f = zcp (fun _ => v) g i) → ∀ (H : Heap) (locs : List Loc) (ls : Array Slot), va_P D cls [cR cI q len f] H → va_D (va_A [cR cI q len g] sz) [cR cI q len f] → va_S (va_A [cR cI q len g] sz) s.heap H locs → lv_has ls 4 [(0, .ref q), (1, .int (zI v)), (2, .int (zI ((i : Nat) : Int))), (3, .int (zI ((len : Nat) : Int)))] → W p l e ({ frames := 0, cells := 0, slots := 0, locals := 0 }) s m args below meth c H locs 0 0 Qf (F0 m 5 ls []) := by
    intro N_5
    induction N_5 with
    | zero => intro i f hm_5; exact absurd hm_5 (Nat.not_lt_zero _)
    | succ N_5 ih_5 =>
      intro i f hm_5 hi hf H locs ls hP hD hS hl
      refine lv_iload_n hx hb dJ7_fill_53178_5 rfl (lv_at hl 2 rfl) ?_
      refine lv_iload_n hx hb dJ7_fill_53178_6 rfl (lv_at hl 3 rfl) ?_
      refine z_icmp_ge (tgt := 20) hx hb (by omega) dJ7_fill_53178_7 (by decide) (fun c_7 => ?_) (fun c_7 => ?_)
      · have e1 : f = zcp (fun _ => v) g len := by rw [hf, show i = len by omega]
        subst e1
        rw [← hQf]
        exact z_vret K hS () trivial hP hD dJ7_fill_53178_20
      · refine lv_aload_n hx hb dJ7_fill_53178_10 rfl (lv_at hl 0 rfl) ?_
        refine lv_iload_n hx hb dJ7_fill_53178_11 rfl (lv_at hl 2 rfl) ?_
        refine lv_iload_n hx hb dJ7_fill_53178_12 rfl (lv_at hl 1 rfl) ?_
        refine z_iast hx hb hE hP hD hS 0 rfl i (by omega) (by omega) (by first | decide | omega) (zup f i v) rfl dJ7_fill_53178_13 (fun H locs hP hD hS => ?_)
        have hP : va_P D cls [cR cI q len (zup f i v)] H := hP
        have hD : va_D (va_A [cR cI q len g] sz) [cR cI q len (zup f i v)] := hD
        refine z_iinc (k := 2) (lv' := [(2, .int (zI (((i + 1) : Nat) : Int))), (0, .ref q), (1, .int (zI v)), (3, .int (zI ((len : Nat) : Int)))]) hx hb (((i + 1) : Nat) : Int) (by omega) dJ7_fill_53178_14 hl rfl (by decide) rfl (fun ls hl => ?_)
        refine lv_goto (tgt := 5) hx hb dJ7_fill_53178_17 (by decide) ?_
        exact ih_5 (i + 1) (zup f i v) (by omega) (by omega) (by rw [hf]; exact zcp_s rfl) _ _ _ hP hD hS (lv_sub hl [1, 2, 0, 3] rfl)
  exact cut_5 (len - 0 + 1) 0 g (Nat.lt_succ_self _) (by omega) (by exact (zcp_0 _ _).symm) _ _ _ hP hD hS (lv_sub hl [2, 3, 1, 0] rfl)
set_option maxHeartbeats 4000000 in
set_option maxRecDepth 100000 in
theorem c_X0_append (l : Launch) (D : va_G) (cI : ClassId) (h lp : Nat) (pl : Nat) (f : Nat → Int) (v : Int) (hpl : pl < 22) : zMv l yX0_append cX0_append 2 none ({ frames := 0, cells := 0, slots := 0, locals := 0 }) D cI [.ref h, .int (zI v)] [cP h lp ((pl : Nat) : Int), cR cI lp 22 f] (fun (u : Unit) => True) (fun (u : Unit) => [cP h lp (((pl + 1) : Nat) : Int), cR cI lp 22 (zup f pl v)]) := by
  intro sz
  refine zstart rfl (by decide) (Nat.le_of_ble_eq_true rfl) ?_
  intro p e s m below meth c ls K hnm hsz hP hD hS hl
  generalize hargs : ([.ref h, .int (zI v)] : List Value).toArray = args at K ⊢
  generalize hQf : MQ below _ args s _ _ _ = Qf
  have K : zK p s m args meth c cX0_append 2 RX0 none D cI := K
  obtain ⟨hx, hb, hml, hown, hts, hE, -, -⟩ := id K
  have hA := zhA (ws0 := [cP h lp ((pl : Nat) : Int), cR cI lp 22 f]) hsz
  have hl : lv_has ls 2 [(0, .ref h), (1, .int (zI v))] := hl
  refine lv_aload_n hx hb dX0_append_0 rfl (lv_at hl 0 rfl) ?_
  refine va_get (D := D) (ci := 0) (v := .int (zI ((pl : Nat) : Int))) (C := RX0) (T := TX0) (N := 2) hx hb hts inT_X0 hown hE.1 hP 0 rfl rfl 1 (by decide) (hts _ qf_X0_15) (fun _ h9 => h9) rfl dX0_append_1 ?_
  refine lv_bipush (v := zI 22) hx hb dX0_append_4 (by decide) ?_
  refine z_icmp_ge (tgt := 29) hx hb (by omega) dX0_append_6 (by decide) (fun c_6 => ?_) (fun c_6 => ?_)
  · exfalso; omega
  · refine lv_aload_n hx hb dX0_append_9 rfl (lv_at hl 0 rfl) ?_
    refine va_get (D := D) (ci := 0) (v := .ref lp) (C := RX0) (T := TX0) (N := 2) hx hb hts inT_X0 hown hE.1 hP 0 rfl rfl 0 (by decide) (hts _ qf_X0_11) (fun _ h9 => h9) rfl dX0_append_10 ?_
    refine lv_aload_n hx hb dX0_append_13 rfl (lv_at hl 0 rfl) ?_
    refine va_get (D := D) (ci := 0) (v := .int (zI ((pl : Nat) : Int))) (C := RX0) (T := TX0) (N := 2) hx hb hts inT_X0 hown hE.1 hP 0 rfl rfl 1 (by decide) (hts _ qf_X0_15) (fun _ h9 => h9) rfl dX0_append_14 ?_
    refine lv_iload_n hx hb dX0_append_17 rfl (lv_at hl 1 rfl) ?_
    refine z_iast hx hb hE hP hD hS 1 rfl pl (by omega) (by omega) (by first | decide | omega) (zup f pl v) rfl dX0_append_18 (fun H locs hP hD hS => ?_)
    have hP : va_P D cls [cP h lp ((pl : Nat) : Int), cR cI lp 22 (zup f pl v)] H := hP
    have hD : va_D (va_A [cP h lp ((pl : Nat) : Int), cR cI lp 22 f] sz) [cP h lp ((pl : Nat) : Int), cR cI lp 22 (zup f pl v)] := hD
    refine lv_aload_n hx hb dX0_append_19 rfl (lv_at hl 0 rfl) ?_
    refine lv_dup hx hb dX0_append_20 rfl ?_
    refine va_get (D := D) (ci := 0) (v := .int (zI ((pl : Nat) : Int))) (C := RX0) (T := TX0) (N := 2) hx hb hts inT_X0 hown hE.1 hP 0 rfl rfl 1 (by decide) (hts _ qf_X0_15) (fun _ h9 => h9) rfl dX0_append_21 ?_
    refine lv_iconst (v := zI 1) hx hb dX0_append_24 rfl ?_
    refine z_iadd hx hb (((pl + 1) : Nat) : Int) (by omega) dX0_append_25 ?_
    refine va_put (D := D) (ci := 0) (v := .int (zI (((pl + 1) : Nat) : Int))) (ty := .int) (C := RX0) (T := TX0) (N := 2) hx hb hts inT_X0 tyX0 tyX0_ok nmX0 hown hE.1 hP hD hS 0 rfl rfl 1 (by decide) (hts _ qf_X0_15) (fun _ h9 => h9) rfl (by decide +kernel) rfl rfl (Nat.le_of_ble_eq_true rfl) dX0_append_26 (fun H locs hP hD hS => ?_)
    have hP : va_P D cls [cP h lp (((pl + 1) : Nat) : Int), cR cI lp 22 (zup f pl v)] H := hP
    have hD : va_D (va_A [cP h lp ((pl : Nat) : Int), cR cI lp 22 f] sz) [cP h lp (((pl + 1) : Nat) : Int), cR cI lp 22 (zup f pl v)] := hD
    rw [← hQf]
    exact z_vret K hS () trivial hP hD dX0_append_29
set_option maxHeartbeats 4000000 in
set_option maxRecDepth 100000 in
theorem c_X0_clear (l : Launch) (D : va_G) (cI : ClassId) (h lp : Nat) (pl : Int)  : zMi l yX0_clear cX0_clear 2 (some .int) ({ frames := 0, cells := 0, slots := 0, locals := 0 }) D cI [.ref h] [cP h lp pl] (fun (z : Int) (u : Unit) => z = pl) (fun (u : Unit) => [cP h lp 0]) := by
  intro sz
  refine zstart rfl (by decide) (Nat.le_of_ble_eq_true rfl) ?_
  intro p e s m below meth c ls K hnm hsz hP hD hS hl
  generalize hargs : ([.ref h] : List Value).toArray = args at K ⊢
  generalize hQf : MQ below _ args s _ _ _ = Qf
  have K : zK p s m args meth c cX0_clear 2 RX0 (some .int) D cI := K
  obtain ⟨hx, hb, hml, hown, hts, hE, -, -⟩ := id K
  have hA := zhA (ws0 := [cP h lp pl]) hsz
  have hl : lv_has ls 2 [(0, .ref h)] := hl
  refine lv_aload_n hx hb dX0_clear_0 rfl (lv_at hl 0 rfl) ?_
  refine va_get (D := D) (ci := 0) (v := .int (zI pl)) (C := RX0) (T := TX0) (N := 2) hx hb hts inT_X0 hown hE.1 hP 0 rfl rfl 1 (by decide) (hts _ qf_X0_15) (fun _ h9 => h9) rfl dX0_clear_1 ?_
  refine lv_istore_n (lv' := [(1, .int (zI pl)), (0, .ref h)]) hx hb dX0_clear_4 rfl hl (by decide) rfl (fun ls hl => ?_)
  refine lv_aload_n hx hb dX0_clear_5 rfl (lv_at hl 1 rfl) ?_
  refine lv_iconst (v := zI 0) hx hb dX0_clear_6 rfl ?_
  refine va_put (D := D) (ci := 0) (v := .int (zI 0)) (ty := .int) (C := RX0) (T := TX0) (N := 2) hx hb hts inT_X0 tyX0 tyX0_ok nmX0 hown hE.1 hP hD hS 0 rfl rfl 1 (by decide) (hts _ qf_X0_15) (fun _ h9 => h9) rfl (by decide +kernel) rfl rfl (Nat.le_of_ble_eq_true rfl) dX0_clear_7 (fun H locs hP hD hS => ?_)
  have hP : va_P D cls [cP h lp 0] H := hP
  have hD : va_D (va_A [cP h lp pl] sz) [cP h lp 0] := hD
  refine lv_iload_n hx hb dX0_clear_10 rfl (lv_at hl 0 rfl) ?_
  rw [← hQf]
  exact z_iret K hS () (by first | rfl | omega | (split <;> omega)) hP hD dX0_clear_11
set_option maxHeartbeats 4000000 in
set_option maxRecDepth 100000 in
theorem c_X1_hasRoutine (l : Launch) (D : va_G) (cI : ClassId) (t : Nat) (a : Nat → Nat) (n k d v : Nat) (hk : k ≤ 6) : zMi l yX1_hasRoutine cX1_hasRoutine 1 (some .boolean) ({ frames := 0, cells := 0, slots := 0, locals := 0 }) D cI [.ref t] [cT t a ((n : Nat) : Int) ((k : Nat) : Int) ((d : Nat) : Int) ((v : Nat) : Int)] (fun (z : Int) (u : Unit) => z = (b01 (0 < k))) (fun (u : Unit) => [cT t a ((n : Nat) : Int) ((k : Nat) : Int) ((d : Nat) : Int) ((v : Nat) : Int)]) := by
  intro sz
  refine zstart rfl (by decide) (Nat.le_of_ble_eq_true rfl) ?_
  intro p e s m below meth c ls K hnm hsz hP hD hS hl
  generalize hargs : ([.ref t] : List Value).toArray = args at K ⊢
  generalize hQf : MQ below _ args s _ _ _ = Qf
  have K : zK p s m args meth c cX1_hasRoutine 1 RX1 (some .boolean) D cI := K
  obtain ⟨hx, hb, hml, hown, hts, hE, -, -⟩ := id K
  have hA := zhA (ws0 := [cT t a ((n : Nat) : Int) ((k : Nat) : Int) ((d : Nat) : Int) ((v : Nat) : Int)]) hsz
  have hl : lv_has ls 1 [(0, .ref t)] := hl
  refine lv_aload_n hx hb dX1_hasRoutine_0 rfl (lv_at hl 0 rfl) ?_
  refine va_get (D := D) (ci := 1) (v := .int (zI ((k : Nat) : Int))) (C := RX1) (T := TX1) (N := 11) hx hb hts inT_X1 hown hE.1 hP 0 rfl rfl 1 (by decide) (hts _ qf_X1_37) (fun _ h9 => h9) rfl dX1_hasRoutine_1 ?_
  refine z_if_le (tgt := 11) hx hb (by omega) dX1_hasRoutine_4 (by decide) (fun c_4 => ?_) (fun c_4 => ?_)
  · refine lv_iconst (v := zI 0) hx hb dX1_hasRoutine_11 rfl ?_
    rw [← hQf]
    exact z_bret K hS () (by first | exact (b01_t (by omega)).symm | exact (b01_f (by omega)).symm) (by omega) hP hD dX1_hasRoutine_12
  · refine lv_iconst (v := zI 1) hx hb dX1_hasRoutine_7 rfl ?_
    refine lv_goto (tgt := 12) hx hb dX1_hasRoutine_8 (by decide) ?_
    rw [← hQf]
    exact z_bret K hS () (by first | exact (b01_t (by omega)).symm | exact (b01_f (by omega)).symm) (by omega) hP hD dX1_hasRoutine_12
set_option maxHeartbeats 4000000 in
set_option maxRecDepth 100000 in
theorem c_X1_hasStep (l : Launch) (D : va_G) (cI : ClassId) (t : Nat) (a : Nat → Nat) (n k d v : Nat) (x : Int) (hx0 : -2147483648 ≤ x ∧ x < 2147483648) (hk0 : k ≤ 6) : zMi l yX1_hasStep cX1_hasStep 2 (some .boolean) ({ frames := 0, cells := 0, slots := 0, locals := 0 }) D cI [.ref t, .int (zI x)] [cT t a ((n : Nat) : Int) ((k : Nat) : Int) ((d : Nat) : Int) ((v : Nat) : Int)] (fun (z : Int) (u : Unit) => z = (b01 (0 ≤ x ∧ x < k))) (fun (u : Unit) => [cT t a ((n : Nat) : Int) ((k : Nat) : Int) ((d : Nat) : Int) ((v : Nat) : Int)]) := by
  intro sz
  refine zstart rfl (by decide) (Nat.le_of_ble_eq_true rfl) ?_
  intro p e s m below meth c ls K hnm hsz hP hD hS hl
  generalize hargs : ([.ref t, .int (zI x)] : List Value).toArray = args at K ⊢
  generalize hQf : MQ below _ args s _ _ _ = Qf
  have K : zK p s m args meth c cX1_hasStep 2 RX1 (some .boolean) D cI := K
  obtain ⟨hx, hb, hml, hown, hts, hE, -, -⟩ := id K
  have hA := zhA (ws0 := [cT t a ((n : Nat) : Int) ((k : Nat) : Int) ((d : Nat) : Int) ((v : Nat) : Int)]) hsz
  have hl : lv_has ls 2 [(0, .ref t), (1, .int (zI x))] := hl
  refine lv_iload_n hx hb dX1_hasStep_0 rfl (lv_at hl 1 rfl) ?_
  refine z_if_lt (tgt := 16) hx hb (by omega) dX1_hasStep_1 (by decide) (fun c_1 => ?_) (fun c_1 => ?_)
  · refine lv_iconst (v := zI 0) hx hb dX1_hasStep_16 rfl ?_
    rw [← hQf]
    exact z_bret K hS () (by first | exact (b01_t (by omega)).symm | exact (b01_f (by omega)).symm) (by omega) hP hD dX1_hasStep_17
  · refine lv_iload_n hx hb dX1_hasStep_4 rfl (lv_at hl 1 rfl) ?_
    refine lv_aload_n hx hb dX1_hasStep_5 rfl (lv_at hl 0 rfl) ?_
    refine va_get (D := D) (ci := 1) (v := .int (zI ((k : Nat) : Int))) (C := RX1) (T := TX1) (N := 11) hx hb hts inT_X1 hown hE.1 hP 0 rfl rfl 1 (by decide) (hts _ qf_X1_37) (fun _ h9 => h9) rfl dX1_hasStep_6 ?_
    refine z_icmp_ge (tgt := 16) hx hb (by omega) dX1_hasStep_9 (by decide) (fun c_9 => ?_) (fun c_9 => ?_)
    · refine lv_iconst (v := zI 0) hx hb dX1_hasStep_16 rfl ?_
      rw [← hQf]
      exact z_bret K hS () (by first | exact (b01_t (by omega)).symm | exact (b01_f (by omega)).symm) (by omega) hP hD dX1_hasStep_17
    · refine lv_iconst (v := zI 1) hx hb dX1_hasStep_12 rfl ?_
      refine lv_goto (tgt := 17) hx hb dX1_hasStep_13 (by decide) ?_
      rw [← hQf]
      exact z_bret K hS () (by first | exact (b01_t (by omega)).symm | exact (b01_f (by omega)).symm) (by omega) hP hD dX1_hasStep_17
set_option maxHeartbeats 4000000 in
set_option maxRecDepth 100000 in
theorem c_X1_hasPlace (l : Launch) (D : va_G) (cI : ClassId) (t : Nat) (a : Nat → Nat) (n k d v : Nat) (x : Int) (hx0 : -2147483648 ≤ x ∧ x < 2147483648) (hk0 : n ≤ 12) : zMi l yX1_hasPlace cX1_hasPlace 2 (some .boolean) ({ frames := 0, cells := 0, slots := 0, locals := 0 }) D cI [.ref t, .int (zI x)] [cT t a ((n : Nat) : Int) ((k : Nat) : Int) ((d : Nat) : Int) ((v : Nat) : Int)] (fun (z : Int) (u : Unit) => z = (b01 (0 ≤ x ∧ x < n))) (fun (u : Unit) => [cT t a ((n : Nat) : Int) ((k : Nat) : Int) ((d : Nat) : Int) ((v : Nat) : Int)]) := by
  intro sz
  refine zstart rfl (by decide) (Nat.le_of_ble_eq_true rfl) ?_
  intro p e s m below meth c ls K hnm hsz hP hD hS hl
  generalize hargs : ([.ref t, .int (zI x)] : List Value).toArray = args at K ⊢
  generalize hQf : MQ below _ args s _ _ _ = Qf
  have K : zK p s m args meth c cX1_hasPlace 2 RX1 (some .boolean) D cI := K
  obtain ⟨hx, hb, hml, hown, hts, hE, -, -⟩ := id K
  have hA := zhA (ws0 := [cT t a ((n : Nat) : Int) ((k : Nat) : Int) ((d : Nat) : Int) ((v : Nat) : Int)]) hsz
  have hl : lv_has ls 2 [(0, .ref t), (1, .int (zI x))] := hl
  refine lv_iload_n hx hb dX1_hasPlace_0 rfl (lv_at hl 1 rfl) ?_
  refine z_if_lt (tgt := 16) hx hb (by omega) dX1_hasPlace_1 (by decide) (fun c_1 => ?_) (fun c_1 => ?_)
  · refine lv_iconst (v := zI 0) hx hb dX1_hasPlace_16 rfl ?_
    rw [← hQf]
    exact z_bret K hS () (by first | exact (b01_t (by omega)).symm | exact (b01_f (by omega)).symm) (by omega) hP hD dX1_hasPlace_17
  · refine lv_iload_n hx hb dX1_hasPlace_4 rfl (lv_at hl 1 rfl) ?_
    refine lv_aload_n hx hb dX1_hasPlace_5 rfl (lv_at hl 0 rfl) ?_
    refine va_get (D := D) (ci := 1) (v := .int (zI ((n : Nat) : Int))) (C := RX1) (T := TX1) (N := 11) hx hb hts inT_X1 hown hE.1 hP 0 rfl rfl 0 (by decide) (hts _ qf_X1_33) (fun _ h9 => h9) rfl dX1_hasPlace_6 ?_
    refine z_icmp_ge (tgt := 16) hx hb (by omega) dX1_hasPlace_9 (by decide) (fun c_9 => ?_) (fun c_9 => ?_)
    · refine lv_iconst (v := zI 0) hx hb dX1_hasPlace_16 rfl ?_
      rw [← hQf]
      exact z_bret K hS () (by first | exact (b01_t (by omega)).symm | exact (b01_f (by omega)).symm) (by omega) hP hD dX1_hasPlace_17
    · refine lv_iconst (v := zI 1) hx hb dX1_hasPlace_12 rfl ?_
      refine lv_goto (tgt := 17) hx hb dX1_hasPlace_13 (by decide) ?_
      rw [← hQf]
      exact z_bret K hS () (by first | exact (b01_t (by omega)).symm | exact (b01_f (by omega)).symm) (by omega) hP hD dX1_hasPlace_17
set_option maxHeartbeats 4000000 in
set_option maxRecDepth 100000 in
theorem c_X1_hasCard (l : Launch) (D : va_G) (cI : ClassId) (t : Nat) (a : Nat → Nat) (n k d v : Nat) (x : Int) (hx0 : -2147483648 ≤ x ∧ x < 2147483648) (hk0 : n ≤ 12) : zMi l yX1_hasCard cX1_hasCard 2 (some .boolean) ({ frames := 0, cells := 0, slots := 0, locals := 0 }) D cI [.ref t, .int (zI x)] [cT t a ((n : Nat) : Int) ((k : Nat) : Int) ((d : Nat) : Int) ((v : Nat) : Int)] (fun (z : Int) (u : Unit) => z = (b01 (0 ≤ x ∧ x < n))) (fun (u : Unit) => [cT t a ((n : Nat) : Int) ((k : Nat) : Int) ((d : Nat) : Int) ((v : Nat) : Int)]) := by
  intro sz
  refine zstart rfl (by decide) (Nat.le_of_ble_eq_true rfl) ?_
  intro p e s m below meth c ls K hnm hsz hP hD hS hl
  generalize hargs : ([.ref t, .int (zI x)] : List Value).toArray = args at K ⊢
  generalize hQf : MQ below _ args s _ _ _ = Qf
  have K : zK p s m args meth c cX1_hasCard 2 RX1 (some .boolean) D cI := K
  obtain ⟨hx, hb, hml, hown, hts, hE, -, -⟩ := id K
  have hA := zhA (ws0 := [cT t a ((n : Nat) : Int) ((k : Nat) : Int) ((d : Nat) : Int) ((v : Nat) : Int)]) hsz
  have hl : lv_has ls 2 [(0, .ref t), (1, .int (zI x))] := hl
  refine lv_iload_n hx hb dX1_hasCard_0 rfl (lv_at hl 1 rfl) ?_
  refine z_if_lt (tgt := 16) hx hb (by omega) dX1_hasCard_1 (by decide) (fun c_1 => ?_) (fun c_1 => ?_)
  · refine lv_iconst (v := zI 0) hx hb dX1_hasCard_16 rfl ?_
    rw [← hQf]
    exact z_bret K hS () (by first | exact (b01_t (by omega)).symm | exact (b01_f (by omega)).symm) (by omega) hP hD dX1_hasCard_17
  · refine lv_iload_n hx hb dX1_hasCard_4 rfl (lv_at hl 1 rfl) ?_
    refine lv_aload_n hx hb dX1_hasCard_5 rfl (lv_at hl 0 rfl) ?_
    refine va_get (D := D) (ci := 1) (v := .int (zI ((n : Nat) : Int))) (C := RX1) (T := TX1) (N := 11) hx hb hts inT_X1 hown hE.1 hP 0 rfl rfl 0 (by decide) (hts _ qf_X1_33) (fun _ h9 => h9) rfl dX1_hasCard_6 ?_
    refine z_icmp_ge (tgt := 16) hx hb (by omega) dX1_hasCard_9 (by decide) (fun c_9 => ?_) (fun c_9 => ?_)
    · refine lv_iconst (v := zI 0) hx hb dX1_hasCard_16 rfl ?_
      rw [← hQf]
      exact z_bret K hS () (by first | exact (b01_t (by omega)).symm | exact (b01_f (by omega)).symm) (by omega) hP hD dX1_hasCard_17
    · refine lv_iconst (v := zI 1) hx hb dX1_hasCard_12 rfl ?_
      refine lv_goto (tgt := 17) hx hb dX1_hasCard_13 (by decide) ?_
      rw [← hQf]
      exact z_bret K hS () (by first | exact (b01_t (by omega)).symm | exact (b01_f (by omega)).symm) (by omega) hP hD dX1_hasCard_17
set_option maxHeartbeats 4000000 in
set_option maxRecDepth 100000 in
theorem c_X1_placeBehind (l : Launch) (D : va_G) (cI : ClassId) (t : Nat) (a : Nat → Nat) (n k d v : Nat) (g : Nat → Int) (j0 p0 : Nat) (w : Int) (hs : j0 < 6) (hp : p0 < 12) (hw : g (j0 * 12 + p0) = w) : zMi l yX1_placeBehind cX1_placeBehind 3 (some .int) ({ frames := 0, cells := 0, slots := 0, locals := 0 }) D cI [.ref t, .int (zI ((j0 : Nat) : Int)), .int (zI ((p0 : Nat) : Int))] [cT t a ((n : Nat) : Int) ((k : Nat) : Int) ((d : Nat) : Int) ((v : Nat) : Int), cR cI (a 2) 72 g] (fun (z : Int) (u : Unit) => z = w) (fun (u : Unit) => [cT t a ((n : Nat) : Int) ((k : Nat) : Int) ((d : Nat) : Int) ((v : Nat) : Int), cR cI (a 2) 72 g]) := by
  intro sz
  refine zstart rfl (by decide) (Nat.le_of_ble_eq_true rfl) ?_
  intro p e s m below meth c ls K hnm hsz hP hD hS hl
  generalize hargs : ([.ref t, .int (zI ((j0 : Nat) : Int)), .int (zI ((p0 : Nat) : Int))] : List Value).toArray = args at K ⊢
  generalize hQf : MQ below _ args s _ _ _ = Qf
  have K : zK p s m args meth c cX1_placeBehind 3 RX1 (some .int) D cI := K
  obtain ⟨hx, hb, hml, hown, hts, hE, -, -⟩ := id K
  have hA := zhA (ws0 := [cT t a ((n : Nat) : Int) ((k : Nat) : Int) ((d : Nat) : Int) ((v : Nat) : Int), cR cI (a 2) 72 g]) hsz
  have hl : lv_has ls 3 [(0, .ref t), (1, .int (zI ((j0 : Nat) : Int))), (2, .int (zI ((p0 : Nat) : Int)))] := hl
  refine lv_aload_n hx hb dX1_placeBehind_0 rfl (lv_at hl 0 rfl) ?_
  refine va_get (D := D) (ci := 1) (v := .ref (a 2)) (C := RX1) (T := TX1) (N := 11) hx hb hts inT_X1 hown hE.1 hP 0 rfl rfl 6 (by decide) (hts _ qf_X1_18) (fun _ h9 => h9) rfl dX1_placeBehind_1 ?_
  refine lv_iload_n hx hb dX1_placeBehind_4 rfl (lv_at hl 1 rfl) ?_
  refine lv_bipush (v := zI 12) hx hb dX1_placeBehind_5 (by decide) ?_
  refine z_imul hx hb (((j0 * 12) : Nat) : Int) (by first | omega | exact (Int.natCast_mul _ _).symm) dX1_placeBehind_7 ?_
  refine lv_iload_n hx hb dX1_placeBehind_8 rfl (lv_at hl 2 rfl) ?_
  refine z_iadd hx hb ((((j0 * 12) + p0) : Nat) : Int) (by omega) dX1_placeBehind_9 ?_
  refine z_iald hx hb hE hP 1 rfl ((j0 * 12) + p0) (by omega) (by omega) (by first | decide | omega) w hw dX1_placeBehind_10 ?_
  rw [← hQf]
  exact z_iret K hS () (by first | rfl | omega | (split <;> omega)) hP hD dX1_placeBehind_11
set_option maxHeartbeats 4000000 in
set_option maxRecDepth 100000 in
theorem c_X1_layInOrder (l : Launch) (D : va_G) (cI : ClassId) (t : Nat) (a : Nat → Nat) (n k d v : Nat) (g : Nat → Int) (hn : n ≤ 12) : zMv l yX1_layInOrder cX1_layInOrder 2 none ({ frames := 0, cells := 0, slots := 0, locals := 0 }) D cI [.ref t] [cT t a ((n : Nat) : Int) ((k : Nat) : Int) ((d : Nat) : Int) ((v : Nat) : Int), cR cI (a 3) 12 g] (fun (u : Unit) => True) (fun (u : Unit) => [cT t a ((n : Nat) : Int) ((k : Nat) : Int) ((d : Nat) : Int) ((v : Nat) : Int), cR cI (a 3) 12 (zcp (fun j => (j : Int)) g n)]) := by
  intro sz
  refine zstart rfl (by decide) (Nat.le_of_ble_eq_true rfl) ?_
  intro p e s m below meth c ls K hnm hsz hP hD hS hl
  generalize hargs : ([.ref t] : List Value).toArray = args at K ⊢
  generalize hQf : MQ below _ args s _ _ _ = Qf
  have K : zK p s m args meth c cX1_layInOrder 2 RX1 none D cI := K
  obtain ⟨hx, hb, hml, hown, hts, hE, -, -⟩ := id K
  have hA := zhA (ws0 := [cT t a ((n : Nat) : Int) ((k : Nat) : Int) ((d : Nat) : Int) ((v : Nat) : Int), cR cI (a 3) 12 g]) hsz
  have hl : lv_has ls 2 [(0, .ref t)] := hl
  refine lv_iconst (v := zI 0) hx hb dX1_layInOrder_0 rfl ?_
  refine lv_istore_n (lv' := [(1, .int (zI 0)), (0, .ref t)]) hx hb dX1_layInOrder_1 rfl hl (by decide) rfl (fun ls hl => ?_)
  have cut_2 : ∀ (N_2 : Nat), ∀ (i : Nat) (f : Nat → Int), n - i < N_2 → (i ≤ n) → (f = zcp (fun j => (j : Int)) g i) → ∀ (H : Heap) (locs : List Loc) (ls : Array Slot), va_P D cls [cT t a ((n : Nat) : Int) ((k : Nat) : Int) ((d : Nat) : Int) ((v : Nat) : Int), cR cI (a 3) 12 f] H → va_D (va_A [cT t a ((n : Nat) : Int) ((k : Nat) : Int) ((d : Nat) : Int) ((v : Nat) : Int), cR cI (a 3) 12 g] sz) [cT t a ((n : Nat) : Int) ((k : Nat) : Int) ((d : Nat) : Int) ((v : Nat) : Int), cR cI (a 3) 12 f] → va_S (va_A [cT t a ((n : Nat) : Int) ((k : Nat) : Int) ((d : Nat) : Int) ((v : Nat) : Int), cR cI (a 3) 12 g] sz) s.heap H locs → lv_has ls 2 [(0, .ref t), (1, .int (zI ((i : Nat) : Int)))] → W p l e ({ frames := 0, cells := 0, slots := 0, locals := 0 }) s m args below meth c H locs 0 0 Qf (F0 m 2 ls []) := by
    intro N_2
    induction N_2 with
    | zero => intro i f hm_2; exact absurd hm_2 (Nat.not_lt_zero _)
    | succ N_2 ih_2 =>
      intro i f hm_2 hi hf H locs ls hP hD hS hl
      refine lv_iload_n hx hb dX1_layInOrder_2 rfl (lv_at hl 1 rfl) ?_
      refine lv_aload_n hx hb dX1_layInOrder_3 rfl (lv_at hl 0 rfl) ?_
      refine va_get (D := D) (ci := 1) (v := .int (zI ((n : Nat) : Int))) (C := RX1) (T := TX1) (N := 11) hx hb hts inT_X1 hown hE.1 hP 0 rfl rfl 0 (by decide) (hts _ qf_X1_33) (fun _ h9 => h9) rfl dX1_layInOrder_4 ?_
      refine z_icmp_ge (tgt := 23) hx hb (by omega) dX1_layInOrder_7 (by decide) (fun c_7 => ?_) (fun c_7 => ?_)
      · have e1 : f = zcp (fun j => (j : Int)) g n := by rw [hf, show i = n by omega]
        subst e1
        rw [← hQf]
        exact z_vret K hS () trivial hP hD dX1_layInOrder_23
      · refine lv_aload_n hx hb dX1_layInOrder_10 rfl (lv_at hl 0 rfl) ?_
        refine va_get (D := D) (ci := 1) (v := .ref (a 3)) (C := RX1) (T := TX1) (N := 11) hx hb hts inT_X1 hown hE.1 hP 0 rfl rfl 7 (by decide) (hts _ qf_X1_21) (fun _ h9 => h9) rfl dX1_layInOrder_11 ?_
        refine lv_iload_n hx hb dX1_layInOrder_14 rfl (lv_at hl 1 rfl) ?_
        refine lv_iload_n hx hb dX1_layInOrder_15 rfl (lv_at hl 1 rfl) ?_
        refine z_iast hx hb hE hP hD hS 1 rfl i (by omega) (by omega) (by first | decide | omega) (zup f i ((i : Nat) : Int)) rfl dX1_layInOrder_16 (fun H locs hP hD hS => ?_)
        have hP : va_P D cls [cT t a ((n : Nat) : Int) ((k : Nat) : Int) ((d : Nat) : Int) ((v : Nat) : Int), cR cI (a 3) 12 (zup f i ((i : Nat) : Int))] H := hP
        have hD : va_D (va_A [cT t a ((n : Nat) : Int) ((k : Nat) : Int) ((d : Nat) : Int) ((v : Nat) : Int), cR cI (a 3) 12 g] sz) [cT t a ((n : Nat) : Int) ((k : Nat) : Int) ((d : Nat) : Int) ((v : Nat) : Int), cR cI (a 3) 12 (zup f i ((i : Nat) : Int))] := hD
        refine z_iinc (k := 1) (lv' := [(1, .int (zI (((i + 1) : Nat) : Int))), (0, .ref t)]) hx hb (((i + 1) : Nat) : Int) (by omega) dX1_layInOrder_17 hl rfl (by decide) rfl (fun ls hl => ?_)
        refine lv_goto (tgt := 2) hx hb dX1_layInOrder_20 (by decide) ?_
        exact ih_2 (i + 1) (zup f i ((i : Nat) : Int)) (by omega) (by omega) (by rw [hf]; exact zcp_s rfl) _ _ _ hP hD hS (lv_sub hl [1, 0] rfl)
  exact cut_2 (n - 0 + 1) 0 g (Nat.lt_succ_self _) (by omega) (by exact (zcp_0 _ _).symm) _ _ _ hP hD hS (lv_sub hl [1, 0] rfl)
set_option maxHeartbeats 4000000 in
set_option maxRecDepth 100000 in
theorem c_X1_begin (l : Launch) (D : va_G) (cI : ClassId) (t : Nat) (a : Nat → Nat) (n0 k0 d0 v0 : Int) (n k : Nat) (g : Nat → Int) (hn : n ≤ 12) : zMv l yX1_begin cX1_begin 3 none ({ frames := 1, cells := 0, slots := 0, locals := 21 }) D cI [.ref t, .int (zI ((n : Nat) : Int)), .int (zI ((k : Nat) : Int))] [cT t a n0 k0 d0 v0, cR cI (a 3) 12 g] (fun (u : Unit) => True) (fun (u : Unit) => [cT t a ((n : Nat) : Int) ((k : Nat) : Int) 0 0, cR cI (a 3) 12 (zcp (fun j => (j : Int)) g n)]) := by
  intro sz
  refine zstart rfl (by decide) (Nat.le_of_ble_eq_true rfl) ?_
  intro p e s m below meth c ls K hnm hsz hP hD hS hl
  generalize hargs : ([.ref t, .int (zI ((n : Nat) : Int)), .int (zI ((k : Nat) : Int))] : List Value).toArray = args at K ⊢
  generalize hQf : MQ below _ args s _ _ _ = Qf
  have K : zK p s m args meth c cX1_begin 3 RX1 none D cI := K
  obtain ⟨hx, hb, hml, hown, hts, hE, -, -⟩ := id K
  have hA := zhA (ws0 := [cT t a n0 k0 d0 v0, cR cI (a 3) 12 g]) hsz
  have hl : lv_has ls 3 [(0, .ref t), (1, .int (zI ((n : Nat) : Int))), (2, .int (zI ((k : Nat) : Int)))] := hl
  refine lv_aload_n hx hb dX1_begin_0 rfl (lv_at hl 0 rfl) ?_
  refine lv_iload_n hx hb dX1_begin_1 rfl (lv_at hl 1 rfl) ?_
  refine va_put (D := D) (ci := 1) (v := .int (zI ((n : Nat) : Int))) (ty := .int) (C := RX1) (T := TX1) (N := 11) hx hb hts inT_X1 tyX1 tyX1_ok nmX1 hown hE.1 hP hD hS 0 rfl rfl 0 (by decide) (hts _ qf_X1_33) (fun _ h9 => h9) rfl (by decide +kernel) rfl rfl (Nat.le_of_ble_eq_true rfl) dX1_begin_2 (fun H locs hP hD hS => ?_)
  have hP : va_P D cls [cT t a ((n : Nat) : Int) k0 d0 v0, cR cI (a 3) 12 g] H := hP
  have hD : va_D (va_A [cT t a n0 k0 d0 v0, cR cI (a 3) 12 g] sz) [cT t a ((n : Nat) : Int) k0 d0 v0, cR cI (a 3) 12 g] := hD
  refine lv_aload_n hx hb dX1_begin_5 rfl (lv_at hl 0 rfl) ?_
  refine lv_iload_n hx hb dX1_begin_6 rfl (lv_at hl 2 rfl) ?_
  refine va_put (D := D) (ci := 1) (v := .int (zI ((k : Nat) : Int))) (ty := .int) (C := RX1) (T := TX1) (N := 11) hx hb hts inT_X1 tyX1 tyX1_ok nmX1 hown hE.1 hP hD hS 0 rfl rfl 1 (by decide) (hts _ qf_X1_37) (fun _ h9 => h9) rfl (by decide +kernel) rfl rfl (Nat.le_of_ble_eq_true rfl) dX1_begin_7 (fun H locs hP hD hS => ?_)
  have hP : va_P D cls [cT t a ((n : Nat) : Int) ((k : Nat) : Int) d0 v0, cR cI (a 3) 12 g] H := hP
  have hD : va_D (va_A [cT t a n0 k0 d0 v0, cR cI (a 3) 12 g] sz) [cT t a ((n : Nat) : Int) ((k : Nat) : Int) d0 v0, cR cI (a 3) 12 g] := hD
  refine lv_aload_n hx hb dX1_begin_10 rfl (lv_at hl 0 rfl) ?_
  refine lv_iconst (v := zI 0) hx hb dX1_begin_11 rfl ?_
  refine va_put (D := D) (ci := 1) (v := .int (zI 0)) (ty := .int) (C := RX1) (T := TX1) (N := 11) hx hb hts inT_X1 tyX1 tyX1_ok nmX1 hown hE.1 hP hD hS 0 rfl rfl 2 (by decide) (hts _ qf_X1_40) (fun _ h9 => h9) rfl (by decide +kernel) rfl rfl (Nat.le_of_ble_eq_true rfl) dX1_begin_12 (fun H locs hP hD hS => ?_)
  have hP : va_P D cls [cT t a ((n : Nat) : Int) ((k : Nat) : Int) 0 v0, cR cI (a 3) 12 g] H := hP
  have hD : va_D (va_A [cT t a n0 k0 d0 v0, cR cI (a 3) 12 g] sz) [cT t a ((n : Nat) : Int) ((k : Nat) : Int) 0 v0, cR cI (a 3) 12 g] := hD
  refine lv_aload_n hx hb dX1_begin_15 rfl (lv_at hl 0 rfl) ?_
  refine lv_iconst (v := zI 0) hx hb dX1_begin_16 rfl ?_
  refine va_put (D := D) (ci := 1) (v := .int (zI 0)) (ty := .int) (C := RX1) (T := TX1) (N := 11) hx hb hts inT_X1 tyX1 tyX1_ok nmX1 hown hE.1 hP hD hS 0 rfl rfl 3 (by decide) (hts _ qf_X1_43) (fun _ h9 => h9) rfl (by decide +kernel) rfl rfl (Nat.le_of_ble_eq_true rfl) dX1_begin_17 (fun H locs hP hD hS => ?_)
  have hP : va_P D cls [cT t a ((n : Nat) : Int) ((k : Nat) : Int) 0 0, cR cI (a 3) 12 g] H := hP
  have hD : va_D (va_A [cT t a n0 k0 d0 v0, cR cI (a 3) 12 g] sz) [cT t a ((n : Nat) : Int) ((k : Nat) : Int) 0 0, cR cI (a 3) 12 g] := hD
  refine lv_aload_n hx hb dX1_begin_20 rfl (lv_at hl 0 rfl) ?_
  refine zcall_v (wc := [cT t a ((n : Nat) : Int) ((k : Nat) : Int) 0 0, cR cI (a 3) 12 g]) (wr := []) (rest := []) hE hP hD hS hA [0, 1] [] [0, 1] rfl rfl (by decide) (by decide) (by decide) (fun (u : Unit) => [cT t a ((n : Nat) : Int) ((k : Nat) : Int) 0 0, cR cI (a 3) 12 (zcp (fun j => (j : Int)) g n)]) (fun u => rfl) (fun hPc hDc => zrunV (As := []) (rest := []) (q0 := 0) (ci := 1) K k_X1_layInOrder qm_X1_46 ⟨⟨rfl, rfl⟩, ⟨Nat.le_of_ble_eq_true rfl, Nat.le_of_ble_eq_true rfl⟩⟩ rfl rfl hPc hDc (c_X1_layInOrder l D cI t a n k 0 0 g (by first | assumption | omega) _) rfl hl.1 rfl (Nat.le_of_ble_eq_true rfl) dX1_begin_21 ⟨Nat.zero_le _, Nat.zero_le _⟩) (by decide) (fun u H locs hpost hP hD hS => ?_)
  have hP : va_P D cls [cT t a ((n : Nat) : Int) ((k : Nat) : Int) 0 0, cR cI (a 3) 12 (zcp (fun j => (j : Int)) g n)] H := hP
  have hD : va_D (va_A [cT t a n0 k0 d0 v0, cR cI (a 3) 12 g] sz) [cT t a ((n : Nat) : Int) ((k : Nat) : Int) 0 0, cR cI (a 3) 12 (zcp (fun j => (j : Int)) g n)] := hD
  rw [← hQf]
  exact z_vret K hS () trivial hP hD dX1_begin_24
set_option maxHeartbeats 4000000 in
set_option maxRecDepth 100000 in
theorem c_X2_begin (l : Launch) (D : va_G) (cI : ClassId) (h wa : Nat) (w0 : Int) (n : Nat) (g : Nat → Int) (hn : n ≤ 12) : zMv l yX2_begin cX2_begin 3 none ({ frames := 0, cells := 0, slots := 0, locals := 0 }) D cI [.ref h, .int (zI ((n : Nat) : Int))] [cW h wa w0, cR cI wa 12 g] (fun (u : Unit) => True) (fun (u : Unit) => [cW h wa ((n : Nat) : Int), cR cI wa 12 (zcp (fun j => (j : Int)) g n)]) := by
  intro sz
  refine zstart rfl (by decide) (Nat.le_of_ble_eq_true rfl) ?_
  intro p e s m below meth c ls K hnm hsz hP hD hS hl
  generalize hargs : ([.ref h, .int (zI ((n : Nat) : Int))] : List Value).toArray = args at K ⊢
  generalize hQf : MQ below _ args s _ _ _ = Qf
  have K : zK p s m args meth c cX2_begin 3 RX2 none D cI := K
  obtain ⟨hx, hb, hml, hown, hts, hE, -, -⟩ := id K
  have hA := zhA (ws0 := [cW h wa w0, cR cI wa 12 g]) hsz
  have hl : lv_has ls 3 [(0, .ref h), (1, .int (zI ((n : Nat) : Int)))] := hl
  refine lv_aload_n hx hb dX2_begin_0 rfl (lv_at hl 0 rfl) ?_
  refine lv_iload_n hx hb dX2_begin_1 rfl (lv_at hl 1 rfl) ?_
  refine va_put (D := D) (ci := 2) (v := .int (zI ((n : Nat) : Int))) (ty := .int) (C := RX2) (T := TX2) (N := 2) hx hb hts inT_X2 tyX2 tyX2_ok nmX2 hown hE.1 hP hD hS 0 rfl rfl 0 (by decide) (hts _ qf_X2_15) (fun _ h9 => h9) rfl (by decide +kernel) rfl rfl (Nat.le_of_ble_eq_true rfl) dX2_begin_2 (fun H locs hP hD hS => ?_)
  have hP : va_P D cls [cW h wa ((n : Nat) : Int), cR cI wa 12 g] H := hP
  have hD : va_D (va_A [cW h wa w0, cR cI wa 12 g] sz) [cW h wa ((n : Nat) : Int), cR cI wa 12 g] := hD
  refine lv_iconst (v := zI 0) hx hb dX2_begin_5 rfl ?_
  refine lv_istore_n (lv' := [(2, .int (zI 0)), (0, .ref h), (1, .int (zI ((n : Nat) : Int)))]) hx hb dX2_begin_6 rfl hl (by decide) rfl (fun ls hl => ?_)
  have cut_7 : ∀ (N_7 : Nat), ∀ (i : Nat) (f : Nat → Int), n - i < N_7 → (i ≤ n) → (f = zcp (fun j => (j : Int)) g i) → ∀ (H : Heap) (locs : List Loc) (ls : Array Slot), va_P D cls [cW h wa ((n : Nat) : Int), cR cI wa 12 f] H → va_D (va_A [cW h wa w0, cR cI wa 12 g] sz) [cW h wa ((n : Nat) : Int), cR cI wa 12 f] → va_S (va_A [cW h wa w0, cR cI wa 12 g] sz) s.heap H locs → lv_has ls 3 [(0, .ref h), (1, .int (zI ((n : Nat) : Int))), (2, .int (zI ((i : Nat) : Int)))] → W p l e ({ frames := 0, cells := 0, slots := 0, locals := 0 }) s m args below meth c H locs 0 0 Qf (F0 m 7 ls []) := by
    intro N_7
    induction N_7 with
    | zero => intro i f hm_7; exact absurd hm_7 (Nat.not_lt_zero _)
    | succ N_7 ih_7 =>
      intro i f hm_7 hi hf H locs ls hP hD hS hl
      refine lv_iload_n hx hb dX2_begin_7 rfl (lv_at hl 2 rfl) ?_
      refine lv_aload_n hx hb dX2_begin_8 rfl (lv_at hl 0 rfl) ?_
      refine va_get (D := D) (ci := 2) (v := .int (zI ((n : Nat) : Int))) (C := RX2) (T := TX2) (N := 2) hx hb hts inT_X2 hown hE.1 hP 0 rfl rfl 0 (by decide) (hts _ qf_X2_15) (fun _ h9 => h9) rfl dX2_begin_9 ?_
      refine z_icmp_ge (tgt := 28) hx hb (by omega) dX2_begin_12 (by decide) (fun c_12 => ?_) (fun c_12 => ?_)
      · have e1 : f = zcp (fun j => (j : Int)) g n := by rw [hf, show i = n by omega]
        subst e1
        rw [← hQf]
        exact z_vret K hS () trivial hP hD dX2_begin_28
      · refine lv_aload_n hx hb dX2_begin_15 rfl (lv_at hl 0 rfl) ?_
        refine va_get (D := D) (ci := 2) (v := .ref wa) (C := RX2) (T := TX2) (N := 2) hx hb hts inT_X2 hown hE.1 hP 0 rfl rfl 1 (by decide) (hts _ qf_X2_9) (fun _ h9 => h9) rfl dX2_begin_16 ?_
        refine lv_iload_n hx hb dX2_begin_19 rfl (lv_at hl 2 rfl) ?_
        refine lv_iload_n hx hb dX2_begin_20 rfl (lv_at hl 2 rfl) ?_
        refine z_iast hx hb hE hP hD hS 1 rfl i (by omega) (by omega) (by first | decide | omega) (zup f i ((i : Nat) : Int)) rfl dX2_begin_21 (fun H locs hP hD hS => ?_)
        have hP : va_P D cls [cW h wa ((n : Nat) : Int), cR cI wa 12 (zup f i ((i : Nat) : Int))] H := hP
        have hD : va_D (va_A [cW h wa w0, cR cI wa 12 g] sz) [cW h wa ((n : Nat) : Int), cR cI wa 12 (zup f i ((i : Nat) : Int))] := hD
        refine z_iinc (k := 2) (lv' := [(2, .int (zI (((i + 1) : Nat) : Int))), (0, .ref h), (1, .int (zI ((n : Nat) : Int)))]) hx hb (((i + 1) : Nat) : Int) (by omega) dX2_begin_22 hl rfl (by decide) rfl (fun ls hl => ?_)
        refine lv_goto (tgt := 7) hx hb dX2_begin_25 (by decide) ?_
        exact ih_7 (i + 1) (zup f i ((i : Nat) : Int)) (by omega) (by omega) (by rw [hf]; exact zcp_s rfl) _ _ _ hP hD hS (lv_sub hl [1, 2, 0] rfl)
  exact cut_7 (n - 0 + 1) 0 g (Nat.lt_succ_self _) (by omega) (by exact (zcp_0 _ _).symm) _ _ _ hP hD hS (lv_sub hl [1, 2, 0] rfl)
set_option maxHeartbeats 4000000 in
set_option maxRecDepth 100000 in
theorem c_X2_add (l : Launch) (D : va_G) (cI : ClassId) (h wa : Nat) (n : Nat) (f : Nat → Int) (φ : Nat → Nat) (t : Nat) (a : Nat → Nat) (n1 k d v : Nat) (g : Nat → Int) (j0 : Nat) (ψ : Nat → Nat) (hn : n ≤ 12) (hf : ∀ j, j < n → f j = ((φ j : Nat) : Int)) (hφ : ∀ j, j < n → φ j < n) (hs : j0 < 6) (hg : ∀ j, j < n → g (j0 * 12 + j) = ((ψ j : Nat) : Int)) : zMv l yX2_add cX2_add 4 none ({ frames := 1, cells := 0, slots := 0, locals := 22 }) D cI [.ref h, .ref t, .int (zI ((j0 : Nat) : Int))] [cW h wa ((n : Nat) : Int), cR cI wa 12 f, cT t a ((n1 : Nat) : Int) ((k : Nat) : Int) ((d : Nat) : Int) ((v : Nat) : Int), cR cI (a 2) 72 g] (fun (u : (Nat → Int)) => ∀ j, j < n → u j = ((ψ (φ j) : Nat) : Int)) (fun (u : (Nat → Int)) => [cW h wa ((n : Nat) : Int), cR cI wa 12 u, cT t a ((n1 : Nat) : Int) ((k : Nat) : Int) ((d : Nat) : Int) ((v : Nat) : Int), cR cI (a 2) 72 g]) := by
  intro sz
  refine zstart rfl (by decide) (Nat.le_of_ble_eq_true rfl) ?_
  intro p e s m below meth c ls K hnm hsz hP hD hS hl
  generalize hargs : ([.ref h, .ref t, .int (zI ((j0 : Nat) : Int))] : List Value).toArray = args at K ⊢
  generalize hQf : MQ below _ args s _ _ _ = Qf
  have K : zK p s m args meth c cX2_add 4 RX2 none D cI := K
  obtain ⟨hx, hb, hml, hown, hts, hE, -, -⟩ := id K
  have hA := zhA (ws0 := [cW h wa ((n : Nat) : Int), cR cI wa 12 f, cT t a ((n1 : Nat) : Int) ((k : Nat) : Int) ((d : Nat) : Int) ((v : Nat) : Int), cR cI (a 2) 72 g]) hsz
  have hl : lv_has ls 4 [(0, .ref h), (1, .ref t), (2, .int (zI ((j0 : Nat) : Int)))] := hl
  refine lv_iconst (v := zI 0) hx hb dX2_add_0 rfl ?_
  refine lv_istore_n (lv' := [(3, .int (zI 0)), (0, .ref h), (1, .ref t), (2, .int (zI ((j0 : Nat) : Int)))]) hx hb dX2_add_1 rfl hl (by decide) rfl (fun ls hl => ?_)
  have cut_2 : ∀ (N_2 : Nat), ∀ (i : Nat) (f1 : Nat → Int), n - i < N_2 → (i ≤ n) → (∀ j, j < i → f1 j = ((ψ (φ j) : Nat) : Int)) → (∀ j, i ≤ j → j < n → f1 j = f j) → ∀ (H : Heap) (locs : List Loc) (ls : Array Slot), va_P D cls [cW h wa ((n : Nat) : Int), cR cI wa 12 f1, cT t a ((n1 : Nat) : Int) ((k : Nat) : Int) ((d : Nat) : Int) ((v : Nat) : Int), cR cI (a 2) 72 g] H → va_D (va_A [cW h wa ((n : Nat) : Int), cR cI wa 12 f, cT t a ((n1 : Nat) : Int) ((k : Nat) : Int) ((d : Nat) : Int) ((v : Nat) : Int), cR cI (a 2) 72 g] sz) [cW h wa ((n : Nat) : Int), cR cI wa 12 f1, cT t a ((n1 : Nat) : Int) ((k : Nat) : Int) ((d : Nat) : Int) ((v : Nat) : Int), cR cI (a 2) 72 g] → va_S (va_A [cW h wa ((n : Nat) : Int), cR cI wa 12 f, cT t a ((n1 : Nat) : Int) ((k : Nat) : Int) ((d : Nat) : Int) ((v : Nat) : Int), cR cI (a 2) 72 g] sz) s.heap H locs → lv_has ls 4 [(0, .ref h), (1, .ref t), (2, .int (zI ((j0 : Nat) : Int))), (3, .int (zI ((i : Nat) : Int)))] → W p l e ({ frames := 1, cells := 0, slots := 0, locals := 22 }) s m args below meth c H locs 0 0 Qf (F0 m 2 ls []) := by
    intro N_2
    induction N_2 with
    | zero => intro i f1 hm_2; exact absurd hm_2 (Nat.not_lt_zero _)
    | succ N_2 ih_2 =>
      intro i f1 hm_2 hi he1 he2 H locs ls hP hD hS hl
      refine lv_iload_n hx hb dX2_add_2 rfl (lv_at hl 3 rfl) ?_
      refine lv_aload_n hx hb dX2_add_3 rfl (lv_at hl 0 rfl) ?_
      refine va_get (D := D) (ci := 2) (v := .int (zI ((n : Nat) : Int))) (C := RX2) (T := TX2) (N := 2) hx hb hts inT_X2 hown hE.1 hP 0 rfl rfl 0 (by decide) (hts _ qf_X2_15) (fun _ h9 => h9) rfl dX2_add_4 ?_
      refine z_icmp_ge (tgt := 33) hx hb (by omega) dX2_add_7 (by decide) (fun c_7 => ?_) (fun c_7 => ?_)
      · rw [← hQf]
        exact z_vret K hS (f1) (by intro j hj; exact he1 j (by omega)) hP hD dX2_add_33
      · refine lv_aload_n hx hb dX2_add_10 rfl (lv_at hl 0 rfl) ?_
        refine va_get (D := D) (ci := 2) (v := .ref wa) (C := RX2) (T := TX2) (N := 2) hx hb hts inT_X2 hown hE.1 hP 0 rfl rfl 1 (by decide) (hts _ qf_X2_9) (fun _ h9 => h9) rfl dX2_add_11 ?_
        refine lv_iload_n hx hb dX2_add_14 rfl (lv_at hl 3 rfl) ?_
        refine lv_aload_n hx hb dX2_add_15 rfl (lv_at hl 1 rfl) ?_
        refine lv_iload_n hx hb dX2_add_16 rfl (lv_at hl 2 rfl) ?_
        refine lv_aload_n hx hb dX2_add_17 rfl (lv_at hl 0 rfl) ?_
        refine va_get (D := D) (ci := 2) (v := .ref wa) (C := RX2) (T := TX2) (N := 2) hx hb hts inT_X2 hown hE.1 hP 0 rfl rfl 1 (by decide) (hts _ qf_X2_9) (fun _ h9 => h9) rfl dX2_add_18 ?_
        refine lv_iload_n hx hb dX2_add_21 rfl (lv_at hl 3 rfl) ?_
        have hφi := hφ i (by omega)
        refine z_iald hx hb hE hP 1 rfl i (by omega) (by omega) (by first | decide | omega) ((φ i : Nat) : Int) ((he2 i (Nat.le_refl _) (by omega)).trans (hf i (by omega))) dX2_add_22 ?_
        refine zcall_i (wc := [cT t a ((n1 : Nat) : Int) ((k : Nat) : Int) ((d : Nat) : Int) ((v : Nat) : Int), cR cI (a 2) 72 g]) (wr := [cW h wa ((n : Nat) : Int), cR cI wa 12 f1]) (rest := [.int (zI ((i : Nat) : Int)), .ref wa]) hE hP hD hS hA [2, 3] [0, 1] [0, 1, 2, 3] rfl rfl (by decide) (by decide) (by decide) (fun (u : Unit) => [cW h wa ((n : Nat) : Int), cR cI wa 12 f1, cT t a ((n1 : Nat) : Int) ((k : Nat) : Int) ((d : Nat) : Int) ((v : Nat) : Int), cR cI (a 2) 72 g]) (fun u => rfl) (fun hPc hDc => zrunVN (As := [.int (zI ((j0 : Nat) : Int)), .int (zI ((φ i : Nat) : Int))]) (rest := [.int (zI ((i : Nat) : Int)), .ref wa]) (q0 := 0) (ci := 1) K k_X1_placeBehind nk_X2_19 ⟨⟨rfl, rfl⟩, ⟨Nat.le_of_ble_eq_true rfl, Nat.le_of_ble_eq_true rfl⟩⟩ rfl rfl hPc hDc (c_X1_placeBehind l D cI t a n1 k d v g j0 (φ i) ((ψ (φ i) : Nat) : Int) (by first | assumption | omega) (by first | assumption | omega) (hg (φ i) hφi) _) rfl hl.1 rfl (Nat.le_of_ble_eq_true rfl) dX2_add_23 ⟨Nat.zero_le _, Nat.zero_le _⟩) (by decide) (fun z u H locs hpost hP hD hS => ?_)
        subst hpost
        have hP : va_P D cls [cW h wa ((n : Nat) : Int), cR cI wa 12 f1, cT t a ((n1 : Nat) : Int) ((k : Nat) : Int) ((d : Nat) : Int) ((v : Nat) : Int), cR cI (a 2) 72 g] H := hP
        have hD : va_D (va_A [cW h wa ((n : Nat) : Int), cR cI wa 12 f, cT t a ((n1 : Nat) : Int) ((k : Nat) : Int) ((d : Nat) : Int) ((v : Nat) : Int), cR cI (a 2) 72 g] sz) [cW h wa ((n : Nat) : Int), cR cI wa 12 f1, cT t a ((n1 : Nat) : Int) ((k : Nat) : Int) ((d : Nat) : Int) ((v : Nat) : Int), cR cI (a 2) 72 g] := hD
        refine W.eq (g2 := F0 m 26 ls [.int (zI ((ψ (φ i) : Nat) : Int)), .int (zI ((i : Nat) : Int)), .ref wa]) rfl ?_
        refine z_iast hx hb hE hP hD hS 1 rfl i (by omega) (by omega) (by first | decide | omega) (zup f1 i ((ψ (φ i) : Nat) : Int)) rfl dX2_add_26 (fun H locs hP hD hS => ?_)
        have hP : va_P D cls [cW h wa ((n : Nat) : Int), cR cI wa 12 (zup f1 i ((ψ (φ i) : Nat) : Int)), cT t a ((n1 : Nat) : Int) ((k : Nat) : Int) ((d : Nat) : Int) ((v : Nat) : Int), cR cI (a 2) 72 g] H := hP
        have hD : va_D (va_A [cW h wa ((n : Nat) : Int), cR cI wa 12 f, cT t a ((n1 : Nat) : Int) ((k : Nat) : Int) ((d : Nat) : Int) ((v : Nat) : Int), cR cI (a 2) 72 g] sz) [cW h wa ((n : Nat) : Int), cR cI wa 12 (zup f1 i ((ψ (φ i) : Nat) : Int)), cT t a ((n1 : Nat) : Int) ((k : Nat) : Int) ((d : Nat) : Int) ((v : Nat) : Int), cR cI (a 2) 72 g] := hD
        refine z_iinc (k := 3) (lv' := [(3, .int (zI (((i + 1) : Nat) : Int))), (0, .ref h), (1, .ref t), (2, .int (zI ((j0 : Nat) : Int)))]) hx hb (((i + 1) : Nat) : Int) (by omega) dX2_add_27 hl rfl (by decide) rfl (fun ls hl => ?_)
        refine lv_goto (tgt := 2) hx hb dX2_add_30 (by decide) ?_
        exact ih_2 (i + 1) (zup f1 i ((ψ (φ i) : Nat) : Int)) (by omega) (by omega) (by exact zup_lt (A := fun j => ((ψ (φ j) : Nat) : Int)) he1 rfl) (by exact zup_ge he2) _ _ _ hP hD hS (lv_sub hl [1, 2, 3, 0] rfl)
  exact cut_2 (n - 0 + 1) 0 f (Nat.lt_succ_self _) (by omega) (by intro j hj; omega) (by intro j _ _; rfl) _ _ _ hP hD hS (lv_sub hl [1, 2, 3, 0] rfl)
set_option maxHeartbeats 4000000 in
set_option maxRecDepth 100000 in
theorem c_X2_stayCount (l : Launch) (D : va_G) (cI : ClassId) (h wa : Nat) (n : Nat) (f : Nat → Int) (φ : Nat → Nat) (hn : n ≤ 12) (hf : ∀ j, j < n → f j = ((φ j : Nat) : Int)) (hφ : ∀ j, j < n → φ j < n) : zMi l yX2_stayCount cX2_stayCount 3 (some .int) ({ frames := 0, cells := 0, slots := 0, locals := 0 }) D cI [.ref h] [cW h wa ((n : Nat) : Int), cR cI wa 12 f] (fun (z : Int) (u : Unit) => z = (((fb_ct (fun j => decide (φ j = j)) n) : Nat) : Int)) (fun (u : Unit) => [cW h wa ((n : Nat) : Int), cR cI wa 12 f]) := by
  intro sz
  refine zstart rfl (by decide) (Nat.le_of_ble_eq_true rfl) ?_
  intro p e s m below meth c ls K hnm hsz hP hD hS hl
  generalize hargs : ([.ref h] : List Value).toArray = args at K ⊢
  generalize hQf : MQ below _ args s _ _ _ = Qf
  have K : zK p s m args meth c cX2_stayCount 3 RX2 (some .int) D cI := K
  obtain ⟨hx, hb, hml, hown, hts, hE, -, -⟩ := id K
  have hA := zhA (ws0 := [cW h wa ((n : Nat) : Int), cR cI wa 12 f]) hsz
  have hl : lv_has ls 3 [(0, .ref h)] := hl
  refine lv_iconst (v := zI 0) hx hb dX2_stayCount_0 rfl ?_
  refine lv_istore_n (lv' := [(1, .int (zI 0)), (0, .ref h)]) hx hb dX2_stayCount_1 rfl hl (by decide) rfl (fun ls hl => ?_)
  refine lv_iconst (v := zI 0) hx hb dX2_stayCount_2 rfl ?_
  refine lv_istore_n (lv' := [(2, .int (zI 0)), (1, .int (zI 0)), (0, .ref h)]) hx hb dX2_stayCount_3 rfl hl (by decide) rfl (fun ls hl => ?_)
  have cut_4 : ∀ (N_4 : Nat), ∀ (i y : Nat), n - i < N_4 → (i ≤ n) → (y = fb_ct (fun j => decide (φ j = j)) i) → ∀ (H : Heap) (locs : List Loc) (ls : Array Slot), va_P D cls [cW h wa ((n : Nat) : Int), cR cI wa 12 f] H → va_D (va_A [cW h wa ((n : Nat) : Int), cR cI wa 12 f] sz) [cW h wa ((n : Nat) : Int), cR cI wa 12 f] → va_S (va_A [cW h wa ((n : Nat) : Int), cR cI wa 12 f] sz) s.heap H locs → lv_has ls 3 [(0, .ref h), (1, .int (zI ((y : Nat) : Int))), (2, .int (zI ((i : Nat) : Int)))] → W p l e ({ frames := 0, cells := 0, slots := 0, locals := 0 }) s m args below meth c H locs 0 0 Qf (F0 m 4 ls []) := by
    intro N_4
    induction N_4 with
    | zero => intro i y hm_4; exact absurd hm_4 (Nat.not_lt_zero _)
    | succ N_4 ih_4 =>
      intro i y hm_4 hi hy H locs ls hP hD hS hl
      refine lv_iload_n hx hb dX2_stayCount_4 rfl (lv_at hl 2 rfl) ?_
      refine lv_aload_n hx hb dX2_stayCount_5 rfl (lv_at hl 0 rfl) ?_
      refine va_get (D := D) (ci := 2) (v := .int (zI ((n : Nat) : Int))) (C := RX2) (T := TX2) (N := 2) hx hb hts inT_X2 hown hE.1 hP 0 rfl rfl 0 (by decide) (hts _ qf_X2_15) (fun _ h9 => h9) rfl dX2_stayCount_6 ?_
      refine z_icmp_ge (tgt := 31) hx hb (by omega) dX2_stayCount_9 (by decide) (fun c_9 => ?_) (fun c_9 => ?_)
      · refine lv_iload_n hx hb dX2_stayCount_31 rfl (lv_at hl 1 rfl) ?_
        rw [← hQf]
        exact z_iret K hS () (by rw [hy, show i = n by omega]) hP hD dX2_stayCount_32
      · refine lv_aload_n hx hb dX2_stayCount_12 rfl (lv_at hl 0 rfl) ?_
        refine va_get (D := D) (ci := 2) (v := .ref wa) (C := RX2) (T := TX2) (N := 2) hx hb hts inT_X2 hown hE.1 hP 0 rfl rfl 1 (by decide) (hts _ qf_X2_9) (fun _ h9 => h9) rfl dX2_stayCount_13 ?_
        refine lv_iload_n hx hb dX2_stayCount_16 rfl (lv_at hl 2 rfl) ?_
        have hφi := hφ i (by omega)
        refine z_iald hx hb hE hP 1 rfl i (by omega) (by omega) (by first | decide | omega) ((φ i : Nat) : Int) (hf i (by omega)) dX2_stayCount_17 ?_
        refine lv_iload_n hx hb dX2_stayCount_18 rfl (lv_at hl 2 rfl) ?_
        refine z_icmp_ne (tgt := 25) hx hb (by omega) dX2_stayCount_19 (by decide) (fun c_19 => ?_) (fun c_19 => ?_)
        · have hy2 : y = fb_ct (fun j => decide (φ j = j)) (i + 1) := by rw [ct_f (by simp; omega)]; exact hy
          refine z_iinc (k := 2) (lv' := [(2, .int (zI (((i + 1) : Nat) : Int))), (0, .ref h), (1, .int (zI ((y : Nat) : Int)))]) hx hb (((i + 1) : Nat) : Int) (by omega) dX2_stayCount_25 hl rfl (by decide) rfl (fun ls hl => ?_)
          refine lv_goto (tgt := 4) hx hb dX2_stayCount_28 (by decide) ?_
          exact ih_4 (i + 1) y (by omega) (by omega) (by first | exact hy1 | exact hy2) _ _ _ hP hD hS (lv_sub hl [1, 2, 0] rfl)
        · have hy1 : y + 1 = fb_ct (fun j => decide (φ j = j)) (i + 1) := by rw [ct_t (by simp; omega)]; omega
          refine z_iinc (k := 1) (lv' := [(1, .int (zI (((y + 1) : Nat) : Int))), (0, .ref h), (2, .int (zI ((i : Nat) : Int)))]) hx hb (((y + 1) : Nat) : Int) (by omega) dX2_stayCount_22 hl rfl (by decide) rfl (fun ls hl => ?_)
          refine z_iinc (k := 2) (lv' := [(2, .int (zI (((i + 1) : Nat) : Int))), (1, .int (zI (((y + 1) : Nat) : Int))), (0, .ref h)]) hx hb (((i + 1) : Nat) : Int) (by omega) dX2_stayCount_25 hl rfl (by decide) rfl (fun ls hl => ?_)
          refine lv_goto (tgt := 4) hx hb dX2_stayCount_28 (by decide) ?_
          exact ih_4 (i + 1) (y + 1) (by omega) (by omega) (by first | exact hy1 | exact hy2) _ _ _ hP hD hS (lv_sub hl [2, 1, 0] rfl)
  exact cut_4 (n - 0 + 1) 0 0 (Nat.lt_succ_self _) (by omega) (by rfl) _ _ _ hP hD hS (lv_sub hl [2, 1, 0] rfl)
end
section
/-! where a place goes by a step -/
def dlB (n q p : Nat) : Nat := (p % q) * (n / q) + min (p % q) (n % q)
def dlI (n q p : Nat) : Nat := if p % q < n % q then n / q + 1 else n / q
def dlq (n q p : Nat) (o : Nat) : Nat := (if o = 0 then n - dlB n q p - dlI n q p else dlB n q p) + dlI n q p - 1 - p / q
def mv (n kd nm p : Nat) : Nat :=
  if kd = 1 then (if p < nm % n then p + n - nm % n else p - nm % n)
  else if kd = 2 then dlq n (max 1 (min nm n)) p 0
  else if kd = 3 then (if p < min nm n then min nm n - 1 - p else p)
  else if kd = 4 then dlq n (max 1 (min nm n)) p 1
  else (if p = 0 then min nm (n - 1) else if p ≤ min nm (n - 1) then p - 1 else p)
set_option maxRecDepth 100000 in
theorem dl_ok' : ∀ n, n < 13 → ∀ q, q < 13 → ∀ p, p < 13 → (1 ≤ q ∧ p < n) → (dlB n q p + dlI n q p ≤ n ∧ p / q + 1 ≤ dlI n q p) := by decide +kernel
theorem dl_ok {n q p : Nat} (hn : n ≤ 12) (hq : q ≤ 12) (h1 : 1 ≤ q) (hp : p < n) : dlB n q p + dlI n q p ≤ n ∧ p / q + 1 ≤ dlI n q p := dl_ok' n (by omega) q (by omega) p (by omega) ⟨h1, hp⟩
set_option maxRecDepth 100000 in
theorem mv_lt' : ∀ n, n < 13 → ∀ kd, kd < 5 → ∀ nm, nm < 10 → ∀ p, p < 13 → (p < n) → mv n kd nm p < n := by decide +kernel
theorem mv_lt {n kd nm p : Nat} (hn : n ≤ 12) (hk : kd ≤ 4) (hm : nm ≤ 9) (hp : p < n) : mv n kd nm p < n := mv_lt' n (by omega) kd (by omega) nm (by omega) p (by omega) hp
/-- no two of the first n places go to one -/
def injB (f : Nat → Nat) (n : Nat) : Bool := (List.range n).all fun p => (List.range p).all fun q => f q != f p
theorem injB_of {f : Nat → Nat} {n : Nat} (h : injB f n = true) {p q : Nat} (hp : p < n) (hq : q < p) : f q ≠ f p := by
  have h1 := List.all_eq_true.mp h p (List.mem_range.mpr hp)
  have h2 := List.all_eq_true.mp h1 q (List.mem_range.mpr hq)
  simpa using h2
set_option maxRecDepth 100000 in
theorem mv_inj' : ∀ n, n < 13 → ∀ kd, kd < 5 → ∀ nm, nm < 10 → injB (mv n kd nm) n = true := by decide +kernel
theorem mv_inj {n kd nm p q : Nat} (hn : n ≤ 12) (hk : kd ≤ 4) (hm : nm ≤ 9) (hp : p < n) (hq : q < p) : mv n kd nm q ≠ mv n kd nm p := injB_of (mv_inj' n (by omega) kd (by omega) nm (by omega)) hp hq
/-! the greatest common divisor by a bounded number of rounds -/
def gd : Nat → Nat → Nat → Nat
  | 0, g, _ => g
  | f + 1, g, l => if l = 0 then g else gd f l (g % l)
theorem gd_0 (f g : Nat) : gd f g 0 = g := by cases f <;> simp [gd]
theorem gd_s {f g l : Nat} (h : 0 < l) : gd (f + 1) g l = gd f l (g % l) := by rw [gd, if_neg (by omega)]
theorem gd_gcd : ∀ (k g l : Nat), l < 2 ^ k → ∀ f, 2 * k ≤ f → gd f g l = Nat.gcd g l
  | 0, g, l, h, f, _ => by
    have e : l = 0 := by simpa using h
    subst e
    rw [gd_0, Nat.gcd_zero_right]
  | k + 1, g, l, h, f, hf => by
    obtain ⟨f, rfl⟩ : ∃ x, f = x + 2 := ⟨f - 2, by omega⟩
    by_cases h0 : l = 0
    · subst h0; rw [gd_0, Nat.gcd_zero_right]
    have hl : 0 < l := Nat.pos_of_ne_zero h0
    rw [gd_s hl]
    have e1 : Nat.gcd g l = Nat.gcd l (g % l) := by rw [Nat.gcd_comm g l, Nat.gcd_rec l g, Nat.gcd_comm]
    rw [e1]
    by_cases h1 : g % l = 0
    · rw [h1, gd_0, Nat.gcd_zero_right]
    have hr : 0 < g % l := Nat.pos_of_ne_zero h1
    have hrl : g % l < l := Nat.mod_lt _ hl
    rw [gd_s hr]
    have e2 : Nat.gcd l (g % l) = Nat.gcd (g % l) (l % (g % l)) := by rw [Nat.gcd_comm l (g % l), Nat.gcd_rec (g % l) l, Nat.gcd_comm]
    rw [e2]
    refine gd_gcd k _ _ ?_ f (by omega)
    have h3 : l % (g % l) < g % l := Nat.mod_lt _ hr
    have h4 : l = (g % l) * (l / (g % l)) + l % (g % l) := (Nat.div_add_mod l (g % l)).symm
    have h5 : 1 ≤ l / (g % l) := Nat.div_pos (Nat.le_of_lt hrl) hr
    have h6 : g % l ≤ (g % l) * (l / (g % l)) := Nat.le_mul_of_pos_right _ h5
    have h7 : 2 ^ (k + 1) = 2 * 2 ^ k := by rw [Nat.pow_succ]; omega
    omega
theorem gd_64 {g l : Nat} (h : l < 2147483648) : gd 64 g l = Nat.gcd g l := by
  have e : (2 : Nat) ^ 32 = 4294967296 := by decide
  exact gd_gcd 32 g l (by omega) 64 (by omega)
end
section
set_option maxHeartbeats 4000000 in
set_option maxRecDepth 100000 in
theorem c_X3_joined (l : Launch) (D : va_G) (cI : ClassId) (a0 b0 : Int)  : zMl l yX3_joined cX3_joined 4 (some .long) ({ frames := 0, cells := 0, slots := 0, locals := 0 }) D cI [.long (zL a0), .long (zL b0)] [] (fun (z : Int) (u : Unit) => z = (31 * a0 + b0)) (fun (u : Unit) => []) := by
  intro sz
  refine zstart rfl (by decide) (Nat.le_of_ble_eq_true rfl) ?_
  intro p e s m below meth c ls K hnm hsz hP hD hS hl
  generalize hargs : ([.long (zL a0), .long (zL b0)] : List Value).toArray = args at K ⊢
  generalize hQf : MQ below _ args s _ _ _ = Qf
  have K : zK p s m args meth c cX3_joined 4 RX3 (some .long) D cI := K
  obtain ⟨hx, hb, hml, hown, hts, hE, -, -⟩ := id K
  have hA := zhA (ws0 := []) hsz
  have hl : lv_has ls 4 [(0, .long (zL a0)), (2, .long (zL b0))] := hl
  refine lv_ldc2 (v := zL 31) hx hb hown (hts _ qk_X3_252) dX3_joined_0 ?_
  refine lv_lload_n hx hb dX3_joined_3 rfl (lv_at hl 0 rfl) ?_
  refine z_lmul hx hb (31 * a0) rfl dX3_joined_4 ?_
  refine lv_lload_n hx hb dX3_joined_5 rfl (lv_at hl 1 rfl) ?_
  refine z_ladd hx hb ((31 * a0) + b0) rfl dX3_joined_6 ?_
  rw [← hQf]
  exact z_lret K hS () (by first | rfl | omega | (split <;> omega)) hP hD dX3_joined_7
set_option maxHeartbeats 4000000 in
set_option maxRecDepth 100000 in
theorem c_X3_isOfKind (l : Launch) (D : va_G) (cI : ClassId) (a0 b0 : Int) (ha0 : -2147483648 ≤ a0 ∧ a0 < 2147483648) (hb0 : -2147483648 ≤ b0 ∧ b0 < 2147483648) : zMi l yX3_isOfKind cX3_isOfKind 2 (some .boolean) ({ frames := 0, cells := 0, slots := 0, locals := 0 }) D cI [.int (zI a0), .int (zI b0)] [] (fun (z : Int) (u : Unit) => z = (b01 (b0 = 0 ∨ b0 = a0 ∨ (b0 = 2 ∧ a0 = 4)))) (fun (u : Unit) => []) := by
  intro sz
  refine zstart rfl (by decide) (Nat.le_of_ble_eq_true rfl) ?_
  intro p e s m below meth c ls K hnm hsz hP hD hS hl
  generalize hargs : ([.int (zI a0), .int (zI b0)] : List Value).toArray = args at K ⊢
  generalize hQf : MQ below _ args s _ _ _ = Qf
  have K : zK p s m args meth c cX3_isOfKind 2 RX3 (some .boolean) D cI := K
  obtain ⟨hx, hb, hml, hown, hts, hE, -, -⟩ := id K
  have hA := zhA (ws0 := []) hsz
  have hl : lv_has ls 2 [(0, .int (zI a0)), (1, .int (zI b0))] := hl
  refine lv_iload_n hx hb dX3_isOfKind_0 rfl (lv_at hl 1 rfl) ?_
  refine z_if_eq (tgt := 19) hx hb (by omega) dX3_isOfKind_1 (by decide) (fun c_1 => ?_) (fun c_1 => ?_)
  · refine lv_iconst (v := zI 1) hx hb dX3_isOfKind_19 rfl ?_
    refine lv_goto (tgt := 24) hx hb dX3_isOfKind_20 (by decide) ?_
    rw [← hQf]
    exact z_bret K hS () (by first | exact (b01_t (by omega)).symm | exact (b01_f (by omega)).symm) (by omega) hP hD dX3_isOfKind_24
  · refine lv_iload_n hx hb dX3_isOfKind_4 rfl (lv_at hl 1 rfl) ?_
    refine lv_iload_n hx hb dX3_isOfKind_5 rfl (lv_at hl 0 rfl) ?_
    refine z_icmp_eq (tgt := 19) hx hb (by omega) dX3_isOfKind_6 (by decide) (fun c_6 => ?_) (fun c_6 => ?_)
    · refine lv_iconst (v := zI 1) hx hb dX3_isOfKind_19 rfl ?_
      refine lv_goto (tgt := 24) hx hb dX3_isOfKind_20 (by decide) ?_
      rw [← hQf]
      exact z_bret K hS () (by first | exact (b01_t (by omega)).symm | exact (b01_f (by omega)).symm) (by omega) hP hD dX3_isOfKind_24
    · refine lv_iload_n hx hb dX3_isOfKind_9 rfl (lv_at hl 1 rfl) ?_
      refine lv_iconst (v := zI 2) hx hb dX3_isOfKind_10 rfl ?_
      refine z_icmp_ne (tgt := 23) hx hb (by omega) dX3_isOfKind_11 (by decide) (fun c_11 => ?_) (fun c_11 => ?_)
      · refine lv_iconst (v := zI 0) hx hb dX3_isOfKind_23 rfl ?_
        rw [← hQf]
        exact z_bret K hS () (by first | exact (b01_t (by omega)).symm | exact (b01_f (by omega)).symm) (by omega) hP hD dX3_isOfKind_24
      · refine lv_iload_n hx hb dX3_isOfKind_14 rfl (lv_at hl 0 rfl) ?_
        refine lv_iconst (v := zI 4) hx hb dX3_isOfKind_15 rfl ?_
        refine z_icmp_ne (tgt := 23) hx hb (by omega) dX3_isOfKind_16 (by decide) (fun c_16 => ?_) (fun c_16 => ?_)
        · refine lv_iconst (v := zI 0) hx hb dX3_isOfKind_23 rfl ?_
          rw [← hQf]
          exact z_bret K hS () (by first | exact (b01_t (by omega)).symm | exact (b01_f (by omega)).symm) (by omega) hP hD dX3_isOfKind_24
        · refine lv_iconst (v := zI 1) hx hb dX3_isOfKind_19 rfl ?_
          refine lv_goto (tgt := 24) hx hb dX3_isOfKind_20 (by decide) ?_
          rw [← hQf]
          exact z_bret K hS () (by first | exact (b01_t (by omega)).symm | exact (b01_f (by omega)).symm) (by omega) hP hD dX3_isOfKind_24
set_option maxHeartbeats 4000000 in
set_option maxRecDepth 100000 in
theorem c_X3_greatestDivisor (l : Launch) (D : va_G) (cI : ClassId) (a0 b0 : Nat) (ha0 : a0 < 2147483648) (hb0 : b0 < 2147483648) : zMi l yX3_greatestDivisor cX3_greatestDivisor 6 (some .int) ({ frames := 0, cells := 0, slots := 0, locals := 0 }) D cI [.int (zI ((a0 : Nat) : Int)), .int (zI ((b0 : Nat) : Int))] [] (fun (z : Int) (u : Unit) => z = (((Nat.gcd a0 b0) : Nat) : Int)) (fun (u : Unit) => []) := by
  intro sz
  refine zstart rfl (by decide) (Nat.le_of_ble_eq_true rfl) ?_
  intro p e s m below meth c ls K hnm hsz hP hD hS hl
  generalize hargs : ([.int (zI ((a0 : Nat) : Int)), .int (zI ((b0 : Nat) : Int))] : List Value).toArray = args at K ⊢
  generalize hQf : MQ below _ args s _ _ _ = Qf
  have K : zK p s m args meth c cX3_greatestDivisor 6 RX3 (some .int) D cI := K
  obtain ⟨hx, hb, hml, hown, hts, hE, -, -⟩ := id K
  have hA := zhA (ws0 := []) hsz
  have hl : lv_has ls 6 [(0, .int (zI ((a0 : Nat) : Int))), (1, .int (zI ((b0 : Nat) : Int)))] := hl
  refine lv_iload_n hx hb dX3_greatestDivisor_0 rfl (lv_at hl 0 rfl) ?_
  refine lv_istore_n (lv' := [(2, .int (zI ((a0 : Nat) : Int))), (0, .int (zI ((a0 : Nat) : Int))), (1, .int (zI ((b0 : Nat) : Int)))]) hx hb dX3_greatestDivisor_1 rfl hl (by decide) rfl (fun ls hl => ?_)
  refine lv_iload_n hx hb dX3_greatestDivisor_2 rfl (lv_at hl 2 rfl) ?_
  refine lv_istore_n (lv' := [(3, .int (zI ((b0 : Nat) : Int))), (2, .int (zI ((a0 : Nat) : Int))), (0, .int (zI ((a0 : Nat) : Int))), (1, .int (zI ((b0 : Nat) : Int)))]) hx hb dX3_greatestDivisor_3 rfl hl (by decide) rfl (fun ls hl => ?_)
  refine lv_iconst (v := zI 0) hx hb dX3_greatestDivisor_4 rfl ?_
  refine lv_istore (lv' := [(4, .int (zI 0)), (3, .int (zI ((b0 : Nat) : Int))), (2, .int (zI ((a0 : Nat) : Int))), (0, .int (zI ((a0 : Nat) : Int))), (1, .int (zI ((b0 : Nat) : Int)))]) hx hb dX3_greatestDivisor_5 hl (by decide) rfl (fun ls hl => ?_)
  have cut_7 : ∀ (N_7 : Nat), ∀ (i x y : Nat), 64 - i < N_7 → (i ≤ 64) → (x < 2147483648 ∧ y < 2147483648) → (gd (64 - i) x y = Nat.gcd a0 b0) → ∀ (H : Heap) (locs : List Loc) (ls : Array Slot), va_P D cls [] H → va_D (va_A [] sz) [] → va_S (va_A [] sz) s.heap H locs → lv_has ls 6 [(0, .int (zI ((a0 : Nat) : Int))), (1, .int (zI ((b0 : Nat) : Int))), (2, .int (zI ((x : Nat) : Int))), (3, .int (zI ((y : Nat) : Int))), (4, .int (zI ((i : Nat) : Int)))] → W p l e ({ frames := 0, cells := 0, slots := 0, locals := 0 }) s m args below meth c H locs 0 0 Qf (F0 m 7 ls []) := by
    intro N_7
    induction N_7 with
    | zero => intro i x y hm_7; exact absurd hm_7 (Nat.not_lt_zero _)
    | succ N_7 ih_7 =>
      intro i x y hm_7 hi hy hg H locs ls hP hD hS hl
      refine lv_iload hx hb dX3_greatestDivisor_7 (lv_at hl 4 rfl) ?_
      refine lv_bipush (v := zI 64) hx hb dX3_greatestDivisor_9 (by decide) ?_
      refine z_icmp_ge (tgt := 34) hx hb (by omega) dX3_greatestDivisor_11 (by decide) (fun c_11 => ?_) (fun c_11 => ?_)
      · refine lv_iload_n hx hb dX3_greatestDivisor_34 rfl (lv_at hl 2 rfl) ?_
        rw [← hQf]
        exact z_iret K hS () (by first | (rw [← hg, show y = 0 by omega, gd_0]) | (rw [← hg, show 64 - i = 0 by omega]; rfl)) hP hD dX3_greatestDivisor_35
      · refine lv_iload_n hx hb dX3_greatestDivisor_14 rfl (lv_at hl 3 rfl) ?_
        refine z_if_le (tgt := 34) hx hb (by omega) dX3_greatestDivisor_15 (by decide) (fun c_15 => ?_) (fun c_15 => ?_)
        · refine lv_iload_n hx hb dX3_greatestDivisor_34 rfl (lv_at hl 2 rfl) ?_
          rw [← hQf]
          exact z_iret K hS () (by first | (rw [← hg, show y = 0 by omega, gd_0]) | (rw [← hg, show 64 - i = 0 by omega]; rfl)) hP hD dX3_greatestDivisor_35
        · refine lv_iload_n hx hb dX3_greatestDivisor_18 rfl (lv_at hl 2 rfl) ?_
          refine lv_iload_n hx hb dX3_greatestDivisor_19 rfl (lv_at hl 3 rfl) ?_
          refine z_irem hx hb (((x % y) : Nat) : Int) (by omega) rfl dX3_greatestDivisor_20 ?_
          have hlt : x % y < y := Nat.mod_lt _ (by omega)
          have hg2 : gd (64 - (i + 1)) y (x % y) = Nat.gcd a0 b0 := by rw [← hg, show 64 - i = (64 - (i + 1)) + 1 by omega, gd_s (by omega)]
          refine lv_istore (lv' := [(5, .int (zI (((x % y) : Nat) : Int))), (0, .int (zI ((a0 : Nat) : Int))), (1, .int (zI ((b0 : Nat) : Int))), (2, .int (zI ((x : Nat) : Int))), (3, .int (zI ((y : Nat) : Int))), (4, .int (zI ((i : Nat) : Int)))]) hx hb dX3_greatestDivisor_21 hl (by decide) rfl (fun ls hl => ?_)
          refine lv_iload_n hx hb dX3_greatestDivisor_23 rfl (lv_at hl 4 rfl) ?_
          refine lv_istore_n (lv' := [(2, .int (zI ((y : Nat) : Int))), (5, .int (zI (((x % y) : Nat) : Int))), (0, .int (zI ((a0 : Nat) : Int))), (1, .int (zI ((b0 : Nat) : Int))), (3, .int (zI ((y : Nat) : Int))), (4, .int (zI ((i : Nat) : Int)))]) hx hb dX3_greatestDivisor_24 rfl hl (by decide) rfl (fun ls hl => ?_)
          refine lv_iload hx hb dX3_greatestDivisor_25 (lv_at hl 1 rfl) ?_
          refine lv_istore_n (lv' := [(3, .int (zI (((x % y) : Nat) : Int))), (2, .int (zI ((y : Nat) : Int))), (5, .int (zI (((x % y) : Nat) : Int))), (0, .int (zI ((a0 : Nat) : Int))), (1, .int (zI ((b0 : Nat) : Int))), (4, .int (zI ((i : Nat) : Int)))]) hx hb dX3_greatestDivisor_27 rfl hl (by decide) rfl (fun ls hl => ?_)
          refine z_iinc (k := 5) (lv' := [(4, .int (zI (((i + 1) : Nat) : Int))), (3, .int (zI (((x % y) : Nat) : Int))), (2, .int (zI ((y : Nat) : Int))), (5, .int (zI (((x % y) : Nat) : Int))), (0, .int (zI ((a0 : Nat) : Int))), (1, .int (zI ((b0 : Nat) : Int)))]) hx hb (((i + 1) : Nat) : Int) (by omega) dX3_greatestDivisor_28 hl rfl (by decide) rfl (fun ls hl => ?_)
          refine lv_goto (tgt := 7) hx hb dX3_greatestDivisor_31 (by decide) ?_
          exact ih_7 (i + 1) y (x % y) (by omega) (by omega) (by omega) (by exact hg2) _ _ _ hP hD hS (lv_sub hl [4, 5, 2, 1, 0] rfl)
  exact cut_7 (64 - 0 + 1) 0 a0 b0 (Nat.lt_succ_self _) (by omega) (by omega) (by exact gd_64 hb0) _ _ _ hP hD hS (lv_sub hl [3, 4, 2, 1, 0] rfl)
set_option maxHeartbeats 4000000 in
set_option maxRecDepth 100000 in
theorem c_X3_movedByStep (l : Launch) (D : va_G) (cI : ClassId) (d0 p0 : Nat) (hd0 : d0 ≤ 12) (hp0 : p0 ≤ 12) : zMi l yX3_movedByStep cX3_movedByStep 2 (some .int) ({ frames := 0, cells := 0, slots := 0, locals := 0 }) D cI [.int (zI ((d0 : Nat) : Int)), .int (zI ((p0 : Nat) : Int))] [] (fun (z : Int) (u : Unit) => z = (((if p0 = 0 then d0 else if p0 ≤ d0 then p0 - 1 else p0) : Nat) : Int)) (fun (u : Unit) => []) := by
  intro sz
  refine zstart rfl (by decide) (Nat.le_of_ble_eq_true rfl) ?_
  intro p e s m below meth c ls K hnm hsz hP hD hS hl
  generalize hargs : ([.int (zI ((d0 : Nat) : Int)), .int (zI ((p0 : Nat) : Int))] : List Value).toArray = args at K ⊢
  generalize hQf : MQ below _ args s _ _ _ = Qf
  have K : zK p s m args meth c cX3_movedByStep 2 RX3 (some .int) D cI := K
  obtain ⟨hx, hb, hml, hown, hts, hE, -, -⟩ := id K
  have hA := zhA (ws0 := []) hsz
  have hl : lv_has ls 2 [(0, .int (zI ((d0 : Nat) : Int))), (1, .int (zI ((p0 : Nat) : Int)))] := hl
  refine lv_iload_n hx hb dX3_movedByStep_0 rfl (lv_at hl 1 rfl) ?_
  refine z_if_ne (tgt := 6) hx hb (by omega) dX3_movedByStep_1 (by decide) (fun c_1 => ?_) (fun c_1 => ?_)
  · refine lv_iload_n hx hb dX3_movedByStep_6 rfl (lv_at hl 1 rfl) ?_
    refine lv_iload_n hx hb dX3_movedByStep_7 rfl (lv_at hl 0 rfl) ?_
    refine z_icmp_gt (tgt := 17) hx hb (by omega) dX3_movedByStep_8 (by decide) (fun c_8 => ?_) (fun c_8 => ?_)
    · refine lv_iload_n hx hb dX3_movedByStep_17 rfl (lv_at hl 1 rfl) ?_
      rw [← hQf]
      exact z_iret K hS () (by first | (rw [if_neg (by omega), if_pos (by omega)]; done) | (rw [if_neg (by omega), if_neg (by omega)]; done)) hP hD dX3_movedByStep_18
    · refine lv_iload_n hx hb dX3_movedByStep_11 rfl (lv_at hl 1 rfl) ?_
      refine lv_iconst (v := zI 1) hx hb dX3_movedByStep_12 rfl ?_
      refine z_isub hx hb ((p0 - 1 : Nat) : Int) (by omega) dX3_movedByStep_13 ?_
      refine lv_goto (tgt := 18) hx hb dX3_movedByStep_14 (by decide) ?_
      rw [← hQf]
      exact z_iret K hS () (by first | (rw [if_neg (by omega), if_pos (by omega)]; done) | (rw [if_neg (by omega), if_neg (by omega)]; done)) hP hD dX3_movedByStep_18
  · refine lv_iload_n hx hb dX3_movedByStep_4 rfl (lv_at hl 0 rfl) ?_
    rw [← hQf]
    exact z_iret K hS () (by rw [if_pos (by omega)]) hP hD dX3_movedByStep_5
set_option maxHeartbeats 4000000 in
set_option maxRecDepth 100000 in
theorem c_X3_movedByCut (l : Launch) (D : va_G) (cI : ClassId) (nm n p0 : Nat) (hnm : nm ≤ 9) (hn : 1 ≤ n ∧ n ≤ 12) (hp0 : p0 < n) : zMi l yX3_movedByCut cX3_movedByCut 4 (some .int) ({ frames := 0, cells := 0, slots := 0, locals := 0 }) D cI [.int (zI ((nm : Nat) : Int)), .int (zI ((n : Nat) : Int)), .int (zI ((p0 : Nat) : Int))] [] (fun (z : Int) (u : Unit) => z = (((if p0 < nm % n then p0 + n - nm % n else p0 - nm % n) : Nat) : Int)) (fun (u : Unit) => []) := by
  intro sz
  refine zstart rfl (by decide) (Nat.le_of_ble_eq_true rfl) ?_
  intro p e s m below meth c ls K hnm hsz hP hD hS hl
  generalize hargs : ([.int (zI ((nm : Nat) : Int)), .int (zI ((n : Nat) : Int)), .int (zI ((p0 : Nat) : Int))] : List Value).toArray = args at K ⊢
  generalize hQf : MQ below _ args s _ _ _ = Qf
  have K : zK p s m args meth c cX3_movedByCut 4 RX3 (some .int) D cI := K
  obtain ⟨hx, hb, hml, hown, hts, hE, -, -⟩ := id K
  have hA := zhA (ws0 := []) hsz
  have hl : lv_has ls 4 [(0, .int (zI ((nm : Nat) : Int))), (1, .int (zI ((n : Nat) : Int))), (2, .int (zI ((p0 : Nat) : Int)))] := hl
  have hm := Nat.mod_lt nm (show 0 < n by omega)
  obtain ⟨q, hq⟩ : ∃ q, q = nm % n := ⟨_, rfl⟩
  rw [← hq] at hm
  refine lv_iload_n hx hb dX3_movedByCut_0 rfl (lv_at hl 1 rfl) ?_
  refine z_if_le (tgt := 10) hx hb (by omega) dX3_movedByCut_1 (by decide) (fun c_1 => ?_) (fun c_1 => ?_)
  · exfalso; omega
  · refine lv_iload_n hx hb dX3_movedByCut_4 rfl (lv_at hl 0 rfl) ?_
    refine lv_iload_n hx hb dX3_movedByCut_5 rfl (lv_at hl 1 rfl) ?_
    refine z_irem hx hb ((q : Nat) : Int) (by omega) (by rw [hq]; rfl) dX3_movedByCut_6 ?_
    refine lv_goto (tgt := 11) hx hb dX3_movedByCut_7 (by decide) ?_
    refine lv_istore_n (lv' := [(3, .int (zI ((q : Nat) : Int))), (0, .int (zI ((nm : Nat) : Int))), (1, .int (zI ((n : Nat) : Int))), (2, .int (zI ((p0 : Nat) : Int)))]) hx hb dX3_movedByCut_11 rfl hl (by decide) rfl (fun ls hl => ?_)
    refine lv_iload_n hx hb dX3_movedByCut_12 rfl (lv_at hl 3 rfl) ?_
    refine lv_iload_n hx hb dX3_movedByCut_13 rfl (lv_at hl 0 rfl) ?_
    refine z_icmp_ge (tgt := 25) hx hb (by omega) dX3_movedByCut_14 (by decide) (fun c_14 => ?_) (fun c_14 => ?_)
    · refine lv_iload_n hx hb dX3_movedByCut_25 rfl (lv_at hl 3 rfl) ?_
      refine lv_iload_n hx hb dX3_movedByCut_26 rfl (lv_at hl 0 rfl) ?_
      refine z_isub hx hb ((p0 - q : Nat) : Int) (by omega) dX3_movedByCut_27 ?_
      rw [← hQf]
      exact z_iret K hS () (by rw [← hq]; first | rw [if_pos (by omega)] | rw [if_neg (by omega)]) hP hD dX3_movedByCut_28
    · refine lv_iload_n hx hb dX3_movedByCut_17 rfl (lv_at hl 3 rfl) ?_
      refine lv_iload_n hx hb dX3_movedByCut_18 rfl (lv_at hl 0 rfl) ?_
      refine z_isub hx hb (((p0 : Nat) : Int) - ((q : Nat) : Int)) rfl dX3_movedByCut_19 ?_
      refine lv_iload_n hx hb dX3_movedByCut_20 rfl (lv_at hl 2 rfl) ?_
      refine z_iadd hx hb ((p0 + n - q : Nat) : Int) (by omega) dX3_movedByCut_21 ?_
      refine lv_goto (tgt := 28) hx hb dX3_movedByCut_22 (by decide) ?_
      rw [← hQf]
      exact z_iret K hS () (by rw [← hq]; first | rw [if_pos (by omega)] | rw [if_neg (by omega)]) hP hD dX3_movedByCut_28
set_option maxHeartbeats 4000000 in
set_option maxRecDepth 100000 in
theorem c_X3_movedByTurn (l : Launch) (D : va_G) (cI : ClassId) (t0 p0 : Nat) (ht0 : t0 ≤ 12) (hp0 : p0 ≤ 12) : zMi l yX3_movedByTurn cX3_movedByTurn 2 (some .int) ({ frames := 0, cells := 0, slots := 0, locals := 0 }) D cI [.int (zI ((t0 : Nat) : Int)), .int (zI ((p0 : Nat) : Int))] [] (fun (z : Int) (u : Unit) => z = (((if p0 < t0 then t0 - 1 - p0 else p0) : Nat) : Int)) (fun (u : Unit) => []) := by
  intro sz
  refine zstart rfl (by decide) (Nat.le_of_ble_eq_true rfl) ?_
  intro p e s m below meth c ls K hnm hsz hP hD hS hl
  generalize hargs : ([.int (zI ((t0 : Nat) : Int)), .int (zI ((p0 : Nat) : Int))] : List Value).toArray = args at K ⊢
  generalize hQf : MQ below _ args s _ _ _ = Qf
  have K : zK p s m args meth c cX3_movedByTurn 2 RX3 (some .int) D cI := K
  obtain ⟨hx, hb, hml, hown, hts, hE, -, -⟩ := id K
  have hA := zhA (ws0 := []) hsz
  have hl : lv_has ls 2 [(0, .int (zI ((t0 : Nat) : Int))), (1, .int (zI ((p0 : Nat) : Int)))] := hl
  refine lv_iload_n hx hb dX3_movedByTurn_0 rfl (lv_at hl 1 rfl) ?_
  refine lv_iload_n hx hb dX3_movedByTurn_1 rfl (lv_at hl 0 rfl) ?_
  refine z_icmp_ge (tgt := 13) hx hb (by omega) dX3_movedByTurn_2 (by decide) (fun c_2 => ?_) (fun c_2 => ?_)
  · refine lv_iload_n hx hb dX3_movedByTurn_13 rfl (lv_at hl 1 rfl) ?_
    rw [← hQf]
    exact z_iret K hS () (by first | rw [if_pos (by omega)] | rw [if_neg (by omega)]) hP hD dX3_movedByTurn_14
  · refine lv_iload_n hx hb dX3_movedByTurn_5 rfl (lv_at hl 0 rfl) ?_
    refine lv_iconst (v := zI 1) hx hb dX3_movedByTurn_6 rfl ?_
    refine z_isub hx hb (((t0 : Nat) : Int) - 1) rfl dX3_movedByTurn_7 ?_
    refine lv_iload_n hx hb dX3_movedByTurn_8 rfl (lv_at hl 1 rfl) ?_
    refine z_isub hx hb ((t0 - 1 - p0 : Nat) : Int) (by omega) dX3_movedByTurn_9 ?_
    refine lv_goto (tgt := 14) hx hb dX3_movedByTurn_10 (by decide) ?_
    rw [← hQf]
    exact z_iret K hS () (by first | rw [if_pos (by omega)] | rw [if_neg (by omega)]) hP hD dX3_movedByTurn_14
set_option maxHeartbeats 4000000 in
set_option maxRecDepth 100000 in
theorem c_X3_movedByDeal (l : Launch) (D : va_G) (cI : ClassId) (nm n p0 o : Nat) (hnm : nm ≤ 9) (hn : n ≤ 12) (hp0 : p0 < n) (ho : o ≤ 1) : zMi l yX3_movedByDeal cX3_movedByDeal 11 (some .int) ({ frames := 1, cells := 0, slots := 0, locals := 21 }) D cI [.int (zI ((nm : Nat) : Int)), .int (zI ((n : Nat) : Int)), .int (zI ((p0 : Nat) : Int)), .int (zI ((o : Nat) : Int))] [] (fun (z : Int) (u : Unit) => z = (((dlq n (max 1 (min nm n)) p0 o) : Nat) : Int)) (fun (u : Unit) => []) := by
  intro sz
  refine zstart rfl (by decide) (Nat.le_of_ble_eq_true rfl) ?_
  intro p e s m below meth c ls K hnm hsz hP hD hS hl
  generalize hargs : ([.int (zI ((nm : Nat) : Int)), .int (zI ((n : Nat) : Int)), .int (zI ((p0 : Nat) : Int)), .int (zI ((o : Nat) : Int))] : List Value).toArray = args at K ⊢
  generalize hQf : MQ below _ args s _ _ _ = Qf
  have K : zK p s m args meth c cX3_movedByDeal 11 RX3 (some .int) D cI := K
  obtain ⟨hx, hb, hml, hown, hts, hE, -, -⟩ := id K
  have hA := zhA (ws0 := []) hsz
  have hl : lv_has ls 11 [(0, .int (zI ((nm : Nat) : Int))), (1, .int (zI ((n : Nat) : Int))), (2, .int (zI ((p0 : Nat) : Int))), (3, .int (zI ((o : Nat) : Int)))] := hl
  obtain ⟨q, hq⟩ : ∃ q, q = max 1 (min nm n) := ⟨_, rfl⟩
  have hq1 : 1 ≤ q ∧ q ≤ 12 := by omega
  have hdl := dl_ok (n := n) (q := q) (p := p0) hn hq1.2 hq1.1 hp0
  obtain ⟨B, hB⟩ : ∃ B, B = dlB n q p0 := ⟨_, rfl⟩
  obtain ⟨I, hI⟩ : ∃ B, B = dlI n q p0 := ⟨_, rfl⟩
  rw [← hB, ← hI] at hdl
  have h1 : n / q ≤ n := Nat.div_le_self _ _
  have h2 : n % q < q := Nat.mod_lt _ (by omega)
  have h3 : p0 % q < q := Nat.mod_lt _ (by omega)
  have h4 : p0 / q ≤ p0 := Nat.div_le_self _ _
  refine lv_iconst (v := zI 1) hx hb dX3_movedByDeal_0 rfl ?_
  refine lv_iload_n hx hb dX3_movedByDeal_1 rfl (lv_at hl 0 rfl) ?_
  refine lv_iload_n hx hb dX3_movedByDeal_2 rfl (lv_at hl 1 rfl) ?_
  refine z_Mmin hx hb (by rw [hml]; exact hl.1.symm) hown (hts _ qm_X3_308) (hts _ qs_Mmin) (hts _ qn_Math) (hts _ qc_Mmin) (by decide) (Nat.le_of_ble_eq_true rfl) (by decide) (by decide) (by omega) ((min nm n : Nat) : Int) (by split <;> omega) dX3_movedByDeal_3 ?_
  refine z_Mmax hx hb (by rw [hml]; exact hl.1.symm) hown (hts _ qm_X3_279) (hts _ qs_Mmax) (hts _ qn_Math) (hts _ qc_Mmax) (by decide) (Nat.le_of_ble_eq_true rfl) (by decide) (by decide) (by omega) ((q : Nat) : Int) (by split <;> omega) dX3_movedByDeal_6 ?_
  refine lv_istore (lv' := [(4, .int (zI ((q : Nat) : Int))), (0, .int (zI ((nm : Nat) : Int))), (1, .int (zI ((n : Nat) : Int))), (2, .int (zI ((p0 : Nat) : Int))), (3, .int (zI ((o : Nat) : Int)))]) hx hb dX3_movedByDeal_9 hl (by decide) rfl (fun ls hl => ?_)
  refine lv_iload_n hx hb dX3_movedByDeal_11 rfl (lv_at hl 2 rfl) ?_
  refine lv_iload hx hb dX3_movedByDeal_12 (lv_at hl 0 rfl) ?_
  refine z_idiv hx hb (((n / q) : Nat) : Int) (by omega) rfl dX3_movedByDeal_14 ?_
  refine lv_istore (lv' := [(5, .int (zI (((n / q) : Nat) : Int))), (4, .int (zI ((q : Nat) : Int))), (0, .int (zI ((nm : Nat) : Int))), (1, .int (zI ((n : Nat) : Int))), (2, .int (zI ((p0 : Nat) : Int))), (3, .int (zI ((o : Nat) : Int)))]) hx hb dX3_movedByDeal_15 hl (by decide) rfl (fun ls hl => ?_)
  refine lv_iload_n hx hb dX3_movedByDeal_17 rfl (lv_at hl 3 rfl) ?_
  refine lv_iload hx hb dX3_movedByDeal_18 (lv_at hl 1 rfl) ?_
  refine z_irem hx hb (((n % q) : Nat) : Int) (by omega) rfl dX3_movedByDeal_20 ?_
  refine lv_istore (lv' := [(6, .int (zI (((n % q) : Nat) : Int))), (5, .int (zI (((n / q) : Nat) : Int))), (4, .int (zI ((q : Nat) : Int))), (0, .int (zI ((nm : Nat) : Int))), (1, .int (zI ((n : Nat) : Int))), (2, .int (zI ((p0 : Nat) : Int))), (3, .int (zI ((o : Nat) : Int)))]) hx hb dX3_movedByDeal_21 hl (by decide) rfl (fun ls hl => ?_)
  refine lv_iload_n hx hb dX3_movedByDeal_23 rfl (lv_at hl 5 rfl) ?_
  refine lv_iload hx hb dX3_movedByDeal_24 (lv_at hl 2 rfl) ?_
  refine z_irem hx hb (((p0 % q) : Nat) : Int) (by omega) rfl dX3_movedByDeal_26 ?_
  refine lv_istore (lv' := [(7, .int (zI (((p0 % q) : Nat) : Int))), (6, .int (zI (((n % q) : Nat) : Int))), (5, .int (zI (((n / q) : Nat) : Int))), (4, .int (zI ((q : Nat) : Int))), (0, .int (zI ((nm : Nat) : Int))), (1, .int (zI ((n : Nat) : Int))), (2, .int (zI ((p0 : Nat) : Int))), (3, .int (zI ((o : Nat) : Int)))]) hx hb dX3_movedByDeal_27 hl (by decide) rfl (fun ls hl => ?_)
  refine lv_iload hx hb dX3_movedByDeal_29 (lv_at hl 0 rfl) ?_
  refine lv_iload hx hb dX3_movedByDeal_31 (lv_at hl 1 rfl) ?_
  refine z_icmp_ge (tgt := 43) hx hb (by omega) dX3_movedByDeal_33 (by decide) (fun c_33 => ?_) (fun c_33 => ?_)
  · refine lv_iload hx hb dX3_movedByDeal_43 (lv_at hl 2 rfl) ?_
    refine W.eq (g2 := F0 m 45 ls [.int (zI ((I : Nat) : Int))]) (by rw [show ((((n / q) : Nat) : Int) : Int) = ((I : Nat) : Int) from by rw [hI, dlI, if_neg (by omega)]]) ?_
    refine lv_istore (lv' := [(8, .int (zI ((I : Nat) : Int))), (7, .int (zI (((p0 % q) : Nat) : Int))), (6, .int (zI (((n % q) : Nat) : Int))), (5, .int (zI (((n / q) : Nat) : Int))), (4, .int (zI ((q : Nat) : Int))), (0, .int (zI ((nm : Nat) : Int))), (1, .int (zI ((n : Nat) : Int))), (2, .int (zI ((p0 : Nat) : Int))), (3, .int (zI ((o : Nat) : Int)))]) hx hb dX3_movedByDeal_45 hl (by decide) rfl (fun ls hl => ?_)
    refine lv_iload hx hb dX3_movedByDeal_47 (lv_at hl 1 rfl) ?_
    refine lv_iload hx hb dX3_movedByDeal_49 (lv_at hl 3 rfl) ?_
    refine z_imul hx hb ((((p0 % q) * (n / q)) : Nat) : Int) (by first | omega | exact (Int.natCast_mul _ _).symm) dX3_movedByDeal_51 ?_
    refine lv_iload hx hb dX3_movedByDeal_52 (lv_at hl 1 rfl) ?_
    refine lv_iload hx hb dX3_movedByDeal_54 (lv_at hl 2 rfl) ?_
    refine z_Mmin hx hb (by rw [hml]; exact hl.1.symm) hown (hts _ qm_X3_308) (hts _ qs_Mmin) (hts _ qn_Math) (hts _ qc_Mmin) (by decide) (Nat.le_of_ble_eq_true rfl) (by decide) (by decide) (by omega) ((min (p0 % q) (n % q) : Nat) : Int) (by split <;> omega) dX3_movedByDeal_56 ?_
    refine z_iadd hx hb ((B : Nat) : Int) (by rw [hB, dlB]; omega) dX3_movedByDeal_59 ?_
    refine lv_istore (lv' := [(9, .int (zI ((B : Nat) : Int))), (8, .int (zI ((I : Nat) : Int))), (7, .int (zI (((p0 % q) : Nat) : Int))), (6, .int (zI (((n % q) : Nat) : Int))), (5, .int (zI (((n / q) : Nat) : Int))), (4, .int (zI ((q : Nat) : Int))), (0, .int (zI ((nm : Nat) : Int))), (1, .int (zI ((n : Nat) : Int))), (2, .int (zI ((p0 : Nat) : Int))), (3, .int (zI ((o : Nat) : Int)))]) hx hb dX3_movedByDeal_60 hl (by decide) rfl (fun ls hl => ?_)
    refine lv_iload_n hx hb dX3_movedByDeal_62 rfl (lv_at hl 9 rfl) ?_
    refine z_if_eq (tgt := 71) hx hb (by omega) dX3_movedByDeal_63 (by decide) (fun c_63 => ?_) (fun c_63 => ?_)
    · refine lv_iload_n hx hb dX3_movedByDeal_71 rfl (lv_at hl 7 rfl) ?_
      refine lv_iload hx hb dX3_movedByDeal_72 (lv_at hl 0 rfl) ?_
      refine z_isub hx hb (((n : Nat) : Int) - ((B : Nat) : Int)) rfl dX3_movedByDeal_74 ?_
      refine lv_iload hx hb dX3_movedByDeal_75 (lv_at hl 1 rfl) ?_
      refine z_isub hx hb ((n - B - I : Nat) : Int) (by omega) dX3_movedByDeal_77 ?_
      refine lv_istore (lv' := [(10, .int (zI ((n - B - I : Nat) : Int))), (9, .int (zI ((B : Nat) : Int))), (8, .int (zI ((I : Nat) : Int))), (7, .int (zI (((p0 % q) : Nat) : Int))), (6, .int (zI (((n % q) : Nat) : Int))), (5, .int (zI (((n / q) : Nat) : Int))), (4, .int (zI ((q : Nat) : Int))), (0, .int (zI ((nm : Nat) : Int))), (1, .int (zI ((n : Nat) : Int))), (2, .int (zI ((p0 : Nat) : Int))), (3, .int (zI ((o : Nat) : Int)))]) hx hb dX3_movedByDeal_78 hl (by decide) rfl (fun ls hl => ?_)
      refine lv_iload hx hb dX3_movedByDeal_80 (lv_at hl 0 rfl) ?_
      refine lv_iload hx hb dX3_movedByDeal_82 (lv_at hl 2 rfl) ?_
      refine z_iadd hx hb (((n - B - I + I) : Nat) : Int) (by omega) dX3_movedByDeal_84 ?_
      refine lv_iconst (v := zI 1) hx hb dX3_movedByDeal_85 rfl ?_
      refine z_isub hx hb ((((n - B - I + I) : Nat) : Int) - 1) rfl dX3_movedByDeal_86 ?_
      refine lv_iload_n hx hb dX3_movedByDeal_87 rfl (lv_at hl 9 rfl) ?_
      refine lv_iload hx hb dX3_movedByDeal_88 (lv_at hl 6 rfl) ?_
      refine z_idiv hx hb (((p0 / q) : Nat) : Int) (by omega) rfl dX3_movedByDeal_90 ?_
      refine z_isub hx hb (((((n - B - I + I) : Nat) : Int) - 1) - (((p0 / q) : Nat) : Int)) rfl dX3_movedByDeal_91 ?_
      rw [← hQf]
      exact z_iret K hS () (by rw [← hq, dlq, ← hB, ← hI]; first | (rw [if_pos (by omega)]; omega) | (rw [if_neg (by omega)]; omega)) hP hD dX3_movedByDeal_92
    · refine lv_iload hx hb dX3_movedByDeal_66 (lv_at hl 0 rfl) ?_
      refine lv_goto (tgt := 78) hx hb dX3_movedByDeal_68 (by decide) ?_
      refine lv_istore (lv' := [(10, .int (zI ((B : Nat) : Int))), (9, .int (zI ((B : Nat) : Int))), (8, .int (zI ((I : Nat) : Int))), (7, .int (zI (((p0 % q) : Nat) : Int))), (6, .int (zI (((n % q) : Nat) : Int))), (5, .int (zI (((n / q) : Nat) : Int))), (4, .int (zI ((q : Nat) : Int))), (0, .int (zI ((nm : Nat) : Int))), (1, .int (zI ((n : Nat) : Int))), (2, .int (zI ((p0 : Nat) : Int))), (3, .int (zI ((o : Nat) : Int)))]) hx hb dX3_movedByDeal_78 hl (by decide) rfl (fun ls hl => ?_)
      refine lv_iload hx hb dX3_movedByDeal_80 (lv_at hl 0 rfl) ?_
      refine lv_iload hx hb dX3_movedByDeal_82 (lv_at hl 2 rfl) ?_
      refine z_iadd hx hb (((B + I) : Nat) : Int) (by omega) dX3_movedByDeal_84 ?_
      refine lv_iconst (v := zI 1) hx hb dX3_movedByDeal_85 rfl ?_
      refine z_isub hx hb ((((B + I) : Nat) : Int) - 1) rfl dX3_movedByDeal_86 ?_
      refine lv_iload_n hx hb dX3_movedByDeal_87 rfl (lv_at hl 9 rfl) ?_
      refine lv_iload hx hb dX3_movedByDeal_88 (lv_at hl 6 rfl) ?_
      refine z_idiv hx hb (((p0 / q) : Nat) : Int) (by omega) rfl dX3_movedByDeal_90 ?_
      refine z_isub hx hb (((((B + I) : Nat) : Int) - 1) - (((p0 / q) : Nat) : Int)) rfl dX3_movedByDeal_91 ?_
      rw [← hQf]
      exact z_iret K hS () (by rw [← hq, dlq, ← hB, ← hI]; first | (rw [if_pos (by omega)]; omega) | (rw [if_neg (by omega)]; omega)) hP hD dX3_movedByDeal_92
  · refine lv_iload hx hb dX3_movedByDeal_36 (lv_at hl 2 rfl) ?_
    refine lv_iconst (v := zI 1) hx hb dX3_movedByDeal_38 rfl ?_
    refine z_iadd hx hb ((I : Nat) : Int) (by rw [hI, dlI, if_pos (by omega)]; omega) dX3_movedByDeal_39 ?_
    refine lv_goto (tgt := 45) hx hb dX3_movedByDeal_40 (by decide) ?_
    refine lv_istore (lv' := [(8, .int (zI ((I : Nat) : Int))), (7, .int (zI (((p0 % q) : Nat) : Int))), (6, .int (zI (((n % q) : Nat) : Int))), (5, .int (zI (((n / q) : Nat) : Int))), (4, .int (zI ((q : Nat) : Int))), (0, .int (zI ((nm : Nat) : Int))), (1, .int (zI ((n : Nat) : Int))), (2, .int (zI ((p0 : Nat) : Int))), (3, .int (zI ((o : Nat) : Int)))]) hx hb dX3_movedByDeal_45 hl (by decide) rfl (fun ls hl => ?_)
    refine lv_iload hx hb dX3_movedByDeal_47 (lv_at hl 1 rfl) ?_
    refine lv_iload hx hb dX3_movedByDeal_49 (lv_at hl 3 rfl) ?_
    refine z_imul hx hb ((((p0 % q) * (n / q)) : Nat) : Int) (by first | omega | exact (Int.natCast_mul _ _).symm) dX3_movedByDeal_51 ?_
    refine lv_iload hx hb dX3_movedByDeal_52 (lv_at hl 1 rfl) ?_
    refine lv_iload hx hb dX3_movedByDeal_54 (lv_at hl 2 rfl) ?_
    refine z_Mmin hx hb (by rw [hml]; exact hl.1.symm) hown (hts _ qm_X3_308) (hts _ qs_Mmin) (hts _ qn_Math) (hts _ qc_Mmin) (by decide) (Nat.le_of_ble_eq_true rfl) (by decide) (by decide) (by omega) ((min (p0 % q) (n % q) : Nat) : Int) (by split <;> omega) dX3_movedByDeal_56 ?_
    refine z_iadd hx hb ((B : Nat) : Int) (by rw [hB, dlB]; omega) dX3_movedByDeal_59 ?_
    refine lv_istore (lv' := [(9, .int (zI ((B : Nat) : Int))), (8, .int (zI ((I : Nat) : Int))), (7, .int (zI (((p0 % q) : Nat) : Int))), (6, .int (zI (((n % q) : Nat) : Int))), (5, .int (zI (((n / q) : Nat) : Int))), (4, .int (zI ((q : Nat) : Int))), (0, .int (zI ((nm : Nat) : Int))), (1, .int (zI ((n : Nat) : Int))), (2, .int (zI ((p0 : Nat) : Int))), (3, .int (zI ((o : Nat) : Int)))]) hx hb dX3_movedByDeal_60 hl (by decide) rfl (fun ls hl => ?_)
    refine lv_iload_n hx hb dX3_movedByDeal_62 rfl (lv_at hl 9 rfl) ?_
    refine z_if_eq (tgt := 71) hx hb (by omega) dX3_movedByDeal_63 (by decide) (fun c_63 => ?_) (fun c_63 => ?_)
    · refine lv_iload_n hx hb dX3_movedByDeal_71 rfl (lv_at hl 7 rfl) ?_
      refine lv_iload hx hb dX3_movedByDeal_72 (lv_at hl 0 rfl) ?_
      refine z_isub hx hb (((n : Nat) : Int) - ((B : Nat) : Int)) rfl dX3_movedByDeal_74 ?_
      refine lv_iload hx hb dX3_movedByDeal_75 (lv_at hl 1 rfl) ?_
      refine z_isub hx hb ((n - B - I : Nat) : Int) (by omega) dX3_movedByDeal_77 ?_
      refine lv_istore (lv' := [(10, .int (zI ((n - B - I : Nat) : Int))), (9, .int (zI ((B : Nat) : Int))), (8, .int (zI ((I : Nat) : Int))), (7, .int (zI (((p0 % q) : Nat) : Int))), (6, .int (zI (((n % q) : Nat) : Int))), (5, .int (zI (((n / q) : Nat) : Int))), (4, .int (zI ((q : Nat) : Int))), (0, .int (zI ((nm : Nat) : Int))), (1, .int (zI ((n : Nat) : Int))), (2, .int (zI ((p0 : Nat) : Int))), (3, .int (zI ((o : Nat) : Int)))]) hx hb dX3_movedByDeal_78 hl (by decide) rfl (fun ls hl => ?_)
      refine lv_iload hx hb dX3_movedByDeal_80 (lv_at hl 0 rfl) ?_
      refine lv_iload hx hb dX3_movedByDeal_82 (lv_at hl 2 rfl) ?_
      refine z_iadd hx hb (((n - B - I + I) : Nat) : Int) (by omega) dX3_movedByDeal_84 ?_
      refine lv_iconst (v := zI 1) hx hb dX3_movedByDeal_85 rfl ?_
      refine z_isub hx hb ((((n - B - I + I) : Nat) : Int) - 1) rfl dX3_movedByDeal_86 ?_
      refine lv_iload_n hx hb dX3_movedByDeal_87 rfl (lv_at hl 9 rfl) ?_
      refine lv_iload hx hb dX3_movedByDeal_88 (lv_at hl 6 rfl) ?_
      refine z_idiv hx hb (((p0 / q) : Nat) : Int) (by omega) rfl dX3_movedByDeal_90 ?_
      refine z_isub hx hb (((((n - B - I + I) : Nat) : Int) - 1) - (((p0 / q) : Nat) : Int)) rfl dX3_movedByDeal_91 ?_
      rw [← hQf]
      exact z_iret K hS () (by rw [← hq, dlq, ← hB, ← hI]; first | (rw [if_pos (by omega)]; omega) | (rw [if_neg (by omega)]; omega)) hP hD dX3_movedByDeal_92
    · refine lv_iload hx hb dX3_movedByDeal_66 (lv_at hl 0 rfl) ?_
      refine lv_goto (tgt := 78) hx hb dX3_movedByDeal_68 (by decide) ?_
      refine lv_istore (lv' := [(10, .int (zI ((B : Nat) : Int))), (9, .int (zI ((B : Nat) : Int))), (8, .int (zI ((I : Nat) : Int))), (7, .int (zI (((p0 % q) : Nat) : Int))), (6, .int (zI (((n % q) : Nat) : Int))), (5, .int (zI (((n / q) : Nat) : Int))), (4, .int (zI ((q : Nat) : Int))), (0, .int (zI ((nm : Nat) : Int))), (1, .int (zI ((n : Nat) : Int))), (2, .int (zI ((p0 : Nat) : Int))), (3, .int (zI ((o : Nat) : Int)))]) hx hb dX3_movedByDeal_78 hl (by decide) rfl (fun ls hl => ?_)
      refine lv_iload hx hb dX3_movedByDeal_80 (lv_at hl 0 rfl) ?_
      refine lv_iload hx hb dX3_movedByDeal_82 (lv_at hl 2 rfl) ?_
      refine z_iadd hx hb (((B + I) : Nat) : Int) (by omega) dX3_movedByDeal_84 ?_
      refine lv_iconst (v := zI 1) hx hb dX3_movedByDeal_85 rfl ?_
      refine z_isub hx hb ((((B + I) : Nat) : Int) - 1) rfl dX3_movedByDeal_86 ?_
      refine lv_iload_n hx hb dX3_movedByDeal_87 rfl (lv_at hl 9 rfl) ?_
      refine lv_iload hx hb dX3_movedByDeal_88 (lv_at hl 6 rfl) ?_
      refine z_idiv hx hb (((p0 / q) : Nat) : Int) (by omega) rfl dX3_movedByDeal_90 ?_
      refine z_isub hx hb (((((B + I) : Nat) : Int) - 1) - (((p0 / q) : Nat) : Int)) rfl dX3_movedByDeal_91 ?_
      rw [← hQf]
      exact z_iret K hS () (by rw [← hq, dlq, ← hB, ← hI]; first | (rw [if_pos (by omega)]; omega) | (rw [if_neg (by omega)]; omega)) hP hD dX3_movedByDeal_92
set_option maxHeartbeats 4000000 in
set_option maxRecDepth 100000 in
theorem c_X3_moved (l : Launch) (D : va_G) (cI : ClassId) (kd nm n p0 : Nat) (hkd : kd ≤ 4) (hnm : nm ≤ 9) (hn : 2 ≤ n ∧ n ≤ 12) (hp0 : p0 < n) : zMi l yX3_moved cX3_moved 4 (some .int) ({ frames := 2, cells := 0, slots := 0, locals := 51 }) D cI [.int (zI ((kd : Nat) : Int)), .int (zI ((nm : Nat) : Int)), .int (zI ((n : Nat) : Int)), .int (zI ((p0 : Nat) : Int))] [] (fun (z : Int) (u : Unit) => z = (((mv n kd nm p0) : Nat) : Int)) (fun (u : Unit) => []) := by
  intro sz
  refine zstart rfl (by decide) (Nat.le_of_ble_eq_true rfl) ?_
  intro p e s m below meth c ls K hnm hsz hP hD hS hl
  generalize hargs : ([.int (zI ((kd : Nat) : Int)), .int (zI ((nm : Nat) : Int)), .int (zI ((n : Nat) : Int)), .int (zI ((p0 : Nat) : Int))] : List Value).toArray = args at K ⊢
  generalize hQf : MQ below _ args s _ _ _ = Qf
  have K : zK p s m args meth c cX3_moved 4 RX3 (some .int) D cI := K
  obtain ⟨hx, hb, hml, hown, hts, hE, -, -⟩ := id K
  have hA := zhA (ws0 := []) hsz
  have hl : lv_has ls 4 [(0, .int (zI ((kd : Nat) : Int))), (1, .int (zI ((nm : Nat) : Int))), (2, .int (zI ((n : Nat) : Int))), (3, .int (zI ((p0 : Nat) : Int)))] := hl
  refine lv_iload_n hx hb dX3_moved_0 rfl (lv_at hl 0 rfl) ?_
  rcases (show ((kd : Nat) : Int) = 1 ∨ ((kd : Nat) : Int) = 2 ∨ ((kd : Nat) : Int) = 3 ∨ ((kd : Nat) : Int) = 4 ∨ (((kd : Nat) : Int) ≠ 1 ∧ ((kd : Nat) : Int) ≠ 2 ∧ ((kd : Nat) : Int) ≠ 3 ∧ ((kd : Nat) : Int) ≠ 4) by omega) with c_1 | c_1 | c_1 | c_1 | c_1
  · refine lv_tableIn (tgt := 32) hx hb dX3_moved_1 (by rw [zI_toInt (by omega)]; omega) (by rw [zI_toInt (by omega)]; omega) (by rw [zI_toInt (by omega), c_1]; rfl) (by decide) ?_
    refine lv_iload_n hx hb dX3_moved_32 rfl (lv_at hl 1 rfl) ?_
    refine lv_iload_n hx hb dX3_moved_33 rfl (lv_at hl 2 rfl) ?_
    refine lv_iload_n hx hb dX3_moved_34 rfl (lv_at hl 3 rfl) ?_
    refine zcall_i (wc := []) (wr := []) (rest := []) hE hP hD hS hA [] [] [] rfl rfl (by decide) (by decide) (by decide) (fun (u : Unit) => []) (fun u => rfl) (fun hPc hDc => zrunS (As := [.int (zI ((nm : Nat) : Int)), .int (zI ((n : Nat) : Int)), .int (zI ((p0 : Nat) : Int))]) (rest := []) K k_X3_movedByCut qm_X3_301 ⟨⟨rfl, rfl⟩, ⟨Nat.le_of_ble_eq_true rfl, Nat.le_of_ble_eq_true rfl⟩⟩ hPc hDc (c_X3_movedByCut l D cI nm n p0 (by first | assumption | omega) (by first | assumption | omega) (by first | assumption | omega) _) rfl hl.1 rfl (Nat.le_of_ble_eq_true rfl) dX3_moved_35 ⟨Nat.zero_le _, Nat.zero_le _⟩) (by decide) (fun z u H locs hpost hP hD hS => ?_)
    subst hpost
    have hP : va_P D cls [] H := hP
    have hD : va_D (va_A [] sz) [] := hD
    refine W.eq (g2 := F0 m 38 ls [.int (zI (((if p0 < nm % n then p0 + n - nm % n else p0 - nm % n) : Nat) : Int))]) rfl ?_
    rw [← hQf]
    exact z_iret K hS () (by rw [show kd = 1 by omega]; rfl) hP hD dX3_moved_38
  · refine lv_tableIn (tgt := 39) hx hb dX3_moved_1 (by rw [zI_toInt (by omega)]; omega) (by rw [zI_toInt (by omega)]; omega) (by rw [zI_toInt (by omega), c_1]; rfl) (by decide) ?_
    refine lv_iload_n hx hb dX3_moved_39 rfl (lv_at hl 1 rfl) ?_
    refine lv_iload_n hx hb dX3_moved_40 rfl (lv_at hl 2 rfl) ?_
    refine lv_iload_n hx hb dX3_moved_41 rfl (lv_at hl 3 rfl) ?_
    refine lv_iconst (v := zI 0) hx hb dX3_moved_42 rfl ?_
    refine zcall_i (wc := []) (wr := []) (rest := []) hE hP hD hS hA [] [] [] rfl rfl (by decide) (by decide) (by decide) (fun (u : Unit) => []) (fun u => rfl) (fun hPc hDc => zrunS (As := [.int (zI ((nm : Nat) : Int)), .int (zI ((n : Nat) : Int)), .int (zI ((p0 : Nat) : Int)), .int (zI 0)]) (rest := []) K k_X3_movedByDeal qm_X3_304 ⟨⟨rfl, rfl⟩, ⟨Nat.le_of_ble_eq_true rfl, Nat.le_of_ble_eq_true rfl⟩⟩ hPc hDc (c_X3_movedByDeal l D cI nm n p0 0 (by first | assumption | omega) (by first | assumption | omega) (by first | assumption | omega) (by first | assumption | omega) _) rfl hl.1 rfl (Nat.le_of_ble_eq_true rfl) dX3_moved_43 ⟨Nat.zero_le _, Nat.zero_le _⟩) (by decide) (fun z u H locs hpost hP hD hS => ?_)
    subst hpost
    have hP : va_P D cls [] H := hP
    have hD : va_D (va_A [] sz) [] := hD
    refine W.eq (g2 := F0 m 46 ls [.int (zI (((dlq n (max 1 (min nm n)) p0 0) : Nat) : Int))]) rfl ?_
    rw [← hQf]
    exact z_iret K hS () (by rw [show kd = 2 by omega]; rfl) hP hD dX3_moved_46
  · refine lv_tableIn (tgt := 47) hx hb dX3_moved_1 (by rw [zI_toInt (by omega)]; omega) (by rw [zI_toInt (by omega)]; omega) (by rw [zI_toInt (by omega), c_1]; rfl) (by decide) ?_
    refine lv_iload_n hx hb dX3_moved_47 rfl (lv_at hl 1 rfl) ?_
    refine lv_iload_n hx hb dX3_moved_48 rfl (lv_at hl 2 rfl) ?_
    refine z_Mmin hx hb (by rw [hml]; exact hl.1.symm) hown (hts _ qm_X3_308) (hts _ qs_Mmin) (hts _ qn_Math) (hts _ qc_Mmin) (by decide) (Nat.le_of_ble_eq_true rfl) (by decide) (by decide) (by omega) ((min nm n : Nat) : Int) (by split <;> omega) dX3_moved_49 ?_
    refine lv_iload_n hx hb dX3_moved_52 rfl (lv_at hl 3 rfl) ?_
    refine zcall_i (wc := []) (wr := []) (rest := []) hE hP hD hS hA [] [] [] rfl rfl (by decide) (by decide) (by decide) (fun (u : Unit) => []) (fun u => rfl) (fun hPc hDc => zrunS (As := [.int (zI ((min nm n : Nat) : Int)), .int (zI ((p0 : Nat) : Int))]) (rest := []) K k_X3_movedByTurn qm_X3_311 ⟨⟨rfl, rfl⟩, ⟨Nat.le_of_ble_eq_true rfl, Nat.le_of_ble_eq_true rfl⟩⟩ hPc hDc (c_X3_movedByTurn l D cI (min nm n) p0 (by first | assumption | omega) (by first | assumption | omega) _) rfl hl.1 rfl (Nat.le_of_ble_eq_true rfl) dX3_moved_53 ⟨Nat.zero_le _, Nat.zero_le _⟩) (by decide) (fun z u H locs hpost hP hD hS => ?_)
    subst hpost
    have hP : va_P D cls [] H := hP
    have hD : va_D (va_A [] sz) [] := hD
    refine W.eq (g2 := F0 m 56 ls [.int (zI (((if p0 < (min nm n) then (min nm n) - 1 - p0 else p0) : Nat) : Int))]) rfl ?_
    rw [← hQf]
    exact z_iret K hS () (by rw [show kd = 3 by omega]; rfl) hP hD dX3_moved_56
  · refine lv_tableIn (tgt := 57) hx hb dX3_moved_1 (by rw [zI_toInt (by omega)]; omega) (by rw [zI_toInt (by omega)]; omega) (by rw [zI_toInt (by omega), c_1]; rfl) (by decide) ?_
    refine lv_iload_n hx hb dX3_moved_57 rfl (lv_at hl 1 rfl) ?_
    refine lv_iload_n hx hb dX3_moved_58 rfl (lv_at hl 2 rfl) ?_
    refine lv_iload_n hx hb dX3_moved_59 rfl (lv_at hl 3 rfl) ?_
    refine lv_iconst (v := zI 1) hx hb dX3_moved_60 rfl ?_
    refine zcall_i (wc := []) (wr := []) (rest := []) hE hP hD hS hA [] [] [] rfl rfl (by decide) (by decide) (by decide) (fun (u : Unit) => []) (fun u => rfl) (fun hPc hDc => zrunS (As := [.int (zI ((nm : Nat) : Int)), .int (zI ((n : Nat) : Int)), .int (zI ((p0 : Nat) : Int)), .int (zI 1)]) (rest := []) K k_X3_movedByDeal qm_X3_304 ⟨⟨rfl, rfl⟩, ⟨Nat.le_of_ble_eq_true rfl, Nat.le_of_ble_eq_true rfl⟩⟩ hPc hDc (c_X3_movedByDeal l D cI nm n p0 1 (by first | assumption | omega) (by first | assumption | omega) (by first | assumption | omega) (by first | assumption | omega) _) rfl hl.1 rfl (Nat.le_of_ble_eq_true rfl) dX3_moved_61 ⟨Nat.zero_le _, Nat.zero_le _⟩) (by decide) (fun z u H locs hpost hP hD hS => ?_)
    subst hpost
    have hP : va_P D cls [] H := hP
    have hD : va_D (va_A [] sz) [] := hD
    refine W.eq (g2 := F0 m 64 ls [.int (zI (((dlq n (max 1 (min nm n)) p0 1) : Nat) : Int))]) rfl ?_
    rw [← hQf]
    exact z_iret K hS () (by rw [show kd = 4 by omega]; rfl) hP hD dX3_moved_64
  · refine lv_tableOut (tgt := 65) hx hb dX3_moved_1 (by rw [zI_toInt (by omega)]; omega) (by decide) ?_
    refine lv_iload_n hx hb dX3_moved_65 rfl (lv_at hl 1 rfl) ?_
    refine lv_iload_n hx hb dX3_moved_66 rfl (lv_at hl 2 rfl) ?_
    refine lv_iconst (v := zI 1) hx hb dX3_moved_67 rfl ?_
    refine z_isub hx hb ((n - 1 : Nat) : Int) (by omega) dX3_moved_68 ?_
    refine z_Mmin hx hb (by rw [hml]; exact hl.1.symm) hown (hts _ qm_X3_308) (hts _ qs_Mmin) (hts _ qn_Math) (hts _ qc_Mmin) (by decide) (Nat.le_of_ble_eq_true rfl) (by decide) (by decide) (by omega) ((min nm (n - 1) : Nat) : Int) (by split <;> omega) dX3_moved_69 ?_
    refine lv_iload_n hx hb dX3_moved_72 rfl (lv_at hl 3 rfl) ?_
    refine zcall_i (wc := []) (wr := []) (rest := []) hE hP hD hS hA [] [] [] rfl rfl (by decide) (by decide) (by decide) (fun (u : Unit) => []) (fun u => rfl) (fun hPc hDc => zrunS (As := [.int (zI ((min nm (n - 1) : Nat) : Int)), .int (zI ((p0 : Nat) : Int))]) (rest := []) K k_X3_movedByStep qm_X3_314 ⟨⟨rfl, rfl⟩, ⟨Nat.le_of_ble_eq_true rfl, Nat.le_of_ble_eq_true rfl⟩⟩ hPc hDc (c_X3_movedByStep l D cI (min nm (n - 1)) p0 (by first | assumption | omega) (by first | assumption | omega) _) rfl hl.1 rfl (Nat.le_of_ble_eq_true rfl) dX3_moved_73 ⟨Nat.zero_le _, Nat.zero_le _⟩) (by decide) (fun z u H locs hpost hP hD hS => ?_)
    subst hpost
    have hP : va_P D cls [] H := hP
    have hD : va_D (va_A [] sz) [] := hD
    refine W.eq (g2 := F0 m 76 ls [.int (zI (((if p0 = 0 then (min nm (n - 1)) else if p0 ≤ (min nm (n - 1)) then p0 - 1 else p0) : Nat) : Int))]) rfl ?_
    rw [← hQf]
    exact z_iret K hS () (by rw [show kd = 0 by omega]; rfl) hP hD dX3_moved_76
end
section
theorem fa_is {P : Nat → Bool} {n m : Nat} (h : ∀ j, j < m → P j = false) (hm : m = n ∨ (m < n ∧ P m = true)) : fa_first P n = m := by
  have h1 := fa_first_le P n
  rcases Nat.lt_trichotomy (fa_first P n) m with h2 | h2 | h2
  · have h3 : fa_first P n < n := by omega
    have h4 := fa_first_yes P n h3
    rw [h _ h2] at h4
    exact absurd h4 (by decide)
  · exact h2
  · rcases hm with h3 | ⟨h3, h4⟩
    · omega
    · have h5 := fa_first_no P n m h2
      rw [h4] at h5
      exact absurd h5 (by decide)
/-- a place by so many times a way -/
def it (φ : Nat → Nat) : Nat → Nat → Nat
  | 0, p => p
  | m + 1, p => φ (it φ m p)
theorem it_0 (φ : Nat → Nat) (p : Nat) : it φ 0 p = p := rfl
theorem it_s (φ : Nat → Nat) (m p : Nat) : it φ (m + 1) p = φ (it φ m p) := rfl
theorem it_lt {φ : Nat → Nat} {n : Nat} (hφ : ∀ j, j < n → φ j < n) : ∀ (m : Nat) {p : Nat}, p < n → it φ m p < n
  | 0, _, h => h
  | m + 1, _, h => hφ _ (it_lt hφ m h)
theorem it_add (φ : Nat → Nat) (a : Nat) : ∀ (b p : Nat), it φ (a + b) p = it φ b (it φ a p)
  | 0, p => rfl
  | b + 1, p => by rw [← Nat.add_assoc, it_s, it_s, it_add φ a b p]
/-- no two places go to one -/
def inj (φ : Nat → Nat) (n : Nat) : Prop := ∀ i j, i < j → j < n → φ i ≠ φ j
theorem inj_eq {φ : Nat → Nat} {n i j : Nat} (h : inj φ n) (hi : i < n) (hj : j < n) (e : φ i = φ j) : i = j := by
  rcases Nat.lt_trichotomy i j with h1 | h1 | h1
  · exact absurd e (h i j h1 hj)
  · exact h1
  · exact absurd e.symm (h j i h1 hi)
theorem it_back {φ : Nat → Nat} {n : Nat} (hφ : ∀ j, j < n → φ j < n) (hi : inj φ n) : ∀ (a : Nat) {p q : Nat}, p < n → q < n → it φ a p = it φ a q → p = q
  | 0, _, _, _, _, e => e
  | a + 1, p, q, hp, hq, e => it_back hφ hi a hp hq (inj_eq hi (it_lt hφ a hp) (it_lt hφ a hq) e)
theorem ring_ex {φ : Nat → Nat} {n p : Nat} (hφ : ∀ j, j < n → φ j < n) (hi : inj φ n) (hp : p < n) : ∃ m, m < n ∧ it φ (m + 1) p = p := by
  obtain ⟨i, j, hij, hj, e⟩ := fb_twice (m := n) (n := n + 1) (f := fun m => it φ m p) (fun i _ => it_lt hφ i hp) (Nat.lt_succ_self n)
  refine ⟨j - i - 1, by omega, ?_⟩
  have e1 : it φ j p = it φ i (it φ (j - i) p) := by rw [← it_add]; congr 1; omega
  have e2 : p = it φ (j - i) p := it_back hφ hi i hp (it_lt hφ _ hp) (e.trans e1)
  rw [show j - i - 1 + 1 = j - i by omega]
  exact e2.symm
/-- how long the ring of a place is -/
def rl (φ : Nat → Nat) (n p : Nat) : Nat := fa_first (fun m => decide (it φ (m + 1) p = p)) (n - 1) + 1
theorem rl_pos (φ : Nat → Nat) (n p : Nat) : 1 ≤ rl φ n p := Nat.succ_le_succ (Nat.zero_le _)
theorem rl_le {φ : Nat → Nat} {n p : Nat} (hp : p < n) : rl φ n p ≤ n := by
  have := fa_first_le (fun m => decide (it φ (m + 1) p = p)) (n - 1)
  unfold rl; omega
theorem rl_no {φ : Nat → Nat} {n p m : Nat} (h : m + 1 < rl φ n p) : it φ (m + 1) p ≠ p := by
  have h1 := fa_first_no (fun m => decide (it φ (m + 1) p = p)) (n - 1) m (by unfold rl at h; omega)
  simpa using h1
theorem rl_it {φ : Nat → Nat} {n p : Nat} (hφ : ∀ j, j < n → φ j < n) (hi : inj φ n) (hp : p < n) : it φ (rl φ n p) p = p := by
  obtain ⟨m, hm, e⟩ := ring_ex hφ hi hp
  have h0 := fa_first_le (fun m => decide (it φ (m + 1) p = p)) (n - 1)
  by_cases h1 : fa_first (fun m => decide (it φ (m + 1) p = p)) (n - 1) < n - 1
  · have h2 := fa_first_yes _ _ h1
    simpa [rl] using h2
  · have h3 : m = n - 1 := by
      apply Classical.byContradiction
      intro h4
      have h5 := fa_first_no (fun m => decide (it φ (m + 1) p = p)) (n - 1) m (by omega)
      simp [e] at h5
    have h6 : rl φ n p = m + 1 := by unfold rl; omega
    rw [h6]; exact e
theorem rl_is {φ : Nat → Nat} {n p m : Nat} (h : ∀ j, j < m → it φ (j + 1) p ≠ p) (hm : m = n - 1 ∨ (m < n - 1 ∧ it φ (m + 1) p = p)) : m + 1 = rl φ n p := by
  unfold rl
  rw [fa_is (m := m) (fun j hj => by simp [h j hj]) (by rcases hm with h1 | ⟨h1, h2⟩
                                                        · exact Or.inl h1
                                                        · exact Or.inr ⟨h1, by simp [h2]⟩)]
/-- whether a place is the least of its ring -/
def lrB (φ : Nat → Nat) (n p : Nat) : Bool := decide (∀ m, m < n → p ≤ it φ (m + 1) p)
theorem lrB_t {φ : Nat → Nat} {n p i : Nat} (h : ∀ m, m < i → p ≤ it φ (m + 1) p) (e : it φ (i + 1) p = p) : lrB φ n p = true := by
  have key : ∀ m, p ≤ it φ m p := by
    intro m
    induction m using Nat.strongRecOn with
    | _ m ih =>
      by_cases h1 : m ≤ i
      · cases m with
        | zero => exact Nat.le_refl _
        | succ m => exact h m (by omega)
      · have e2 : it φ m p = it φ (m - (i + 1)) p := by
          rw [show m = (i + 1) + (m - (i + 1)) by omega, it_add, e]; congr 1; omega
        rw [e2]; exact ih _ (by omega)
  simp only [lrB, decide_eq_true_eq]
  intro m _; exact key _
theorem lrB_f {φ : Nat → Nat} {n p i : Nat} (hi : i < n) (e : it φ (i + 1) p < p) : lrB φ n p = false := by
  simp only [lrB, decide_eq_false_iff_not]
  intro h
  have := h i hi
  omega
/-- behind how few a pack lies as before -/
def odN (φ : Nat → Nat) (n : Nat) : Nat → Nat
  | 0 => 1
  | i + 1 => Nat.lcm (odN φ n i) (rl φ n i)
theorem od_step {a b : Nat} : a / max 1 (Nat.gcd a b) * b = Nat.lcm a b ∨ Nat.gcd a b = 0 := by
  by_cases h : Nat.gcd a b = 0
  · exact Or.inr h
  · refine Or.inl ?_
    rw [show max 1 (Nat.gcd a b) = Nat.gcd a b by omega]
    unfold Nat.lcm
    exact (Nat.div_mul_right_comm (Nat.gcd_dvd_left a b) b)
theorem d27720 : ∀ x, x < 13 → 1 ≤ x → x ∣ 27720 := by decide
theorem od_dvd {φ : Nat → Nat} {n : Nat} (hn : n ≤ 12) : ∀ i, i ≤ n → odN φ n i ∣ 27720
  | 0, _ => Nat.one_dvd _
  | i + 1, h => Nat.lcm_dvd (od_dvd hn i (by omega)) (d27720 _ (by have := rl_le (φ := φ) (n := n) (p := i) (by omega); omega) (rl_pos _ _ _))
theorem od_le {φ : Nat → Nat} {n i : Nat} (hn : n ≤ 12) (h : i ≤ n) : 1 ≤ odN φ n i ∧ odN φ n i ≤ 27720 := by
  have h1 := od_dvd (φ := φ) hn i h
  exact ⟨Nat.pos_of_dvd_of_pos h1 (by decide), Nat.le_of_dvd (by decide) h1⟩
/-- the greatest of a row -/
def mx (f : Nat → Nat) : Nat → Nat
  | 0 => 0
  | i + 1 => max (mx f i) (f i)
theorem mx_le {f : Nat → Nat} {c : Nat} : ∀ {n : Nat}, (∀ i, i < n → f i ≤ c) → mx f n ≤ c
  | 0, _ => Nat.zero_le _
  | n + 1, h => Nat.max_le.mpr ⟨mx_le (fun i hi => h i (by omega)), h n (by omega)⟩
/-! what is seen -/
def agB (n kd nm : Nat) (ss sf st : Nat → Nat) (j0 : Nat) : Nat → Bool
  | 0 => true
  | v + 1 => agB n kd nm ss sf st j0 v && (ss v != j0 || mv n kd nm (sf v) == st v)
theorem agB_t {n kd nm : Nat} {ss sf st : Nat → Nat} {j0 v : Nat} (h : agB n kd nm ss sf st j0 v = true) (h2 : ss v ≠ j0 ∨ mv n kd nm (sf v) = st v) : agB n kd nm ss sf st j0 (v + 1) = true := by
  rw [agB, h]; rcases h2 with h2 | h2 <;> simp [h2]
theorem agB_f {n kd nm : Nat} {ss sf st : Nat → Nat} {j0 i : Nat} (h1 : ss i = j0) (h2 : mv n kd nm (sf i) ≠ st i) : ∀ v, i < v → agB n kd nm ss sf st j0 v = false
  | 0, h => absurd h (Nat.not_lt_zero _)
  | v + 1, h => by
    rw [agB]
    by_cases h3 : i = v
    · subst h3; simp [h1, h2]
    · rw [agB_f h1 h2 v (by omega)]; rfl
/-- bits -/
def btN (P : Nat → Bool) : Nat → Nat
  | 0 => 0
  | i + 1 => btN P i + (if P i then 2 ^ i else 0)
theorem btN_lt (P : Nat → Bool) : ∀ i, btN P i < 2 ^ i
  | 0 => Nat.zero_lt_one
  | i + 1 => by
    have h := btN_lt P i
    have h2 : 2 ^ (i + 1) = 2 * 2 ^ i := by rw [Nat.pow_succ]; omega
    rw [btN]; split <;> omega
theorem btN_t {P : Nat → Bool} {i : Nat} (h : P i = true) : btN P (i + 1) = btN P i + 2 ^ i := by rw [btN, if_pos h]
theorem btN_f {P : Nat → Bool} {i : Nat} (h : P i = false) : btN P (i + 1) = btN P i := by rw [btN, if_neg (by rw [h]; decide)]; rfl
theorem pow10 : ∀ i, i < 11 → 2 ^ i ≤ 1024 := by decide
theorem btN_10 (P : Nat → Bool) {i : Nat} (h : i ≤ 10) : btN P i < 1024 := Nat.lt_of_lt_of_le (btN_lt P i) (pow10 i (by omega))
set_option maxRecDepth 100000 in
theorem z_shl1 : ∀ i, i < 10 → zI 1 <<< (zI ((i : Nat) : Int) &&& 31) = zI ((2 ^ i : Nat) : Int) := by decide +kernel
theorem z_orb {b i : Nat} (h : b < 2 ^ i) : zI ((b : Nat) : Int) ||| zI ((2 ^ i : Nat) : Int) = zI ((b + 2 ^ i : Nat) : Int) := by
  rw [zI_nat, zI_nat, zI_nat, Int32.or_comm]
  have h2 := fa_or_sum 1 h
  rw [Nat.mul_one] at h2
  rw [h2, Nat.add_comm]
section Z4
variable {p : Program} {l : Launch} {e : Env} {R : Room} {s : State} {m : MethodId} {args : Array Value} {below : List Frame} {meth : Method} {c : Code} {H : Heap} {locs : List Loc} {cells slots : Nat} {Q : State → Prop}
variable {cc : ByteArray} {pc : Nat} {ls : Array Slot} {rest : List Value}
theorem z_ishl (hx : p.tables.exec = Jvm.exec) (hb : c.code = cc) {a b : Int} (v : Int) (hv : zI a <<< (zI b &&& 31) = zI v) (hdg : decode cc pc = .ok (.ishl, 1)) (k : W p l e R s m args below meth c H locs cells slots Q (F0 m (pc + 1) ls (.int (zI v) :: rest))) : W p l e R s m args below meth c H locs cells slots Q (F0 m pc ls (.int (zI b) :: .int (zI a) :: rest)) := by
  refine lv_ishl hx hb hdg ?_
  rw [hv]; exact k
theorem z_ishr (hx : p.tables.exec = Jvm.exec) (hb : c.code = cc) {a b : Int} (v : Int) (hv : zI a >>> (zI b &&& 31) = zI v) (hdg : decode cc pc = .ok (.ishr, 1)) (k : W p l e R s m args below meth c H locs cells slots Q (F0 m (pc + 1) ls (.int (zI v) :: rest))) : W p l e R s m args below meth c H locs cells slots Q (F0 m pc ls (.int (zI b) :: .int (zI a) :: rest)) := by
  refine lv_ishr hx hb hdg ?_
  rw [hv]; exact k
theorem z_ior (hx : p.tables.exec = Jvm.exec) (hb : c.code = cc) {a b : Int} (v : Int) (hv : zI a ||| zI b = zI v) (hdg : decode cc pc = .ok (.ior, 1)) (k : W p l e R s m args below meth c H locs cells slots Q (F0 m (pc + 1) ls (.int (zI v) :: rest))) : W p l e R s m args below meth c H locs cells slots Q (F0 m pc ls (.int (zI b) :: .int (zI a) :: rest)) := by
  refine lv_ior hx hb hdg ?_
  rw [hv]; exact k
theorem z_iand (hx : p.tables.exec = Jvm.exec) (hb : c.code = cc) {a b : Int} (v : Int) (hv : zI a &&& zI b = zI v) (hdg : decode cc pc = .ok (.iand, 1)) (k : W p l e R s m args below meth c H locs cells slots Q (F0 m (pc + 1) ls (.int (zI v) :: rest))) : W p l e R s m args below meth c H locs cells slots Q (F0 m pc ls (.int (zI b) :: .int (zI a) :: rest)) := by
  refine lv_iand hx hb hdg ?_
  rw [hv]; exact k
end Z4
end
section
set_option maxHeartbeats 4000000 in
set_option maxRecDepth 100000 in
theorem c_X1_placeOf (l : Launch) (D : va_G) (cI : ClassId) (t : Nat) (a : Nat → Nat) (n k d v : Nat) (g : Nat → Int) (π : Nat → Nat) (x : Nat) (hn : n ≤ 12) (hg : ∀ j, j < n → g j = ((π j : Nat) : Int)) (hπ : ∀ j, j < n → π j < n) (hx0 : x < n) : zMi l yX1_placeOf cX1_placeOf 3 (some .int) ({ frames := 0, cells := 0, slots := 0, locals := 0 }) D cI [.ref t, .int (zI ((x : Nat) : Int))] [cT t a ((n : Nat) : Int) ((k : Nat) : Int) ((d : Nat) : Int) ((v : Nat) : Int), cR cI (a 3) 12 g] (fun (z : Int) (u : Unit) => z = ((fa_first (fun j => decide (π j = x)) n % n : Nat) : Int)) (fun (u : Unit) => [cT t a ((n : Nat) : Int) ((k : Nat) : Int) ((d : Nat) : Int) ((v : Nat) : Int), cR cI (a 3) 12 g]) := by
  intro sz
  refine zstart rfl (by decide) (Nat.le_of_ble_eq_true rfl) ?_
  intro p e s m below meth c ls K hnm hsz hP hD hS hl
  generalize hargs : ([.ref t, .int (zI ((x : Nat) : Int))] : List Value).toArray = args at K ⊢
  generalize hQf : MQ below _ args s _ _ _ = Qf
  have K : zK p s m args meth c cX1_placeOf 3 RX1 (some .int) D cI := K
  obtain ⟨hx, hb, hml, hown, hts, hE, -, -⟩ := id K
  have hA := zhA (ws0 := [cT t a ((n : Nat) : Int) ((k : Nat) : Int) ((d : Nat) : Int) ((v : Nat) : Int), cR cI (a 3) 12 g]) hsz
  have hl : lv_has ls 3 [(0, .ref t), (1, .int (zI ((x : Nat) : Int)))] := hl
  refine lv_iconst (v := zI 0) hx hb dX1_placeOf_0 rfl ?_
  refine lv_istore_n (lv' := [(2, .int (zI 0)), (0, .ref t), (1, .int (zI ((x : Nat) : Int)))]) hx hb dX1_placeOf_1 rfl hl (by decide) rfl (fun ls hl => ?_)
  have cut_2 : ∀ (N_2 : Nat), ∀ (i : Nat), n - i < N_2 → (i ≤ n) → (∀ j, j < i → π j ≠ x) → ∀ (H : Heap) (locs : List Loc) (ls : Array Slot), va_P D cls [cT t a ((n : Nat) : Int) ((k : Nat) : Int) ((d : Nat) : Int) ((v : Nat) : Int), cR cI (a 3) 12 g] H → va_D (va_A [cT t a ((n : Nat) : Int) ((k : Nat) : Int) ((d : Nat) : Int) ((v : Nat) : Int), cR cI (a 3) 12 g] sz) [cT t a ((n : Nat) : Int) ((k : Nat) : Int) ((d : Nat) : Int) ((v : Nat) : Int), cR cI (a 3) 12 g] → va_S (va_A [cT t a ((n : Nat) : Int) ((k : Nat) : Int) ((d : Nat) : Int) ((v : Nat) : Int), cR cI (a 3) 12 g] sz) s.heap H locs → lv_has ls 3 [(0, .ref t), (1, .int (zI ((x : Nat) : Int))), (2, .int (zI ((i : Nat) : Int)))] → W p l e ({ frames := 0, cells := 0, slots := 0, locals := 0 }) s m args below meth c H locs 0 0 Qf (F0 m 2 ls []) := by
    intro N_2
    induction N_2 with
    | zero => intro i hm_2; exact absurd hm_2 (Nat.not_lt_zero _)
    | succ N_2 ih_2 =>
      intro i hm_2 hi hno H locs ls hP hD hS hl
      refine lv_iload_n hx hb dX1_placeOf_2 rfl (lv_at hl 2 rfl) ?_
      refine lv_aload_n hx hb dX1_placeOf_3 rfl (lv_at hl 0 rfl) ?_
      refine va_get (D := D) (ci := 1) (v := .int (zI ((n : Nat) : Int))) (C := RX1) (T := TX1) (N := 11) hx hb hts inT_X1 hown hE.1 hP 0 rfl rfl 0 (by decide) (hts _ qf_X1_33) (fun _ h9 => h9) rfl dX1_placeOf_4 ?_
      refine z_icmp_ge (tgt := 28) hx hb (by omega) dX1_placeOf_7 (by decide) (fun c_7 => ?_) (fun c_7 => ?_)
      · refine lv_iconst (v := zI 0) hx hb dX1_placeOf_28 rfl ?_
        rw [← hQf]
        exact z_iret K hS () (by rw [fa_is (m := n) (fun j hj => by simp [hno j (by omega)]) (Or.inl rfl), Nat.mod_self]; rfl) hP hD dX1_placeOf_29
      · refine lv_aload_n hx hb dX1_placeOf_10 rfl (lv_at hl 0 rfl) ?_
        refine va_get (D := D) (ci := 1) (v := .ref (a 3)) (C := RX1) (T := TX1) (N := 11) hx hb hts inT_X1 hown hE.1 hP 0 rfl rfl 7 (by decide) (hts _ qf_X1_21) (fun _ h9 => h9) rfl dX1_placeOf_11 ?_
        refine lv_iload_n hx hb dX1_placeOf_14 rfl (lv_at hl 2 rfl) ?_
        have hπi := hπ i (by omega)
        refine z_iald hx hb hE hP 1 rfl i (by omega) (by omega) (by first | decide | omega) ((π i : Nat) : Int) (hg i (by omega)) dX1_placeOf_15 ?_
        refine lv_iload_n hx hb dX1_placeOf_16 rfl (lv_at hl 1 rfl) ?_
        refine z_icmp_ne (tgt := 22) hx hb (by omega) dX1_placeOf_17 (by decide) (fun c_17 => ?_) (fun c_17 => ?_)
        · refine z_iinc (k := 2) (lv' := [(2, .int (zI (((i + 1) : Nat) : Int))), (0, .ref t), (1, .int (zI ((x : Nat) : Int)))]) hx hb (((i + 1) : Nat) : Int) (by omega) dX1_placeOf_22 hl rfl (by decide) rfl (fun ls hl => ?_)
          refine lv_goto (tgt := 2) hx hb dX1_placeOf_25 (by decide) ?_
          exact ih_2 (i + 1) (by omega) (by omega) (by intro j hj; rcases Nat.lt_or_ge j i with h1 | h1; exact hno j h1; rw [show j = i by omega]; omega) _ _ _ hP hD hS (lv_sub hl [1, 2, 0] rfl)
        · refine lv_iload_n hx hb dX1_placeOf_20 rfl (lv_at hl 2 rfl) ?_
          rw [← hQf]
          exact z_iret K hS () (by rw [fa_is (m := i) (fun j hj => by simp [hno j hj]) (Or.inr ⟨by omega, by simp; omega⟩), Nat.mod_eq_of_lt (by omega)]) hP hD dX1_placeOf_21
  exact cut_2 (n - 0 + 1) 0 (Nat.lt_succ_self _) (by omega) (by intro j hj; omega) _ _ _ hP hD hS (lv_sub hl [1, 2, 0] rfl)
set_option maxHeartbeats 4000000 in
set_option maxRecDepth 100000 in
theorem c_X1_asAtFirst (l : Launch) (D : va_G) (cI : ClassId) (t : Nat) (a : Nat → Nat) (n k d v : Nat) (g : Nat → Int) (π : Nat → Nat) (hn : n ≤ 12) (hg : ∀ j, j < n → g j = ((π j : Nat) : Int)) (hπ : ∀ j, j < n → π j < n) : zMi l yX1_asAtFirst cX1_asAtFirst 3 (some .int) ({ frames := 0, cells := 0, slots := 0, locals := 0 }) D cI [.ref t] [cT t a ((n : Nat) : Int) ((k : Nat) : Int) ((d : Nat) : Int) ((v : Nat) : Int), cR cI (a 3) 12 g] (fun (z : Int) (u : Unit) => z = (((fb_ct (fun j => decide (π j = j)) n) : Nat) : Int)) (fun (u : Unit) => [cT t a ((n : Nat) : Int) ((k : Nat) : Int) ((d : Nat) : Int) ((v : Nat) : Int), cR cI (a 3) 12 g]) := by
  intro sz
  refine zstart rfl (by decide) (Nat.le_of_ble_eq_true rfl) ?_
  intro p e s m below meth c ls K hnm hsz hP hD hS hl
  generalize hargs : ([.ref t] : List Value).toArray = args at K ⊢
  generalize hQf : MQ below _ args s _ _ _ = Qf
  have K : zK p s m args meth c cX1_asAtFirst 3 RX1 (some .int) D cI := K
  obtain ⟨hx, hb, hml, hown, hts, hE, -, -⟩ := id K
  have hA := zhA (ws0 := [cT t a ((n : Nat) : Int) ((k : Nat) : Int) ((d : Nat) : Int) ((v : Nat) : Int), cR cI (a 3) 12 g]) hsz
  have hl : lv_has ls 3 [(0, .ref t)] := hl
  refine lv_iconst (v := zI 0) hx hb dX1_asAtFirst_0 rfl ?_
  refine lv_istore_n (lv' := [(1, .int (zI 0)), (0, .ref t)]) hx hb dX1_asAtFirst_1 rfl hl (by decide) rfl (fun ls hl => ?_)
  refine lv_iconst (v := zI 0) hx hb dX1_asAtFirst_2 rfl ?_
  refine lv_istore_n (lv' := [(2, .int (zI 0)), (1, .int (zI 0)), (0, .ref t)]) hx hb dX1_asAtFirst_3 rfl hl (by decide) rfl (fun ls hl => ?_)
  have cut_4 : ∀ (N_4 : Nat), ∀ (i y : Nat), n - i < N_4 → (i ≤ n) → (y = fb_ct (fun j => decide (π j = j)) i) → ∀ (H : Heap) (locs : List Loc) (ls : Array Slot), va_P D cls [cT t a ((n : Nat) : Int) ((k : Nat) : Int) ((d : Nat) : Int) ((v : Nat) : Int), cR cI (a 3) 12 g] H → va_D (va_A [cT t a ((n : Nat) : Int) ((k : Nat) : Int) ((d : Nat) : Int) ((v : Nat) : Int), cR cI (a 3) 12 g] sz) [cT t a ((n : Nat) : Int) ((k : Nat) : Int) ((d : Nat) : Int) ((v : Nat) : Int), cR cI (a 3) 12 g] → va_S (va_A [cT t a ((n : Nat) : Int) ((k : Nat) : Int) ((d : Nat) : Int) ((v : Nat) : Int), cR cI (a 3) 12 g] sz) s.heap H locs → lv_has ls 3 [(0, .ref t), (1, .int (zI ((y : Nat) : Int))), (2, .int (zI ((i : Nat) : Int)))] → W p l e ({ frames := 0, cells := 0, slots := 0, locals := 0 }) s m args below meth c H locs 0 0 Qf (F0 m 4 ls []) := by
    intro N_4
    induction N_4 with
    | zero => intro i y hm_4; exact absurd hm_4 (Nat.not_lt_zero _)
    | succ N_4 ih_4 =>
      intro i y hm_4 hi hy H locs ls hP hD hS hl
      refine lv_iload_n hx hb dX1_asAtFirst_4 rfl (lv_at hl 2 rfl) ?_
      refine lv_aload_n hx hb dX1_asAtFirst_5 rfl (lv_at hl 0 rfl) ?_
      refine va_get (D := D) (ci := 1) (v := .int (zI ((n : Nat) : Int))) (C := RX1) (T := TX1) (N := 11) hx hb hts inT_X1 hown hE.1 hP 0 rfl rfl 0 (by decide) (hts _ qf_X1_33) (fun _ h9 => h9) rfl dX1_asAtFirst_6 ?_
      refine z_icmp_ge (tgt := 31) hx hb (by omega) dX1_asAtFirst_9 (by decide) (fun c_9 => ?_) (fun c_9 => ?_)
      · refine lv_iload_n hx hb dX1_asAtFirst_31 rfl (lv_at hl 1 rfl) ?_
        rw [← hQf]
        exact z_iret K hS () (by rw [hy, show i = n by omega]) hP hD dX1_asAtFirst_32
      · refine lv_aload_n hx hb dX1_asAtFirst_12 rfl (lv_at hl 0 rfl) ?_
        refine va_get (D := D) (ci := 1) (v := .ref (a 3)) (C := RX1) (T := TX1) (N := 11) hx hb hts inT_X1 hown hE.1 hP 0 rfl rfl 7 (by decide) (hts _ qf_X1_21) (fun _ h9 => h9) rfl dX1_asAtFirst_13 ?_
        refine lv_iload_n hx hb dX1_asAtFirst_16 rfl (lv_at hl 2 rfl) ?_
        have hπi := hπ i (by omega)
        refine z_iald hx hb hE hP 1 rfl i (by omega) (by omega) (by first | decide | omega) ((π i : Nat) : Int) (hg i (by omega)) dX1_asAtFirst_17 ?_
        refine lv_iload_n hx hb dX1_asAtFirst_18 rfl (lv_at hl 2 rfl) ?_
        refine z_icmp_ne (tgt := 25) hx hb (by omega) dX1_asAtFirst_19 (by decide) (fun c_19 => ?_) (fun c_19 => ?_)
        · have hy2 : y = fb_ct (fun j => decide (π j = j)) (i + 1) := by rw [ct_f (by simp; omega)]; exact hy
          refine z_iinc (k := 2) (lv' := [(2, .int (zI (((i + 1) : Nat) : Int))), (0, .ref t), (1, .int (zI ((y : Nat) : Int)))]) hx hb (((i + 1) : Nat) : Int) (by omega) dX1_asAtFirst_25 hl rfl (by decide) rfl (fun ls hl => ?_)
          refine lv_goto (tgt := 4) hx hb dX1_asAtFirst_28 (by decide) ?_
          exact ih_4 (i + 1) y (by omega) (by omega) (by first | exact hy1 | exact hy2) _ _ _ hP hD hS (lv_sub hl [1, 2, 0] rfl)
        · have hy1 : y + 1 = fb_ct (fun j => decide (π j = j)) (i + 1) := by rw [ct_t (by simp; omega)]; omega
          refine z_iinc (k := 1) (lv' := [(1, .int (zI (((y + 1) : Nat) : Int))), (0, .ref t), (2, .int (zI ((i : Nat) : Int)))]) hx hb (((y + 1) : Nat) : Int) (by omega) dX1_asAtFirst_22 hl rfl (by decide) rfl (fun ls hl => ?_)
          refine z_iinc (k := 2) (lv' := [(2, .int (zI (((i + 1) : Nat) : Int))), (1, .int (zI (((y + 1) : Nat) : Int))), (0, .ref t)]) hx hb (((i + 1) : Nat) : Int) (by omega) dX1_asAtFirst_25 hl rfl (by decide) rfl (fun ls hl => ?_)
          refine lv_goto (tgt := 4) hx hb dX1_asAtFirst_28 (by decide) ?_
          exact ih_4 (i + 1) (y + 1) (by omega) (by omega) (by first | exact hy1 | exact hy2) _ _ _ hP hD hS (lv_sub hl [2, 1, 0] rfl)
  exact cut_4 (n - 0 + 1) 0 0 (Nat.lt_succ_self _) (by omega) (by rfl) _ _ _ hP hD hS (lv_sub hl [2, 1, 0] rfl)
set_option maxHeartbeats 4000000 in
set_option maxRecDepth 100000 in
theorem c_X1_asAtFirstBehind (l : Launch) (D : va_G) (cI : ClassId) (t : Nat) (a : Nat → Nat) (n k d v : Nat) (g : Nat → Int) (π : Nat → Nat) (h wa : Nat) (wn : Int) (f : Nat → Int) (φ : Nat → Nat) (hn : n ≤ 12) (hg : ∀ j, j < n → g j = ((π j : Nat) : Int)) (hπ : ∀ j, j < n → π j < n) (hf : ∀ j, j < n → f j = ((φ j : Nat) : Int)) (hφ : ∀ j, j < n → φ j < n) : zMi l yX1_asAtFirstBehind cX1_asAtFirstBehind 4 (some .int) ({ frames := 0, cells := 0, slots := 0, locals := 0 }) D cI [.ref t, .ref h] [cT t a ((n : Nat) : Int) ((k : Nat) : Int) ((d : Nat) : Int) ((v : Nat) : Int), cR cI (a 3) 12 g, cW h wa wn, cR cI wa 12 f] (fun (z : Int) (u : Unit) => z = (((fb_ct (fun j => decide (π j = φ j)) n) : Nat) : Int)) (fun (u : Unit) => [cT t a ((n : Nat) : Int) ((k : Nat) : Int) ((d : Nat) : Int) ((v : Nat) : Int), cR cI (a 3) 12 g, cW h wa wn, cR cI wa 12 f]) := by
  intro sz
  refine zstart rfl (by decide) (Nat.le_of_ble_eq_true rfl) ?_
  intro p e s m below meth c ls K hnm hsz hP hD hS hl
  generalize hargs : ([.ref t, .ref h] : List Value).toArray = args at K ⊢
  generalize hQf : MQ below _ args s _ _ _ = Qf
  have K : zK p s m args meth c cX1_asAtFirstBehind 4 RX1 (some .int) D cI := K
  obtain ⟨hx, hb, hml, hown, hts, hE, -, -⟩ := id K
  have hA := zhA (ws0 := [cT t a ((n : Nat) : Int) ((k : Nat) : Int) ((d : Nat) : Int) ((v : Nat) : Int), cR cI (a 3) 12 g, cW h wa wn, cR cI wa 12 f]) hsz
  have hl : lv_has ls 4 [(0, .ref t), (1, .ref h)] := hl
  refine lv_iconst (v := zI 0) hx hb dX1_asAtFirstBehind_0 rfl ?_
  refine lv_istore_n (lv' := [(2, .int (zI 0)), (0, .ref t), (1, .ref h)]) hx hb dX1_asAtFirstBehind_1 rfl hl (by decide) rfl (fun ls hl => ?_)
  refine lv_iconst (v := zI 0) hx hb dX1_asAtFirstBehind_2 rfl ?_
  refine lv_istore_n (lv' := [(3, .int (zI 0)), (2, .int (zI 0)), (0, .ref t), (1, .ref h)]) hx hb dX1_asAtFirstBehind_3 rfl hl (by decide) rfl (fun ls hl => ?_)
  have cut_4 : ∀ (N_4 : Nat), ∀ (i y : Nat), n - i < N_4 → (i ≤ n) → (y = fb_ct (fun j => decide (π j = φ j)) i) → ∀ (H : Heap) (locs : List Loc) (ls : Array Slot), va_P D cls [cT t a ((n : Nat) : Int) ((k : Nat) : Int) ((d : Nat) : Int) ((v : Nat) : Int), cR cI (a 3) 12 g, cW h wa wn, cR cI wa 12 f] H → va_D (va_A [cT t a ((n : Nat) : Int) ((k : Nat) : Int) ((d : Nat) : Int) ((v : Nat) : Int), cR cI (a 3) 12 g, cW h wa wn, cR cI wa 12 f] sz) [cT t a ((n : Nat) : Int) ((k : Nat) : Int) ((d : Nat) : Int) ((v : Nat) : Int), cR cI (a 3) 12 g, cW h wa wn, cR cI wa 12 f] → va_S (va_A [cT t a ((n : Nat) : Int) ((k : Nat) : Int) ((d : Nat) : Int) ((v : Nat) : Int), cR cI (a 3) 12 g, cW h wa wn, cR cI wa 12 f] sz) s.heap H locs → lv_has ls 4 [(0, .ref t), (1, .ref h), (2, .int (zI ((y : Nat) : Int))), (3, .int (zI ((i : Nat) : Int)))] → W p l e ({ frames := 0, cells := 0, slots := 0, locals := 0 }) s m args below meth c H locs 0 0 Qf (F0 m 4 ls []) := by
    intro N_4
    induction N_4 with
    | zero => intro i y hm_4; exact absurd hm_4 (Nat.not_lt_zero _)
    | succ N_4 ih_4 =>
      intro i y hm_4 hi hy H locs ls hP hD hS hl
      refine lv_iload_n hx hb dX1_asAtFirstBehind_4 rfl (lv_at hl 3 rfl) ?_
      refine lv_aload_n hx hb dX1_asAtFirstBehind_5 rfl (lv_at hl 0 rfl) ?_
      refine va_get (D := D) (ci := 1) (v := .int (zI ((n : Nat) : Int))) (C := RX1) (T := TX1) (N := 11) hx hb hts inT_X1 hown hE.1 hP 0 rfl rfl 0 (by decide) (hts _ qf_X1_33) (fun _ h9 => h9) rfl dX1_asAtFirstBehind_6 ?_
      refine z_icmp_ge (tgt := 36) hx hb (by omega) dX1_asAtFirstBehind_9 (by decide) (fun c_9 => ?_) (fun c_9 => ?_)
      · refine lv_iload_n hx hb dX1_asAtFirstBehind_36 rfl (lv_at hl 2 rfl) ?_
        rw [← hQf]
        exact z_iret K hS () (by rw [hy, show i = n by omega]) hP hD dX1_asAtFirstBehind_37
      · refine lv_aload_n hx hb dX1_asAtFirstBehind_12 rfl (lv_at hl 0 rfl) ?_
        refine va_get (D := D) (ci := 1) (v := .ref (a 3)) (C := RX1) (T := TX1) (N := 11) hx hb hts inT_X1 hown hE.1 hP 0 rfl rfl 7 (by decide) (hts _ qf_X1_21) (fun _ h9 => h9) rfl dX1_asAtFirstBehind_13 ?_
        refine lv_iload_n hx hb dX1_asAtFirstBehind_16 rfl (lv_at hl 3 rfl) ?_
        have hπi := hπ i (by omega)
        refine z_iald hx hb hE hP 1 rfl i (by omega) (by omega) (by first | decide | omega) ((π i : Nat) : Int) (hg i (by omega)) dX1_asAtFirstBehind_17 ?_
        refine lv_aload_n hx hb dX1_asAtFirstBehind_18 rfl (lv_at hl 1 rfl) ?_
        refine va_getN (D := D) (ci := 2) (v := .ref wa) (C := RX2) (T := TX2) (N := 2) hx hb hts inT_X2 hown hE.1 hP 2 rfl rfl 1 (by decide) (va_Nw.use rfl (hE.2 _ nf_X1_59 rfl)) (fun _ h9 => h9) rfl dX1_asAtFirstBehind_19 ?_
        refine lv_iload_n hx hb dX1_asAtFirstBehind_22 rfl (lv_at hl 3 rfl) ?_
        have hφi := hφ i (by omega)
        refine z_iald hx hb hE hP 3 rfl i (by omega) (by omega) (by first | decide | omega) ((φ i : Nat) : Int) (hf i (by omega)) dX1_asAtFirstBehind_23 ?_
        refine z_icmp_ne (tgt := 30) hx hb (by omega) dX1_asAtFirstBehind_24 (by decide) (fun c_24 => ?_) (fun c_24 => ?_)
        · have hy2 : y = fb_ct (fun j => decide (π j = φ j)) (i + 1) := by rw [ct_f (by simp; omega)]; exact hy
          refine z_iinc (k := 3) (lv' := [(3, .int (zI (((i + 1) : Nat) : Int))), (0, .ref t), (1, .ref h), (2, .int (zI ((y : Nat) : Int)))]) hx hb (((i + 1) : Nat) : Int) (by omega) dX1_asAtFirstBehind_30 hl rfl (by decide) rfl (fun ls hl => ?_)
          refine lv_goto (tgt := 4) hx hb dX1_asAtFirstBehind_33 (by decide) ?_
          exact ih_4 (i + 1) y (by omega) (by omega) (by first | exact hy1 | exact hy2) _ _ _ hP hD hS (lv_sub hl [1, 2, 3, 0] rfl)
        · have hy1 : y + 1 = fb_ct (fun j => decide (π j = φ j)) (i + 1) := by rw [ct_t (by simp; omega)]; omega
          refine z_iinc (k := 2) (lv' := [(2, .int (zI (((y + 1) : Nat) : Int))), (0, .ref t), (1, .ref h), (3, .int (zI ((i : Nat) : Int)))]) hx hb (((y + 1) : Nat) : Int) (by omega) dX1_asAtFirstBehind_27 hl rfl (by decide) rfl (fun ls hl => ?_)
          refine z_iinc (k := 3) (lv' := [(3, .int (zI (((i + 1) : Nat) : Int))), (2, .int (zI (((y + 1) : Nat) : Int))), (0, .ref t), (1, .ref h)]) hx hb (((i + 1) : Nat) : Int) (by omega) dX1_asAtFirstBehind_30 hl rfl (by decide) rfl (fun ls hl => ?_)
          refine lv_goto (tgt := 4) hx hb dX1_asAtFirstBehind_33 (by decide) ?_
          exact ih_4 (i + 1) (y + 1) (by omega) (by omega) (by first | exact hy1 | exact hy2) _ _ _ hP hD hS (lv_sub hl [2, 3, 1, 0] rfl)
  exact cut_4 (n - 0 + 1) 0 0 (Nat.lt_succ_self _) (by omega) (by rfl) _ _ _ hP hD hS (lv_sub hl [2, 3, 1, 0] rfl)
set_option maxHeartbeats 4000000 in
set_option maxRecDepth 100000 in
theorem c_X1_topBehind (l : Launch) (D : va_G) (cI : ClassId) (t : Nat) (a : Nat → Nat) (n k d v : Nat) (g : Nat → Int) (π : Nat → Nat) (h wa : Nat) (wn : Int) (f : Nat → Int) (φ : Nat → Nat) (r0 : Nat) (hn : n ≤ 12) (hg : ∀ j, j < n → g j = ((π j : Nat) : Int)) (hπ : ∀ j, j < n → π j < n) (hf : ∀ j, j < n → f j = ((φ j : Nat) : Int)) (hφ : ∀ j, j < n → φ j < n) (hi0 : inj φ n) (hr0 : r0 < n) (hr1 : φ r0 = 0) : zMi l yX1_topBehind cX1_topBehind 3 (some .int) ({ frames := 0, cells := 0, slots := 0, locals := 0 }) D cI [.ref t, .ref h] [cT t a ((n : Nat) : Int) ((k : Nat) : Int) ((d : Nat) : Int) ((v : Nat) : Int), cR cI (a 3) 12 g, cW h wa wn, cR cI wa 12 f] (fun (z : Int) (u : Unit) => z = (((π r0) : Nat) : Int)) (fun (u : Unit) => [cT t a ((n : Nat) : Int) ((k : Nat) : Int) ((d : Nat) : Int) ((v : Nat) : Int), cR cI (a 3) 12 g, cW h wa wn, cR cI wa 12 f]) := by
  intro sz
  refine zstart rfl (by decide) (Nat.le_of_ble_eq_true rfl) ?_
  intro p e s m below meth c ls K hnm hsz hP hD hS hl
  generalize hargs : ([.ref t, .ref h] : List Value).toArray = args at K ⊢
  generalize hQf : MQ below _ args s _ _ _ = Qf
  have K : zK p s m args meth c cX1_topBehind 3 RX1 (some .int) D cI := K
  obtain ⟨hx, hb, hml, hown, hts, hE, -, -⟩ := id K
  have hA := zhA (ws0 := [cT t a ((n : Nat) : Int) ((k : Nat) : Int) ((d : Nat) : Int) ((v : Nat) : Int), cR cI (a 3) 12 g, cW h wa wn, cR cI wa 12 f]) hsz
  have hl : lv_has ls 3 [(0, .ref t), (1, .ref h)] := hl
  refine lv_iconst (v := zI 0) hx hb dX1_topBehind_0 rfl ?_
  refine lv_istore_n (lv' := [(2, .int (zI 0)), (0, .ref t), (1, .ref h)]) hx hb dX1_topBehind_1 rfl hl (by decide) rfl (fun ls hl => ?_)
  have cut_2 : ∀ (N_2 : Nat), ∀ (i : Nat), n - i < N_2 → (i ≤ r0) → ∀ (H : Heap) (locs : List Loc) (ls : Array Slot), va_P D cls [cT t a ((n : Nat) : Int) ((k : Nat) : Int) ((d : Nat) : Int) ((v : Nat) : Int), cR cI (a 3) 12 g, cW h wa wn, cR cI wa 12 f] H → va_D (va_A [cT t a ((n : Nat) : Int) ((k : Nat) : Int) ((d : Nat) : Int) ((v : Nat) : Int), cR cI (a 3) 12 g, cW h wa wn, cR cI wa 12 f] sz) [cT t a ((n : Nat) : Int) ((k : Nat) : Int) ((d : Nat) : Int) ((v : Nat) : Int), cR cI (a 3) 12 g, cW h wa wn, cR cI wa 12 f] → va_S (va_A [cT t a ((n : Nat) : Int) ((k : Nat) : Int) ((d : Nat) : Int) ((v : Nat) : Int), cR cI (a 3) 12 g, cW h wa wn, cR cI wa 12 f] sz) s.heap H locs → lv_has ls 3 [(0, .ref t), (1, .ref h), (2, .int (zI ((i : Nat) : Int)))] → W p l e ({ frames := 0, cells := 0, slots := 0, locals := 0 }) s m args below meth c H locs 0 0 Qf (F0 m 2 ls []) := by
    intro N_2
    induction N_2 with
    | zero => intro i hm_2; exact absurd hm_2 (Nat.not_lt_zero _)
    | succ N_2 ih_2 =>
      intro i hm_2 hi H locs ls hP hD hS hl
      refine lv_iload_n hx hb dX1_topBehind_2 rfl (lv_at hl 2 rfl) ?_
      refine lv_aload_n hx hb dX1_topBehind_3 rfl (lv_at hl 0 rfl) ?_
      refine va_get (D := D) (ci := 1) (v := .int (zI ((n : Nat) : Int))) (C := RX1) (T := TX1) (N := 11) hx hb hts inT_X1 hown hE.1 hP 0 rfl rfl 0 (by decide) (hts _ qf_X1_33) (fun _ h9 => h9) rfl dX1_topBehind_4 ?_
      refine z_icmp_ge (tgt := 32) hx hb (by omega) dX1_topBehind_7 (by decide) (fun c_7 => ?_) (fun c_7 => ?_)
      · exfalso; omega
      · refine lv_aload_n hx hb dX1_topBehind_10 rfl (lv_at hl 1 rfl) ?_
        refine va_getN (D := D) (ci := 2) (v := .ref wa) (C := RX2) (T := TX2) (N := 2) hx hb hts inT_X2 hown hE.1 hP 2 rfl rfl 1 (by decide) (va_Nw.use rfl (hE.2 _ nf_X1_59 rfl)) (fun _ h9 => h9) rfl dX1_topBehind_11 ?_
        refine lv_iload_n hx hb dX1_topBehind_14 rfl (lv_at hl 2 rfl) ?_
        have hφi := hφ i (by omega)
        refine z_iald hx hb hE hP 3 rfl i (by omega) (by omega) (by first | decide | omega) ((φ i : Nat) : Int) (hf i (by omega)) dX1_topBehind_15 ?_
        refine z_if_ne (tgt := 26) hx hb (by omega) dX1_topBehind_16 (by decide) (fun c_16 => ?_) (fun c_16 => ?_)
        · have hne : i ≠ r0 := fun h9 => c_16 (by rw [h9, hr1]; rfl)
          refine z_iinc (k := 2) (lv' := [(2, .int (zI (((i + 1) : Nat) : Int))), (0, .ref t), (1, .ref h)]) hx hb (((i + 1) : Nat) : Int) (by omega) dX1_topBehind_26 hl rfl (by decide) rfl (fun ls hl => ?_)
          refine lv_goto (tgt := 2) hx hb dX1_topBehind_29 (by decide) ?_
          exact ih_2 (i + 1) (by omega) (by omega) _ _ _ hP hD hS (lv_sub hl [1, 2, 0] rfl)
        · have heq : i = r0 := inj_eq hi0 (by omega) hr0 (by omega)
          subst heq
          refine lv_aload_n hx hb dX1_topBehind_19 rfl (lv_at hl 0 rfl) ?_
          refine va_get (D := D) (ci := 1) (v := .ref (a 3)) (C := RX1) (T := TX1) (N := 11) hx hb hts inT_X1 hown hE.1 hP 0 rfl rfl 7 (by decide) (hts _ qf_X1_21) (fun _ h9 => h9) rfl dX1_topBehind_20 ?_
          refine lv_iload_n hx hb dX1_topBehind_23 rfl (lv_at hl 2 rfl) ?_
          have hπi := hπ i (by omega)
          refine z_iald hx hb hE hP 1 rfl i (by omega) (by omega) (by first | decide | omega) ((π i : Nat) : Int) (hg i (by omega)) dX1_topBehind_24 ?_
          rw [← hQf]
          exact z_iret K hS () (by first | rfl | omega | (split <;> omega)) hP hD dX1_topBehind_25
  exact cut_2 (n - 0 + 1) 0 (Nat.lt_succ_self _) (by omega) _ _ _ hP hD hS (lv_sub hl [1, 2, 0] rfl)
set_option maxHeartbeats 4000000 in
set_option maxRecDepth 100000 in
theorem c_X1_wrongTwos (l : Launch) (D : va_G) (cI : ClassId) (t : Nat) (a : Nat → Nat) (n k d v : Nat) (g : Nat → Int) (π : Nat → Nat) (hn : n ≤ 12) (hg : ∀ j, j < n → g j = ((π j : Nat) : Int)) (hπ : ∀ j, j < n → π j < n) : zMi l yX1_wrongTwos cX1_wrongTwos 4 (some .int) ({ frames := 0, cells := 0, slots := 0, locals := 0 }) D cI [.ref t] [cT t a ((n : Nat) : Int) ((k : Nat) : Int) ((d : Nat) : Int) ((v : Nat) : Int), cR cI (a 3) 12 g] (fun (z : Int) (u : Unit) => z = (((fb_sm (fun b => fb_ct (fun a => decide (π b < π a)) b) n) : Nat) : Int)) (fun (u : Unit) => [cT t a ((n : Nat) : Int) ((k : Nat) : Int) ((d : Nat) : Int) ((v : Nat) : Int), cR cI (a 3) 12 g]) := by
  intro sz
  refine zstart rfl (by decide) (Nat.le_of_ble_eq_true rfl) ?_
  intro p e s m below meth c ls K hnm hsz hP hD hS hl
  generalize hargs : ([.ref t] : List Value).toArray = args at K ⊢
  generalize hQf : MQ below _ args s _ _ _ = Qf
  have K : zK p s m args meth c cX1_wrongTwos 4 RX1 (some .int) D cI := K
  obtain ⟨hx, hb, hml, hown, hts, hE, -, -⟩ := id K
  have hA := zhA (ws0 := [cT t a ((n : Nat) : Int) ((k : Nat) : Int) ((d : Nat) : Int) ((v : Nat) : Int), cR cI (a 3) 12 g]) hsz
  have hl : lv_has ls 4 [(0, .ref t)] := hl
  refine lv_iconst (v := zI 0) hx hb dX1_wrongTwos_0 rfl ?_
  refine lv_istore_n (lv' := [(1, .int (zI 0)), (0, .ref t)]) hx hb dX1_wrongTwos_1 rfl hl (by decide) rfl (fun ls hl => ?_)
  refine lv_iconst (v := zI 1) hx hb dX1_wrongTwos_2 rfl ?_
  refine lv_istore_n (lv' := [(2, .int (zI 1)), (1, .int (zI 0)), (0, .ref t)]) hx hb dX1_wrongTwos_3 rfl hl (by decide) rfl (fun ls hl => ?_)
  have cut_4 : ∀ (N_4 : Nat), ∀ (i y : Nat), n - i < N_4 → (1 ≤ i ∧ (i ≤ n ∨ i = 1)) → (y = fb_sm (fun b => fb_ct (fun a => decide (π b < π a)) b) i) → ∀ (H : Heap) (locs : List Loc) (ls : Array Slot), va_P D cls [cT t a ((n : Nat) : Int) ((k : Nat) : Int) ((d : Nat) : Int) ((v : Nat) : Int), cR cI (a 3) 12 g] H → va_D (va_A [cT t a ((n : Nat) : Int) ((k : Nat) : Int) ((d : Nat) : Int) ((v : Nat) : Int), cR cI (a 3) 12 g] sz) [cT t a ((n : Nat) : Int) ((k : Nat) : Int) ((d : Nat) : Int) ((v : Nat) : Int), cR cI (a 3) 12 g] → va_S (va_A [cT t a ((n : Nat) : Int) ((k : Nat) : Int) ((d : Nat) : Int) ((v : Nat) : Int), cR cI (a 3) 12 g] sz) s.heap H locs → lv_has ls 4 [(0, .ref t), (1, .int (zI ((y : Nat) : Int))), (2, .int (zI ((i : Nat) : Int)))] → W p l e ({ frames := 0, cells := 0, slots := 0, locals := 0 }) s m args below meth c H locs 0 0 Qf (F0 m 4 ls []) := by
    intro N_4
    induction N_4 with
    | zero => intro i y hm_4; exact absurd hm_4 (Nat.not_lt_zero _)
    | succ N_4 ih_4 =>
      intro i y hm_4 hi hy H locs ls hP hD hS hl
      refine lv_iload_n hx hb dX1_wrongTwos_4 rfl (lv_at hl 2 rfl) ?_
      refine lv_aload_n hx hb dX1_wrongTwos_5 rfl (lv_at hl 0 rfl) ?_
      refine va_get (D := D) (ci := 1) (v := .int (zI ((n : Nat) : Int))) (C := RX1) (T := TX1) (N := 11) hx hb hts inT_X1 hown hE.1 hP 0 rfl rfl 0 (by decide) (hts _ qf_X1_33) (fun _ h9 => h9) rfl dX1_wrongTwos_6 ?_
      refine z_icmp_ge (tgt := 49) hx hb (by omega) dX1_wrongTwos_9 (by decide) (fun c_9 => ?_) (fun c_9 => ?_)
      · refine lv_iload_n hx hb dX1_wrongTwos_49 rfl (lv_at hl 1 rfl) ?_
        rw [← hQf]
        exact z_iret K hS () (by rw [hy]; rcases (show i = n ∨ (i = 1 ∧ n = 0) by omega) with h9 | ⟨h9, h8⟩; rw [h9]; rw [h9, h8]; rfl) hP hD dX1_wrongTwos_50
      · refine lv_iconst (v := zI 0) hx hb dX1_wrongTwos_12 rfl ?_
        refine lv_istore_n (lv' := [(3, .int (zI 0)), (0, .ref t), (1, .int (zI ((y : Nat) : Int))), (2, .int (zI ((i : Nat) : Int)))]) hx hb dX1_wrongTwos_13 rfl hl (by decide) rfl (fun ls hl => ?_)
        have cut_14 : ∀ (N_14 : Nat), ∀ (j w : Nat), i - j < N_14 → (j ≤ i) → (w = y + fb_ct (fun a => decide (π i < π a)) j) → ∀ (H : Heap) (locs : List Loc) (ls : Array Slot), va_P D cls [cT t a ((n : Nat) : Int) ((k : Nat) : Int) ((d : Nat) : Int) ((v : Nat) : Int), cR cI (a 3) 12 g] H → va_D (va_A [cT t a ((n : Nat) : Int) ((k : Nat) : Int) ((d : Nat) : Int) ((v : Nat) : Int), cR cI (a 3) 12 g] sz) [cT t a ((n : Nat) : Int) ((k : Nat) : Int) ((d : Nat) : Int) ((v : Nat) : Int), cR cI (a 3) 12 g] → va_S (va_A [cT t a ((n : Nat) : Int) ((k : Nat) : Int) ((d : Nat) : Int) ((v : Nat) : Int), cR cI (a 3) 12 g] sz) s.heap H locs → lv_has ls 4 [(0, .ref t), (1, .int (zI ((w : Nat) : Int))), (2, .int (zI ((i : Nat) : Int))), (3, .int (zI ((j : Nat) : Int)))] → W p l e ({ frames := 0, cells := 0, slots := 0, locals := 0 }) s m args below meth c H locs 0 0 Qf (F0 m 14 ls []) := by
          intro N_14
          induction N_14 with
          | zero => intro j w hm_14; exact absurd hm_14 (Nat.not_lt_zero _)
          | succ N_14 ih_14 =>
            intro j w hm_14 hj hw H locs ls hP hD hS hl
            refine lv_iload_n hx hb dX1_wrongTwos_14 rfl (lv_at hl 3 rfl) ?_
            refine lv_iload_n hx hb dX1_wrongTwos_15 rfl (lv_at hl 2 rfl) ?_
            refine z_icmp_ge (tgt := 43) hx hb (by omega) dX1_wrongTwos_16 (by decide) (fun c_16 => ?_) (fun c_16 => ?_)
            · refine z_iinc (k := 2) (lv' := [(2, .int (zI (((i + 1) : Nat) : Int))), (0, .ref t), (1, .int (zI ((w : Nat) : Int))), (3, .int (zI ((j : Nat) : Int)))]) hx hb (((i + 1) : Nat) : Int) (by omega) dX1_wrongTwos_43 hl rfl (by decide) rfl (fun ls hl => ?_)
              refine lv_goto (tgt := 4) hx hb dX1_wrongTwos_46 (by decide) ?_
              exact ih_4 (i + 1) w (by omega) (by omega) (by rw [fb_sm_succ, ← hy, hw, show j = i by omega]) _ _ _ hP hD hS (lv_sub hl [1, 2, 0] rfl)
            · refine lv_aload_n hx hb dX1_wrongTwos_19 rfl (lv_at hl 0 rfl) ?_
              refine va_get (D := D) (ci := 1) (v := .ref (a 3)) (C := RX1) (T := TX1) (N := 11) hx hb hts inT_X1 hown hE.1 hP 0 rfl rfl 7 (by decide) (hts _ qf_X1_21) (fun _ h9 => h9) rfl dX1_wrongTwos_20 ?_
              refine lv_iload_n hx hb dX1_wrongTwos_23 rfl (lv_at hl 3 rfl) ?_
              have hπj := hπ j (by omega)
              refine z_iald hx hb hE hP 1 rfl j (by omega) (by omega) (by first | decide | omega) ((π j : Nat) : Int) (hg j (by omega)) dX1_wrongTwos_24 ?_
              refine lv_aload_n hx hb dX1_wrongTwos_25 rfl (lv_at hl 0 rfl) ?_
              refine va_get (D := D) (ci := 1) (v := .ref (a 3)) (C := RX1) (T := TX1) (N := 11) hx hb hts inT_X1 hown hE.1 hP 0 rfl rfl 7 (by decide) (hts _ qf_X1_21) (fun _ h9 => h9) rfl dX1_wrongTwos_26 ?_
              refine lv_iload_n hx hb dX1_wrongTwos_29 rfl (lv_at hl 2 rfl) ?_
              have hπi := hπ i (by omega)
              refine z_iald hx hb hE hP 1 rfl i (by omega) (by omega) (by first | decide | omega) ((π i : Nat) : Int) (hg i (by omega)) dX1_wrongTwos_30 ?_
              refine z_icmp_le (tgt := 37) hx hb (by omega) dX1_wrongTwos_31 (by decide) (fun c_31 => ?_) (fun c_31 => ?_)
              · have hw2 : w = y + fb_ct (fun a => decide (π i < π a)) (j + 1) := by rw [ct_f (by simp; omega)]; exact hw
                refine z_iinc (k := 3) (lv' := [(3, .int (zI (((j + 1) : Nat) : Int))), (0, .ref t), (1, .int (zI ((w : Nat) : Int))), (2, .int (zI ((i : Nat) : Int)))]) hx hb (((j + 1) : Nat) : Int) (by omega) dX1_wrongTwos_37 hl rfl (by decide) rfl (fun ls hl => ?_)
                refine lv_goto (tgt := 14) hx hb dX1_wrongTwos_40 (by decide) ?_
                exact ih_14 (j + 1) w (by omega) (by omega) (by first | exact hw1 | exact hw2) _ _ _ hP hD hS (lv_sub hl [1, 2, 3, 0] rfl)
              · have hw1 : w + 1 = y + fb_ct (fun a => decide (π i < π a)) (j + 1) := by rw [ct_t (by simp; omega)]; omega
                refine z_iinc (k := 1) (lv' := [(1, .int (zI (((w + 1) : Nat) : Int))), (0, .ref t), (2, .int (zI ((i : Nat) : Int))), (3, .int (zI ((j : Nat) : Int)))]) hx hb (((w + 1) : Nat) : Int) (by omega) dX1_wrongTwos_34 hl rfl (by decide) rfl (fun ls hl => ?_)
                refine z_iinc (k := 3) (lv' := [(3, .int (zI (((j + 1) : Nat) : Int))), (1, .int (zI (((w + 1) : Nat) : Int))), (0, .ref t), (2, .int (zI ((i : Nat) : Int)))]) hx hb (((j + 1) : Nat) : Int) (by omega) dX1_wrongTwos_37 hl rfl (by decide) rfl (fun ls hl => ?_)
                refine lv_goto (tgt := 14) hx hb dX1_wrongTwos_40 (by decide) ?_
                exact ih_14 (j + 1) (w + 1) (by omega) (by omega) (by first | exact hw1 | exact hw2) _ _ _ hP hD hS (lv_sub hl [2, 1, 3, 0] rfl)
        exact cut_14 (i - 0 + 1) 0 y (Nat.lt_succ_self _) (by omega) (by rfl) _ _ _ hP hD hS (lv_sub hl [1, 2, 3, 0] rfl)
  exact cut_4 (n - 1 + 1) 1 0 (Nat.lt_succ_self _) (by omega) (by rfl) _ _ _ hP hD hS (lv_sub hl [2, 1, 0] rfl)
set_option maxHeartbeats 4000000 in
set_option maxRecDepth 100000 in
theorem c_X1_addSeen (l : Launch) (D : va_G) (cI : ClassId) (t : Nat) (a : Nat → Nat) (n k d v : Nat) (g4 g5 g6 : Nat → Int) (x0 x1 x2 : Int) (hv : v < 6) : zMv l yX1_addSeen cX1_addSeen 4 none ({ frames := 0, cells := 0, slots := 0, locals := 0 }) D cI [.ref t, .int (zI x0), .int (zI x1), .int (zI x2)] [cT t a ((n : Nat) : Int) ((k : Nat) : Int) ((d : Nat) : Int) ((v : Nat) : Int), cR cI (a 4) 6 g4, cR cI (a 5) 6 g5, cR cI (a 6) 6 g6] (fun (u : Unit) => True) (fun (u : Unit) => [cT t a ((n : Nat) : Int) ((k : Nat) : Int) ((d : Nat) : Int) (((v + 1) : Nat) : Int), cR cI (a 4) 6 (zup g4 v x0), cR cI (a 5) 6 (zup g5 v x1), cR cI (a 6) 6 (zup g6 v x2)]) := by
  intro sz
  refine zstart rfl (by decide) (Nat.le_of_ble_eq_true rfl) ?_
  intro p e s m below meth c ls K hnm hsz hP hD hS hl
  generalize hargs : ([.ref t, .int (zI x0), .int (zI x1), .int (zI x2)] : List Value).toArray = args at K ⊢
  generalize hQf : MQ below _ args s _ _ _ = Qf
  have K : zK p s m args meth c cX1_addSeen 4 RX1 none D cI := K
  obtain ⟨hx, hb, hml, hown, hts, hE, -, -⟩ := id K
  have hA := zhA (ws0 := [cT t a ((n : Nat) : Int) ((k : Nat) : Int) ((d : Nat) : Int) ((v : Nat) : Int), cR cI (a 4) 6 g4, cR cI (a 5) 6 g5, cR cI (a 6) 6 g6]) hsz
  have hl : lv_has ls 4 [(0, .ref t), (1, .int (zI x0)), (2, .int (zI x1)), (3, .int (zI x2))] := hl
  refine lv_aload_n hx hb dX1_addSeen_0 rfl (lv_at hl 0 rfl) ?_
  refine va_get (D := D) (ci := 1) (v := .int (zI ((v : Nat) : Int))) (C := RX1) (T := TX1) (N := 11) hx hb hts inT_X1 hown hE.1 hP 0 rfl rfl 3 (by decide) (hts _ qf_X1_43) (fun _ h9 => h9) rfl dX1_addSeen_1 ?_
  refine lv_bipush (v := zI 6) hx hb dX1_addSeen_4 (by decide) ?_
  refine z_icmp_ge (tgt := 49) hx hb (by omega) dX1_addSeen_6 (by decide) (fun c_6 => ?_) (fun c_6 => ?_)
  · exfalso; omega
  · refine lv_aload_n hx hb dX1_addSeen_9 rfl (lv_at hl 0 rfl) ?_
    refine va_get (D := D) (ci := 1) (v := .ref (a 4)) (C := RX1) (T := TX1) (N := 11) hx hb hts inT_X1 hown hE.1 hP 0 rfl rfl 8 (by decide) (hts _ qf_X1_24) (fun _ h9 => h9) rfl dX1_addSeen_10 ?_
    refine lv_aload_n hx hb dX1_addSeen_13 rfl (lv_at hl 0 rfl) ?_
    refine va_get (D := D) (ci := 1) (v := .int (zI ((v : Nat) : Int))) (C := RX1) (T := TX1) (N := 11) hx hb hts inT_X1 hown hE.1 hP 0 rfl rfl 3 (by decide) (hts _ qf_X1_43) (fun _ h9 => h9) rfl dX1_addSeen_14 ?_
    refine lv_iload_n hx hb dX1_addSeen_17 rfl (lv_at hl 1 rfl) ?_
    refine z_iast hx hb hE hP hD hS 1 rfl v (by omega) (by omega) (by first | decide | omega) (zup g4 v x0) rfl dX1_addSeen_18 (fun H locs hP hD hS => ?_)
    have hP : va_P D cls [cT t a ((n : Nat) : Int) ((k : Nat) : Int) ((d : Nat) : Int) ((v : Nat) : Int), cR cI (a 4) 6 (zup g4 v x0), cR cI (a 5) 6 g5, cR cI (a 6) 6 g6] H := hP
    have hD : va_D (va_A [cT t a ((n : Nat) : Int) ((k : Nat) : Int) ((d : Nat) : Int) ((v : Nat) : Int), cR cI (a 4) 6 g4, cR cI (a 5) 6 g5, cR cI (a 6) 6 g6] sz) [cT t a ((n : Nat) : Int) ((k : Nat) : Int) ((d : Nat) : Int) ((v : Nat) : Int), cR cI (a 4) 6 (zup g4 v x0), cR cI (a 5) 6 g5, cR cI (a 6) 6 g6] := hD
    refine lv_aload_n hx hb dX1_addSeen_19 rfl (lv_at hl 0 rfl) ?_
    refine va_get (D := D) (ci := 1) (v := .ref (a 5)) (C := RX1) (T := TX1) (N := 11) hx hb hts inT_X1 hown hE.1 hP 0 rfl rfl 9 (by decide) (hts _ qf_X1_27) (fun _ h9 => h9) rfl dX1_addSeen_20 ?_
    refine lv_aload_n hx hb dX1_addSeen_23 rfl (lv_at hl 0 rfl) ?_
    refine va_get (D := D) (ci := 1) (v := .int (zI ((v : Nat) : Int))) (C := RX1) (T := TX1) (N := 11) hx hb hts inT_X1 hown hE.1 hP 0 rfl rfl 3 (by decide) (hts _ qf_X1_43) (fun _ h9 => h9) rfl dX1_addSeen_24 ?_
    refine lv_iload_n hx hb dX1_addSeen_27 rfl (lv_at hl 2 rfl) ?_
    refine z_iast hx hb hE hP hD hS 2 rfl v (by omega) (by omega) (by first | decide | omega) (zup g5 v x1) rfl dX1_addSeen_28 (fun H locs hP hD hS => ?_)
    have hP : va_P D cls [cT t a ((n : Nat) : Int) ((k : Nat) : Int) ((d : Nat) : Int) ((v : Nat) : Int), cR cI (a 4) 6 (zup g4 v x0), cR cI (a 5) 6 (zup g5 v x1), cR cI (a 6) 6 g6] H := hP
    have hD : va_D (va_A [cT t a ((n : Nat) : Int) ((k : Nat) : Int) ((d : Nat) : Int) ((v : Nat) : Int), cR cI (a 4) 6 g4, cR cI (a 5) 6 g5, cR cI (a 6) 6 g6] sz) [cT t a ((n : Nat) : Int) ((k : Nat) : Int) ((d : Nat) : Int) ((v : Nat) : Int), cR cI (a 4) 6 (zup g4 v x0), cR cI (a 5) 6 (zup g5 v x1), cR cI (a 6) 6 g6] := hD
    refine lv_aload_n hx hb dX1_addSeen_29 rfl (lv_at hl 0 rfl) ?_
    refine va_get (D := D) (ci := 1) (v := .ref (a 6)) (C := RX1) (T := TX1) (N := 11) hx hb hts inT_X1 hown hE.1 hP 0 rfl rfl 10 (by decide) (hts _ qf_X1_30) (fun _ h9 => h9) rfl dX1_addSeen_30 ?_
    refine lv_aload_n hx hb dX1_addSeen_33 rfl (lv_at hl 0 rfl) ?_
    refine va_get (D := D) (ci := 1) (v := .int (zI ((v : Nat) : Int))) (C := RX1) (T := TX1) (N := 11) hx hb hts inT_X1 hown hE.1 hP 0 rfl rfl 3 (by decide) (hts _ qf_X1_43) (fun _ h9 => h9) rfl dX1_addSeen_34 ?_
    refine lv_iload_n hx hb dX1_addSeen_37 rfl (lv_at hl 3 rfl) ?_
    refine z_iast hx hb hE hP hD hS 3 rfl v (by omega) (by omega) (by first | decide | omega) (zup g6 v x2) rfl dX1_addSeen_38 (fun H locs hP hD hS => ?_)
    have hP : va_P D cls [cT t a ((n : Nat) : Int) ((k : Nat) : Int) ((d : Nat) : Int) ((v : Nat) : Int), cR cI (a 4) 6 (zup g4 v x0), cR cI (a 5) 6 (zup g5 v x1), cR cI (a 6) 6 (zup g6 v x2)] H := hP
    have hD : va_D (va_A [cT t a ((n : Nat) : Int) ((k : Nat) : Int) ((d : Nat) : Int) ((v : Nat) : Int), cR cI (a 4) 6 g4, cR cI (a 5) 6 g5, cR cI (a 6) 6 g6] sz) [cT t a ((n : Nat) : Int) ((k : Nat) : Int) ((d : Nat) : Int) ((v : Nat) : Int), cR cI (a 4) 6 (zup g4 v x0), cR cI (a 5) 6 (zup g5 v x1), cR cI (a 6) 6 (zup g6 v x2)] := hD
    refine lv_aload_n hx hb dX1_addSeen_39 rfl (lv_at hl 0 rfl) ?_
    refine lv_dup hx hb dX1_addSeen_40 rfl ?_
    refine va_get (D := D) (ci := 1) (v := .int (zI ((v : Nat) : Int))) (C := RX1) (T := TX1) (N := 11) hx hb hts inT_X1 hown hE.1 hP 0 rfl rfl 3 (by decide) (hts _ qf_X1_43) (fun _ h9 => h9) rfl dX1_addSeen_41 ?_
    refine lv_iconst (v := zI 1) hx hb dX1_addSeen_44 rfl ?_
    refine z_iadd hx hb (((v + 1) : Nat) : Int) (by omega) dX1_addSeen_45 ?_
    refine va_put (D := D) (ci := 1) (v := .int (zI (((v + 1) : Nat) : Int))) (ty := .int) (C := RX1) (T := TX1) (N := 11) hx hb hts inT_X1 tyX1 tyX1_ok nmX1 hown hE.1 hP hD hS 0 rfl rfl 3 (by decide) (hts _ qf_X1_43) (fun _ h9 => h9) rfl (by decide +kernel) rfl rfl (Nat.le_of_ble_eq_true rfl) dX1_addSeen_46 (fun H locs hP hD hS => ?_)
    have hP : va_P D cls [cT t a ((n : Nat) : Int) ((k : Nat) : Int) ((d : Nat) : Int) (((v + 1) : Nat) : Int), cR cI (a 4) 6 (zup g4 v x0), cR cI (a 5) 6 (zup g5 v x1), cR cI (a 6) 6 (zup g6 v x2)] H := hP
    have hD : va_D (va_A [cT t a ((n : Nat) : Int) ((k : Nat) : Int) ((d : Nat) : Int) ((v : Nat) : Int), cR cI (a 4) 6 g4, cR cI (a 5) 6 g5, cR cI (a 6) 6 g6] sz) [cT t a ((n : Nat) : Int) ((k : Nat) : Int) ((d : Nat) : Int) (((v + 1) : Nat) : Int), cR cI (a 4) 6 (zup g4 v x0), cR cI (a 5) 6 (zup g5 v x1), cR cI (a 6) 6 (zup g6 v x2)] := hD
    rw [← hQf]
    exact z_vret K hS () trivial hP hD dX1_addSeen_49
set_option maxHeartbeats 4000000 in
set_option maxRecDepth 100000 in
theorem c_X1_agreesWithSeen (l : Launch) (D : va_G) (cI : ClassId) (t : Nat) (a : Nat → Nat) (n k d v : Nat) (g0 g4 g5 g6 : Nat → Int) (κ ss sf st : Nat → Nat) (j0 : Nat) (nm : Nat) (hn : 2 ≤ n ∧ n ≤ 12) (hk : k ≤ 6) (hj0 : j0 < k) (hv : v ≤ 6) (hg0 : ∀ j, j < k → g0 j = ((κ j : Nat) : Int)) (hκ : ∀ j, j < k → κ j ≤ 4) (hg4 : ∀ j, j < v → g4 j = ((ss j : Nat) : Int)) (hg5 : ∀ j, j < v → g5 j = ((sf j : Nat) : Int)) (hg6 : ∀ j, j < v → g6 j = ((st j : Nat) : Int)) (hss : ∀ j, j < v → ss j < k) (hsf : ∀ j, j < v → sf j < n) (hst : ∀ j, j < v → st j < n) (hnm0 : nm ≤ 9) : zMi l yX1_agreesWithSeen cX1_agreesWithSeen 4 (some .boolean) ({ frames := 3, cells := 0, slots := 0, locals := 74 }) D cI [.ref t, .int (zI ((j0 : Nat) : Int)), .int (zI ((nm : Nat) : Int))] [cT t a ((n : Nat) : Int) ((k : Nat) : Int) ((d : Nat) : Int) ((v : Nat) : Int), cR cI (a 0) 6 g0, cR cI (a 4) 6 g4, cR cI (a 5) 6 g5, cR cI (a 6) 6 g6] (fun (z : Int) (u : Unit) => z = (b01 (agB n (κ j0) nm ss sf st j0 v = true))) (fun (u : Unit) => [cT t a ((n : Nat) : Int) ((k : Nat) : Int) ((d : Nat) : Int) ((v : Nat) : Int), cR cI (a 0) 6 g0, cR cI (a 4) 6 g4, cR cI (a 5) 6 g5, cR cI (a 6) 6 g6]) := by
  intro sz
  refine zstart rfl (by decide) (Nat.le_of_ble_eq_true rfl) ?_
  intro p e s m below meth c ls K hnm hsz hP hD hS hl
  generalize hargs : ([.ref t, .int (zI ((j0 : Nat) : Int)), .int (zI ((nm : Nat) : Int))] : List Value).toArray = args at K ⊢
  generalize hQf : MQ below _ args s _ _ _ = Qf
  have K : zK p s m args meth c cX1_agreesWithSeen 4 RX1 (some .boolean) D cI := K
  obtain ⟨hx, hb, hml, hown, hts, hE, -, -⟩ := id K
  have hA := zhA (ws0 := [cT t a ((n : Nat) : Int) ((k : Nat) : Int) ((d : Nat) : Int) ((v : Nat) : Int), cR cI (a 0) 6 g0, cR cI (a 4) 6 g4, cR cI (a 5) 6 g5, cR cI (a 6) 6 g6]) hsz
  have hl : lv_has ls 4 [(0, .ref t), (1, .int (zI ((j0 : Nat) : Int))), (2, .int (zI ((nm : Nat) : Int)))] := hl
  refine lv_iconst (v := zI 0) hx hb dX1_agreesWithSeen_0 rfl ?_
  refine lv_istore_n (lv' := [(3, .int (zI 0)), (0, .ref t), (1, .int (zI ((j0 : Nat) : Int))), (2, .int (zI ((nm : Nat) : Int)))]) hx hb dX1_agreesWithSeen_1 rfl hl (by decide) rfl (fun ls hl => ?_)
  have cut_2 : ∀ (N_2 : Nat), ∀ (i : Nat), v - i < N_2 → (i ≤ v) → (agB n (κ j0) nm ss sf st j0 i = true) → ∀ (H : Heap) (locs : List Loc) (ls : Array Slot), va_P D cls [cT t a ((n : Nat) : Int) ((k : Nat) : Int) ((d : Nat) : Int) ((v : Nat) : Int), cR cI (a 0) 6 g0, cR cI (a 4) 6 g4, cR cI (a 5) 6 g5, cR cI (a 6) 6 g6] H → va_D (va_A [cT t a ((n : Nat) : Int) ((k : Nat) : Int) ((d : Nat) : Int) ((v : Nat) : Int), cR cI (a 0) 6 g0, cR cI (a 4) 6 g4, cR cI (a 5) 6 g5, cR cI (a 6) 6 g6] sz) [cT t a ((n : Nat) : Int) ((k : Nat) : Int) ((d : Nat) : Int) ((v : Nat) : Int), cR cI (a 0) 6 g0, cR cI (a 4) 6 g4, cR cI (a 5) 6 g5, cR cI (a 6) 6 g6] → va_S (va_A [cT t a ((n : Nat) : Int) ((k : Nat) : Int) ((d : Nat) : Int) ((v : Nat) : Int), cR cI (a 0) 6 g0, cR cI (a 4) 6 g4, cR cI (a 5) 6 g5, cR cI (a 6) 6 g6] sz) s.heap H locs → lv_has ls 4 [(0, .ref t), (1, .int (zI ((j0 : Nat) : Int))), (2, .int (zI ((nm : Nat) : Int))), (3, .int (zI ((i : Nat) : Int)))] → W p l e ({ frames := 3, cells := 0, slots := 0, locals := 74 }) s m args below meth c H locs 0 0 Qf (F0 m 2 ls []) := by
    intro N_2
    induction N_2 with
    | zero => intro i hm_2; exact absurd hm_2 (Nat.not_lt_zero _)
    | succ N_2 ih_2 =>
      intro i hm_2 hi hag H locs ls hP hD hS hl
      refine lv_iload_n hx hb dX1_agreesWithSeen_2 rfl (lv_at hl 3 rfl) ?_
      refine lv_aload_n hx hb dX1_agreesWithSeen_3 rfl (lv_at hl 0 rfl) ?_
      refine va_get (D := D) (ci := 1) (v := .int (zI ((v : Nat) : Int))) (C := RX1) (T := TX1) (N := 11) hx hb hts inT_X1 hown hE.1 hP 0 rfl rfl 3 (by decide) (hts _ qf_X1_43) (fun _ h9 => h9) rfl dX1_agreesWithSeen_4 ?_
      refine z_icmp_ge (tgt := 57) hx hb (by omega) dX1_agreesWithSeen_7 (by decide) (fun c_7 => ?_) (fun c_7 => ?_)
      · refine lv_iconst (v := zI 1) hx hb dX1_agreesWithSeen_57 rfl ?_
        rw [← hQf]
        exact z_bret K hS () (by exact (b01_t (by rw [← hag, show i = v by omega])).symm) (by omega) hP hD dX1_agreesWithSeen_58
      · refine lv_aload_n hx hb dX1_agreesWithSeen_10 rfl (lv_at hl 0 rfl) ?_
        refine va_get (D := D) (ci := 1) (v := .ref (a 4)) (C := RX1) (T := TX1) (N := 11) hx hb hts inT_X1 hown hE.1 hP 0 rfl rfl 8 (by decide) (hts _ qf_X1_24) (fun _ h9 => h9) rfl dX1_agreesWithSeen_11 ?_
        refine lv_iload_n hx hb dX1_agreesWithSeen_14 rfl (lv_at hl 3 rfl) ?_
        have h1 := hss i (by omega)
        have h2 := hsf i (by omega)
        have h3 := hst i (by omega)
        have h4 := hκ j0 hj0
        refine z_iald hx hb hE hP 2 rfl i (by omega) (by omega) (by first | decide | omega) ((ss i : Nat) : Int) (hg4 i (by omega)) dX1_agreesWithSeen_15 ?_
        refine lv_iload_n hx hb dX1_agreesWithSeen_16 rfl (lv_at hl 1 rfl) ?_
        refine z_icmp_ne (tgt := 51) hx hb (by omega) dX1_agreesWithSeen_17 (by decide) (fun c_17 => ?_) (fun c_17 => ?_)
        · have hag1 : agB n (κ j0) nm ss sf st j0 (i + 1) = true := agB_t hag (Or.inl (by omega))
          refine z_iinc (k := 3) (lv' := [(3, .int (zI (((i + 1) : Nat) : Int))), (0, .ref t), (1, .int (zI ((j0 : Nat) : Int))), (2, .int (zI ((nm : Nat) : Int)))]) hx hb (((i + 1) : Nat) : Int) (by omega) dX1_agreesWithSeen_51 hl rfl (by decide) rfl (fun ls hl => ?_)
          refine lv_goto (tgt := 2) hx hb dX1_agreesWithSeen_54 (by decide) ?_
          exact ih_2 (i + 1) (by omega) (by omega) (by first | exact hag1 | exact hag2) _ _ _ hP hD hS (lv_sub hl [1, 2, 3, 0] rfl)
        · refine lv_aload_n hx hb dX1_agreesWithSeen_20 rfl (lv_at hl 0 rfl) ?_
          refine va_get (D := D) (ci := 1) (v := .ref (a 0)) (C := RX1) (T := TX1) (N := 11) hx hb hts inT_X1 hown hE.1 hP 0 rfl rfl 4 (by decide) (hts _ qf_X1_9) (fun _ h9 => h9) rfl dX1_agreesWithSeen_21 ?_
          refine lv_iload_n hx hb dX1_agreesWithSeen_24 rfl (lv_at hl 1 rfl) ?_
          refine z_iald hx hb hE hP 1 rfl j0 (by omega) (by omega) (by first | decide | omega) ((κ j0 : Nat) : Int) (hg0 j0 hj0) dX1_agreesWithSeen_25 ?_
          refine lv_iload_n hx hb dX1_agreesWithSeen_26 rfl (lv_at hl 2 rfl) ?_
          refine lv_aload_n hx hb dX1_agreesWithSeen_27 rfl (lv_at hl 0 rfl) ?_
          refine va_get (D := D) (ci := 1) (v := .int (zI ((n : Nat) : Int))) (C := RX1) (T := TX1) (N := 11) hx hb hts inT_X1 hown hE.1 hP 0 rfl rfl 0 (by decide) (hts _ qf_X1_33) (fun _ h9 => h9) rfl dX1_agreesWithSeen_28 ?_
          refine lv_aload_n hx hb dX1_agreesWithSeen_31 rfl (lv_at hl 0 rfl) ?_
          refine va_get (D := D) (ci := 1) (v := .ref (a 5)) (C := RX1) (T := TX1) (N := 11) hx hb hts inT_X1 hown hE.1 hP 0 rfl rfl 9 (by decide) (hts _ qf_X1_27) (fun _ h9 => h9) rfl dX1_agreesWithSeen_32 ?_
          refine lv_iload_n hx hb dX1_agreesWithSeen_35 rfl (lv_at hl 3 rfl) ?_
          refine z_iald hx hb hE hP 3 rfl i (by omega) (by omega) (by first | decide | omega) ((sf i : Nat) : Int) (hg5 i (by omega)) dX1_agreesWithSeen_36 ?_
          refine zcall_i (wc := []) (wr := [cT t a ((n : Nat) : Int) ((k : Nat) : Int) ((d : Nat) : Int) ((v : Nat) : Int), cR cI (a 0) 6 g0, cR cI (a 4) 6 g4, cR cI (a 5) 6 g5, cR cI (a 6) 6 g6]) (rest := []) hE hP hD hS hA [] [0, 1, 2, 3, 4] [0, 1, 2, 3, 4] rfl rfl (by decide) (by decide) (by decide) (fun (u : Unit) => [cT t a ((n : Nat) : Int) ((k : Nat) : Int) ((d : Nat) : Int) ((v : Nat) : Int), cR cI (a 0) 6 g0, cR cI (a 4) 6 g4, cR cI (a 5) 6 g5, cR cI (a 6) 6 g6]) (fun u => rfl) (fun hPc hDc => zrunSN (As := [.int (zI ((κ j0 : Nat) : Int)), .int (zI ((nm : Nat) : Int)), .int (zI ((n : Nat) : Int)), .int (zI ((sf i : Nat) : Int))]) (rest := []) K k_X3_moved nk_X1_55 ⟨⟨rfl, rfl⟩, ⟨Nat.le_of_ble_eq_true rfl, Nat.le_of_ble_eq_true rfl⟩⟩ hPc hDc (c_X3_moved l D cI (κ j0) nm n (sf i) (by first | assumption | omega) (by first | assumption | omega) (by first | assumption | omega) (by first | assumption | omega) _) rfl hl.1 rfl (Nat.le_of_ble_eq_true rfl) dX1_agreesWithSeen_37 ⟨Nat.zero_le _, Nat.zero_le _⟩) (by decide) (fun z u H locs hpost hP hD hS => ?_)
          subst hpost
          have hP : va_P D cls [cT t a ((n : Nat) : Int) ((k : Nat) : Int) ((d : Nat) : Int) ((v : Nat) : Int), cR cI (a 0) 6 g0, cR cI (a 4) 6 g4, cR cI (a 5) 6 g5, cR cI (a 6) 6 g6] H := hP
          have hD : va_D (va_A [cT t a ((n : Nat) : Int) ((k : Nat) : Int) ((d : Nat) : Int) ((v : Nat) : Int), cR cI (a 0) 6 g0, cR cI (a 4) 6 g4, cR cI (a 5) 6 g5, cR cI (a 6) 6 g6] sz) [cT t a ((n : Nat) : Int) ((k : Nat) : Int) ((d : Nat) : Int) ((v : Nat) : Int), cR cI (a 0) 6 g0, cR cI (a 4) 6 g4, cR cI (a 5) 6 g5, cR cI (a 6) 6 g6] := hD
          refine W.eq (g2 := F0 m 40 ls [.int (zI (((mv n (κ j0) nm (sf i)) : Nat) : Int))]) rfl ?_
          refine lv_aload_n hx hb dX1_agreesWithSeen_40 rfl (lv_at hl 0 rfl) ?_
          refine va_get (D := D) (ci := 1) (v := .ref (a 6)) (C := RX1) (T := TX1) (N := 11) hx hb hts inT_X1 hown hE.1 hP 0 rfl rfl 10 (by decide) (hts _ qf_X1_30) (fun _ h9 => h9) rfl dX1_agreesWithSeen_41 ?_
          refine lv_iload_n hx hb dX1_agreesWithSeen_44 rfl (lv_at hl 3 rfl) ?_
          have h5 := mv_lt (n := n) (kd := κ j0) (nm := nm) (p := sf i) hn.2 h4 hnm0 h2
          refine z_iald hx hb hE hP 4 rfl i (by omega) (by omega) (by first | decide | omega) ((st i : Nat) : Int) (hg6 i (by omega)) dX1_agreesWithSeen_45 ?_
          refine z_icmp_eq (tgt := 51) hx hb (by omega) dX1_agreesWithSeen_46 (by decide) (fun c_46 => ?_) (fun c_46 => ?_)
          · have hag2 : agB n (κ j0) nm ss sf st j0 (i + 1) = true := agB_t hag (Or.inr (by omega))
            refine z_iinc (k := 3) (lv' := [(3, .int (zI (((i + 1) : Nat) : Int))), (0, .ref t), (1, .int (zI ((j0 : Nat) : Int))), (2, .int (zI ((nm : Nat) : Int)))]) hx hb (((i + 1) : Nat) : Int) (by omega) dX1_agreesWithSeen_51 hl rfl (by decide) rfl (fun ls hl => ?_)
            refine lv_goto (tgt := 2) hx hb dX1_agreesWithSeen_54 (by decide) ?_
            exact ih_2 (i + 1) (by omega) (by omega) (by first | exact hag1 | exact hag2) _ _ _ hP hD hS (lv_sub hl [1, 2, 3, 0] rfl)
          · refine lv_iconst (v := zI 0) hx hb dX1_agreesWithSeen_49 rfl ?_
            rw [← hQf]
            exact z_bret K hS () (by exact (b01_f (by rw [agB_f (i := i) (by omega) (by omega) v (by omega)]; decide)).symm) (by omega) hP hD dX1_agreesWithSeen_50
  exact cut_2 (v - 0 + 1) 0 (Nat.lt_succ_self _) (by omega) (by rfl) _ _ _ hP hD hS (lv_sub hl [1, 2, 3, 0] rfl)
set_option maxHeartbeats 4000000 in
set_option maxRecDepth 100000 in
theorem c_X1_possibleNumbers (l : Launch) (D : va_G) (cI : ClassId) (t : Nat) (a : Nat → Nat) (n k d v : Nat) (g0 g4 g5 g6 : Nat → Int) (κ ss sf st : Nat → Nat) (j0 : Nat) (hn : 2 ≤ n ∧ n ≤ 12) (hk : k ≤ 6) (hj0 : j0 < k) (hv : v ≤ 6) (hg0 : ∀ j, j < k → g0 j = ((κ j : Nat) : Int)) (hκ : ∀ j, j < k → κ j ≤ 4) (hg4 : ∀ j, j < v → g4 j = ((ss j : Nat) : Int)) (hg5 : ∀ j, j < v → g5 j = ((sf j : Nat) : Int)) (hg6 : ∀ j, j < v → g6 j = ((st j : Nat) : Int)) (hss : ∀ j, j < v → ss j < k) (hsf : ∀ j, j < v → sf j < n) (hst : ∀ j, j < v → st j < n) : zMi l yX1_possibleNumbers cX1_possibleNumbers 4 (some .int) ({ frames := 4, cells := 0, slots := 0, locals := 97 }) D cI [.ref t, .int (zI ((j0 : Nat) : Int))] [cT t a ((n : Nat) : Int) ((k : Nat) : Int) ((d : Nat) : Int) ((v : Nat) : Int), cR cI (a 0) 6 g0, cR cI (a 4) 6 g4, cR cI (a 5) 6 g5, cR cI (a 6) 6 g6] (fun (z : Int) (u : Unit) => z = (((btN (fun nm => agB n (κ j0) nm ss sf st j0 v) 10) : Nat) : Int)) (fun (u : Unit) => [cT t a ((n : Nat) : Int) ((k : Nat) : Int) ((d : Nat) : Int) ((v : Nat) : Int), cR cI (a 0) 6 g0, cR cI (a 4) 6 g4, cR cI (a 5) 6 g5, cR cI (a 6) 6 g6]) := by
  intro sz
  refine zstart rfl (by decide) (Nat.le_of_ble_eq_true rfl) ?_
  intro p e s m below meth c ls K hnm hsz hP hD hS hl
  generalize hargs : ([.ref t, .int (zI ((j0 : Nat) : Int))] : List Value).toArray = args at K ⊢
  generalize hQf : MQ below _ args s _ _ _ = Qf
  have K : zK p s m args meth c cX1_possibleNumbers 4 RX1 (some .int) D cI := K
  obtain ⟨hx, hb, hml, hown, hts, hE, -, -⟩ := id K
  have hA := zhA (ws0 := [cT t a ((n : Nat) : Int) ((k : Nat) : Int) ((d : Nat) : Int) ((v : Nat) : Int), cR cI (a 0) 6 g0, cR cI (a 4) 6 g4, cR cI (a 5) 6 g5, cR cI (a 6) 6 g6]) hsz
  have hl : lv_has ls 4 [(0, .ref t), (1, .int (zI ((j0 : Nat) : Int)))] := hl
  refine lv_iconst (v := zI 0) hx hb dX1_possibleNumbers_0 rfl ?_
  refine lv_istore_n (lv' := [(2, .int (zI 0)), (0, .ref t), (1, .int (zI ((j0 : Nat) : Int)))]) hx hb dX1_possibleNumbers_1 rfl hl (by decide) rfl (fun ls hl => ?_)
  refine lv_iconst (v := zI 0) hx hb dX1_possibleNumbers_2 rfl ?_
  refine lv_istore_n (lv' := [(3, .int (zI 0)), (2, .int (zI 0)), (0, .ref t), (1, .int (zI ((j0 : Nat) : Int)))]) hx hb dX1_possibleNumbers_3 rfl hl (by decide) rfl (fun ls hl => ?_)
  have cut_4 : ∀ (N_4 : Nat), ∀ (i y : Nat), 10 - i < N_4 → (i ≤ 10) → (y = btN (fun nm => agB n (κ j0) nm ss sf st j0 v) i) → ∀ (H : Heap) (locs : List Loc) (ls : Array Slot), va_P D cls [cT t a ((n : Nat) : Int) ((k : Nat) : Int) ((d : Nat) : Int) ((v : Nat) : Int), cR cI (a 0) 6 g0, cR cI (a 4) 6 g4, cR cI (a 5) 6 g5, cR cI (a 6) 6 g6] H → va_D (va_A [cT t a ((n : Nat) : Int) ((k : Nat) : Int) ((d : Nat) : Int) ((v : Nat) : Int), cR cI (a 0) 6 g0, cR cI (a 4) 6 g4, cR cI (a 5) 6 g5, cR cI (a 6) 6 g6] sz) [cT t a ((n : Nat) : Int) ((k : Nat) : Int) ((d : Nat) : Int) ((v : Nat) : Int), cR cI (a 0) 6 g0, cR cI (a 4) 6 g4, cR cI (a 5) 6 g5, cR cI (a 6) 6 g6] → va_S (va_A [cT t a ((n : Nat) : Int) ((k : Nat) : Int) ((d : Nat) : Int) ((v : Nat) : Int), cR cI (a 0) 6 g0, cR cI (a 4) 6 g4, cR cI (a 5) 6 g5, cR cI (a 6) 6 g6] sz) s.heap H locs → lv_has ls 4 [(0, .ref t), (1, .int (zI ((j0 : Nat) : Int))), (2, .int (zI ((y : Nat) : Int))), (3, .int (zI ((i : Nat) : Int)))] → W p l e ({ frames := 4, cells := 0, slots := 0, locals := 97 }) s m args below meth c H locs 0 0 Qf (F0 m 4 ls []) := by
    intro N_4
    induction N_4 with
    | zero => intro i y hm_4; exact absurd hm_4 (Nat.not_lt_zero _)
    | succ N_4 ih_4 =>
      intro i y hm_4 hi hy H locs ls hP hD hS hl
      refine lv_iload_n hx hb dX1_possibleNumbers_4 rfl (lv_at hl 3 rfl) ?_
      refine lv_bipush (v := zI 10) hx hb dX1_possibleNumbers_5 (by decide) ?_
      refine z_icmp_ge (tgt := 31) hx hb (by omega) dX1_possibleNumbers_7 (by decide) (fun c_7 => ?_) (fun c_7 => ?_)
      · refine lv_iload_n hx hb dX1_possibleNumbers_31 rfl (lv_at hl 2 rfl) ?_
        rw [← hQf]
        exact z_iret K hS () (by rw [hy, show i = 10 by omega]) hP hD dX1_possibleNumbers_32
      · refine lv_aload_n hx hb dX1_possibleNumbers_10 rfl (lv_at hl 0 rfl) ?_
        refine lv_iload_n hx hb dX1_possibleNumbers_11 rfl (lv_at hl 1 rfl) ?_
        refine lv_iload_n hx hb dX1_possibleNumbers_12 rfl (lv_at hl 3 rfl) ?_
        refine zcall_i (wc := [cT t a ((n : Nat) : Int) ((k : Nat) : Int) ((d : Nat) : Int) ((v : Nat) : Int), cR cI (a 0) 6 g0, cR cI (a 4) 6 g4, cR cI (a 5) 6 g5, cR cI (a 6) 6 g6]) (wr := []) (rest := []) hE hP hD hS hA [0, 1, 2, 3, 4] [] [0, 1, 2, 3, 4] rfl rfl (by decide) (by decide) (by decide) (fun (u : Unit) => [cT t a ((n : Nat) : Int) ((k : Nat) : Int) ((d : Nat) : Int) ((v : Nat) : Int), cR cI (a 0) 6 g0, cR cI (a 4) 6 g4, cR cI (a 5) 6 g5, cR cI (a 6) 6 g6]) (fun u => rfl) (fun hPc hDc => zrunV (As := [.int (zI ((j0 : Nat) : Int)), .int (zI ((i : Nat) : Int))]) (rest := []) (q0 := 0) (ci := 1) K k_X1_agreesWithSeen qm_X1_64 ⟨⟨rfl, rfl⟩, ⟨Nat.le_of_ble_eq_true rfl, Nat.le_of_ble_eq_true rfl⟩⟩ rfl rfl hPc hDc (c_X1_agreesWithSeen l D cI t a n k d v g0 g4 g5 g6 κ ss sf st j0 i (by first | assumption | omega) (by first | assumption | omega) (by first | assumption | omega) (by first | assumption | omega) (by first | assumption | omega) (by first | assumption | omega) (by first | assumption | omega) (by first | assumption | omega) (by first | assumption | omega) (by first | assumption | omega) (by first | assumption | omega) (by first | assumption | omega) (by first | assumption | omega) _) rfl hl.1 rfl (Nat.le_of_ble_eq_true rfl) dX1_possibleNumbers_13 ⟨Nat.zero_le _, Nat.zero_le _⟩) (by decide) (fun z u H locs hpost hP hD hS => ?_)
        subst hpost
        have hP : va_P D cls [cT t a ((n : Nat) : Int) ((k : Nat) : Int) ((d : Nat) : Int) ((v : Nat) : Int), cR cI (a 0) 6 g0, cR cI (a 4) 6 g4, cR cI (a 5) 6 g5, cR cI (a 6) 6 g6] H := hP
        have hD : va_D (va_A [cT t a ((n : Nat) : Int) ((k : Nat) : Int) ((d : Nat) : Int) ((v : Nat) : Int), cR cI (a 0) 6 g0, cR cI (a 4) 6 g4, cR cI (a 5) 6 g5, cR cI (a 6) 6 g6] sz) [cT t a ((n : Nat) : Int) ((k : Nat) : Int) ((d : Nat) : Int) ((v : Nat) : Int), cR cI (a 0) 6 g0, cR cI (a 4) 6 g4, cR cI (a 5) 6 g5, cR cI (a 6) 6 g6] := hD
        refine W.eq (g2 := F0 m 16 ls [.int (zI (b01 (agB n (κ j0) i ss sf st j0 v = true)))]) rfl ?_
        refine z_if_eq (tgt := 25) hx hb (by have := b01_r (agB n (κ j0) i ss sf st j0 v = true); omega) dX1_possibleNumbers_16 (by decide) (fun c_16 => ?_) (fun c_16 => ?_)
        · have hy2 : y = btN (fun nm => agB n (κ j0) nm ss sf st j0 v) (i + 1) := by rw [btN_f (by simpa using b01_eq c_16)]; exact hy
          refine z_iinc (k := 3) (lv' := [(3, .int (zI (((i + 1) : Nat) : Int))), (0, .ref t), (1, .int (zI ((j0 : Nat) : Int))), (2, .int (zI ((y : Nat) : Int)))]) hx hb (((i + 1) : Nat) : Int) (by omega) dX1_possibleNumbers_25 hl rfl (by decide) rfl (fun ls hl => ?_)
          refine lv_goto (tgt := 4) hx hb dX1_possibleNumbers_28 (by decide) ?_
          exact ih_4 (i + 1) y (by omega) (by omega) (by first | exact hy1 | exact hy2) _ _ _ hP hD hS (lv_sub hl [1, 2, 3, 0] rfl)
        · have hy1 : y + 2 ^ i = btN (fun nm => agB n (κ j0) nm ss sf st j0 v) (i + 1) := by rw [btN_t (by simpa using b01_ne c_16)]; omega
          refine lv_iload_n hx hb dX1_possibleNumbers_19 rfl (lv_at hl 2 rfl) ?_
          refine lv_iconst (v := zI 1) hx hb dX1_possibleNumbers_20 rfl ?_
          refine lv_iload_n hx hb dX1_possibleNumbers_21 rfl (lv_at hl 3 rfl) ?_
          refine z_ishl hx hb ((2 ^ i : Nat) : Int) (by exact z_shl1 i (by omega)) dX1_possibleNumbers_22 ?_
          refine z_ior hx hb (((y + 2 ^ i) : Nat) : Int) (by exact z_orb (by rw [hy]; exact btN_lt _ _)) dX1_possibleNumbers_23 ?_
          refine lv_istore_n (lv' := [(2, .int (zI (((y + 2 ^ i) : Nat) : Int))), (0, .ref t), (1, .int (zI ((j0 : Nat) : Int))), (3, .int (zI ((i : Nat) : Int)))]) hx hb dX1_possibleNumbers_24 rfl hl (by decide) rfl (fun ls hl => ?_)
          refine z_iinc (k := 3) (lv' := [(3, .int (zI (((i + 1) : Nat) : Int))), (2, .int (zI (((y + 2 ^ i) : Nat) : Int))), (0, .ref t), (1, .int (zI ((j0 : Nat) : Int)))]) hx hb (((i + 1) : Nat) : Int) (by omega) dX1_possibleNumbers_25 hl rfl (by decide) rfl (fun ls hl => ?_)
          refine lv_goto (tgt := 4) hx hb dX1_possibleNumbers_28 (by decide) ?_
          exact ih_4 (i + 1) (y + 2 ^ i) (by omega) (by omega) (by first | exact hy1 | exact hy2) _ _ _ hP hD hS (lv_sub hl [2, 3, 1, 0] rfl)
  exact cut_4 (10 - 0 + 1) 0 0 (Nat.lt_succ_self _) (by omega) (by rfl) _ _ _ hP hD hS (lv_sub hl [2, 3, 1, 0] rfl)
set_option maxHeartbeats 4000000 in
set_option maxRecDepth 100000 in
theorem c_X1_setStep (l : Launch) (D : va_G) (cI : ClassId) (t : Nat) (a : Nat → Nat) (n k d v : Nat) (g0 g1 g2 : Nat → Int) (j0 kd nm : Nat) (hn : 2 ≤ n ∧ n ≤ 12) (hj0 : j0 < 6) (hkd : kd ≤ 4) (hnm0 : nm ≤ 9) : zMv l yX1_setStep cX1_setStep 5 none ({ frames := 3, cells := 0, slots := 0, locals := 74 }) D cI [.ref t, .int (zI ((j0 : Nat) : Int)), .int (zI ((kd : Nat) : Int)), .int (zI ((nm : Nat) : Int))] [cT t a ((n : Nat) : Int) ((k : Nat) : Int) ((d : Nat) : Int) ((v : Nat) : Int), cR cI (a 0) 6 g0, cR cI (a 1) 6 g1, cR cI (a 2) 72 g2] (fun (u : (Nat → Int)) => (∀ j, j < n → u (j0 * 12 + j) = ((mv n kd nm j : Nat) : Int)) ∧ (∀ j, (j < j0 * 12 ∨ j0 * 12 + n ≤ j) → u j = g2 j)) (fun (u : (Nat → Int)) => [cT t a ((n : Nat) : Int) ((k : Nat) : Int) ((d : Nat) : Int) ((v : Nat) : Int), cR cI (a 0) 6 (zup g0 j0 ((kd : Nat) : Int)), cR cI (a 1) 6 (zup g1 j0 ((nm : Nat) : Int)), cR cI (a 2) 72 u]) := by
  intro sz
  refine zstart rfl (by decide) (Nat.le_of_ble_eq_true rfl) ?_
  intro p e s m below meth c ls K hnm hsz hP hD hS hl
  generalize hargs : ([.ref t, .int (zI ((j0 : Nat) : Int)), .int (zI ((kd : Nat) : Int)), .int (zI ((nm : Nat) : Int))] : List Value).toArray = args at K ⊢
  generalize hQf : MQ below _ args s _ _ _ = Qf
  have K : zK p s m args meth c cX1_setStep 5 RX1 none D cI := K
  obtain ⟨hx, hb, hml, hown, hts, hE, -, -⟩ := id K
  have hA := zhA (ws0 := [cT t a ((n : Nat) : Int) ((k : Nat) : Int) ((d : Nat) : Int) ((v : Nat) : Int), cR cI (a 0) 6 g0, cR cI (a 1) 6 g1, cR cI (a 2) 72 g2]) hsz
  have hl : lv_has ls 5 [(0, .ref t), (1, .int (zI ((j0 : Nat) : Int))), (2, .int (zI ((kd : Nat) : Int))), (3, .int (zI ((nm : Nat) : Int)))] := hl
  refine lv_aload_n hx hb dX1_setStep_0 rfl (lv_at hl 0 rfl) ?_
  refine va_get (D := D) (ci := 1) (v := .ref (a 0)) (C := RX1) (T := TX1) (N := 11) hx hb hts inT_X1 hown hE.1 hP 0 rfl rfl 4 (by decide) (hts _ qf_X1_9) (fun _ h9 => h9) rfl dX1_setStep_1 ?_
  refine lv_iload_n hx hb dX1_setStep_4 rfl (lv_at hl 1 rfl) ?_
  refine lv_iload_n hx hb dX1_setStep_5 rfl (lv_at hl 2 rfl) ?_
  refine z_iast hx hb hE hP hD hS 1 rfl j0 (by omega) (by omega) (by first | decide | omega) (zup g0 j0 ((kd : Nat) : Int)) rfl dX1_setStep_6 (fun H locs hP hD hS => ?_)
  have hP : va_P D cls [cT t a ((n : Nat) : Int) ((k : Nat) : Int) ((d : Nat) : Int) ((v : Nat) : Int), cR cI (a 0) 6 (zup g0 j0 ((kd : Nat) : Int)), cR cI (a 1) 6 g1, cR cI (a 2) 72 g2] H := hP
  have hD : va_D (va_A [cT t a ((n : Nat) : Int) ((k : Nat) : Int) ((d : Nat) : Int) ((v : Nat) : Int), cR cI (a 0) 6 g0, cR cI (a 1) 6 g1, cR cI (a 2) 72 g2] sz) [cT t a ((n : Nat) : Int) ((k : Nat) : Int) ((d : Nat) : Int) ((v : Nat) : Int), cR cI (a 0) 6 (zup g0 j0 ((kd : Nat) : Int)), cR cI (a 1) 6 g1, cR cI (a 2) 72 g2] := hD
  refine lv_aload_n hx hb dX1_setStep_7 rfl (lv_at hl 0 rfl) ?_
  refine va_get (D := D) (ci := 1) (v := .ref (a 1)) (C := RX1) (T := TX1) (N := 11) hx hb hts inT_X1 hown hE.1 hP 0 rfl rfl 5 (by decide) (hts _ qf_X1_15) (fun _ h9 => h9) rfl dX1_setStep_8 ?_
  refine lv_iload_n hx hb dX1_setStep_11 rfl (lv_at hl 1 rfl) ?_
  refine lv_iload_n hx hb dX1_setStep_12 rfl (lv_at hl 3 rfl) ?_
  refine z_iast hx hb hE hP hD hS 2 rfl j0 (by omega) (by omega) (by first | decide | omega) (zup g1 j0 ((nm : Nat) : Int)) rfl dX1_setStep_13 (fun H locs hP hD hS => ?_)
  have hP : va_P D cls [cT t a ((n : Nat) : Int) ((k : Nat) : Int) ((d : Nat) : Int) ((v : Nat) : Int), cR cI (a 0) 6 (zup g0 j0 ((kd : Nat) : Int)), cR cI (a 1) 6 (zup g1 j0 ((nm : Nat) : Int)), cR cI (a 2) 72 g2] H := hP
  have hD : va_D (va_A [cT t a ((n : Nat) : Int) ((k : Nat) : Int) ((d : Nat) : Int) ((v : Nat) : Int), cR cI (a 0) 6 g0, cR cI (a 1) 6 g1, cR cI (a 2) 72 g2] sz) [cT t a ((n : Nat) : Int) ((k : Nat) : Int) ((d : Nat) : Int) ((v : Nat) : Int), cR cI (a 0) 6 (zup g0 j0 ((kd : Nat) : Int)), cR cI (a 1) 6 (zup g1 j0 ((nm : Nat) : Int)), cR cI (a 2) 72 g2] := hD
  refine lv_iconst (v := zI 0) hx hb dX1_setStep_14 rfl ?_
  refine lv_istore (lv' := [(4, .int (zI 0)), (0, .ref t), (1, .int (zI ((j0 : Nat) : Int))), (2, .int (zI ((kd : Nat) : Int))), (3, .int (zI ((nm : Nat) : Int)))]) hx hb dX1_setStep_15 hl (by decide) rfl (fun ls hl => ?_)
  have cut_17 : ∀ (N_17 : Nat), ∀ (i : Nat) (q2 : Nat → Int), n - i < N_17 → (i ≤ n) → (∀ j, j < i → q2 (j0 * 12 + j) = ((mv n kd nm j : Nat) : Int)) → (∀ j, (j < j0 * 12 ∨ j0 * 12 + n ≤ j) → q2 j = g2 j) → ∀ (H : Heap) (locs : List Loc) (ls : Array Slot), va_P D cls [cT t a ((n : Nat) : Int) ((k : Nat) : Int) ((d : Nat) : Int) ((v : Nat) : Int), cR cI (a 0) 6 (zup g0 j0 ((kd : Nat) : Int)), cR cI (a 1) 6 (zup g1 j0 ((nm : Nat) : Int)), cR cI (a 2) 72 q2] H → va_D (va_A [cT t a ((n : Nat) : Int) ((k : Nat) : Int) ((d : Nat) : Int) ((v : Nat) : Int), cR cI (a 0) 6 g0, cR cI (a 1) 6 g1, cR cI (a 2) 72 g2] sz) [cT t a ((n : Nat) : Int) ((k : Nat) : Int) ((d : Nat) : Int) ((v : Nat) : Int), cR cI (a 0) 6 (zup g0 j0 ((kd : Nat) : Int)), cR cI (a 1) 6 (zup g1 j0 ((nm : Nat) : Int)), cR cI (a 2) 72 q2] → va_S (va_A [cT t a ((n : Nat) : Int) ((k : Nat) : Int) ((d : Nat) : Int) ((v : Nat) : Int), cR cI (a 0) 6 g0, cR cI (a 1) 6 g1, cR cI (a 2) 72 g2] sz) s.heap H locs → lv_has ls 5 [(0, .ref t), (1, .int (zI ((j0 : Nat) : Int))), (2, .int (zI ((kd : Nat) : Int))), (3, .int (zI ((nm : Nat) : Int))), (4, .int (zI ((i : Nat) : Int)))] → W p l e ({ frames := 3, cells := 0, slots := 0, locals := 74 }) s m args below meth c H locs 0 0 Qf (F0 m 17 ls []) := by
    intro N_17
    induction N_17 with
    | zero => intro i q2 hm_17; exact absurd hm_17 (Nat.not_lt_zero _)
    | succ N_17 ih_17 =>
      intro i q2 hm_17 hi hq1 hq2 H locs ls hP hD hS hl
      refine lv_iload hx hb dX1_setStep_17 (lv_at hl 4 rfl) ?_
      refine lv_aload_n hx hb dX1_setStep_19 rfl (lv_at hl 0 rfl) ?_
      refine va_get (D := D) (ci := 1) (v := .int (zI ((n : Nat) : Int))) (C := RX1) (T := TX1) (N := 11) hx hb hts inT_X1 hown hE.1 hP 0 rfl rfl 0 (by decide) (hts _ qf_X1_33) (fun _ h9 => h9) rfl dX1_setStep_20 ?_
      refine z_icmp_ge (tgt := 55) hx hb (by omega) dX1_setStep_23 (by decide) (fun c_23 => ?_) (fun c_23 => ?_)
      · rw [← hQf]
        exact z_vret K hS (q2) ⟨(by intro j hj; exact hq1 j (by omega)), (by exact hq2)⟩ hP hD dX1_setStep_55
      · refine lv_aload_n hx hb dX1_setStep_26 rfl (lv_at hl 0 rfl) ?_
        refine va_get (D := D) (ci := 1) (v := .ref (a 2)) (C := RX1) (T := TX1) (N := 11) hx hb hts inT_X1 hown hE.1 hP 0 rfl rfl 6 (by decide) (hts _ qf_X1_18) (fun _ h9 => h9) rfl dX1_setStep_27 ?_
        refine lv_iload_n hx hb dX1_setStep_30 rfl (lv_at hl 1 rfl) ?_
        refine lv_bipush (v := zI 12) hx hb dX1_setStep_31 (by decide) ?_
        refine z_imul hx hb (((j0 * 12) : Nat) : Int) (by first | omega | exact (Int.natCast_mul _ _).symm) dX1_setStep_33 ?_
        refine lv_iload hx hb dX1_setStep_34 (lv_at hl 4 rfl) ?_
        refine z_iadd hx hb ((((j0 * 12) + i) : Nat) : Int) (by omega) dX1_setStep_36 ?_
        refine lv_iload_n hx hb dX1_setStep_37 rfl (lv_at hl 2 rfl) ?_
        refine lv_iload_n hx hb dX1_setStep_38 rfl (lv_at hl 3 rfl) ?_
        refine lv_aload_n hx hb dX1_setStep_39 rfl (lv_at hl 0 rfl) ?_
        refine va_get (D := D) (ci := 1) (v := .int (zI ((n : Nat) : Int))) (C := RX1) (T := TX1) (N := 11) hx hb hts inT_X1 hown hE.1 hP 0 rfl rfl 0 (by decide) (hts _ qf_X1_33) (fun _ h9 => h9) rfl dX1_setStep_40 ?_
        refine lv_iload hx hb dX1_setStep_43 (lv_at hl 4 rfl) ?_
        refine zcall_i (wc := []) (wr := [cT t a ((n : Nat) : Int) ((k : Nat) : Int) ((d : Nat) : Int) ((v : Nat) : Int), cR cI (a 0) 6 (zup g0 j0 ((kd : Nat) : Int)), cR cI (a 1) 6 (zup g1 j0 ((nm : Nat) : Int)), cR cI (a 2) 72 q2]) (rest := [.int (zI ((((j0 * 12) + i) : Nat) : Int)), .ref (a 2)]) hE hP hD hS hA [] [0, 1, 2, 3] [0, 1, 2, 3] rfl rfl (by decide) (by decide) (by decide) (fun (u : Unit) => [cT t a ((n : Nat) : Int) ((k : Nat) : Int) ((d : Nat) : Int) ((v : Nat) : Int), cR cI (a 0) 6 (zup g0 j0 ((kd : Nat) : Int)), cR cI (a 1) 6 (zup g1 j0 ((nm : Nat) : Int)), cR cI (a 2) 72 q2]) (fun u => rfl) (fun hPc hDc => zrunSN (As := [.int (zI ((kd : Nat) : Int)), .int (zI ((nm : Nat) : Int)), .int (zI ((n : Nat) : Int)), .int (zI ((i : Nat) : Int))]) (rest := [.int (zI ((((j0 * 12) + i) : Nat) : Int)), .ref (a 2)]) K k_X3_moved nk_X1_55 ⟨⟨rfl, rfl⟩, ⟨Nat.le_of_ble_eq_true rfl, Nat.le_of_ble_eq_true rfl⟩⟩ hPc hDc (c_X3_moved l D cI kd nm n i (by first | assumption | omega) (by first | assumption | omega) (by first | assumption | omega) (by first | assumption | omega) _) rfl hl.1 rfl (Nat.le_of_ble_eq_true rfl) dX1_setStep_45 ⟨Nat.zero_le _, Nat.zero_le _⟩) (by decide) (fun z u H locs hpost hP hD hS => ?_)
        subst hpost
        have hP : va_P D cls [cT t a ((n : Nat) : Int) ((k : Nat) : Int) ((d : Nat) : Int) ((v : Nat) : Int), cR cI (a 0) 6 (zup g0 j0 ((kd : Nat) : Int)), cR cI (a 1) 6 (zup g1 j0 ((nm : Nat) : Int)), cR cI (a 2) 72 q2] H := hP
        have hD : va_D (va_A [cT t a ((n : Nat) : Int) ((k : Nat) : Int) ((d : Nat) : Int) ((v : Nat) : Int), cR cI (a 0) 6 g0, cR cI (a 1) 6 g1, cR cI (a 2) 72 g2] sz) [cT t a ((n : Nat) : Int) ((k : Nat) : Int) ((d : Nat) : Int) ((v : Nat) : Int), cR cI (a 0) 6 (zup g0 j0 ((kd : Nat) : Int)), cR cI (a 1) 6 (zup g1 j0 ((nm : Nat) : Int)), cR cI (a 2) 72 q2] := hD
        refine W.eq (g2 := F0 m 48 ls [.int (zI (((mv n kd nm i) : Nat) : Int)), .int (zI ((((j0 * 12) + i) : Nat) : Int)), .ref (a 2)]) rfl ?_
        refine z_iast hx hb hE hP hD hS 3 rfl ((j0 * 12) + i) (by omega) (by omega) (by first | decide | omega) (zup q2 ((j0 * 12) + i) (((mv n kd nm i) : Nat) : Int)) rfl dX1_setStep_48 (fun H locs hP hD hS => ?_)
        have hP : va_P D cls [cT t a ((n : Nat) : Int) ((k : Nat) : Int) ((d : Nat) : Int) ((v : Nat) : Int), cR cI (a 0) 6 (zup g0 j0 ((kd : Nat) : Int)), cR cI (a 1) 6 (zup g1 j0 ((nm : Nat) : Int)), cR cI (a 2) 72 (zup q2 ((j0 * 12) + i) (((mv n kd nm i) : Nat) : Int))] H := hP
        have hD : va_D (va_A [cT t a ((n : Nat) : Int) ((k : Nat) : Int) ((d : Nat) : Int) ((v : Nat) : Int), cR cI (a 0) 6 g0, cR cI (a 1) 6 g1, cR cI (a 2) 72 g2] sz) [cT t a ((n : Nat) : Int) ((k : Nat) : Int) ((d : Nat) : Int) ((v : Nat) : Int), cR cI (a 0) 6 (zup g0 j0 ((kd : Nat) : Int)), cR cI (a 1) 6 (zup g1 j0 ((nm : Nat) : Int)), cR cI (a 2) 72 (zup q2 ((j0 * 12) + i) (((mv n kd nm i) : Nat) : Int))] := hD
        refine z_iinc (k := 4) (lv' := [(4, .int (zI (((i + 1) : Nat) : Int))), (0, .ref t), (1, .int (zI ((j0 : Nat) : Int))), (2, .int (zI ((kd : Nat) : Int))), (3, .int (zI ((nm : Nat) : Int)))]) hx hb (((i + 1) : Nat) : Int) (by omega) dX1_setStep_49 hl rfl (by decide) rfl (fun ls hl => ?_)
        refine lv_goto (tgt := 17) hx hb dX1_setStep_52 (by decide) ?_
        exact ih_17 (i + 1) (zup q2 ((j0 * 12) + i) (((mv n kd nm i) : Nat) : Int)) (by omega) (by omega) (by intro j hj; rcases Nat.lt_or_ge j i with h1 | h1; rw [zup_n (by omega)]; exact hq1 j h1; rw [show j = i by omega]; exact zup_s _ _ _) (by intro j hj; rw [zup_n (by omega)]; exact hq2 j hj) _ _ _ hP hD hS (lv_sub hl [1, 2, 3, 4, 0] rfl)
  exact cut_17 (n - 0 + 1) 0 g2 (Nat.lt_succ_self _) (by omega) (by intro j hj; omega) (by intro j _; rfl) _ _ _ hP hD hS (lv_sub hl [1, 2, 3, 4, 0] rfl)
set_option maxHeartbeats 4000000 in
set_option maxRecDepth 100000 in
theorem c_X1_copy (l : Launch) (D : va_G) (cI : ClassId) (t : Nat) (a : Nat → Nat) (n0 k0 d0 v0 : Int) (t2 : Nat) (a2 : Nat → Nat) (n k d v : Int) (f0 g0 : Nat → Int) (f1 g1 : Nat → Int) (f2 g2 : Nat → Int) (f3 g3 : Nat → Int) (f4 g4 : Nat → Int) (f5 g5 : Nat → Int) (f6 g6 : Nat → Int)  : zMv l yX1_copy cX1_copy 2 none ({ frames := 1, cells := 0, slots := 0, locals := 48 }) D cI [.ref t, .ref t2] [cT t a n0 k0 d0 v0, cR cI (a 0) 6 f0, cR cI (a 1) 6 f1, cR cI (a 2) 72 f2, cR cI (a 3) 12 f3, cR cI (a 4) 6 f4, cR cI (a 5) 6 f5, cR cI (a 6) 6 f6, cT t2 a2 n k d v, cR cI (a2 0) 6 g0, cR cI (a2 1) 6 g1, cR cI (a2 2) 72 g2, cR cI (a2 3) 12 g3, cR cI (a2 4) 6 g4, cR cI (a2 5) 6 g5, cR cI (a2 6) 6 g6] (fun (u : Unit) => True) (fun (u : Unit) => [cT t a n k d v, cR cI (a 0) 6 (zcp g0 f0 6), cR cI (a 1) 6 (zcp g1 f1 6), cR cI (a 2) 72 (zcp g2 f2 72), cR cI (a 3) 12 (zcp g3 f3 12), cR cI (a 4) 6 (zcp g4 f4 6), cR cI (a 5) 6 (zcp g5 f5 6), cR cI (a 6) 6 (zcp g6 f6 6), cT t2 a2 n k d v, cR cI (a2 0) 6 g0, cR cI (a2 1) 6 g1, cR cI (a2 2) 72 g2, cR cI (a2 3) 12 g3, cR cI (a2 4) 6 g4, cR cI (a2 5) 6 g5, cR cI (a2 6) 6 g6]) := by
  intro sz
  refine zstart rfl (by decide) (Nat.le_of_ble_eq_true rfl) ?_
  intro p e s m below meth c ls K hnm hsz hP hD hS hl
  generalize hargs : ([.ref t, .ref t2] : List Value).toArray = args at K ⊢
  generalize hQf : MQ below _ args s _ _ _ = Qf
  have K : zK p s m args meth c cX1_copy 2 RX1 none D cI := K
  obtain ⟨hx, hb, hml, hown, hts, hE, -, -⟩ := id K
  have hA := zhA (ws0 := [cT t a n0 k0 d0 v0, cR cI (a 0) 6 f0, cR cI (a 1) 6 f1, cR cI (a 2) 72 f2, cR cI (a 3) 12 f3, cR cI (a 4) 6 f4, cR cI (a 5) 6 f5, cR cI (a 6) 6 f6, cT t2 a2 n k d v, cR cI (a2 0) 6 g0, cR cI (a2 1) 6 g1, cR cI (a2 2) 72 g2, cR cI (a2 3) 12 g3, cR cI (a2 4) 6 g4, cR cI (a2 5) 6 g5, cR cI (a2 6) 6 g6]) hsz
  have hl : lv_has ls 2 [(0, .ref t), (1, .ref t2)] := hl
  refine lv_aload_n hx hb dX1_copy_0 rfl (lv_at hl 0 rfl) ?_
  refine lv_aload_n hx hb dX1_copy_1 rfl (lv_at hl 1 rfl) ?_
  refine va_get (D := D) (ci := 1) (v := .int (zI n)) (C := RX1) (T := TX1) (N := 11) hx hb hts inT_X1 hown hE.1 hP 8 rfl rfl 0 (by decide) (hts _ qf_X1_33) (fun _ h9 => h9) rfl dX1_copy_2 ?_
  refine va_put (D := D) (ci := 1) (v := .int (zI n)) (ty := .int) (C := RX1) (T := TX1) (N := 11) hx hb hts inT_X1 tyX1 tyX1_ok nmX1 hown hE.1 hP hD hS 0 rfl rfl 0 (by decide) (hts _ qf_X1_33) (fun _ h9 => h9) rfl (by decide +kernel) rfl rfl (Nat.le_of_ble_eq_true rfl) dX1_copy_5 (fun H locs hP hD hS => ?_)
  have hP : va_P D cls [cT t a n k0 d0 v0, cR cI (a 0) 6 f0, cR cI (a 1) 6 f1, cR cI (a 2) 72 f2, cR cI (a 3) 12 f3, cR cI (a 4) 6 f4, cR cI (a 5) 6 f5, cR cI (a 6) 6 f6, cT t2 a2 n k d v, cR cI (a2 0) 6 g0, cR cI (a2 1) 6 g1, cR cI (a2 2) 72 g2, cR cI (a2 3) 12 g3, cR cI (a2 4) 6 g4, cR cI (a2 5) 6 g5, cR cI (a2 6) 6 g6] H := hP
  have hD : va_D (va_A [cT t a n0 k0 d0 v0, cR cI (a 0) 6 f0, cR cI (a 1) 6 f1, cR cI (a 2) 72 f2, cR cI (a 3) 12 f3, cR cI (a 4) 6 f4, cR cI (a 5) 6 f5, cR cI (a 6) 6 f6, cT t2 a2 n k d v, cR cI (a2 0) 6 g0, cR cI (a2 1) 6 g1, cR cI (a2 2) 72 g2, cR cI (a2 3) 12 g3, cR cI (a2 4) 6 g4, cR cI (a2 5) 6 g5, cR cI (a2 6) 6 g6] sz) [cT t a n k0 d0 v0, cR cI (a 0) 6 f0, cR cI (a 1) 6 f1, cR cI (a 2) 72 f2, cR cI (a 3) 12 f3, cR cI (a 4) 6 f4, cR cI (a 5) 6 f5, cR cI (a 6) 6 f6, cT t2 a2 n k d v, cR cI (a2 0) 6 g0, cR cI (a2 1) 6 g1, cR cI (a2 2) 72 g2, cR cI (a2 3) 12 g3, cR cI (a2 4) 6 g4, cR cI (a2 5) 6 g5, cR cI (a2 6) 6 g6] := hD
  refine lv_aload_n hx hb dX1_copy_8 rfl (lv_at hl 0 rfl) ?_
  refine lv_aload_n hx hb dX1_copy_9 rfl (lv_at hl 1 rfl) ?_
  refine va_get (D := D) (ci := 1) (v := .int (zI k)) (C := RX1) (T := TX1) (N := 11) hx hb hts inT_X1 hown hE.1 hP 8 rfl rfl 1 (by decide) (hts _ qf_X1_37) (fun _ h9 => h9) rfl dX1_copy_10 ?_
  refine va_put (D := D) (ci := 1) (v := .int (zI k)) (ty := .int) (C := RX1) (T := TX1) (N := 11) hx hb hts inT_X1 tyX1 tyX1_ok nmX1 hown hE.1 hP hD hS 0 rfl rfl 1 (by decide) (hts _ qf_X1_37) (fun _ h9 => h9) rfl (by decide +kernel) rfl rfl (Nat.le_of_ble_eq_true rfl) dX1_copy_13 (fun H locs hP hD hS => ?_)
  have hP : va_P D cls [cT t a n k d0 v0, cR cI (a 0) 6 f0, cR cI (a 1) 6 f1, cR cI (a 2) 72 f2, cR cI (a 3) 12 f3, cR cI (a 4) 6 f4, cR cI (a 5) 6 f5, cR cI (a 6) 6 f6, cT t2 a2 n k d v, cR cI (a2 0) 6 g0, cR cI (a2 1) 6 g1, cR cI (a2 2) 72 g2, cR cI (a2 3) 12 g3, cR cI (a2 4) 6 g4, cR cI (a2 5) 6 g5, cR cI (a2 6) 6 g6] H := hP
  have hD : va_D (va_A [cT t a n0 k0 d0 v0, cR cI (a 0) 6 f0, cR cI (a 1) 6 f1, cR cI (a 2) 72 f2, cR cI (a 3) 12 f3, cR cI (a 4) 6 f4, cR cI (a 5) 6 f5, cR cI (a 6) 6 f6, cT t2 a2 n k d v, cR cI (a2 0) 6 g0, cR cI (a2 1) 6 g1, cR cI (a2 2) 72 g2, cR cI (a2 3) 12 g3, cR cI (a2 4) 6 g4, cR cI (a2 5) 6 g5, cR cI (a2 6) 6 g6] sz) [cT t a n k d0 v0, cR cI (a 0) 6 f0, cR cI (a 1) 6 f1, cR cI (a 2) 72 f2, cR cI (a 3) 12 f3, cR cI (a 4) 6 f4, cR cI (a 5) 6 f5, cR cI (a 6) 6 f6, cT t2 a2 n k d v, cR cI (a2 0) 6 g0, cR cI (a2 1) 6 g1, cR cI (a2 2) 72 g2, cR cI (a2 3) 12 g3, cR cI (a2 4) 6 g4, cR cI (a2 5) 6 g5, cR cI (a2 6) 6 g6] := hD
  refine lv_aload_n hx hb dX1_copy_16 rfl (lv_at hl 0 rfl) ?_
  refine lv_aload_n hx hb dX1_copy_17 rfl (lv_at hl 1 rfl) ?_
  refine va_get (D := D) (ci := 1) (v := .int (zI d)) (C := RX1) (T := TX1) (N := 11) hx hb hts inT_X1 hown hE.1 hP 8 rfl rfl 2 (by decide) (hts _ qf_X1_40) (fun _ h9 => h9) rfl dX1_copy_18 ?_
  refine va_put (D := D) (ci := 1) (v := .int (zI d)) (ty := .int) (C := RX1) (T := TX1) (N := 11) hx hb hts inT_X1 tyX1 tyX1_ok nmX1 hown hE.1 hP hD hS 0 rfl rfl 2 (by decide) (hts _ qf_X1_40) (fun _ h9 => h9) rfl (by decide +kernel) rfl rfl (Nat.le_of_ble_eq_true rfl) dX1_copy_21 (fun H locs hP hD hS => ?_)
  have hP : va_P D cls [cT t a n k d v0, cR cI (a 0) 6 f0, cR cI (a 1) 6 f1, cR cI (a 2) 72 f2, cR cI (a 3) 12 f3, cR cI (a 4) 6 f4, cR cI (a 5) 6 f5, cR cI (a 6) 6 f6, cT t2 a2 n k d v, cR cI (a2 0) 6 g0, cR cI (a2 1) 6 g1, cR cI (a2 2) 72 g2, cR cI (a2 3) 12 g3, cR cI (a2 4) 6 g4, cR cI (a2 5) 6 g5, cR cI (a2 6) 6 g6] H := hP
  have hD : va_D (va_A [cT t a n0 k0 d0 v0, cR cI (a 0) 6 f0, cR cI (a 1) 6 f1, cR cI (a 2) 72 f2, cR cI (a 3) 12 f3, cR cI (a 4) 6 f4, cR cI (a 5) 6 f5, cR cI (a 6) 6 f6, cT t2 a2 n k d v, cR cI (a2 0) 6 g0, cR cI (a2 1) 6 g1, cR cI (a2 2) 72 g2, cR cI (a2 3) 12 g3, cR cI (a2 4) 6 g4, cR cI (a2 5) 6 g5, cR cI (a2 6) 6 g6] sz) [cT t a n k d v0, cR cI (a 0) 6 f0, cR cI (a 1) 6 f1, cR cI (a 2) 72 f2, cR cI (a 3) 12 f3, cR cI (a 4) 6 f4, cR cI (a 5) 6 f5, cR cI (a 6) 6 f6, cT t2 a2 n k d v, cR cI (a2 0) 6 g0, cR cI (a2 1) 6 g1, cR cI (a2 2) 72 g2, cR cI (a2 3) 12 g3, cR cI (a2 4) 6 g4, cR cI (a2 5) 6 g5, cR cI (a2 6) 6 g6] := hD
  refine lv_aload_n hx hb dX1_copy_24 rfl (lv_at hl 0 rfl) ?_
  refine lv_aload_n hx hb dX1_copy_25 rfl (lv_at hl 1 rfl) ?_
  refine va_get (D := D) (ci := 1) (v := .int (zI v)) (C := RX1) (T := TX1) (N := 11) hx hb hts inT_X1 hown hE.1 hP 8 rfl rfl 3 (by decide) (hts _ qf_X1_43) (fun _ h9 => h9) rfl dX1_copy_26 ?_
  refine va_put (D := D) (ci := 1) (v := .int (zI v)) (ty := .int) (C := RX1) (T := TX1) (N := 11) hx hb hts inT_X1 tyX1 tyX1_ok nmX1 hown hE.1 hP hD hS 0 rfl rfl 3 (by decide) (hts _ qf_X1_43) (fun _ h9 => h9) rfl (by decide +kernel) rfl rfl (Nat.le_of_ble_eq_true rfl) dX1_copy_29 (fun H locs hP hD hS => ?_)
  have hP : va_P D cls [cT t a n k d v, cR cI (a 0) 6 f0, cR cI (a 1) 6 f1, cR cI (a 2) 72 f2, cR cI (a 3) 12 f3, cR cI (a 4) 6 f4, cR cI (a 5) 6 f5, cR cI (a 6) 6 f6, cT t2 a2 n k d v, cR cI (a2 0) 6 g0, cR cI (a2 1) 6 g1, cR cI (a2 2) 72 g2, cR cI (a2 3) 12 g3, cR cI (a2 4) 6 g4, cR cI (a2 5) 6 g5, cR cI (a2 6) 6 g6] H := hP
  have hD : va_D (va_A [cT t a n0 k0 d0 v0, cR cI (a 0) 6 f0, cR cI (a 1) 6 f1, cR cI (a 2) 72 f2, cR cI (a 3) 12 f3, cR cI (a 4) 6 f4, cR cI (a 5) 6 f5, cR cI (a 6) 6 f6, cT t2 a2 n k d v, cR cI (a2 0) 6 g0, cR cI (a2 1) 6 g1, cR cI (a2 2) 72 g2, cR cI (a2 3) 12 g3, cR cI (a2 4) 6 g4, cR cI (a2 5) 6 g5, cR cI (a2 6) 6 g6] sz) [cT t a n k d v, cR cI (a 0) 6 f0, cR cI (a 1) 6 f1, cR cI (a 2) 72 f2, cR cI (a 3) 12 f3, cR cI (a 4) 6 f4, cR cI (a 5) 6 f5, cR cI (a 6) 6 f6, cT t2 a2 n k d v, cR cI (a2 0) 6 g0, cR cI (a2 1) 6 g1, cR cI (a2 2) 72 g2, cR cI (a2 3) 12 g3, cR cI (a2 4) 6 g4, cR cI (a2 5) 6 g5, cR cI (a2 6) 6 g6] := hD
  refine lv_aload_n hx hb dX1_copy_32 rfl (lv_at hl 1 rfl) ?_
  refine va_get (D := D) (ci := 1) (v := .ref (a2 0)) (C := RX1) (T := TX1) (N := 11) hx hb hts inT_X1 hown hE.1 hP 8 rfl rfl 4 (by decide) (hts _ qf_X1_9) (fun _ h9 => h9) rfl dX1_copy_33 ?_
  refine lv_iconst (v := zI 0) hx hb dX1_copy_36 rfl ?_
  refine lv_aload_n hx hb dX1_copy_37 rfl (lv_at hl 0 rfl) ?_
  refine va_get (D := D) (ci := 1) (v := .ref (a 0)) (C := RX1) (T := TX1) (N := 11) hx hb hts inT_X1 hown hE.1 hP 0 rfl rfl 4 (by decide) (hts _ qf_X1_9) (fun _ h9 => h9) rfl dX1_copy_38 ?_
  refine lv_iconst (v := zI 0) hx hb dX1_copy_41 rfl ?_
  refine lv_bipush (v := zI 6) hx hb dX1_copy_42 (by decide) ?_
  refine z_copy hx hb (by rw [hml]; exact hl.1.symm) hown (hts _ qm_X1_49) (hts _ qv_acopy) (hts _ qs_acopy) (hts _ qn_System) hE hP hD hS 9 1 rfl rfl 6 (by omega) (by omega) (by decide) (by decide) (by decide) (Nat.le_of_ble_eq_true rfl) (zcp g0 f0 6) rfl dX1_copy_44 (fun H locs hP hD hS => ?_)
  have hP : va_P D cls [cT t a n k d v, cR cI (a 0) 6 (zcp g0 f0 6), cR cI (a 1) 6 f1, cR cI (a 2) 72 f2, cR cI (a 3) 12 f3, cR cI (a 4) 6 f4, cR cI (a 5) 6 f5, cR cI (a 6) 6 f6, cT t2 a2 n k d v, cR cI (a2 0) 6 g0, cR cI (a2 1) 6 g1, cR cI (a2 2) 72 g2, cR cI (a2 3) 12 g3, cR cI (a2 4) 6 g4, cR cI (a2 5) 6 g5, cR cI (a2 6) 6 g6] H := hP
  have hD : va_D (va_A [cT t a n0 k0 d0 v0, cR cI (a 0) 6 f0, cR cI (a 1) 6 f1, cR cI (a 2) 72 f2, cR cI (a 3) 12 f3, cR cI (a 4) 6 f4, cR cI (a 5) 6 f5, cR cI (a 6) 6 f6, cT t2 a2 n k d v, cR cI (a2 0) 6 g0, cR cI (a2 1) 6 g1, cR cI (a2 2) 72 g2, cR cI (a2 3) 12 g3, cR cI (a2 4) 6 g4, cR cI (a2 5) 6 g5, cR cI (a2 6) 6 g6] sz) [cT t a n k d v, cR cI (a 0) 6 (zcp g0 f0 6), cR cI (a 1) 6 f1, cR cI (a 2) 72 f2, cR cI (a 3) 12 f3, cR cI (a 4) 6 f4, cR cI (a 5) 6 f5, cR cI (a 6) 6 f6, cT t2 a2 n k d v, cR cI (a2 0) 6 g0, cR cI (a2 1) 6 g1, cR cI (a2 2) 72 g2, cR cI (a2 3) 12 g3, cR cI (a2 4) 6 g4, cR cI (a2 5) 6 g5, cR cI (a2 6) 6 g6] := hD
  refine lv_aload_n hx hb dX1_copy_47 rfl (lv_at hl 1 rfl) ?_
  refine va_get (D := D) (ci := 1) (v := .ref (a2 1)) (C := RX1) (T := TX1) (N := 11) hx hb hts inT_X1 hown hE.1 hP 8 rfl rfl 5 (by decide) (hts _ qf_X1_15) (fun _ h9 => h9) rfl dX1_copy_48 ?_
  refine lv_iconst (v := zI 0) hx hb dX1_copy_51 rfl ?_
  refine lv_aload_n hx hb dX1_copy_52 rfl (lv_at hl 0 rfl) ?_
  refine va_get (D := D) (ci := 1) (v := .ref (a 1)) (C := RX1) (T := TX1) (N := 11) hx hb hts inT_X1 hown hE.1 hP 0 rfl rfl 5 (by decide) (hts _ qf_X1_15) (fun _ h9 => h9) rfl dX1_copy_53 ?_
  refine lv_iconst (v := zI 0) hx hb dX1_copy_56 rfl ?_
  refine lv_bipush (v := zI 6) hx hb dX1_copy_57 (by decide) ?_
  refine z_copy hx hb (by rw [hml]; exact hl.1.symm) hown (hts _ qm_X1_49) (hts _ qv_acopy) (hts _ qs_acopy) (hts _ qn_System) hE hP hD hS 10 2 rfl rfl 6 (by omega) (by omega) (by decide) (by decide) (by decide) (Nat.le_of_ble_eq_true rfl) (zcp g1 f1 6) rfl dX1_copy_59 (fun H locs hP hD hS => ?_)
  have hP : va_P D cls [cT t a n k d v, cR cI (a 0) 6 (zcp g0 f0 6), cR cI (a 1) 6 (zcp g1 f1 6), cR cI (a 2) 72 f2, cR cI (a 3) 12 f3, cR cI (a 4) 6 f4, cR cI (a 5) 6 f5, cR cI (a 6) 6 f6, cT t2 a2 n k d v, cR cI (a2 0) 6 g0, cR cI (a2 1) 6 g1, cR cI (a2 2) 72 g2, cR cI (a2 3) 12 g3, cR cI (a2 4) 6 g4, cR cI (a2 5) 6 g5, cR cI (a2 6) 6 g6] H := hP
  have hD : va_D (va_A [cT t a n0 k0 d0 v0, cR cI (a 0) 6 f0, cR cI (a 1) 6 f1, cR cI (a 2) 72 f2, cR cI (a 3) 12 f3, cR cI (a 4) 6 f4, cR cI (a 5) 6 f5, cR cI (a 6) 6 f6, cT t2 a2 n k d v, cR cI (a2 0) 6 g0, cR cI (a2 1) 6 g1, cR cI (a2 2) 72 g2, cR cI (a2 3) 12 g3, cR cI (a2 4) 6 g4, cR cI (a2 5) 6 g5, cR cI (a2 6) 6 g6] sz) [cT t a n k d v, cR cI (a 0) 6 (zcp g0 f0 6), cR cI (a 1) 6 (zcp g1 f1 6), cR cI (a 2) 72 f2, cR cI (a 3) 12 f3, cR cI (a 4) 6 f4, cR cI (a 5) 6 f5, cR cI (a 6) 6 f6, cT t2 a2 n k d v, cR cI (a2 0) 6 g0, cR cI (a2 1) 6 g1, cR cI (a2 2) 72 g2, cR cI (a2 3) 12 g3, cR cI (a2 4) 6 g4, cR cI (a2 5) 6 g5, cR cI (a2 6) 6 g6] := hD
  refine lv_aload_n hx hb dX1_copy_62 rfl (lv_at hl 1 rfl) ?_
  refine va_get (D := D) (ci := 1) (v := .ref (a2 2)) (C := RX1) (T := TX1) (N := 11) hx hb hts inT_X1 hown hE.1 hP 8 rfl rfl 6 (by decide) (hts _ qf_X1_18) (fun _ h9 => h9) rfl dX1_copy_63 ?_
  refine lv_iconst (v := zI 0) hx hb dX1_copy_66 rfl ?_
  refine lv_aload_n hx hb dX1_copy_67 rfl (lv_at hl 0 rfl) ?_
  refine va_get (D := D) (ci := 1) (v := .ref (a 2)) (C := RX1) (T := TX1) (N := 11) hx hb hts inT_X1 hown hE.1 hP 0 rfl rfl 6 (by decide) (hts _ qf_X1_18) (fun _ h9 => h9) rfl dX1_copy_68 ?_
  refine lv_iconst (v := zI 0) hx hb dX1_copy_71 rfl ?_
  refine lv_bipush (v := zI 72) hx hb dX1_copy_72 (by decide) ?_
  refine z_copy hx hb (by rw [hml]; exact hl.1.symm) hown (hts _ qm_X1_49) (hts _ qv_acopy) (hts _ qs_acopy) (hts _ qn_System) hE hP hD hS 11 3 rfl rfl 72 (by omega) (by omega) (by decide) (by decide) (by decide) (Nat.le_of_ble_eq_true rfl) (zcp g2 f2 72) rfl dX1_copy_74 (fun H locs hP hD hS => ?_)
  have hP : va_P D cls [cT t a n k d v, cR cI (a 0) 6 (zcp g0 f0 6), cR cI (a 1) 6 (zcp g1 f1 6), cR cI (a 2) 72 (zcp g2 f2 72), cR cI (a 3) 12 f3, cR cI (a 4) 6 f4, cR cI (a 5) 6 f5, cR cI (a 6) 6 f6, cT t2 a2 n k d v, cR cI (a2 0) 6 g0, cR cI (a2 1) 6 g1, cR cI (a2 2) 72 g2, cR cI (a2 3) 12 g3, cR cI (a2 4) 6 g4, cR cI (a2 5) 6 g5, cR cI (a2 6) 6 g6] H := hP
  have hD : va_D (va_A [cT t a n0 k0 d0 v0, cR cI (a 0) 6 f0, cR cI (a 1) 6 f1, cR cI (a 2) 72 f2, cR cI (a 3) 12 f3, cR cI (a 4) 6 f4, cR cI (a 5) 6 f5, cR cI (a 6) 6 f6, cT t2 a2 n k d v, cR cI (a2 0) 6 g0, cR cI (a2 1) 6 g1, cR cI (a2 2) 72 g2, cR cI (a2 3) 12 g3, cR cI (a2 4) 6 g4, cR cI (a2 5) 6 g5, cR cI (a2 6) 6 g6] sz) [cT t a n k d v, cR cI (a 0) 6 (zcp g0 f0 6), cR cI (a 1) 6 (zcp g1 f1 6), cR cI (a 2) 72 (zcp g2 f2 72), cR cI (a 3) 12 f3, cR cI (a 4) 6 f4, cR cI (a 5) 6 f5, cR cI (a 6) 6 f6, cT t2 a2 n k d v, cR cI (a2 0) 6 g0, cR cI (a2 1) 6 g1, cR cI (a2 2) 72 g2, cR cI (a2 3) 12 g3, cR cI (a2 4) 6 g4, cR cI (a2 5) 6 g5, cR cI (a2 6) 6 g6] := hD
  refine lv_aload_n hx hb dX1_copy_77 rfl (lv_at hl 1 rfl) ?_
  refine va_get (D := D) (ci := 1) (v := .ref (a2 3)) (C := RX1) (T := TX1) (N := 11) hx hb hts inT_X1 hown hE.1 hP 8 rfl rfl 7 (by decide) (hts _ qf_X1_21) (fun _ h9 => h9) rfl dX1_copy_78 ?_
  refine lv_iconst (v := zI 0) hx hb dX1_copy_81 rfl ?_
  refine lv_aload_n hx hb dX1_copy_82 rfl (lv_at hl 0 rfl) ?_
  refine va_get (D := D) (ci := 1) (v := .ref (a 3)) (C := RX1) (T := TX1) (N := 11) hx hb hts inT_X1 hown hE.1 hP 0 rfl rfl 7 (by decide) (hts _ qf_X1_21) (fun _ h9 => h9) rfl dX1_copy_83 ?_
  refine lv_iconst (v := zI 0) hx hb dX1_copy_86 rfl ?_
  refine lv_bipush (v := zI 12) hx hb dX1_copy_87 (by decide) ?_
  refine z_copy hx hb (by rw [hml]; exact hl.1.symm) hown (hts _ qm_X1_49) (hts _ qv_acopy) (hts _ qs_acopy) (hts _ qn_System) hE hP hD hS 12 4 rfl rfl 12 (by omega) (by omega) (by decide) (by decide) (by decide) (Nat.le_of_ble_eq_true rfl) (zcp g3 f3 12) rfl dX1_copy_89 (fun H locs hP hD hS => ?_)
  have hP : va_P D cls [cT t a n k d v, cR cI (a 0) 6 (zcp g0 f0 6), cR cI (a 1) 6 (zcp g1 f1 6), cR cI (a 2) 72 (zcp g2 f2 72), cR cI (a 3) 12 (zcp g3 f3 12), cR cI (a 4) 6 f4, cR cI (a 5) 6 f5, cR cI (a 6) 6 f6, cT t2 a2 n k d v, cR cI (a2 0) 6 g0, cR cI (a2 1) 6 g1, cR cI (a2 2) 72 g2, cR cI (a2 3) 12 g3, cR cI (a2 4) 6 g4, cR cI (a2 5) 6 g5, cR cI (a2 6) 6 g6] H := hP
  have hD : va_D (va_A [cT t a n0 k0 d0 v0, cR cI (a 0) 6 f0, cR cI (a 1) 6 f1, cR cI (a 2) 72 f2, cR cI (a 3) 12 f3, cR cI (a 4) 6 f4, cR cI (a 5) 6 f5, cR cI (a 6) 6 f6, cT t2 a2 n k d v, cR cI (a2 0) 6 g0, cR cI (a2 1) 6 g1, cR cI (a2 2) 72 g2, cR cI (a2 3) 12 g3, cR cI (a2 4) 6 g4, cR cI (a2 5) 6 g5, cR cI (a2 6) 6 g6] sz) [cT t a n k d v, cR cI (a 0) 6 (zcp g0 f0 6), cR cI (a 1) 6 (zcp g1 f1 6), cR cI (a 2) 72 (zcp g2 f2 72), cR cI (a 3) 12 (zcp g3 f3 12), cR cI (a 4) 6 f4, cR cI (a 5) 6 f5, cR cI (a 6) 6 f6, cT t2 a2 n k d v, cR cI (a2 0) 6 g0, cR cI (a2 1) 6 g1, cR cI (a2 2) 72 g2, cR cI (a2 3) 12 g3, cR cI (a2 4) 6 g4, cR cI (a2 5) 6 g5, cR cI (a2 6) 6 g6] := hD
  refine lv_aload_n hx hb dX1_copy_92 rfl (lv_at hl 1 rfl) ?_
  refine va_get (D := D) (ci := 1) (v := .ref (a2 4)) (C := RX1) (T := TX1) (N := 11) hx hb hts inT_X1 hown hE.1 hP 8 rfl rfl 8 (by decide) (hts _ qf_X1_24) (fun _ h9 => h9) rfl dX1_copy_93 ?_
  refine lv_iconst (v := zI 0) hx hb dX1_copy_96 rfl ?_
  refine lv_aload_n hx hb dX1_copy_97 rfl (lv_at hl 0 rfl) ?_
  refine va_get (D := D) (ci := 1) (v := .ref (a 4)) (C := RX1) (T := TX1) (N := 11) hx hb hts inT_X1 hown hE.1 hP 0 rfl rfl 8 (by decide) (hts _ qf_X1_24) (fun _ h9 => h9) rfl dX1_copy_98 ?_
  refine lv_iconst (v := zI 0) hx hb dX1_copy_101 rfl ?_
  refine lv_bipush (v := zI 6) hx hb dX1_copy_102 (by decide) ?_
  refine z_copy hx hb (by rw [hml]; exact hl.1.symm) hown (hts _ qm_X1_49) (hts _ qv_acopy) (hts _ qs_acopy) (hts _ qn_System) hE hP hD hS 13 5 rfl rfl 6 (by omega) (by omega) (by decide) (by decide) (by decide) (Nat.le_of_ble_eq_true rfl) (zcp g4 f4 6) rfl dX1_copy_104 (fun H locs hP hD hS => ?_)
  have hP : va_P D cls [cT t a n k d v, cR cI (a 0) 6 (zcp g0 f0 6), cR cI (a 1) 6 (zcp g1 f1 6), cR cI (a 2) 72 (zcp g2 f2 72), cR cI (a 3) 12 (zcp g3 f3 12), cR cI (a 4) 6 (zcp g4 f4 6), cR cI (a 5) 6 f5, cR cI (a 6) 6 f6, cT t2 a2 n k d v, cR cI (a2 0) 6 g0, cR cI (a2 1) 6 g1, cR cI (a2 2) 72 g2, cR cI (a2 3) 12 g3, cR cI (a2 4) 6 g4, cR cI (a2 5) 6 g5, cR cI (a2 6) 6 g6] H := hP
  have hD : va_D (va_A [cT t a n0 k0 d0 v0, cR cI (a 0) 6 f0, cR cI (a 1) 6 f1, cR cI (a 2) 72 f2, cR cI (a 3) 12 f3, cR cI (a 4) 6 f4, cR cI (a 5) 6 f5, cR cI (a 6) 6 f6, cT t2 a2 n k d v, cR cI (a2 0) 6 g0, cR cI (a2 1) 6 g1, cR cI (a2 2) 72 g2, cR cI (a2 3) 12 g3, cR cI (a2 4) 6 g4, cR cI (a2 5) 6 g5, cR cI (a2 6) 6 g6] sz) [cT t a n k d v, cR cI (a 0) 6 (zcp g0 f0 6), cR cI (a 1) 6 (zcp g1 f1 6), cR cI (a 2) 72 (zcp g2 f2 72), cR cI (a 3) 12 (zcp g3 f3 12), cR cI (a 4) 6 (zcp g4 f4 6), cR cI (a 5) 6 f5, cR cI (a 6) 6 f6, cT t2 a2 n k d v, cR cI (a2 0) 6 g0, cR cI (a2 1) 6 g1, cR cI (a2 2) 72 g2, cR cI (a2 3) 12 g3, cR cI (a2 4) 6 g4, cR cI (a2 5) 6 g5, cR cI (a2 6) 6 g6] := hD
  refine lv_aload_n hx hb dX1_copy_107 rfl (lv_at hl 1 rfl) ?_
  refine va_get (D := D) (ci := 1) (v := .ref (a2 5)) (C := RX1) (T := TX1) (N := 11) hx hb hts inT_X1 hown hE.1 hP 8 rfl rfl 9 (by decide) (hts _ qf_X1_27) (fun _ h9 => h9) rfl dX1_copy_108 ?_
  refine lv_iconst (v := zI 0) hx hb dX1_copy_111 rfl ?_
  refine lv_aload_n hx hb dX1_copy_112 rfl (lv_at hl 0 rfl) ?_
  refine va_get (D := D) (ci := 1) (v := .ref (a 5)) (C := RX1) (T := TX1) (N := 11) hx hb hts inT_X1 hown hE.1 hP 0 rfl rfl 9 (by decide) (hts _ qf_X1_27) (fun _ h9 => h9) rfl dX1_copy_113 ?_
  refine lv_iconst (v := zI 0) hx hb dX1_copy_116 rfl ?_
  refine lv_bipush (v := zI 6) hx hb dX1_copy_117 (by decide) ?_
  refine z_copy hx hb (by rw [hml]; exact hl.1.symm) hown (hts _ qm_X1_49) (hts _ qv_acopy) (hts _ qs_acopy) (hts _ qn_System) hE hP hD hS 14 6 rfl rfl 6 (by omega) (by omega) (by decide) (by decide) (by decide) (Nat.le_of_ble_eq_true rfl) (zcp g5 f5 6) rfl dX1_copy_119 (fun H locs hP hD hS => ?_)
  have hP : va_P D cls [cT t a n k d v, cR cI (a 0) 6 (zcp g0 f0 6), cR cI (a 1) 6 (zcp g1 f1 6), cR cI (a 2) 72 (zcp g2 f2 72), cR cI (a 3) 12 (zcp g3 f3 12), cR cI (a 4) 6 (zcp g4 f4 6), cR cI (a 5) 6 (zcp g5 f5 6), cR cI (a 6) 6 f6, cT t2 a2 n k d v, cR cI (a2 0) 6 g0, cR cI (a2 1) 6 g1, cR cI (a2 2) 72 g2, cR cI (a2 3) 12 g3, cR cI (a2 4) 6 g4, cR cI (a2 5) 6 g5, cR cI (a2 6) 6 g6] H := hP
  have hD : va_D (va_A [cT t a n0 k0 d0 v0, cR cI (a 0) 6 f0, cR cI (a 1) 6 f1, cR cI (a 2) 72 f2, cR cI (a 3) 12 f3, cR cI (a 4) 6 f4, cR cI (a 5) 6 f5, cR cI (a 6) 6 f6, cT t2 a2 n k d v, cR cI (a2 0) 6 g0, cR cI (a2 1) 6 g1, cR cI (a2 2) 72 g2, cR cI (a2 3) 12 g3, cR cI (a2 4) 6 g4, cR cI (a2 5) 6 g5, cR cI (a2 6) 6 g6] sz) [cT t a n k d v, cR cI (a 0) 6 (zcp g0 f0 6), cR cI (a 1) 6 (zcp g1 f1 6), cR cI (a 2) 72 (zcp g2 f2 72), cR cI (a 3) 12 (zcp g3 f3 12), cR cI (a 4) 6 (zcp g4 f4 6), cR cI (a 5) 6 (zcp g5 f5 6), cR cI (a 6) 6 f6, cT t2 a2 n k d v, cR cI (a2 0) 6 g0, cR cI (a2 1) 6 g1, cR cI (a2 2) 72 g2, cR cI (a2 3) 12 g3, cR cI (a2 4) 6 g4, cR cI (a2 5) 6 g5, cR cI (a2 6) 6 g6] := hD
  refine lv_aload_n hx hb dX1_copy_122 rfl (lv_at hl 1 rfl) ?_
  refine va_get (D := D) (ci := 1) (v := .ref (a2 6)) (C := RX1) (T := TX1) (N := 11) hx hb hts inT_X1 hown hE.1 hP 8 rfl rfl 10 (by decide) (hts _ qf_X1_30) (fun _ h9 => h9) rfl dX1_copy_123 ?_
  refine lv_iconst (v := zI 0) hx hb dX1_copy_126 rfl ?_
  refine lv_aload_n hx hb dX1_copy_127 rfl (lv_at hl 0 rfl) ?_
  refine va_get (D := D) (ci := 1) (v := .ref (a 6)) (C := RX1) (T := TX1) (N := 11) hx hb hts inT_X1 hown hE.1 hP 0 rfl rfl 10 (by decide) (hts _ qf_X1_30) (fun _ h9 => h9) rfl dX1_copy_128 ?_
  refine lv_iconst (v := zI 0) hx hb dX1_copy_131 rfl ?_
  refine lv_bipush (v := zI 6) hx hb dX1_copy_132 (by decide) ?_
  refine z_copy hx hb (by rw [hml]; exact hl.1.symm) hown (hts _ qm_X1_49) (hts _ qv_acopy) (hts _ qs_acopy) (hts _ qn_System) hE hP hD hS 15 7 rfl rfl 6 (by omega) (by omega) (by decide) (by decide) (by decide) (Nat.le_of_ble_eq_true rfl) (zcp g6 f6 6) rfl dX1_copy_134 (fun H locs hP hD hS => ?_)
  have hP : va_P D cls [cT t a n k d v, cR cI (a 0) 6 (zcp g0 f0 6), cR cI (a 1) 6 (zcp g1 f1 6), cR cI (a 2) 72 (zcp g2 f2 72), cR cI (a 3) 12 (zcp g3 f3 12), cR cI (a 4) 6 (zcp g4 f4 6), cR cI (a 5) 6 (zcp g5 f5 6), cR cI (a 6) 6 (zcp g6 f6 6), cT t2 a2 n k d v, cR cI (a2 0) 6 g0, cR cI (a2 1) 6 g1, cR cI (a2 2) 72 g2, cR cI (a2 3) 12 g3, cR cI (a2 4) 6 g4, cR cI (a2 5) 6 g5, cR cI (a2 6) 6 g6] H := hP
  have hD : va_D (va_A [cT t a n0 k0 d0 v0, cR cI (a 0) 6 f0, cR cI (a 1) 6 f1, cR cI (a 2) 72 f2, cR cI (a 3) 12 f3, cR cI (a 4) 6 f4, cR cI (a 5) 6 f5, cR cI (a 6) 6 f6, cT t2 a2 n k d v, cR cI (a2 0) 6 g0, cR cI (a2 1) 6 g1, cR cI (a2 2) 72 g2, cR cI (a2 3) 12 g3, cR cI (a2 4) 6 g4, cR cI (a2 5) 6 g5, cR cI (a2 6) 6 g6] sz) [cT t a n k d v, cR cI (a 0) 6 (zcp g0 f0 6), cR cI (a 1) 6 (zcp g1 f1 6), cR cI (a 2) 72 (zcp g2 f2 72), cR cI (a 3) 12 (zcp g3 f3 12), cR cI (a 4) 6 (zcp g4 f4 6), cR cI (a 5) 6 (zcp g5 f5 6), cR cI (a 6) 6 (zcp g6 f6 6), cT t2 a2 n k d v, cR cI (a2 0) 6 g0, cR cI (a2 1) 6 g1, cR cI (a2 2) 72 g2, cR cI (a2 3) 12 g3, cR cI (a2 4) 6 g4, cR cI (a2 5) 6 g5, cR cI (a2 6) 6 g6] := hD
  rw [← hQf]
  exact z_vret K hS () trivial hP hD dX1_copy_137
set_option maxHeartbeats 4000000 in
set_option maxRecDepth 100000 in
theorem c_X2_ringLength (l : Launch) (D : va_G) (cI : ClassId) (h wa : Nat) (n : Nat) (f : Nat → Int) (φ : Nat → Nat) (p0 : Nat) (hn : n ≤ 12) (hf : ∀ j, j < n → f j = ((φ j : Nat) : Int)) (hφ : ∀ j, j < n → φ j < n) (hp0 : p0 < n) : zMi l yX2_ringLength cX2_ringLength 4 (some .int) ({ frames := 0, cells := 0, slots := 0, locals := 0 }) D cI [.ref h, .int (zI ((p0 : Nat) : Int))] [cW h wa ((n : Nat) : Int), cR cI wa 12 f] (fun (z : Int) (u : Unit) => z = (((rl φ n p0) : Nat) : Int)) (fun (u : Unit) => [cW h wa ((n : Nat) : Int), cR cI wa 12 f]) := by
  intro sz
  refine zstart rfl (by decide) (Nat.le_of_ble_eq_true rfl) ?_
  intro p e s m below meth c ls K hnm hsz hP hD hS hl
  generalize hargs : ([.ref h, .int (zI ((p0 : Nat) : Int))] : List Value).toArray = args at K ⊢
  generalize hQf : MQ below _ args s _ _ _ = Qf
  have K : zK p s m args meth c cX2_ringLength 4 RX2 (some .int) D cI := K
  obtain ⟨hx, hb, hml, hown, hts, hE, -, -⟩ := id K
  have hA := zhA (ws0 := [cW h wa ((n : Nat) : Int), cR cI wa 12 f]) hsz
  have hl : lv_has ls 4 [(0, .ref h), (1, .int (zI ((p0 : Nat) : Int)))] := hl
  refine lv_iconst (v := zI 1) hx hb dX2_ringLength_0 rfl ?_
  refine lv_istore_n (lv' := [(2, .int (zI 1)), (0, .ref h), (1, .int (zI ((p0 : Nat) : Int)))]) hx hb dX2_ringLength_1 rfl hl (by decide) rfl (fun ls hl => ?_)
  refine lv_aload_n hx hb dX2_ringLength_2 rfl (lv_at hl 1 rfl) ?_
  refine va_get (D := D) (ci := 2) (v := .ref wa) (C := RX2) (T := TX2) (N := 2) hx hb hts inT_X2 hown hE.1 hP 0 rfl rfl 1 (by decide) (hts _ qf_X2_9) (fun _ h9 => h9) rfl dX2_ringLength_3 ?_
  refine lv_iload_n hx hb dX2_ringLength_6 rfl (lv_at hl 2 rfl) ?_
  have hφ_p0 := hφ (p0) (by omega)
  refine z_iald hx hb hE hP 1 rfl p0 (by omega) (by omega) (by first | decide | omega) ((φ p0 : Nat) : Int) (hf (p0) (by omega)) dX2_ringLength_7 ?_
  refine lv_istore_n (lv' := [(3, .int (zI ((φ p0 : Nat) : Int))), (2, .int (zI 1)), (0, .ref h), (1, .int (zI ((p0 : Nat) : Int)))]) hx hb dX2_ringLength_8 rfl hl (by decide) rfl (fun ls hl => ?_)
  have cut_9 : ∀ (N_9 : Nat), ∀ (i r : Nat), n - i < N_9 → (i + 1 ≤ n) → (r = it φ (i + 1) p0) → (r < n) → (∀ j, j < i → it φ (j + 1) p0 ≠ p0) → ∀ (H : Heap) (locs : List Loc) (ls : Array Slot), va_P D cls [cW h wa ((n : Nat) : Int), cR cI wa 12 f] H → va_D (va_A [cW h wa ((n : Nat) : Int), cR cI wa 12 f] sz) [cW h wa ((n : Nat) : Int), cR cI wa 12 f] → va_S (va_A [cW h wa ((n : Nat) : Int), cR cI wa 12 f] sz) s.heap H locs → lv_has ls 4 [(0, .ref h), (1, .int (zI ((p0 : Nat) : Int))), (2, .int (zI (((i + 1) : Nat) : Int))), (3, .int (zI ((r : Nat) : Int)))] → W p l e ({ frames := 0, cells := 0, slots := 0, locals := 0 }) s m args below meth c H locs 0 0 Qf (F0 m 9 ls []) := by
    intro N_9
    induction N_9 with
    | zero => intro i r hm_9; exact absurd hm_9 (Nat.not_lt_zero _)
    | succ N_9 ih_9 =>
      intro i r hm_9 hi hr1 hr2 hno H locs ls hP hD hS hl
      refine lv_iload_n hx hb dX2_ringLength_9 rfl (lv_at hl 3 rfl) ?_
      refine lv_iload_n hx hb dX2_ringLength_10 rfl (lv_at hl 1 rfl) ?_
      refine z_icmp_eq (tgt := 35) hx hb (by omega) dX2_ringLength_11 (by decide) (fun c_11 => ?_) (fun c_11 => ?_)
      · refine lv_iload_n hx hb dX2_ringLength_35 rfl (lv_at hl 2 rfl) ?_
        rw [← hQf]
        exact z_iret K hS () (by first | (rw [rl_is hno (Or.inl (by omega))]; done) | (rcases (show i = n - 1 ∨ i < n - 1 by omega) with h9 | h9; rw [rl_is hno (Or.inl h9)]; rw [rl_is hno (Or.inr ⟨h9, by omega⟩)])) hP hD dX2_ringLength_36
      · refine lv_iload_n hx hb dX2_ringLength_14 rfl (lv_at hl 2 rfl) ?_
        refine lv_aload_n hx hb dX2_ringLength_15 rfl (lv_at hl 0 rfl) ?_
        refine va_get (D := D) (ci := 2) (v := .int (zI ((n : Nat) : Int))) (C := RX2) (T := TX2) (N := 2) hx hb hts inT_X2 hown hE.1 hP 0 rfl rfl 0 (by decide) (hts _ qf_X2_15) (fun _ h9 => h9) rfl dX2_ringLength_16 ?_
        refine z_icmp_ge (tgt := 35) hx hb (by omega) dX2_ringLength_19 (by decide) (fun c_19 => ?_) (fun c_19 => ?_)
        · refine lv_iload_n hx hb dX2_ringLength_35 rfl (lv_at hl 2 rfl) ?_
          rw [← hQf]
          exact z_iret K hS () (by first | (rw [rl_is hno (Or.inl (by omega))]; done) | (rcases (show i = n - 1 ∨ i < n - 1 by omega) with h9 | h9; rw [rl_is hno (Or.inl h9)]; rw [rl_is hno (Or.inr ⟨h9, by omega⟩)])) hP hD dX2_ringLength_36
        · refine lv_aload_n hx hb dX2_ringLength_22 rfl (lv_at hl 0 rfl) ?_
          refine va_get (D := D) (ci := 2) (v := .ref wa) (C := RX2) (T := TX2) (N := 2) hx hb hts inT_X2 hown hE.1 hP 0 rfl rfl 1 (by decide) (hts _ qf_X2_9) (fun _ h9 => h9) rfl dX2_ringLength_23 ?_
          refine lv_iload_n hx hb dX2_ringLength_26 rfl (lv_at hl 3 rfl) ?_
          have hφ_r := hφ (r) (by omega)
          refine z_iald hx hb hE hP 1 rfl r (by omega) (by omega) (by first | decide | omega) ((φ r : Nat) : Int) (hf (r) (by omega)) dX2_ringLength_27 ?_
          refine lv_istore_n (lv' := [(3, .int (zI ((φ r : Nat) : Int))), (0, .ref h), (1, .int (zI ((p0 : Nat) : Int))), (2, .int (zI (((i + 1) : Nat) : Int)))]) hx hb dX2_ringLength_28 rfl hl (by decide) rfl (fun ls hl => ?_)
          refine z_iinc (k := 3) (lv' := [(2, .int (zI (((i + 2) : Nat) : Int))), (3, .int (zI ((φ r : Nat) : Int))), (0, .ref h), (1, .int (zI ((p0 : Nat) : Int)))]) hx hb (((i + 2) : Nat) : Int) (by omega) dX2_ringLength_29 hl rfl (by decide) rfl (fun ls hl => ?_)
          refine lv_goto (tgt := 9) hx hb dX2_ringLength_32 (by decide) ?_
          exact ih_9 (i + 1) (φ r) (by omega) (by omega) (by rw [hr1]; rfl) (by omega) (by intro j hj; rcases Nat.lt_or_ge j i with h1 | h1; exact hno j h1; rw [show j = i by omega, ← hr1]; omega) _ _ _ hP hD hS (lv_sub hl [2, 3, 0, 1] rfl)
  exact cut_9 (n - 0 + 1) 0 (φ p0) (Nat.lt_succ_self _) (by omega) (by rfl) (by omega) (by intro j hj; omega) _ _ _ hP hD hS (lv_sub hl [2, 3, 1, 0] rfl)
set_option maxHeartbeats 4000000 in
set_option maxRecDepth 100000 in
theorem c_X2_placeAfter (l : Launch) (D : va_G) (cI : ClassId) (h wa : Nat) (n : Nat) (f : Nat → Int) (φ : Nat → Nat) (p0 x : Nat) (hn : n ≤ 12) (hf : ∀ j, j < n → f j = ((φ j : Nat) : Int)) (hφ : ∀ j, j < n → φ j < n) (hp0 : p0 < n) (hx0 : x < 2147483648) : zMi l yX2_placeAfter cX2_placeAfter 6 (some .int) ({ frames := 1, cells := 0, slots := 0, locals := 23 }) D cI [.ref h, .int (zI ((p0 : Nat) : Int)), .int (zI ((x : Nat) : Int))] [cW h wa ((n : Nat) : Int), cR cI wa 12 f] (fun (z : Int) (u : Unit) => z = (((it φ (x % rl φ n p0) p0) : Nat) : Int)) (fun (u : Unit) => [cW h wa ((n : Nat) : Int), cR cI wa 12 f]) := by
  intro sz
  refine zstart rfl (by decide) (Nat.le_of_ble_eq_true rfl) ?_
  intro p e s m below meth c ls K hnm hsz hP hD hS hl
  generalize hargs : ([.ref h, .int (zI ((p0 : Nat) : Int)), .int (zI ((x : Nat) : Int))] : List Value).toArray = args at K ⊢
  generalize hQf : MQ below _ args s _ _ _ = Qf
  have K : zK p s m args meth c cX2_placeAfter 6 RX2 (some .int) D cI := K
  obtain ⟨hx, hb, hml, hown, hts, hE, -, -⟩ := id K
  have hA := zhA (ws0 := [cW h wa ((n : Nat) : Int), cR cI wa 12 f]) hsz
  have hl : lv_has ls 6 [(0, .ref h), (1, .int (zI ((p0 : Nat) : Int))), (2, .int (zI ((x : Nat) : Int)))] := hl
  have hr1 := rl_pos φ n p0
  have hr2 := rl_le (φ := φ) hp0
  have hr3 := Nat.mod_lt x (show 0 < rl φ n p0 by omega)
  refine lv_iload_n hx hb dX2_placeAfter_0 rfl (lv_at hl 2 rfl) ?_
  refine lv_iconst (v := zI 1) hx hb dX2_placeAfter_1 rfl ?_
  refine lv_aload_n hx hb dX2_placeAfter_2 rfl (lv_at hl 0 rfl) ?_
  refine lv_iload_n hx hb dX2_placeAfter_3 rfl (lv_at hl 1 rfl) ?_
  refine zcall_i (wc := [cW h wa ((n : Nat) : Int), cR cI wa 12 f]) (wr := []) (rest := [.int (zI 1), .int (zI ((x : Nat) : Int))]) hE hP hD hS hA [0, 1] [] [0, 1] rfl rfl (by decide) (by decide) (by decide) (fun (u : Unit) => [cW h wa ((n : Nat) : Int), cR cI wa 12 f]) (fun u => rfl) (fun hPc hDc => zrunV (As := [.int (zI ((p0 : Nat) : Int))]) (rest := [.int (zI 1), .int (zI ((x : Nat) : Int))]) (q0 := 0) (ci := 2) K k_X2_ringLength qm_X2_25 ⟨⟨rfl, rfl⟩, ⟨Nat.le_of_ble_eq_true rfl, Nat.le_of_ble_eq_true rfl⟩⟩ rfl rfl hPc hDc (c_X2_ringLength l D cI h wa n f φ p0 (by first | assumption | omega) (by first | assumption | omega) (by first | assumption | omega) (by first | assumption | omega) _) rfl hl.1 rfl (Nat.le_of_ble_eq_true rfl) dX2_placeAfter_4 ⟨Nat.zero_le _, Nat.zero_le _⟩) (by decide) (fun z u H locs hpost hP hD hS => ?_)
  subst hpost
  have hP : va_P D cls [cW h wa ((n : Nat) : Int), cR cI wa 12 f] H := hP
  have hD : va_D (va_A [cW h wa ((n : Nat) : Int), cR cI wa 12 f] sz) [cW h wa ((n : Nat) : Int), cR cI wa 12 f] := hD
  refine W.eq (g2 := F0 m 7 ls [.int (zI (((rl φ n p0) : Nat) : Int)), .int (zI 1), .int (zI ((x : Nat) : Int))]) rfl ?_
  refine z_Mmax hx hb (by rw [hml]; exact hl.1.symm) hown (hts _ qm_X2_29) (hts _ qs_Mmax) (hts _ qn_Math) (hts _ qc_Mmax) (by decide) (Nat.le_of_ble_eq_true rfl) (by decide) (by decide) (by omega) ((rl φ n p0 : Nat) : Int) (by split <;> omega) dX2_placeAfter_7 ?_
  refine z_irem hx hb (((x % rl φ n p0) : Nat) : Int) (by omega) rfl dX2_placeAfter_10 ?_
  refine lv_istore_n (lv' := [(3, .int (zI (((x % rl φ n p0) : Nat) : Int))), (0, .ref h), (1, .int (zI ((p0 : Nat) : Int))), (2, .int (zI ((x : Nat) : Int)))]) hx hb dX2_placeAfter_11 rfl hl (by decide) rfl (fun ls hl => ?_)
  refine lv_iload_n hx hb dX2_placeAfter_12 rfl (lv_at hl 2 rfl) ?_
  refine lv_istore (lv' := [(4, .int (zI ((p0 : Nat) : Int))), (3, .int (zI (((x % rl φ n p0) : Nat) : Int))), (0, .ref h), (1, .int (zI ((p0 : Nat) : Int))), (2, .int (zI ((x : Nat) : Int)))]) hx hb dX2_placeAfter_13 hl (by decide) rfl (fun ls hl => ?_)
  refine lv_iconst (v := zI 0) hx hb dX2_placeAfter_15 rfl ?_
  refine lv_istore (lv' := [(5, .int (zI 0)), (4, .int (zI ((p0 : Nat) : Int))), (3, .int (zI (((x % rl φ n p0) : Nat) : Int))), (0, .ref h), (1, .int (zI ((p0 : Nat) : Int))), (2, .int (zI ((x : Nat) : Int)))]) hx hb dX2_placeAfter_16 hl (by decide) rfl (fun ls hl => ?_)
  have cut_18 : ∀ (N_18 : Nat), ∀ (i r : Nat), x % rl φ n p0 - i < N_18 → (i ≤ x % rl φ n p0) → (r = it φ i p0) → (r < n) → ∀ (H : Heap) (locs : List Loc) (ls : Array Slot), va_P D cls [cW h wa ((n : Nat) : Int), cR cI wa 12 f] H → va_D (va_A [cW h wa ((n : Nat) : Int), cR cI wa 12 f] sz) [cW h wa ((n : Nat) : Int), cR cI wa 12 f] → va_S (va_A [cW h wa ((n : Nat) : Int), cR cI wa 12 f] sz) s.heap H locs → lv_has ls 6 [(0, .ref h), (1, .int (zI ((p0 : Nat) : Int))), (2, .int (zI ((x : Nat) : Int))), (3, .int (zI (((x % rl φ n p0) : Nat) : Int))), (4, .int (zI ((r : Nat) : Int))), (5, .int (zI ((i : Nat) : Int)))] → W p l e ({ frames := 1, cells := 0, slots := 0, locals := 23 }) s m args below meth c H locs 0 0 Qf (F0 m 18 ls []) := by
    intro N_18
    induction N_18 with
    | zero => intro i r hm_18; exact absurd hm_18 (Nat.not_lt_zero _)
    | succ N_18 ih_18 =>
      intro i r hm_18 hi hr4 hr5 H locs ls hP hD hS hl
      refine lv_iload hx hb dX2_placeAfter_18 (lv_at hl 5 rfl) ?_
      refine lv_iload_n hx hb dX2_placeAfter_20 rfl (lv_at hl 3 rfl) ?_
      refine z_icmp_ge (tgt := 39) hx hb (by omega) dX2_placeAfter_21 (by decide) (fun c_21 => ?_) (fun c_21 => ?_)
      · refine lv_iload hx hb dX2_placeAfter_39 (lv_at hl 4 rfl) ?_
        rw [← hQf]
        exact z_iret K hS () (by rw [hr4, show i = x % rl φ n p0 by omega]) hP hD dX2_placeAfter_41
      · refine lv_aload_n hx hb dX2_placeAfter_24 rfl (lv_at hl 0 rfl) ?_
        refine va_get (D := D) (ci := 2) (v := .ref wa) (C := RX2) (T := TX2) (N := 2) hx hb hts inT_X2 hown hE.1 hP 0 rfl rfl 1 (by decide) (hts _ qf_X2_9) (fun _ h9 => h9) rfl dX2_placeAfter_25 ?_
        refine lv_iload hx hb dX2_placeAfter_28 (lv_at hl 4 rfl) ?_
        have hφ_r := hφ (r) (by omega)
        refine z_iald hx hb hE hP 1 rfl r (by omega) (by omega) (by first | decide | omega) ((φ r : Nat) : Int) (hf (r) (by omega)) dX2_placeAfter_30 ?_
        refine lv_istore (lv' := [(4, .int (zI ((φ r : Nat) : Int))), (0, .ref h), (1, .int (zI ((p0 : Nat) : Int))), (2, .int (zI ((x : Nat) : Int))), (3, .int (zI (((x % rl φ n p0) : Nat) : Int))), (5, .int (zI ((i : Nat) : Int)))]) hx hb dX2_placeAfter_31 hl (by decide) rfl (fun ls hl => ?_)
        refine z_iinc (k := 5) (lv' := [(5, .int (zI (((i + 1) : Nat) : Int))), (4, .int (zI ((φ r : Nat) : Int))), (0, .ref h), (1, .int (zI ((p0 : Nat) : Int))), (2, .int (zI ((x : Nat) : Int))), (3, .int (zI (((x % rl φ n p0) : Nat) : Int)))]) hx hb (((i + 1) : Nat) : Int) (by omega) dX2_placeAfter_33 hl rfl (by decide) rfl (fun ls hl => ?_)
        refine lv_goto (tgt := 18) hx hb dX2_placeAfter_36 (by decide) ?_
        exact ih_18 (i + 1) (φ r) (by omega) (by omega) (by rw [hr4]; rfl) (by exact hφ_r) _ _ _ hP hD hS (lv_sub hl [2, 3, 4, 5, 1, 0] rfl)
  exact cut_18 (x % rl φ n p0 - 0 + 1) 0 p0 (Nat.lt_succ_self _) (by omega) (by rfl) (by exact hp0) _ _ _ hP hD hS (lv_sub hl [3, 4, 5, 2, 1, 0] rfl)
set_option maxHeartbeats 4000000 in
set_option maxRecDepth 100000 in
theorem c_X2_order (l : Launch) (D : va_G) (cI : ClassId) (h wa : Nat) (n : Nat) (f : Nat → Int) (φ : Nat → Nat) (hn : n ≤ 12) (hf : ∀ j, j < n → f j = ((φ j : Nat) : Int)) (hφ : ∀ j, j < n → φ j < n) : zMi l yX2_order cX2_order 4 (some .int) ({ frames := 1, cells := 0, slots := 0, locals := 25 }) D cI [.ref h] [cW h wa ((n : Nat) : Int), cR cI wa 12 f] (fun (z : Int) (u : Unit) => z = (((odN φ n n) : Nat) : Int)) (fun (u : Unit) => [cW h wa ((n : Nat) : Int), cR cI wa 12 f]) := by
  intro sz
  refine zstart rfl (by decide) (Nat.le_of_ble_eq_true rfl) ?_
  intro p e s m below meth c ls K hnm hsz hP hD hS hl
  generalize hargs : ([.ref h] : List Value).toArray = args at K ⊢
  generalize hQf : MQ below _ args s _ _ _ = Qf
  have K : zK p s m args meth c cX2_order 4 RX2 (some .int) D cI := K
  obtain ⟨hx, hb, hml, hown, hts, hE, -, -⟩ := id K
  have hA := zhA (ws0 := [cW h wa ((n : Nat) : Int), cR cI wa 12 f]) hsz
  have hl : lv_has ls 4 [(0, .ref h)] := hl
  refine lv_iconst (v := zI 1) hx hb dX2_order_0 rfl ?_
  refine lv_istore_n (lv' := [(1, .int (zI 1)), (0, .ref h)]) hx hb dX2_order_1 rfl hl (by decide) rfl (fun ls hl => ?_)
  refine lv_iconst (v := zI 0) hx hb dX2_order_2 rfl ?_
  refine lv_istore_n (lv' := [(2, .int (zI 0)), (1, .int (zI 1)), (0, .ref h)]) hx hb dX2_order_3 rfl hl (by decide) rfl (fun ls hl => ?_)
  have cut_4 : ∀ (N_4 : Nat), ∀ (i y : Nat), n - i < N_4 → (i ≤ n) → (y = odN φ n i) → ∀ (H : Heap) (locs : List Loc) (ls : Array Slot), va_P D cls [cW h wa ((n : Nat) : Int), cR cI wa 12 f] H → va_D (va_A [cW h wa ((n : Nat) : Int), cR cI wa 12 f] sz) [cW h wa ((n : Nat) : Int), cR cI wa 12 f] → va_S (va_A [cW h wa ((n : Nat) : Int), cR cI wa 12 f] sz) s.heap H locs → lv_has ls 4 [(0, .ref h), (1, .int (zI ((y : Nat) : Int))), (2, .int (zI ((i : Nat) : Int)))] → W p l e ({ frames := 1, cells := 0, slots := 0, locals := 25 }) s m args below meth c H locs 0 0 Qf (F0 m 4 ls []) := by
    intro N_4
    induction N_4 with
    | zero => intro i y hm_4; exact absurd hm_4 (Nat.not_lt_zero _)
    | succ N_4 ih_4 =>
      intro i y hm_4 hi hy H locs ls hP hD hS hl
      refine lv_iload_n hx hb dX2_order_4 rfl (lv_at hl 2 rfl) ?_
      refine lv_aload_n hx hb dX2_order_5 rfl (lv_at hl 0 rfl) ?_
      refine va_get (D := D) (ci := 2) (v := .int (zI ((n : Nat) : Int))) (C := RX2) (T := TX2) (N := 2) hx hb hts inT_X2 hown hE.1 hP 0 rfl rfl 0 (by decide) (hts _ qf_X2_15) (fun _ h9 => h9) rfl dX2_order_6 ?_
      refine z_icmp_ge (tgt := 38) hx hb (by omega) dX2_order_9 (by decide) (fun c_9 => ?_) (fun c_9 => ?_)
      · refine lv_iload_n hx hb dX2_order_38 rfl (lv_at hl 1 rfl) ?_
        rw [← hQf]
        exact z_iret K hS () (by rw [hy, show i = n by omega]) hP hD dX2_order_39
      · refine lv_aload_n hx hb dX2_order_12 rfl (lv_at hl 0 rfl) ?_
        refine lv_iload_n hx hb dX2_order_13 rfl (lv_at hl 2 rfl) ?_
        have hr1 := rl_pos φ n i
        have hr2 := rl_le (φ := φ) (n := n) (p := i) (by omega)
        have ho := od_le (φ := φ) (n := n) (i := i) hn hi
        rw [← hy] at ho
        have hgp : 0 < Nat.gcd y (rl φ n i) := Nat.gcd_pos_of_pos_left _ (by omega)
        have hgl : Nat.gcd y (rl φ n i) ≤ y := Nat.gcd_le_left _ (by omega)
        refine zcall_i (wc := [cW h wa ((n : Nat) : Int), cR cI wa 12 f]) (wr := []) (rest := []) hE hP hD hS hA [0, 1] [] [0, 1] rfl rfl (by decide) (by decide) (by decide) (fun (u : Unit) => [cW h wa ((n : Nat) : Int), cR cI wa 12 f]) (fun u => rfl) (fun hPc hDc => zrunV (As := [.int (zI ((i : Nat) : Int))]) (rest := []) (q0 := 0) (ci := 2) K k_X2_ringLength qm_X2_25 ⟨⟨rfl, rfl⟩, ⟨Nat.le_of_ble_eq_true rfl, Nat.le_of_ble_eq_true rfl⟩⟩ rfl rfl hPc hDc (c_X2_ringLength l D cI h wa n f φ i (by first | assumption | omega) (by first | assumption | omega) (by first | assumption | omega) (by first | assumption | omega) _) rfl hl.1 rfl (Nat.le_of_ble_eq_true rfl) dX2_order_14 ⟨Nat.zero_le _, Nat.zero_le _⟩) (by decide) (fun z u H locs hpost hP hD hS => ?_)
        subst hpost
        have hP : va_P D cls [cW h wa ((n : Nat) : Int), cR cI wa 12 f] H := hP
        have hD : va_D (va_A [cW h wa ((n : Nat) : Int), cR cI wa 12 f] sz) [cW h wa ((n : Nat) : Int), cR cI wa 12 f] := hD
        refine W.eq (g2 := F0 m 17 ls [.int (zI (((rl φ n i) : Nat) : Int))]) rfl ?_
        refine lv_istore_n (lv' := [(3, .int (zI (((rl φ n i) : Nat) : Int))), (0, .ref h), (1, .int (zI ((y : Nat) : Int))), (2, .int (zI ((i : Nat) : Int)))]) hx hb dX2_order_17 rfl hl (by decide) rfl (fun ls hl => ?_)
        refine lv_iload_n hx hb dX2_order_18 rfl (lv_at hl 2 rfl) ?_
        refine lv_iconst (v := zI 1) hx hb dX2_order_19 rfl ?_
        refine lv_iload_n hx hb dX2_order_20 rfl (lv_at hl 2 rfl) ?_
        refine lv_iload_n hx hb dX2_order_21 rfl (lv_at hl 0 rfl) ?_
        refine zcall_i (wc := []) (wr := [cW h wa ((n : Nat) : Int), cR cI wa 12 f]) (rest := [.int (zI 1), .int (zI ((y : Nat) : Int))]) hE hP hD hS hA [] [0, 1] [0, 1] rfl rfl (by decide) (by decide) (by decide) (fun (u : Unit) => [cW h wa ((n : Nat) : Int), cR cI wa 12 f]) (fun u => rfl) (fun hPc hDc => zrunSN (As := [.int (zI ((y : Nat) : Int)), .int (zI (((rl φ n i) : Nat) : Int))]) (rest := [.int (zI 1), .int (zI ((y : Nat) : Int))]) K k_X3_greatestDivisor nk_X2_34 ⟨⟨rfl, rfl⟩, ⟨Nat.le_of_ble_eq_true rfl, Nat.le_of_ble_eq_true rfl⟩⟩ hPc hDc (c_X3_greatestDivisor l D cI y (rl φ n i) (by first | assumption | omega) (by first | assumption | omega) _) rfl hl.1 rfl (Nat.le_of_ble_eq_true rfl) dX2_order_22 ⟨Nat.zero_le _, Nat.zero_le _⟩) (by decide) (fun z u H locs hpost hP hD hS => ?_)
        subst hpost
        have hP : va_P D cls [cW h wa ((n : Nat) : Int), cR cI wa 12 f] H := hP
        have hD : va_D (va_A [cW h wa ((n : Nat) : Int), cR cI wa 12 f] sz) [cW h wa ((n : Nat) : Int), cR cI wa 12 f] := hD
        refine W.eq (g2 := F0 m 25 ls [.int (zI (((Nat.gcd y (rl φ n i)) : Nat) : Int)), .int (zI 1), .int (zI ((y : Nat) : Int))]) rfl ?_
        refine z_Mmax hx hb (by rw [hml]; exact hl.1.symm) hown (hts _ qm_X2_29) (hts _ qs_Mmax) (hts _ qn_Math) (hts _ qc_Mmax) (by decide) (Nat.le_of_ble_eq_true rfl) (by decide) (by decide) (by omega) ((max 1 (Nat.gcd y (rl φ n i)) : Nat) : Int) (by split <;> omega) dX2_order_25 ?_
        refine z_idiv hx hb (((y / max 1 (Nat.gcd y (rl φ n i))) : Nat) : Int) (by omega) rfl dX2_order_28 ?_
        refine lv_iload_n hx hb dX2_order_29 rfl (lv_at hl 0 rfl) ?_
        refine z_imul hx hb ((Nat.lcm y (rl φ n i) : Nat) : Int) (by rw [← (od_step (a := y) (b := rl φ n i)).resolve_right (by omega)]; exact (Int.natCast_mul _ _).symm) dX2_order_30 ?_
        have hy2 : Nat.lcm y (rl φ n i) = odN φ n (i + 1) := by rw [hy]; rfl
        refine lv_istore_n (lv' := [(1, .int (zI ((Nat.lcm y (rl φ n i) : Nat) : Int))), (3, .int (zI (((rl φ n i) : Nat) : Int))), (0, .ref h), (2, .int (zI ((i : Nat) : Int)))]) hx hb dX2_order_31 rfl hl (by decide) rfl (fun ls hl => ?_)
        refine z_iinc (k := 3) (lv' := [(2, .int (zI (((i + 1) : Nat) : Int))), (1, .int (zI ((Nat.lcm y (rl φ n i) : Nat) : Int))), (3, .int (zI (((rl φ n i) : Nat) : Int))), (0, .ref h)]) hx hb (((i + 1) : Nat) : Int) (by omega) dX2_order_32 hl rfl (by decide) rfl (fun ls hl => ?_)
        refine lv_goto (tgt := 4) hx hb dX2_order_35 (by decide) ?_
        exact ih_4 (i + 1) (Nat.lcm y (rl φ n i)) (by omega) (by omega) (by exact hy2) _ _ _ hP hD hS (lv_sub hl [3, 1, 0] rfl)
  exact cut_4 (n - 0 + 1) 0 1 (Nat.lt_succ_self _) (by omega) (by rfl) _ _ _ hP hD hS (lv_sub hl [2, 1, 0] rfl)
set_option maxHeartbeats 4000000 in
set_option maxRecDepth 100000 in
theorem c_X2_isLeastOfRing (l : Launch) (D : va_G) (cI : ClassId) (h wa : Nat) (n : Nat) (f : Nat → Int) (φ : Nat → Nat) (p0 : Nat) (hn : n ≤ 12) (hf : ∀ j, j < n → f j = ((φ j : Nat) : Int)) (hφ : ∀ j, j < n → φ j < n) (hinj : inj φ n) (hp0 : p0 < n) : zMi l yX2_isLeastOfRing cX2_isLeastOfRing 4 (some .boolean) ({ frames := 0, cells := 0, slots := 0, locals := 0 }) D cI [.ref h, .int (zI ((p0 : Nat) : Int))] [cW h wa ((n : Nat) : Int), cR cI wa 12 f] (fun (z : Int) (u : Unit) => z = (b01 (lrB φ n p0 = true))) (fun (u : Unit) => [cW h wa ((n : Nat) : Int), cR cI wa 12 f]) := by
  intro sz
  refine zstart rfl (by decide) (Nat.le_of_ble_eq_true rfl) ?_
  intro p e s m below meth c ls K hnm hsz hP hD hS hl
  generalize hargs : ([.ref h, .int (zI ((p0 : Nat) : Int))] : List Value).toArray = args at K ⊢
  generalize hQf : MQ below _ args s _ _ _ = Qf
  have K : zK p s m args meth c cX2_isLeastOfRing 4 RX2 (some .boolean) D cI := K
  obtain ⟨hx, hb, hml, hown, hts, hE, -, -⟩ := id K
  have hA := zhA (ws0 := [cW h wa ((n : Nat) : Int), cR cI wa 12 f]) hsz
  have hl : lv_has ls 4 [(0, .ref h), (1, .int (zI ((p0 : Nat) : Int)))] := hl
  refine lv_aload_n hx hb dX2_isLeastOfRing_0 rfl (lv_at hl 0 rfl) ?_
  refine va_get (D := D) (ci := 2) (v := .ref wa) (C := RX2) (T := TX2) (N := 2) hx hb hts inT_X2 hown hE.1 hP 0 rfl rfl 1 (by decide) (hts _ qf_X2_9) (fun _ h9 => h9) rfl dX2_isLeastOfRing_1 ?_
  refine lv_iload_n hx hb dX2_isLeastOfRing_4 rfl (lv_at hl 1 rfl) ?_
  have hφ_p0 := hφ (p0) (by omega)
  refine z_iald hx hb hE hP 1 rfl p0 (by omega) (by omega) (by first | decide | omega) ((φ p0 : Nat) : Int) (hf (p0) (by omega)) dX2_isLeastOfRing_5 ?_
  refine lv_istore_n (lv' := [(2, .int (zI ((φ p0 : Nat) : Int))), (0, .ref h), (1, .int (zI ((p0 : Nat) : Int)))]) hx hb dX2_isLeastOfRing_6 rfl hl (by decide) rfl (fun ls hl => ?_)
  refine lv_iconst (v := zI 0) hx hb dX2_isLeastOfRing_7 rfl ?_
  refine lv_istore_n (lv' := [(3, .int (zI 0)), (2, .int (zI ((φ p0 : Nat) : Int))), (0, .ref h), (1, .int (zI ((p0 : Nat) : Int)))]) hx hb dX2_isLeastOfRing_8 rfl hl (by decide) rfl (fun ls hl => ?_)
  have cut_9 : ∀ (N_9 : Nat), ∀ (i r : Nat), n - i < N_9 → (i ≤ n) → (r = it φ (i + 1) p0) → (r < n) → (∀ j, j < i → p0 < it φ (j + 1) p0) → ∀ (H : Heap) (locs : List Loc) (ls : Array Slot), va_P D cls [cW h wa ((n : Nat) : Int), cR cI wa 12 f] H → va_D (va_A [cW h wa ((n : Nat) : Int), cR cI wa 12 f] sz) [cW h wa ((n : Nat) : Int), cR cI wa 12 f] → va_S (va_A [cW h wa ((n : Nat) : Int), cR cI wa 12 f] sz) s.heap H locs → lv_has ls 4 [(0, .ref h), (1, .int (zI ((p0 : Nat) : Int))), (2, .int (zI ((r : Nat) : Int))), (3, .int (zI ((i : Nat) : Int)))] → W p l e ({ frames := 0, cells := 0, slots := 0, locals := 0 }) s m args below meth c H locs 0 0 Qf (F0 m 9 ls []) := by
    intro N_9
    induction N_9 with
    | zero => intro i r hm_9; exact absurd hm_9 (Nat.not_lt_zero _)
    | succ N_9 ih_9 =>
      intro i r hm_9 hi hr1 hr2 hno H locs ls hP hD hS hl
      refine lv_iload_n hx hb dX2_isLeastOfRing_9 rfl (lv_at hl 3 rfl) ?_
      refine lv_aload_n hx hb dX2_isLeastOfRing_10 rfl (lv_at hl 0 rfl) ?_
      refine va_get (D := D) (ci := 2) (v := .int (zI ((n : Nat) : Int))) (C := RX2) (T := TX2) (N := 2) hx hb hts inT_X2 hown hE.1 hP 0 rfl rfl 0 (by decide) (hts _ qf_X2_15) (fun _ h9 => h9) rfl dX2_isLeastOfRing_11 ?_
      refine z_icmp_ge (tgt := 35) hx hb (by omega) dX2_isLeastOfRing_14 (by decide) (fun c_14 => ?_) (fun c_14 => ?_)
      · exfalso
        obtain ⟨mm, h8, h9⟩ := ring_ex hφ hinj hp0
        have h7 := hno mm (by omega)
        omega
      · refine lv_iload_n hx hb dX2_isLeastOfRing_17 rfl (lv_at hl 2 rfl) ?_
        refine lv_iload_n hx hb dX2_isLeastOfRing_18 rfl (lv_at hl 1 rfl) ?_
        refine z_icmp_le (tgt := 35) hx hb (by omega) dX2_isLeastOfRing_19 (by decide) (fun c_19 => ?_) (fun c_19 => ?_)
        · refine lv_iload_n hx hb dX2_isLeastOfRing_35 rfl (lv_at hl 2 rfl) ?_
          refine lv_iload_n hx hb dX2_isLeastOfRing_36 rfl (lv_at hl 1 rfl) ?_
          refine z_icmp_ne (tgt := 44) hx hb (by omega) dX2_isLeastOfRing_37 (by decide) (fun c_37 => ?_) (fun c_37 => ?_)
          · refine lv_iconst (v := zI 0) hx hb dX2_isLeastOfRing_44 rfl ?_
            rw [← hQf]
            exact z_bret K hS () (by first | exact (b01_t (lrB_t (i := i) (fun mm h9 => Nat.le_of_lt (hno mm h9)) (by omega))).symm | exact (b01_f (by rw [lrB_f (i := i) (by omega) (by omega)]; decide)).symm) (by omega) hP hD dX2_isLeastOfRing_45
          · refine lv_iconst (v := zI 1) hx hb dX2_isLeastOfRing_40 rfl ?_
            refine lv_goto (tgt := 45) hx hb dX2_isLeastOfRing_41 (by decide) ?_
            rw [← hQf]
            exact z_bret K hS () (by first | exact (b01_t (lrB_t (i := i) (fun mm h9 => Nat.le_of_lt (hno mm h9)) (by omega))).symm | exact (b01_f (by rw [lrB_f (i := i) (by omega) (by omega)]; decide)).symm) (by omega) hP hD dX2_isLeastOfRing_45
        · refine lv_aload_n hx hb dX2_isLeastOfRing_22 rfl (lv_at hl 0 rfl) ?_
          refine va_get (D := D) (ci := 2) (v := .ref wa) (C := RX2) (T := TX2) (N := 2) hx hb hts inT_X2 hown hE.1 hP 0 rfl rfl 1 (by decide) (hts _ qf_X2_9) (fun _ h9 => h9) rfl dX2_isLeastOfRing_23 ?_
          refine lv_iload_n hx hb dX2_isLeastOfRing_26 rfl (lv_at hl 2 rfl) ?_
          have hφ_r := hφ (r) (by omega)
          refine z_iald hx hb hE hP 1 rfl r (by omega) (by omega) (by first | decide | omega) ((φ r : Nat) : Int) (hf (r) (by omega)) dX2_isLeastOfRing_27 ?_
          refine lv_istore_n (lv' := [(2, .int (zI ((φ r : Nat) : Int))), (0, .ref h), (1, .int (zI ((p0 : Nat) : Int))), (3, .int (zI ((i : Nat) : Int)))]) hx hb dX2_isLeastOfRing_28 rfl hl (by decide) rfl (fun ls hl => ?_)
          refine z_iinc (k := 3) (lv' := [(3, .int (zI (((i + 1) : Nat) : Int))), (2, .int (zI ((φ r : Nat) : Int))), (0, .ref h), (1, .int (zI ((p0 : Nat) : Int)))]) hx hb (((i + 1) : Nat) : Int) (by omega) dX2_isLeastOfRing_29 hl rfl (by decide) rfl (fun ls hl => ?_)
          refine lv_goto (tgt := 9) hx hb dX2_isLeastOfRing_32 (by decide) ?_
          exact ih_9 (i + 1) (φ r) (by omega) (by omega) (by rw [hr1]; rfl) (by omega) (by intro j hj; rcases Nat.lt_or_ge j i with h1 | h1; exact hno j h1; rw [show j = i by omega, ← hr1]; omega) _ _ _ hP hD hS (lv_sub hl [2, 3, 1, 0] rfl)
  exact cut_9 (n - 0 + 1) 0 (φ p0) (Nat.lt_succ_self _) (by omega) (by rfl) (by omega) (by intro j hj; omega) _ _ _ hP hD hS (lv_sub hl [2, 3, 1, 0] rfl)
set_option maxHeartbeats 4000000 in
set_option maxRecDepth 100000 in
theorem c_X2_ringCount (l : Launch) (D : va_G) (cI : ClassId) (h wa : Nat) (n : Nat) (f : Nat → Int) (φ : Nat → Nat) (hn : n ≤ 12) (hf : ∀ j, j < n → f j = ((φ j : Nat) : Int)) (hφ : ∀ j, j < n → φ j < n) (hinj : inj φ n) : zMi l yX2_ringCount cX2_ringCount 3 (some .int) ({ frames := 1, cells := 0, slots := 0, locals := 23 }) D cI [.ref h] [cW h wa ((n : Nat) : Int), cR cI wa 12 f] (fun (z : Int) (u : Unit) => z = (((fb_ct (fun j => lrB φ n j) n) : Nat) : Int)) (fun (u : Unit) => [cW h wa ((n : Nat) : Int), cR cI wa 12 f]) := by
  intro sz
  refine zstart rfl (by decide) (Nat.le_of_ble_eq_true rfl) ?_
  intro p e s m below meth c ls K hnm hsz hP hD hS hl
  generalize hargs : ([.ref h] : List Value).toArray = args at K ⊢
  generalize hQf : MQ below _ args s _ _ _ = Qf
  have K : zK p s m args meth c cX2_ringCount 3 RX2 (some .int) D cI := K
  obtain ⟨hx, hb, hml, hown, hts, hE, -, -⟩ := id K
  have hA := zhA (ws0 := [cW h wa ((n : Nat) : Int), cR cI wa 12 f]) hsz
  have hl : lv_has ls 3 [(0, .ref h)] := hl
  refine lv_iconst (v := zI 0) hx hb dX2_ringCount_0 rfl ?_
  refine lv_istore_n (lv' := [(1, .int (zI 0)), (0, .ref h)]) hx hb dX2_ringCount_1 rfl hl (by decide) rfl (fun ls hl => ?_)
  refine lv_iconst (v := zI 0) hx hb dX2_ringCount_2 rfl ?_
  refine lv_istore_n (lv' := [(2, .int (zI 0)), (1, .int (zI 0)), (0, .ref h)]) hx hb dX2_ringCount_3 rfl hl (by decide) rfl (fun ls hl => ?_)
  have cut_4 : ∀ (N_4 : Nat), ∀ (i y : Nat), n - i < N_4 → (i ≤ n) → (y = fb_ct (fun j => lrB φ n j) i) → ∀ (H : Heap) (locs : List Loc) (ls : Array Slot), va_P D cls [cW h wa ((n : Nat) : Int), cR cI wa 12 f] H → va_D (va_A [cW h wa ((n : Nat) : Int), cR cI wa 12 f] sz) [cW h wa ((n : Nat) : Int), cR cI wa 12 f] → va_S (va_A [cW h wa ((n : Nat) : Int), cR cI wa 12 f] sz) s.heap H locs → lv_has ls 3 [(0, .ref h), (1, .int (zI ((y : Nat) : Int))), (2, .int (zI ((i : Nat) : Int)))] → W p l e ({ frames := 1, cells := 0, slots := 0, locals := 23 }) s m args below meth c H locs 0 0 Qf (F0 m 4 ls []) := by
    intro N_4
    induction N_4 with
    | zero => intro i y hm_4; exact absurd hm_4 (Nat.not_lt_zero _)
    | succ N_4 ih_4 =>
      intro i y hm_4 hi hy H locs ls hP hD hS hl
      refine lv_iload_n hx hb dX2_ringCount_4 rfl (lv_at hl 2 rfl) ?_
      refine lv_aload_n hx hb dX2_ringCount_5 rfl (lv_at hl 0 rfl) ?_
      refine va_get (D := D) (ci := 2) (v := .int (zI ((n : Nat) : Int))) (C := RX2) (T := TX2) (N := 2) hx hb hts inT_X2 hown hE.1 hP 0 rfl rfl 0 (by decide) (hts _ qf_X2_15) (fun _ h9 => h9) rfl dX2_ringCount_6 ?_
      refine z_icmp_ge (tgt := 29) hx hb (by omega) dX2_ringCount_9 (by decide) (fun c_9 => ?_) (fun c_9 => ?_)
      · refine lv_iload_n hx hb dX2_ringCount_29 rfl (lv_at hl 1 rfl) ?_
        rw [← hQf]
        exact z_iret K hS () (by rw [hy, show i = n by omega]) hP hD dX2_ringCount_30
      · refine lv_aload_n hx hb dX2_ringCount_12 rfl (lv_at hl 0 rfl) ?_
        refine lv_iload_n hx hb dX2_ringCount_13 rfl (lv_at hl 2 rfl) ?_
        refine zcall_i (wc := [cW h wa ((n : Nat) : Int), cR cI wa 12 f]) (wr := []) (rest := []) hE hP hD hS hA [0, 1] [] [0, 1] rfl rfl (by decide) (by decide) (by decide) (fun (u : Unit) => [cW h wa ((n : Nat) : Int), cR cI wa 12 f]) (fun u => rfl) (fun hPc hDc => zrunV (As := [.int (zI ((i : Nat) : Int))]) (rest := []) (q0 := 0) (ci := 2) K k_X2_isLeastOfRing qm_X2_37 ⟨⟨rfl, rfl⟩, ⟨Nat.le_of_ble_eq_true rfl, Nat.le_of_ble_eq_true rfl⟩⟩ rfl rfl hPc hDc (c_X2_isLeastOfRing l D cI h wa n f φ i (by first | assumption | omega) (by first | assumption | omega) (by first | assumption | omega) (by first | assumption | omega) (by first | assumption | omega) _) rfl hl.1 rfl (Nat.le_of_ble_eq_true rfl) dX2_ringCount_14 ⟨Nat.zero_le _, Nat.zero_le _⟩) (by decide) (fun z u H locs hpost hP hD hS => ?_)
        subst hpost
        have hP : va_P D cls [cW h wa ((n : Nat) : Int), cR cI wa 12 f] H := hP
        have hD : va_D (va_A [cW h wa ((n : Nat) : Int), cR cI wa 12 f] sz) [cW h wa ((n : Nat) : Int), cR cI wa 12 f] := hD
        refine W.eq (g2 := F0 m 17 ls [.int (zI (b01 (lrB φ n i = true)))]) rfl ?_
        refine z_if_eq (tgt := 23) hx hb (by have := b01_r (lrB φ n i = true); omega) dX2_ringCount_17 (by decide) (fun c_17 => ?_) (fun c_17 => ?_)
        · have hy2 : y = fb_ct (fun j => lrB φ n j) (i + 1) := by rw [ct_f (by simpa using b01_eq c_17)]; exact hy
          refine z_iinc (k := 2) (lv' := [(2, .int (zI (((i + 1) : Nat) : Int))), (0, .ref h), (1, .int (zI ((y : Nat) : Int)))]) hx hb (((i + 1) : Nat) : Int) (by omega) dX2_ringCount_23 hl rfl (by decide) rfl (fun ls hl => ?_)
          refine lv_goto (tgt := 4) hx hb dX2_ringCount_26 (by decide) ?_
          exact ih_4 (i + 1) y (by omega) (by omega) (by first | exact hy1 | exact hy2) _ _ _ hP hD hS (lv_sub hl [1, 2, 0] rfl)
        · have hy1 : y + 1 = fb_ct (fun j => lrB φ n j) (i + 1) := by rw [ct_t (by simpa using b01_ne c_17)]; omega
          refine z_iinc (k := 1) (lv' := [(1, .int (zI (((y + 1) : Nat) : Int))), (0, .ref h), (2, .int (zI ((i : Nat) : Int)))]) hx hb (((y + 1) : Nat) : Int) (by omega) dX2_ringCount_20 hl rfl (by decide) rfl (fun ls hl => ?_)
          refine z_iinc (k := 2) (lv' := [(2, .int (zI (((i + 1) : Nat) : Int))), (1, .int (zI (((y + 1) : Nat) : Int))), (0, .ref h)]) hx hb (((i + 1) : Nat) : Int) (by omega) dX2_ringCount_23 hl rfl (by decide) rfl (fun ls hl => ?_)
          refine lv_goto (tgt := 4) hx hb dX2_ringCount_26 (by decide) ?_
          exact ih_4 (i + 1) (y + 1) (by omega) (by omega) (by first | exact hy1 | exact hy2) _ _ _ hP hD hS (lv_sub hl [2, 1, 0] rfl)
  exact cut_4 (n - 0 + 1) 0 0 (Nat.lt_succ_self _) (by omega) (by rfl) _ _ _ hP hD hS (lv_sub hl [2, 1, 0] rfl)
set_option maxHeartbeats 4000000 in
set_option maxRecDepth 100000 in
theorem c_X2_longestRing (l : Launch) (D : va_G) (cI : ClassId) (h wa : Nat) (n : Nat) (f : Nat → Int) (φ : Nat → Nat) (hn : n ≤ 12) (hf : ∀ j, j < n → f j = ((φ j : Nat) : Int)) (hφ : ∀ j, j < n → φ j < n) : zMi l yX2_longestRing cX2_longestRing 3 (some .int) ({ frames := 1, cells := 0, slots := 0, locals := 23 }) D cI [.ref h] [cW h wa ((n : Nat) : Int), cR cI wa 12 f] (fun (z : Int) (u : Unit) => z = (((mx (rl φ n) n) : Nat) : Int)) (fun (u : Unit) => [cW h wa ((n : Nat) : Int), cR cI wa 12 f]) := by
  intro sz
  refine zstart rfl (by decide) (Nat.le_of_ble_eq_true rfl) ?_
  intro p e s m below meth c ls K hnm hsz hP hD hS hl
  generalize hargs : ([.ref h] : List Value).toArray = args at K ⊢
  generalize hQf : MQ below _ args s _ _ _ = Qf
  have K : zK p s m args meth c cX2_longestRing 3 RX2 (some .int) D cI := K
  obtain ⟨hx, hb, hml, hown, hts, hE, -, -⟩ := id K
  have hA := zhA (ws0 := [cW h wa ((n : Nat) : Int), cR cI wa 12 f]) hsz
  have hl : lv_has ls 3 [(0, .ref h)] := hl
  refine lv_iconst (v := zI 0) hx hb dX2_longestRing_0 rfl ?_
  refine lv_istore_n (lv' := [(1, .int (zI 0)), (0, .ref h)]) hx hb dX2_longestRing_1 rfl hl (by decide) rfl (fun ls hl => ?_)
  refine lv_iconst (v := zI 0) hx hb dX2_longestRing_2 rfl ?_
  refine lv_istore_n (lv' := [(2, .int (zI 0)), (1, .int (zI 0)), (0, .ref h)]) hx hb dX2_longestRing_3 rfl hl (by decide) rfl (fun ls hl => ?_)
  have cut_4 : ∀ (N_4 : Nat), ∀ (i y : Nat), n - i < N_4 → (i ≤ n) → (y = mx (rl φ n) i) → (y ≤ 12) → ∀ (H : Heap) (locs : List Loc) (ls : Array Slot), va_P D cls [cW h wa ((n : Nat) : Int), cR cI wa 12 f] H → va_D (va_A [cW h wa ((n : Nat) : Int), cR cI wa 12 f] sz) [cW h wa ((n : Nat) : Int), cR cI wa 12 f] → va_S (va_A [cW h wa ((n : Nat) : Int), cR cI wa 12 f] sz) s.heap H locs → lv_has ls 3 [(0, .ref h), (1, .int (zI ((y : Nat) : Int))), (2, .int (zI ((i : Nat) : Int)))] → W p l e ({ frames := 1, cells := 0, slots := 0, locals := 23 }) s m args below meth c H locs 0 0 Qf (F0 m 4 ls []) := by
    intro N_4
    induction N_4 with
    | zero => intro i y hm_4; exact absurd hm_4 (Nat.not_lt_zero _)
    | succ N_4 ih_4 =>
      intro i y hm_4 hi hy hy0 H locs ls hP hD hS hl
      refine lv_iload_n hx hb dX2_longestRing_4 rfl (lv_at hl 2 rfl) ?_
      refine lv_aload_n hx hb dX2_longestRing_5 rfl (lv_at hl 0 rfl) ?_
      refine va_get (D := D) (ci := 2) (v := .int (zI ((n : Nat) : Int))) (C := RX2) (T := TX2) (N := 2) hx hb hts inT_X2 hown hE.1 hP 0 rfl rfl 0 (by decide) (hts _ qf_X2_15) (fun _ h9 => h9) rfl dX2_longestRing_6 ?_
      refine z_icmp_ge (tgt := 28) hx hb (by omega) dX2_longestRing_9 (by decide) (fun c_9 => ?_) (fun c_9 => ?_)
      · refine lv_iload_n hx hb dX2_longestRing_28 rfl (lv_at hl 1 rfl) ?_
        rw [← hQf]
        exact z_iret K hS () (by rw [hy, show i = n by omega]) hP hD dX2_longestRing_29
      · refine lv_iload_n hx hb dX2_longestRing_12 rfl (lv_at hl 1 rfl) ?_
        refine lv_aload_n hx hb dX2_longestRing_13 rfl (lv_at hl 0 rfl) ?_
        refine lv_iload_n hx hb dX2_longestRing_14 rfl (lv_at hl 2 rfl) ?_
        have hr2 := rl_le (φ := φ) (n := n) (p := i) (by omega)
        refine zcall_i (wc := [cW h wa ((n : Nat) : Int), cR cI wa 12 f]) (wr := []) (rest := [.int (zI ((y : Nat) : Int))]) hE hP hD hS hA [0, 1] [] [0, 1] rfl rfl (by decide) (by decide) (by decide) (fun (u : Unit) => [cW h wa ((n : Nat) : Int), cR cI wa 12 f]) (fun u => rfl) (fun hPc hDc => zrunV (As := [.int (zI ((i : Nat) : Int))]) (rest := [.int (zI ((y : Nat) : Int))]) (q0 := 0) (ci := 2) K k_X2_ringLength qm_X2_25 ⟨⟨rfl, rfl⟩, ⟨Nat.le_of_ble_eq_true rfl, Nat.le_of_ble_eq_true rfl⟩⟩ rfl rfl hPc hDc (c_X2_ringLength l D cI h wa n f φ i (by first | assumption | omega) (by first | assumption | omega) (by first | assumption | omega) (by first | assumption | omega) _) rfl hl.1 rfl (Nat.le_of_ble_eq_true rfl) dX2_longestRing_15 ⟨Nat.zero_le _, Nat.zero_le _⟩) (by decide) (fun z u H locs hpost hP hD hS => ?_)
        subst hpost
        have hP : va_P D cls [cW h wa ((n : Nat) : Int), cR cI wa 12 f] H := hP
        have hD : va_D (va_A [cW h wa ((n : Nat) : Int), cR cI wa 12 f] sz) [cW h wa ((n : Nat) : Int), cR cI wa 12 f] := hD
        refine W.eq (g2 := F0 m 18 ls [.int (zI (((rl φ n i) : Nat) : Int)), .int (zI ((y : Nat) : Int))]) rfl ?_
        refine z_Mmax hx hb (by rw [hml]; exact hl.1.symm) hown (hts _ qm_X2_29) (hts _ qs_Mmax) (hts _ qn_Math) (hts _ qc_Mmax) (by decide) (Nat.le_of_ble_eq_true rfl) (by decide) (by decide) (by omega) ((max y (rl φ n i) : Nat) : Int) (by split <;> omega) dX2_longestRing_18 ?_
        refine lv_istore_n (lv' := [(1, .int (zI ((max y (rl φ n i) : Nat) : Int))), (0, .ref h), (2, .int (zI ((i : Nat) : Int)))]) hx hb dX2_longestRing_21 rfl hl (by decide) rfl (fun ls hl => ?_)
        refine z_iinc (k := 2) (lv' := [(2, .int (zI (((i + 1) : Nat) : Int))), (1, .int (zI ((max y (rl φ n i) : Nat) : Int))), (0, .ref h)]) hx hb (((i + 1) : Nat) : Int) (by omega) dX2_longestRing_22 hl rfl (by decide) rfl (fun ls hl => ?_)
        refine lv_goto (tgt := 4) hx hb dX2_longestRing_25 (by decide) ?_
        exact ih_4 (i + 1) (max y (rl φ n i)) (by omega) (by omega) (by rw [hy]; rfl) (by omega) _ _ _ hP hD hS (lv_sub hl [2, 1, 0] rfl)
  exact cut_4 (n - 0 + 1) 0 0 (Nat.lt_succ_self _) (by omega) (by rfl) (by omega) _ _ _ hP hD hS (lv_sub hl [2, 1, 0] rfl)
end
section
theorem zL_nat (n : Nat) : zL (n : Int) = lN n := by first | rfl | (show Int64.ofInt (n : Int) = Int64.ofNat n; simp) | exact Int64.ofInt_eq_ofNat
theorem zL_2i (n : Nat) : (zL (n : Int)).toInt32 = zI (n : Int) := by rw [zL_nat, zI_nat]; exact lN_i n
section Z5
variable {p : Program} {l : Launch} {e : Env} {R : Room} {s : State} {m : MethodId} {args : Array Value} {below : List Frame} {meth : Method} {c : Code} {H : Heap} {locs : List Loc} {cells slots : Nat} {Q : State → Prop}
variable {cc : ByteArray} {pc : Nat} {ls : Array Slot} {rest : List Value}
theorem zL_ne0 {b : Nat} (hb : 0 < b ∧ b < 9223372036854775808) : ¬ zL (b : Int) = 0 := by
  intro h
  have h2 := (zL_eq (a := (b : Int)) (b := 0) (by omega) (by omega)).mp h
  omega
theorem z_ldiv (hx : p.tables.exec = Jvm.exec) (hb : c.code = cc) {x y : Int} (a b : Nat) (hxa : x = (a : Int)) (hyb : y = (b : Int)) (hr : a < 9223372036854775808 ∧ (0 < b ∧ b < 9223372036854775808)) (hdg : decode cc pc = .ok (.ldiv, 1)) (k : W p l e R s m args below meth c H locs cells slots Q (F0 m (pc + 1) ls (.long (zL ((a / b : Nat) : Int)) :: rest))) : W p l e R s m args below meth c H locs cells slots Q (F0 m pc ls (.long (zL y) :: .long (zL x) :: rest)) := by
  subst hxa; subst hyb
  refine lv_ldiv hx hb hdg (zL_ne0 hr.2) ?_
  rw [zL_nat, zL_nat, pk_lDiv (by omega) hr.2.1 (by omega), ← zL_nat]; exact k
theorem z_lrem (hx : p.tables.exec = Jvm.exec) (hb : c.code = cc) {x y : Int} (a b : Nat) (hxa : x = (a : Int)) (hyb : y = (b : Int)) (hr : a < 9223372036854775808 ∧ (0 < b ∧ b < 9223372036854775808)) (hdg : decode cc pc = .ok (.lrem, 1)) (k : W p l e R s m args below meth c H locs cells slots Q (F0 m (pc + 1) ls (.long (zL ((a % b : Nat) : Int)) :: rest))) : W p l e R s m args below meth c H locs cells slots Q (F0 m pc ls (.long (zL y) :: .long (zL x) :: rest)) := by
  subst hxa; subst hyb
  refine lv_lrem hx hb hdg (zL_ne0 hr.2) ?_
  rw [zL_nat, zL_nat, pk_lRem (by omega) hr.2.1 (by omega), ← zL_nat]; exact k
theorem z_l2i (hx : p.tables.exec = Jvm.exec) (hb : c.code = cc) {x : Int} (a : Nat) (hxa : x = (a : Int)) (hdg : decode cc pc = .ok (.l2i, 1)) (k : W p l e R s m args below meth c H locs cells slots Q (F0 m (pc + 1) ls (.int (zI (a : Int)) :: rest))) : W p l e R s m args below meth c H locs cells slots Q (F0 m pc ls (.long (zL x) :: rest)) := by
  subst hxa
  exact lv_l2i hx hb hdg (zL_2i a) k
end Z5
theorem zI_shr {b i : Nat} (hb : b < 1024) (hi : i < 10) : zI ((b : Nat) : Int) >>> (zI ((i : Nat) : Int) &&& 31) = zI ((b / 2 ^ i : Nat) : Int) := by
  rw [zI_nat, zI_nat, zI_nat]
  have hs : ∀ i, i < 10 → ((nI i &&& 31).toBitVec.smod 32).toNat = i := by decide +kernel
  exact pk_shrN (by omega) _ i (hs i hi)
theorem zI_and1 {b : Nat} (hb : b < 2147483648) : zI ((b : Nat) : Int) &&& zI 1 = zI ((b % 2 : Nat) : Int) := by
  rw [zI_nat, zI_nat]
  exact pk_andN (by omega) 1 (by decide)
theorem btN_bit {P : Nat → Bool} : ∀ {m i : Nat}, i < m → btN P m / 2 ^ i % 2 = if P i then 1 else 0
  | 0, i, h => absurd h (Nat.not_lt_zero _)
  | m + 1, i, h => by
    have hp : 0 < 2 ^ i := Nat.pos_of_ne_zero (by simp)
    by_cases h1 : i = m
    · subst h1
      have h2 := btN_lt P i
      rw [btN]
      split
      · rw [Nat.add_div_right _ hp, Nat.div_eq_of_lt h2]
      · rw [Nat.add_zero, Nat.div_eq_of_lt h2]
    · rw [btN]
      split
      · have e : 2 ^ m = 2 ^ i * (2 * 2 ^ (m - i - 1)) := by
          rw [← Nat.mul_assoc, Nat.mul_comm (2 ^ i) 2, Nat.mul_assoc, ← Nat.pow_add, show i + (m - i - 1) = m - 1 by omega]
          rw [show m = (m - 1) + 1 by omega, Nat.pow_succ, Nat.mul_comm]; simp
        rw [e, Nat.add_mul_div_left _ _ hp, Nat.add_mul_mod_self_left]
        exact btN_bit (by omega)
      · rw [Nat.add_zero]; exact btN_bit (by omega)
/-! all steps, one behind the other -/
def rdc (μ : Nat → Nat → Nat) : Nat → Nat → Nat
  | 0, i => i
  | q + 1, i => μ q (rdc μ q i)
theorem rdc_lt {μ : Nat → Nat → Nat} {n k : Nat} (hμ : ∀ a i, a < k → i < n → μ a i < n) : ∀ {q i : Nat}, q ≤ k → i < n → rdc μ q i < n
  | 0, _, _, h => h
  | q + 1, i, h1, h => hμ q _ (by omega) (rdc_lt hμ (by omega) h)
/-! watching -/
def lwc (n kd : Nat) (P : Nat → Bool) (p0 m q : Nat) : Nat := fb_ct (fun nm => P nm && decide (mv n kd nm p0 = q)) m
def lw (n kd : Nat) (P : Nat → Bool) (p0 : Nat) : Nat := mx (lwc n kd P p0 10) n
theorem lwc_f {n kd p0 m q : Nat} {P : Nat → Bool} (h : P m = false ∨ mv n kd m p0 ≠ q) : lwc n kd P p0 (m + 1) q = lwc n kd P p0 m q := by
  unfold lwc; rw [ct_f]; rcases h with h | h <;> simp [h]
theorem lwc_t {n kd p0 m q : Nat} {P : Nat → Bool} (h : P m = true) (h2 : mv n kd m p0 = q) : lwc n kd P p0 (m + 1) q = lwc n kd P p0 m q + 1 := by
  unfold lwc; rw [ct_t]; simp [h, h2]
theorem lwc_le (n kd : Nat) (P : Nat → Bool) (p0 m q : Nat) : lwc n kd P p0 m q ≤ m := fb_ct_le _ _
theorem mx_cong {f g : Nat → Nat} : ∀ {n : Nat}, (∀ i, i < n → f i = g i) → mx f n = mx g n
  | 0, _ => rfl
  | n + 1, h => by rw [mx, mx, mx_cong (fun i hi => h i (by omega)), h n (by omega)]
theorem mx_up {f g : Nat → Nat} {t : Nat} : ∀ {n : Nat}, t < n → (∀ i, i < n → i ≠ t → g i = f i) → f t ≤ g t → mx g n = max (mx f n) (g t)
  | 0, h, _, _ => absurd h (Nat.not_lt_zero _)
  | n + 1, h, he, hl => by
    rw [mx, mx]
    by_cases h1 : t = n
    · subst h1
      rw [mx_cong (f := g) (g := f) (fun i hi => he i (by omega) (by omega))]
      omega
    · rw [mx_up (n := n) (by omega) (fun i hi => he i (by omega)) hl, he n (by omega) (by omega)]
      omega
theorem mx_0 : ∀ n, mx (fun _ => 0) n = 0
  | 0 => rfl
  | n + 1 => by rw [mx, mx_0 n]; rfl
def wfN (f : Nat → Nat) : Nat → Nat
  | 0 => 11
  | i + 1 => if f i < wfN f i then f i else wfN f i
def wbN (f : Nat → Nat) : Nat → Nat
  | 0 => 0
  | i + 1 => if f i < wfN f i then i else wbN f i
theorem wfN_le (f : Nat → Nat) : ∀ i, wfN f i ≤ 11
  | 0 => Nat.le_refl _
  | i + 1 => by have := wfN_le f i; rw [wfN]; split <;> omega
/-! by how few steps -/
def fsI (P : Nat → Bool) (k : Nat) : Int := if fa_first P k < k then ((fa_first P k : Nat) : Int) else -1
theorem fsI_r (P : Nat → Bool) {k : Nat} (hk : k ≤ 6) : -1 ≤ fsI P k ∧ fsI P k < 6 := by unfold fsI; split <;> omega
theorem fsI_no {P : Nat → Bool} {k : Nat} (h : fsI P k = -1) : ∀ a, a < k → P a = false := by
  intro a ha
  unfold fsI at h
  split at h
  · omega
  · exact fa_first_no P k a (by omega)
theorem fsI_yes {P : Nat → Bool} {k : Nat} (h : fsI P k ≠ -1) : ∃ a, a < k ∧ P a = true := by
  unfold fsI at h
  split at h
  · exact ⟨_, by assumption, fa_first_yes P k (by assumption)⟩
  · exact absurd rfl h
theorem fsI_cong {P Q : Nat → Bool} {k : Nat} (h : ∀ a, a < k → P a = Q a) : fsI P k = fsI Q k := by
  have e : fa_first P k = fa_first Q k := by
    have h1 := fa_first_le Q k
    refine fa_is (fun a ha => ?_) ?_
    · rw [h a (by omega)]; exact fa_first_no Q k a ha
    · rcases Nat.lt_or_ge (fa_first Q k) k with h2 | h2
      · exact Or.inr ⟨h2, by rw [h _ h2]; exact fa_first_yes Q k h2⟩
      · exact Or.inl (by omega)
  unfold fsI; rw [e]
def dT (μ : Nat → Nat → Nat) (k g0 : Nat) : Nat → Nat → Int
  | 0, q => if q = g0 then 0 else -1
  | d + 1, q => if dT μ k g0 d q = -1 ∧ fsI (fun a => decide (dT μ k g0 d (μ a q) = (d : Int))) k ≠ -1 then (d : Int) + 1 else dT μ k g0 d q
theorem dT_r (μ : Nat → Nat → Nat) (k g0 : Nat) : ∀ d q, -1 ≤ dT μ k g0 d q ∧ dT μ k g0 d q ≤ (d : Int)
  | 0, q => by rw [dT]; split <;> omega
  | d + 1, q => by have := dT_r μ k g0 d q; rw [dT]; split <;> omega
theorem dT_t {μ : Nat → Nat → Nat} {k g0 d q : Nat} (h1 : dT μ k g0 d q = -1) (h2 : fsI (fun a => decide (dT μ k g0 d (μ a q) = (d : Int))) k ≠ -1) : dT μ k g0 (d + 1) q = (d : Int) + 1 := by rw [dT, if_pos ⟨h1, h2⟩]
theorem dT_f {μ : Nat → Nat → Nat} {k g0 d q : Nat} (h : dT μ k g0 d q ≠ -1 ∨ fsI (fun a => decide (dT μ k g0 d (μ a q) = (d : Int))) k = -1) : dT μ k g0 (d + 1) q = dT μ k g0 d q := by
  rw [dT, if_neg (fun h2 => by rcases h with h | h; exact h h2.1; exact h2.2 h)]
theorem dT_same (μ : Nat → Nat → Nat) (k g0 d q : Nat) : dT μ k g0 (d + 1) q = (d : Int) ↔ dT μ k g0 d q = (d : Int) := by
  rw [dT]
  constructor
  · intro h; split at h
    · omega
    · exact h
  · intro h; rw [if_neg (fun h2 => by omega)]; exact h
/-! home -/
def pth (μ : Nat → Nat → Nat) (δ : Nat → Nat) : Nat → Nat → Nat
  | 0, i => i
  | q + 1, i => μ (δ q) (pth μ δ q i)
theorem pth_lt {μ : Nat → Nat → Nat} {δ : Nat → Nat} {n k : Nat} (hμ : ∀ a i, a < k → i < n → μ a i < n) : ∀ {q i : Nat}, (∀ a, a < q → δ a < k) → i < n → pth μ δ q i < n
  | 0, _, _, h => h
  | q + 1, i, h1, h => hμ _ _ (h1 q (by omega)) (pth_lt hμ (fun a ha => h1 a (by omega)) h)
def homB (μ : Nat → Nat → Nat) (δ π : Nat → Nat) (L n : Nat) : Bool := decide (∀ i, i < n → pth μ δ L i = π i)
def dg (k L no i : Nat) : Nat := no / k ^ (L - 1 - i) % k
def nup (g : Nat → Nat) (q v : Nat) : Nat → Nat := fun i => if i = q then v else g i
def nx (k : Nat) : (Nat → Nat) → Nat → (Nat → Nat)
  | δ, 0 => δ
  | δ, i + 1 => if δ i + 1 < k then nup δ i (δ i + 1) else nx k (nup δ i 0) i
theorem nx_t {k i : Nat} {δ : Nat → Nat} (h : δ i + 1 < k) : nx k δ (i + 1) = nup δ i (δ i + 1) := by rw [nx, if_pos h]
theorem nx_f {k i : Nat} {δ : Nat → Nat} (h : k ≤ δ i + 1) : nx k δ (i + 1) = nx k (nup δ i 0) i := by rw [nx, if_neg (by omega)]
def dgs (δ : Nat → Nat) : Nat → Nat
  | 0 => 0
  | i + 1 => 10 * dgs δ i + δ i + 1
set_option maxRecDepth 100000 in
theorem nx_dg' : ∀ k, k < 7 → ∀ L, L < 5 → ∀ no, no < k ^ L → ∀ i, i < L → nx k (dg k L no) L i = dg k L (no + 1) i := by decide +kernel
theorem dg_lt {k L no i : Nat} (hk : 0 < k) : dg k L no i < k := Nat.mod_lt _ hk
theorem nx_cong {k : Nat} : ∀ {L : Nat} {δ ε : Nat → Nat} {M : Nat}, L ≤ M → (∀ i, i < M → δ i = ε i) → ∀ i, i < M → nx k δ L i = nx k ε L i
  | 0, _, _, _, _, h, i, hi => h i hi
  | L + 1, δ, ε, M, hM, h, i, hi => by
    have e := h L (by omega)
    by_cases h1 : δ L + 1 < k
    · rw [nx_t h1, nx_t (by omega)]
      unfold nup
      split
      · rw [e]
      · exact h i hi
    · rw [nx_f (by omega), nx_f (by omega)]
      refine nx_cong (by omega) (fun a ha => ?_) i hi
      unfold nup
      split
      · rfl
      · exact h a ha
set_option maxRecDepth 100000 in
theorem pw_le' : ∀ k, k < 7 → ∀ L, L < 5 → k ^ L ≤ 1296 := by decide +kernel
theorem pw_le {k L : Nat} (hk : k ≤ 6) (hL : L ≤ 4) : k ^ L ≤ 1296 := pw_le' k (by omega) L (by omega)
/-! odds -/
def ac (μ : Nat → Nat → Nat) (k : Nat) (w : Nat → Nat) (q : Nat) : Nat → Nat
  | 0 => 0
  | t + 1 => ac μ k w q t + (if μ (t % k) (t / k) = q then w (t / k) else 0)
def wy (μ : Nat → Nat → Nat) (n k p0 : Nat) : Nat → Nat → Nat
  | 0, q => if q = p0 then 1 else 0
  | m + 1, q => ac μ k (wy μ n k p0 m) q (n * k)
theorem ac_at {μ : Nat → Nat → Nat} {k : Nat} {w : Nat → Nat} {q i a : Nat} (ha : a < k) : ac μ k w q (i * k + (a + 1)) = ac μ k w q (i * k + a) + (if μ a i = q then w i else 0) := by
  rw [← Nat.add_assoc, ac]
  have e1 : (i * k + a) % k = a := by rw [Nat.mul_comm, Nat.mul_add_mod]; exact Nat.mod_eq_of_lt ha
  have e2 : (i * k + a) / k = i := by rw [Nat.mul_comm, Nat.mul_add_div (by omega), Nat.div_eq_of_lt ha]; rfl
  rw [e1, e2]
/-! draws -/
def sdN (s0 : Nat) : Nat → Nat
  | 0 => s0
  | m + 1 => (1103515245 * sdN s0 m + 12345) % 2147483648
theorem sdN_lt {s0 : Nat} (h : s0 < 2147483648) : ∀ m, sdN s0 m < 2147483648
  | 0 => h
  | m + 1 => Nat.mod_lt _ (by decide)
def wq (μ : Nat → Nat → Nat) (k s0 : Nat) : Nat → Nat → Nat
  | 0, i => i
  | m + 1, i => μ (sdN s0 (m + 1) / 65536 % k) (wq μ k s0 m i)
end
