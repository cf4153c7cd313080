section
-- ===== PART A: goes FIRST, ahead of the names: the tables' words, and 'selects' of the private methods out of them =====
/-- a private method of a class that the tables say can be made, by its rows of tables_1 -/
def lw_okq (q : MethodName × Nat) : Prop := (q.1.cls ≠ "java/lang/invoke/MethodHandle" ∧ q.1.cls ≠ "java/lang/invoke/VarHandle") ∧ Cond.instantiable q.1.cls q.2 ∈ tables_1 ∧ Cond.privateMethod q.1 ∈ tables_1 ∧ Cond.instanceMethod q.1 ∈ tables_1
theorem lw_p0 : lw_okq (⟨"CustodyRoom$Stock", "addHand", "(Z)I"⟩, 8) := ⟨⟨by decide +kernel, by decide +kernel⟩, List.mem_of_getElem? (i := 21) (by decide +kernel), List.mem_of_getElem? (i := 204) (by decide +kernel), List.mem_of_getElem? (i := 205) (by decide +kernel)⟩
theorem lw_p1 : lw_okq (⟨"CustodyRoom$Stock", "addShelf", "(Z)I"⟩, 8) := ⟨⟨by decide +kernel, by decide +kernel⟩, List.mem_of_getElem? (i := 21) (by decide +kernel), List.mem_of_getElem? (i := 212) (by decide +kernel), List.mem_of_getElem? (i := 213) (by decide +kernel)⟩
theorem lw_p2 : lw_okq (⟨"CustodyRoom$Slips", "useSealBeyond", "(II)Z"⟩, 3) := ⟨⟨by decide +kernel, by decide +kernel⟩, List.mem_of_getElem? (i := 62) (by decide +kernel), List.mem_of_getElem? (i := 220) (by decide +kernel), List.mem_of_getElem? (i := 221) (by decide +kernel)⟩
theorem lw_p3 : lw_okq (⟨"CustodyRoom$Slips", "cell", "(II)I"⟩, 3) := ⟨⟨by decide +kernel, by decide +kernel⟩, List.mem_of_getElem? (i := 62) (by decide +kernel), List.mem_of_getElem? (i := 224) (by decide +kernel), List.mem_of_getElem? (i := 225) (by decide +kernel)⟩
theorem lw_p4 : lw_okq (⟨"CustodyRoom$Slips", "has", "(I)Z"⟩, 3) := ⟨⟨by decide +kernel, by decide +kernel⟩, List.mem_of_getElem? (i := 62) (by decide +kernel), List.mem_of_getElem? (i := 228) (by decide +kernel), List.mem_of_getElem? (i := 229) (by decide +kernel)⟩
theorem lw_p5 : lw_okq (⟨"CustodyRoom$Stock", "giveOut", "(II)V"⟩, 8) := ⟨⟨by decide +kernel, by decide +kernel⟩, List.mem_of_getElem? (i := 21) (by decide +kernel), List.mem_of_getElem? (i := 232) (by decide +kernel), List.mem_of_getElem? (i := 233) (by decide +kernel)⟩
theorem lw_p6 : lw_okq (⟨"CustodyRoom$Stock", "addThing", "(II)I"⟩, 8) := ⟨⟨by decide +kernel, by decide +kernel⟩, List.mem_of_getElem? (i := 21) (by decide +kernel), List.mem_of_getElem? (i := 241) (by decide +kernel), List.mem_of_getElem? (i := 242) (by decide +kernel)⟩
theorem lw_p7 : lw_okq (⟨"CustodyRoom", "write", "(IIIIIII)I"⟩, 12) := ⟨⟨by decide +kernel, by decide +kernel⟩, List.mem_of_getElem? (i := 13) (by decide +kernel), List.mem_of_getElem? (i := 255) (by decide +kernel), List.mem_of_getElem? (i := 256) (by decide +kernel)⟩
theorem lw_p8 : lw_okq (⟨"CustodyRoom", "faultAhead", "(III)I"⟩, 12) := ⟨⟨by decide +kernel, by decide +kernel⟩, List.mem_of_getElem? (i := 13) (by decide +kernel), List.mem_of_getElem? (i := 259) (by decide +kernel), List.mem_of_getElem? (i := 260) (by decide +kernel)⟩
theorem lw_p9 : lw_okq (⟨"CustodyRoom$Stock", "isThing", "(I)Z"⟩, 8) := ⟨⟨by decide +kernel, by decide +kernel⟩, List.mem_of_getElem? (i := 21) (by decide +kernel), List.mem_of_getElem? (i := 263) (by decide +kernel), List.mem_of_getElem? (i := 264) (by decide +kernel)⟩
theorem lw_p10 : lw_okq (⟨"CustodyRoom$Slips", "add", "([I)V"⟩, 3) := ⟨⟨by decide +kernel, by decide +kernel⟩, List.mem_of_getElem? (i := 62) (by decide +kernel), List.mem_of_getElem? (i := 267) (by decide +kernel), List.mem_of_getElem? (i := 268) (by decide +kernel)⟩
theorem lw_p11 : lw_okq (⟨"CustodyRoom$Slips", "putInOrder", "(I)V"⟩, 3) := ⟨⟨by decide +kernel, by decide +kernel⟩, List.mem_of_getElem? (i := 62) (by decide +kernel), List.mem_of_getElem? (i := 274) (by decide +kernel), List.mem_of_getElem? (i := 275) (by decide +kernel)⟩
theorem lw_p12 : lw_okq (⟨"CustodyRoom$Standing", "firstUndone", "(LCustodyRoom$Slips;)I"⟩, 19) := ⟨⟨by decide +kernel, by decide +kernel⟩, List.mem_of_getElem? (i := 81) (by decide +kernel), List.mem_of_getElem? (i := 278) (by decide +kernel), List.mem_of_getElem? (i := 279) (by decide +kernel)⟩
theorem lw_p13 : lw_okq (⟨"CustodyRoom$Standing", "clear", "()V"⟩, 19) := ⟨⟨by decide +kernel, by decide +kernel⟩, List.mem_of_getElem? (i := 81) (by decide +kernel), List.mem_of_getElem? (i := 282) (by decide +kernel), List.mem_of_getElem? (i := 283) (by decide +kernel)⟩
theorem lw_p14 : lw_okq (⟨"CustodyRoom$Slips", "inOrder", "(I)I"⟩, 3) := ⟨⟨by decide +kernel, by decide +kernel⟩, List.mem_of_getElem? (i := 62) (by decide +kernel), List.mem_of_getElem? (i := 288) (by decide +kernel), List.mem_of_getElem? (i := 289) (by decide +kernel)⟩
theorem lw_p15 : lw_okq (⟨"CustodyRoom$Standing", "tell", "(LCustodyRoom$Slips;I)Z"⟩, 19) := ⟨⟨by decide +kernel, by decide +kernel⟩, List.mem_of_getElem? (i := 81) (by decide +kernel), List.mem_of_getElem? (i := 292) (by decide +kernel), List.mem_of_getElem? (i := 293) (by decide +kernel)⟩
def lw_privs_1 : List (MethodName × Nat) := [(⟨"CustodyRoom$Stock", "addHand", "(Z)I"⟩, 8), (⟨"CustodyRoom$Stock", "addShelf", "(Z)I"⟩, 8), (⟨"CustodyRoom$Slips", "useSealBeyond", "(II)Z"⟩, 3), (⟨"CustodyRoom$Slips", "cell", "(II)I"⟩, 3), (⟨"CustodyRoom$Slips", "has", "(I)Z"⟩, 3), (⟨"CustodyRoom$Stock", "giveOut", "(II)V"⟩, 8), (⟨"CustodyRoom$Stock", "addThing", "(II)I"⟩, 8), (⟨"CustodyRoom", "write", "(IIIIIII)I"⟩, 12), (⟨"CustodyRoom", "faultAhead", "(III)I"⟩, 12), (⟨"CustodyRoom$Stock", "isThing", "(I)Z"⟩, 8), (⟨"CustodyRoom$Slips", "add", "([I)V"⟩, 3), (⟨"CustodyRoom$Slips", "putInOrder", "(I)V"⟩, 3), (⟨"CustodyRoom$Standing", "firstUndone", "(LCustodyRoom$Slips;)I"⟩, 19), (⟨"CustodyRoom$Standing", "clear", "()V"⟩, 19), (⟨"CustodyRoom$Slips", "inOrder", "(I)I"⟩, 3), (⟨"CustodyRoom$Standing", "tell", "(LCustodyRoom$Slips;I)Z"⟩, 19)]
theorem lw_r1 : ∀ q ∈ lw_privs_1, lw_okq q := List.forall_mem_cons.mpr ⟨lw_p0, List.forall_mem_cons.mpr ⟨lw_p1, List.forall_mem_cons.mpr ⟨lw_p2, List.forall_mem_cons.mpr ⟨lw_p3, List.forall_mem_cons.mpr ⟨lw_p4, List.forall_mem_cons.mpr ⟨lw_p5, List.forall_mem_cons.mpr ⟨lw_p6, List.forall_mem_cons.mpr ⟨lw_p7, List.forall_mem_cons.mpr ⟨lw_p8, List.forall_mem_cons.mpr ⟨lw_p9, List.forall_mem_cons.mpr ⟨lw_p10, List.forall_mem_cons.mpr ⟨lw_p11, List.forall_mem_cons.mpr ⟨lw_p12, List.forall_mem_cons.mpr ⟨lw_p13, List.forall_mem_cons.mpr ⟨lw_p14, List.forall_mem_cons.mpr ⟨lw_p15, fun _ h => absurd h List.not_mem_nil⟩⟩⟩⟩⟩⟩⟩⟩⟩⟩⟩⟩⟩⟩⟩⟩
theorem lw_p16 : lw_okq (⟨"CustodyRoom$Standing", "isKept", "(I)Z"⟩, 19) := ⟨⟨by decide +kernel, by decide +kernel⟩, List.mem_of_getElem? (i := 81) (by decide +kernel), List.mem_of_getElem? (i := 298) (by decide +kernel), List.mem_of_getElem? (i := 299) (by decide +kernel)⟩
theorem lw_p17 : lw_okq (⟨"CustodyRoom$Standing", "comeIn", "()Z"⟩, 19) := ⟨⟨by decide +kernel, by decide +kernel⟩, List.mem_of_getElem? (i := 81) (by decide +kernel), List.mem_of_getElem? (i := 302) (by decide +kernel), List.mem_of_getElem? (i := 303) (by decide +kernel)⟩
theorem lw_p18 : lw_okq (⟨"CustodyRoom$Stock", "isOfKind", "(II)Z"⟩, 8) := ⟨⟨by decide +kernel, by decide +kernel⟩, List.mem_of_getElem? (i := 21) (by decide +kernel), List.mem_of_getElem? (i := 306) (by decide +kernel), List.mem_of_getElem? (i := 307) (by decide +kernel)⟩
theorem lw_p19 : lw_okq (⟨"CustodyRoom$Standing", "isMoneyBag", "(I)Z"⟩, 19) := ⟨⟨by decide +kernel, by decide +kernel⟩, List.mem_of_getElem? (i := 81) (by decide +kernel), List.mem_of_getElem? (i := 310) (by decide +kernel), List.mem_of_getElem? (i := 311) (by decide +kernel)⟩
theorem lw_p20 : lw_okq (⟨"CustodyRoom$Standing", "keepersServe", "(Z)Z"⟩, 19) := ⟨⟨by decide +kernel, by decide +kernel⟩, List.mem_of_getElem? (i := 81) (by decide +kernel), List.mem_of_getElem? (i := 314) (by decide +kernel), List.mem_of_getElem? (i := 315) (by decide +kernel)⟩
theorem lw_p21 : lw_okq (⟨"CustodyRoom$Stock", "isKeeper", "(I)Z"⟩, 8) := ⟨⟨by decide +kernel, by decide +kernel⟩, List.mem_of_getElem? (i := 21) (by decide +kernel), List.mem_of_getElem? (i := 318) (by decide +kernel), List.mem_of_getElem? (i := 319) (by decide +kernel)⟩
theorem lw_p22 : lw_okq (⟨"CustodyRoom$Stock", "isHand", "(I)Z"⟩, 8) := ⟨⟨by decide +kernel, by decide +kernel⟩, List.mem_of_getElem? (i := 21) (by decide +kernel), List.mem_of_getElem? (i := 322) (by decide +kernel), List.mem_of_getElem? (i := 323) (by decide +kernel)⟩
theorem lw_p23 : lw_okq (⟨"CustodyRoom$Standing", "mayLieAt", "(I)Z"⟩, 19) := ⟨⟨by decide +kernel, by decide +kernel⟩, List.mem_of_getElem? (i := 81) (by decide +kernel), List.mem_of_getElem? (i := 326) (by decide +kernel), List.mem_of_getElem? (i := 327) (by decide +kernel)⟩
theorem lw_p24 : lw_okq (⟨"CustodyRoom$Stock", "isPlace", "(I)Z"⟩, 8) := ⟨⟨by decide +kernel, by decide +kernel⟩, List.mem_of_getElem? (i := 21) (by decide +kernel), List.mem_of_getElem? (i := 330) (by decide +kernel), List.mem_of_getElem? (i := 331) (by decide +kernel)⟩
theorem lw_p25 : lw_okq (⟨"CustodyRoom$Stock", "isColdPlace", "(I)Z"⟩, 8) := ⟨⟨by decide +kernel, by decide +kernel⟩, List.mem_of_getElem? (i := 21) (by decide +kernel), List.mem_of_getElem? (i := 334) (by decide +kernel), List.mem_of_getElem? (i := 335) (by decide +kernel)⟩
theorem lw_p26 : lw_okq (⟨"CustodyRoom$Standing", "move", "(III)V"⟩, 19) := ⟨⟨by decide +kernel, by decide +kernel⟩, List.mem_of_getElem? (i := 81) (by decide +kernel), List.mem_of_getElem? (i := 338) (by decide +kernel), List.mem_of_getElem? (i := 339) (by decide +kernel)⟩
theorem lw_p27 : lw_okq (⟨"CustodyRoom$Standing", "register", "(III)V"⟩, 19) := ⟨⟨by decide +kernel, by decide +kernel⟩, List.mem_of_getElem? (i := 81) (by decide +kernel), List.mem_of_getElem? (i := 342) (by decide +kernel), List.mem_of_getElem? (i := 343) (by decide +kernel)⟩
theorem lw_p28 : lw_okq (⟨"CustodyRoom$Standing", "goOut", "()Z"⟩, 19) := ⟨⟨by decide +kernel, by decide +kernel⟩, List.mem_of_getElem? (i := 81) (by decide +kernel), List.mem_of_getElem? (i := 346) (by decide +kernel), List.mem_of_getElem? (i := 347) (by decide +kernel)⟩
theorem lw_p29 : lw_okq (⟨"CustodyRoom$Standing", "isDay", "(I)Z"⟩, 19) := ⟨⟨by decide +kernel, by decide +kernel⟩, List.mem_of_getElem? (i := 81) (by decide +kernel), List.mem_of_getElem? (i := 350) (by decide +kernel), List.mem_of_getElem? (i := 351) (by decide +kernel)⟩
theorem lw_p30 : lw_okq (⟨"CustodyRoom$Standing", "goOn", "()Z"⟩, 19) := ⟨⟨by decide +kernel, by decide +kernel⟩, List.mem_of_getElem? (i := 81) (by decide +kernel), List.mem_of_getElem? (i := 355) (by decide +kernel), List.mem_of_getElem? (i := 356) (by decide +kernel)⟩
theorem lw_p31 : lw_okq (⟨"CustodyRoom$Standing", "isAt", "(III)Z"⟩, 19) := ⟨⟨by decide +kernel, by decide +kernel⟩, List.mem_of_getElem? (i := 81) (by decide +kernel), List.mem_of_getElem? (i := 359) (by decide +kernel), List.mem_of_getElem? (i := 360) (by decide +kernel)⟩
def lw_privs_2 : List (MethodName × Nat) := [(⟨"CustodyRoom$Standing", "isKept", "(I)Z"⟩, 19), (⟨"CustodyRoom$Standing", "comeIn", "()Z"⟩, 19), (⟨"CustodyRoom$Stock", "isOfKind", "(II)Z"⟩, 8), (⟨"CustodyRoom$Standing", "isMoneyBag", "(I)Z"⟩, 19), (⟨"CustodyRoom$Standing", "keepersServe", "(Z)Z"⟩, 19), (⟨"CustodyRoom$Stock", "isKeeper", "(I)Z"⟩, 8), (⟨"CustodyRoom$Stock", "isHand", "(I)Z"⟩, 8), (⟨"CustodyRoom$Standing", "mayLieAt", "(I)Z"⟩, 19), (⟨"CustodyRoom$Stock", "isPlace", "(I)Z"⟩, 8), (⟨"CustodyRoom$Stock", "isColdPlace", "(I)Z"⟩, 8), (⟨"CustodyRoom$Standing", "move", "(III)V"⟩, 19), (⟨"CustodyRoom$Standing", "register", "(III)V"⟩, 19), (⟨"CustodyRoom$Standing", "goOut", "()Z"⟩, 19), (⟨"CustodyRoom$Standing", "isDay", "(I)Z"⟩, 19), (⟨"CustodyRoom$Standing", "goOn", "()Z"⟩, 19), (⟨"CustodyRoom$Standing", "isAt", "(III)Z"⟩, 19)]
theorem lw_r2 : ∀ q ∈ lw_privs_2, lw_okq q := List.forall_mem_cons.mpr ⟨lw_p16, List.forall_mem_cons.mpr ⟨lw_p17, List.forall_mem_cons.mpr ⟨lw_p18, List.forall_mem_cons.mpr ⟨lw_p19, List.forall_mem_cons.mpr ⟨lw_p20, List.forall_mem_cons.mpr ⟨lw_p21, List.forall_mem_cons.mpr ⟨lw_p22, List.forall_mem_cons.mpr ⟨lw_p23, List.forall_mem_cons.mpr ⟨lw_p24, List.forall_mem_cons.mpr ⟨lw_p25, List.forall_mem_cons.mpr ⟨lw_p26, List.forall_mem_cons.mpr ⟨lw_p27, List.forall_mem_cons.mpr ⟨lw_p28, List.forall_mem_cons.mpr ⟨lw_p29, List.forall_mem_cons.mpr ⟨lw_p30, List.forall_mem_cons.mpr ⟨lw_p31, fun _ h => absurd h List.not_mem_nil⟩⟩⟩⟩⟩⟩⟩⟩⟩⟩⟩⟩⟩⟩⟩⟩
theorem lw_p32 : lw_okq (⟨"CustodyRoom$Standing", "comeBack", "()Z"⟩, 19) := ⟨⟨by decide +kernel, by decide +kernel⟩, List.mem_of_getElem? (i := 81) (by decide +kernel), List.mem_of_getElem? (i := 363) (by decide +kernel), List.mem_of_getElem? (i := 364) (by decide +kernel)⟩
theorem lw_p33 : lw_okq (⟨"CustodyRoom$Standing", "putElsewhere", "()Z"⟩, 19) := ⟨⟨by decide +kernel, by decide +kernel⟩, List.mem_of_getElem? (i := 81) (by decide +kernel), List.mem_of_getElem? (i := 367) (by decide +kernel), List.mem_of_getElem? (i := 368) (by decide +kernel)⟩
theorem lw_p34 : lw_okq (⟨"CustodyRoom$Standing", "goInto", "()Z"⟩, 19) := ⟨⟨by decide +kernel, by decide +kernel⟩, List.mem_of_getElem? (i := 81) (by decide +kernel), List.mem_of_getElem? (i := 371) (by decide +kernel), List.mem_of_getElem? (i := 372) (by decide +kernel)⟩
theorem lw_p35 : lw_okq (⟨"CustodyRoom$Stock", "isBag", "(I)Z"⟩, 8) := ⟨⟨by decide +kernel, by decide +kernel⟩, List.mem_of_getElem? (i := 21) (by decide +kernel), List.mem_of_getElem? (i := 375) (by decide +kernel), List.mem_of_getElem? (i := 376) (by decide +kernel)⟩
theorem lw_p36 : lw_okq (⟨"CustodyRoom$Standing", "deepestIn", "(I)I"⟩, 19) := ⟨⟨by decide +kernel, by decide +kernel⟩, List.mem_of_getElem? (i := 81) (by decide +kernel), List.mem_of_getElem? (i := 380) (by decide +kernel), List.mem_of_getElem? (i := 381) (by decide +kernel)⟩
theorem lw_p37 : lw_okq (⟨"CustodyRoom$Standing", "stepsUpTo", "(II)I"⟩, 19) := ⟨⟨by decide +kernel, by decide +kernel⟩, List.mem_of_getElem? (i := 81) (by decide +kernel), List.mem_of_getElem? (i := 384) (by decide +kernel), List.mem_of_getElem? (i := 385) (by decide +kernel)⟩
theorem lw_p38 : lw_okq (⟨"CustodyRoom$Standing", "bagAround", "(I)I"⟩, 19) := ⟨⟨by decide +kernel, by decide +kernel⟩, List.mem_of_getElem? (i := 81) (by decide +kernel), List.mem_of_getElem? (i := 388) (by decide +kernel), List.mem_of_getElem? (i := 389) (by decide +kernel)⟩
theorem lw_p39 : lw_okq (⟨"CustodyRoom$Standing", "comeFrom", "()Z"⟩, 19) := ⟨⟨by decide +kernel, by decide +kernel⟩, List.mem_of_getElem? (i := 81) (by decide +kernel), List.mem_of_getElem? (i := 395) (by decide +kernel), List.mem_of_getElem? (i := 396) (by decide +kernel)⟩
theorem lw_p40 : lw_okq (⟨"CustodyRoom$Standing", "close", "()Z"⟩, 19) := ⟨⟨by decide +kernel, by decide +kernel⟩, List.mem_of_getElem? (i := 81) (by decide +kernel), List.mem_of_getElem? (i := 399) (by decide +kernel), List.mem_of_getElem? (i := 400) (by decide +kernel)⟩
theorem lw_p41 : lw_okq (⟨"CustodyRoom$Stock", "isGivenOut", "(I)Z"⟩, 8) := ⟨⟨by decide +kernel, by decide +kernel⟩, List.mem_of_getElem? (i := 21) (by decide +kernel), List.mem_of_getElem? (i := 403) (by decide +kernel), List.mem_of_getElem? (i := 404) (by decide +kernel)⟩
theorem lw_p42 : lw_okq (⟨"CustodyRoom$Standing", "unseal", "()Z"⟩, 19) := ⟨⟨by decide +kernel, by decide +kernel⟩, List.mem_of_getElem? (i := 81) (by decide +kernel), List.mem_of_getElem? (i := 407) (by decide +kernel), List.mem_of_getElem? (i := 408) (by decide +kernel)⟩
theorem lw_p43 : lw_okq (⟨"CustodyRoom$Standing", "look", "()Z"⟩, 19) := ⟨⟨by decide +kernel, by decide +kernel⟩, List.mem_of_getElem? (i := 81) (by decide +kernel), List.mem_of_getElem? (i := 411) (by decide +kernel), List.mem_of_getElem? (i := 412) (by decide +kernel)⟩
theorem lw_p44 : lw_okq (⟨"CustodyRoom$Standing", "takePart", "()Z"⟩, 19) := ⟨⟨by decide +kernel, by decide +kernel⟩, List.mem_of_getElem? (i := 81) (by decide +kernel), List.mem_of_getElem? (i := 415) (by decide +kernel), List.mem_of_getElem? (i := 416) (by decide +kernel)⟩
theorem lw_p45 : lw_okq (⟨"CustodyRoom$Standing", "mayBeTaken", "(I)Z"⟩, 19) := ⟨⟨by decide +kernel, by decide +kernel⟩, List.mem_of_getElem? (i := 81) (by decide +kernel), List.mem_of_getElem? (i := 419) (by decide +kernel), List.mem_of_getElem? (i := 420) (by decide +kernel)⟩
theorem lw_p46 : lw_okq (⟨"CustodyRoom$Standing", "isFree", "(I)Z"⟩, 19) := ⟨⟨by decide +kernel, by decide +kernel⟩, List.mem_of_getElem? (i := 81) (by decide +kernel), List.mem_of_getElem? (i := 423) (by decide +kernel), List.mem_of_getElem? (i := 424) (by decide +kernel)⟩
theorem lw_p47 : lw_okq (⟨"CustodyRoom$Standing", "bringToHand", "()V"⟩, 19) := ⟨⟨by decide +kernel, by decide +kernel⟩, List.mem_of_getElem? (i := 81) (by decide +kernel), List.mem_of_getElem? (i := 427) (by decide +kernel), List.mem_of_getElem? (i := 428) (by decide +kernel)⟩
def lw_privs_3 : List (MethodName × Nat) := [(⟨"CustodyRoom$Standing", "comeBack", "()Z"⟩, 19), (⟨"CustodyRoom$Standing", "putElsewhere", "()Z"⟩, 19), (⟨"CustodyRoom$Standing", "goInto", "()Z"⟩, 19), (⟨"CustodyRoom$Stock", "isBag", "(I)Z"⟩, 8), (⟨"CustodyRoom$Standing", "deepestIn", "(I)I"⟩, 19), (⟨"CustodyRoom$Standing", "stepsUpTo", "(II)I"⟩, 19), (⟨"CustodyRoom$Standing", "bagAround", "(I)I"⟩, 19), (⟨"CustodyRoom$Standing", "comeFrom", "()Z"⟩, 19), (⟨"CustodyRoom$Standing", "close", "()Z"⟩, 19), (⟨"CustodyRoom$Stock", "isGivenOut", "(I)Z"⟩, 8), (⟨"CustodyRoom$Standing", "unseal", "()Z"⟩, 19), (⟨"CustodyRoom$Standing", "look", "()Z"⟩, 19), (⟨"CustodyRoom$Standing", "takePart", "()Z"⟩, 19), (⟨"CustodyRoom$Standing", "mayBeTaken", "(I)Z"⟩, 19), (⟨"CustodyRoom$Standing", "isFree", "(I)Z"⟩, 19), (⟨"CustodyRoom$Standing", "bringToHand", "()V"⟩, 19)]
theorem lw_r3 : ∀ q ∈ lw_privs_3, lw_okq q := List.forall_mem_cons.mpr ⟨lw_p32, List.forall_mem_cons.mpr ⟨lw_p33, List.forall_mem_cons.mpr ⟨lw_p34, List.forall_mem_cons.mpr ⟨lw_p35, List.forall_mem_cons.mpr ⟨lw_p36, List.forall_mem_cons.mpr ⟨lw_p37, List.forall_mem_cons.mpr ⟨lw_p38, List.forall_mem_cons.mpr ⟨lw_p39, List.forall_mem_cons.mpr ⟨lw_p40, List.forall_mem_cons.mpr ⟨lw_p41, List.forall_mem_cons.mpr ⟨lw_p42, List.forall_mem_cons.mpr ⟨lw_p43, List.forall_mem_cons.mpr ⟨lw_p44, List.forall_mem_cons.mpr ⟨lw_p45, List.forall_mem_cons.mpr ⟨lw_p46, List.forall_mem_cons.mpr ⟨lw_p47, fun _ h => absurd h List.not_mem_nil⟩⟩⟩⟩⟩⟩⟩⟩⟩⟩⟩⟩⟩⟩⟩⟩
theorem lw_p48 : lw_okq (⟨"CustodyRoom$Standing", "takeCopy", "()Z"⟩, 19) := ⟨⟨by decide +kernel, by decide +kernel⟩, List.mem_of_getElem? (i := 81) (by decide +kernel), List.mem_of_getElem? (i := 431) (by decide +kernel), List.mem_of_getElem? (i := 432) (by decide +kernel)⟩
theorem lw_p49 : lw_okq (⟨"CustodyRoom$Standing", "weigh", "()Z"⟩, 19) := ⟨⟨by decide +kernel, by decide +kernel⟩, List.mem_of_getElem? (i := 81) (by decide +kernel), List.mem_of_getElem? (i := 435) (by decide +kernel), List.mem_of_getElem? (i := 436) (by decide +kernel)⟩
theorem lw_p50 : lw_okq (⟨"CustodyRoom$Standing", "keep", "()Z"⟩, 19) := ⟨⟨by decide +kernel, by decide +kernel⟩, List.mem_of_getElem? (i := 81) (by decide +kernel), List.mem_of_getElem? (i := 439) (by decide +kernel), List.mem_of_getElem? (i := 440) (by decide +kernel)⟩
theorem lw_p51 : lw_okq (⟨"CustodyRoom$Standing", "doom", "()Z"⟩, 19) := ⟨⟨by decide +kernel, by decide +kernel⟩, List.mem_of_getElem? (i := 81) (by decide +kernel), List.mem_of_getElem? (i := 443) (by decide +kernel), List.mem_of_getElem? (i := 444) (by decide +kernel)⟩
theorem lw_p52 : lw_okq (⟨"CustodyRoom$Standing", "beginTrial", "()Z"⟩, 19) := ⟨⟨by decide +kernel, by decide +kernel⟩, List.mem_of_getElem? (i := 81) (by decide +kernel), List.mem_of_getElem? (i := 447) (by decide +kernel), List.mem_of_getElem? (i := 448) (by decide +kernel)⟩
theorem lw_p53 : lw_okq (⟨"CustodyRoom$Standing", "goesOn", "()Z"⟩, 19) := ⟨⟨by decide +kernel, by decide +kernel⟩, List.mem_of_getElem? (i := 81) (by decide +kernel), List.mem_of_getElem? (i := 451) (by decide +kernel), List.mem_of_getElem? (i := 452) (by decide +kernel)⟩
theorem lw_p54 : lw_okq (⟨"CustodyRoom$Standing", "endTrial", "()Z"⟩, 19) := ⟨⟨by decide +kernel, by decide +kernel⟩, List.mem_of_getElem? (i := 81) (by decide +kernel), List.mem_of_getElem? (i := 455) (by decide +kernel), List.mem_of_getElem? (i := 456) (by decide +kernel)⟩
theorem lw_p55 : lw_okq (⟨"CustodyRoom$Standing", "destroy", "()Z"⟩, 19) := ⟨⟨by decide +kernel, by decide +kernel⟩, List.mem_of_getElem? (i := 81) (by decide +kernel), List.mem_of_getElem? (i := 459) (by decide +kernel), List.mem_of_getElem? (i := 460) (by decide +kernel)⟩
theorem lw_p56 : lw_okq (⟨"CustodyRoom$Standing", "isAnyOfItInHand", "()Z"⟩, 19) := ⟨⟨by decide +kernel, by decide +kernel⟩, List.mem_of_getElem? (i := 81) (by decide +kernel), List.mem_of_getElem? (i := 463) (by decide +kernel), List.mem_of_getElem? (i := 464) (by decide +kernel)⟩
theorem lw_p57 : lw_okq (⟨"CustodyRoom$Standing", "isOf", "(II)Z"⟩, 19) := ⟨⟨by decide +kernel, by decide +kernel⟩, List.mem_of_getElem? (i := 81) (by decide +kernel), List.mem_of_getElem? (i := 467) (by decide +kernel), List.mem_of_getElem? (i := 468) (by decide +kernel)⟩
theorem lw_p58 : lw_okq (⟨"CustodyRoom$Standing", "find", "()Z"⟩, 19) := ⟨⟨by decide +kernel, by decide +kernel⟩, List.mem_of_getElem? (i := 81) (by decide +kernel), List.mem_of_getElem? (i := 471) (by decide +kernel), List.mem_of_getElem? (i := 472) (by decide +kernel)⟩
theorem lw_p59 : lw_okq (⟨"CustodyRoom$Slips", "dropLast", "()V"⟩, 3) := ⟨⟨by decide +kernel, by decide +kernel⟩, List.mem_of_getElem? (i := 62) (by decide +kernel), List.mem_of_getElem? (i := 475) (by decide +kernel), List.mem_of_getElem? (i := 476) (by decide +kernel)⟩
theorem lw_p60 : lw_okq (⟨"CustodyRoom", "findHanding", "(I)LCustodyRoom$Handing;"⟩, 12) := ⟨⟨by decide +kernel, by decide +kernel⟩, List.mem_of_getElem? (i := 13) (by decide +kernel), List.mem_of_getElem? (i := 524) (by decide +kernel), List.mem_of_getElem? (i := 525) (by decide +kernel)⟩
theorem lw_p61 : lw_okq (⟨"CustodyRoom$Handing", "awaits", "(I)Z"⟩, 7) := ⟨⟨by decide +kernel, by decide +kernel⟩, List.mem_of_getElem? (i := 487) (by decide +kernel), List.mem_of_getElem? (i := 528) (by decide +kernel), List.mem_of_getElem? (i := 529) (by decide +kernel)⟩
theorem lw_p62 : lw_okq (⟨"CustodyRoom$Handing", "setYes", "(II)V"⟩, 7) := ⟨⟨by decide +kernel, by decide +kernel⟩, List.mem_of_getElem? (i := 487) (by decide +kernel), List.mem_of_getElem? (i := 532) (by decide +kernel), List.mem_of_getElem? (i := 533) (by decide +kernel)⟩
theorem lw_p63 : lw_okq (⟨"CustodyRoom$Handing", "isAgreed", "()Z"⟩, 7) := ⟨⟨by decide +kernel, by decide +kernel⟩, List.mem_of_getElem? (i := 487) (by decide +kernel), List.mem_of_getElem? (i := 536) (by decide +kernel), List.mem_of_getElem? (i := 537) (by decide +kernel)⟩
def lw_privs_4 : List (MethodName × Nat) := [(⟨"CustodyRoom$Standing", "takeCopy", "()Z"⟩, 19), (⟨"CustodyRoom$Standing", "weigh", "()Z"⟩, 19), (⟨"CustodyRoom$Standing", "keep", "()Z"⟩, 19), (⟨"CustodyRoom$Standing", "doom", "()Z"⟩, 19), (⟨"CustodyRoom$Standing", "beginTrial", "()Z"⟩, 19), (⟨"CustodyRoom$Standing", "goesOn", "()Z"⟩, 19), (⟨"CustodyRoom$Standing", "endTrial", "()Z"⟩, 19), (⟨"CustodyRoom$Standing", "destroy", "()Z"⟩, 19), (⟨"CustodyRoom$Standing", "isAnyOfItInHand", "()Z"⟩, 19), (⟨"CustodyRoom$Standing", "isOf", "(II)Z"⟩, 19), (⟨"CustodyRoom$Standing", "find", "()Z"⟩, 19), (⟨"CustodyRoom$Slips", "dropLast", "()V"⟩, 3), (⟨"CustodyRoom", "findHanding", "(I)LCustodyRoom$Handing;"⟩, 12), (⟨"CustodyRoom$Handing", "awaits", "(I)Z"⟩, 7), (⟨"CustodyRoom$Handing", "setYes", "(II)V"⟩, 7), (⟨"CustodyRoom$Handing", "isAgreed", "()Z"⟩, 7)]
theorem lw_r4 : ∀ q ∈ lw_privs_4, lw_okq q := List.forall_mem_cons.mpr ⟨lw_p48, List.forall_mem_cons.mpr ⟨lw_p49, List.forall_mem_cons.mpr ⟨lw_p50, List.forall_mem_cons.mpr ⟨lw_p51, List.forall_mem_cons.mpr ⟨lw_p52, List.forall_mem_cons.mpr ⟨lw_p53, List.forall_mem_cons.mpr ⟨lw_p54, List.forall_mem_cons.mpr ⟨lw_p55, List.forall_mem_cons.mpr ⟨lw_p56, List.forall_mem_cons.mpr ⟨lw_p57, List.forall_mem_cons.mpr ⟨lw_p58, List.forall_mem_cons.mpr ⟨lw_p59, List.forall_mem_cons.mpr ⟨lw_p60, List.forall_mem_cons.mpr ⟨lw_p61, List.forall_mem_cons.mpr ⟨lw_p62, List.forall_mem_cons.mpr ⟨lw_p63, fun _ h => absurd h List.not_mem_nil⟩⟩⟩⟩⟩⟩⟩⟩⟩⟩⟩⟩⟩⟩⟩⟩
theorem lw_p64 : lw_okq (⟨"CustodyRoom$Handing", "isLate", "()Z"⟩, 7) := ⟨⟨by decide +kernel, by decide +kernel⟩, List.mem_of_getElem? (i := 487) (by decide +kernel), List.mem_of_getElem? (i := 540) (by decide +kernel), List.mem_of_getElem? (i := 541) (by decide +kernel)⟩
theorem lw_p65 : lw_okq (⟨"CustodyRoom$Handing", "laterYes", "()I"⟩, 7) := ⟨⟨by decide +kernel, by decide +kernel⟩, List.mem_of_getElem? (i := 487) (by decide +kernel), List.mem_of_getElem? (i := 544) (by decide +kernel), List.mem_of_getElem? (i := 545) (by decide +kernel)⟩
theorem lw_p66 : lw_okq (⟨"CustodyRoom$Handing", "isBetween", "(I)Z"⟩, 7) := ⟨⟨by decide +kernel, by decide +kernel⟩, List.mem_of_getElem? (i := 487) (by decide +kernel), List.mem_of_getElem? (i := 554) (by decide +kernel), List.mem_of_getElem? (i := 555) (by decide +kernel)⟩
theorem lw_p67 : lw_okq (⟨"CustodyRoom$Slips", "isLate", "(I)Z"⟩, 3) := ⟨⟨by decide +kernel, by decide +kernel⟩, List.mem_of_getElem? (i := 62) (by decide +kernel), List.mem_of_getElem? (i := 567) (by decide +kernel), List.mem_of_getElem? (i := 568) (by decide +kernel)⟩
theorem lw_p68 : lw_okq (⟨"CustodyRoom$Standing", "tellKnown", "(LCustodyRoom$Slips;II)V"⟩, 19) := ⟨⟨by decide +kernel, by decide +kernel⟩, List.mem_of_getElem? (i := 81) (by decide +kernel), List.mem_of_getElem? (i := 576) (by decide +kernel), List.mem_of_getElem? (i := 577) (by decide +kernel)⟩
theorem lw_p69 : lw_okq (⟨"CustodyRoom$Standing", "answer", "(II)I"⟩, 19) := ⟨⟨by decide +kernel, by decide +kernel⟩, List.mem_of_getElem? (i := 81) (by decide +kernel), List.mem_of_getElem? (i := 580) (by decide +kernel), List.mem_of_getElem? (i := 581) (by decide +kernel)⟩
theorem lw_p70 : lw_okq (⟨"CustodyRoom$Standing", "outermost", "(I)I"⟩, 19) := ⟨⟨by decide +kernel, by decide +kernel⟩, List.mem_of_getElem? (i := 81) (by decide +kernel), List.mem_of_getElem? (i := 584) (by decide +kernel), List.mem_of_getElem? (i := 585) (by decide +kernel)⟩
theorem lw_p71 : lw_okq (⟨"CustodyRoom$Links", "follow", "(I)V"⟩, 3) := ⟨⟨by decide +kernel, by decide +kernel⟩, List.mem_of_getElem? (i := 145) (by decide +kernel), List.mem_of_getElem? (i := 598) (by decide +kernel), List.mem_of_getElem? (i := 599) (by decide +kernel)⟩
theorem lw_p72 : lw_okq (⟨"CustodyRoom$Slips", "isBirth", "(II)Z"⟩, 3) := ⟨⟨by decide +kernel, by decide +kernel⟩, List.mem_of_getElem? (i := 62) (by decide +kernel), List.mem_of_getElem? (i := 603) (by decide +kernel), List.mem_of_getElem? (i := 604) (by decide +kernel)⟩
theorem lw_p73 : lw_okq (⟨"CustodyRoom$Links", "append", "(I)V"⟩, 3) := ⟨⟨by decide +kernel, by decide +kernel⟩, List.mem_of_getElem? (i := 145) (by decide +kernel), List.mem_of_getElem? (i := 607) (by decide +kernel), List.mem_of_getElem? (i := 608) (by decide +kernel)⟩
theorem lw_p74 : lw_okq (⟨"CustodyRoom$Slips", "isMoveOf", "(II)Z"⟩, 3) := ⟨⟨by decide +kernel, by decide +kernel⟩, List.mem_of_getElem? (i := 62) (by decide +kernel), List.mem_of_getElem? (i := 612) (by decide +kernel), List.mem_of_getElem? (i := 613) (by decide +kernel)⟩
theorem lw_p75 : lw_okq (⟨"CustodyRoom$Links", "link", "(I)I"⟩, 3) := ⟨⟨by decide +kernel, by decide +kernel⟩, List.mem_of_getElem? (i := 145) (by decide +kernel), List.mem_of_getElem? (i := 616) (by decide +kernel), List.mem_of_getElem? (i := 617) (by decide +kernel)⟩
theorem lw_p76 : lw_okq (⟨"CustodyRoom$Links", "endOfGap", "(I)I"⟩, 3) := ⟨⟨by decide +kernel, by decide +kernel⟩, List.mem_of_getElem? (i := 145) (by decide +kernel), List.mem_of_getElem? (i := 624) (by decide +kernel), List.mem_of_getElem? (i := 625) (by decide +kernel)⟩
theorem lw_p77 : lw_okq (⟨"CustodyRoom$Slips", "firstBreak", "(I)I"⟩, 3) := ⟨⟨by decide +kernel, by decide +kernel⟩, List.mem_of_getElem? (i := 62) (by decide +kernel), List.mem_of_getElem? (i := 634) (by decide +kernel), List.mem_of_getElem? (i := 635) (by decide +kernel)⟩
theorem lw_p78 : lw_okq (⟨"CustodyRoom$Standing", "thingOfDay", "(II)I"⟩, 19) := ⟨⟨by decide +kernel, by decide +kernel⟩, List.mem_of_getElem? (i := 81) (by decide +kernel), List.mem_of_getElem? (i := 642) (by decide +kernel), List.mem_of_getElem? (i := 643) (by decide +kernel)⟩
theorem lw_p79 : lw_okq (⟨"CustodyRoom$Slips", "copyFrom", "(LCustodyRoom$Slips;)V"⟩, 3) := ⟨⟨by decide +kernel, by decide +kernel⟩, List.mem_of_getElem? (i := 62) (by decide +kernel), List.mem_of_getElem? (i := 650) (by decide +kernel), List.mem_of_getElem? (i := 651) (by decide +kernel)⟩
def lw_privs_5 : List (MethodName × Nat) := [(⟨"CustodyRoom$Handing", "isLate", "()Z"⟩, 7), (⟨"CustodyRoom$Handing", "laterYes", "()I"⟩, 7), (⟨"CustodyRoom$Handing", "isBetween", "(I)Z"⟩, 7), (⟨"CustodyRoom$Slips", "isLate", "(I)Z"⟩, 3), (⟨"CustodyRoom$Standing", "tellKnown", "(LCustodyRoom$Slips;II)V"⟩, 19), (⟨"CustodyRoom$Standing", "answer", "(II)I"⟩, 19), (⟨"CustodyRoom$Standing", "outermost", "(I)I"⟩, 19), (⟨"CustodyRoom$Links", "follow", "(I)V"⟩, 3), (⟨"CustodyRoom$Slips", "isBirth", "(II)Z"⟩, 3), (⟨"CustodyRoom$Links", "append", "(I)V"⟩, 3), (⟨"CustodyRoom$Slips", "isMoveOf", "(II)Z"⟩, 3), (⟨"CustodyRoom$Links", "link", "(I)I"⟩, 3), (⟨"CustodyRoom$Links", "endOfGap", "(I)I"⟩, 3), (⟨"CustodyRoom$Slips", "firstBreak", "(I)I"⟩, 3), (⟨"CustodyRoom$Standing", "thingOfDay", "(II)I"⟩, 19), (⟨"CustodyRoom$Slips", "copyFrom", "(LCustodyRoom$Slips;)V"⟩, 3)]
theorem lw_r5 : ∀ q ∈ lw_privs_5, lw_okq q := List.forall_mem_cons.mpr ⟨lw_p64, List.forall_mem_cons.mpr ⟨lw_p65, List.forall_mem_cons.mpr ⟨lw_p66, List.forall_mem_cons.mpr ⟨lw_p67, List.forall_mem_cons.mpr ⟨lw_p68, List.forall_mem_cons.mpr ⟨lw_p69, List.forall_mem_cons.mpr ⟨lw_p70, List.forall_mem_cons.mpr ⟨lw_p71, List.forall_mem_cons.mpr ⟨lw_p72, List.forall_mem_cons.mpr ⟨lw_p73, List.forall_mem_cons.mpr ⟨lw_p74, List.forall_mem_cons.mpr ⟨lw_p75, List.forall_mem_cons.mpr ⟨lw_p76, List.forall_mem_cons.mpr ⟨lw_p77, List.forall_mem_cons.mpr ⟨lw_p78, List.forall_mem_cons.mpr ⟨lw_p79, fun _ h => absurd h List.not_mem_nil⟩⟩⟩⟩⟩⟩⟩⟩⟩⟩⟩⟩⟩⟩⟩⟩
theorem lw_p80 : lw_okq (⟨"CustodyRoom$Slips", "alterCell", "(III)V"⟩, 3) := ⟨⟨by decide +kernel, by decide +kernel⟩, List.mem_of_getElem? (i := 62) (by decide +kernel), List.mem_of_getElem? (i := 658) (by decide +kernel), List.mem_of_getElem? (i := 659) (by decide +kernel)⟩
theorem lw_p81 : lw_okq (⟨"CustodyRoomModel", "begin", "()V"⟩, 33) := ⟨⟨by decide +kernel, by decide +kernel⟩, List.mem_of_getElem? (i := 670) (by decide +kernel), List.mem_of_getElem? (i := 676) (by decide +kernel), List.mem_of_getElem? (i := 677) (by decide +kernel)⟩
theorem lw_p82 : lw_okq (⟨"CustodyRoomModel", "written", "(IIIIIII)I"⟩, 33) := ⟨⟨by decide +kernel, by decide +kernel⟩, List.mem_of_getElem? (i := 670) (by decide +kernel), List.mem_of_getElem? (i := 810) (by decide +kernel), List.mem_of_getElem? (i := 811) (by decide +kernel)⟩
theorem lw_p83 : lw_okq (⟨"CustodyRoomModel", "firstWrong", "([II)I"⟩, 33) := ⟨⟨by decide +kernel, by decide +kernel⟩, List.mem_of_getElem? (i := 670) (by decide +kernel), List.mem_of_getElem? (i := 814) (by decide +kernel), List.mem_of_getElem? (i := 815) (by decide +kernel)⟩
theorem lw_p84 : lw_okq (⟨"CustodyRoomModel", "sort", "([II)V"⟩, 33) := ⟨⟨by decide +kernel, by decide +kernel⟩, List.mem_of_getElem? (i := 670) (by decide +kernel), List.mem_of_getElem? (i := 818) (by decide +kernel), List.mem_of_getElem? (i := 819) (by decide +kernel)⟩
theorem lw_p85 : lw_okq (⟨"CustodyRoomModel", "isSlip", "([II)Z"⟩, 33) := ⟨⟨by decide +kernel, by decide +kernel⟩, List.mem_of_getElem? (i := 670) (by decide +kernel), List.mem_of_getElem? (i := 822) (by decide +kernel), List.mem_of_getElem? (i := 823) (by decide +kernel)⟩
theorem lw_p86 : lw_okq (⟨"CustodyRoomModel", "isDone", "([II)Z"⟩, 33) := ⟨⟨by decide +kernel, by decide +kernel⟩, List.mem_of_getElem? (i := 670) (by decide +kernel), List.mem_of_getElem? (i := 826) (by decide +kernel), List.mem_of_getElem? (i := 827) (by decide +kernel)⟩
theorem lw_p87 : lw_okq (⟨"CustodyRoomModel", "comesIn", "(IIIII)Z"⟩, 33) := ⟨⟨by decide +kernel, by decide +kernel⟩, List.mem_of_getElem? (i := 670) (by decide +kernel), List.mem_of_getElem? (i := 830) (by decide +kernel), List.mem_of_getElem? (i := 831) (by decide +kernel)⟩
theorem lw_p88 : lw_okq (⟨"CustodyRoomModel", "hasKeepers", "(IIZ)Z"⟩, 33) := ⟨⟨by decide +kernel, by decide +kernel⟩, List.mem_of_getElem? (i := 670) (by decide +kernel), List.mem_of_getElem? (i := 834) (by decide +kernel), List.mem_of_getElem? (i := 835) (by decide +kernel)⟩
theorem lw_p89 : lw_okq (⟨"CustodyRoomModel", "isKeeper", "(I)Z"⟩, 33) := ⟨⟨by decide +kernel, by decide +kernel⟩, List.mem_of_getElem? (i := 670) (by decide +kernel), List.mem_of_getElem? (i := 838) (by decide +kernel), List.mem_of_getElem? (i := 839) (by decide +kernel)⟩
theorem lw_p90 : lw_okq (⟨"CustodyRoomModel", "isHand", "(I)Z"⟩, 33) := ⟨⟨by decide +kernel, by decide +kernel⟩, List.mem_of_getElem? (i := 670) (by decide +kernel), List.mem_of_getElem? (i := 842) (by decide +kernel), List.mem_of_getElem? (i := 843) (by decide +kernel)⟩
theorem lw_p91 : lw_okq (⟨"CustodyRoomModel", "fits", "(II)Z"⟩, 33) := ⟨⟨by decide +kernel, by decide +kernel⟩, List.mem_of_getElem? (i := 670) (by decide +kernel), List.mem_of_getElem? (i := 846) (by decide +kernel), List.mem_of_getElem? (i := 847) (by decide +kernel)⟩
theorem lw_p92 : lw_okq (⟨"CustodyRoomModel", "isEmpty", "(I)Z"⟩, 33) := ⟨⟨by decide +kernel, by decide +kernel⟩, List.mem_of_getElem? (i := 670) (by decide +kernel), List.mem_of_getElem? (i := 850) (by decide +kernel), List.mem_of_getElem? (i := 851) (by decide +kernel)⟩
theorem lw_p93 : lw_okq (⟨"CustodyRoomModel", "go", "(III)V"⟩, 33) := ⟨⟨by decide +kernel, by decide +kernel⟩, List.mem_of_getElem? (i := 670) (by decide +kernel), List.mem_of_getElem? (i := 854) (by decide +kernel), List.mem_of_getElem? (i := 855) (by decide +kernel)⟩
theorem lw_p94 : lw_okq (⟨"CustodyRoomModel", "isKept", "(I)Z"⟩, 33) := ⟨⟨by decide +kernel, by decide +kernel⟩, List.mem_of_getElem? (i := 670) (by decide +kernel), List.mem_of_getElem? (i := 858) (by decide +kernel), List.mem_of_getElem? (i := 859) (by decide +kernel)⟩
theorem lw_p95 : lw_okq (⟨"CustodyRoomModel", "moves", "(IIIIII)Z"⟩, 33) := ⟨⟨by decide +kernel, by decide +kernel⟩, List.mem_of_getElem? (i := 670) (by decide +kernel), List.mem_of_getElem? (i := 862) (by decide +kernel), List.mem_of_getElem? (i := 863) (by decide +kernel)⟩
def lw_privs_6 : List (MethodName × Nat) := [(⟨"CustodyRoom$Slips", "alterCell", "(III)V"⟩, 3), (⟨"CustodyRoomModel", "begin", "()V"⟩, 33), (⟨"CustodyRoomModel", "written", "(IIIIIII)I"⟩, 33), (⟨"CustodyRoomModel", "firstWrong", "([II)I"⟩, 33), (⟨"CustodyRoomModel", "sort", "([II)V"⟩, 33), (⟨"CustodyRoomModel", "isSlip", "([II)Z"⟩, 33), (⟨"CustodyRoomModel", "isDone", "([II)Z"⟩, 33), (⟨"CustodyRoomModel", "comesIn", "(IIIII)Z"⟩, 33), (⟨"CustodyRoomModel", "hasKeepers", "(IIZ)Z"⟩, 33), (⟨"CustodyRoomModel", "isKeeper", "(I)Z"⟩, 33), (⟨"CustodyRoomModel", "isHand", "(I)Z"⟩, 33), (⟨"CustodyRoomModel", "fits", "(II)Z"⟩, 33), (⟨"CustodyRoomModel", "isEmpty", "(I)Z"⟩, 33), (⟨"CustodyRoomModel", "go", "(III)V"⟩, 33), (⟨"CustodyRoomModel", "isKept", "(I)Z"⟩, 33), (⟨"CustodyRoomModel", "moves", "(IIIIII)Z"⟩, 33)]
theorem lw_r6 : ∀ q ∈ lw_privs_6, lw_okq q := List.forall_mem_cons.mpr ⟨lw_p80, List.forall_mem_cons.mpr ⟨lw_p81, List.forall_mem_cons.mpr ⟨lw_p82, List.forall_mem_cons.mpr ⟨lw_p83, List.forall_mem_cons.mpr ⟨lw_p84, List.forall_mem_cons.mpr ⟨lw_p85, List.forall_mem_cons.mpr ⟨lw_p86, List.forall_mem_cons.mpr ⟨lw_p87, List.forall_mem_cons.mpr ⟨lw_p88, List.forall_mem_cons.mpr ⟨lw_p89, List.forall_mem_cons.mpr ⟨lw_p90, List.forall_mem_cons.mpr ⟨lw_p91, List.forall_mem_cons.mpr ⟨lw_p92, List.forall_mem_cons.mpr ⟨lw_p93, List.forall_mem_cons.mpr ⟨lw_p94, List.forall_mem_cons.mpr ⟨lw_p95, fun _ h => absurd h List.not_mem_nil⟩⟩⟩⟩⟩⟩⟩⟩⟩⟩⟩⟩⟩⟩⟩⟩
theorem lw_p96 : lw_okq (⟨"CustodyRoomModel", "goesInto", "(IIII)Z"⟩, 33) := ⟨⟨by decide +kernel, by decide +kernel⟩, List.mem_of_getElem? (i := 670) (by decide +kernel), List.mem_of_getElem? (i := 866) (by decide +kernel), List.mem_of_getElem? (i := 867) (by decide +kernel)⟩
theorem lw_p97 : lw_okq (⟨"CustodyRoomModel", "isBag", "(I)Z"⟩, 33) := ⟨⟨by decide +kernel, by decide +kernel⟩, List.mem_of_getElem? (i := 670) (by decide +kernel), List.mem_of_getElem? (i := 870) (by decide +kernel), List.mem_of_getElem? (i := 871) (by decide +kernel)⟩
theorem lw_p98 : lw_okq (⟨"CustodyRoomModel", "isWithin", "(II)Z"⟩, 33) := ⟨⟨by decide +kernel, by decide +kernel⟩, List.mem_of_getElem? (i := 670) (by decide +kernel), List.mem_of_getElem? (i := 874) (by decide +kernel), List.mem_of_getElem? (i := 875) (by decide +kernel)⟩
theorem lw_p99 : lw_okq (⟨"CustodyRoomModel", "inside", "(I)I"⟩, 33) := ⟨⟨by decide +kernel, by decide +kernel⟩, List.mem_of_getElem? (i := 670) (by decide +kernel), List.mem_of_getElem? (i := 878) (by decide +kernel), List.mem_of_getElem? (i := 879) (by decide +kernel)⟩
theorem lw_p100 : lw_okq (⟨"CustodyRoomModel", "depth", "(I)I"⟩, 33) := ⟨⟨by decide +kernel, by decide +kernel⟩, List.mem_of_getElem? (i := 670) (by decide +kernel), List.mem_of_getElem? (i := 882) (by decide +kernel), List.mem_of_getElem? (i := 883) (by decide +kernel)⟩
theorem lw_p101 : lw_okq (⟨"CustodyRoomModel", "goesFrom", "(IIII)Z"⟩, 33) := ⟨⟨by decide +kernel, by decide +kernel⟩, List.mem_of_getElem? (i := 670) (by decide +kernel), List.mem_of_getElem? (i := 886) (by decide +kernel), List.mem_of_getElem? (i := 887) (by decide +kernel)⟩
theorem lw_p102 : lw_okq (⟨"CustodyRoomModel", "isSealing", "(IIIII)Z"⟩, 33) := ⟨⟨by decide +kernel, by decide +kernel⟩, List.mem_of_getElem? (i := 670) (by decide +kernel), List.mem_of_getElem? (i := 890) (by decide +kernel), List.mem_of_getElem? (i := 891) (by decide +kernel)⟩
theorem lw_p103 : lw_okq (⟨"CustodyRoomModel", "isSeal", "(I)Z"⟩, 33) := ⟨⟨by decide +kernel, by decide +kernel⟩, List.mem_of_getElem? (i := 670) (by decide +kernel), List.mem_of_getElem? (i := 894) (by decide +kernel), List.mem_of_getElem? (i := 895) (by decide +kernel)⟩
theorem lw_p104 : lw_okq (⟨"CustodyRoomModel", "takes", "(IIIIII)Z"⟩, 33) := ⟨⟨by decide +kernel, by decide +kernel⟩, List.mem_of_getElem? (i := 670) (by decide +kernel), List.mem_of_getElem? (i := 898) (by decide +kernel), List.mem_of_getElem? (i := 899) (by decide +kernel)⟩
theorem lw_p105 : lw_okq (⟨"CustodyRoomModel", "isFree", "(I)Z"⟩, 33) := ⟨⟨by decide +kernel, by decide +kernel⟩, List.mem_of_getElem? (i := 670) (by decide +kernel), List.mem_of_getElem? (i := 902) (by decide +kernel), List.mem_of_getElem? (i := 903) (by decide +kernel)⟩
theorem lw_p106 : lw_okq (⟨"CustodyRoomModel", "orders", "(III)Z"⟩, 33) := ⟨⟨by decide +kernel, by decide +kernel⟩, List.mem_of_getElem? (i := 670) (by decide +kernel), List.mem_of_getElem? (i := 906) (by decide +kernel), List.mem_of_getElem? (i := 907) (by decide +kernel)⟩
theorem lw_p107 : lw_okq (⟨"CustodyRoomModel", "isDestroyed", "(IIIII)Z"⟩, 33) := ⟨⟨by decide +kernel, by decide +kernel⟩, List.mem_of_getElem? (i := 670) (by decide +kernel), List.mem_of_getElem? (i := 910) (by decide +kernel), List.mem_of_getElem? (i := 911) (by decide +kernel)⟩
theorem lw_p108 : lw_okq (⟨"CustodyRoomModel", "isOf", "(II)Z"⟩, 33) := ⟨⟨by decide +kernel, by decide +kernel⟩, List.mem_of_getElem? (i := 670) (by decide +kernel), List.mem_of_getElem? (i := 914) (by decide +kernel), List.mem_of_getElem? (i := 915) (by decide +kernel)⟩
theorem lw_p109 : lw_okq (⟨"CustodyRoomModel", "isFound", "(III)Z"⟩, 33) := ⟨⟨by decide +kernel, by decide +kernel⟩, List.mem_of_getElem? (i := 670) (by decide +kernel), List.mem_of_getElem? (i := 918) (by decide +kernel), List.mem_of_getElem? (i := 919) (by decide +kernel)⟩
theorem lw_p110 : lw_okq (⟨"CustodyRoomModel", "sayer", "(II)I"⟩, 33) := ⟨⟨by decide +kernel, by decide +kernel⟩, List.mem_of_getElem? (i := 670) (by decide +kernel), List.mem_of_getElem? (i := 934) (by decide +kernel), List.mem_of_getElem? (i := 935) (by decide +kernel)⟩
theorem lw_p111 : lw_okq (⟨"CustodyRoomModel", "goOver", "(II)V"⟩, 33) := ⟨⟨by decide +kernel, by decide +kernel⟩, List.mem_of_getElem? (i := 670) (by decide +kernel), List.mem_of_getElem? (i := 954) (by decide +kernel), List.mem_of_getElem? (i := 955) (by decide +kernel)⟩
def lw_privs_7 : List (MethodName × Nat) := [(⟨"CustodyRoomModel", "goesInto", "(IIII)Z"⟩, 33), (⟨"CustodyRoomModel", "isBag", "(I)Z"⟩, 33), (⟨"CustodyRoomModel", "isWithin", "(II)Z"⟩, 33), (⟨"CustodyRoomModel", "inside", "(I)I"⟩, 33), (⟨"CustodyRoomModel", "depth", "(I)I"⟩, 33), (⟨"CustodyRoomModel", "goesFrom", "(IIII)Z"⟩, 33), (⟨"CustodyRoomModel", "isSealing", "(IIIII)Z"⟩, 33), (⟨"CustodyRoomModel", "isSeal", "(I)Z"⟩, 33), (⟨"CustodyRoomModel", "takes", "(IIIIII)Z"⟩, 33), (⟨"CustodyRoomModel", "isFree", "(I)Z"⟩, 33), (⟨"CustodyRoomModel", "orders", "(III)Z"⟩, 33), (⟨"CustodyRoomModel", "isDestroyed", "(IIIII)Z"⟩, 33), (⟨"CustodyRoomModel", "isOf", "(II)Z"⟩, 33), (⟨"CustodyRoomModel", "isFound", "(III)Z"⟩, 33), (⟨"CustodyRoomModel", "sayer", "(II)I"⟩, 33), (⟨"CustodyRoomModel", "goOver", "(II)V"⟩, 33)]
theorem lw_r7 : ∀ q ∈ lw_privs_7, lw_okq q := List.forall_mem_cons.mpr ⟨lw_p96, List.forall_mem_cons.mpr ⟨lw_p97, List.forall_mem_cons.mpr ⟨lw_p98, List.forall_mem_cons.mpr ⟨lw_p99, List.forall_mem_cons.mpr ⟨lw_p100, List.forall_mem_cons.mpr ⟨lw_p101, List.forall_mem_cons.mpr ⟨lw_p102, List.forall_mem_cons.mpr ⟨lw_p103, List.forall_mem_cons.mpr ⟨lw_p104, List.forall_mem_cons.mpr ⟨lw_p105, List.forall_mem_cons.mpr ⟨lw_p106, List.forall_mem_cons.mpr ⟨lw_p107, List.forall_mem_cons.mpr ⟨lw_p108, List.forall_mem_cons.mpr ⟨lw_p109, List.forall_mem_cons.mpr ⟨lw_p110, List.forall_mem_cons.mpr ⟨lw_p111, fun _ h => absurd h List.not_mem_nil⟩⟩⟩⟩⟩⟩⟩⟩⟩⟩⟩⟩⟩⟩⟩⟩
theorem lw_p112 : lw_okq (⟨"CustodyRoomModel", "outermost", "(I)I"⟩, 33) := ⟨⟨by decide +kernel, by decide +kernel⟩, List.mem_of_getElem? (i := 670) (by decide +kernel), List.mem_of_getElem? (i := 958) (by decide +kernel), List.mem_of_getElem? (i := 959) (by decide +kernel)⟩
theorem lw_p113 : lw_okq (⟨"CustodyRoomModel", "bits", "(I)I"⟩, 33) := ⟨⟨by decide +kernel, by decide +kernel⟩, List.mem_of_getElem? (i := 670) (by decide +kernel), List.mem_of_getElem? (i := 962) (by decide +kernel), List.mem_of_getElem? (i := 963) (by decide +kernel)⟩
theorem lw_p114 : lw_okq (⟨"CustodyRoomModel", "makeChain", "(I)V"⟩, 33) := ⟨⟨by decide +kernel, by decide +kernel⟩, List.mem_of_getElem? (i := 670) (by decide +kernel), List.mem_of_getElem? (i := 970) (by decide +kernel), List.mem_of_getElem? (i := 971) (by decide +kernel)⟩
theorem lw_p115 : lw_okq (⟨"CustodyRoomModel", "cameAt", "(I)I"⟩, 33) := ⟨⟨by decide +kernel, by decide +kernel⟩, List.mem_of_getElem? (i := 670) (by decide +kernel), List.mem_of_getElem? (i := 974) (by decide +kernel), List.mem_of_getElem? (i := 975) (by decide +kernel)⟩
theorem lw_p116 : lw_okq (⟨"CustodyRoomModel", "put", "(I)V"⟩, 33) := ⟨⟨by decide +kernel, by decide +kernel⟩, List.mem_of_getElem? (i := 670) (by decide +kernel), List.mem_of_getElem? (i := 978) (by decide +kernel), List.mem_of_getElem? (i := 979) (by decide +kernel)⟩
theorem lw_p117 : lw_okq (⟨"CustodyRoomModel", "goOverAll", "()V"⟩, 33) := ⟨⟨by decide +kernel, by decide +kernel⟩, List.mem_of_getElem? (i := 670) (by decide +kernel), List.mem_of_getElem? (i := 997) (by decide +kernel), List.mem_of_getElem? (i := 998) (by decide +kernel)⟩
def lw_privs_8 : List (MethodName × Nat) := [(⟨"CustodyRoomModel", "outermost", "(I)I"⟩, 33), (⟨"CustodyRoomModel", "bits", "(I)I"⟩, 33), (⟨"CustodyRoomModel", "makeChain", "(I)V"⟩, 33), (⟨"CustodyRoomModel", "cameAt", "(I)I"⟩, 33), (⟨"CustodyRoomModel", "put", "(I)V"⟩, 33), (⟨"CustodyRoomModel", "goOverAll", "()V"⟩, 33)]
theorem lw_r8 : ∀ q ∈ lw_privs_8, lw_okq q := List.forall_mem_cons.mpr ⟨lw_p112, List.forall_mem_cons.mpr ⟨lw_p113, List.forall_mem_cons.mpr ⟨lw_p114, List.forall_mem_cons.mpr ⟨lw_p115, List.forall_mem_cons.mpr ⟨lw_p116, List.forall_mem_cons.mpr ⟨lw_p117, fun _ h => absurd h List.not_mem_nil⟩⟩⟩⟩⟩⟩
def lw_privs : List (MethodName × Nat) := lw_privs_1 ++ (lw_privs_2 ++ (lw_privs_3 ++ (lw_privs_4 ++ (lw_privs_5 ++ (lw_privs_6 ++ (lw_privs_7 ++ (lw_privs_8)))))))
def lw_tbl : List Cond := k2_sels lw_privs ++ tables_1
theorem lw_privs_ok : ∀ q ∈ lw_privs, lw_okq q := by
  show ∀ q ∈ lw_privs_1 ++ (lw_privs_2 ++ (lw_privs_3 ++ (lw_privs_4 ++ (lw_privs_5 ++ (lw_privs_6 ++ (lw_privs_7 ++ (lw_privs_8))))))), lw_okq q
  exact List.forall_mem_append.mpr ⟨lw_r1, List.forall_mem_append.mpr ⟨lw_r2, List.forall_mem_append.mpr ⟨lw_r3, List.forall_mem_append.mpr ⟨lw_r4, List.forall_mem_append.mpr ⟨lw_r5, List.forall_mem_append.mpr ⟨lw_r6, List.forall_mem_append.mpr ⟨lw_r7, lw_r8⟩⟩⟩⟩⟩⟩⟩
/-- the words of the tables that a callee may be handed on -/
def lw_G : List Cond := lw_tbl.filter goodWord
theorem lw_G_mk {w : Cond} (h : w ∈ tables_1) (hg : goodWord w = true) : w ∈ lw_G := List.mem_filter.mpr ⟨List.mem_append_right _ h, hg⟩
theorem lw_G_t1 {w : Cond} (h : w ∈ tables_1_1) (hg : goodWord w = true) : w ∈ lw_G := lw_G_mk (List.mem_append_left _ h) hg
theorem lw_G_t2 {w : Cond} (h : w ∈ tables_1_2) (hg : goodWord w = true) : w ∈ lw_G := lw_G_mk (List.mem_append_right _ (List.mem_append_left _ h)) hg
theorem lw_G_t3 {w : Cond} (h : w ∈ tables_1_3) (hg : goodWord w = true) : w ∈ lw_G := lw_G_mk (List.mem_append_right _ (List.mem_append_right _ (List.mem_append_left _ h))) hg
theorem lw_G_t4 {w : Cond} (h : w ∈ tables_1_4) (hg : goodWord w = true) : w ∈ lw_G := lw_G_mk (List.mem_append_right _ (List.mem_append_right _ (List.mem_append_right _ (List.mem_append_left _ h)))) hg
theorem lw_G_t5 {w : Cond} (h : w ∈ tables_1_5) (hg : goodWord w = true) : w ∈ lw_G := lw_G_mk (List.mem_append_right _ (List.mem_append_right _ (List.mem_append_right _ (List.mem_append_right _ h)))) hg
theorem lw_G_sel {y : MethodName} {n : Nat} (h : (y, n) ∈ lw_privs) (hg : goodWord (Cond.selects y.cls y y) = true) : Cond.selects y.cls y y ∈ lw_G := List.mem_filter.mpr ⟨List.mem_append_left _ (List.mem_map.mpr ⟨(y, n), h, rfl⟩), hg⟩
def lw_isN : Cond → Bool
  | .fieldLinkNest .. => true
  | .methodLinkNest .. => true
  | _ => false
/-- the words on nest mates: they hold on by 'warm' rows -/
def lw_N : List Cond := lw_tbl.filter lw_isN
theorem lw_N_mk {w : Cond} (h : w ∈ tables_1) (hg : lw_isN w = true) : w ∈ lw_N := List.mem_filter.mpr ⟨List.mem_append_right _ h, hg⟩
theorem lw_N_t1 {w : Cond} (h : w ∈ tables_1_1) (hg : lw_isN w = true) : w ∈ lw_N := lw_N_mk (List.mem_append_left _ h) hg
theorem lw_N_t2 {w : Cond} (h : w ∈ tables_1_2) (hg : lw_isN w = true) : w ∈ lw_N := lw_N_mk (List.mem_append_right _ (List.mem_append_left _ h)) hg
theorem lw_N_t3 {w : Cond} (h : w ∈ tables_1_3) (hg : lw_isN w = true) : w ∈ lw_N := lw_N_mk (List.mem_append_right _ (List.mem_append_right _ (List.mem_append_left _ h))) hg
theorem lw_N_t4 {w : Cond} (h : w ∈ tables_1_4) (hg : lw_isN w = true) : w ∈ lw_N := lw_N_mk (List.mem_append_right _ (List.mem_append_right _ (List.mem_append_right _ (List.mem_append_left _ h)))) hg
theorem lw_N_t5 {w : Cond} (h : w ∈ tables_1_5) (hg : lw_isN w = true) : w ∈ lw_N := lw_N_mk (List.mem_append_right _ (List.mem_append_right _ (List.mem_append_right _ (List.mem_append_right _ h)))) hg
def nst (U : State) : Prop := ∀ w ∈ lw_N, va_Nw w U
theorem nst_warm {s U : State} (hW : s.WarmedH U.vm) (h : nst s) : nst U := by
  intro w hw
  have h1 := h w hw
  have h2 := (List.mem_filter.mp hw).2
  cases w with
  | fieldLinkNest a i b n d h => exact va_Nw.warmF hW h1
  | methodLinkNest a i x h => exact va_Nw.warmM hW h1
  | _ => cases h2
theorem nst_same {s U : State} (hv : s.vm = U.vm) (h : nst s) : nst U := by
  intro w hw
  have h1 := h w hw
  have h2 := (List.mem_filter.mp hw).2
  cases w with
  | fieldLinkNest a i b n d h => exact va_Nw.same rfl hv h1
  | methodLinkNest a i x h => exact va_Nw.same rfl hv h1
  | _ => cases h2
theorem nst_of {args : Array Value} {s : State} (h : ∀ w ∈ lw_tbl, w.before args s = true) : nst s := by
  intro w hw
  have h1 := h w (List.mem_filter.mp hw).1
  have h2 := (List.mem_filter.mp hw).2
  cases w with
  | fieldLinkNest a i b n d h => exact va_Nw.of rfl h1
  | methodLinkNest a i x h => exact va_Nw.of rfl h1
  | _ => cases h2
theorem lw_G_tbl {w : Cond} (h : w ∈ lw_G) : w ∈ lw_tbl := (List.mem_filter.mp h).1
theorem lw_G_good {w : Cond} (h : w ∈ lw_G) : (w.onTables && w.keeps) = true ∨ ∃ ty, w = .arrayClass ty := good_of_word (List.mem_filter.mp h).2
end
section
def RX0 : String := "CustodyRoom$Handing"
def TX0 : u_T := fun k => match k with
  | 0 => ("CustodyRoom$Handing", "thing", "I", true)
  | 1 => ("CustodyRoom$Handing", "giver", "I", true)
  | 2 => ("CustodyRoom$Handing", "taker", "I", true)
  | 3 => ("CustodyRoom$Handing", "minute", "I", true)
  | 4 => ("CustodyRoom$Handing", "giverYes", "I", false)
  | 5 => ("CustodyRoom$Handing", "takerYes", "I", false)
  | _ => ("CustodyRoom$Handing", "ended", "Z", false)
def tyX0 : Nat → FieldType := fun k => match k with
  | 0 => .int
  | 1 => .int
  | 2 => .int
  | 3 => .int
  | 4 => .int
  | 5 => .int
  | _ => .boolean
abbrev wsX00 : List Cond := u_ws RX0 TX0 7
theorem nmX0 : ∀ a, a < 7 → ∀ b, b < 7 → a ≠ b → (TX0 a).2.1 ≠ (TX0 b).2.1 := by decide +kernel
theorem tyX0_ok : ∀ k, k < 7 → parseFieldDescriptor (TX0 k).2.2.1 = some (tyX0 k) := by decide +kernel
abbrev cX0_init : ByteArray := prog_2_method_1_code
def yX0_init : MethodName := ⟨RX0, "<init>", "(IIII)V"⟩
abbrev cX0_isBetween : ByteArray := prog_2_method_2_code
def yX0_isBetween : MethodName := ⟨RX0, "isBetween", "(I)Z"⟩
abbrev cX0_awaits : ByteArray := prog_2_method_3_code
def yX0_awaits : MethodName := ⟨RX0, "awaits", "(I)Z"⟩
abbrev cX0_setYes : ByteArray := prog_2_method_4_code
def yX0_setYes : MethodName := ⟨RX0, "setYes", "(II)V"⟩
abbrev cX0_isAgreed : ByteArray := prog_2_method_5_code
def yX0_isAgreed : MethodName := ⟨RX0, "isAgreed", "()Z"⟩
abbrev cX0_laterYes : ByteArray := prog_2_method_6_code
def yX0_laterYes : MethodName := ⟨RX0, "laterYes", "()I"⟩
abbrev cX0_isLate : ByteArray := prog_2_method_7_code
def yX0_isLate : MethodName := ⟨RX0, "isLate", "()Z"⟩
def RX1 : String := "CustodyRoom$Links"
def TX1 : u_T := fun k => match k with
  | 0 => ("CustodyRoom$Links", "slips", "LCustodyRoom$Slips;", true)
  | 1 => ("CustodyRoom$Links", "backward", "[I", true)
  | _ => ("CustodyRoom$Links", "length", "I", false)
def tyX1 : Nat → FieldType := fun k => match k with
  | 0 => .object "CustodyRoom$Slips"
  | 1 => .array .int
  | _ => .int
abbrev wsX10 : List Cond := u_ws RX1 TX1 3
theorem nmX1 : ∀ a, a < 3 → ∀ b, b < 3 → a ≠ b → (TX1 a).2.1 ≠ (TX1 b).2.1 := by decide +kernel
theorem tyX1_ok : ∀ k, k < 3 → parseFieldDescriptor (TX1 k).2.2.1 = some (tyX1 k) := by decide +kernel
abbrev cX1_init : ByteArray := prog_3_method_1_code
def yX1_init : MethodName := ⟨RX1, "<init>", "(LCustodyRoom$Slips;)V"⟩
abbrev cX1_follow : ByteArray := prog_3_method_2_code
def yX1_follow : MethodName := ⟨RX1, "follow", "(I)V"⟩
abbrev cX1_append : ByteArray := prog_3_method_3_code
def yX1_append : MethodName := ⟨RX1, "append", "(I)V"⟩
abbrev cX1_link : ByteArray := prog_3_method_4_code
def yX1_link : MethodName := ⟨RX1, "link", "(I)I"⟩
abbrev cX1_endOfGap : ByteArray := prog_3_method_5_code
def yX1_endOfGap : MethodName := ⟨RX1, "endOfGap", "(I)I"⟩
def RX2 : String := "CustodyRoom$Slips"
def TX2 : u_T := fun k => match k with
  | 0 => ("CustodyRoom$Slips", "cells", "[I", true)
  | 1 => ("CustodyRoom$Slips", "order", "[I", true)
  | _ => ("CustodyRoom$Slips", "count", "I", false)
def tyX2 : Nat → FieldType := fun k => match k with
  | 0 => .array .int
  | 1 => .array .int
  | _ => .int
abbrev wsX20 : List Cond := u_ws RX2 TX2 3
theorem nmX2 : ∀ a, a < 3 → ∀ b, b < 3 → a ≠ b → (TX2 a).2.1 ≠ (TX2 b).2.1 := by decide +kernel
theorem tyX2_ok : ∀ k, k < 3 → parseFieldDescriptor (TX2 k).2.2.1 = some (tyX2 k) := by decide +kernel
abbrev cX2_init : ByteArray := prog_4_method_1_code
def yX2_init : MethodName := ⟨RX2, "<init>", "()V"⟩
abbrev cX2_has : ByteArray := prog_4_method_2_code
def yX2_has : MethodName := ⟨RX2, "has", "(I)Z"⟩
abbrev cX2_cell : ByteArray := prog_4_method_3_code
def yX2_cell : MethodName := ⟨RX2, "cell", "(II)I"⟩
abbrev cX2_inOrder : ByteArray := prog_4_method_4_code
def yX2_inOrder : MethodName := ⟨RX2, "inOrder", "(I)I"⟩
abbrev cX2_add : ByteArray := prog_4_method_5_code
def yX2_add : MethodName := ⟨RX2, "add", "([I)V"⟩
abbrev cX2_dropLast : ByteArray := prog_4_method_6_code
def yX2_dropLast : MethodName := ⟨RX2, "dropLast", "()V"⟩
abbrev cX2_putInOrder : ByteArray := prog_4_method_7_code
def yX2_putInOrder : MethodName := ⟨RX2, "putInOrder", "(I)V"⟩
abbrev cX2_alterCell : ByteArray := prog_4_method_8_code
def yX2_alterCell : MethodName := ⟨RX2, "alterCell", "(III)V"⟩
abbrev cX2_copyFrom : ByteArray := prog_4_method_9_code
def yX2_copyFrom : MethodName := ⟨RX2, "copyFrom", "(LCustodyRoom$Slips;)V"⟩
abbrev cX2_isLate : ByteArray := prog_4_method_10_code
def yX2_isLate : MethodName := ⟨RX2, "isLate", "(I)Z"⟩
abbrev cX2_useSealBeyond : ByteArray := prog_4_method_11_code
def yX2_useSealBeyond : MethodName := ⟨RX2, "useSealBeyond", "(II)Z"⟩
abbrev cX2_firstBreak : ByteArray := prog_4_method_12_code
def yX2_firstBreak : MethodName := ⟨RX2, "firstBreak", "(I)I"⟩
abbrev cX2_isBirth : ByteArray := prog_4_method_13_code
def yX2_isBirth : MethodName := ⟨RX2, "isBirth", "(II)Z"⟩
abbrev cX2_isMoveOf : ByteArray := prog_4_method_14_code
def yX2_isMoveOf : MethodName := ⟨RX2, "isMoveOf", "(II)Z"⟩
def RX3 : String := "CustodyRoom$Standing"
def TX3 : u_T := fun k => match k with
  | 0 => ("CustodyRoom$Standing", "stock", "LCustodyRoom$Stock;", true)
  | 1 => ("CustodyRoom$Standing", "how", "[I", true)
  | 2 => ("CustodyRoom$Standing", "holder", "[I", true)
  | 3 => ("CustodyRoom$Standing", "weight", "[I", true)
  | 4 => ("CustodyRoom$Standing", "seal", "[I", true)
  | 5 => ("CustodyRoom$Standing", "dueDay", "[I", true)
  | 6 => ("CustodyRoom$Standing", "keepDay", "[I", true)
  | 7 => ("CustodyRoom$Standing", "doomed", "[I", true)
  | 8 => ("CustodyRoom$Standing", "trials", "[I", true)
  | 9 => ("CustodyRoom$Standing", "inside", "[I", true)
  | 10 => ("CustodyRoom$Standing", "origin", "[I", true)
  | 11 => ("CustodyRoom$Standing", "lying", "[I", true)
  | 12 => ("CustodyRoom$Standing", "sealUsed", "[I", true)
  | 13 => ("CustodyRoom$Standing", "t", "I", false)
  | 14 => ("CustodyRoom$Standing", "a", "I", false)
  | 15 => ("CustodyRoom$Standing", "b", "I", false)
  | 16 => ("CustodyRoom$Standing", "c", "I", false)
  | 17 => ("CustodyRoom$Standing", "d", "I", false)
  | _ => ("CustodyRoom$Standing", "day", "I", false)
def tyX3 : Nat → FieldType := fun k => match k with
  | 0 => .object "CustodyRoom$Stock"
  | 1 => .array .int
  | 2 => .array .int
  | 3 => .array .int
  | 4 => .array .int
  | 5 => .array .int
  | 6 => .array .int
  | 7 => .array .int
  | 8 => .array .int
  | 9 => .array .int
  | 10 => .array .int
  | 11 => .array .int
  | 12 => .array .int
  | 13 => .int
  | 14 => .int
  | 15 => .int
  | 16 => .int
  | 17 => .int
  | _ => .int
abbrev wsX30 : List Cond := u_ws RX3 TX3 19
theorem nmX3 : ∀ a, a < 19 → ∀ b, b < 19 → a ≠ b → (TX3 a).2.1 ≠ (TX3 b).2.1 := by decide +kernel
theorem tyX3_ok : ∀ k, k < 19 → parseFieldDescriptor (TX3 k).2.2.1 = some (tyX3 k) := by decide +kernel
abbrev cX3_init : ByteArray := prog_5_method_1_code
def yX3_init : MethodName := ⟨RX3, "<init>", "(LCustodyRoom$Stock;)V"⟩
abbrev cX3_firstUndone : ByteArray := prog_5_method_2_code
def yX3_firstUndone : MethodName := ⟨RX3, "firstUndone", "(LCustodyRoom$Slips;)I"⟩
abbrev cX3_tellKnown : ByteArray := prog_5_method_3_code
def yX3_tellKnown : MethodName := ⟨RX3, "tellKnown", "(LCustodyRoom$Slips;II)V"⟩
abbrev cX3_answer : ByteArray := prog_5_method_4_code
def yX3_answer : MethodName := ⟨RX3, "answer", "(II)I"⟩
abbrev cX3_thingOfDay : ByteArray := prog_5_method_5_code
def yX3_thingOfDay : MethodName := ⟨RX3, "thingOfDay", "(II)I"⟩
abbrev cX3_clear : ByteArray := prog_5_method_6_code
def yX3_clear : MethodName := ⟨RX3, "clear", "()V"⟩
abbrev cX3_tell : ByteArray := prog_5_method_7_code
def yX3_tell : MethodName := ⟨RX3, "tell", "(LCustodyRoom$Slips;I)Z"⟩
abbrev cX3_comeIn : ByteArray := prog_5_method_8_code
def yX3_comeIn : MethodName := ⟨RX3, "comeIn", "()Z"⟩
abbrev cX3_goOut : ByteArray := prog_5_method_9_code
def yX3_goOut : MethodName := ⟨RX3, "goOut", "()Z"⟩
abbrev cX3_goOn : ByteArray := prog_5_method_10_code
def yX3_goOn : MethodName := ⟨RX3, "goOn", "()Z"⟩
abbrev cX3_comeBack : ByteArray := prog_5_method_11_code
def yX3_comeBack : MethodName := ⟨RX3, "comeBack", "()Z"⟩
abbrev cX3_putElsewhere : ByteArray := prog_5_method_12_code
def yX3_putElsewhere : MethodName := ⟨RX3, "putElsewhere", "()Z"⟩
abbrev cX3_goInto : ByteArray := prog_5_method_13_code
def yX3_goInto : MethodName := ⟨RX3, "goInto", "()Z"⟩
abbrev cX3_comeFrom : ByteArray := prog_5_method_14_code
def yX3_comeFrom : MethodName := ⟨RX3, "comeFrom", "()Z"⟩
abbrev cX3_close : ByteArray := prog_5_method_15_code
def yX3_close : MethodName := ⟨RX3, "close", "()Z"⟩
abbrev cX3_unseal : ByteArray := prog_5_method_16_code
def yX3_unseal : MethodName := ⟨RX3, "unseal", "()Z"⟩
abbrev cX3_look : ByteArray := prog_5_method_17_code
def yX3_look : MethodName := ⟨RX3, "look", "()Z"⟩
abbrev cX3_takePart : ByteArray := prog_5_method_18_code
def yX3_takePart : MethodName := ⟨RX3, "takePart", "()Z"⟩
abbrev cX3_takeCopy : ByteArray := prog_5_method_19_code
def yX3_takeCopy : MethodName := ⟨RX3, "takeCopy", "()Z"⟩
abbrev cX3_mayBeTaken : ByteArray := prog_5_method_20_code
def yX3_mayBeTaken : MethodName := ⟨RX3, "mayBeTaken", "(I)Z"⟩
abbrev cX3_bringToHand : ByteArray := prog_5_method_21_code
def yX3_bringToHand : MethodName := ⟨RX3, "bringToHand", "()V"⟩
abbrev cX3_weigh : ByteArray := prog_5_method_22_code
def yX3_weigh : MethodName := ⟨RX3, "weigh", "()Z"⟩
abbrev cX3_keep : ByteArray := prog_5_method_23_code
def yX3_keep : MethodName := ⟨RX3, "keep", "()Z"⟩
abbrev cX3_doom : ByteArray := prog_5_method_24_code
def yX3_doom : MethodName := ⟨RX3, "doom", "()Z"⟩
abbrev cX3_beginTrial : ByteArray := prog_5_method_25_code
def yX3_beginTrial : MethodName := ⟨RX3, "beginTrial", "()Z"⟩
abbrev cX3_endTrial : ByteArray := prog_5_method_26_code
def yX3_endTrial : MethodName := ⟨RX3, "endTrial", "()Z"⟩
abbrev cX3_goesOn : ByteArray := prog_5_method_27_code
def yX3_goesOn : MethodName := ⟨RX3, "goesOn", "()Z"⟩
abbrev cX3_destroy : ByteArray := prog_5_method_28_code
def yX3_destroy : MethodName := ⟨RX3, "destroy", "()Z"⟩
abbrev cX3_find : ByteArray := prog_5_method_29_code
def yX3_find : MethodName := ⟨RX3, "find", "()Z"⟩
abbrev cX3_keepersServe : ByteArray := prog_5_method_30_code
def yX3_keepersServe : MethodName := ⟨RX3, "keepersServe", "(Z)Z"⟩
abbrev cX3_isMoneyBag : ByteArray := prog_5_method_31_code
def yX3_isMoneyBag : MethodName := ⟨RX3, "isMoneyBag", "(I)Z"⟩
abbrev cX3_isDay : ByteArray := prog_5_method_32_code
def yX3_isDay : MethodName := ⟨RX3, "isDay", "(I)Z"⟩
abbrev cX3_isKept : ByteArray := prog_5_method_33_code
def yX3_isKept : MethodName := ⟨RX3, "isKept", "(I)Z"⟩
abbrev cX3_isAt : ByteArray := prog_5_method_34_code
def yX3_isAt : MethodName := ⟨RX3, "isAt", "(III)Z"⟩
abbrev cX3_mayLieAt : ByteArray := prog_5_method_35_code
def yX3_mayLieAt : MethodName := ⟨RX3, "mayLieAt", "(I)Z"⟩
abbrev cX3_move : ByteArray := prog_5_method_36_code
def yX3_move : MethodName := ⟨RX3, "move", "(III)V"⟩
abbrev cX3_register : ByteArray := prog_5_method_37_code
def yX3_register : MethodName := ⟨RX3, "register", "(III)V"⟩
abbrev cX3_bagAround : ByteArray := prog_5_method_38_code
def yX3_bagAround : MethodName := ⟨RX3, "bagAround", "(I)I"⟩
abbrev cX3_outermost : ByteArray := prog_5_method_39_code
def yX3_outermost : MethodName := ⟨RX3, "outermost", "(I)I"⟩
abbrev cX3_isFree : ByteArray := prog_5_method_40_code
def yX3_isFree : MethodName := ⟨RX3, "isFree", "(I)Z"⟩
abbrev cX3_deepestIn : ByteArray := prog_5_method_41_code
def yX3_deepestIn : MethodName := ⟨RX3, "deepestIn", "(I)I"⟩
abbrev cX3_stepsUpTo : ByteArray := prog_5_method_42_code
def yX3_stepsUpTo : MethodName := ⟨RX3, "stepsUpTo", "(II)I"⟩
abbrev cX3_isAnyOfItInHand : ByteArray := prog_5_method_43_code
def yX3_isAnyOfItInHand : MethodName := ⟨RX3, "isAnyOfItInHand", "()Z"⟩
abbrev cX3_isOf : ByteArray := prog_5_method_44_code
def yX3_isOf : MethodName := ⟨RX3, "isOf", "(II)Z"⟩
def RX4 : String := "CustodyRoom$Stock"
def TX4 : u_T := fun k => match k with
  | 0 => ("CustodyRoom$Stock", "keeper", "[Z", true)
  | 1 => ("CustodyRoom$Stock", "cold", "[Z", true)
  | 2 => ("CustodyRoom$Stock", "sealsGiven", "[I", true)
  | 3 => ("CustodyRoom$Stock", "kinds", "[I", true)
  | 4 => ("CustodyRoom$Stock", "weights", "[I", true)
  | 5 => ("CustodyRoom$Stock", "hands", "I", false)
  | 6 => ("CustodyRoom$Stock", "shelves", "I", false)
  | _ => ("CustodyRoom$Stock", "things", "I", false)
def tyX4 : Nat → FieldType := fun k => match k with
  | 0 => .array .boolean
  | 1 => .array .boolean
  | 2 => .array .int
  | 3 => .array .int
  | 4 => .array .int
  | 5 => .int
  | 6 => .int
  | _ => .int
abbrev wsX40 : List Cond := u_ws RX4 TX4 8
theorem nmX4 : ∀ a, a < 8 → ∀ b, b < 8 → a ≠ b → (TX4 a).2.1 ≠ (TX4 b).2.1 := by decide +kernel
theorem tyX4_ok : ∀ k, k < 8 → parseFieldDescriptor (TX4 k).2.2.1 = some (tyX4 k) := by decide +kernel
abbrev cX4_init : ByteArray := prog_6_method_1_code
def yX4_init : MethodName := ⟨RX4, "<init>", "()V"⟩
abbrev cX4_addHand : ByteArray := prog_6_method_2_code
def yX4_addHand : MethodName := ⟨RX4, "addHand", "(Z)I"⟩
abbrev cX4_addShelf : ByteArray := prog_6_method_3_code
def yX4_addShelf : MethodName := ⟨RX4, "addShelf", "(Z)I"⟩
abbrev cX4_addThing : ByteArray := prog_6_method_4_code
def yX4_addThing : MethodName := ⟨RX4, "addThing", "(II)I"⟩
abbrev cX4_giveOut : ByteArray := prog_6_method_5_code
def yX4_giveOut : MethodName := ⟨RX4, "giveOut", "(II)V"⟩
abbrev cX4_isHand : ByteArray := prog_6_method_6_code
def yX4_isHand : MethodName := ⟨RX4, "isHand", "(I)Z"⟩
abbrev cX4_isKeeper : ByteArray := prog_6_method_7_code
def yX4_isKeeper : MethodName := ⟨RX4, "isKeeper", "(I)Z"⟩
abbrev cX4_isPlace : ByteArray := prog_6_method_8_code
def yX4_isPlace : MethodName := ⟨RX4, "isPlace", "(I)Z"⟩
abbrev cX4_isColdPlace : ByteArray := prog_6_method_9_code
def yX4_isColdPlace : MethodName := ⟨RX4, "isColdPlace", "(I)Z"⟩
abbrev cX4_isGivenOut : ByteArray := prog_6_method_10_code
def yX4_isGivenOut : MethodName := ⟨RX4, "isGivenOut", "(I)Z"⟩
abbrev cX4_isThing : ByteArray := prog_6_method_11_code
def yX4_isThing : MethodName := ⟨RX4, "isThing", "(I)Z"⟩
abbrev cX4_isOfKind : ByteArray := prog_6_method_12_code
def yX4_isOfKind : MethodName := ⟨RX4, "isOfKind", "(II)Z"⟩
abbrev cX4_isBag : ByteArray := prog_6_method_13_code
def yX4_isBag : MethodName := ⟨RX4, "isBag", "(I)Z"⟩
def RX5 : String := "CustodyRoom"
def TX5 : u_T := fun k => match k with
  | 0 => ("CustodyRoom", "stock", "LCustodyRoom$Stock;", true)
  | 1 => ("CustodyRoom", "slips", "LCustodyRoom$Slips;", true)
  | 2 => ("CustodyRoom", "image", "LCustodyRoom$Slips;", true)
  | 3 => ("CustodyRoom", "standing", "LCustodyRoom$Standing;", true)
  | 4 => ("CustodyRoom", "links", "LCustodyRoom$Links;", true)
  | 5 => ("CustodyRoom", "handings", "[LCustodyRoom$Handing;", true)
  | 6 => ("CustodyRoom", "draft", "[I", true)
  | 7 => ("CustodyRoom", "handingCount", "I", false)
  | 8 => ("CustodyRoom", "frozen", "Z", false)
  | 9 => ("CustodyRoom", "now", "I", false)
  | 10 => ("CustodyRoom", "faultTold", "I", false)
  | _ => ("CustodyRoom", "slipBlamed", "I", false)
def tyX5 : Nat → FieldType := fun k => match k with
  | 0 => .object "CustodyRoom$Stock"
  | 1 => .object "CustodyRoom$Slips"
  | 2 => .object "CustodyRoom$Slips"
  | 3 => .object "CustodyRoom$Standing"
  | 4 => .object "CustodyRoom$Links"
  | 5 => .array (.object "CustodyRoom$Handing")
  | 6 => .array .int
  | 7 => .int
  | 8 => .boolean
  | 9 => .int
  | 10 => .int
  | _ => .int
abbrev wsX50 : List Cond := u_ws RX5 TX5 12
theorem nmX5 : ∀ a, a < 12 → ∀ b, b < 12 → a ≠ b → (TX5 a).2.1 ≠ (TX5 b).2.1 := by decide +kernel
theorem tyX5_ok : ∀ k, k < 12 → parseFieldDescriptor (TX5 k).2.2.1 = some (tyX5 k) := by decide +kernel
abbrev cX5_init : ByteArray := prog_1_method_1_code
def yX5_init : MethodName := ⟨RX5, "<init>", "()V"⟩
abbrev cX5_hand : ByteArray := prog_1_method_2_code
def yX5_hand : MethodName := ⟨RX5, "hand", "(Z)I"⟩
abbrev cX5_shelf : ByteArray := prog_1_method_3_code
def yX5_shelf : MethodName := ⟨RX5, "shelf", "(Z)I"⟩
abbrev cX5_seals : ByteArray := prog_1_method_4_code
def yX5_seals : MethodName := ⟨RX5, "seals", "(II)Z"⟩
abbrev cX5_thing : ByteArray := prog_1_method_5_code
def yX5_thing : MethodName := ⟨RX5, "thing", "(II)I"⟩
abbrev cX5_pass : ByteArray := prog_1_method_6_code
def yX5_pass : MethodName := ⟨RX5, "pass", "(I)I"⟩
abbrev cX5_slip : ByteArray := prog_1_method_7_code
def yX5_slip : MethodName := ⟨RX5, "slip", "(IIIIIII)I"⟩
abbrev cX5_fault : ByteArray := prog_1_method_8_code
def yX5_fault : MethodName := ⟨RX5, "fault", "(I)I"⟩
abbrev cX5_handing : ByteArray := prog_1_method_9_code
def yX5_handing : MethodName := ⟨RX5, "handing", "(IIII)I"⟩
abbrev cX5_yes : ByteArray := prog_1_method_10_code
def yX5_yes : MethodName := ⟨RX5, "yes", "(III)I"⟩
abbrev cX5_no : ByteArray := prog_1_method_11_code
def yX5_no : MethodName := ⟨RX5, "no", "(II)Z"⟩
abbrev cX5_about : ByteArray := prog_1_method_12_code
def yX5_about : MethodName := ⟨RX5, "about", "(I)I"⟩
abbrev cX5_slipOf : ByteArray := prog_1_method_13_code
def yX5_slipOf : MethodName := ⟨RX5, "slipOf", "(II)I"⟩
abbrev cX5_where : ByteArray := prog_1_method_14_code
def yX5_where : MethodName := ⟨RX5, "where", "(IIII)I"⟩
abbrev cX5_chain : ByteArray := prog_1_method_15_code
def yX5_chain : MethodName := ⟨RX5, "chain", "(II)I"⟩
abbrev cX5_gap : ByteArray := prog_1_method_16_code
def yX5_gap : MethodName := ⟨RX5, "gap", "(III)I"⟩
abbrev cX5_breaks : ByteArray := prog_1_method_17_code
def yX5_breaks : MethodName := ⟨RX5, "breaks", "(I)I"⟩
abbrev cX5_due : ByteArray := prog_1_method_18_code
def yX5_due : MethodName := ⟨RX5, "due", "(II)I"⟩
abbrev cX5_freeze : ByteArray := prog_1_method_19_code
def yX5_freeze : MethodName := ⟨RX5, "freeze", "()I"⟩
abbrev cX5_alter : ByteArray := prog_1_method_20_code
def yX5_alter : MethodName := ⟨RX5, "alter", "(III)Z"⟩
abbrev cX5_check : ByteArray := prog_1_method_21_code
def yX5_check : MethodName := ⟨RX5, "check", "()I"⟩
abbrev cX5_thaw : ByteArray := prog_1_method_22_code
def yX5_thaw : MethodName := ⟨RX5, "thaw", "()Z"⟩
abbrev cX5_findHanding : ByteArray := prog_1_method_23_code
def yX5_findHanding : MethodName := ⟨RX5, "findHanding", "(I)LCustodyRoom$Handing;"⟩
abbrev cX5_write : ByteArray := prog_1_method_24_code
def yX5_write : MethodName := ⟨RX5, "write", "(IIIIIII)I"⟩
abbrev cX5_faultAhead : ByteArray := prog_1_method_25_code
def yX5_faultAhead : MethodName := ⟨RX5, "faultAhead", "(III)I"⟩
def RX6 : String := "CustodyRoomModel"
def TX6 : u_T := fun k => match k with
  | 0 => ("CustodyRoomModel", "hands", "I", false)
  | 1 => ("CustodyRoomModel", "shelves", "I", false)
  | 2 => ("CustodyRoomModel", "things", "I", false)
  | 3 => ("CustodyRoomModel", "slips", "I", false)
  | 4 => ("CustodyRoomModel", "now", "I", false)
  | 5 => ("CustodyRoomModel", "handings", "I", false)
  | 6 => ("CustodyRoomModel", "image", "I", false)
  | 7 => ("CustodyRoomModel", "keeper", "[Z", true)
  | 8 => ("CustodyRoomModel", "cold", "[Z", true)
  | 9 => ("CustodyRoomModel", "sealRow", "[I", true)
  | 10 => ("CustodyRoomModel", "kind", "[I", true)
  | 11 => ("CustodyRoomModel", "weight", "[I", true)
  | 12 => ("CustodyRoomModel", "slip", "[I", true)
  | 13 => ("CustodyRoomModel", "kept", "[I", true)
  | 14 => ("CustodyRoomModel", "handing", "[I", true)
  | 15 => ("CustodyRoomModel", "fault", "I", false)
  | 16 => ("CustodyRoomModel", "culprit", "I", false)
  | 17 => ("CustodyRoomModel", "how", "[I", true)
  | 18 => ("CustodyRoomModel", "where", "[I", true)
  | 19 => ("CustodyRoomModel", "heavy", "[I", true)
  | 20 => ("CustodyRoomModel", "seal", "[I", true)
  | 21 => ("CustodyRoomModel", "dueOn", "[I", true)
  | 22 => ("CustodyRoomModel", "keepTill", "[I", true)
  | 23 => ("CustodyRoomModel", "toGo", "[Z", true)
  | 24 => ("CustodyRoomModel", "trials", "[I", true)
  | 25 => ("CustodyRoomModel", "of", "[I", true)
  | 26 => ("CustodyRoomModel", "was", "[Z", true)
  | 27 => ("CustodyRoomModel", "sealed", "[Z", true)
  | 28 => ("CustodyRoomModel", "order", "[I", true)
  | 29 => ("CustodyRoomModel", "chain", "[I", true)
  | 30 => ("CustodyRoomModel", "chains", "I", false)
  | 31 => ("CustodyRoomModel", "line", "[I", true)
  | _ => ("CustodyRoomModel", "came", "[I", true)
def tyX6 : Nat → FieldType := fun k => match k with
  | 0 => .int
  | 1 => .int
  | 2 => .int
  | 3 => .int
  | 4 => .int
  | 5 => .int
  | 6 => .int
  | 7 => .array .boolean
  | 8 => .array .boolean
  | 9 => .array .int
  | 10 => .array .int
  | 11 => .array .int
  | 12 => .array .int
  | 13 => .array .int
  | 14 => .array .int
  | 15 => .int
  | 16 => .int
  | 17 => .array .int
  | 18 => .array .int
  | 19 => .array .int
  | 20 => .array .int
  | 21 => .array .int
  | 22 => .array .int
  | 23 => .array .boolean
  | 24 => .array .int
  | 25 => .array .int
  | 26 => .array .boolean
  | 27 => .array .boolean
  | 28 => .array .int
  | 29 => .array .int
  | 30 => .int
  | 31 => .array .int
  | _ => .array .int
abbrev wsX60 : List Cond := u_ws RX6 TX6 33
theorem nmX6 : ∀ a, a < 33 → ∀ b, b < 33 → a ≠ b → (TX6 a).2.1 ≠ (TX6 b).2.1 := by decide +kernel
theorem tyX6_ok : ∀ k, k < 33 → parseFieldDescriptor (TX6 k).2.2.1 = some (tyX6 k) := by decide +kernel
abbrev cX6_init : ByteArray := prog_8_method_1_code
def yX6_init : MethodName := ⟨RX6, "<init>", "()V"⟩
abbrev cX6_isIn : ByteArray := prog_8_method_2_code
def yX6_isIn : MethodName := ⟨RX6, "isIn", "(III)Z"⟩
abbrev cX6_begin : ByteArray := prog_8_method_3_code
def yX6_begin : MethodName := ⟨RX6, "begin", "()V"⟩
abbrev cX6_isBag : ByteArray := prog_8_method_4_code
def yX6_isBag : MethodName := ⟨RX6, "isBag", "(I)Z"⟩
abbrev cX6_isKept : ByteArray := prog_8_method_5_code
def yX6_isKept : MethodName := ⟨RX6, "isKept", "(I)Z"⟩
abbrev cX6_isKeeper : ByteArray := prog_8_method_6_code
def yX6_isKeeper : MethodName := ⟨RX6, "isKeeper", "(I)Z"⟩
abbrev cX6_isHand : ByteArray := prog_8_method_7_code
def yX6_isHand : MethodName := ⟨RX6, "isHand", "(I)Z"⟩
abbrev cX6_isEmpty : ByteArray := prog_8_method_8_code
def yX6_isEmpty : MethodName := ⟨RX6, "isEmpty", "(I)Z"⟩
abbrev cX6_fits : ByteArray := prog_8_method_9_code
def yX6_fits : MethodName := ⟨RX6, "fits", "(II)Z"⟩
abbrev cX6_hasKeepers : ByteArray := prog_8_method_10_code
def yX6_hasKeepers : MethodName := ⟨RX6, "hasKeepers", "(IIZ)Z"⟩
abbrev cX6_isFree : ByteArray := prog_8_method_11_code
def yX6_isFree : MethodName := ⟨RX6, "isFree", "(I)Z"⟩
abbrev cX6_outermost : ByteArray := prog_8_method_12_code
def yX6_outermost : MethodName := ⟨RX6, "outermost", "(I)I"⟩
abbrev cX6_inside : ByteArray := prog_8_method_13_code
def yX6_inside : MethodName := ⟨RX6, "inside", "(I)I"⟩
abbrev cX6_depth : ByteArray := prog_8_method_14_code
def yX6_depth : MethodName := ⟨RX6, "depth", "(I)I"⟩
abbrev cX6_isWithin : ByteArray := prog_8_method_15_code
def yX6_isWithin : MethodName := ⟨RX6, "isWithin", "(II)Z"⟩
abbrev cX6_go : ByteArray := prog_8_method_16_code
def yX6_go : MethodName := ⟨RX6, "go", "(III)V"⟩
abbrev cX6_isDone : ByteArray := prog_8_method_17_code
def yX6_isDone : MethodName := ⟨RX6, "isDone", "([II)Z"⟩
abbrev cX6_comesIn : ByteArray := prog_8_method_18_code
def yX6_comesIn : MethodName := ⟨RX6, "comesIn", "(IIIII)Z"⟩
abbrev cX6_moves : ByteArray := prog_8_method_19_code
def yX6_moves : MethodName := ⟨RX6, "moves", "(IIIIII)Z"⟩
abbrev cX6_goesInto : ByteArray := prog_8_method_20_code
def yX6_goesInto : MethodName := ⟨RX6, "goesInto", "(IIII)Z"⟩
abbrev cX6_goesFrom : ByteArray := prog_8_method_21_code
def yX6_goesFrom : MethodName := ⟨RX6, "goesFrom", "(IIII)Z"⟩
abbrev cX6_isSeal : ByteArray := prog_8_method_22_code
def yX6_isSeal : MethodName := ⟨RX6, "isSeal", "(I)Z"⟩
abbrev cX6_isSealing : ByteArray := prog_8_method_23_code
def yX6_isSealing : MethodName := ⟨RX6, "isSealing", "(IIIII)Z"⟩
abbrev cX6_takes : ByteArray := prog_8_method_24_code
def yX6_takes : MethodName := ⟨RX6, "takes", "(IIIIII)Z"⟩
abbrev cX6_orders : ByteArray := prog_8_method_25_code
def yX6_orders : MethodName := ⟨RX6, "orders", "(III)Z"⟩
abbrev cX6_isOf : ByteArray := prog_8_method_26_code
def yX6_isOf : MethodName := ⟨RX6, "isOf", "(II)Z"⟩
abbrev cX6_isDestroyed : ByteArray := prog_8_method_27_code
def yX6_isDestroyed : MethodName := ⟨RX6, "isDestroyed", "(IIIII)Z"⟩
abbrev cX6_isFound : ByteArray := prog_8_method_28_code
def yX6_isFound : MethodName := ⟨RX6, "isFound", "(III)Z"⟩
abbrev cX6_sort : ByteArray := prog_8_method_29_code
def yX6_sort : MethodName := ⟨RX6, "sort", "([II)V"⟩
abbrev cX6_isSlip : ByteArray := prog_8_method_30_code
def yX6_isSlip : MethodName := ⟨RX6, "isSlip", "([II)Z"⟩
abbrev cX6_firstWrong : ByteArray := prog_8_method_31_code
def yX6_firstWrong : MethodName := ⟨RX6, "firstWrong", "([II)I"⟩
abbrev cX6_goOver : ByteArray := prog_8_method_32_code
def yX6_goOver : MethodName := ⟨RX6, "goOver", "(II)V"⟩
abbrev cX6_goOverAll : ByteArray := prog_8_method_33_code
def yX6_goOverAll : MethodName := ⟨RX6, "goOverAll", "()V"⟩
abbrev cX6_hand : ByteArray := prog_8_method_34_code
def yX6_hand : MethodName := ⟨RX6, "hand", "(Z)I"⟩
abbrev cX6_shelf : ByteArray := prog_8_method_35_code
def yX6_shelf : MethodName := ⟨RX6, "shelf", "(Z)I"⟩
abbrev cX6_seals : ByteArray := prog_8_method_36_code
def yX6_seals : MethodName := ⟨RX6, "seals", "(II)Z"⟩
abbrev cX6_thing : ByteArray := prog_8_method_37_code
def yX6_thing : MethodName := ⟨RX6, "thing", "(II)I"⟩
abbrev cX6_pass : ByteArray := prog_8_method_38_code
def yX6_pass : MethodName := ⟨RX6, "pass", "(I)I"⟩
abbrev cX6_written : ByteArray := prog_8_method_39_code
def yX6_written : MethodName := ⟨RX6, "written", "(IIIIIII)I"⟩
abbrev cX6_slip : ByteArray := prog_8_method_40_code
def yX6_slip : MethodName := ⟨RX6, "slip", "(IIIIIII)I"⟩
abbrev cX6_fault : ByteArray := prog_8_method_41_code
def yX6_fault : MethodName := ⟨RX6, "fault", "(I)I"⟩
abbrev cX6_handing : ByteArray := prog_8_method_42_code
def yX6_handing : MethodName := ⟨RX6, "handing", "(IIII)I"⟩
abbrev cX6_sayer : ByteArray := prog_8_method_43_code
def yX6_sayer : MethodName := ⟨RX6, "sayer", "(II)I"⟩
abbrev cX6_yes : ByteArray := prog_8_method_44_code
def yX6_yes : MethodName := ⟨RX6, "yes", "(III)I"⟩
abbrev cX6_no : ByteArray := prog_8_method_45_code
def yX6_no : MethodName := ⟨RX6, "no", "(II)Z"⟩
abbrev cX6_about : ByteArray := prog_8_method_46_code
def yX6_about : MethodName := ⟨RX6, "about", "(I)I"⟩
abbrev cX6_slipOf : ByteArray := prog_8_method_47_code
def yX6_slipOf : MethodName := ⟨RX6, "slipOf", "(II)I"⟩
abbrev cX6_bits : ByteArray := prog_8_method_48_code
def yX6_bits : MethodName := ⟨RX6, "bits", "(I)I"⟩
abbrev cX6_where : ByteArray := prog_8_method_49_code
def yX6_where : MethodName := ⟨RX6, "where", "(IIII)I"⟩
abbrev cX6_isMove : ByteArray := prog_8_method_50_code
def yX6_isMove : MethodName := ⟨RX6, "isMove", "(I)Z"⟩
abbrev cX6_cameAt : ByteArray := prog_8_method_51_code
def yX6_cameAt : MethodName := ⟨RX6, "cameAt", "(I)I"⟩
abbrev cX6_makeChain : ByteArray := prog_8_method_52_code
def yX6_makeChain : MethodName := ⟨RX6, "makeChain", "(I)V"⟩
abbrev cX6_put : ByteArray := prog_8_method_53_code
def yX6_put : MethodName := ⟨RX6, "put", "(I)V"⟩
abbrev cX6_chain : ByteArray := prog_8_method_54_code
def yX6_chain : MethodName := ⟨RX6, "chain", "(II)I"⟩
abbrev cX6_gap : ByteArray := prog_8_method_55_code
def yX6_gap : MethodName := ⟨RX6, "gap", "(III)I"⟩
abbrev cX6_breaks : ByteArray := prog_8_method_56_code
def yX6_breaks : MethodName := ⟨RX6, "breaks", "(I)I"⟩
abbrev cX6_due : ByteArray := prog_8_method_57_code
def yX6_due : MethodName := ⟨RX6, "due", "(II)I"⟩
abbrev cX6_freeze : ByteArray := prog_8_method_58_code
def yX6_freeze : MethodName := ⟨RX6, "freeze", "()I"⟩
abbrev cX6_alter : ByteArray := prog_8_method_59_code
def yX6_alter : MethodName := ⟨RX6, "alter", "(III)Z"⟩
abbrev cX6_check : ByteArray := prog_8_method_60_code
def yX6_check : MethodName := ⟨RX6, "check", "()I"⟩
abbrev cX6_thaw : ByteArray := prog_8_method_61_code
def yX6_thaw : MethodName := ⟨RX6, "thaw", "()Z"⟩
def RJ6 : String := "java/lang/Integer"
def TJ6 : u_T := fun k => match k with
  | _ => ("", "", "", false)
def tyJ6 : Nat → FieldType := fun k => match k with
  | _ => .int
abbrev wsJ60 : List Cond := u_ws RJ6 TJ6 0
theorem nmJ6 : ∀ a, a < 0 → ∀ b, b < 0 → a ≠ b → (TJ6 a).2.1 ≠ (TJ6 b).2.1 := by decide +kernel
theorem tyJ6_ok : ∀ k, k < 0 → parseFieldDescriptor (TJ6 k).2.2.1 = some (tyJ6 k) := by decide +kernel
abbrev cJ6_bitCount_0f7a4 : ByteArray := prog_9_method_49_code
def yJ6_bitCount_0f7a4 : MethodName := ⟨RJ6, "bitCount", "(I)I"⟩
def RJ9 : String := "java/lang/Math"
def TJ9 : u_T := fun k => match k with
  | _ => ("", "", "", false)
def tyJ9 : Nat → FieldType := fun k => match k with
  | _ => .int
abbrev wsJ90 : List Cond := u_ws RJ9 TJ9 0
theorem nmJ9 : ∀ a, a < 0 → ∀ b, b < 0 → a ≠ b → (TJ9 a).2.1 ≠ (TJ9 b).2.1 := by decide +kernel
theorem tyJ9_ok : ∀ k, k < 0 → parseFieldDescriptor (TJ9 k).2.2.1 = some (tyJ9 k) := by decide +kernel
abbrev cJ9_max_7cf53 : ByteArray := prog_10_method_65_code
def yJ9_max_7cf53 : MethodName := ⟨RJ9, "max", "(II)I"⟩
def RJ10 : String := "java/lang/System"
def TJ10 : u_T := fun k => match k with
  | _ => ("", "", "", false)
def tyJ10 : Nat → FieldType := fun k => match k with
  | _ => .int
abbrev wsJ100 : List Cond := u_ws RJ10 TJ10 0
theorem nmJ10 : ∀ a, a < 0 → ∀ b, b < 0 → a ≠ b → (TJ10 a).2.1 ≠ (TJ10 b).2.1 := by decide +kernel
theorem tyJ10_ok : ∀ k, k < 0 → parseFieldDescriptor (TJ10 k).2.2.1 = some (tyJ10 k) := by decide +kernel
def RJ7 : String := "java/util/Arrays"
def TJ7 : u_T := fun k => match k with
  | _ => ("", "", "", false)
def tyJ7 : Nat → FieldType := fun k => match k with
  | _ => .int
abbrev wsJ70 : List Cond := u_ws RJ7 TJ7 0
theorem nmJ7 : ∀ a, a < 0 → ∀ b, b < 0 → a ≠ b → (TJ7 a).2.1 ≠ (TJ7 b).2.1 := by decide +kernel
theorem tyJ7_ok : ∀ k, k < 0 → parseFieldDescriptor (TJ7 k).2.2.1 = some (tyJ7 k) := by decide +kernel
abbrev cJ7_fill_53178 : ByteArray := prog_12_method_103_code
def yJ7_fill_53178 : MethodName := ⟨RJ7, "fill", "([II)V"⟩
def RL : String := "CustodyRoomLaw"
abbrev cL_law : ByteArray := code
def yL_law : MethodName := ⟨RL, "law", "([I)Z"⟩
abbrev vwCl : List vw_C := [(RX0, TX0, 7), (RX1, TX1, 3), (RX2, TX2, 3), (RX3, TX3, 19), (RX4, TX4, 8), (RX5, TX5, 12), (RX6, TX6, 33)]
theorem inX0 : ∀ w ∈ u_ws RX0 TX0 7, w ∈ lw_G := fun w h => lw_G_mk ((by decide +kernel : ∀ w ∈ u_ws RX0 TX0 7, w ∈ tables_1) w h) ((by decide +kernel : ∀ w ∈ u_ws RX0 TX0 7, goodWord w = true) w h)
theorem inX1 : ∀ w ∈ u_ws RX1 TX1 3, w ∈ lw_G := fun w h => lw_G_mk ((by decide +kernel : ∀ w ∈ u_ws RX1 TX1 3, w ∈ tables_1) w h) ((by decide +kernel : ∀ w ∈ u_ws RX1 TX1 3, goodWord w = true) w h)
theorem inX2 : ∀ w ∈ u_ws RX2 TX2 3, w ∈ lw_G := fun w h => lw_G_mk ((by decide +kernel : ∀ w ∈ u_ws RX2 TX2 3, w ∈ tables_1) w h) ((by decide +kernel : ∀ w ∈ u_ws RX2 TX2 3, goodWord w = true) w h)
theorem inX3 : ∀ w ∈ u_ws RX3 TX3 19, w ∈ lw_G := fun w h => lw_G_mk ((by decide +kernel : ∀ w ∈ u_ws RX3 TX3 19, w ∈ tables_1) w h) ((by decide +kernel : ∀ w ∈ u_ws RX3 TX3 19, goodWord w = true) w h)
theorem inX4 : ∀ w ∈ u_ws RX4 TX4 8, w ∈ lw_G := fun w h => lw_G_mk ((by decide +kernel : ∀ w ∈ u_ws RX4 TX4 8, w ∈ tables_1) w h) ((by decide +kernel : ∀ w ∈ u_ws RX4 TX4 8, goodWord w = true) w h)
theorem inX5 : ∀ w ∈ u_ws RX5 TX5 12, w ∈ lw_G := fun w h => lw_G_mk ((by decide +kernel : ∀ w ∈ u_ws RX5 TX5 12, w ∈ tables_1) w h) ((by decide +kernel : ∀ w ∈ u_ws RX5 TX5 12, goodWord w = true) w h)
theorem inX6 : ∀ w ∈ u_ws RX6 TX6 33, w ∈ lw_G := fun w h => lw_G_mk ((by decide +kernel : ∀ w ∈ u_ws RX6 TX6 33, w ∈ tables_1) w h) ((by decide +kernel : ∀ w ∈ u_ws RX6 TX6 33, goodWord w = true) w h)
end
section
abbrev St : Type := Nat → Nat → Int32
abbrev ix (x : Int32) : Nat := x.toNatClampNeg
def upr (σ : St) (k : Nat) (f : Nat → Int32) : St := fun k' => if k' = k then f else σ k'
def up2 (σ : St) (k j : Nat) (v : Int32) : St := upr σ k (upd (σ k) j v)
def isB (r : Int32) : Prop := r = 0 ∨ r = 1
theorem isB_0 : isB 0 := Or.inl rfl
theorem isB_1 : isB 1 := Or.inr rfl
theorem isB_nar {r : Int32} (h : isB r) : narrow .boolean (.int r) = .int r := by
  rcases h with rfl | rfl <;> decide +kernel
/-- a world whose addresses don't move with its contents -/
def wOk (w : St → va_W) : Prop := ∀ σ τ, (w σ).map Prod.fst = (w τ).map Prod.fst
theorem va_D_addr {A : Nat → Prop} {w1 w2 : va_W} (h : w1.map Prod.fst = w2.map Prod.fst) (hD : va_D A w1) : va_D A w2 := by
  have key : ∀ (k : Nat) (q : Nat × va_E), w2[k]? = some q → ∃ q0, w1[k]? = some q0 ∧ q0.1 = q.1 := by
    intro k q hk
    have h1 : (w1.map Prod.fst)[k]? = some q.1 := by rw [h, List.getElem?_map, hk]; rfl
    rw [List.getElem?_map] at h1
    cases hq : w1[k]? with
    | none => rw [hq] at h1; cases h1
    | some q0 => rw [hq] at h1; exact ⟨q0, rfl, Option.some.inj h1⟩
  refine ⟨fun i j x y hi hj hxy => ?_, fun k q hk => ?_⟩
  · obtain ⟨x0, h1, h2⟩ := key i x hi
    obtain ⟨y0, h3, h4⟩ := key j y hj
    exact hD.1 i j x0 y0 h1 h3 (h2.trans (hxy.trans h4.symm))
  · obtain ⟨q0, h1, h2⟩ := key k q hk
    rw [← h2]
    exact hD.2 k q0 h1
/-- the machine at pc with these locals and this stack, its heap holding the world of σ, comes to its end -/
def go (p : Program) (l : Launch) (e : Env) (R : Room) (s : State) (m : MethodId) (args : Array Value) (below : List Frame) (meth : Method) (c : Code) (D : va_G) (w : St → va_W) (A : Nat → Prop) (cells slots : Nat) (Qf : State → Prop) (nL pc : Nat) (lv : List (Nat × Value)) (st : List Value) (σ : St) : Prop :=
  ∀ (H : Heap) (locs : List Loc) (ls : Array Slot), va_P D vwCl (w σ) H → va_S A s.heap H locs → lv_has ls nL lv → W p l e R s m args below meth c H locs cells slots Qf (F0 m pc ls st)
/-- what stands of a method's body from its entry to its end -/
def cx (p : Program) (s : State) (m : MethodId) (args : Array Value) (c : Code) (cc : ByteArray) (nL : Nat) (own : String) (D : va_G) (w : St → va_W) (A : Nat → Prop) (tys : List (ClassId × FieldType)) : Prop :=
  CallFix p m c cc nL s args lw_G own ∧ va_K D vwCl tys s ∧ (∀ σ, va_D A (w σ)) ∧ (∀ q : Nat, s.heap.size ≤ q → A q) ∧ nst s
def atw (D : va_G) (w : St → va_W) (tys : List (ClassId × FieldType)) (A : Nat → Prop) (u : St) (t : State) : Prop := va_P D vwCl (w u) t.heap ∧ va_K D vwCl tys t ∧ va_D A (w u)
def preW (D : va_G) (w : St → va_W) (tys : List (ClassId × FieldType)) (σ : St) (sz : Nat) (U : State) : Prop := U.heap.size = sz ∧ va_P D vwCl (w σ) U.heap ∧ va_K D vwCl tys U ∧ va_D (fun _ => True) (w σ) ∧ nst U
def ctI (l : Launch) (y : MethodName) (bytes : ByteArray) (maxL : Nat) (ret : Option FieldType) (rm : Room) (D : va_G) (w : St → va_W) (tys : List (ClassId × FieldType)) (av : List Value) (σ : St) (Q : Int32 → St → Prop) : Prop :=
  ∀ sz : Nat, Met l y (.code y bytes maxL ret :: lw_G) rm (va_Pc av (preW D w tys σ sz)) (va_Qi Q (atw D w tys (va_A (w σ) sz)) (va_A (w σ) sz)) 0 0 (va_A (w σ) sz)
def ctV (l : Launch) (y : MethodName) (bytes : ByteArray) (maxL : Nat) (ret : Option FieldType) (rm : Room) (D : va_G) (w : St → va_W) (tys : List (ClassId × FieldType)) (av : List Value) (σ : St) (Q : St → Prop) : Prop :=
  ∀ sz : Nat, Met l y (.code y bytes maxL ret :: lw_G) rm (va_Pc av (preW D w tys σ sz)) (va_Qv Q (atw D w tys (va_A (w σ) sz)) (va_A (w σ) sz)) 0 0 (va_A (w σ) sz)
theorem preW_blind {av : List Value} {D : va_G} {w : St → va_W} {tys : List (ClassId × FieldType)} {σ : St} {sz : Nat} : FrameBlind (va_Pc av (preW D w tys σ sz)) :=
  fun a U g mk h => ⟨h.1, h.2.1, h.2.2.1, va_K.moved (u := U) (U := U.calling g mk a) (Vm.Alike.refl U.vm) h.2.2.2.1, h.2.2.2.2.1, nst_same (s := U) (U := U.calling g mk a) rfl h.2.2.2.2.2⟩

set_option maxHeartbeats 1000000 in
theorem mk_I {l : Launch} {y : MethodName} {bytes : ByteArray} {maxL : Nat} {ret : Option FieldType} {rm : Room} {D : va_G} {w : St → va_W} {tys : List (ClassId × FieldType)} {av : List Value} {σ : St} {Q : Int32 → St → Prop} (hw : wOk w) (hy : plainName y.cls = true) (hlen : (lg_sl av).length ≤ maxL)
    (body : ∀ (p : Program) (e : Env) (s : State) (m : MethodId) (args : Array Value) (below : List Frame) (meth : Method) (c : Code) (A : Nat → Prop), cx p s m args c bytes maxL y.cls D w A tys → meth.sig.returnType = ret → meth.locks = false →
      go p l e rm s m args below meth c D w A 0 0 (MQ below (va_Qi Q (atw D w tys A) A) args s 0 0 A) maxL 0 (lv_args 0 av) [] σ) : ctI l y bytes maxL ret rm D w tys av σ Q := by
  intro sz
  refine Met.ofW (cc := bytes) (maxL := maxL) (ret := ret) hy rfl ?_
  intro p e s m args below meth c s₁ B hml hv
  obtain ⟨rfl, hsz, hP, hK, hD0, hN0⟩ := hv
  subst hsz
  have hts := atoms_spec (ws := .code y bytes maxL ret :: lw_G) B.pre
  rw [lg_entry_eq]
  exact body p e s m av.toArray below meth c _ ⟨⟨B.exec, B.bytes, hml, findClass_of_methodNamed B.named, fun w h => hts w (List.mem_cons_of_mem _ h)⟩, hK, fun τ => va_D_addr (hw σ τ) hD0.self, fun q h => Or.inr h, hN0⟩ B.returns B.notSynchronized s.heap [] _ hP va_S.rf (lv_entry av hlen)

set_option maxHeartbeats 1000000 in
theorem mk_V {l : Launch} {y : MethodName} {bytes : ByteArray} {maxL : Nat} {ret : Option FieldType} {rm : Room} {D : va_G} {w : St → va_W} {tys : List (ClassId × FieldType)} {av : List Value} {σ : St} {Q : St → Prop} (hw : wOk w) (hy : plainName y.cls = true) (hlen : (lg_sl av).length ≤ maxL)
    (body : ∀ (p : Program) (e : Env) (s : State) (m : MethodId) (args : Array Value) (below : List Frame) (meth : Method) (c : Code) (A : Nat → Prop), cx p s m args c bytes maxL y.cls D w A tys → meth.sig.returnType = ret → meth.locks = false →
      go p l e rm s m args below meth c D w A 0 0 (MQ below (va_Qv Q (atw D w tys A) A) args s 0 0 A) maxL 0 (lv_args 0 av) [] σ) : ctV l y bytes maxL ret rm D w tys av σ Q := by
  intro sz
  refine Met.ofW (cc := bytes) (maxL := maxL) (ret := ret) hy rfl ?_
  intro p e s m args below meth c s₁ B hml hv
  obtain ⟨rfl, hsz, hP, hK, hD0, hN0⟩ := hv
  subst hsz
  have hts := atoms_spec (ws := .code y bytes maxL ret :: lw_G) B.pre
  rw [lg_entry_eq]
  exact body p e s m av.toArray below meth c _ ⟨⟨B.exec, B.bytes, hml, findClass_of_methodNamed B.named, fun w h => hts w (List.mem_cons_of_mem _ h)⟩, hK, fun τ => va_D_addr (hw σ τ) hD0.self, fun q h => Or.inr h, hN0⟩ B.returns B.notSynchronized s.heap [] _ hP va_S.rf (lv_entry av hlen)

section ROWS
variable {p : Program} {l : Launch} {e : Env} {R : Room} {s : State} {m : MethodId} {args : Array Value} {below : List Frame} {meth : Method} {c : Code} {D : va_G} {w : St → va_W} {A : Nat → Prop} {cells slots : Nat} {Qf : State → Prop} {nL : Nat} {tys : List (ClassId × FieldType)} {cc : ByteArray} {own : String} {pc : Nat} {lv lv' : List (Nat × Value)} {st : List Value} {σ : St}

theorem r_pick (ks : List Nat) (hk : lv_pick lv ks = lv') (kk : go p l e R s m args below meth c D w A cells slots Qf nL pc lv' st σ) : go p l e R s m args below meth c D w A cells slots Qf nL pc lv st σ := fun H locs ls hP hS hl => kk H locs ls hP hS (lv_sub hl ks hk)

theorem r_iconst (X : cx p s m args c cc nL own D w A tys) {n : Int} {v : Int32} (q : Nat) (hdg : decode cc pc = .ok (.iconst n, 1)) (hv : Int32.ofInt n = v) (hq : pc + 1 = q) (kk : go p l e R s m args below meth c D w A cells slots Qf nL q lv (.int v :: st) σ) : go p l e R s m args below meth c D w A cells slots Qf nL pc lv st σ := by
  subst hq; exact fun H locs ls hP hS hl => lv_iconst X.1.1 X.1.2.1 hdg hv (kk H locs ls hP hS hl)

theorem r_bipush (X : cx p s m args c cc nL own D w A tys) {n : Int} {v : Int32} (q : Nat) (hdg : decode cc pc = .ok (.bipush n, 2)) (hv : (Int8.ofInt n).toInt32 = v) (hq : pc + 2 = q) (kk : go p l e R s m args below meth c D w A cells slots Qf nL q lv (.int v :: st) σ) : go p l e R s m args below meth c D w A cells slots Qf nL pc lv st σ := by
  subst hq; exact fun H locs ls hP hS hl => lv_bipush X.1.1 X.1.2.1 hdg hv (kk H locs ls hP hS hl)

theorem r_sipush (X : cx p s m args c cc nL own D w A tys) {n : Int} {v : Int32} (q : Nat) (hdg : decode cc pc = .ok (.sipush n, 3)) (hv : (Int16.ofInt n).toInt32 = v) (hq : pc + 3 = q) (kk : go p l e R s m args below meth c D w A cells slots Qf nL q lv (.int v :: st) σ) : go p l e R s m args below meth c D w A cells slots Qf nL pc lv st σ := by
  subst hq; exact fun H locs ls hP hS hl => lv_sipush X.1.1 X.1.2.1 hdg hv (kk H locs ls hP hS hl)

theorem r_ldc (X : cx p s m args c cc nL own D w A tys) {index : Nat} {v : Int32} (q : Nat) (hdg : decode cc pc = .ok (.ldc index, 2)) (hc : Cond.constant own index v ∈ lw_G) (hq : pc + 2 = q) (kk : go p l e R s m args below meth c D w A cells slots Qf nL q lv (.int v :: st) σ) : go p l e R s m args below meth c D w A cells slots Qf nL pc lv st σ := by
  subst hq; exact fun H locs ls hP hS hl => lv_ldc X.1.1 X.1.2.1 X.1.2.2.2.1 (X.1.2.2.2.2 _ hc) hdg (kk H locs ls hP hS hl)

theorem r_ldcw (X : cx p s m args c cc nL own D w A tys) {index : Nat} {v : Int32} (q : Nat) (hdg : decode cc pc = .ok (.ldc_w index, 3)) (hc : Cond.constant own index v ∈ lw_G) (hq : pc + 3 = q) (kk : go p l e R s m args below meth c D w A cells slots Qf nL q lv (.int v :: st) σ) : go p l e R s m args below meth c D w A cells slots Qf nL pc lv st σ := by
  subst hq; exact fun H locs ls hP hS hl => lv_ldcw X.1.1 X.1.2.1 X.1.2.2.2.1 (X.1.2.2.2.2 _ hc) hdg (kk H locs ls hP hS hl)

theorem r_iload_n (X : cx p s m args c cc nL own D w A tys) {k : Fin 4} {i : Nat} {x : Int32} (j : Nat) (q : Nat) (hdg : decode cc pc = .ok (.iload_n k, 1)) (hi : (k : Nat) = i) (hj : lv[j]? = some (i, .int x)) (hq : pc + 1 = q) (kk : go p l e R s m args below meth c D w A cells slots Qf nL q lv (.int x :: st) σ) : go p l e R s m args below meth c D w A cells slots Qf nL pc lv st σ := by
  subst hq; exact fun H locs ls hP hS hl => lv_iload_n X.1.1 X.1.2.1 hdg hi (lv_at hl j hj) (kk H locs ls hP hS hl)

theorem r_iload (X : cx p s m args c cc nL own D w A tys) {i : Nat} {x : Int32} (j : Nat) (q : Nat) (hdg : decode cc pc = .ok (.iload i, 2)) (hj : lv[j]? = some (i, .int x)) (hq : pc + 2 = q) (kk : go p l e R s m args below meth c D w A cells slots Qf nL q lv (.int x :: st) σ) : go p l e R s m args below meth c D w A cells slots Qf nL pc lv st σ := by
  subst hq; exact fun H locs ls hP hS hl => lv_iload X.1.1 X.1.2.1 hdg (lv_at hl j hj) (kk H locs ls hP hS hl)

theorem r_aload_n (X : cx p s m args c cc nL own D w A tys) {k : Fin 4} {i : Nat} {x : Nat} (j : Nat) (q : Nat) (hdg : decode cc pc = .ok (.aload_n k, 1)) (hi : (k : Nat) = i) (hj : lv[j]? = some (i, .ref x)) (hq : pc + 1 = q) (kk : go p l e R s m args below meth c D w A cells slots Qf nL q lv (.ref x :: st) σ) : go p l e R s m args below meth c D w A cells slots Qf nL pc lv st σ := by
  subst hq; exact fun H locs ls hP hS hl => lv_aload_n X.1.1 X.1.2.1 hdg hi (lv_at hl j hj) (kk H locs ls hP hS hl)

theorem r_aload (X : cx p s m args c cc nL own D w A tys) {i : Nat} {x : Nat} (j : Nat) (q : Nat) (hdg : decode cc pc = .ok (.aload i, 2)) (hj : lv[j]? = some (i, .ref x)) (hq : pc + 2 = q) (kk : go p l e R s m args below meth c D w A cells slots Qf nL q lv (.ref x :: st) σ) : go p l e R s m args below meth c D w A cells slots Qf nL pc lv st σ := by
  subst hq; exact fun H locs ls hP hS hl => lv_aload X.1.1 X.1.2.1 hdg (lv_at hl j hj) (kk H locs ls hP hS hl)

theorem r_istore_n (X : cx p s m args c cc nL own D w A tys) {k : Fin 4} {i : Nat} {x : Int32} (q : Nat) (lv' : List (Nat × Value)) (hdg : decode cc pc = .ok (.istore_n k, 1)) (hi : (k : Nat) = i) (hn : i < nL) (hf : (i, Value.int x) :: lv.filter (fun q => !(q.1 == i) && !(q.1 + 1 == i && q.2.category == 2)) = lv') (hq : pc + 1 = q) (kk : go p l e R s m args below meth c D w A cells slots Qf nL q (lv') st σ) : go p l e R s m args below meth c D w A cells slots Qf nL pc lv (.int x :: st) σ := by
  subst hq; exact fun H locs ls hP hS hl => lv_istore_n X.1.1 X.1.2.1 hdg hi hl hn hf (fun ls' hl' => kk H locs ls' hP hS hl')

theorem r_istore (X : cx p s m args c cc nL own D w A tys) {i : Nat} {x : Int32} (q : Nat) (lv' : List (Nat × Value)) (hdg : decode cc pc = .ok (.istore i, 2)) (hn : i < nL) (hf : (i, Value.int x) :: lv.filter (fun q => !(q.1 == i) && !(q.1 + 1 == i && q.2.category == 2)) = lv') (hq : pc + 2 = q) (kk : go p l e R s m args below meth c D w A cells slots Qf nL q (lv') st σ) : go p l e R s m args below meth c D w A cells slots Qf nL pc lv (.int x :: st) σ := by
  subst hq; exact fun H locs ls hP hS hl => lv_istore X.1.1 X.1.2.1 hdg hl hn hf (fun ls' hl' => kk H locs ls' hP hS hl')

theorem r_astore_n (X : cx p s m args c cc nL own D w A tys) {k : Fin 4} {i : Nat} {x : Nat} (q : Nat) (lv' : List (Nat × Value)) (hdg : decode cc pc = .ok (.astore_n k, 1)) (hi : (k : Nat) = i) (hn : i < nL) (hf : (i, Value.ref x) :: lv.filter (fun q => !(q.1 == i) && !(q.1 + 1 == i && q.2.category == 2)) = lv') (hq : pc + 1 = q) (kk : go p l e R s m args below meth c D w A cells slots Qf nL q (lv') st σ) : go p l e R s m args below meth c D w A cells slots Qf nL pc lv (.ref x :: st) σ := by
  subst hq; exact fun H locs ls hP hS hl => lv_astore_n X.1.1 X.1.2.1 hdg hi hl hn hf (fun ls' hl' => kk H locs ls' hP hS hl')

theorem r_astore (X : cx p s m args c cc nL own D w A tys) {i : Nat} {x : Nat} (q : Nat) (lv' : List (Nat × Value)) (hdg : decode cc pc = .ok (.astore i, 2)) (hn : i < nL) (hf : (i, Value.ref x) :: lv.filter (fun q => !(q.1 == i) && !(q.1 + 1 == i && q.2.category == 2)) = lv') (hq : pc + 2 = q) (kk : go p l e R s m args below meth c D w A cells slots Qf nL q (lv') st σ) : go p l e R s m args below meth c D w A cells slots Qf nL pc lv (.ref x :: st) σ := by
  subst hq; exact fun H locs ls hP hS hl => lv_astore X.1.1 X.1.2.1 hdg hl hn hf (fun ls' hl' => kk H locs ls' hP hS hl')

theorem r_iinc (X : cx p s m args c cc nL own D w A tys) {i : Nat} {n : Int} {x d : Int32} (j q : Nat) (lv' : List (Nat × Value)) (hdg : decode cc pc = .ok (.iinc i n, 3)) (hj : lv[j]? = some (i, .int x)) (hd : Int32.ofInt n = d) (hn : i < nL) (hf : (i, Value.int (x + d)) :: lv.filter (fun q => !(q.1 == i) && !(q.1 + 1 == i && q.2.category == 2)) = lv') (hq : pc + 3 = q) (kk : go p l e R s m args below meth c D w A cells slots Qf nL q (lv') st σ) : go p l e R s m args below meth c D w A cells slots Qf nL pc lv st σ := by
  subst hq; subst hd; exact fun H locs ls hP hS hl => lv_iinc X.1.1 X.1.2.1 hdg hl hj rfl hn hf (fun ls' hl' => kk H locs ls' hP hS hl')

theorem r_iadd (X : cx p s m args c cc nL own D w A tys) {x y : Int32} (q : Nat) (hdg : decode cc pc = .ok (.iadd, 1))  (hq : pc + 1 = q) (kk : go p l e R s m args below meth c D w A cells slots Qf nL q lv (.int (x + y) :: st) σ) : go p l e R s m args below meth c D w A cells slots Qf nL pc lv (.int y :: .int x :: st) σ := by
  subst hq; exact fun H locs ls hP hS hl => lv_iadd X.1.1 X.1.2.1 hdg (kk H locs ls hP hS hl)

theorem r_isub (X : cx p s m args c cc nL own D w A tys) {x y : Int32} (q : Nat) (hdg : decode cc pc = .ok (.isub, 1))  (hq : pc + 1 = q) (kk : go p l e R s m args below meth c D w A cells slots Qf nL q lv (.int (x - y) :: st) σ) : go p l e R s m args below meth c D w A cells slots Qf nL pc lv (.int y :: .int x :: st) σ := by
  subst hq; exact fun H locs ls hP hS hl => lv_isub X.1.1 X.1.2.1 hdg (kk H locs ls hP hS hl)

theorem r_imul (X : cx p s m args c cc nL own D w A tys) {x y : Int32} (q : Nat) (hdg : decode cc pc = .ok (.imul, 1))  (hq : pc + 1 = q) (kk : go p l e R s m args below meth c D w A cells slots Qf nL q lv (.int (x * y) :: st) σ) : go p l e R s m args below meth c D w A cells slots Qf nL pc lv (.int y :: .int x :: st) σ := by
  subst hq; exact fun H locs ls hP hS hl => lv_imul X.1.1 X.1.2.1 hdg (kk H locs ls hP hS hl)

theorem r_iand (X : cx p s m args c cc nL own D w A tys) {x y : Int32} (q : Nat) (hdg : decode cc pc = .ok (.iand, 1))  (hq : pc + 1 = q) (kk : go p l e R s m args below meth c D w A cells slots Qf nL q lv (.int (x &&& y) :: st) σ) : go p l e R s m args below meth c D w A cells slots Qf nL pc lv (.int y :: .int x :: st) σ := by
  subst hq; exact fun H locs ls hP hS hl => lv_iand X.1.1 X.1.2.1 hdg (kk H locs ls hP hS hl)

theorem r_ior (X : cx p s m args c cc nL own D w A tys) {x y : Int32} (q : Nat) (hdg : decode cc pc = .ok (.ior, 1))  (hq : pc + 1 = q) (kk : go p l e R s m args below meth c D w A cells slots Qf nL q lv (.int (x ||| y) :: st) σ) : go p l e R s m args below meth c D w A cells slots Qf nL pc lv (.int y :: .int x :: st) σ := by
  subst hq; exact fun H locs ls hP hS hl => lv_ior X.1.1 X.1.2.1 hdg (kk H locs ls hP hS hl)

theorem r_ixor (X : cx p s m args c cc nL own D w A tys) {x y : Int32} (q : Nat) (hdg : decode cc pc = .ok (.ixor, 1))  (hq : pc + 1 = q) (kk : go p l e R s m args below meth c D w A cells slots Qf nL q lv (.int (x ^^^ y) :: st) σ) : go p l e R s m args below meth c D w A cells slots Qf nL pc lv (.int y :: .int x :: st) σ := by
  subst hq; exact fun H locs ls hP hS hl => lv_ixor X.1.1 X.1.2.1 hdg (kk H locs ls hP hS hl)

theorem r_ishl (X : cx p s m args c cc nL own D w A tys) {x y : Int32} (q : Nat) (hdg : decode cc pc = .ok (.ishl, 1))  (hq : pc + 1 = q) (kk : go p l e R s m args below meth c D w A cells slots Qf nL q lv (.int (x <<< (y &&& 31)) :: st) σ) : go p l e R s m args below meth c D w A cells slots Qf nL pc lv (.int y :: .int x :: st) σ := by
  subst hq; exact fun H locs ls hP hS hl => lv_ishl X.1.1 X.1.2.1 hdg (kk H locs ls hP hS hl)

theorem r_ishr (X : cx p s m args c cc nL own D w A tys) {x y : Int32} (q : Nat) (hdg : decode cc pc = .ok (.ishr, 1))  (hq : pc + 1 = q) (kk : go p l e R s m args below meth c D w A cells slots Qf nL q lv (.int (x >>> (y &&& 31)) :: st) σ) : go p l e R s m args below meth c D w A cells slots Qf nL pc lv (.int y :: .int x :: st) σ := by
  subst hq; exact fun H locs ls hP hS hl => lv_ishr X.1.1 X.1.2.1 hdg (kk H locs ls hP hS hl)

theorem r_idiv (X : cx p s m args c cc nL own D w A tys) {x y : Int32} (q : Nat) (hdg : decode cc pc = .ok (.idiv, 1)) (hne : ¬ y = 0) (hq : pc + 1 = q) (kk : go p l e R s m args below meth c D w A cells slots Qf nL q lv (.int (x / y) :: st) σ) : go p l e R s m args below meth c D w A cells slots Qf nL pc lv (.int y :: .int x :: st) σ := by
  subst hq; exact fun H locs ls hP hS hl => lv_idiv X.1.1 X.1.2.1 hdg hne (kk H locs ls hP hS hl)

theorem r_irem (X : cx p s m args c cc nL own D w A tys) {x y : Int32} (q : Nat) (hdg : decode cc pc = .ok (.irem, 1)) (hne : ¬ y = 0) (hq : pc + 1 = q) (kk : go p l e R s m args below meth c D w A cells slots Qf nL q lv (.int (x - x / y * y) :: st) σ) : go p l e R s m args below meth c D w A cells slots Qf nL pc lv (.int y :: .int x :: st) σ := by
  subst hq; exact fun H locs ls hP hS hl => lv_irem X.1.1 X.1.2.1 hdg hne (kk H locs ls hP hS hl)

theorem r_iushr (X : cx p s m args c cc nL own D w A tys) {x y : Int32} (q : Nat) (hdg : decode cc pc = .ok (.iushr, 1))  (hq : pc + 1 = q) (kk : go p l e R s m args below meth c D w A cells slots Qf nL q lv (.int ((x.toUInt32 >>> (y.toUInt32 &&& Int32.toUInt32 31)).toInt32) :: st) σ) : go p l e R s m args below meth c D w A cells slots Qf nL pc lv (.int y :: .int x :: st) σ := by
  subst hq; exact fun H locs ls hP hS hl => lv_iushr X.1.1 X.1.2.1 hdg rfl (kk H locs ls hP hS hl)

theorem r_dup (X : cx p s m args c cc nL own D w A tys) {va : Value} (q : Nat) (hdg : decode cc pc = .ok (.dup, 1)) (hva : va.category = 1) (hq : pc + 1 = q) (kk : go p l e R s m args below meth c D w A cells slots Qf nL q lv (va :: va :: st) σ) : go p l e R s m args below meth c D w A cells slots Qf nL pc lv (va :: st) σ := by
  subst hq; exact fun H locs ls hP hS hl => lv_dup X.1.1 X.1.2.1 hdg hva (kk H locs ls hP hS hl)

theorem r_pop (X : cx p s m args c cc nL own D w A tys) {va : Value} (q : Nat) (hdg : decode cc pc = .ok (.pop, 1)) (hva : va.category = 1) (hq : pc + 1 = q) (kk : go p l e R s m args below meth c D w A cells slots Qf nL q lv st σ) : go p l e R s m args below meth c D w A cells slots Qf nL pc lv (va :: st) σ := by
  subst hq; exact fun H locs ls hP hS hl => lv_pop X.1.1 X.1.2.1 hdg hva (kk H locs ls hP hS hl)

theorem r_dup2 (X : cx p s m args c cc nL own D w A tys) {va vb : Value} (q : Nat) (hdg : decode cc pc = .ok (.dup2, 1)) (hva : va.category = 1) (hvb : vb.category = 1) (hq : pc + 1 = q) (kk : go p l e R s m args below meth c D w A cells slots Qf nL q lv (va :: vb :: va :: vb :: st) σ) : go p l e R s m args below meth c D w A cells slots Qf nL pc lv (va :: vb :: st) σ := by
  subst hq; exact fun H locs ls hP hS hl => lv_dup2_11 X.1.1 X.1.2.1 hdg hva hvb (kk H locs ls hP hS hl)

theorem r_dup_x1 (X : cx p s m args c cc nL own D w A tys) {va vb : Value} (q : Nat) (hdg : decode cc pc = .ok (.dup_x1, 1)) (hva : va.category = 1) (hvb : vb.category = 1) (hq : pc + 1 = q) (kk : go p l e R s m args below meth c D w A cells slots Qf nL q lv (va :: vb :: va :: st) σ) : go p l e R s m args below meth c D w A cells slots Qf nL pc lv (va :: vb :: st) σ := by
  subst hq; exact fun H locs ls hP hS hl => lv_dup_x1 X.1.1 X.1.2.1 hdg hva hvb (kk H locs ls hP hS hl)

theorem r_dup_x2 (X : cx p s m args c cc nL own D w A tys) {va vb vd : Value} (q : Nat) (hdg : decode cc pc = .ok (.dup_x2, 1)) (hva : va.category = 1) (hvb : vb.category = 1) (hvd : vd.category = 1) (hq : pc + 1 = q) (kk : go p l e R s m args below meth c D w A cells slots Qf nL q lv (va :: vb :: vd :: va :: st) σ) : go p l e R s m args below meth c D w A cells slots Qf nL pc lv (va :: vb :: vd :: st) σ := by
  subst hq; exact fun H locs ls hP hS hl => lv_dup_x2 X.1.1 X.1.2.1 hdg hva hvb hvd (kk H locs ls hP hS hl)

theorem r_goto (X : cx p s m args c cc nL own D w A tys) {off : Int} (q : Nat) (hdg : decode cc pc = .ok (.goto off, 3)) (ht : (pc : Int) + off = (q : Int)) (kk : go p l e R s m args below meth c D w A cells slots Qf nL q lv st σ) : go p l e R s m args below meth c D w A cells slots Qf nL pc lv st σ := by
  exact fun H locs ls hP hS hl => lv_goto X.1.1 X.1.2.1 hdg ht (kk H locs ls hP hS hl)

theorem r_if_eq (X : cx p s m args c cc nL own D w A tys) {x : Int32} {off : Int} {P1 P2 : Prop} (t q : Nat) (h : if x = 0 then P1 else P2) (hdg : decode cc pc = .ok (.ifCond .eq off, 3)) (ht : (pc : Int) + off = (t : Int)) (hq : pc + 3 = q) (kt : P1 → go p l e R s m args below meth c D w A cells slots Qf nL t lv st σ) (kf : P2 → go p l e R s m args below meth c D w A cells slots Qf nL q lv st σ) : go p l e R s m args below meth c D w A cells slots Qf nL pc lv (.int x :: st) σ := by
  subst hq; exact fun H locs ls hP hS hl => lv_if_eq X.1.1 X.1.2.1 hdg ht (fun hc => kt (by rw [if_pos hc] at h; exact h) H locs ls hP hS hl) (fun hc => kf (by rw [if_neg hc] at h; exact h) H locs ls hP hS hl)

theorem r_icmp_eq (X : cx p s m args c cc nL own D w A tys) {x y : Int32} {off : Int} {P1 P2 : Prop} (t q : Nat) (h : if x = y then P1 else P2) (hdg : decode cc pc = .ok (.if_icmp .eq off, 3)) (ht : (pc : Int) + off = (t : Int)) (hq : pc + 3 = q) (kt : P1 → go p l e R s m args below meth c D w A cells slots Qf nL t lv st σ) (kf : P2 → go p l e R s m args below meth c D w A cells slots Qf nL q lv st σ) : go p l e R s m args below meth c D w A cells slots Qf nL pc lv (.int y :: .int x :: st) σ := by
  subst hq; exact fun H locs ls hP hS hl => lv_icmp_eq X.1.1 X.1.2.1 hdg ht (fun hc => kt (by rw [if_pos hc] at h; exact h) H locs ls hP hS hl) (fun hc => kf (by rw [if_neg hc] at h; exact h) H locs ls hP hS hl)

theorem r_if_ne (X : cx p s m args c cc nL own D w A tys) {x : Int32} {off : Int} {P1 P2 : Prop} (t q : Nat) (h : if x = 0 then P2 else P1) (hdg : decode cc pc = .ok (.ifCond .ne off, 3)) (ht : (pc : Int) + off = (t : Int)) (hq : pc + 3 = q) (kt : P1 → go p l e R s m args below meth c D w A cells slots Qf nL t lv st σ) (kf : P2 → go p l e R s m args below meth c D w A cells slots Qf nL q lv st σ) : go p l e R s m args below meth c D w A cells slots Qf nL pc lv (.int x :: st) σ := by
  subst hq; exact fun H locs ls hP hS hl => lv_if_ne X.1.1 X.1.2.1 hdg ht (fun hc => kt (by rw [if_neg hc] at h; exact h) H locs ls hP hS hl) (fun hc => kf (by rw [if_pos hc] at h; exact h) H locs ls hP hS hl)

theorem r_icmp_ne (X : cx p s m args c cc nL own D w A tys) {x y : Int32} {off : Int} {P1 P2 : Prop} (t q : Nat) (h : if x = y then P2 else P1) (hdg : decode cc pc = .ok (.if_icmp .ne off, 3)) (ht : (pc : Int) + off = (t : Int)) (hq : pc + 3 = q) (kt : P1 → go p l e R s m args below meth c D w A cells slots Qf nL t lv st σ) (kf : P2 → go p l e R s m args below meth c D w A cells slots Qf nL q lv st σ) : go p l e R s m args below meth c D w A cells slots Qf nL pc lv (.int y :: .int x :: st) σ := by
  subst hq; exact fun H locs ls hP hS hl => lv_icmp_ne X.1.1 X.1.2.1 hdg ht (fun hc => kt (by rw [if_neg hc] at h; exact h) H locs ls hP hS hl) (fun hc => kf (by rw [if_pos hc] at h; exact h) H locs ls hP hS hl)

theorem r_if_lt (X : cx p s m args c cc nL own D w A tys) {x : Int32} {off : Int} {P1 P2 : Prop} (t q : Nat) (h : if x < 0 then P1 else P2) (hdg : decode cc pc = .ok (.ifCond .lt off, 3)) (ht : (pc : Int) + off = (t : Int)) (hq : pc + 3 = q) (kt : P1 → go p l e R s m args below meth c D w A cells slots Qf nL t lv st σ) (kf : P2 → go p l e R s m args below meth c D w A cells slots Qf nL q lv st σ) : go p l e R s m args below meth c D w A cells slots Qf nL pc lv (.int x :: st) σ := by
  subst hq; exact fun H locs ls hP hS hl => lv_if_lt X.1.1 X.1.2.1 hdg ht (fun hc => kt (by rw [if_pos hc] at h; exact h) H locs ls hP hS hl) (fun hc => kf (by rw [if_neg hc] at h; exact h) H locs ls hP hS hl)

theorem r_icmp_lt (X : cx p s m args c cc nL own D w A tys) {x y : Int32} {off : Int} {P1 P2 : Prop} (t q : Nat) (h : if x < y then P1 else P2) (hdg : decode cc pc = .ok (.if_icmp .lt off, 3)) (ht : (pc : Int) + off = (t : Int)) (hq : pc + 3 = q) (kt : P1 → go p l e R s m args below meth c D w A cells slots Qf nL t lv st σ) (kf : P2 → go p l e R s m args below meth c D w A cells slots Qf nL q lv st σ) : go p l e R s m args below meth c D w A cells slots Qf nL pc lv (.int y :: .int x :: st) σ := by
  subst hq; exact fun H locs ls hP hS hl => lv_icmp_lt X.1.1 X.1.2.1 hdg ht (fun hc => kt (by rw [if_pos hc] at h; exact h) H locs ls hP hS hl) (fun hc => kf (by rw [if_neg hc] at h; exact h) H locs ls hP hS hl)

theorem r_if_ge (X : cx p s m args c cc nL own D w A tys) {x : Int32} {off : Int} {P1 P2 : Prop} (t q : Nat) (h : if x < 0 then P2 else P1) (hdg : decode cc pc = .ok (.ifCond .ge off, 3)) (ht : (pc : Int) + off = (t : Int)) (hq : pc + 3 = q) (kt : P1 → go p l e R s m args below meth c D w A cells slots Qf nL t lv st σ) (kf : P2 → go p l e R s m args below meth c D w A cells slots Qf nL q lv st σ) : go p l e R s m args below meth c D w A cells slots Qf nL pc lv (.int x :: st) σ := by
  subst hq; exact fun H locs ls hP hS hl => lv_if_ge X.1.1 X.1.2.1 hdg ht (fun hc => kt (by rw [if_neg (Int32.not_lt.mpr hc)] at h; exact h) H locs ls hP hS hl) (fun hc => kf (by rw [if_pos (Int32.not_le.mp hc)] at h; exact h) H locs ls hP hS hl)

theorem r_icmp_ge (X : cx p s m args c cc nL own D w A tys) {x y : Int32} {off : Int} {P1 P2 : Prop} (t q : Nat) (h : if x < y then P2 else P1) (hdg : decode cc pc = .ok (.if_icmp .ge off, 3)) (ht : (pc : Int) + off = (t : Int)) (hq : pc + 3 = q) (kt : P1 → go p l e R s m args below meth c D w A cells slots Qf nL t lv st σ) (kf : P2 → go p l e R s m args below meth c D w A cells slots Qf nL q lv st σ) : go p l e R s m args below meth c D w A cells slots Qf nL pc lv (.int y :: .int x :: st) σ := by
  subst hq; exact fun H locs ls hP hS hl => lv_icmp_ge X.1.1 X.1.2.1 hdg ht (fun hc => kt (by rw [if_neg (Int32.not_lt.mpr hc)] at h; exact h) H locs ls hP hS hl) (fun hc => kf (by rw [if_pos (Int32.not_le.mp hc)] at h; exact h) H locs ls hP hS hl)

theorem r_if_gt (X : cx p s m args c cc nL own D w A tys) {x : Int32} {off : Int} {P1 P2 : Prop} (t q : Nat) (h : if 0 < x then P1 else P2) (hdg : decode cc pc = .ok (.ifCond .gt off, 3)) (ht : (pc : Int) + off = (t : Int)) (hq : pc + 3 = q) (kt : P1 → go p l e R s m args below meth c D w A cells slots Qf nL t lv st σ) (kf : P2 → go p l e R s m args below meth c D w A cells slots Qf nL q lv st σ) : go p l e R s m args below meth c D w A cells slots Qf nL pc lv (.int x :: st) σ := by
  subst hq; exact fun H locs ls hP hS hl => lv_if_gt X.1.1 X.1.2.1 hdg ht (fun hc => kt (by rw [if_pos hc] at h; exact h) H locs ls hP hS hl) (fun hc => kf (by rw [if_neg hc] at h; exact h) H locs ls hP hS hl)

theorem r_icmp_gt (X : cx p s m args c cc nL own D w A tys) {x y : Int32} {off : Int} {P1 P2 : Prop} (t q : Nat) (h : if y < x then P1 else P2) (hdg : decode cc pc = .ok (.if_icmp .gt off, 3)) (ht : (pc : Int) + off = (t : Int)) (hq : pc + 3 = q) (kt : P1 → go p l e R s m args below meth c D w A cells slots Qf nL t lv st σ) (kf : P2 → go p l e R s m args below meth c D w A cells slots Qf nL q lv st σ) : go p l e R s m args below meth c D w A cells slots Qf nL pc lv (.int y :: .int x :: st) σ := by
  subst hq; exact fun H locs ls hP hS hl => lv_icmp_gt X.1.1 X.1.2.1 hdg ht (fun hc => kt (by rw [if_pos hc] at h; exact h) H locs ls hP hS hl) (fun hc => kf (by rw [if_neg hc] at h; exact h) H locs ls hP hS hl)

theorem r_if_le (X : cx p s m args c cc nL own D w A tys) {x : Int32} {off : Int} {P1 P2 : Prop} (t q : Nat) (h : if 0 < x then P2 else P1) (hdg : decode cc pc = .ok (.ifCond .le off, 3)) (ht : (pc : Int) + off = (t : Int)) (hq : pc + 3 = q) (kt : P1 → go p l e R s m args below meth c D w A cells slots Qf nL t lv st σ) (kf : P2 → go p l e R s m args below meth c D w A cells slots Qf nL q lv st σ) : go p l e R s m args below meth c D w A cells slots Qf nL pc lv (.int x :: st) σ := by
  subst hq; exact fun H locs ls hP hS hl => lv_if_le X.1.1 X.1.2.1 hdg ht (fun hc => kt (by rw [if_neg (Int32.not_lt.mpr hc)] at h; exact h) H locs ls hP hS hl) (fun hc => kf (by rw [if_pos (Int32.not_le.mp hc)] at h; exact h) H locs ls hP hS hl)

theorem r_icmp_le (X : cx p s m args c cc nL own D w A tys) {x y : Int32} {off : Int} {P1 P2 : Prop} (t q : Nat) (h : if y < x then P2 else P1) (hdg : decode cc pc = .ok (.if_icmp .le off, 3)) (ht : (pc : Int) + off = (t : Int)) (hq : pc + 3 = q) (kt : P1 → go p l e R s m args below meth c D w A cells slots Qf nL t lv st σ) (kf : P2 → go p l e R s m args below meth c D w A cells slots Qf nL q lv st σ) : go p l e R s m args below meth c D w A cells slots Qf nL pc lv (.int y :: .int x :: st) σ := by
  subst hq; exact fun H locs ls hP hS hl => lv_icmp_le X.1.1 X.1.2.1 hdg ht (fun hc => kt (by rw [if_neg (Int32.not_lt.mpr hc)] at h; exact h) H locs ls hP hS hl) (fun hc => kf (by rw [if_pos (Int32.not_le.mp hc)] at h; exact h) H locs ls hP hS hl)

theorem r_ifs {c : Prop} {i : Decidable c} {P1 P2 G : Prop} (h : @ite Prop c i P1 P2) (kt : c → P1 → G) (kf : ¬ c → P2 → G) : G := by
  by_cases hc : c
  · rw [if_pos hc] at h; exact kt hc h
  · rw [if_neg hc] at h; exact kf hc h

theorem r_tabIn (X : cx p s m args c cc nL own D w A tys) {dflt lo hi : Int} {offs : Array Int} {len : Nat} {x v : Int32} {off : Int} (t : Nat) (hdg : decode cc pc = .ok (.tableswitch dflt lo hi offs, len)) (hv : x = v) (h1 : ¬ v.toInt < lo) (h2 : ¬ hi < v.toInt) (ho : offs[(v.toInt - lo).toNat]? = some off) (ht : (pc : Int) + off = (t : Int)) (kk : go p l e R s m args below meth c D w A cells slots Qf nL t lv st σ) : go p l e R s m args below meth c D w A cells slots Qf nL pc lv (.int x :: st) σ := by
  subst hv; exact fun H locs ls hP hS hl => lv_tableIn X.1.1 X.1.2.1 hdg h1 h2 ho ht (kk H locs ls hP hS hl)

theorem r_tabOut (X : cx p s m args c cc nL own D w A tys) {dflt lo hi : Int} {offs : Array Int} {len : Nat} {x : Int32} (t : Nat) (hdg : decode cc pc = .ok (.tableswitch dflt lo hi offs, len)) (h : x.toInt < lo ∨ hi < x.toInt) (ht : (pc : Int) + dflt = (t : Int)) (kk : go p l e R s m args below meth c D w A cells slots Qf nL t lv st σ) : go p l e R s m args below meth c D w A cells slots Qf nL pc lv (.int x :: st) σ := by
  exact fun H locs ls hP hS hl => lv_tableOut X.1.1 X.1.2.1 hdg h ht (kk H locs ls hP hS hl)

theorem r_lookup (X : cx p s m args c cc nL own D w A tys) {dflt : Int} {ps : Array (Int × Int)} {len : Nat} {x : Int32} {off : Int} (t : Nat) (hdg : decode cc pc = .ok (.lookupswitch dflt ps, len)) (hp : (ps.toList.zip (ps.toList.drop 1)).all (fun (a, next) => a.1 < next.1) = true) (ho : Op.lookupswitch.offset ps.toList dflt x.toInt = off) (ht : (pc : Int) + off = (t : Int)) (kk : go p l e R s m args below meth c D w A cells slots Qf nL t lv st σ) : go p l e R s m args below meth c D w A cells slots Qf nL pc lv (.int x :: st) σ := by
  exact fun H locs ls hP hS hl => lv_lookup X.1.1 X.1.2.1 hdg hp ho ht (kk H locs ls hP hS hl)

theorem r_get (X : cx p s m args c cc nL own D w A tys) {q0 ci k b N index : Nat} {fs : List Value} {C : String} {T : u_T} {v : Value} (q : Nat) (he : (w σ)[q0]? = some (b, .inr (ci, fs))) (hc : vwCl[ci]? = some (C, T, N)) (hin : ∀ w ∈ u_ws C T N, w ∈ lw_G) (hk : k < N) (hv : fs[k]? = some v) (hlk : Cond.fieldLink own index (T k).1 (T k).2.1 (T k).2.2.1 ∈ lw_G) (hdg : decode cc pc = .ok (.getfield index, 3)) (hq : pc + 3 = q) (kk : go p l e R s m args below meth c D w A cells slots Qf nL q lv (v :: st) σ) : go p l e R s m args below meth c D w A cells slots Qf nL pc lv (.ref b :: st) σ := by
  subst hq; exact fun H locs ls hP hS hl => va_get X.1.1 X.1.2.1 X.1.2.2.2.2 hin X.1.2.2.2.1 X.2.1 hP q0 he hc k hk (X.1.2.2.2.2 _ hlk) (fun _ h9 => h9) hv hdg (kk H locs ls hP hS hl)

theorem r_put (X : cx p s m args c cc nL own D w A tys) {q0 ci k b N index : Nat} {fs : List Value} {C : String} {T : u_T} {v : Value} {ty : FieldType} {ty0 : Nat → FieldType} {σ' : St} (q : Nat) (he : (w σ)[q0]? = some (b, .inr (ci, fs))) (hc : vwCl[ci]? = some (C, T, N)) (hin : ∀ w ∈ u_ws C T N, w ∈ lw_G) (hty : ∀ k, k < N → parseFieldDescriptor (T k).2.2.1 = some (ty0 k)) (hnm : ∀ a, a < N → ∀ b, b < N → a ≠ b → (T a).2.1 ≠ (T b).2.1) (hk : k < N) (hlk : Cond.fieldLink own index (T k).1 (T k).2.1 (T k).2.2.1 ∈ lw_G) (hfin : (T k).2.2.2 = false) (hd : parseFieldDescriptor (T k).2.2.1 = some ty) (hn : narrow ty v = v) (hfit : fits ty v = true) (hl9 : k < fs.length) (hset : (w σ).set q0 (b, .inr (ci, fs.set k v)) = w σ') (hdg : decode cc pc = .ok (.putfield index, 3)) (hq : pc + 3 = q) (kk : go p l e R s m args below meth c D w A cells slots Qf nL q lv st σ') : go p l e R s m args below meth c D w A cells slots Qf nL pc lv (v :: .ref b :: st) σ := by
  subst hq; exact fun H locs ls hP hS hl => va_put X.1.1 X.1.2.1 X.1.2.2.2.2 hin ty0 hty hnm X.1.2.2.2.1 X.2.1 hP (X.2.2.1 σ) hS q0 he hc k hk (X.1.2.2.2.2 _ hlk) (fun _ h9 => h9) hfin hd hn hfit hl9 hdg (fun H1 locs1 hP1 _ hS1 => kk H1 locs1 ls (by rw [← hset]; exact hP1) hS1 hl)

theorem r_getN (X : cx p s m args c cc nL own D w A tys) {host : String} {q0 ci k b N index : Nat} {fs : List Value} {C : String} {T : u_T} {v : Value} (q : Nat) (he : (w σ)[q0]? = some (b, .inr (ci, fs))) (hc : vwCl[ci]? = some (C, T, N)) (hin : ∀ w ∈ u_ws C T N, w ∈ lw_G) (hk : k < N) (hv : fs[k]? = some v) (hlk : Cond.fieldLinkNest own index (T k).1 (T k).2.1 (T k).2.2.1 host ∈ lw_N) (hdg : decode cc pc = .ok (.getfield index, 3)) (hq : pc + 3 = q) (kk : go p l e R s m args below meth c D w A cells slots Qf nL q lv (v :: st) σ) : go p l e R s m args below meth c D w A cells slots Qf nL pc lv (.ref b :: st) σ := by
  subst hq; exact fun H locs ls hP hS hl => va_getN X.1.1 X.1.2.1 X.1.2.2.2.2 hin X.1.2.2.2.1 X.2.1 hP q0 he hc k hk (va_Nw.use rfl (X.2.2.2.2 _ hlk)) (fun _ h9 => h9) hv hdg (kk H locs ls hP hS hl)

theorem r_putN (X : cx p s m args c cc nL own D w A tys) {host : String} {q0 ci k b N index : Nat} {fs : List Value} {C : String} {T : u_T} {v : Value} {ty : FieldType} {ty0 : Nat → FieldType} {σ' : St} (q : Nat) (he : (w σ)[q0]? = some (b, .inr (ci, fs))) (hc : vwCl[ci]? = some (C, T, N)) (hin : ∀ w ∈ u_ws C T N, w ∈ lw_G) (hty : ∀ k, k < N → parseFieldDescriptor (T k).2.2.1 = some (ty0 k)) (hnm : ∀ a, a < N → ∀ b, b < N → a ≠ b → (T a).2.1 ≠ (T b).2.1) (hk : k < N) (hlk : Cond.fieldLinkNest own index (T k).1 (T k).2.1 (T k).2.2.1 host ∈ lw_N) (hfin : (T k).2.2.2 = false) (hd : parseFieldDescriptor (T k).2.2.1 = some ty) (hn : narrow ty v = v) (hfit : fits ty v = true) (hl9 : k < fs.length) (hset : (w σ).set q0 (b, .inr (ci, fs.set k v)) = w σ') (hdg : decode cc pc = .ok (.putfield index, 3)) (hq : pc + 3 = q) (kk : go p l e R s m args below meth c D w A cells slots Qf nL q lv st σ') : go p l e R s m args below meth c D w A cells slots Qf nL pc lv (v :: .ref b :: st) σ := by
  subst hq; exact fun H locs ls hP hS hl => va_putN X.1.1 X.1.2.1 X.1.2.2.2.2 hin ty0 hty hnm X.1.2.2.2.1 X.2.1 hP (X.2.2.1 σ) hS q0 he hc k hk (va_Nw.use rfl (X.2.2.2.2 _ hlk)) (fun _ h9 => h9) hfin hd hn hfit hl9 hdg (fun H1 locs1 hP1 _ hS1 => kk H1 locs1 ls (by rw [← hset]; exact hP1) hS1 hl)

theorem r_iald (X : cx p s m args c cc nL own D w A tys) {q0 t0 b N : Nat} {cA : ClassId} {f : Nat → Int32} {i : Int32} (q : Nat) (he : (w σ)[q0]? = some (b, .inl (cA, N, .inl f))) (ht : tys[t0]? = some (cA, .int)) (hin : vp_in i N) (hdg : decode cc pc = .ok (.iaload, 1)) (hq : pc + 1 = q) (kk : go p l e R s m args below meth c D w A cells slots Qf nL q lv (.int (f (ix i)) :: st) σ) : go p l e R s m args below meth c D w A cells slots Qf nL pc lv (.int i :: .ref b :: st) σ := by
  subst hq; exact fun H locs ls hP hS hl => va_iald X.1.1 X.1.2.1 X.2.1 hP q0 t0 he ht hin hdg (kk H locs ls hP hS hl)

theorem r_zald (X : cx p s m args c cc nL own D w A tys) {q0 t0 b N : Nat} {cA : ClassId} {f : Nat → Int32} {i : Int32} (q : Nat) (he : (w σ)[q0]? = some (b, .inl (cA, N, .inl f))) (ht : tys[t0]? = some (cA, .boolean)) (hin : vp_in i N) (hdg : decode cc pc = .ok (.baload, 1)) (hq : pc + 1 = q) (kk : go p l e R s m args below meth c D w A cells slots Qf nL q lv (.int (f (ix i)) :: st) σ) : go p l e R s m args below meth c D w A cells slots Qf nL pc lv (.int i :: .ref b :: st) σ := by
  subst hq; exact fun H locs ls hP hS hl => va_zald X.1.1 X.1.2.1 X.2.1 hP q0 t0 he ht hin hdg (kk H locs ls hP hS hl)

theorem r_iast (X : cx p s m args c cc nL own D w A tys) {q0 t0 b N : Nat} {cA : ClassId} {f : Nat → Int32} {i x : Int32} {σ' : St} (q : Nat) (he : (w σ)[q0]? = some (b, .inl (cA, N, .inl f))) (ht : tys[t0]? = some (cA, .int)) (hin : vp_in i N) (hset : (w σ).set q0 (b, .inl (cA, N, .inl (upd f (ix i) x))) = w σ') (hdg : decode cc pc = .ok (.iastore, 1)) (hq : pc + 1 = q) (kk : go p l e R s m args below meth c D w A cells slots Qf nL q lv st σ') : go p l e R s m args below meth c D w A cells slots Qf nL pc lv (.int x :: .int i :: .ref b :: st) σ := by
  subst hq; exact fun H locs ls hP hS hl => va_iast X.1.1 X.1.2.1 X.2.1 hP (X.2.2.1 σ) hS q0 t0 he ht hin hdg (fun H1 locs1 hP1 _ hS1 => kk H1 locs1 ls (by rw [← hset]; exact hP1) hS1 hl)

theorem r_zast (X : cx p s m args c cc nL own D w A tys) {q0 t0 b N : Nat} {cA : ClassId} {f : Nat → Int32} {i x x' : Int32} {σ' : St} (q : Nat) (he : (w σ)[q0]? = some (b, .inl (cA, N, .inl f))) (ht : tys[t0]? = some (cA, .boolean)) (hin : vp_in i N) (hb9 : vp_nar .boolean x = x') (hset : (w σ).set q0 (b, .inl (cA, N, .inl (upd f (ix i) x'))) = w σ') (hdg : decode cc pc = .ok (.bastore, 1)) (hq : pc + 1 = q) (kk : go p l e R s m args below meth c D w A cells slots Qf nL q lv st σ') : go p l e R s m args below meth c D w A cells slots Qf nL pc lv (.int x :: .int i :: .ref b :: st) σ := by
  subst hq; subst hb9; exact fun H locs ls hP hS hl => va_zast X.1.1 X.1.2.1 X.2.1 hP (X.2.2.1 σ) hS q0 t0 he ht hin hdg (fun H1 locs1 hP1 _ hS1 => kk H1 locs1 ls (by rw [← hset]; exact hP1) hS1 hl)

theorem r_alen (X : cx p s m args c cc nL own D w A tys) {q0 t0 b N : Nat} {cA : ClassId} {f : Nat → Int32} {ty : FieldType} {v : Int32} (q : Nat) (he : (w σ)[q0]? = some (b, .inl (cA, N, .inl f))) (ht : tys[t0]? = some (cA, ty)) (hv : Int32.ofNat N = v) (hdg : decode cc pc = .ok (.arraylength, 1)) (hq : pc + 1 = q) (kk : go p l e R s m args below meth c D w A cells slots Qf nL q lv (.int v :: st) σ) : go p l e R s m args below meth c D w A cells slots Qf nL pc lv (.ref b :: st) σ := by
  subst hq; exact fun H locs ls hP hS hl => va_alen X.1.1 X.1.2.1 X.2.1 hP q0 t0 he ht hv hdg (kk H locs ls hP hS hl)

theorem r_copyi (X : cx p s m args c cc nL own D w A tys) {q0 q1 t0 b0 b1 N0 N1 index : Nat} {cA : ClassId} {f g : Nat → Int32} {sp dp n : Int32} {σ' : St} (q : Nat) (ha0 : (w σ)[q0]? = some (b0, .inl (cA, N0, .inl f))) (ha1 : (w σ)[q1]? = some (b1, .inl (cA, N1, .inl g))) (ht : tys[t0]? = some (cA, .int)) (h1 : ¬ sp < 0) (h2 : ¬ dp < 0) (h3 : ¬ n < 0) (h4 : ix sp + ix n ≤ N0) (h5 : ix dp + ix n ≤ N1) (hlk : Cond.methodLink own index arraycopyName ∈ lw_G) (hnat : Cond.native arraycopyName ∈ lw_G) (hstat : Cond.static arraycopyName ∈ lw_G) (hini : Cond.initialized "java/lang/System" ∈ lw_G) (hframes : 1 ≤ R.frames) (hlocals : (st.map fun v => v.category).sum + (nativeFrameWords "java/lang/System" "arraycopy" 5 + 11) ≤ R.locals) (hset : (w σ).set q1 (b1, .inl (cA, N1, .inl (va_cpy f g (ix sp) (ix dp) (ix n)))) = w σ') (hdg : decode cc pc = .ok (.invokestatic index, 3)) (hq : pc + 3 = q) (kk : go p l e R s m args below meth c D w A cells slots Qf nL q lv st σ') : go p l e R s m args below meth c D w A cells slots Qf nL pc lv (.int n :: .int dp :: .ref b1 :: .int sp :: .ref b0 :: st) σ := by
  subst hq; exact fun H locs ls hP hS hl => va_copyi X.1.1 X.1.2.1 (by rw [hl.1]; exact X.1.2.2.1) X.1.2.2.2.1 (X.1.2.2.2.2 _ hlk) (X.1.2.2.2.2 _ hnat) (X.1.2.2.2.2 _ hstat) (X.1.2.2.2.2 _ hini) X.2.1 hP (X.2.2.1 σ) hS q0 q1 t0 t0 ha0 ha1 ht ht rfl h1 h2 h3 h4 h5 (fun _ _ => rfl) hframes hlocals hdg (fun H1 locs1 hP1 _ hS1 => kk H1 locs1 ls (by rw [← hset]; exact hP1) hS1 hl)

theorem r_mmax (X : cx p s m args c cc nL own D w A tys) {x y : Int32} {index : Nat} (q : Nat) (hlk : Cond.methodLink own index Lib.Math.max.name ∈ lw_G) (hstat : Cond.static Lib.Math.max.name ∈ lw_G) (hini : Cond.initialized "java/lang/Math" ∈ lw_G) (hcode : Cond.code Lib.Math.max.name Lib.Math.max.code 2 (some .int) ∈ lw_G) (hframes : 1 ≤ R.frames) (hlocals : (st.map fun v => v.category).sum + 13 ≤ R.locals) (hc : cells ≤ R.cells) (hs : slots ≤ R.slots) (hdg : decode cc pc = .ok (.invokestatic index, 3)) (hq : pc + 3 = q) (kk : go p l e R s m args below meth c D w A cells slots Qf nL q lv (.int (if x < y then y else x) :: st) σ) : go p l e R s m args below meth c D w A cells slots Qf nL pc lv (.int y :: .int x :: st) σ := by
  subst hq; exact fun H locs ls hP hS hl => va_mmax X.1.1 X.1.2.1 (by rw [hl.1]; exact X.1.2.2.1) X.1.2.2.2.1 (X.1.2.2.2.2 _ hlk) (X.1.2.2.2.2 _ hstat) (X.1.2.2.2.2 _ hini) (X.1.2.2.2.2 _ hcode) hframes hlocals hc hs hdg (kk H locs ls hP hS hl)

theorem r_iret (X : cx p s m args c cc nL own D w A tys) (hr : meth.sig.returnType = some .int) (hlk : meth.locks = false) {Q : Int32 → St → Prop} {v : Int32} (h : Q v σ) (hdg : decode cc pc = .ok (.ireturn, 1)) : go p l e R s m args below meth c D w A 0 0 (MQ below (va_Qi Q (atw D w tys A) A) args s 0 0 A) nL pc lv [.int v] σ :=
  fun H locs ls hP hS hl => W.iret X.1.1 X.1.2.1 hr (fun t ht hW => ⟨⟨v, σ, rfl, h, by rw [ht]; exact hP, va_K.moved hW.alike X.2.1, X.2.2.1 σ⟩, hS.F ht⟩) hS.2.2 hdg hlk

theorem r_zret (X : cx p s m args c cc nL own D w A tys) (hr : meth.sig.returnType = some .boolean) (hlk : meth.locks = false) {Q : Int32 → St → Prop} {v : Int32} (hb9 : isB v) (h : Q v σ) (hdg : decode cc pc = .ok (.ireturn, 1)) : go p l e R s m args below meth c D w A 0 0 (MQ below (va_Qi (fun r u => isB r ∧ Q r u) (atw D w tys A) A) args s 0 0 A) nL pc lv [.int v] σ :=
  fun H locs ls hP hS hl => W.zret X.1.1 X.1.2.1 hr (isB_nar hb9) (fun t ht hW => ⟨⟨v, σ, rfl, ⟨hb9, h⟩, by rw [ht]; exact hP, va_K.moved hW.alike X.2.1, X.2.2.1 σ⟩, hS.F ht⟩) hS.2.2 hdg hlk

theorem r_vret (X : cx p s m args c cc nL own D w A tys) (hr : meth.sig.returnType = none) (hlk : meth.locks = false) {Q : St → Prop} (h : Q σ) (hdg : decode cc pc = .ok (.return_, 1)) : go p l e R s m args below meth c D w A 0 0 (MQ below (va_Qv Q (atw D w tys A) A) args s 0 0 A) nL pc lv [] σ :=
  fun H locs ls hP hS hl => W.vret X.1.1 X.1.2.1 hr (fun t ht hW => ⟨⟨σ, rfl, h, by rw [ht]; exact hP, va_K.moved hW.alike X.2.1, X.2.2.1 σ⟩, hS.F ht⟩) hS.2.2 hdg hlk

/-- a callee's own words -/
def lkG (y : MethodName) (bytes : ByteArray) (maxL : Nat) (ret : Option FieldType) (n : Nat) : Prop := Cond.code y bytes maxL ret ∈ lw_G ∧ Cond.initialized y.cls ∈ lw_G ∧ (y.cls ≠ "java/lang/invoke/MethodHandle" ∧ y.cls ≠ "java/lang/invoke/VarHandle" ∧ (parseMethodDescriptor y.desc).map (fun d => d.parameters.length) = some n)
def lkI (y : MethodName) (bytes : ByteArray) (maxL : Nat) (ret : Option FieldType) (n : Nat) : Prop := lkG y bytes maxL ret n ∧ Cond.instanceMethod y ∈ lw_G ∧ Cond.selects y.cls y y ∈ lw_G
abbrev lkR (R rm : Room) (maxL cells slots : Nat) : Prop := rm.cells = 0 ∧ rm.slots = 0 ∧ (rm.frames + 1 ≤ R.frames ∧ 8 + (maxL + 11) + rm.locals ≤ R.locals) ∧ cells ≤ R.cells ∧ slots ≤ R.slots
theorem lkG_in {y : MethodName} {bytes : ByteArray} {maxL : Nat} {ret : Option FieldType} {n : Nat} (h : lkG y bytes maxL ret n) : GoodIn lw_G (.code y bytes maxL ret :: lw_G) := by
  intro w hw
  rcases List.mem_cons.mp hw with e | hw
  · subst e; exact ⟨h.1, lw_G_good h.1⟩
  · exact ⟨hw, lw_G_good hw⟩

theorem go_free (X : cx p s m args c cc nL own D w A tys) {H : Heap} {locs : List Loc} (hS : va_S A s.heap H locs) : ∀ q, va_A (w σ) H.size q → A q := by
  intro q h
  rcases h with ⟨k, e, h⟩ | h
  · exact (X.2.2.1 σ).2 k _ h
  · exact X.2.2.2.1 q (Nat.le_trans hS.1 h)

set_option maxHeartbeats 1000000 in
theorem r_callI (X : cx p s m args c cc nL own D w A tys) {y : MethodName} {bytes : ByteArray} {maxL n index b : Nat} {ret : Option FieldType} {rm : Room} {As rest : List Value} {Q' : Int32 → St → Prop} {q0 ci N : Nat} {fs : List Value} {T : u_T} (q : Nat) (hM : ctI l y bytes maxL ret rm D w tys (.ref b :: As) σ Q') (hlk : Cond.methodLink own index y ∈ lw_G) (L : lkI y bytes maxL ret n) (he : (w σ)[q0]? = some (b, .inr (ci, fs))) (hc : vwCl[ci]? = some (y.cls, T, N)) (hn : As.length = n) (hst : st = As.reverse ++ .ref b :: rest) (hW : (rest.map fun v => v.category).sum ≤ 8) (hR : lkR R rm maxL cells slots) (hdg : decode cc pc = .ok (.invokevirtual index, 3)) (hq : pc + 3 = q) (kk : ∀ (r : Int32) (σ' : St), Q' r σ' → go p l e R s m args below meth c D w A cells slots Qf nL q lv (.int r :: rest) σ') : go p l e R s m args below meth c D w A cells slots Qf nL pc lv st σ := by
  subst hq
  intro H locs ls hP hS hl
  have hFc := go_free (σ := σ) X hS
  refine va_calli (va_runV (As := As) (rest := rest) X.1 (hM H.size) ⟨callB_of n X.1.2.2.2.2 (lkG_in L.1) rfl hR.1 hR.2.1 (X.1.2.2.2.2 _ L.1.2.1) (X.1.2.2.2.2 _ hlk) L.1.2.2 hR.2.2.1, X.1.2.2.2.2 _ L.2.1, X.1.2.2.2.2 _ L.2.2⟩ ⟨preW_blind, va_recv X.2.1 hP hc he, fun U hU hW => ⟨rfl, by rw [hU], by rw [hU]; exact hP, va_K.moved hW.alike X.2.1, (X.2.2.1 σ).weaken (fun _ _ _ _ => trivial), nst_warm hW X.2.2.2.2⟩⟩ rfl hn hl.1 hst (lv_room hW) hdg ⟨hR.2.2.2.1, hR.2.2.2.2⟩) hS (fun q _ h => hFc q h) hFc (fun r u t H1 locs1 ht hvm hw hB hz1 hk1 hS1 => ?_)
  obtain ⟨hP1, hK1, hD1⟩ := hB
  rw [ht] at hP1
  exact kk r u hw H1 locs1 ls hP1 hS1 hl

set_option maxHeartbeats 1000000 in
theorem r_callNI (X : cx p s m args c cc nL own D w A tys) {host : String} {y : MethodName} {bytes : ByteArray} {maxL n index b : Nat} {ret : Option FieldType} {rm : Room} {As rest : List Value} {Q' : Int32 → St → Prop} {q0 ci N : Nat} {fs : List Value} {T : u_T} (q : Nat) (hM : ctI l y bytes maxL ret rm D w tys (.ref b :: As) σ Q') (hlk : Cond.methodLinkNest own index y host ∈ lw_N) (L : lkI y bytes maxL ret n) (he : (w σ)[q0]? = some (b, .inr (ci, fs))) (hc : vwCl[ci]? = some (y.cls, T, N)) (hn : As.length = n) (hst : st = As.reverse ++ .ref b :: rest) (hW : (rest.map fun v => v.category).sum ≤ 8) (hR : lkR R rm maxL cells slots) (hdg : decode cc pc = .ok (.invokevirtual index, 3)) (hq : pc + 3 = q) (kk : ∀ (r : Int32) (σ' : St), Q' r σ' → go p l e R s m args below meth c D w A cells slots Qf nL q lv (.int r :: rest) σ') : go p l e R s m args below meth c D w A cells slots Qf nL pc lv st σ := by
  subst hq
  intro H locs ls hP hS hl
  have hFc := go_free (σ := σ) X hS
  refine va_calli (va_runVN (As := As) (rest := rest) X.1 (hM H.size) ⟨va_cnB n X.1.2.2.2.2 (lkG_in L.1) rfl hR.1 hR.2.1 (X.2.2.2.2 _ hlk) (X.1.2.2.2.2 _ L.1.2.1) L.1.2.2 hR.2.2.1, X.1.2.2.2.2 _ L.2.1, X.1.2.2.2.2 _ L.2.2⟩ ⟨preW_blind, va_recv X.2.1 hP hc he, fun U hU hW => ⟨rfl, by rw [hU], by rw [hU]; exact hP, va_K.moved hW.alike X.2.1, (X.2.2.1 σ).weaken (fun _ _ _ _ => trivial), nst_warm hW X.2.2.2.2⟩⟩ rfl hn hl.1 hst (lv_room hW) hdg ⟨hR.2.2.2.1, hR.2.2.2.2⟩) hS (fun q _ h => hFc q h) hFc (fun r u t H1 locs1 ht hvm hw hB hz1 hk1 hS1 => ?_)
  obtain ⟨hP1, hK1, hD1⟩ := hB
  rw [ht] at hP1
  exact kk r u hw H1 locs1 ls hP1 hS1 hl

set_option maxHeartbeats 1000000 in
theorem r_callSI (X : cx p s m args c cc nL own D w A tys) {y : MethodName} {bytes : ByteArray} {maxL n index : Nat} {ret : Option FieldType} {rm : Room} {As rest : List Value} {Q' : Int32 → St → Prop} (q : Nat) (hM : ctI l y bytes maxL ret rm D w tys As σ Q') (hlk : Cond.methodLink own index y ∈ lw_G) (L : lkG y bytes maxL ret n) (hsy : Cond.static y ∈ lw_G) (hn : As.length = n) (hst : st = As.reverse ++ rest) (hW : (rest.map fun v => v.category).sum ≤ 8) (hR : lkR R rm maxL cells slots) (hdg : decode cc pc = .ok (.invokestatic index, 3)) (hq : pc + 3 = q) (kk : ∀ (r : Int32) (σ' : St), Q' r σ' → go p l e R s m args below meth c D w A cells slots Qf nL q lv (.int r :: rest) σ') : go p l e R s m args below meth c D w A cells slots Qf nL pc lv st σ := by
  subst hq
  intro H locs ls hP hS hl
  have hFc := go_free (σ := σ) X hS
  refine va_calli (va_runS (As := As) (rest := rest) X.1 (hM H.size) ⟨callB_of n X.1.2.2.2.2 (lkG_in L) rfl hR.1 hR.2.1 (X.1.2.2.2.2 _ L.2.1) (X.1.2.2.2.2 _ hlk) L.2.2 hR.2.2.1, X.1.2.2.2.2 _ hsy⟩ ⟨preW_blind, fun U hU hW => ⟨rfl, by rw [hU], by rw [hU]; exact hP, va_K.moved hW.alike X.2.1, (X.2.2.1 σ).weaken (fun _ _ _ _ => trivial), nst_warm hW X.2.2.2.2⟩⟩ rfl hn hl.1 hst (lv_room hW) hdg ⟨hR.2.2.2.1, hR.2.2.2.2⟩) hS (fun q _ h => hFc q h) hFc (fun r u t H1 locs1 ht hvm hw hB hz1 hk1 hS1 => ?_)
  obtain ⟨hP1, hK1, hD1⟩ := hB
  rw [ht] at hP1
  exact kk r u hw H1 locs1 ls hP1 hS1 hl

set_option maxHeartbeats 1000000 in
theorem r_callV (X : cx p s m args c cc nL own D w A tys) {y : MethodName} {bytes : ByteArray} {maxL n index b : Nat} {ret : Option FieldType} {rm : Room} {As rest : List Value} {Q' : St → Prop} {q0 ci N : Nat} {fs : List Value} {T : u_T} (q : Nat) (hM : ctV l y bytes maxL ret rm D w tys (.ref b :: As) σ Q') (hlk : Cond.methodLink own index y ∈ lw_G) (L : lkI y bytes maxL ret n) (he : (w σ)[q0]? = some (b, .inr (ci, fs))) (hc : vwCl[ci]? = some (y.cls, T, N)) (hn : As.length = n) (hst : st = As.reverse ++ .ref b :: rest) (hW : (rest.map fun v => v.category).sum ≤ 8) (hR : lkR R rm maxL cells slots) (hdg : decode cc pc = .ok (.invokevirtual index, 3)) (hq : pc + 3 = q) (kk : ∀ (σ' : St), Q' σ' → go p l e R s m args below meth c D w A cells slots Qf nL q lv rest σ') : go p l e R s m args below meth c D w A cells slots Qf nL pc lv st σ := by
  subst hq
  intro H locs ls hP hS hl
  have hFc := go_free (σ := σ) X hS
  refine va_callv (va_runV (As := As) (rest := rest) X.1 (hM H.size) ⟨callB_of n X.1.2.2.2.2 (lkG_in L.1) rfl hR.1 hR.2.1 (X.1.2.2.2.2 _ L.1.2.1) (X.1.2.2.2.2 _ hlk) L.1.2.2 hR.2.2.1, X.1.2.2.2.2 _ L.2.1, X.1.2.2.2.2 _ L.2.2⟩ ⟨preW_blind, va_recv X.2.1 hP hc he, fun U hU hW => ⟨rfl, by rw [hU], by rw [hU]; exact hP, va_K.moved hW.alike X.2.1, (X.2.2.1 σ).weaken (fun _ _ _ _ => trivial), nst_warm hW X.2.2.2.2⟩⟩ rfl hn hl.1 hst (lv_room hW) hdg ⟨hR.2.2.2.1, hR.2.2.2.2⟩) hS (fun q _ h => hFc q h) hFc (fun u t H1 locs1 ht hvm hw hB hz1 hk1 hS1 => ?_)
  obtain ⟨hP1, hK1, hD1⟩ := hB
  rw [ht] at hP1
  exact kk u hw H1 locs1 ls hP1 hS1 hl

set_option maxHeartbeats 1000000 in
theorem r_callNV (X : cx p s m args c cc nL own D w A tys) {host : String} {y : MethodName} {bytes : ByteArray} {maxL n index b : Nat} {ret : Option FieldType} {rm : Room} {As rest : List Value} {Q' : St → Prop} {q0 ci N : Nat} {fs : List Value} {T : u_T} (q : Nat) (hM : ctV l y bytes maxL ret rm D w tys (.ref b :: As) σ Q') (hlk : Cond.methodLinkNest own index y host ∈ lw_N) (L : lkI y bytes maxL ret n) (he : (w σ)[q0]? = some (b, .inr (ci, fs))) (hc : vwCl[ci]? = some (y.cls, T, N)) (hn : As.length = n) (hst : st = As.reverse ++ .ref b :: rest) (hW : (rest.map fun v => v.category).sum ≤ 8) (hR : lkR R rm maxL cells slots) (hdg : decode cc pc = .ok (.invokevirtual index, 3)) (hq : pc + 3 = q) (kk : ∀ (σ' : St), Q' σ' → go p l e R s m args below meth c D w A cells slots Qf nL q lv rest σ') : go p l e R s m args below meth c D w A cells slots Qf nL pc lv st σ := by
  subst hq
  intro H locs ls hP hS hl
  have hFc := go_free (σ := σ) X hS
  refine va_callv (va_runVN (As := As) (rest := rest) X.1 (hM H.size) ⟨va_cnB n X.1.2.2.2.2 (lkG_in L.1) rfl hR.1 hR.2.1 (X.2.2.2.2 _ hlk) (X.1.2.2.2.2 _ L.1.2.1) L.1.2.2 hR.2.2.1, X.1.2.2.2.2 _ L.2.1, X.1.2.2.2.2 _ L.2.2⟩ ⟨preW_blind, va_recv X.2.1 hP hc he, fun U hU hW => ⟨rfl, by rw [hU], by rw [hU]; exact hP, va_K.moved hW.alike X.2.1, (X.2.2.1 σ).weaken (fun _ _ _ _ => trivial), nst_warm hW X.2.2.2.2⟩⟩ rfl hn hl.1 hst (lv_room hW) hdg ⟨hR.2.2.2.1, hR.2.2.2.2⟩) hS (fun q _ h => hFc q h) hFc (fun u t H1 locs1 ht hvm hw hB hz1 hk1 hS1 => ?_)
  obtain ⟨hP1, hK1, hD1⟩ := hB
  rw [ht] at hP1
  exact kk u hw H1 locs1 ls hP1 hS1 hl

set_option maxHeartbeats 1000000 in
theorem r_callSV (X : cx p s m args c cc nL own D w A tys) {y : MethodName} {bytes : ByteArray} {maxL n index : Nat} {ret : Option FieldType} {rm : Room} {As rest : List Value} {Q' : St → Prop} (q : Nat) (hM : ctV l y bytes maxL ret rm D w tys As σ Q') (hlk : Cond.methodLink own index y ∈ lw_G) (L : lkG y bytes maxL ret n) (hsy : Cond.static y ∈ lw_G) (hn : As.length = n) (hst : st = As.reverse ++ rest) (hW : (rest.map fun v => v.category).sum ≤ 8) (hR : lkR R rm maxL cells slots) (hdg : decode cc pc = .ok (.invokestatic index, 3)) (hq : pc + 3 = q) (kk : ∀ (σ' : St), Q' σ' → go p l e R s m args below meth c D w A cells slots Qf nL q lv rest σ') : go p l e R s m args below meth c D w A cells slots Qf nL pc lv st σ := by
  subst hq
  intro H locs ls hP hS hl
  have hFc := go_free (σ := σ) X hS
  refine va_callv (va_runS (As := As) (rest := rest) X.1 (hM H.size) ⟨callB_of n X.1.2.2.2.2 (lkG_in L) rfl hR.1 hR.2.1 (X.1.2.2.2.2 _ L.2.1) (X.1.2.2.2.2 _ hlk) L.2.2 hR.2.2.1, X.1.2.2.2.2 _ hsy⟩ ⟨preW_blind, fun U hU hW => ⟨rfl, by rw [hU], by rw [hU]; exact hP, va_K.moved hW.alike X.2.1, (X.2.2.1 σ).weaken (fun _ _ _ _ => trivial), nst_warm hW X.2.2.2.2⟩⟩ rfl hn hl.1 hst (lv_room hW) hdg ⟨hR.2.2.2.1, hR.2.2.2.2⟩) hS (fun q _ h => hFc q h) hFc (fun u t H1 locs1 ht hvm hw hB hz1 hk1 hS1 => ?_)
  obtain ⟨hP1, hK1, hD1⟩ := hB
  rw [ht] at hP1
  exact kk u hw H1 locs1 ls hP1 hS1 hl

end ROWS
end
section
theorem ini_L : Cond.initialized "CustodyRoomLaw" ∈ lw_G := lw_G_t1 (List.mem_of_getElem? (i := 0) rfl) rfl
theorem ini_X5 : Cond.initialized "CustodyRoom" ∈ lw_G := lw_G_t1 (List.mem_of_getElem? (i := 1) rfl) rfl
theorem ini_X4 : Cond.initialized "CustodyRoom$Stock" ∈ lw_G := lw_G_t1 (List.mem_of_getElem? (i := 2) rfl) rfl
theorem ini_J7 : Cond.initialized "java/util/Arrays" ∈ lw_G := lw_G_t1 (List.mem_of_getElem? (i := 3) rfl) rfl
theorem ini_X2 : Cond.initialized "CustodyRoom$Slips" ∈ lw_G := lw_G_t1 (List.mem_of_getElem? (i := 4) rfl) rfl
theorem ini_X3 : Cond.initialized "CustodyRoom$Standing" ∈ lw_G := lw_G_t1 (List.mem_of_getElem? (i := 5) rfl) rfl
theorem ini_X1 : Cond.initialized "CustodyRoom$Links" ∈ lw_G := lw_G_t1 (List.mem_of_getElem? (i := 6) rfl) rfl
theorem ini_X6 : Cond.initialized "CustodyRoomModel" ∈ lw_G := lw_G_t1 (List.mem_of_getElem? (i := 7) rfl) rfl
theorem ini_J10 : Cond.initialized "java/lang/System" ∈ lw_G := lw_G_t1 (List.mem_of_getElem? (i := 8) rfl) rfl
theorem ini_J9 : Cond.initialized "java/lang/Math" ∈ lw_G := lw_G_t1 (List.mem_of_getElem? (i := 9) rfl) rfl
theorem ini_X0 : Cond.initialized "CustodyRoom$Handing" ∈ lw_G := lw_G_t1 (List.mem_of_getElem? (i := 10) rfl) rfl
theorem ini_J6 : Cond.initialized "java/lang/Integer" ∈ lw_G := lw_G_t1 (List.mem_of_getElem? (i := 11) rfl) rfl
theorem ml_L_9 : Cond.methodLink RL 9 yX5_init ∈ lw_G := lw_G_t1 (List.mem_of_getElem? (i := 14) rfl) rfl
theorem ml_X5_1 : Cond.methodLink RX5 1 objectInit ∈ lw_G := lw_G_t1 (List.mem_of_getElem? (i := 17) rfl) rfl
theorem ml_X5_9 : Cond.methodLinkNest RX5 9 yX4_init "CustodyRoom" ∈ lw_N := lw_N_t1 (List.mem_of_getElem? (i := 22) rfl) rfl
theorem ml_X4_3 : Cond.methodLink RX4 3 objectInit ∈ lw_G := lw_G_t1 (List.mem_of_getElem? (i := 25) rfl) rfl
theorem ml_X4_28 : Cond.methodLink RX4 28 yJ7_fill_53178 ∈ lw_G := lw_G_t1 (List.mem_of_getElem? (i := 26) rfl) rfl
theorem fl_X4_9 : Cond.fieldLink RX4 9 "CustodyRoom$Stock" "keeper" "[Z" ∈ lw_G := lw_G_t1 (List.mem_of_getElem? (i := 29) rfl) rfl
theorem fl_X4_15 : Cond.fieldLink RX4 15 "CustodyRoom$Stock" "cold" "[Z" ∈ lw_G := lw_G_t1 (List.mem_of_getElem? (i := 30) rfl) rfl
theorem fl_X4_18 : Cond.fieldLink RX4 18 "CustodyRoom$Stock" "sealsGiven" "[I" ∈ lw_G := lw_G_t1 (List.mem_of_getElem? (i := 31) rfl) rfl
theorem fl_X4_22 : Cond.fieldLink RX4 22 "CustodyRoom$Stock" "kinds" "[I" ∈ lw_G := lw_G_t1 (List.mem_of_getElem? (i := 32) rfl) rfl
theorem fl_X4_25 : Cond.fieldLink RX4 25 "CustodyRoom$Stock" "weights" "[I" ∈ lw_G := lw_G_t1 (List.mem_of_getElem? (i := 33) rfl) rfl
theorem fl_X3_99 : Cond.fieldLinkNest RX3 99 "CustodyRoom$Stock" "weights" "[I" "CustodyRoom" ∈ lw_N := lw_N_t1 (List.mem_of_getElem? (i := 34) rfl) rfl
theorem fl_X4_34 : Cond.fieldLink RX4 34 "CustodyRoom$Stock" "hands" "I" ∈ lw_G := lw_G_t1 (List.mem_of_getElem? (i := 35) rfl) rfl
theorem fl_X5_143 : Cond.fieldLinkNest RX5 143 "CustodyRoom$Stock" "hands" "I" "CustodyRoom" ∈ lw_N := lw_N_t1 (List.mem_of_getElem? (i := 36) rfl) rfl
theorem fl_X4_38 : Cond.fieldLink RX4 38 "CustodyRoom$Stock" "shelves" "I" ∈ lw_G := lw_G_t1 (List.mem_of_getElem? (i := 37) rfl) rfl
theorem fl_X5_146 : Cond.fieldLinkNest RX5 146 "CustodyRoom$Stock" "shelves" "I" "CustodyRoom" ∈ lw_N := lw_N_t1 (List.mem_of_getElem? (i := 38) rfl) rfl
theorem fl_X4_41 : Cond.fieldLink RX4 41 "CustodyRoom$Stock" "things" "I" ∈ lw_G := lw_G_t1 (List.mem_of_getElem? (i := 39) rfl) rfl
theorem fl_X3_87 : Cond.fieldLinkNest RX3 87 "CustodyRoom$Stock" "things" "I" "CustodyRoom" ∈ lw_N := lw_N_t1 (List.mem_of_getElem? (i := 40) rfl) rfl
theorem fl_X5_149 : Cond.fieldLinkNest RX5 149 "CustodyRoom$Stock" "things" "I" "CustodyRoom" ∈ lw_N := lw_N_t1 (List.mem_of_getElem? (i := 41) rfl) rfl
theorem ml_X5_18 : Cond.methodLinkNest RX5 18 yX2_init "CustodyRoom" ∈ lw_N := lw_N_t1 (List.mem_of_getElem? (i := 63) rfl) rfl
theorem ml_X2_3 : Cond.methodLink RX2 3 objectInit ∈ lw_G := lw_G_t1 (List.mem_of_getElem? (i := 66) rfl) rfl
theorem fl_X2_9 : Cond.fieldLink RX2 9 "CustodyRoom$Slips" "cells" "[I" ∈ lw_G := lw_G_t1 (List.mem_of_getElem? (i := 67) rfl) rfl
theorem fl_X2_15 : Cond.fieldLink RX2 15 "CustodyRoom$Slips" "order" "[I" ∈ lw_G := lw_G_t1 (List.mem_of_getElem? (i := 68) rfl) rfl
theorem fl_X2_18 : Cond.fieldLink RX2 18 "CustodyRoom$Slips" "count" "I" ∈ lw_G := lw_G_t1 (List.mem_of_getElem? (i := 69) rfl) rfl
theorem fl_X3_55 : Cond.fieldLinkNest RX3 55 "CustodyRoom$Slips" "count" "I" "CustodyRoom" ∈ lw_N := lw_N_t1 (List.mem_of_getElem? (i := 70) rfl) rfl
theorem fl_X1_23 : Cond.fieldLinkNest RX1 23 "CustodyRoom$Slips" "count" "I" "CustodyRoom" ∈ lw_N := lw_N_t1 (List.mem_of_getElem? (i := 71) rfl) rfl
theorem fl_X5_152 : Cond.fieldLinkNest RX5 152 "CustodyRoom$Slips" "count" "I" "CustodyRoom" ∈ lw_N := lw_N_t1 (List.mem_of_getElem? (i := 72) rfl) rfl
theorem ml_X5_28 : Cond.methodLinkNest RX5 28 yX3_init "CustodyRoom" ∈ lw_N := lw_N_t1 (List.mem_of_getElem? (i := 82) rfl) rfl
theorem ml_X3_3 : Cond.methodLink RX3 3 objectInit ∈ lw_G := lw_G_t1 (List.mem_of_getElem? (i := 85) rfl) rfl
theorem fl_X3_48 : Cond.fieldLink RX3 48 "CustodyRoom$Standing" "stock" "LCustodyRoom$Stock;" ∈ lw_G := lw_G_t1 (List.mem_of_getElem? (i := 86) rfl) rfl
theorem fl_X3_9 : Cond.fieldLink RX3 9 "CustodyRoom$Standing" "how" "[I" ∈ lw_G := lw_G_t1 (List.mem_of_getElem? (i := 87) rfl) rfl
theorem fl_X3_15 : Cond.fieldLink RX3 15 "CustodyRoom$Standing" "holder" "[I" ∈ lw_G := lw_G_t1 (List.mem_of_getElem? (i := 88) rfl) rfl
theorem fl_X3_18 : Cond.fieldLink RX3 18 "CustodyRoom$Standing" "weight" "[I" ∈ lw_G := lw_G_t1 (List.mem_of_getElem? (i := 89) rfl) rfl
theorem fl_X3_21 : Cond.fieldLink RX3 21 "CustodyRoom$Standing" "seal" "[I" ∈ lw_G := lw_G_t1 (List.mem_of_getElem? (i := 90) rfl) rfl
theorem fl_X3_24 : Cond.fieldLink RX3 24 "CustodyRoom$Standing" "dueDay" "[I" ∈ lw_G := lw_G_t1 (List.mem_of_getElem? (i := 91) rfl) rfl
theorem fl_X3_27 : Cond.fieldLink RX3 27 "CustodyRoom$Standing" "keepDay" "[I" ∈ lw_G := lw_G_t1 (List.mem_of_getElem? (i := 92) rfl) rfl
theorem fl_X3_30 : Cond.fieldLink RX3 30 "CustodyRoom$Standing" "doomed" "[I" ∈ lw_G := lw_G_t1 (List.mem_of_getElem? (i := 93) rfl) rfl
theorem fl_X3_33 : Cond.fieldLink RX3 33 "CustodyRoom$Standing" "trials" "[I" ∈ lw_G := lw_G_t1 (List.mem_of_getElem? (i := 94) rfl) rfl
theorem fl_X3_36 : Cond.fieldLink RX3 36 "CustodyRoom$Standing" "inside" "[I" ∈ lw_G := lw_G_t1 (List.mem_of_getElem? (i := 95) rfl) rfl
theorem fl_X3_39 : Cond.fieldLink RX3 39 "CustodyRoom$Standing" "origin" "[I" ∈ lw_G := lw_G_t1 (List.mem_of_getElem? (i := 96) rfl) rfl
theorem fl_X3_42 : Cond.fieldLink RX3 42 "CustodyRoom$Standing" "lying" "[I" ∈ lw_G := lw_G_t1 (List.mem_of_getElem? (i := 97) rfl) rfl
theorem fl_X3_45 : Cond.fieldLink RX3 45 "CustodyRoom$Standing" "sealUsed" "[I" ∈ lw_G := lw_G_t1 (List.mem_of_getElem? (i := 98) rfl) rfl
theorem fl_X3_108 : Cond.fieldLink RX3 108 "CustodyRoom$Standing" "t" "I" ∈ lw_G := lw_G_t1 (List.mem_of_getElem? (i := 99) rfl) rfl
theorem fl_X3_111 : Cond.fieldLink RX3 111 "CustodyRoom$Standing" "a" "I" ∈ lw_G := lw_G_t1 (List.mem_of_getElem? (i := 100) rfl) rfl
theorem fl_X3_114 : Cond.fieldLink RX3 114 "CustodyRoom$Standing" "b" "I" ∈ lw_G := lw_G_t1 (List.mem_of_getElem? (i := 101) rfl) rfl
theorem fl_X3_117 : Cond.fieldLink RX3 117 "CustodyRoom$Standing" "c" "I" ∈ lw_G := lw_G_t1 (List.mem_of_getElem? (i := 102) rfl) rfl
theorem fl_X3_120 : Cond.fieldLink RX3 120 "CustodyRoom$Standing" "d" "I" ∈ lw_G := lw_G_t1 (List.mem_of_getElem? (i := 103) rfl) rfl
theorem fl_X3_123 : Cond.fieldLink RX3 123 "CustodyRoom$Standing" "day" "I" ∈ lw_G := lw_G_t1 (List.mem_of_getElem? (i := 104) rfl) rfl
theorem ml_X5_37 : Cond.methodLinkNest RX5 37 yX1_init "CustodyRoom" ∈ lw_N := lw_N_t1 (List.mem_of_getElem? (i := 146) rfl) rfl
theorem ml_X1_3 : Cond.methodLink RX1 3 objectInit ∈ lw_G := lw_G_t1 (List.mem_of_getElem? (i := 149) rfl) rfl
theorem fl_X1_15 : Cond.fieldLink RX1 15 "CustodyRoom$Links" "slips" "LCustodyRoom$Slips;" ∈ lw_G := lw_G_t1 (List.mem_of_getElem? (i := 150) rfl) rfl
theorem fl_X1_9 : Cond.fieldLink RX1 9 "CustodyRoom$Links" "backward" "[I" ∈ lw_G := lw_G_t1 (List.mem_of_getElem? (i := 151) rfl) rfl
theorem fl_X1_19 : Cond.fieldLink RX1 19 "CustodyRoom$Links" "length" "I" ∈ lw_G := lw_G_t1 (List.mem_of_getElem? (i := 152) rfl) rfl
theorem fl_X5_10 : Cond.fieldLink RX5 10 "CustodyRoom" "stock" "LCustodyRoom$Stock;" ∈ lw_G := lw_G_t1 (List.mem_of_getElem? (i := 162) rfl) rfl
theorem fl_X5_19 : Cond.fieldLink RX5 19 "CustodyRoom" "slips" "LCustodyRoom$Slips;" ∈ lw_G := lw_G_t1 (List.mem_of_getElem? (i := 163) rfl) rfl
theorem fl_X5_23 : Cond.fieldLink RX5 23 "CustodyRoom" "image" "LCustodyRoom$Slips;" ∈ lw_G := lw_G_t1 (List.mem_of_getElem? (i := 164) rfl) rfl
theorem fl_X5_31 : Cond.fieldLink RX5 31 "CustodyRoom" "standing" "LCustodyRoom$Standing;" ∈ lw_G := lw_G_t1 (List.mem_of_getElem? (i := 165) rfl) rfl
theorem fl_X5_40 : Cond.fieldLink RX5 40 "CustodyRoom" "links" "LCustodyRoom$Links;" ∈ lw_G := lw_G_t1 (List.mem_of_getElem? (i := 166) rfl) rfl
theorem fl_X5_46 : Cond.fieldLink RX5 46 "CustodyRoom" "handings" "[LCustodyRoom$Handing;" ∈ lw_G := lw_G_t1 (List.mem_of_getElem? (i := 167) rfl) rfl
theorem fl_X5_50 : Cond.fieldLink RX5 50 "CustodyRoom" "draft" "[I" ∈ lw_G := lw_G_t1 (List.mem_of_getElem? (i := 168) rfl) rfl
theorem fl_X5_97 : Cond.fieldLink RX5 97 "CustodyRoom" "handingCount" "I" ∈ lw_G := lw_G_t1 (List.mem_of_getElem? (i := 169) rfl) rfl
theorem fl_X5_155 : Cond.fieldLink RX5 155 "CustodyRoom" "frozen" "Z" ∈ lw_G := lw_G_t1 (List.mem_of_getElem? (i := 170) rfl) rfl
theorem fl_X5_83 : Cond.fieldLink RX5 83 "CustodyRoom" "now" "I" ∈ lw_G := lw_G_t1 (List.mem_of_getElem? (i := 171) rfl) rfl
theorem fl_X5_54 : Cond.fieldLink RX5 54 "CustodyRoom" "faultTold" "I" ∈ lw_G := lw_G_t1 (List.mem_of_getElem? (i := 172) rfl) rfl
theorem fl_X5_58 : Cond.fieldLink RX5 58 "CustodyRoom" "slipBlamed" "I" ∈ lw_G := lw_G_t1 (List.mem_of_getElem? (i := 173) rfl) rfl
theorem ml_L_13 : Cond.methodLink RL 13 yX5_hand ∈ lw_G := lw_G_t1 (List.mem_of_getElem? (i := 199) rfl) rfl
theorem ml_X5_61 : Cond.methodLinkNest RX5 61 yX4_addHand "CustodyRoom" ∈ lw_N := lw_N_t1 (List.mem_of_getElem? (i := 203) rfl) rfl
theorem ml_L_18 : Cond.methodLink RL 18 yX5_shelf ∈ lw_G := lw_G_t1 (List.mem_of_getElem? (i := 207) rfl) rfl
theorem ml_X5_65 : Cond.methodLinkNest RX5 65 yX4_addShelf "CustodyRoom" ∈ lw_N := lw_N_t1 (List.mem_of_getElem? (i := 211) rfl) rfl
theorem ml_L_22 : Cond.methodLink RL 22 yX5_seals ∈ lw_G := lw_G_t1 (List.mem_of_getElem? (i := 215) rfl) rfl
theorem ml_X5_68 : Cond.methodLinkNest RX5 68 yX2_useSealBeyond "CustodyRoom" ∈ lw_N := lw_N_t1 (List.mem_of_getElem? (i := 219) rfl) rfl
theorem ml_X2_36 : Cond.methodLink RX2 36 yX2_cell ∈ lw_G := lw_G_t1 (List.mem_of_getElem? (i := 223) rfl) rfl
theorem ml_X2_22 : Cond.methodLink RX2 22 yX2_has ∈ lw_G := lw_G_t1 (List.mem_of_getElem? (i := 227) rfl) rfl
theorem ml_X5_72 : Cond.methodLinkNest RX5 72 yX4_giveOut "CustodyRoom" ∈ lw_N := lw_N_t1 (List.mem_of_getElem? (i := 231) rfl) rfl
theorem ml_L_27 : Cond.methodLink RL 27 yX5_thing ∈ lw_G := lw_G_t1 (List.mem_of_getElem? (i := 235) rfl) rfl
theorem cn_X5_76 : Cond.constant RX5 76 1000000 ∈ lw_G := lw_G_t1 (List.mem_of_getElem? (i := 239) rfl) rfl
theorem ml_X5_77 : Cond.methodLinkNest RX5 77 yX4_addThing "CustodyRoom" ∈ lw_N := lw_N_t2 (List.mem_of_getElem? (i := 0) rfl) rfl
theorem ml_L_32 : Cond.methodLink RL 32 yX5_pass ∈ lw_G := lw_G_t2 (List.mem_of_getElem? (i := 4) rfl) rfl
theorem cn_X5_81 : Cond.constant RX5 81 100000 ∈ lw_G := lw_G_t2 (List.mem_of_getElem? (i := 8) rfl) rfl
theorem cn_X5_82 : Cond.constant RX5 82 100000000 ∈ lw_G := lw_G_t2 (List.mem_of_getElem? (i := 9) rfl) rfl
theorem ml_L_37 : Cond.methodLink RL 37 yX5_slip ∈ lw_G := lw_G_t2 (List.mem_of_getElem? (i := 10) rfl) rfl
theorem ml_X5_86 : Cond.methodLink RX5 86 yX5_write ∈ lw_G := lw_G_t2 (List.mem_of_getElem? (i := 14) rfl) rfl
theorem ml_X5_204 : Cond.methodLink RX5 204 yX5_faultAhead ∈ lw_G := lw_G_t2 (List.mem_of_getElem? (i := 18) rfl) rfl
theorem ml_X5_90 : Cond.methodLinkNest RX5 90 yX4_isThing "CustodyRoom" ∈ lw_N := lw_N_t2 (List.mem_of_getElem? (i := 22) rfl) rfl
theorem ml_X5_208 : Cond.methodLinkNest RX5 208 yX2_add "CustodyRoom" ∈ lw_N := lw_N_t2 (List.mem_of_getElem? (i := 26) rfl) rfl
theorem ml_X2_26 : Cond.methodLink RX2 26 arraycopyName ∈ lw_G := lw_G_t2 (List.mem_of_getElem? (i := 30) rfl) rfl
theorem ml_X2_32 : Cond.methodLink RX2 32 yX2_putInOrder ∈ lw_G := lw_G_t2 (List.mem_of_getElem? (i := 33) rfl) rfl
theorem ml_X5_190 : Cond.methodLinkNest RX5 190 yX3_firstUndone "CustodyRoom" ∈ lw_N := lw_N_t2 (List.mem_of_getElem? (i := 37) rfl) rfl
theorem ml_X3_52 : Cond.methodLink RX3 52 yX3_clear ∈ lw_G := lw_G_t2 (List.mem_of_getElem? (i := 41) rfl) rfl
theorem ml_X3_93 : Cond.methodLink RX3 93 yJ7_fill_53178 ∈ lw_G := lw_G_t2 (List.mem_of_getElem? (i := 45) rfl) rfl
theorem ml_X3_102 : Cond.methodLink RX3 102 arraycopyName ∈ lw_G := lw_G_t2 (List.mem_of_getElem? (i := 46) rfl) rfl
theorem ml_X3_61 : Cond.methodLinkNest RX3 61 yX2_inOrder "CustodyRoom" ∈ lw_N := lw_N_t2 (List.mem_of_getElem? (i := 47) rfl) rfl
theorem ml_X3_65 : Cond.methodLink RX3 65 yX3_tell ∈ lw_G := lw_G_t2 (List.mem_of_getElem? (i := 51) rfl) rfl
theorem ml_X3_69 : Cond.methodLinkNest RX3 69 yX2_cell "CustodyRoom" ∈ lw_N := lw_N_t2 (List.mem_of_getElem? (i := 55) rfl) rfl
theorem ml_X3_73 : Cond.methodLinkNest RX3 73 yX4_isThing "CustodyRoom" ∈ lw_N := lw_N_t2 (List.mem_of_getElem? (i := 56) rfl) rfl
theorem ml_X3_90 : Cond.methodLink RX3 90 yX3_isKept ∈ lw_G := lw_G_t2 (List.mem_of_getElem? (i := 57) rfl) rfl
theorem ml_X3_126 : Cond.methodLink RX3 126 yX3_comeIn ∈ lw_G := lw_G_t2 (List.mem_of_getElem? (i := 61) rfl) rfl
theorem ml_X3_184 : Cond.methodLinkNest RX3 184 yX4_isOfKind "CustodyRoom" ∈ lw_N := lw_N_t2 (List.mem_of_getElem? (i := 65) rfl) rfl
theorem ml_X3_188 : Cond.methodLink RX3 188 yX3_isMoneyBag ∈ lw_G := lw_G_t2 (List.mem_of_getElem? (i := 69) rfl) rfl
theorem ml_X3_191 : Cond.methodLink RX3 191 yX3_keepersServe ∈ lw_G := lw_G_t2 (List.mem_of_getElem? (i := 73) rfl) rfl
theorem ml_X3_239 : Cond.methodLinkNest RX3 239 yX4_isKeeper "CustodyRoom" ∈ lw_N := lw_N_t2 (List.mem_of_getElem? (i := 77) rfl) rfl
theorem ml_X3_195 : Cond.methodLinkNest RX3 195 yX4_isHand "CustodyRoom" ∈ lw_N := lw_N_t2 (List.mem_of_getElem? (i := 81) rfl) rfl
theorem ml_X3_198 : Cond.methodLink RX3 198 yX3_mayLieAt ∈ lw_G := lw_G_t2 (List.mem_of_getElem? (i := 85) rfl) rfl
theorem ml_X3_243 : Cond.methodLinkNest RX3 243 yX4_isPlace "CustodyRoom" ∈ lw_N := lw_N_t2 (List.mem_of_getElem? (i := 89) rfl) rfl
theorem ml_X3_246 : Cond.methodLinkNest RX3 246 yX4_isColdPlace "CustodyRoom" ∈ lw_N := lw_N_t2 (List.mem_of_getElem? (i := 93) rfl) rfl
theorem ml_X3_201 : Cond.methodLink RX3 201 yX3_move ∈ lw_G := lw_G_t2 (List.mem_of_getElem? (i := 97) rfl) rfl
theorem ml_X3_249 : Cond.methodLink RX3 249 yX3_register ∈ lw_G := lw_G_t2 (List.mem_of_getElem? (i := 101) rfl) rfl
theorem ml_X3_130 : Cond.methodLink RX3 130 yX3_goOut ∈ lw_G := lw_G_t2 (List.mem_of_getElem? (i := 105) rfl) rfl
theorem ml_X3_205 : Cond.methodLink RX3 205 yX3_isDay ∈ lw_G := lw_G_t2 (List.mem_of_getElem? (i := 109) rfl) rfl
theorem cn_X3_242 : Cond.constant RX3 242 100000 ∈ lw_G := lw_G_t2 (List.mem_of_getElem? (i := 113) rfl) rfl
theorem ml_X3_133 : Cond.methodLink RX3 133 yX3_goOn ∈ lw_G := lw_G_t2 (List.mem_of_getElem? (i := 114) rfl) rfl
theorem ml_X3_208 : Cond.methodLink RX3 208 yX3_isAt ∈ lw_G := lw_G_t2 (List.mem_of_getElem? (i := 118) rfl) rfl
theorem ml_X3_136 : Cond.methodLink RX3 136 yX3_comeBack ∈ lw_G := lw_G_t2 (List.mem_of_getElem? (i := 122) rfl) rfl
theorem ml_X3_139 : Cond.methodLink RX3 139 yX3_putElsewhere ∈ lw_G := lw_G_t2 (List.mem_of_getElem? (i := 126) rfl) rfl
theorem ml_X3_142 : Cond.methodLink RX3 142 yX3_goInto ∈ lw_G := lw_G_t2 (List.mem_of_getElem? (i := 130) rfl) rfl
theorem ml_X3_212 : Cond.methodLinkNest RX3 212 yX4_isBag "CustodyRoom" ∈ lw_N := lw_N_t2 (List.mem_of_getElem? (i := 134) rfl) rfl
theorem ml_X4_44 : Cond.methodLink RX4 44 yX4_isOfKind ∈ lw_G := lw_G_t2 (List.mem_of_getElem? (i := 138) rfl) rfl
theorem ml_X3_215 : Cond.methodLink RX3 215 yX3_deepestIn ∈ lw_G := lw_G_t2 (List.mem_of_getElem? (i := 139) rfl) rfl
theorem ml_X3_252 : Cond.methodLink RX3 252 yX3_stepsUpTo ∈ lw_G := lw_G_t2 (List.mem_of_getElem? (i := 143) rfl) rfl
theorem ml_X3_218 : Cond.methodLink RX3 218 yX3_bagAround ∈ lw_G := lw_G_t2 (List.mem_of_getElem? (i := 147) rfl) rfl
theorem ml_X3_255 : Cond.methodLink RX3 255 yJ9_max_7cf53 ∈ lw_G := lw_G_t2 (List.mem_of_getElem? (i := 151) rfl) rfl
theorem ml_X3_145 : Cond.methodLink RX3 145 yX3_comeFrom ∈ lw_G := lw_G_t2 (List.mem_of_getElem? (i := 154) rfl) rfl
theorem ml_X3_148 : Cond.methodLink RX3 148 yX3_close ∈ lw_G := lw_G_t2 (List.mem_of_getElem? (i := 158) rfl) rfl
theorem ml_X3_221 : Cond.methodLinkNest RX3 221 yX4_isGivenOut "CustodyRoom" ∈ lw_N := lw_N_t2 (List.mem_of_getElem? (i := 162) rfl) rfl
theorem ml_X3_151 : Cond.methodLink RX3 151 yX3_unseal ∈ lw_G := lw_G_t2 (List.mem_of_getElem? (i := 166) rfl) rfl
theorem ml_X3_154 : Cond.methodLink RX3 154 yX3_look ∈ lw_G := lw_G_t2 (List.mem_of_getElem? (i := 170) rfl) rfl
theorem ml_X3_157 : Cond.methodLink RX3 157 yX3_takePart ∈ lw_G := lw_G_t2 (List.mem_of_getElem? (i := 174) rfl) rfl
theorem ml_X3_224 : Cond.methodLink RX3 224 yX3_mayBeTaken ∈ lw_G := lw_G_t2 (List.mem_of_getElem? (i := 178) rfl) rfl
theorem ml_X3_230 : Cond.methodLink RX3 230 yX3_isFree ∈ lw_G := lw_G_t2 (List.mem_of_getElem? (i := 182) rfl) rfl
theorem ml_X3_227 : Cond.methodLink RX3 227 yX3_bringToHand ∈ lw_G := lw_G_t2 (List.mem_of_getElem? (i := 186) rfl) rfl
theorem ml_X3_160 : Cond.methodLink RX3 160 yX3_takeCopy ∈ lw_G := lw_G_t2 (List.mem_of_getElem? (i := 190) rfl) rfl
theorem ml_X3_163 : Cond.methodLink RX3 163 yX3_weigh ∈ lw_G := lw_G_t2 (List.mem_of_getElem? (i := 194) rfl) rfl
theorem ml_X3_166 : Cond.methodLink RX3 166 yX3_keep ∈ lw_G := lw_G_t2 (List.mem_of_getElem? (i := 198) rfl) rfl
theorem ml_X3_169 : Cond.methodLink RX3 169 yX3_doom ∈ lw_G := lw_G_t2 (List.mem_of_getElem? (i := 202) rfl) rfl
theorem ml_X3_172 : Cond.methodLink RX3 172 yX3_beginTrial ∈ lw_G := lw_G_t2 (List.mem_of_getElem? (i := 206) rfl) rfl
theorem ml_X3_233 : Cond.methodLink RX3 233 yX3_goesOn ∈ lw_G := lw_G_t2 (List.mem_of_getElem? (i := 210) rfl) rfl
theorem ml_X3_175 : Cond.methodLink RX3 175 yX3_endTrial ∈ lw_G := lw_G_t2 (List.mem_of_getElem? (i := 214) rfl) rfl
theorem ml_X3_178 : Cond.methodLink RX3 178 yX3_destroy ∈ lw_G := lw_G_t2 (List.mem_of_getElem? (i := 218) rfl) rfl
theorem ml_X3_236 : Cond.methodLink RX3 236 yX3_isAnyOfItInHand ∈ lw_G := lw_G_t2 (List.mem_of_getElem? (i := 222) rfl) rfl
theorem ml_X3_260 : Cond.methodLink RX3 260 yX3_isOf ∈ lw_G := lw_G_t2 (List.mem_of_getElem? (i := 226) rfl) rfl
theorem ml_X3_181 : Cond.methodLink RX3 181 yX3_find ∈ lw_G := lw_G_t2 (List.mem_of_getElem? (i := 230) rfl) rfl
theorem ml_X5_212 : Cond.methodLinkNest RX5 212 yX2_dropLast "CustodyRoom" ∈ lw_N := lw_N_t2 (List.mem_of_getElem? (i := 234) rfl) rfl
theorem ml_L_42 : Cond.methodLink RL 42 yX5_fault ∈ lw_G := lw_G_t2 (List.mem_of_getElem? (i := 238) rfl) rfl
theorem ml_L_46 : Cond.methodLink RL 46 yX5_handing ∈ lw_G := lw_G_t3 (List.mem_of_getElem? (i := 2) rfl) rfl
theorem ml_X5_94 : Cond.methodLinkNest RX5 94 yX4_isHand "CustodyRoom" ∈ lw_N := lw_N_t3 (List.mem_of_getElem? (i := 6) rfl) rfl
theorem ml_X5_100 : Cond.methodLinkNest RX5 100 yX0_init "CustodyRoom" ∈ lw_N := lw_N_t3 (List.mem_of_getElem? (i := 8) rfl) rfl
theorem ml_X0_3 : Cond.methodLink RX0 3 objectInit ∈ lw_G := lw_G_t3 (List.mem_of_getElem? (i := 11) rfl) rfl
theorem fl_X0_18 : Cond.fieldLink RX0 18 "CustodyRoom$Handing" "thing" "I" ∈ lw_G := lw_G_t3 (List.mem_of_getElem? (i := 12) rfl) rfl
theorem fl_X5_127 : Cond.fieldLinkNest RX5 127 "CustodyRoom$Handing" "thing" "I" "CustodyRoom" ∈ lw_N := lw_N_t3 (List.mem_of_getElem? (i := 13) rfl) rfl
theorem fl_X0_21 : Cond.fieldLink RX0 21 "CustodyRoom$Handing" "giver" "I" ∈ lw_G := lw_G_t3 (List.mem_of_getElem? (i := 14) rfl) rfl
theorem fl_X5_130 : Cond.fieldLinkNest RX5 130 "CustodyRoom$Handing" "giver" "I" "CustodyRoom" ∈ lw_N := lw_N_t3 (List.mem_of_getElem? (i := 15) rfl) rfl
theorem fl_X0_24 : Cond.fieldLink RX0 24 "CustodyRoom$Handing" "taker" "I" ∈ lw_G := lw_G_t3 (List.mem_of_getElem? (i := 16) rfl) rfl
theorem fl_X5_133 : Cond.fieldLinkNest RX5 133 "CustodyRoom$Handing" "taker" "I" "CustodyRoom" ∈ lw_N := lw_N_t3 (List.mem_of_getElem? (i := 17) rfl) rfl
theorem fl_X0_27 : Cond.fieldLink RX0 27 "CustodyRoom$Handing" "minute" "I" ∈ lw_G := lw_G_t3 (List.mem_of_getElem? (i := 18) rfl) rfl
theorem fl_X5_110 : Cond.fieldLinkNest RX5 110 "CustodyRoom$Handing" "minute" "I" "CustodyRoom" ∈ lw_N := lw_N_t3 (List.mem_of_getElem? (i := 19) rfl) rfl
theorem fl_X0_9 : Cond.fieldLink RX0 9 "CustodyRoom$Handing" "giverYes" "I" ∈ lw_G := lw_G_t3 (List.mem_of_getElem? (i := 20) rfl) rfl
theorem fl_X0_15 : Cond.fieldLink RX0 15 "CustodyRoom$Handing" "takerYes" "I" ∈ lw_G := lw_G_t3 (List.mem_of_getElem? (i := 21) rfl) rfl
theorem fl_X0_30 : Cond.fieldLink RX0 30 "CustodyRoom$Handing" "ended" "Z" ∈ lw_G := lw_G_t3 (List.mem_of_getElem? (i := 22) rfl) rfl
theorem fl_X5_136 : Cond.fieldLinkNest RX5 136 "CustodyRoom$Handing" "ended" "Z" "CustodyRoom" ∈ lw_N := lw_N_t3 (List.mem_of_getElem? (i := 23) rfl) rfl
theorem ml_L_51 : Cond.methodLink RL 51 yX5_yes ∈ lw_G := lw_G_t3 (List.mem_of_getElem? (i := 39) rfl) rfl
theorem ml_X5_103 : Cond.methodLink RX5 103 yX5_findHanding ∈ lw_G := lw_G_t3 (List.mem_of_getElem? (i := 43) rfl) rfl
theorem ml_X5_107 : Cond.methodLinkNest RX5 107 yX0_awaits "CustodyRoom" ∈ lw_N := lw_N_t3 (List.mem_of_getElem? (i := 47) rfl) rfl
theorem ml_X5_113 : Cond.methodLinkNest RX5 113 yX0_setYes "CustodyRoom" ∈ lw_N := lw_N_t3 (List.mem_of_getElem? (i := 51) rfl) rfl
theorem ml_X5_116 : Cond.methodLinkNest RX5 116 yX0_isAgreed "CustodyRoom" ∈ lw_N := lw_N_t3 (List.mem_of_getElem? (i := 55) rfl) rfl
theorem ml_X5_120 : Cond.methodLinkNest RX5 120 yX0_isLate "CustodyRoom" ∈ lw_N := lw_N_t3 (List.mem_of_getElem? (i := 59) rfl) rfl
theorem ml_X0_40 : Cond.methodLink RX0 40 yX0_laterYes ∈ lw_G := lw_G_t3 (List.mem_of_getElem? (i := 63) rfl) rfl
theorem ml_X0_34 : Cond.methodLink RX0 34 yJ9_max_7cf53 ∈ lw_G := lw_G_t3 (List.mem_of_getElem? (i := 67) rfl) rfl
theorem ml_X5_123 : Cond.methodLinkNest RX5 123 yX0_laterYes "CustodyRoom" ∈ lw_N := lw_N_t3 (List.mem_of_getElem? (i := 68) rfl) rfl
theorem ml_L_56 : Cond.methodLink RL 56 yX5_no ∈ lw_G := lw_G_t3 (List.mem_of_getElem? (i := 69) rfl) rfl
theorem ml_X5_140 : Cond.methodLinkNest RX5 140 yX0_isBetween "CustodyRoom" ∈ lw_N := lw_N_t3 (List.mem_of_getElem? (i := 73) rfl) rfl
theorem ml_L_60 : Cond.methodLink RL 60 yX5_about ∈ lw_G := lw_G_t3 (List.mem_of_getElem? (i := 77) rfl) rfl
theorem ml_L_64 : Cond.methodLink RL 64 yX5_slipOf ∈ lw_G := lw_G_t3 (List.mem_of_getElem? (i := 81) rfl) rfl
theorem ml_X5_158 : Cond.methodLinkNest RX5 158 yX2_has "CustodyRoom" ∈ lw_N := lw_N_t3 (List.mem_of_getElem? (i := 85) rfl) rfl
theorem ml_X5_161 : Cond.methodLinkNest RX5 161 yX2_isLate "CustodyRoom" ∈ lw_N := lw_N_t3 (List.mem_of_getElem? (i := 86) rfl) rfl
theorem ml_X5_163 : Cond.methodLinkNest RX5 163 yX2_cell "CustodyRoom" ∈ lw_N := lw_N_t3 (List.mem_of_getElem? (i := 90) rfl) rfl
theorem ml_L_68 : Cond.methodLink RL 68 yX5_where ∈ lw_G := lw_G_t3 (List.mem_of_getElem? (i := 91) rfl) rfl
theorem ml_X5_166 : Cond.methodLinkNest RX5 166 yX3_tellKnown "CustodyRoom" ∈ lw_N := lw_N_t3 (List.mem_of_getElem? (i := 95) rfl) rfl
theorem ml_X5_170 : Cond.methodLinkNest RX5 170 yX3_answer "CustodyRoom" ∈ lw_N := lw_N_t3 (List.mem_of_getElem? (i := 99) rfl) rfl
theorem ml_X3_79 : Cond.methodLink RX3 79 yX3_outermost ∈ lw_G := lw_G_t3 (List.mem_of_getElem? (i := 103) rfl) rfl
theorem ml_X3_82 : Cond.methodLink RX3 82 yJ6_bitCount_0f7a4 ∈ lw_G := lw_G_t3 (List.mem_of_getElem? (i := 107) rfl) rfl
theorem cn_J6_265 : Cond.constant RJ6 265 1431655765 ∈ lw_G := lw_G_t3 (List.mem_of_getElem? (i := 110) rfl) rfl
theorem cn_J6_266 : Cond.constant RJ6 266 858993459 ∈ lw_G := lw_G_t3 (List.mem_of_getElem? (i := 111) rfl) rfl
theorem cn_J6_267 : Cond.constant RJ6 267 252645135 ∈ lw_G := lw_G_t3 (List.mem_of_getElem? (i := 112) rfl) rfl
theorem ml_L_72 : Cond.methodLink RL 72 yX5_chain ∈ lw_G := lw_G_t3 (List.mem_of_getElem? (i := 113) rfl) rfl
theorem ml_X5_173 : Cond.methodLinkNest RX5 173 yX1_follow "CustodyRoom" ∈ lw_N := lw_N_t3 (List.mem_of_getElem? (i := 117) rfl) rfl
theorem ml_X1_28 : Cond.methodLinkNest RX1 28 yX2_inOrder "CustodyRoom" ∈ lw_N := lw_N_t3 (List.mem_of_getElem? (i := 121) rfl) rfl
theorem ml_X1_32 : Cond.methodLinkNest RX1 32 yX2_isBirth "CustodyRoom" ∈ lw_N := lw_N_t3 (List.mem_of_getElem? (i := 122) rfl) rfl
theorem ml_X1_36 : Cond.methodLink RX1 36 yX1_append ∈ lw_G := lw_G_t3 (List.mem_of_getElem? (i := 126) rfl) rfl
theorem ml_X1_40 : Cond.methodLinkNest RX1 40 yX2_cell "CustodyRoom" ∈ lw_N := lw_N_t3 (List.mem_of_getElem? (i := 130) rfl) rfl
theorem ml_X1_44 : Cond.methodLinkNest RX1 44 yX2_isMoveOf "CustodyRoom" ∈ lw_N := lw_N_t3 (List.mem_of_getElem? (i := 131) rfl) rfl
theorem ml_X5_177 : Cond.methodLinkNest RX5 177 yX1_link "CustodyRoom" ∈ lw_N := lw_N_t3 (List.mem_of_getElem? (i := 135) rfl) rfl
theorem ml_L_76 : Cond.methodLink RL 76 yX5_gap ∈ lw_G := lw_G_t3 (List.mem_of_getElem? (i := 139) rfl) rfl
theorem ml_X5_181 : Cond.methodLinkNest RX5 181 yX1_endOfGap "CustodyRoom" ∈ lw_N := lw_N_t3 (List.mem_of_getElem? (i := 143) rfl) rfl
theorem ml_X1_47 : Cond.methodLink RX1 47 yX1_link ∈ lw_G := lw_G_t3 (List.mem_of_getElem? (i := 147) rfl) rfl
theorem ml_L_80 : Cond.methodLink RL 80 yX5_breaks ∈ lw_G := lw_G_t3 (List.mem_of_getElem? (i := 148) rfl) rfl
theorem ml_X5_184 : Cond.methodLinkNest RX5 184 yX4_isBag "CustodyRoom" ∈ lw_N := lw_N_t3 (List.mem_of_getElem? (i := 152) rfl) rfl
theorem ml_X5_187 : Cond.methodLinkNest RX5 187 yX2_firstBreak "CustodyRoom" ∈ lw_N := lw_N_t3 (List.mem_of_getElem? (i := 153) rfl) rfl
theorem ml_L_84 : Cond.methodLink RL 84 yX5_due ∈ lw_G := lw_G_t3 (List.mem_of_getElem? (i := 157) rfl) rfl
theorem ml_X5_194 : Cond.methodLinkNest RX5 194 yX3_thingOfDay "CustodyRoom" ∈ lw_N := lw_N_t3 (List.mem_of_getElem? (i := 161) rfl) rfl
theorem ml_L_88 : Cond.methodLink RL 88 yX5_freeze ∈ lw_G := lw_G_t3 (List.mem_of_getElem? (i := 165) rfl) rfl
theorem ml_X5_197 : Cond.methodLinkNest RX5 197 yX2_copyFrom "CustodyRoom" ∈ lw_N := lw_N_t3 (List.mem_of_getElem? (i := 169) rfl) rfl
theorem ml_L_93 : Cond.methodLink RL 93 yX5_alter ∈ lw_G := lw_G_t3 (List.mem_of_getElem? (i := 173) rfl) rfl
theorem ml_X5_200 : Cond.methodLinkNest RX5 200 yX2_alterCell "CustodyRoom" ∈ lw_N := lw_N_t3 (List.mem_of_getElem? (i := 177) rfl) rfl
theorem ml_L_98 : Cond.methodLink RL 98 yX5_check ∈ lw_G := lw_G_t3 (List.mem_of_getElem? (i := 181) rfl) rfl
theorem ml_L_102 : Cond.methodLink RL 102 yX5_thaw ∈ lw_G := lw_G_t3 (List.mem_of_getElem? (i := 185) rfl) rfl
theorem ml_L_12 : Cond.methodLink RL 12 yX6_init ∈ lw_G := lw_G_t3 (List.mem_of_getElem? (i := 191) rfl) rfl
theorem ml_X6_1 : Cond.methodLink RX6 1 objectInit ∈ lw_G := lw_G_t3 (List.mem_of_getElem? (i := 194) rfl) rfl
theorem ml_X6_90 : Cond.methodLink RX6 90 yX6_begin ∈ lw_G := lw_G_t3 (List.mem_of_getElem? (i := 195) rfl) rfl
theorem fl_X6_100 : Cond.fieldLink RX6 100 "CustodyRoomModel" "hands" "I" ∈ lw_G := lw_G_t3 (List.mem_of_getElem? (i := 199) rfl) rfl
theorem fl_X6_103 : Cond.fieldLink RX6 103 "CustodyRoomModel" "shelves" "I" ∈ lw_G := lw_G_t3 (List.mem_of_getElem? (i := 200) rfl) rfl
theorem fl_X6_93 : Cond.fieldLink RX6 93 "CustodyRoomModel" "things" "I" ∈ lw_G := lw_G_t3 (List.mem_of_getElem? (i := 201) rfl) rfl
theorem fl_X6_195 : Cond.fieldLink RX6 195 "CustodyRoomModel" "slips" "I" ∈ lw_G := lw_G_t3 (List.mem_of_getElem? (i := 202) rfl) rfl
theorem fl_X6_204 : Cond.fieldLink RX6 204 "CustodyRoomModel" "now" "I" ∈ lw_G := lw_G_t3 (List.mem_of_getElem? (i := 203) rfl) rfl
theorem fl_X6_216 : Cond.fieldLink RX6 216 "CustodyRoomModel" "handings" "I" ∈ lw_G := lw_G_t3 (List.mem_of_getElem? (i := 204) rfl) rfl
theorem fl_X6_9 : Cond.fieldLink RX6 9 "CustodyRoomModel" "image" "I" ∈ lw_G := lw_G_t3 (List.mem_of_getElem? (i := 205) rfl) rfl
theorem fl_X6_13 : Cond.fieldLink RX6 13 "CustodyRoomModel" "keeper" "[Z" ∈ lw_G := lw_G_t3 (List.mem_of_getElem? (i := 206) rfl) rfl
theorem fl_X6_17 : Cond.fieldLink RX6 17 "CustodyRoomModel" "cold" "[Z" ∈ lw_G := lw_G_t3 (List.mem_of_getElem? (i := 207) rfl) rfl
theorem fl_X6_20 : Cond.fieldLink RX6 20 "CustodyRoomModel" "sealRow" "[I" ∈ lw_G := lw_G_t3 (List.mem_of_getElem? (i := 208) rfl) rfl
theorem fl_X6_24 : Cond.fieldLink RX6 24 "CustodyRoomModel" "kind" "[I" ∈ lw_G := lw_G_t3 (List.mem_of_getElem? (i := 209) rfl) rfl
theorem fl_X6_27 : Cond.fieldLink RX6 27 "CustodyRoomModel" "weight" "[I" ∈ lw_G := lw_G_t3 (List.mem_of_getElem? (i := 210) rfl) rfl
theorem fl_X6_30 : Cond.fieldLink RX6 30 "CustodyRoomModel" "slip" "[I" ∈ lw_G := lw_G_t3 (List.mem_of_getElem? (i := 211) rfl) rfl
theorem fl_X6_33 : Cond.fieldLink RX6 33 "CustodyRoomModel" "kept" "[I" ∈ lw_G := lw_G_t3 (List.mem_of_getElem? (i := 212) rfl) rfl
theorem fl_X6_36 : Cond.fieldLink RX6 36 "CustodyRoomModel" "handing" "[I" ∈ lw_G := lw_G_t3 (List.mem_of_getElem? (i := 213) rfl) rfl
theorem fl_X6_39 : Cond.fieldLink RX6 39 "CustodyRoomModel" "fault" "I" ∈ lw_G := lw_G_t3 (List.mem_of_getElem? (i := 214) rfl) rfl
theorem fl_X6_42 : Cond.fieldLink RX6 42 "CustodyRoomModel" "culprit" "I" ∈ lw_G := lw_G_t3 (List.mem_of_getElem? (i := 215) rfl) rfl
theorem fl_X6_45 : Cond.fieldLink RX6 45 "CustodyRoomModel" "how" "[I" ∈ lw_G := lw_G_t3 (List.mem_of_getElem? (i := 216) rfl) rfl
theorem fl_X6_48 : Cond.fieldLink RX6 48 "CustodyRoomModel" "where" "[I" ∈ lw_G := lw_G_t3 (List.mem_of_getElem? (i := 217) rfl) rfl
theorem fl_X6_51 : Cond.fieldLink RX6 51 "CustodyRoomModel" "heavy" "[I" ∈ lw_G := lw_G_t3 (List.mem_of_getElem? (i := 218) rfl) rfl
theorem fl_X6_54 : Cond.fieldLink RX6 54 "CustodyRoomModel" "seal" "[I" ∈ lw_G := lw_G_t3 (List.mem_of_getElem? (i := 219) rfl) rfl
theorem fl_X6_57 : Cond.fieldLink RX6 57 "CustodyRoomModel" "dueOn" "[I" ∈ lw_G := lw_G_t3 (List.mem_of_getElem? (i := 220) rfl) rfl
theorem fl_X6_60 : Cond.fieldLink RX6 60 "CustodyRoomModel" "keepTill" "[I" ∈ lw_G := lw_G_t3 (List.mem_of_getElem? (i := 221) rfl) rfl
theorem fl_X6_63 : Cond.fieldLink RX6 63 "CustodyRoomModel" "toGo" "[Z" ∈ lw_G := lw_G_t3 (List.mem_of_getElem? (i := 222) rfl) rfl
theorem fl_X6_66 : Cond.fieldLink RX6 66 "CustodyRoomModel" "trials" "[I" ∈ lw_G := lw_G_t3 (List.mem_of_getElem? (i := 223) rfl) rfl
theorem fl_X6_69 : Cond.fieldLink RX6 69 "CustodyRoomModel" "of" "[I" ∈ lw_G := lw_G_t3 (List.mem_of_getElem? (i := 224) rfl) rfl
theorem fl_X6_72 : Cond.fieldLink RX6 72 "CustodyRoomModel" "was" "[Z" ∈ lw_G := lw_G_t3 (List.mem_of_getElem? (i := 225) rfl) rfl
theorem fl_X6_75 : Cond.fieldLink RX6 75 "CustodyRoomModel" "sealed" "[Z" ∈ lw_G := lw_G_t3 (List.mem_of_getElem? (i := 226) rfl) rfl
theorem fl_X6_78 : Cond.fieldLink RX6 78 "CustodyRoomModel" "order" "[I" ∈ lw_G := lw_G_t3 (List.mem_of_getElem? (i := 227) rfl) rfl
theorem fl_X6_81 : Cond.fieldLink RX6 81 "CustodyRoomModel" "chain" "[I" ∈ lw_G := lw_G_t3 (List.mem_of_getElem? (i := 228) rfl) rfl
theorem fl_X6_229 : Cond.fieldLink RX6 229 "CustodyRoomModel" "chains" "I" ∈ lw_G := lw_G_t3 (List.mem_of_getElem? (i := 229) rfl) rfl
theorem fl_X6_84 : Cond.fieldLink RX6 84 "CustodyRoomModel" "line" "[I" ∈ lw_G := lw_G_t3 (List.mem_of_getElem? (i := 230) rfl) rfl
theorem fl_X6_87 : Cond.fieldLink RX6 87 "CustodyRoomModel" "came" "[I" ∈ lw_G := lw_G_t3 (List.mem_of_getElem? (i := 231) rfl) rfl
theorem ml_L_17 : Cond.methodLink RL 17 yX6_hand ∈ lw_G := lw_G_t4 (List.mem_of_getElem? (i := 59) rfl) rfl
theorem ml_L_21 : Cond.methodLink RL 21 yX6_shelf ∈ lw_G := lw_G_t4 (List.mem_of_getElem? (i := 63) rfl) rfl
theorem ml_L_26 : Cond.methodLink RL 26 yX6_seals ∈ lw_G := lw_G_t4 (List.mem_of_getElem? (i := 67) rfl) rfl
theorem ml_X6_96 : Cond.methodLink RX6 96 yX6_isIn ∈ lw_G := lw_G_t4 (List.mem_of_getElem? (i := 71) rfl) rfl
theorem ml_L_31 : Cond.methodLink RL 31 yX6_thing ∈ lw_G := lw_G_t4 (List.mem_of_getElem? (i := 74) rfl) rfl
theorem cn_X6_203 : Cond.constant RX6 203 1000000 ∈ lw_G := lw_G_t4 (List.mem_of_getElem? (i := 78) rfl) rfl
theorem ml_L_36 : Cond.methodLink RL 36 yX6_pass ∈ lw_G := lw_G_t4 (List.mem_of_getElem? (i := 79) rfl) rfl
theorem cn_X6_154 : Cond.constant RX6 154 100000 ∈ lw_G := lw_G_t4 (List.mem_of_getElem? (i := 83) rfl) rfl
theorem cn_X6_207 : Cond.constant RX6 207 100000000 ∈ lw_G := lw_G_t4 (List.mem_of_getElem? (i := 84) rfl) rfl
theorem ml_L_41 : Cond.methodLink RL 41 yX6_slip ∈ lw_G := lw_G_t4 (List.mem_of_getElem? (i := 85) rfl) rfl
theorem ml_X6_212 : Cond.methodLink RX6 212 yX6_written ∈ lw_G := lw_G_t4 (List.mem_of_getElem? (i := 89) rfl) rfl
theorem ml_X6_208 : Cond.methodLink RX6 208 yX6_firstWrong ∈ lw_G := lw_G_t4 (List.mem_of_getElem? (i := 93) rfl) rfl
theorem ml_X6_184 : Cond.methodLink RX6 184 yX6_sort ∈ lw_G := lw_G_t4 (List.mem_of_getElem? (i := 97) rfl) rfl
theorem ml_X6_188 : Cond.methodLink RX6 188 yX6_isSlip ∈ lw_G := lw_G_t4 (List.mem_of_getElem? (i := 101) rfl) rfl
theorem ml_X6_192 : Cond.methodLink RX6 192 yX6_isDone ∈ lw_G := lw_G_t4 (List.mem_of_getElem? (i := 105) rfl) rfl
theorem ml_X6_116 : Cond.methodLink RX6 116 yX6_comesIn ∈ lw_G := lw_G_t4 (List.mem_of_getElem? (i := 109) rfl) rfl
theorem ml_X6_139 : Cond.methodLink RX6 139 yX6_hasKeepers ∈ lw_G := lw_G_t4 (List.mem_of_getElem? (i := 113) rfl) rfl
theorem ml_X6_110 : Cond.methodLink RX6 110 yX6_isKeeper ∈ lw_G := lw_G_t4 (List.mem_of_getElem? (i := 117) rfl) rfl
theorem ml_X6_143 : Cond.methodLink RX6 143 yX6_isHand ∈ lw_G := lw_G_t4 (List.mem_of_getElem? (i := 121) rfl) rfl
theorem ml_X6_146 : Cond.methodLink RX6 146 yX6_fits ∈ lw_G := lw_G_t4 (List.mem_of_getElem? (i := 125) rfl) rfl
theorem ml_X6_106 : Cond.methodLink RX6 106 yX6_isEmpty ∈ lw_G := lw_G_t4 (List.mem_of_getElem? (i := 129) rfl) rfl
theorem ml_X6_150 : Cond.methodLink RX6 150 yX6_go ∈ lw_G := lw_G_t4 (List.mem_of_getElem? (i := 133) rfl) rfl
theorem ml_X6_113 : Cond.methodLink RX6 113 yX6_isKept ∈ lw_G := lw_G_t4 (List.mem_of_getElem? (i := 137) rfl) rfl
theorem ml_X6_120 : Cond.methodLink RX6 120 yX6_moves ∈ lw_G := lw_G_t4 (List.mem_of_getElem? (i := 141) rfl) rfl
theorem ml_X6_155 : Cond.methodLink RX6 155 yX6_goesInto ∈ lw_G := lw_G_t4 (List.mem_of_getElem? (i := 145) rfl) rfl
theorem ml_X6_162 : Cond.methodLink RX6 162 yX6_isBag ∈ lw_G := lw_G_t4 (List.mem_of_getElem? (i := 149) rfl) rfl
theorem ml_X6_165 : Cond.methodLink RX6 165 yX6_isWithin ∈ lw_G := lw_G_t4 (List.mem_of_getElem? (i := 153) rfl) rfl
theorem ml_X6_168 : Cond.methodLink RX6 168 yX6_inside ∈ lw_G := lw_G_t4 (List.mem_of_getElem? (i := 157) rfl) rfl
theorem ml_X6_172 : Cond.methodLink RX6 172 yX6_depth ∈ lw_G := lw_G_t4 (List.mem_of_getElem? (i := 161) rfl) rfl
theorem ml_X6_159 : Cond.methodLink RX6 159 yX6_goesFrom ∈ lw_G := lw_G_t4 (List.mem_of_getElem? (i := 165) rfl) rfl
theorem ml_X6_124 : Cond.methodLink RX6 124 yX6_isSealing ∈ lw_G := lw_G_t4 (List.mem_of_getElem? (i := 169) rfl) rfl
theorem ml_X6_175 : Cond.methodLink RX6 175 yX6_isSeal ∈ lw_G := lw_G_t4 (List.mem_of_getElem? (i := 173) rfl) rfl
theorem ml_X6_127 : Cond.methodLink RX6 127 yX6_takes ∈ lw_G := lw_G_t4 (List.mem_of_getElem? (i := 177) rfl) rfl
theorem ml_X6_178 : Cond.methodLink RX6 178 yX6_isFree ∈ lw_G := lw_G_t4 (List.mem_of_getElem? (i := 181) rfl) rfl
theorem ml_X6_130 : Cond.methodLink RX6 130 yX6_orders ∈ lw_G := lw_G_t4 (List.mem_of_getElem? (i := 185) rfl) rfl
theorem ml_X6_133 : Cond.methodLink RX6 133 yX6_isDestroyed ∈ lw_G := lw_G_t4 (List.mem_of_getElem? (i := 189) rfl) rfl
theorem ml_X6_181 : Cond.methodLink RX6 181 yX6_isOf ∈ lw_G := lw_G_t4 (List.mem_of_getElem? (i := 193) rfl) rfl
theorem ml_X6_136 : Cond.methodLink RX6 136 yX6_isFound ∈ lw_G := lw_G_t4 (List.mem_of_getElem? (i := 197) rfl) rfl
theorem ml_L_45 : Cond.methodLink RL 45 yX6_fault ∈ lw_G := lw_G_t4 (List.mem_of_getElem? (i := 201) rfl) rfl
theorem ml_L_50 : Cond.methodLink RL 50 yX6_handing ∈ lw_G := lw_G_t4 (List.mem_of_getElem? (i := 205) rfl) rfl
theorem ml_L_55 : Cond.methodLink RL 55 yX6_yes ∈ lw_G := lw_G_t4 (List.mem_of_getElem? (i := 209) rfl) rfl
theorem ml_X6_219 : Cond.methodLink RX6 219 yX6_sayer ∈ lw_G := lw_G_t4 (List.mem_of_getElem? (i := 213) rfl) rfl
theorem ml_L_59 : Cond.methodLink RL 59 yX6_no ∈ lw_G := lw_G_t4 (List.mem_of_getElem? (i := 217) rfl) rfl
theorem ml_L_63 : Cond.methodLink RL 63 yX6_about ∈ lw_G := lw_G_t4 (List.mem_of_getElem? (i := 221) rfl) rfl
theorem ml_L_67 : Cond.methodLink RL 67 yX6_slipOf ∈ lw_G := lw_G_t4 (List.mem_of_getElem? (i := 225) rfl) rfl
theorem ml_L_71 : Cond.methodLink RL 71 yX6_where ∈ lw_G := lw_G_t4 (List.mem_of_getElem? (i := 229) rfl) rfl
theorem ml_X6_199 : Cond.methodLink RX6 199 yX6_goOver ∈ lw_G := lw_G_t4 (List.mem_of_getElem? (i := 233) rfl) rfl
theorem ml_X6_223 : Cond.methodLink RX6 223 yX6_outermost ∈ lw_G := lw_G_t4 (List.mem_of_getElem? (i := 237) rfl) rfl
theorem ml_X6_226 : Cond.methodLink RX6 226 yX6_bits ∈ lw_G := lw_G_t5 (List.mem_of_getElem? (i := 1) rfl) rfl
theorem ml_L_75 : Cond.methodLink RL 75 yX6_chain ∈ lw_G := lw_G_t5 (List.mem_of_getElem? (i := 5) rfl) rfl
theorem ml_X6_242 : Cond.methodLink RX6 242 yX6_makeChain ∈ lw_G := lw_G_t5 (List.mem_of_getElem? (i := 9) rfl) rfl
theorem ml_X6_232 : Cond.methodLink RX6 232 yX6_cameAt ∈ lw_G := lw_G_t5 (List.mem_of_getElem? (i := 13) rfl) rfl
theorem ml_X6_235 : Cond.methodLink RX6 235 yX6_put ∈ lw_G := lw_G_t5 (List.mem_of_getElem? (i := 17) rfl) rfl
theorem ml_X6_239 : Cond.methodLink RX6 239 yX6_isMove ∈ lw_G := lw_G_t5 (List.mem_of_getElem? (i := 21) rfl) rfl
theorem ml_L_79 : Cond.methodLink RL 79 yX6_gap ∈ lw_G := lw_G_t5 (List.mem_of_getElem? (i := 24) rfl) rfl
theorem ml_L_83 : Cond.methodLink RL 83 yX6_breaks ∈ lw_G := lw_G_t5 (List.mem_of_getElem? (i := 28) rfl) rfl
theorem ml_L_87 : Cond.methodLink RL 87 yX6_due ∈ lw_G := lw_G_t5 (List.mem_of_getElem? (i := 32) rfl) rfl
theorem ml_X6_245 : Cond.methodLink RX6 245 yX6_goOverAll ∈ lw_G := lw_G_t5 (List.mem_of_getElem? (i := 36) rfl) rfl
theorem cn_X6_198 : Cond.constant RX6 198 2147483647 ∈ lw_G := lw_G_t5 (List.mem_of_getElem? (i := 40) rfl) rfl
theorem ml_L_92 : Cond.methodLink RL 92 yX6_freeze ∈ lw_G := lw_G_t5 (List.mem_of_getElem? (i := 41) rfl) rfl
theorem ml_L_97 : Cond.methodLink RL 97 yX6_alter ∈ lw_G := lw_G_t5 (List.mem_of_getElem? (i := 45) rfl) rfl
theorem ml_L_101 : Cond.methodLink RL 101 yX6_check ∈ lw_G := lw_G_t5 (List.mem_of_getElem? (i := 49) rfl) rfl
theorem ml_L_106 : Cond.methodLink RL 106 yX6_thaw ∈ lw_G := lw_G_t5 (List.mem_of_getElem? (i := 53) rfl) rfl
theorem lk_X5_init : lkG yX5_init cX5_init 1 none 0 := ⟨lw_G_t1 (List.mem_of_getElem? (i := 16) rfl) rfl, ini_X5, by decide +kernel, by decide +kernel, by decide +kernel⟩
theorem im_X5_init : Cond.instanceMethod yX5_init ∈ lw_G := lw_G_t1 (List.mem_of_getElem? (i := 15) rfl) rfl
theorem lk_X4_init : lkG yX4_init cX4_init 1 none 0 := ⟨lw_G_t1 (List.mem_of_getElem? (i := 24) rfl) rfl, ini_X4, by decide +kernel, by decide +kernel, by decide +kernel⟩
theorem im_X4_init : Cond.instanceMethod yX4_init ∈ lw_G := lw_G_t1 (List.mem_of_getElem? (i := 23) rfl) rfl
theorem lk_J7_fill_53178 : lkG yJ7_fill_53178 cJ7_fill_53178 4 none 2 := ⟨lw_G_t1 (List.mem_of_getElem? (i := 28) rfl) rfl, ini_J7, by decide +kernel, by decide +kernel, by decide +kernel⟩
theorem sy_J7_fill_53178 : Cond.static yJ7_fill_53178 ∈ lw_G := lw_G_t1 (List.mem_of_getElem? (i := 27) rfl) rfl
theorem lk_X2_init : lkG yX2_init cX2_init 1 none 0 := ⟨lw_G_t1 (List.mem_of_getElem? (i := 65) rfl) rfl, ini_X2, by decide +kernel, by decide +kernel, by decide +kernel⟩
theorem im_X2_init : Cond.instanceMethod yX2_init ∈ lw_G := lw_G_t1 (List.mem_of_getElem? (i := 64) rfl) rfl
theorem lk_X3_init : lkG yX3_init cX3_init 2 none 1 := ⟨lw_G_t1 (List.mem_of_getElem? (i := 84) rfl) rfl, ini_X3, by decide +kernel, by decide +kernel, by decide +kernel⟩
theorem im_X3_init : Cond.instanceMethod yX3_init ∈ lw_G := lw_G_t1 (List.mem_of_getElem? (i := 83) rfl) rfl
theorem lk_X1_init : lkG yX1_init cX1_init 2 none 1 := ⟨lw_G_t1 (List.mem_of_getElem? (i := 148) rfl) rfl, ini_X1, by decide +kernel, by decide +kernel, by decide +kernel⟩
theorem im_X1_init : Cond.instanceMethod yX1_init ∈ lw_G := lw_G_t1 (List.mem_of_getElem? (i := 147) rfl) rfl
theorem lk_X5_hand : lkI yX5_hand cX5_hand 2 (some .int) 1 := ⟨⟨lw_G_t1 (List.mem_of_getElem? (i := 202) rfl) rfl, ini_X5, by decide +kernel, by decide +kernel, by decide +kernel⟩, lw_G_t1 (List.mem_of_getElem? (i := 200) rfl) rfl, lw_G_t1 (List.mem_of_getElem? (i := 201) rfl) rfl⟩
theorem lk_X4_addHand : lkI yX4_addHand cX4_addHand 2 (some .int) 1 := ⟨⟨lw_G_t1 (List.mem_of_getElem? (i := 206) rfl) rfl, ini_X4, by decide +kernel, by decide +kernel, by decide +kernel⟩, lw_G_t1 (List.mem_of_getElem? (i := 205) rfl) rfl, lw_G_sel (n := 8) (List.mem_of_getElem? (i := 0) rfl) rfl⟩
theorem lk_X5_shelf : lkI yX5_shelf cX5_shelf 2 (some .int) 1 := ⟨⟨lw_G_t1 (List.mem_of_getElem? (i := 210) rfl) rfl, ini_X5, by decide +kernel, by decide +kernel, by decide +kernel⟩, lw_G_t1 (List.mem_of_getElem? (i := 208) rfl) rfl, lw_G_t1 (List.mem_of_getElem? (i := 209) rfl) rfl⟩
theorem lk_X4_addShelf : lkI yX4_addShelf cX4_addShelf 2 (some .int) 1 := ⟨⟨lw_G_t1 (List.mem_of_getElem? (i := 214) rfl) rfl, ini_X4, by decide +kernel, by decide +kernel, by decide +kernel⟩, lw_G_t1 (List.mem_of_getElem? (i := 213) rfl) rfl, lw_G_sel (n := 8) (List.mem_of_getElem? (i := 1) rfl) rfl⟩
theorem lk_X5_seals : lkI yX5_seals cX5_seals 3 (some .boolean) 2 := ⟨⟨lw_G_t1 (List.mem_of_getElem? (i := 218) rfl) rfl, ini_X5, by decide +kernel, by decide +kernel, by decide +kernel⟩, lw_G_t1 (List.mem_of_getElem? (i := 216) rfl) rfl, lw_G_t1 (List.mem_of_getElem? (i := 217) rfl) rfl⟩
theorem lk_X2_useSealBeyond : lkI yX2_useSealBeyond cX2_useSealBeyond 6 (some .boolean) 2 := ⟨⟨lw_G_t1 (List.mem_of_getElem? (i := 222) rfl) rfl, ini_X2, by decide +kernel, by decide +kernel, by decide +kernel⟩, lw_G_t1 (List.mem_of_getElem? (i := 221) rfl) rfl, lw_G_sel (n := 3) (List.mem_of_getElem? (i := 2) rfl) rfl⟩
theorem lk_X2_cell : lkI yX2_cell cX2_cell 3 (some .int) 2 := ⟨⟨lw_G_t1 (List.mem_of_getElem? (i := 226) rfl) rfl, ini_X2, by decide +kernel, by decide +kernel, by decide +kernel⟩, lw_G_t1 (List.mem_of_getElem? (i := 225) rfl) rfl, lw_G_sel (n := 3) (List.mem_of_getElem? (i := 3) rfl) rfl⟩
theorem lk_X2_has : lkI yX2_has cX2_has 2 (some .boolean) 1 := ⟨⟨lw_G_t1 (List.mem_of_getElem? (i := 230) rfl) rfl, ini_X2, by decide +kernel, by decide +kernel, by decide +kernel⟩, lw_G_t1 (List.mem_of_getElem? (i := 229) rfl) rfl, lw_G_sel (n := 3) (List.mem_of_getElem? (i := 4) rfl) rfl⟩
theorem lk_X4_giveOut : lkI yX4_giveOut cX4_giveOut 3 none 2 := ⟨⟨lw_G_t1 (List.mem_of_getElem? (i := 234) rfl) rfl, ini_X4, by decide +kernel, by decide +kernel, by decide +kernel⟩, lw_G_t1 (List.mem_of_getElem? (i := 233) rfl) rfl, lw_G_sel (n := 8) (List.mem_of_getElem? (i := 5) rfl) rfl⟩
theorem lk_X5_thing : lkI yX5_thing cX5_thing 4 (some .int) 2 := ⟨⟨lw_G_t1 (List.mem_of_getElem? (i := 238) rfl) rfl, ini_X5, by decide +kernel, by decide +kernel, by decide +kernel⟩, lw_G_t1 (List.mem_of_getElem? (i := 236) rfl) rfl, lw_G_t1 (List.mem_of_getElem? (i := 237) rfl) rfl⟩
theorem lk_X4_addThing : lkI yX4_addThing cX4_addThing 3 (some .int) 2 := ⟨⟨lw_G_t2 (List.mem_of_getElem? (i := 3) rfl) rfl, ini_X4, by decide +kernel, by decide +kernel, by decide +kernel⟩, lw_G_t2 (List.mem_of_getElem? (i := 2) rfl) rfl, lw_G_sel (n := 8) (List.mem_of_getElem? (i := 6) rfl) rfl⟩
theorem lk_X5_pass : lkI yX5_pass cX5_pass 2 (some .int) 1 := ⟨⟨lw_G_t2 (List.mem_of_getElem? (i := 7) rfl) rfl, ini_X5, by decide +kernel, by decide +kernel, by decide +kernel⟩, lw_G_t2 (List.mem_of_getElem? (i := 5) rfl) rfl, lw_G_t2 (List.mem_of_getElem? (i := 6) rfl) rfl⟩
theorem lk_X5_slip : lkI yX5_slip cX5_slip 8 (some .int) 7 := ⟨⟨lw_G_t2 (List.mem_of_getElem? (i := 13) rfl) rfl, ini_X5, by decide +kernel, by decide +kernel, by decide +kernel⟩, lw_G_t2 (List.mem_of_getElem? (i := 11) rfl) rfl, lw_G_t2 (List.mem_of_getElem? (i := 12) rfl) rfl⟩
theorem lk_X5_write : lkI yX5_write cX5_write 9 (some .int) 7 := ⟨⟨lw_G_t2 (List.mem_of_getElem? (i := 17) rfl) rfl, ini_X5, by decide +kernel, by decide +kernel, by decide +kernel⟩, lw_G_t2 (List.mem_of_getElem? (i := 16) rfl) rfl, lw_G_sel (n := 12) (List.mem_of_getElem? (i := 7) rfl) rfl⟩
theorem lk_X5_faultAhead : lkI yX5_faultAhead cX5_faultAhead 4 (some .int) 3 := ⟨⟨lw_G_t2 (List.mem_of_getElem? (i := 21) rfl) rfl, ini_X5, by decide +kernel, by decide +kernel, by decide +kernel⟩, lw_G_t2 (List.mem_of_getElem? (i := 20) rfl) rfl, lw_G_sel (n := 12) (List.mem_of_getElem? (i := 8) rfl) rfl⟩
theorem lk_X4_isThing : lkI yX4_isThing cX4_isThing 2 (some .boolean) 1 := ⟨⟨lw_G_t2 (List.mem_of_getElem? (i := 25) rfl) rfl, ini_X4, by decide +kernel, by decide +kernel, by decide +kernel⟩, lw_G_t2 (List.mem_of_getElem? (i := 24) rfl) rfl, lw_G_sel (n := 8) (List.mem_of_getElem? (i := 9) rfl) rfl⟩
theorem lk_X2_add : lkI yX2_add cX2_add 2 none 1 := ⟨⟨lw_G_t2 (List.mem_of_getElem? (i := 29) rfl) rfl, ini_X2, by decide +kernel, by decide +kernel, by decide +kernel⟩, lw_G_t2 (List.mem_of_getElem? (i := 28) rfl) rfl, lw_G_sel (n := 3) (List.mem_of_getElem? (i := 10) rfl) rfl⟩
theorem lk_X2_putInOrder : lkI yX2_putInOrder cX2_putInOrder 4 none 1 := ⟨⟨lw_G_t2 (List.mem_of_getElem? (i := 36) rfl) rfl, ini_X2, by decide +kernel, by decide +kernel, by decide +kernel⟩, lw_G_t2 (List.mem_of_getElem? (i := 35) rfl) rfl, lw_G_sel (n := 3) (List.mem_of_getElem? (i := 11) rfl) rfl⟩
theorem lk_X3_firstUndone : lkI yX3_firstUndone cX3_firstUndone 4 (some .int) 1 := ⟨⟨lw_G_t2 (List.mem_of_getElem? (i := 40) rfl) rfl, ini_X3, by decide +kernel, by decide +kernel, by decide +kernel⟩, lw_G_t2 (List.mem_of_getElem? (i := 39) rfl) rfl, lw_G_sel (n := 19) (List.mem_of_getElem? (i := 12) rfl) rfl⟩
theorem lk_X3_clear : lkI yX3_clear cX3_clear 1 none 0 := ⟨⟨lw_G_t2 (List.mem_of_getElem? (i := 44) rfl) rfl, ini_X3, by decide +kernel, by decide +kernel, by decide +kernel⟩, lw_G_t2 (List.mem_of_getElem? (i := 43) rfl) rfl, lw_G_sel (n := 19) (List.mem_of_getElem? (i := 13) rfl) rfl⟩
theorem lk_X2_inOrder : lkI yX2_inOrder cX2_inOrder 2 (some .int) 1 := ⟨⟨lw_G_t2 (List.mem_of_getElem? (i := 50) rfl) rfl, ini_X2, by decide +kernel, by decide +kernel, by decide +kernel⟩, lw_G_t2 (List.mem_of_getElem? (i := 49) rfl) rfl, lw_G_sel (n := 3) (List.mem_of_getElem? (i := 14) rfl) rfl⟩
theorem lk_X3_tell : lkI yX3_tell cX3_tell 5 (some .boolean) 2 := ⟨⟨lw_G_t2 (List.mem_of_getElem? (i := 54) rfl) rfl, ini_X3, by decide +kernel, by decide +kernel, by decide +kernel⟩, lw_G_t2 (List.mem_of_getElem? (i := 53) rfl) rfl, lw_G_sel (n := 19) (List.mem_of_getElem? (i := 15) rfl) rfl⟩
theorem lk_X3_isKept : lkI yX3_isKept cX3_isKept 2 (some .boolean) 1 := ⟨⟨lw_G_t2 (List.mem_of_getElem? (i := 60) rfl) rfl, ini_X3, by decide +kernel, by decide +kernel, by decide +kernel⟩, lw_G_t2 (List.mem_of_getElem? (i := 59) rfl) rfl, lw_G_sel (n := 19) (List.mem_of_getElem? (i := 16) rfl) rfl⟩
theorem lk_X3_comeIn : lkI yX3_comeIn cX3_comeIn 1 (some .boolean) 0 := ⟨⟨lw_G_t2 (List.mem_of_getElem? (i := 64) rfl) rfl, ini_X3, by decide +kernel, by decide +kernel, by decide +kernel⟩, lw_G_t2 (List.mem_of_getElem? (i := 63) rfl) rfl, lw_G_sel (n := 19) (List.mem_of_getElem? (i := 17) rfl) rfl⟩
theorem lk_X4_isOfKind : lkI yX4_isOfKind cX4_isOfKind 3 (some .boolean) 2 := ⟨⟨lw_G_t2 (List.mem_of_getElem? (i := 68) rfl) rfl, ini_X4, by decide +kernel, by decide +kernel, by decide +kernel⟩, lw_G_t2 (List.mem_of_getElem? (i := 67) rfl) rfl, lw_G_sel (n := 8) (List.mem_of_getElem? (i := 18) rfl) rfl⟩
theorem lk_X3_isMoneyBag : lkI yX3_isMoneyBag cX3_isMoneyBag 2 (some .boolean) 1 := ⟨⟨lw_G_t2 (List.mem_of_getElem? (i := 72) rfl) rfl, ini_X3, by decide +kernel, by decide +kernel, by decide +kernel⟩, lw_G_t2 (List.mem_of_getElem? (i := 71) rfl) rfl, lw_G_sel (n := 19) (List.mem_of_getElem? (i := 19) rfl) rfl⟩
theorem lk_X3_keepersServe : lkI yX3_keepersServe cX3_keepersServe 2 (some .boolean) 1 := ⟨⟨lw_G_t2 (List.mem_of_getElem? (i := 76) rfl) rfl, ini_X3, by decide +kernel, by decide +kernel, by decide +kernel⟩, lw_G_t2 (List.mem_of_getElem? (i := 75) rfl) rfl, lw_G_sel (n := 19) (List.mem_of_getElem? (i := 20) rfl) rfl⟩
theorem lk_X4_isKeeper : lkI yX4_isKeeper cX4_isKeeper 2 (some .boolean) 1 := ⟨⟨lw_G_t2 (List.mem_of_getElem? (i := 80) rfl) rfl, ini_X4, by decide +kernel, by decide +kernel, by decide +kernel⟩, lw_G_t2 (List.mem_of_getElem? (i := 79) rfl) rfl, lw_G_sel (n := 8) (List.mem_of_getElem? (i := 21) rfl) rfl⟩
theorem lk_X4_isHand : lkI yX4_isHand cX4_isHand 2 (some .boolean) 1 := ⟨⟨lw_G_t2 (List.mem_of_getElem? (i := 84) rfl) rfl, ini_X4, by decide +kernel, by decide +kernel, by decide +kernel⟩, lw_G_t2 (List.mem_of_getElem? (i := 83) rfl) rfl, lw_G_sel (n := 8) (List.mem_of_getElem? (i := 22) rfl) rfl⟩
theorem lk_X3_mayLieAt : lkI yX3_mayLieAt cX3_mayLieAt 2 (some .boolean) 1 := ⟨⟨lw_G_t2 (List.mem_of_getElem? (i := 88) rfl) rfl, ini_X3, by decide +kernel, by decide +kernel, by decide +kernel⟩, lw_G_t2 (List.mem_of_getElem? (i := 87) rfl) rfl, lw_G_sel (n := 19) (List.mem_of_getElem? (i := 23) rfl) rfl⟩
theorem lk_X4_isPlace : lkI yX4_isPlace cX4_isPlace 2 (some .boolean) 1 := ⟨⟨lw_G_t2 (List.mem_of_getElem? (i := 92) rfl) rfl, ini_X4, by decide +kernel, by decide +kernel, by decide +kernel⟩, lw_G_t2 (List.mem_of_getElem? (i := 91) rfl) rfl, lw_G_sel (n := 8) (List.mem_of_getElem? (i := 24) rfl) rfl⟩
theorem lk_X4_isColdPlace : lkI yX4_isColdPlace cX4_isColdPlace 2 (some .boolean) 1 := ⟨⟨lw_G_t2 (List.mem_of_getElem? (i := 96) rfl) rfl, ini_X4, by decide +kernel, by decide +kernel, by decide +kernel⟩, lw_G_t2 (List.mem_of_getElem? (i := 95) rfl) rfl, lw_G_sel (n := 8) (List.mem_of_getElem? (i := 25) rfl) rfl⟩
theorem lk_X3_move : lkI yX3_move cX3_move 4 none 3 := ⟨⟨lw_G_t2 (List.mem_of_getElem? (i := 100) rfl) rfl, ini_X3, by decide +kernel, by decide +kernel, by decide +kernel⟩, lw_G_t2 (List.mem_of_getElem? (i := 99) rfl) rfl, lw_G_sel (n := 19) (List.mem_of_getElem? (i := 26) rfl) rfl⟩
theorem lk_X3_register : lkI yX3_register cX3_register 4 none 3 := ⟨⟨lw_G_t2 (List.mem_of_getElem? (i := 104) rfl) rfl, ini_X3, by decide +kernel, by decide +kernel, by decide +kernel⟩, lw_G_t2 (List.mem_of_getElem? (i := 103) rfl) rfl, lw_G_sel (n := 19) (List.mem_of_getElem? (i := 27) rfl) rfl⟩
theorem lk_X3_goOut : lkI yX3_goOut cX3_goOut 1 (some .boolean) 0 := ⟨⟨lw_G_t2 (List.mem_of_getElem? (i := 108) rfl) rfl, ini_X3, by decide +kernel, by decide +kernel, by decide +kernel⟩, lw_G_t2 (List.mem_of_getElem? (i := 107) rfl) rfl, lw_G_sel (n := 19) (List.mem_of_getElem? (i := 28) rfl) rfl⟩
theorem lk_X3_isDay : lkI yX3_isDay cX3_isDay 2 (some .boolean) 1 := ⟨⟨lw_G_t2 (List.mem_of_getElem? (i := 112) rfl) rfl, ini_X3, by decide +kernel, by decide +kernel, by decide +kernel⟩, lw_G_t2 (List.mem_of_getElem? (i := 111) rfl) rfl, lw_G_sel (n := 19) (List.mem_of_getElem? (i := 29) rfl) rfl⟩
theorem lk_X3_goOn : lkI yX3_goOn cX3_goOn 1 (some .boolean) 0 := ⟨⟨lw_G_t2 (List.mem_of_getElem? (i := 117) rfl) rfl, ini_X3, by decide +kernel, by decide +kernel, by decide +kernel⟩, lw_G_t2 (List.mem_of_getElem? (i := 116) rfl) rfl, lw_G_sel (n := 19) (List.mem_of_getElem? (i := 30) rfl) rfl⟩
theorem lk_X3_isAt : lkI yX3_isAt cX3_isAt 4 (some .boolean) 3 := ⟨⟨lw_G_t2 (List.mem_of_getElem? (i := 121) rfl) rfl, ini_X3, by decide +kernel, by decide +kernel, by decide +kernel⟩, lw_G_t2 (List.mem_of_getElem? (i := 120) rfl) rfl, lw_G_sel (n := 19) (List.mem_of_getElem? (i := 31) rfl) rfl⟩
theorem lk_X3_comeBack : lkI yX3_comeBack cX3_comeBack 1 (some .boolean) 0 := ⟨⟨lw_G_t2 (List.mem_of_getElem? (i := 125) rfl) rfl, ini_X3, by decide +kernel, by decide +kernel, by decide +kernel⟩, lw_G_t2 (List.mem_of_getElem? (i := 124) rfl) rfl, lw_G_sel (n := 19) (List.mem_of_getElem? (i := 32) rfl) rfl⟩
theorem lk_X3_putElsewhere : lkI yX3_putElsewhere cX3_putElsewhere 1 (some .boolean) 0 := ⟨⟨lw_G_t2 (List.mem_of_getElem? (i := 129) rfl) rfl, ini_X3, by decide +kernel, by decide +kernel, by decide +kernel⟩, lw_G_t2 (List.mem_of_getElem? (i := 128) rfl) rfl, lw_G_sel (n := 19) (List.mem_of_getElem? (i := 33) rfl) rfl⟩
theorem lk_X3_goInto : lkI yX3_goInto cX3_goInto 2 (some .boolean) 0 := ⟨⟨lw_G_t2 (List.mem_of_getElem? (i := 133) rfl) rfl, ini_X3, by decide +kernel, by decide +kernel, by decide +kernel⟩, lw_G_t2 (List.mem_of_getElem? (i := 132) rfl) rfl, lw_G_sel (n := 19) (List.mem_of_getElem? (i := 34) rfl) rfl⟩
theorem lk_X4_isBag : lkI yX4_isBag cX4_isBag 2 (some .boolean) 1 := ⟨⟨lw_G_t2 (List.mem_of_getElem? (i := 137) rfl) rfl, ini_X4, by decide +kernel, by decide +kernel, by decide +kernel⟩, lw_G_t2 (List.mem_of_getElem? (i := 136) rfl) rfl, lw_G_sel (n := 8) (List.mem_of_getElem? (i := 35) rfl) rfl⟩
theorem lk_X3_deepestIn : lkI yX3_deepestIn cX3_deepestIn 4 (some .int) 1 := ⟨⟨lw_G_t2 (List.mem_of_getElem? (i := 142) rfl) rfl, ini_X3, by decide +kernel, by decide +kernel, by decide +kernel⟩, lw_G_t2 (List.mem_of_getElem? (i := 141) rfl) rfl, lw_G_sel (n := 19) (List.mem_of_getElem? (i := 36) rfl) rfl⟩
theorem lk_X3_stepsUpTo : lkI yX3_stepsUpTo cX3_stepsUpTo 5 (some .int) 2 := ⟨⟨lw_G_t2 (List.mem_of_getElem? (i := 146) rfl) rfl, ini_X3, by decide +kernel, by decide +kernel, by decide +kernel⟩, lw_G_t2 (List.mem_of_getElem? (i := 145) rfl) rfl, lw_G_sel (n := 19) (List.mem_of_getElem? (i := 37) rfl) rfl⟩
theorem lk_X3_bagAround : lkI yX3_bagAround cX3_bagAround 2 (some .int) 1 := ⟨⟨lw_G_t2 (List.mem_of_getElem? (i := 150) rfl) rfl, ini_X3, by decide +kernel, by decide +kernel, by decide +kernel⟩, lw_G_t2 (List.mem_of_getElem? (i := 149) rfl) rfl, lw_G_sel (n := 19) (List.mem_of_getElem? (i := 38) rfl) rfl⟩
theorem lk_J9_max_7cf53 : lkG yJ9_max_7cf53 cJ9_max_7cf53 2 (some .int) 2 := ⟨lw_G_t2 (List.mem_of_getElem? (i := 153) rfl) rfl, ini_J9, by decide +kernel, by decide +kernel, by decide +kernel⟩
theorem sy_J9_max_7cf53 : Cond.static yJ9_max_7cf53 ∈ lw_G := lw_G_t2 (List.mem_of_getElem? (i := 152) rfl) rfl
theorem lk_X3_comeFrom : lkI yX3_comeFrom cX3_comeFrom 2 (some .boolean) 0 := ⟨⟨lw_G_t2 (List.mem_of_getElem? (i := 157) rfl) rfl, ini_X3, by decide +kernel, by decide +kernel, by decide +kernel⟩, lw_G_t2 (List.mem_of_getElem? (i := 156) rfl) rfl, lw_G_sel (n := 19) (List.mem_of_getElem? (i := 39) rfl) rfl⟩
theorem lk_X3_close : lkI yX3_close cX3_close 1 (some .boolean) 0 := ⟨⟨lw_G_t2 (List.mem_of_getElem? (i := 161) rfl) rfl, ini_X3, by decide +kernel, by decide +kernel, by decide +kernel⟩, lw_G_t2 (List.mem_of_getElem? (i := 160) rfl) rfl, lw_G_sel (n := 19) (List.mem_of_getElem? (i := 40) rfl) rfl⟩
theorem lk_X4_isGivenOut : lkI yX4_isGivenOut cX4_isGivenOut 2 (some .boolean) 1 := ⟨⟨lw_G_t2 (List.mem_of_getElem? (i := 165) rfl) rfl, ini_X4, by decide +kernel, by decide +kernel, by decide +kernel⟩, lw_G_t2 (List.mem_of_getElem? (i := 164) rfl) rfl, lw_G_sel (n := 8) (List.mem_of_getElem? (i := 41) rfl) rfl⟩
theorem lk_X3_unseal : lkI yX3_unseal cX3_unseal 1 (some .boolean) 0 := ⟨⟨lw_G_t2 (List.mem_of_getElem? (i := 169) rfl) rfl, ini_X3, by decide +kernel, by decide +kernel, by decide +kernel⟩, lw_G_t2 (List.mem_of_getElem? (i := 168) rfl) rfl, lw_G_sel (n := 19) (List.mem_of_getElem? (i := 42) rfl) rfl⟩
theorem lk_X3_look : lkI yX3_look cX3_look 1 (some .boolean) 0 := ⟨⟨lw_G_t2 (List.mem_of_getElem? (i := 173) rfl) rfl, ini_X3, by decide +kernel, by decide +kernel, by decide +kernel⟩, lw_G_t2 (List.mem_of_getElem? (i := 172) rfl) rfl, lw_G_sel (n := 19) (List.mem_of_getElem? (i := 43) rfl) rfl⟩
theorem lk_X3_takePart : lkI yX3_takePart cX3_takePart 1 (some .boolean) 0 := ⟨⟨lw_G_t2 (List.mem_of_getElem? (i := 177) rfl) rfl, ini_X3, by decide +kernel, by decide +kernel, by decide +kernel⟩, lw_G_t2 (List.mem_of_getElem? (i := 176) rfl) rfl, lw_G_sel (n := 19) (List.mem_of_getElem? (i := 44) rfl) rfl⟩
theorem lk_X3_mayBeTaken : lkI yX3_mayBeTaken cX3_mayBeTaken 2 (some .boolean) 1 := ⟨⟨lw_G_t2 (List.mem_of_getElem? (i := 181) rfl) rfl, ini_X3, by decide +kernel, by decide +kernel, by decide +kernel⟩, lw_G_t2 (List.mem_of_getElem? (i := 180) rfl) rfl, lw_G_sel (n := 19) (List.mem_of_getElem? (i := 45) rfl) rfl⟩
theorem lk_X3_isFree : lkI yX3_isFree cX3_isFree 4 (some .boolean) 1 := ⟨⟨lw_G_t2 (List.mem_of_getElem? (i := 185) rfl) rfl, ini_X3, by decide +kernel, by decide +kernel, by decide +kernel⟩, lw_G_t2 (List.mem_of_getElem? (i := 184) rfl) rfl, lw_G_sel (n := 19) (List.mem_of_getElem? (i := 46) rfl) rfl⟩
theorem lk_X3_bringToHand : lkI yX3_bringToHand cX3_bringToHand 1 none 0 := ⟨⟨lw_G_t2 (List.mem_of_getElem? (i := 189) rfl) rfl, ini_X3, by decide +kernel, by decide +kernel, by decide +kernel⟩, lw_G_t2 (List.mem_of_getElem? (i := 188) rfl) rfl, lw_G_sel (n := 19) (List.mem_of_getElem? (i := 47) rfl) rfl⟩
theorem lk_X3_takeCopy : lkI yX3_takeCopy cX3_takeCopy 1 (some .boolean) 0 := ⟨⟨lw_G_t2 (List.mem_of_getElem? (i := 193) rfl) rfl, ini_X3, by decide +kernel, by decide +kernel, by decide +kernel⟩, lw_G_t2 (List.mem_of_getElem? (i := 192) rfl) rfl, lw_G_sel (n := 19) (List.mem_of_getElem? (i := 48) rfl) rfl⟩
theorem lk_X3_weigh : lkI yX3_weigh cX3_weigh 1 (some .boolean) 0 := ⟨⟨lw_G_t2 (List.mem_of_getElem? (i := 197) rfl) rfl, ini_X3, by decide +kernel, by decide +kernel, by decide +kernel⟩, lw_G_t2 (List.mem_of_getElem? (i := 196) rfl) rfl, lw_G_sel (n := 19) (List.mem_of_getElem? (i := 49) rfl) rfl⟩
theorem lk_X3_keep : lkI yX3_keep cX3_keep 1 (some .boolean) 0 := ⟨⟨lw_G_t2 (List.mem_of_getElem? (i := 201) rfl) rfl, ini_X3, by decide +kernel, by decide +kernel, by decide +kernel⟩, lw_G_t2 (List.mem_of_getElem? (i := 200) rfl) rfl, lw_G_sel (n := 19) (List.mem_of_getElem? (i := 50) rfl) rfl⟩
theorem lk_X3_doom : lkI yX3_doom cX3_doom 1 (some .boolean) 0 := ⟨⟨lw_G_t2 (List.mem_of_getElem? (i := 205) rfl) rfl, ini_X3, by decide +kernel, by decide +kernel, by decide +kernel⟩, lw_G_t2 (List.mem_of_getElem? (i := 204) rfl) rfl, lw_G_sel (n := 19) (List.mem_of_getElem? (i := 51) rfl) rfl⟩
theorem lk_X3_beginTrial : lkI yX3_beginTrial cX3_beginTrial 1 (some .boolean) 0 := ⟨⟨lw_G_t2 (List.mem_of_getElem? (i := 209) rfl) rfl, ini_X3, by decide +kernel, by decide +kernel, by decide +kernel⟩, lw_G_t2 (List.mem_of_getElem? (i := 208) rfl) rfl, lw_G_sel (n := 19) (List.mem_of_getElem? (i := 52) rfl) rfl⟩
theorem lk_X3_goesOn : lkI yX3_goesOn cX3_goesOn 1 (some .boolean) 0 := ⟨⟨lw_G_t2 (List.mem_of_getElem? (i := 213) rfl) rfl, ini_X3, by decide +kernel, by decide +kernel, by decide +kernel⟩, lw_G_t2 (List.mem_of_getElem? (i := 212) rfl) rfl, lw_G_sel (n := 19) (List.mem_of_getElem? (i := 53) rfl) rfl⟩
theorem lk_X3_endTrial : lkI yX3_endTrial cX3_endTrial 1 (some .boolean) 0 := ⟨⟨lw_G_t2 (List.mem_of_getElem? (i := 217) rfl) rfl, ini_X3, by decide +kernel, by decide +kernel, by decide +kernel⟩, lw_G_t2 (List.mem_of_getElem? (i := 216) rfl) rfl, lw_G_sel (n := 19) (List.mem_of_getElem? (i := 54) rfl) rfl⟩
theorem lk_X3_destroy : lkI yX3_destroy cX3_destroy 1 (some .boolean) 0 := ⟨⟨lw_G_t2 (List.mem_of_getElem? (i := 221) rfl) rfl, ini_X3, by decide +kernel, by decide +kernel, by decide +kernel⟩, lw_G_t2 (List.mem_of_getElem? (i := 220) rfl) rfl, lw_G_sel (n := 19) (List.mem_of_getElem? (i := 55) rfl) rfl⟩
theorem lk_X3_isAnyOfItInHand : lkI yX3_isAnyOfItInHand cX3_isAnyOfItInHand 2 (some .boolean) 0 := ⟨⟨lw_G_t2 (List.mem_of_getElem? (i := 225) rfl) rfl, ini_X3, by decide +kernel, by decide +kernel, by decide +kernel⟩, lw_G_t2 (List.mem_of_getElem? (i := 224) rfl) rfl, lw_G_sel (n := 19) (List.mem_of_getElem? (i := 56) rfl) rfl⟩
theorem lk_X3_isOf : lkI yX3_isOf cX3_isOf 5 (some .boolean) 2 := ⟨⟨lw_G_t2 (List.mem_of_getElem? (i := 229) rfl) rfl, ini_X3, by decide +kernel, by decide +kernel, by decide +kernel⟩, lw_G_t2 (List.mem_of_getElem? (i := 228) rfl) rfl, lw_G_sel (n := 19) (List.mem_of_getElem? (i := 57) rfl) rfl⟩
theorem lk_X3_find : lkI yX3_find cX3_find 1 (some .boolean) 0 := ⟨⟨lw_G_t2 (List.mem_of_getElem? (i := 233) rfl) rfl, ini_X3, by decide +kernel, by decide +kernel, by decide +kernel⟩, lw_G_t2 (List.mem_of_getElem? (i := 232) rfl) rfl, lw_G_sel (n := 19) (List.mem_of_getElem? (i := 58) rfl) rfl⟩
theorem lk_X2_dropLast : lkI yX2_dropLast cX2_dropLast 3 none 0 := ⟨⟨lw_G_t2 (List.mem_of_getElem? (i := 237) rfl) rfl, ini_X2, by decide +kernel, by decide +kernel, by decide +kernel⟩, lw_G_t2 (List.mem_of_getElem? (i := 236) rfl) rfl, lw_G_sel (n := 3) (List.mem_of_getElem? (i := 59) rfl) rfl⟩
theorem lk_X5_fault : lkI yX5_fault cX5_fault 2 (some .int) 1 := ⟨⟨lw_G_t3 (List.mem_of_getElem? (i := 1) rfl) rfl, ini_X5, by decide +kernel, by decide +kernel, by decide +kernel⟩, lw_G_t2 (List.mem_of_getElem? (i := 239) rfl) rfl, lw_G_t3 (List.mem_of_getElem? (i := 0) rfl) rfl⟩
theorem lk_X5_handing : lkI yX5_handing cX5_handing 5 (some .int) 4 := ⟨⟨lw_G_t3 (List.mem_of_getElem? (i := 5) rfl) rfl, ini_X5, by decide +kernel, by decide +kernel, by decide +kernel⟩, lw_G_t3 (List.mem_of_getElem? (i := 3) rfl) rfl, lw_G_t3 (List.mem_of_getElem? (i := 4) rfl) rfl⟩
theorem lk_X0_init : lkG yX0_init cX0_init 5 none 4 := ⟨lw_G_t3 (List.mem_of_getElem? (i := 10) rfl) rfl, ini_X0, by decide +kernel, by decide +kernel, by decide +kernel⟩
theorem im_X0_init : Cond.instanceMethod yX0_init ∈ lw_G := lw_G_t3 (List.mem_of_getElem? (i := 9) rfl) rfl
theorem lk_X5_yes : lkI yX5_yes cX5_yes 7 (some .int) 3 := ⟨⟨lw_G_t3 (List.mem_of_getElem? (i := 42) rfl) rfl, ini_X5, by decide +kernel, by decide +kernel, by decide +kernel⟩, lw_G_t3 (List.mem_of_getElem? (i := 40) rfl) rfl, lw_G_t3 (List.mem_of_getElem? (i := 41) rfl) rfl⟩
theorem lk_X5_findHanding : lkI yX5_findHanding cX5_findHanding 2 (some (.object "CustodyRoom$Handing")) 1 := ⟨⟨lw_G_t3 (List.mem_of_getElem? (i := 46) rfl) rfl, ini_X5, by decide +kernel, by decide +kernel, by decide +kernel⟩, lw_G_t3 (List.mem_of_getElem? (i := 45) rfl) rfl, lw_G_sel (n := 12) (List.mem_of_getElem? (i := 60) rfl) rfl⟩
theorem lk_X0_awaits : lkI yX0_awaits cX0_awaits 2 (some .boolean) 1 := ⟨⟨lw_G_t3 (List.mem_of_getElem? (i := 50) rfl) rfl, ini_X0, by decide +kernel, by decide +kernel, by decide +kernel⟩, lw_G_t3 (List.mem_of_getElem? (i := 49) rfl) rfl, lw_G_sel (n := 7) (List.mem_of_getElem? (i := 61) rfl) rfl⟩
theorem lk_X0_setYes : lkI yX0_setYes cX0_setYes 3 none 2 := ⟨⟨lw_G_t3 (List.mem_of_getElem? (i := 54) rfl) rfl, ini_X0, by decide +kernel, by decide +kernel, by decide +kernel⟩, lw_G_t3 (List.mem_of_getElem? (i := 53) rfl) rfl, lw_G_sel (n := 7) (List.mem_of_getElem? (i := 62) rfl) rfl⟩
theorem lk_X0_isAgreed : lkI yX0_isAgreed cX0_isAgreed 1 (some .boolean) 0 := ⟨⟨lw_G_t3 (List.mem_of_getElem? (i := 58) rfl) rfl, ini_X0, by decide +kernel, by decide +kernel, by decide +kernel⟩, lw_G_t3 (List.mem_of_getElem? (i := 57) rfl) rfl, lw_G_sel (n := 7) (List.mem_of_getElem? (i := 63) rfl) rfl⟩
theorem lk_X0_isLate : lkI yX0_isLate cX0_isLate 1 (some .boolean) 0 := ⟨⟨lw_G_t3 (List.mem_of_getElem? (i := 62) rfl) rfl, ini_X0, by decide +kernel, by decide +kernel, by decide +kernel⟩, lw_G_t3 (List.mem_of_getElem? (i := 61) rfl) rfl, lw_G_sel (n := 7) (List.mem_of_getElem? (i := 64) rfl) rfl⟩
theorem lk_X0_laterYes : lkI yX0_laterYes cX0_laterYes 1 (some .int) 0 := ⟨⟨lw_G_t3 (List.mem_of_getElem? (i := 66) rfl) rfl, ini_X0, by decide +kernel, by decide +kernel, by decide +kernel⟩, lw_G_t3 (List.mem_of_getElem? (i := 65) rfl) rfl, lw_G_sel (n := 7) (List.mem_of_getElem? (i := 65) rfl) rfl⟩
theorem lk_X5_no : lkI yX5_no cX5_no 4 (some .boolean) 2 := ⟨⟨lw_G_t3 (List.mem_of_getElem? (i := 72) rfl) rfl, ini_X5, by decide +kernel, by decide +kernel, by decide +kernel⟩, lw_G_t3 (List.mem_of_getElem? (i := 70) rfl) rfl, lw_G_t3 (List.mem_of_getElem? (i := 71) rfl) rfl⟩
theorem lk_X0_isBetween : lkI yX0_isBetween cX0_isBetween 2 (some .boolean) 1 := ⟨⟨lw_G_t3 (List.mem_of_getElem? (i := 76) rfl) rfl, ini_X0, by decide +kernel, by decide +kernel, by decide +kernel⟩, lw_G_t3 (List.mem_of_getElem? (i := 75) rfl) rfl, lw_G_sel (n := 7) (List.mem_of_getElem? (i := 66) rfl) rfl⟩
theorem lk_X5_about : lkI yX5_about cX5_about 2 (some .int) 1 := ⟨⟨lw_G_t3 (List.mem_of_getElem? (i := 80) rfl) rfl, ini_X5, by decide +kernel, by decide +kernel, by decide +kernel⟩, lw_G_t3 (List.mem_of_getElem? (i := 78) rfl) rfl, lw_G_t3 (List.mem_of_getElem? (i := 79) rfl) rfl⟩
theorem lk_X5_slipOf : lkI yX5_slipOf cX5_slipOf 3 (some .int) 2 := ⟨⟨lw_G_t3 (List.mem_of_getElem? (i := 84) rfl) rfl, ini_X5, by decide +kernel, by decide +kernel, by decide +kernel⟩, lw_G_t3 (List.mem_of_getElem? (i := 82) rfl) rfl, lw_G_t3 (List.mem_of_getElem? (i := 83) rfl) rfl⟩
theorem lk_X2_isLate : lkI yX2_isLate cX2_isLate 3 (some .boolean) 1 := ⟨⟨lw_G_t3 (List.mem_of_getElem? (i := 89) rfl) rfl, ini_X2, by decide +kernel, by decide +kernel, by decide +kernel⟩, lw_G_t3 (List.mem_of_getElem? (i := 88) rfl) rfl, lw_G_sel (n := 3) (List.mem_of_getElem? (i := 67) rfl) rfl⟩
theorem lk_X5_where : lkI yX5_where cX5_where 5 (some .int) 4 := ⟨⟨lw_G_t3 (List.mem_of_getElem? (i := 94) rfl) rfl, ini_X5, by decide +kernel, by decide +kernel, by decide +kernel⟩, lw_G_t3 (List.mem_of_getElem? (i := 92) rfl) rfl, lw_G_t3 (List.mem_of_getElem? (i := 93) rfl) rfl⟩
theorem lk_X3_tellKnown : lkI yX3_tellKnown cX3_tellKnown 6 none 3 := ⟨⟨lw_G_t3 (List.mem_of_getElem? (i := 98) rfl) rfl, ini_X3, by decide +kernel, by decide +kernel, by decide +kernel⟩, lw_G_t3 (List.mem_of_getElem? (i := 97) rfl) rfl, lw_G_sel (n := 19) (List.mem_of_getElem? (i := 68) rfl) rfl⟩
theorem lk_X3_answer : lkI yX3_answer cX3_answer 3 (some .int) 2 := ⟨⟨lw_G_t3 (List.mem_of_getElem? (i := 102) rfl) rfl, ini_X3, by decide +kernel, by decide +kernel, by decide +kernel⟩, lw_G_t3 (List.mem_of_getElem? (i := 101) rfl) rfl, lw_G_sel (n := 19) (List.mem_of_getElem? (i := 69) rfl) rfl⟩
theorem lk_X3_outermost : lkI yX3_outermost cX3_outermost 5 (some .int) 1 := ⟨⟨lw_G_t3 (List.mem_of_getElem? (i := 106) rfl) rfl, ini_X3, by decide +kernel, by decide +kernel, by decide +kernel⟩, lw_G_t3 (List.mem_of_getElem? (i := 105) rfl) rfl, lw_G_sel (n := 19) (List.mem_of_getElem? (i := 70) rfl) rfl⟩
theorem lk_J6_bitCount_0f7a4 : lkG yJ6_bitCount_0f7a4 cJ6_bitCount_0f7a4 1 (some .int) 1 := ⟨lw_G_t3 (List.mem_of_getElem? (i := 109) rfl) rfl, ini_J6, by decide +kernel, by decide +kernel, by decide +kernel⟩
theorem sy_J6_bitCount_0f7a4 : Cond.static yJ6_bitCount_0f7a4 ∈ lw_G := lw_G_t3 (List.mem_of_getElem? (i := 108) rfl) rfl
theorem lk_X5_chain : lkI yX5_chain cX5_chain 3 (some .int) 2 := ⟨⟨lw_G_t3 (List.mem_of_getElem? (i := 116) rfl) rfl, ini_X5, by decide +kernel, by decide +kernel, by decide +kernel⟩, lw_G_t3 (List.mem_of_getElem? (i := 114) rfl) rfl, lw_G_t3 (List.mem_of_getElem? (i := 115) rfl) rfl⟩
theorem lk_X1_follow : lkI yX1_follow cX1_follow 5 none 1 := ⟨⟨lw_G_t3 (List.mem_of_getElem? (i := 120) rfl) rfl, ini_X1, by decide +kernel, by decide +kernel, by decide +kernel⟩, lw_G_t3 (List.mem_of_getElem? (i := 119) rfl) rfl, lw_G_sel (n := 3) (List.mem_of_getElem? (i := 71) rfl) rfl⟩
theorem lk_X2_isBirth : lkI yX2_isBirth cX2_isBirth 4 (some .boolean) 2 := ⟨⟨lw_G_t3 (List.mem_of_getElem? (i := 125) rfl) rfl, ini_X2, by decide +kernel, by decide +kernel, by decide +kernel⟩, lw_G_t3 (List.mem_of_getElem? (i := 124) rfl) rfl, lw_G_sel (n := 3) (List.mem_of_getElem? (i := 72) rfl) rfl⟩
theorem lk_X1_append : lkI yX1_append cX1_append 2 none 1 := ⟨⟨lw_G_t3 (List.mem_of_getElem? (i := 129) rfl) rfl, ini_X1, by decide +kernel, by decide +kernel, by decide +kernel⟩, lw_G_t3 (List.mem_of_getElem? (i := 128) rfl) rfl, lw_G_sel (n := 3) (List.mem_of_getElem? (i := 73) rfl) rfl⟩
theorem lk_X2_isMoveOf : lkI yX2_isMoveOf cX2_isMoveOf 5 (some .boolean) 2 := ⟨⟨lw_G_t3 (List.mem_of_getElem? (i := 134) rfl) rfl, ini_X2, by decide +kernel, by decide +kernel, by decide +kernel⟩, lw_G_t3 (List.mem_of_getElem? (i := 133) rfl) rfl, lw_G_sel (n := 3) (List.mem_of_getElem? (i := 74) rfl) rfl⟩
theorem lk_X1_link : lkI yX1_link cX1_link 2 (some .int) 1 := ⟨⟨lw_G_t3 (List.mem_of_getElem? (i := 138) rfl) rfl, ini_X1, by decide +kernel, by decide +kernel, by decide +kernel⟩, lw_G_t3 (List.mem_of_getElem? (i := 137) rfl) rfl, lw_G_sel (n := 3) (List.mem_of_getElem? (i := 75) rfl) rfl⟩
theorem lk_X5_gap : lkI yX5_gap cX5_gap 7 (some .int) 3 := ⟨⟨lw_G_t3 (List.mem_of_getElem? (i := 142) rfl) rfl, ini_X5, by decide +kernel, by decide +kernel, by decide +kernel⟩, lw_G_t3 (List.mem_of_getElem? (i := 140) rfl) rfl, lw_G_t3 (List.mem_of_getElem? (i := 141) rfl) rfl⟩
theorem lk_X1_endOfGap : lkI yX1_endOfGap cX1_endOfGap 4 (some .int) 1 := ⟨⟨lw_G_t3 (List.mem_of_getElem? (i := 146) rfl) rfl, ini_X1, by decide +kernel, by decide +kernel, by decide +kernel⟩, lw_G_t3 (List.mem_of_getElem? (i := 145) rfl) rfl, lw_G_sel (n := 3) (List.mem_of_getElem? (i := 76) rfl) rfl⟩
theorem lk_X5_breaks : lkI yX5_breaks cX5_breaks 2 (some .int) 1 := ⟨⟨lw_G_t3 (List.mem_of_getElem? (i := 151) rfl) rfl, ini_X5, by decide +kernel, by decide +kernel, by decide +kernel⟩, lw_G_t3 (List.mem_of_getElem? (i := 149) rfl) rfl, lw_G_t3 (List.mem_of_getElem? (i := 150) rfl) rfl⟩
theorem lk_X2_firstBreak : lkI yX2_firstBreak cX2_firstBreak 7 (some .int) 1 := ⟨⟨lw_G_t3 (List.mem_of_getElem? (i := 156) rfl) rfl, ini_X2, by decide +kernel, by decide +kernel, by decide +kernel⟩, lw_G_t3 (List.mem_of_getElem? (i := 155) rfl) rfl, lw_G_sel (n := 3) (List.mem_of_getElem? (i := 77) rfl) rfl⟩
theorem lk_X5_due : lkI yX5_due cX5_due 3 (some .int) 2 := ⟨⟨lw_G_t3 (List.mem_of_getElem? (i := 160) rfl) rfl, ini_X5, by decide +kernel, by decide +kernel, by decide +kernel⟩, lw_G_t3 (List.mem_of_getElem? (i := 158) rfl) rfl, lw_G_t3 (List.mem_of_getElem? (i := 159) rfl) rfl⟩
theorem lk_X3_thingOfDay : lkI yX3_thingOfDay cX3_thingOfDay 5 (some .int) 2 := ⟨⟨lw_G_t3 (List.mem_of_getElem? (i := 164) rfl) rfl, ini_X3, by decide +kernel, by decide +kernel, by decide +kernel⟩, lw_G_t3 (List.mem_of_getElem? (i := 163) rfl) rfl, lw_G_sel (n := 19) (List.mem_of_getElem? (i := 78) rfl) rfl⟩
theorem lk_X5_freeze : lkI yX5_freeze cX5_freeze 1 (some .int) 0 := ⟨⟨lw_G_t3 (List.mem_of_getElem? (i := 168) rfl) rfl, ini_X5, by decide +kernel, by decide +kernel, by decide +kernel⟩, lw_G_t3 (List.mem_of_getElem? (i := 166) rfl) rfl, lw_G_t3 (List.mem_of_getElem? (i := 167) rfl) rfl⟩
theorem lk_X2_copyFrom : lkI yX2_copyFrom cX2_copyFrom 2 none 1 := ⟨⟨lw_G_t3 (List.mem_of_getElem? (i := 172) rfl) rfl, ini_X2, by decide +kernel, by decide +kernel, by decide +kernel⟩, lw_G_t3 (List.mem_of_getElem? (i := 171) rfl) rfl, lw_G_sel (n := 3) (List.mem_of_getElem? (i := 79) rfl) rfl⟩
theorem lk_X5_alter : lkI yX5_alter cX5_alter 4 (some .boolean) 3 := ⟨⟨lw_G_t3 (List.mem_of_getElem? (i := 176) rfl) rfl, ini_X5, by decide +kernel, by decide +kernel, by decide +kernel⟩, lw_G_t3 (List.mem_of_getElem? (i := 174) rfl) rfl, lw_G_t3 (List.mem_of_getElem? (i := 175) rfl) rfl⟩
theorem lk_X2_alterCell : lkI yX2_alterCell cX2_alterCell 5 none 3 := ⟨⟨lw_G_t3 (List.mem_of_getElem? (i := 180) rfl) rfl, ini_X2, by decide +kernel, by decide +kernel, by decide +kernel⟩, lw_G_t3 (List.mem_of_getElem? (i := 179) rfl) rfl, lw_G_sel (n := 3) (List.mem_of_getElem? (i := 80) rfl) rfl⟩
theorem lk_X5_check : lkI yX5_check cX5_check 1 (some .int) 0 := ⟨⟨lw_G_t3 (List.mem_of_getElem? (i := 184) rfl) rfl, ini_X5, by decide +kernel, by decide +kernel, by decide +kernel⟩, lw_G_t3 (List.mem_of_getElem? (i := 182) rfl) rfl, lw_G_t3 (List.mem_of_getElem? (i := 183) rfl) rfl⟩
theorem lk_X5_thaw : lkI yX5_thaw cX5_thaw 1 (some .boolean) 0 := ⟨⟨lw_G_t3 (List.mem_of_getElem? (i := 188) rfl) rfl, ini_X5, by decide +kernel, by decide +kernel, by decide +kernel⟩, lw_G_t3 (List.mem_of_getElem? (i := 186) rfl) rfl, lw_G_t3 (List.mem_of_getElem? (i := 187) rfl) rfl⟩
theorem lk_X6_init : lkG yX6_init cX6_init 2 none 0 := ⟨lw_G_t3 (List.mem_of_getElem? (i := 193) rfl) rfl, ini_X6, by decide +kernel, by decide +kernel, by decide +kernel⟩
theorem im_X6_init : Cond.instanceMethod yX6_init ∈ lw_G := lw_G_t3 (List.mem_of_getElem? (i := 192) rfl) rfl
theorem lk_X6_begin : lkI yX6_begin cX6_begin 2 none 0 := ⟨⟨lw_G_t3 (List.mem_of_getElem? (i := 198) rfl) rfl, ini_X6, by decide +kernel, by decide +kernel, by decide +kernel⟩, lw_G_t3 (List.mem_of_getElem? (i := 197) rfl) rfl, lw_G_sel (n := 33) (List.mem_of_getElem? (i := 81) rfl) rfl⟩
theorem lk_X6_hand : lkI yX6_hand cX6_hand 2 (some .int) 1 := ⟨⟨lw_G_t4 (List.mem_of_getElem? (i := 62) rfl) rfl, ini_X6, by decide +kernel, by decide +kernel, by decide +kernel⟩, lw_G_t4 (List.mem_of_getElem? (i := 60) rfl) rfl, lw_G_t4 (List.mem_of_getElem? (i := 61) rfl) rfl⟩
theorem lk_X6_shelf : lkI yX6_shelf cX6_shelf 2 (some .int) 1 := ⟨⟨lw_G_t4 (List.mem_of_getElem? (i := 66) rfl) rfl, ini_X6, by decide +kernel, by decide +kernel, by decide +kernel⟩, lw_G_t4 (List.mem_of_getElem? (i := 64) rfl) rfl, lw_G_t4 (List.mem_of_getElem? (i := 65) rfl) rfl⟩
theorem lk_X6_seals : lkI yX6_seals cX6_seals 4 (some .boolean) 2 := ⟨⟨lw_G_t4 (List.mem_of_getElem? (i := 70) rfl) rfl, ini_X6, by decide +kernel, by decide +kernel, by decide +kernel⟩, lw_G_t4 (List.mem_of_getElem? (i := 68) rfl) rfl, lw_G_t4 (List.mem_of_getElem? (i := 69) rfl) rfl⟩
theorem lk_X6_isIn : lkG yX6_isIn cX6_isIn 3 (some .boolean) 3 := ⟨lw_G_t4 (List.mem_of_getElem? (i := 73) rfl) rfl, ini_X6, by decide +kernel, by decide +kernel, by decide +kernel⟩
theorem sy_X6_isIn : Cond.static yX6_isIn ∈ lw_G := lw_G_t4 (List.mem_of_getElem? (i := 72) rfl) rfl
theorem lk_X6_thing : lkI yX6_thing cX6_thing 3 (some .int) 2 := ⟨⟨lw_G_t4 (List.mem_of_getElem? (i := 77) rfl) rfl, ini_X6, by decide +kernel, by decide +kernel, by decide +kernel⟩, lw_G_t4 (List.mem_of_getElem? (i := 75) rfl) rfl, lw_G_t4 (List.mem_of_getElem? (i := 76) rfl) rfl⟩
theorem lk_X6_pass : lkI yX6_pass cX6_pass 2 (some .int) 1 := ⟨⟨lw_G_t4 (List.mem_of_getElem? (i := 82) rfl) rfl, ini_X6, by decide +kernel, by decide +kernel, by decide +kernel⟩, lw_G_t4 (List.mem_of_getElem? (i := 80) rfl) rfl, lw_G_t4 (List.mem_of_getElem? (i := 81) rfl) rfl⟩
theorem lk_X6_slip : lkI yX6_slip cX6_slip 8 (some .int) 7 := ⟨⟨lw_G_t4 (List.mem_of_getElem? (i := 88) rfl) rfl, ini_X6, by decide +kernel, by decide +kernel, by decide +kernel⟩, lw_G_t4 (List.mem_of_getElem? (i := 86) rfl) rfl, lw_G_t4 (List.mem_of_getElem? (i := 87) rfl) rfl⟩
theorem lk_X6_written : lkI yX6_written cX6_written 9 (some .int) 7 := ⟨⟨lw_G_t4 (List.mem_of_getElem? (i := 92) rfl) rfl, ini_X6, by decide +kernel, by decide +kernel, by decide +kernel⟩, lw_G_t4 (List.mem_of_getElem? (i := 91) rfl) rfl, lw_G_sel (n := 33) (List.mem_of_getElem? (i := 82) rfl) rfl⟩
theorem lk_X6_firstWrong : lkI yX6_firstWrong cX6_firstWrong 4 (some .int) 2 := ⟨⟨lw_G_t4 (List.mem_of_getElem? (i := 96) rfl) rfl, ini_X6, by decide +kernel, by decide +kernel, by decide +kernel⟩, lw_G_t4 (List.mem_of_getElem? (i := 95) rfl) rfl, lw_G_sel (n := 33) (List.mem_of_getElem? (i := 83) rfl) rfl⟩
theorem lk_X6_sort : lkI yX6_sort cX6_sort 5 none 2 := ⟨⟨lw_G_t4 (List.mem_of_getElem? (i := 100) rfl) rfl, ini_X6, by decide +kernel, by decide +kernel, by decide +kernel⟩, lw_G_t4 (List.mem_of_getElem? (i := 99) rfl) rfl, lw_G_sel (n := 33) (List.mem_of_getElem? (i := 84) rfl) rfl⟩
theorem lk_X6_isSlip : lkI yX6_isSlip cX6_isSlip 3 (some .boolean) 2 := ⟨⟨lw_G_t4 (List.mem_of_getElem? (i := 104) rfl) rfl, ini_X6, by decide +kernel, by decide +kernel, by decide +kernel⟩, lw_G_t4 (List.mem_of_getElem? (i := 103) rfl) rfl, lw_G_sel (n := 33) (List.mem_of_getElem? (i := 85) rfl) rfl⟩
theorem lk_X6_isDone : lkI yX6_isDone cX6_isDone 9 (some .boolean) 2 := ⟨⟨lw_G_t4 (List.mem_of_getElem? (i := 108) rfl) rfl, ini_X6, by decide +kernel, by decide +kernel, by decide +kernel⟩, lw_G_t4 (List.mem_of_getElem? (i := 107) rfl) rfl, lw_G_sel (n := 33) (List.mem_of_getElem? (i := 86) rfl) rfl⟩
theorem lk_X6_comesIn : lkI yX6_comesIn cX6_comesIn 6 (some .boolean) 5 := ⟨⟨lw_G_t4 (List.mem_of_getElem? (i := 112) rfl) rfl, ini_X6, by decide +kernel, by decide +kernel, by decide +kernel⟩, lw_G_t4 (List.mem_of_getElem? (i := 111) rfl) rfl, lw_G_sel (n := 33) (List.mem_of_getElem? (i := 87) rfl) rfl⟩
theorem lk_X6_hasKeepers : lkI yX6_hasKeepers cX6_hasKeepers 4 (some .boolean) 3 := ⟨⟨lw_G_t4 (List.mem_of_getElem? (i := 116) rfl) rfl, ini_X6, by decide +kernel, by decide +kernel, by decide +kernel⟩, lw_G_t4 (List.mem_of_getElem? (i := 115) rfl) rfl, lw_G_sel (n := 33) (List.mem_of_getElem? (i := 88) rfl) rfl⟩
theorem lk_X6_isKeeper : lkI yX6_isKeeper cX6_isKeeper 2 (some .boolean) 1 := ⟨⟨lw_G_t4 (List.mem_of_getElem? (i := 120) rfl) rfl, ini_X6, by decide +kernel, by decide +kernel, by decide +kernel⟩, lw_G_t4 (List.mem_of_getElem? (i := 119) rfl) rfl, lw_G_sel (n := 33) (List.mem_of_getElem? (i := 89) rfl) rfl⟩
theorem lk_X6_isHand : lkI yX6_isHand cX6_isHand 2 (some .boolean) 1 := ⟨⟨lw_G_t4 (List.mem_of_getElem? (i := 124) rfl) rfl, ini_X6, by decide +kernel, by decide +kernel, by decide +kernel⟩, lw_G_t4 (List.mem_of_getElem? (i := 123) rfl) rfl, lw_G_sel (n := 33) (List.mem_of_getElem? (i := 90) rfl) rfl⟩
theorem lk_X6_fits : lkI yX6_fits cX6_fits 3 (some .boolean) 2 := ⟨⟨lw_G_t4 (List.mem_of_getElem? (i := 128) rfl) rfl, ini_X6, by decide +kernel, by decide +kernel, by decide +kernel⟩, lw_G_t4 (List.mem_of_getElem? (i := 127) rfl) rfl, lw_G_sel (n := 33) (List.mem_of_getElem? (i := 91) rfl) rfl⟩
theorem lk_X6_isEmpty : lkI yX6_isEmpty cX6_isEmpty 3 (some .boolean) 1 := ⟨⟨lw_G_t4 (List.mem_of_getElem? (i := 132) rfl) rfl, ini_X6, by decide +kernel, by decide +kernel, by decide +kernel⟩, lw_G_t4 (List.mem_of_getElem? (i := 131) rfl) rfl, lw_G_sel (n := 33) (List.mem_of_getElem? (i := 92) rfl) rfl⟩
theorem lk_X6_go : lkI yX6_go cX6_go 4 none 3 := ⟨⟨lw_G_t4 (List.mem_of_getElem? (i := 136) rfl) rfl, ini_X6, by decide +kernel, by decide +kernel, by decide +kernel⟩, lw_G_t4 (List.mem_of_getElem? (i := 135) rfl) rfl, lw_G_sel (n := 33) (List.mem_of_getElem? (i := 93) rfl) rfl⟩
theorem lk_X6_isKept : lkI yX6_isKept cX6_isKept 2 (some .boolean) 1 := ⟨⟨lw_G_t4 (List.mem_of_getElem? (i := 140) rfl) rfl, ini_X6, by decide +kernel, by decide +kernel, by decide +kernel⟩, lw_G_t4 (List.mem_of_getElem? (i := 139) rfl) rfl, lw_G_sel (n := 33) (List.mem_of_getElem? (i := 94) rfl) rfl⟩
theorem lk_X6_moves : lkI yX6_moves cX6_moves 9 (some .boolean) 6 := ⟨⟨lw_G_t4 (List.mem_of_getElem? (i := 144) rfl) rfl, ini_X6, by decide +kernel, by decide +kernel, by decide +kernel⟩, lw_G_t4 (List.mem_of_getElem? (i := 143) rfl) rfl, lw_G_sel (n := 33) (List.mem_of_getElem? (i := 95) rfl) rfl⟩
theorem lk_X6_goesInto : lkI yX6_goesInto cX6_goesInto 8 (some .boolean) 4 := ⟨⟨lw_G_t4 (List.mem_of_getElem? (i := 148) rfl) rfl, ini_X6, by decide +kernel, by decide +kernel, by decide +kernel⟩, lw_G_t4 (List.mem_of_getElem? (i := 147) rfl) rfl, lw_G_sel (n := 33) (List.mem_of_getElem? (i := 96) rfl) rfl⟩
theorem lk_X6_isBag : lkI yX6_isBag cX6_isBag 2 (some .boolean) 1 := ⟨⟨lw_G_t4 (List.mem_of_getElem? (i := 152) rfl) rfl, ini_X6, by decide +kernel, by decide +kernel, by decide +kernel⟩, lw_G_t4 (List.mem_of_getElem? (i := 151) rfl) rfl, lw_G_sel (n := 33) (List.mem_of_getElem? (i := 97) rfl) rfl⟩
theorem lk_X6_isWithin : lkI yX6_isWithin cX6_isWithin 4 (some .boolean) 2 := ⟨⟨lw_G_t4 (List.mem_of_getElem? (i := 156) rfl) rfl, ini_X6, by decide +kernel, by decide +kernel, by decide +kernel⟩, lw_G_t4 (List.mem_of_getElem? (i := 155) rfl) rfl, lw_G_sel (n := 33) (List.mem_of_getElem? (i := 98) rfl) rfl⟩
theorem lk_X6_inside : lkI yX6_inside cX6_inside 4 (some .int) 1 := ⟨⟨lw_G_t4 (List.mem_of_getElem? (i := 160) rfl) rfl, ini_X6, by decide +kernel, by decide +kernel, by decide +kernel⟩, lw_G_t4 (List.mem_of_getElem? (i := 159) rfl) rfl, lw_G_sel (n := 33) (List.mem_of_getElem? (i := 99) rfl) rfl⟩
theorem lk_X6_depth : lkI yX6_depth cX6_depth 4 (some .int) 1 := ⟨⟨lw_G_t4 (List.mem_of_getElem? (i := 164) rfl) rfl, ini_X6, by decide +kernel, by decide +kernel, by decide +kernel⟩, lw_G_t4 (List.mem_of_getElem? (i := 163) rfl) rfl, lw_G_sel (n := 33) (List.mem_of_getElem? (i := 100) rfl) rfl⟩
theorem lk_X6_goesFrom : lkI yX6_goesFrom cX6_goesFrom 6 (some .boolean) 4 := ⟨⟨lw_G_t4 (List.mem_of_getElem? (i := 168) rfl) rfl, ini_X6, by decide +kernel, by decide +kernel, by decide +kernel⟩, lw_G_t4 (List.mem_of_getElem? (i := 167) rfl) rfl, lw_G_sel (n := 33) (List.mem_of_getElem? (i := 101) rfl) rfl⟩
theorem lk_X6_isSealing : lkI yX6_isSealing cX6_isSealing 6 (some .boolean) 5 := ⟨⟨lw_G_t4 (List.mem_of_getElem? (i := 172) rfl) rfl, ini_X6, by decide +kernel, by decide +kernel, by decide +kernel⟩, lw_G_t4 (List.mem_of_getElem? (i := 171) rfl) rfl, lw_G_sel (n := 33) (List.mem_of_getElem? (i := 102) rfl) rfl⟩
theorem lk_X6_isSeal : lkI yX6_isSeal cX6_isSeal 2 (some .boolean) 1 := ⟨⟨lw_G_t4 (List.mem_of_getElem? (i := 176) rfl) rfl, ini_X6, by decide +kernel, by decide +kernel, by decide +kernel⟩, lw_G_t4 (List.mem_of_getElem? (i := 175) rfl) rfl, lw_G_sel (n := 33) (List.mem_of_getElem? (i := 103) rfl) rfl⟩
theorem lk_X6_takes : lkI yX6_takes cX6_takes 7 (some .boolean) 6 := ⟨⟨lw_G_t4 (List.mem_of_getElem? (i := 180) rfl) rfl, ini_X6, by decide +kernel, by decide +kernel, by decide +kernel⟩, lw_G_t4 (List.mem_of_getElem? (i := 179) rfl) rfl, lw_G_sel (n := 33) (List.mem_of_getElem? (i := 104) rfl) rfl⟩
theorem lk_X6_isFree : lkI yX6_isFree cX6_isFree 3 (some .boolean) 1 := ⟨⟨lw_G_t4 (List.mem_of_getElem? (i := 184) rfl) rfl, ini_X6, by decide +kernel, by decide +kernel, by decide +kernel⟩, lw_G_t4 (List.mem_of_getElem? (i := 183) rfl) rfl, lw_G_sel (n := 33) (List.mem_of_getElem? (i := 105) rfl) rfl⟩
theorem lk_X6_orders : lkI yX6_orders cX6_orders 4 (some .boolean) 3 := ⟨⟨lw_G_t4 (List.mem_of_getElem? (i := 188) rfl) rfl, ini_X6, by decide +kernel, by decide +kernel, by decide +kernel⟩, lw_G_t4 (List.mem_of_getElem? (i := 187) rfl) rfl, lw_G_sel (n := 33) (List.mem_of_getElem? (i := 106) rfl) rfl⟩
theorem lk_X6_isDestroyed : lkI yX6_isDestroyed cX6_isDestroyed 7 (some .boolean) 5 := ⟨⟨lw_G_t4 (List.mem_of_getElem? (i := 192) rfl) rfl, ini_X6, by decide +kernel, by decide +kernel, by decide +kernel⟩, lw_G_t4 (List.mem_of_getElem? (i := 191) rfl) rfl, lw_G_sel (n := 33) (List.mem_of_getElem? (i := 107) rfl) rfl⟩
theorem lk_X6_isOf : lkI yX6_isOf cX6_isOf 4 (some .boolean) 2 := ⟨⟨lw_G_t4 (List.mem_of_getElem? (i := 196) rfl) rfl, ini_X6, by decide +kernel, by decide +kernel, by decide +kernel⟩, lw_G_t4 (List.mem_of_getElem? (i := 195) rfl) rfl, lw_G_sel (n := 33) (List.mem_of_getElem? (i := 108) rfl) rfl⟩
theorem lk_X6_isFound : lkI yX6_isFound cX6_isFound 4 (some .boolean) 3 := ⟨⟨lw_G_t4 (List.mem_of_getElem? (i := 200) rfl) rfl, ini_X6, by decide +kernel, by decide +kernel, by decide +kernel⟩, lw_G_t4 (List.mem_of_getElem? (i := 199) rfl) rfl, lw_G_sel (n := 33) (List.mem_of_getElem? (i := 109) rfl) rfl⟩
theorem lk_X6_fault : lkI yX6_fault cX6_fault 2 (some .int) 1 := ⟨⟨lw_G_t4 (List.mem_of_getElem? (i := 204) rfl) rfl, ini_X6, by decide +kernel, by decide +kernel, by decide +kernel⟩, lw_G_t4 (List.mem_of_getElem? (i := 202) rfl) rfl, lw_G_t4 (List.mem_of_getElem? (i := 203) rfl) rfl⟩
theorem lk_X6_handing : lkI yX6_handing cX6_handing 6 (some .int) 4 := ⟨⟨lw_G_t4 (List.mem_of_getElem? (i := 208) rfl) rfl, ini_X6, by decide +kernel, by decide +kernel, by decide +kernel⟩, lw_G_t4 (List.mem_of_getElem? (i := 206) rfl) rfl, lw_G_t4 (List.mem_of_getElem? (i := 207) rfl) rfl⟩
theorem lk_X6_yes : lkI yX6_yes cX6_yes 9 (some .int) 3 := ⟨⟨lw_G_t4 (List.mem_of_getElem? (i := 212) rfl) rfl, ini_X6, by decide +kernel, by decide +kernel, by decide +kernel⟩, lw_G_t4 (List.mem_of_getElem? (i := 210) rfl) rfl, lw_G_t4 (List.mem_of_getElem? (i := 211) rfl) rfl⟩
theorem lk_X6_sayer : lkI yX6_sayer cX6_sayer 3 (some .int) 2 := ⟨⟨lw_G_t4 (List.mem_of_getElem? (i := 216) rfl) rfl, ini_X6, by decide +kernel, by decide +kernel, by decide +kernel⟩, lw_G_t4 (List.mem_of_getElem? (i := 215) rfl) rfl, lw_G_sel (n := 33) (List.mem_of_getElem? (i := 110) rfl) rfl⟩
theorem lk_X6_no : lkI yX6_no cX6_no 3 (some .boolean) 2 := ⟨⟨lw_G_t4 (List.mem_of_getElem? (i := 220) rfl) rfl, ini_X6, by decide +kernel, by decide +kernel, by decide +kernel⟩, lw_G_t4 (List.mem_of_getElem? (i := 218) rfl) rfl, lw_G_t4 (List.mem_of_getElem? (i := 219) rfl) rfl⟩
theorem lk_X6_about : lkI yX6_about cX6_about 2 (some .int) 1 := ⟨⟨lw_G_t4 (List.mem_of_getElem? (i := 224) rfl) rfl, ini_X6, by decide +kernel, by decide +kernel, by decide +kernel⟩, lw_G_t4 (List.mem_of_getElem? (i := 222) rfl) rfl, lw_G_t4 (List.mem_of_getElem? (i := 223) rfl) rfl⟩
theorem lk_X6_slipOf : lkI yX6_slipOf cX6_slipOf 4 (some .int) 2 := ⟨⟨lw_G_t4 (List.mem_of_getElem? (i := 228) rfl) rfl, ini_X6, by decide +kernel, by decide +kernel, by decide +kernel⟩, lw_G_t4 (List.mem_of_getElem? (i := 226) rfl) rfl, lw_G_t4 (List.mem_of_getElem? (i := 227) rfl) rfl⟩
theorem lk_X6_where : lkI yX6_where cX6_where 5 (some .int) 4 := ⟨⟨lw_G_t4 (List.mem_of_getElem? (i := 232) rfl) rfl, ini_X6, by decide +kernel, by decide +kernel, by decide +kernel⟩, lw_G_t4 (List.mem_of_getElem? (i := 230) rfl) rfl, lw_G_t4 (List.mem_of_getElem? (i := 231) rfl) rfl⟩
theorem lk_X6_goOver : lkI yX6_goOver cX6_goOver 4 none 2 := ⟨⟨lw_G_t4 (List.mem_of_getElem? (i := 236) rfl) rfl, ini_X6, by decide +kernel, by decide +kernel, by decide +kernel⟩, lw_G_t4 (List.mem_of_getElem? (i := 235) rfl) rfl, lw_G_sel (n := 33) (List.mem_of_getElem? (i := 111) rfl) rfl⟩
theorem lk_X6_outermost : lkI yX6_outermost cX6_outermost 3 (some .int) 1 := ⟨⟨lw_G_t5 (List.mem_of_getElem? (i := 0) rfl) rfl, ini_X6, by decide +kernel, by decide +kernel, by decide +kernel⟩, lw_G_t4 (List.mem_of_getElem? (i := 239) rfl) rfl, lw_G_sel (n := 33) (List.mem_of_getElem? (i := 112) rfl) rfl⟩
theorem lk_X6_bits : lkI yX6_bits cX6_bits 4 (some .int) 1 := ⟨⟨lw_G_t5 (List.mem_of_getElem? (i := 4) rfl) rfl, ini_X6, by decide +kernel, by decide +kernel, by decide +kernel⟩, lw_G_t5 (List.mem_of_getElem? (i := 3) rfl) rfl, lw_G_sel (n := 33) (List.mem_of_getElem? (i := 113) rfl) rfl⟩
theorem lk_X6_chain : lkI yX6_chain cX6_chain 3 (some .int) 2 := ⟨⟨lw_G_t5 (List.mem_of_getElem? (i := 8) rfl) rfl, ini_X6, by decide +kernel, by decide +kernel, by decide +kernel⟩, lw_G_t5 (List.mem_of_getElem? (i := 6) rfl) rfl, lw_G_t5 (List.mem_of_getElem? (i := 7) rfl) rfl⟩
theorem lk_X6_makeChain : lkI yX6_makeChain cX6_makeChain 8 none 1 := ⟨⟨lw_G_t5 (List.mem_of_getElem? (i := 12) rfl) rfl, ini_X6, by decide +kernel, by decide +kernel, by decide +kernel⟩, lw_G_t5 (List.mem_of_getElem? (i := 11) rfl) rfl, lw_G_sel (n := 33) (List.mem_of_getElem? (i := 114) rfl) rfl⟩
theorem lk_X6_cameAt : lkI yX6_cameAt cX6_cameAt 4 (some .int) 1 := ⟨⟨lw_G_t5 (List.mem_of_getElem? (i := 16) rfl) rfl, ini_X6, by decide +kernel, by decide +kernel, by decide +kernel⟩, lw_G_t5 (List.mem_of_getElem? (i := 15) rfl) rfl, lw_G_sel (n := 33) (List.mem_of_getElem? (i := 115) rfl) rfl⟩
theorem lk_X6_put : lkI yX6_put cX6_put 2 none 1 := ⟨⟨lw_G_t5 (List.mem_of_getElem? (i := 20) rfl) rfl, ini_X6, by decide +kernel, by decide +kernel, by decide +kernel⟩, lw_G_t5 (List.mem_of_getElem? (i := 19) rfl) rfl, lw_G_sel (n := 33) (List.mem_of_getElem? (i := 116) rfl) rfl⟩
theorem lk_X6_isMove : lkG yX6_isMove cX6_isMove 1 (some .boolean) 1 := ⟨lw_G_t5 (List.mem_of_getElem? (i := 23) rfl) rfl, ini_X6, by decide +kernel, by decide +kernel, by decide +kernel⟩
theorem sy_X6_isMove : Cond.static yX6_isMove ∈ lw_G := lw_G_t5 (List.mem_of_getElem? (i := 22) rfl) rfl
theorem lk_X6_gap : lkI yX6_gap cX6_gap 6 (some .int) 3 := ⟨⟨lw_G_t5 (List.mem_of_getElem? (i := 27) rfl) rfl, ini_X6, by decide +kernel, by decide +kernel, by decide +kernel⟩, lw_G_t5 (List.mem_of_getElem? (i := 25) rfl) rfl, lw_G_t5 (List.mem_of_getElem? (i := 26) rfl) rfl⟩
theorem lk_X6_breaks : lkI yX6_breaks cX6_breaks 4 (some .int) 1 := ⟨⟨lw_G_t5 (List.mem_of_getElem? (i := 31) rfl) rfl, ini_X6, by decide +kernel, by decide +kernel, by decide +kernel⟩, lw_G_t5 (List.mem_of_getElem? (i := 29) rfl) rfl, lw_G_t5 (List.mem_of_getElem? (i := 30) rfl) rfl⟩
theorem lk_X6_due : lkI yX6_due cX6_due 5 (some .int) 2 := ⟨⟨lw_G_t5 (List.mem_of_getElem? (i := 35) rfl) rfl, ini_X6, by decide +kernel, by decide +kernel, by decide +kernel⟩, lw_G_t5 (List.mem_of_getElem? (i := 33) rfl) rfl, lw_G_t5 (List.mem_of_getElem? (i := 34) rfl) rfl⟩
theorem lk_X6_goOverAll : lkI yX6_goOverAll cX6_goOverAll 1 none 0 := ⟨⟨lw_G_t5 (List.mem_of_getElem? (i := 39) rfl) rfl, ini_X6, by decide +kernel, by decide +kernel, by decide +kernel⟩, lw_G_t5 (List.mem_of_getElem? (i := 38) rfl) rfl, lw_G_sel (n := 33) (List.mem_of_getElem? (i := 117) rfl) rfl⟩
theorem lk_X6_freeze : lkI yX6_freeze cX6_freeze 2 (some .int) 0 := ⟨⟨lw_G_t5 (List.mem_of_getElem? (i := 44) rfl) rfl, ini_X6, by decide +kernel, by decide +kernel, by decide +kernel⟩, lw_G_t5 (List.mem_of_getElem? (i := 42) rfl) rfl, lw_G_t5 (List.mem_of_getElem? (i := 43) rfl) rfl⟩
theorem lk_X6_alter : lkI yX6_alter cX6_alter 4 (some .boolean) 3 := ⟨⟨lw_G_t5 (List.mem_of_getElem? (i := 48) rfl) rfl, ini_X6, by decide +kernel, by decide +kernel, by decide +kernel⟩, lw_G_t5 (List.mem_of_getElem? (i := 46) rfl) rfl, lw_G_t5 (List.mem_of_getElem? (i := 47) rfl) rfl⟩
theorem lk_X6_check : lkI yX6_check cX6_check 1 (some .int) 0 := ⟨⟨lw_G_t5 (List.mem_of_getElem? (i := 52) rfl) rfl, ini_X6, by decide +kernel, by decide +kernel, by decide +kernel⟩, lw_G_t5 (List.mem_of_getElem? (i := 50) rfl) rfl, lw_G_t5 (List.mem_of_getElem? (i := 51) rfl) rfl⟩
theorem lk_X6_thaw : lkI yX6_thaw cX6_thaw 2 (some .boolean) 0 := ⟨⟨lw_G_t5 (List.mem_of_getElem? (i := 56) rfl) rfl, ini_X6, by decide +kernel, by decide +kernel, by decide +kernel⟩, lw_G_t5 (List.mem_of_getElem? (i := 54) rfl) rfl, lw_G_t5 (List.mem_of_getElem? (i := 55) rfl) rfl⟩
theorem ac_nat : Cond.native arraycopyName ∈ lw_G := lw_G_t2 (List.mem_of_getElem? (i := 32) rfl) rfl
theorem ac_st : Cond.static arraycopyName ∈ lw_G := lw_G_t2 (List.mem_of_getElem? (i := 31) rfl) rfl
end
section
abbrev tyW (cI cZ cH : ClassId) : List (ClassId × FieldType) := [(cI, .int), (cZ, .boolean), (cH, .object "CustodyRoom$Handing")]
def plC (a : Nat → Nat) (σ : St) (i : Nat) : Nat × va_E := (a (30 + i), .inr (0, [.int (σ 30 (7 * i)), .int (σ 30 (7 * i + 1)), .int (σ 30 (7 * i + 2)), .int (σ 30 (7 * i + 3)), .int (σ 30 (7 * i + 4)), .int (σ 30 (7 * i + 5)), .int (σ 30 (7 * i + 6))]))
def wC (cI cZ cH : ClassId) (a : Nat → Nat) (n : Nat) (σ : St) : va_W := [(a 0, .inr (5, [.ref (a 1), .ref (a 7), .ref (a 10), .ref (a 13), .ref (a 26), .ref (a 28), .ref (a 29), .int (σ 0 7), .int (σ 0 8), .int (σ 0 9), .int (σ 0 10), .int (σ 0 11)])), (a 1, .inr (4, [.ref (a 2), .ref (a 3), .ref (a 4), .ref (a 5), .ref (a 6), .int (σ 1 5), .int (σ 1 6), .int (σ 1 7)])), (a 2, .inl (cZ, 20, .inl (σ 2))), (a 3, .inl (cZ, 8, .inl (σ 3))), (a 4, .inl (cI, 6, .inl (σ 4))), (a 5, .inl (cI, 60, .inl (σ 5))), (a 6, .inl (cI, 60, .inl (σ 6))), (a 7, .inr (2, [.ref (a 8), .ref (a 9), .int (σ 7 2)])), (a 8, .inl (cI, 3200, .inl (σ 8))), (a 9, .inl (cI, 400, .inl (σ 9))), (a 10, .inr (2, [.ref (a 11), .ref (a 12), .int (σ 10 2)])), (a 11, .inl (cI, 3200, .inl (σ 11))), (a 12, .inl (cI, 400, .inl (σ 12))), (a 13, .inr (3, [.ref (a 1), .ref (a 14), .ref (a 15), .ref (a 16), .ref (a 17), .ref (a 18), .ref (a 19), .ref (a 20), .ref (a 21), .ref (a 22), .ref (a 23), .ref (a 24), .ref (a 25), .int (σ 13 13), .int (σ 13 14), .int (σ 13 15), .int (σ 13 16), .int (σ 13 17), .int (σ 13 18)])), (a 14, .inl (cI, 60, .inl (σ 14))), (a 15, .inl (cI, 60, .inl (σ 15))), (a 16, .inl (cI, 60, .inl (σ 16))), (a 17, .inl (cI, 60, .inl (σ 17))), (a 18, .inl (cI, 60, .inl (σ 18))), (a 19, .inl (cI, 60, .inl (σ 19))), (a 20, .inl (cI, 60, .inl (σ 20))), (a 21, .inl (cI, 60, .inl (σ 21))), (a 22, .inl (cI, 60, .inl (σ 22))), (a 23, .inl (cI, 60, .inl (σ 23))), (a 24, .inl (cI, 96, .inl (σ 24))), (a 25, .inl (cI, 600, .inl (σ 25))), (a 26, .inr (1, [.ref (a 7), .ref (a 27), .int (σ 26 2)])), (a 27, .inl (cI, 400, .inl (σ 27))), (a 28, .inl (cH, 60, .inr (.inr (.inr (.inr (fun i => if i < n then some (a (30 + i)) else none)))))), (a 29, .inl (cI, 8, .inl (σ 29)))] ++ (List.range n).map (plC a σ)
def wM (cI cZ : ClassId) (a : Nat → Nat) (σ : St) : va_W := [(a 0, .inr (6, [.int (σ 0 0), .int (σ 0 1), .int (σ 0 2), .int (σ 0 3), .int (σ 0 4), .int (σ 0 5), .int (σ 0 6), .ref (a 1), .ref (a 2), .ref (a 3), .ref (a 4), .ref (a 5), .ref (a 6), .ref (a 7), .ref (a 8), .int (σ 0 15), .int (σ 0 16), .ref (a 9), .ref (a 10), .ref (a 11), .ref (a 12), .ref (a 13), .ref (a 14), .ref (a 15), .ref (a 16), .ref (a 17), .ref (a 18), .ref (a 19), .ref (a 20), .ref (a 21), .int (σ 0 30), .ref (a 22), .ref (a 23)])), (a 1, .inl (cZ, 20, .inl (σ 1))), (a 2, .inl (cZ, 8, .inl (σ 2))), (a 3, .inl (cI, 6, .inl (σ 3))), (a 4, .inl (cI, 60, .inl (σ 4))), (a 5, .inl (cI, 60, .inl (σ 5))), (a 6, .inl (cI, 3208, .inl (σ 6))), (a 7, .inl (cI, 3208, .inl (σ 7))), (a 8, .inl (cI, 420, .inl (σ 8))), (a 9, .inl (cI, 60, .inl (σ 9))), (a 10, .inl (cI, 60, .inl (σ 10))), (a 11, .inl (cI, 60, .inl (σ 11))), (a 12, .inl (cI, 60, .inl (σ 12))), (a 13, .inl (cI, 60, .inl (σ 13))), (a 14, .inl (cI, 60, .inl (σ 14))), (a 15, .inl (cZ, 60, .inl (σ 15))), (a 16, .inl (cI, 60, .inl (σ 16))), (a 17, .inl (cI, 60, .inl (σ 17))), (a 18, .inl (cZ, 60, .inl (σ 18))), (a 19, .inl (cZ, 600, .inl (σ 19))), (a 20, .inl (cI, 401, .inl (σ 20))), (a 21, .inl (cI, 800, .inl (σ 21))), (a 22, .inl (cI, 60, .inl (σ 22))), (a 23, .inl (cI, 60, .inl (σ 23)))]
theorem wC_ok (cI cZ cH : ClassId) (a : Nat → Nat) (n : Nat) : wOk (wC cI cZ cH a n) := by
  intro σ τ
  simp only [wC, List.map_append, List.map_map]
  rfl
theorem wM_ok (cI cZ : ClassId) (a : Nat → Nat) : wOk (wM cI cZ a) := fun _ _ => rfl
theorem wC_pl_set {cI cZ cH : ClassId} {a : Nat → Nat} {n : Nat} {σ : St} {i : Nat} (hi : i < n) (f : Nat) (hf : f < 7) {v : Int32} {fs : List Value} (hfs : (plC a σ i).2 = .inr (0, fs)) : (wC cI cZ cH a n σ).set (30 + i) (a (30 + i), .inr (0, fs.set f (.int v))) = wC cI cZ cH a n (up2 σ 30 (7 * i + f) v) := by
  have hfs' : fs = [.int (σ 30 (7 * i)), .int (σ 30 (7 * i + 1)), .int (σ 30 (7 * i + 2)), .int (σ 30 (7 * i + 3)), .int (σ 30 (7 * i + 4)), .int (σ 30 (7 * i + 5)), .int (σ 30 (7 * i + 6))] := by
    have := hfs.symm
    simp only [plC, Sum.inr.injEq, Prod.mk.injEq, true_and] at this
    exact this
  subst hfs'
  unfold wC
  rw [List.set_append_right _ _ (by simp)]
  congr 1
  apply List.ext_getElem?
  intro j
  simp only [List.length_cons, List.length_nil, Nat.reduceAdd, Nat.add_sub_cancel_left]
  by_cases hj : j = i
  · subst hj
    rw [List.getElem?_set_self (by simpa using hi)]
    simp only [List.getElem?_map, List.getElem?_range hi, Option.map_some, plC]
    rcases (by omega : f = 0 ∨ f = 1 ∨ f = 2 ∨ f = 3 ∨ f = 4 ∨ f = 5 ∨ f = 6) with rfl | rfl | rfl | rfl | rfl | rfl | rfl <;> simp [up2, upr, upd]
  · rw [List.getElem?_set_ne (fun h => hj h.symm)]
    simp only [List.getElem?_map]
    by_cases hjn : j < n
    · simp only [List.getElem?_range hjn, Option.map_some, plC]
      have e : ∀ g, g < 7 → up2 σ 30 (7 * i + f) v 30 (7 * j + g) = σ 30 (7 * j + g) := by
        intro g hg
        have : 7 * j + g ≠ 7 * i + f := by omega
        simp [up2, upr, upd, this]
      have e0 := e 0 (by decide)
      simp only [Nat.add_zero] at e0
      rw [e0, e 1 (by decide), e 2 (by decide), e 3 (by decide), e 4 (by decide), e 5 (by decide), e 6 (by decide)]
    · rw [List.getElem?_eq_none (by simpa using hjn)]
      rfl
section WROWS
variable {p : Program} {l : Launch} {e : Env} {R : Room} {s : State} {m : MethodId} {args : Array Value} {below : List Frame} {meth : Method} {c : Code} {D : va_G} {A : Nat → Prop} {cells slots : Nat} {Qf : State → Prop} {nL : Nat} {cI cZ cH : ClassId} {a : Nat → Nat} {n : Nat} {cc : ByteArray} {own : String} {pc : Nat} {lv : List (Nat × Value)} {st : List Value} {σ : St}
theorem wC_at_r {r : Nat} (hr : r = 7 ∨ r = 10) : (wC cI cZ cH a n σ)[r]? = some (a r, .inr (2, [.ref (a (r + 1)), .ref (a (r + 2)), .int (σ r 2)])) := by
  rcases hr with rfl | rfl <;> rfl
theorem wC_pl {i : Nat} (hi : i < n) : (wC cI cZ cH a n σ)[30 + i]? = some (plC a σ i) := by
  unfold wC
  rw [List.getElem?_append_right (by simp)]
  simp [hi]
theorem g_X4_9 (X : cx p s m args c cc nL RX4 D (wC cI cZ cH a n) A (tyW cI cZ cH)) (q : Nat) (hdg : decode cc pc = .ok (.getfield 9, 3)) (hq : pc + 3 = q) (kk : go p l e R s m args below meth c D (wC cI cZ cH a n) A cells slots Qf nL q lv ((.ref (a 2)) :: st) σ) : go p l e R s m args below meth c D (wC cI cZ cH a n) A cells slots Qf nL pc lv (.ref (a 1) :: st) σ := r_get X (q0 := 1) (ci := 4) (k := 0) q rfl rfl inX4 (by decide) rfl fl_X4_9 hdg hq kk
theorem g_X4_15 (X : cx p s m args c cc nL RX4 D (wC cI cZ cH a n) A (tyW cI cZ cH)) (q : Nat) (hdg : decode cc pc = .ok (.getfield 15, 3)) (hq : pc + 3 = q) (kk : go p l e R s m args below meth c D (wC cI cZ cH a n) A cells slots Qf nL q lv ((.ref (a 3)) :: st) σ) : go p l e R s m args below meth c D (wC cI cZ cH a n) A cells slots Qf nL pc lv (.ref (a 1) :: st) σ := r_get X (q0 := 1) (ci := 4) (k := 1) q rfl rfl inX4 (by decide) rfl fl_X4_15 hdg hq kk
theorem g_X4_18 (X : cx p s m args c cc nL RX4 D (wC cI cZ cH a n) A (tyW cI cZ cH)) (q : Nat) (hdg : decode cc pc = .ok (.getfield 18, 3)) (hq : pc + 3 = q) (kk : go p l e R s m args below meth c D (wC cI cZ cH a n) A cells slots Qf nL q lv ((.ref (a 4)) :: st) σ) : go p l e R s m args below meth c D (wC cI cZ cH a n) A cells slots Qf nL pc lv (.ref (a 1) :: st) σ := r_get X (q0 := 1) (ci := 4) (k := 2) q rfl rfl inX4 (by decide) rfl fl_X4_18 hdg hq kk
theorem g_X4_22 (X : cx p s m args c cc nL RX4 D (wC cI cZ cH a n) A (tyW cI cZ cH)) (q : Nat) (hdg : decode cc pc = .ok (.getfield 22, 3)) (hq : pc + 3 = q) (kk : go p l e R s m args below meth c D (wC cI cZ cH a n) A cells slots Qf nL q lv ((.ref (a 5)) :: st) σ) : go p l e R s m args below meth c D (wC cI cZ cH a n) A cells slots Qf nL pc lv (.ref (a 1) :: st) σ := r_get X (q0 := 1) (ci := 4) (k := 3) q rfl rfl inX4 (by decide) rfl fl_X4_22 hdg hq kk
theorem g_X4_25 (X : cx p s m args c cc nL RX4 D (wC cI cZ cH a n) A (tyW cI cZ cH)) (q : Nat) (hdg : decode cc pc = .ok (.getfield 25, 3)) (hq : pc + 3 = q) (kk : go p l e R s m args below meth c D (wC cI cZ cH a n) A cells slots Qf nL q lv ((.ref (a 6)) :: st) σ) : go p l e R s m args below meth c D (wC cI cZ cH a n) A cells slots Qf nL pc lv (.ref (a 1) :: st) σ := r_get X (q0 := 1) (ci := 4) (k := 4) q rfl rfl inX4 (by decide) rfl fl_X4_25 hdg hq kk
theorem g_X3_99 (X : cx p s m args c cc nL RX3 D (wC cI cZ cH a n) A (tyW cI cZ cH)) (q : Nat) (hdg : decode cc pc = .ok (.getfield 99, 3)) (hq : pc + 3 = q) (kk : go p l e R s m args below meth c D (wC cI cZ cH a n) A cells slots Qf nL q lv ((.ref (a 6)) :: st) σ) : go p l e R s m args below meth c D (wC cI cZ cH a n) A cells slots Qf nL pc lv (.ref (a 1) :: st) σ := r_getN X (q0 := 1) (ci := 4) (k := 4) q rfl rfl inX4 (by decide) rfl fl_X3_99 hdg hq kk
theorem g_X4_34 (X : cx p s m args c cc nL RX4 D (wC cI cZ cH a n) A (tyW cI cZ cH)) (q : Nat) (hdg : decode cc pc = .ok (.getfield 34, 3)) (hq : pc + 3 = q) (kk : go p l e R s m args below meth c D (wC cI cZ cH a n) A cells slots Qf nL q lv ((.int (σ 1 5)) :: st) σ) : go p l e R s m args below meth c D (wC cI cZ cH a n) A cells slots Qf nL pc lv (.ref (a 1) :: st) σ := r_get X (q0 := 1) (ci := 4) (k := 5) q rfl rfl inX4 (by decide) rfl fl_X4_34 hdg hq kk
theorem u_X4_34 (X : cx p s m args c cc nL RX4 D (wC cI cZ cH a n) A (tyW cI cZ cH)) {v : Int32} (q : Nat) (hdg : decode cc pc = .ok (.putfield 34, 3)) (hq : pc + 3 = q) (kk : go p l e R s m args below meth c D (wC cI cZ cH a n) A cells slots Qf nL q lv st (up2 σ 1 5 v)) : go p l e R s m args below meth c D (wC cI cZ cH a n) A cells slots Qf nL pc lv (.int v :: .ref (a 1) :: st) σ := r_put X (q0 := 1) (ci := 4) (k := 5) (ty := .int) (ty0 := tyX4) q rfl rfl inX4 tyX4_ok nmX4 (by decide) fl_X4_34 rfl (by decide +kernel) (vp_nar_int v) rfl (Nat.le_of_ble_eq_true rfl) rfl hdg hq kk
theorem g_X5_143 (X : cx p s m args c cc nL RX5 D (wC cI cZ cH a n) A (tyW cI cZ cH)) (q : Nat) (hdg : decode cc pc = .ok (.getfield 143, 3)) (hq : pc + 3 = q) (kk : go p l e R s m args below meth c D (wC cI cZ cH a n) A cells slots Qf nL q lv ((.int (σ 1 5)) :: st) σ) : go p l e R s m args below meth c D (wC cI cZ cH a n) A cells slots Qf nL pc lv (.ref (a 1) :: st) σ := r_getN X (q0 := 1) (ci := 4) (k := 5) q rfl rfl inX4 (by decide) rfl fl_X5_143 hdg hq kk
theorem u_X5_143 (X : cx p s m args c cc nL RX5 D (wC cI cZ cH a n) A (tyW cI cZ cH)) {v : Int32} (q : Nat) (hdg : decode cc pc = .ok (.putfield 143, 3)) (hq : pc + 3 = q) (kk : go p l e R s m args below meth c D (wC cI cZ cH a n) A cells slots Qf nL q lv st (up2 σ 1 5 v)) : go p l e R s m args below meth c D (wC cI cZ cH a n) A cells slots Qf nL pc lv (.int v :: .ref (a 1) :: st) σ := r_putN X (q0 := 1) (ci := 4) (k := 5) (ty := .int) (ty0 := tyX4) q rfl rfl inX4 tyX4_ok nmX4 (by decide) fl_X5_143 rfl (by decide +kernel) (vp_nar_int v) rfl (Nat.le_of_ble_eq_true rfl) rfl hdg hq kk
theorem g_X4_38 (X : cx p s m args c cc nL RX4 D (wC cI cZ cH a n) A (tyW cI cZ cH)) (q : Nat) (hdg : decode cc pc = .ok (.getfield 38, 3)) (hq : pc + 3 = q) (kk : go p l e R s m args below meth c D (wC cI cZ cH a n) A cells slots Qf nL q lv ((.int (σ 1 6)) :: st) σ) : go p l e R s m args below meth c D (wC cI cZ cH a n) A cells slots Qf nL pc lv (.ref (a 1) :: st) σ := r_get X (q0 := 1) (ci := 4) (k := 6) q rfl rfl inX4 (by decide) rfl fl_X4_38 hdg hq kk
theorem u_X4_38 (X : cx p s m args c cc nL RX4 D (wC cI cZ cH a n) A (tyW cI cZ cH)) {v : Int32} (q : Nat) (hdg : decode cc pc = .ok (.putfield 38, 3)) (hq : pc + 3 = q) (kk : go p l e R s m args below meth c D (wC cI cZ cH a n) A cells slots Qf nL q lv st (up2 σ 1 6 v)) : go p l e R s m args below meth c D (wC cI cZ cH a n) A cells slots Qf nL pc lv (.int v :: .ref (a 1) :: st) σ := r_put X (q0 := 1) (ci := 4) (k := 6) (ty := .int) (ty0 := tyX4) q rfl rfl inX4 tyX4_ok nmX4 (by decide) fl_X4_38 rfl (by decide +kernel) (vp_nar_int v) rfl (Nat.le_of_ble_eq_true rfl) rfl hdg hq kk
theorem g_X5_146 (X : cx p s m args c cc nL RX5 D (wC cI cZ cH a n) A (tyW cI cZ cH)) (q : Nat) (hdg : decode cc pc = .ok (.getfield 146, 3)) (hq : pc + 3 = q) (kk : go p l e R s m args below meth c D (wC cI cZ cH a n) A cells slots Qf nL q lv ((.int (σ 1 6)) :: st) σ) : go p l e R s m args below meth c D (wC cI cZ cH a n) A cells slots Qf nL pc lv (.ref (a 1) :: st) σ := r_getN X (q0 := 1) (ci := 4) (k := 6) q rfl rfl inX4 (by decide) rfl fl_X5_146 hdg hq kk
theorem u_X5_146 (X : cx p s m args c cc nL RX5 D (wC cI cZ cH a n) A (tyW cI cZ cH)) {v : Int32} (q : Nat) (hdg : decode cc pc = .ok (.putfield 146, 3)) (hq : pc + 3 = q) (kk : go p l e R s m args below meth c D (wC cI cZ cH a n) A cells slots Qf nL q lv st (up2 σ 1 6 v)) : go p l e R s m args below meth c D (wC cI cZ cH a n) A cells slots Qf nL pc lv (.int v :: .ref (a 1) :: st) σ := r_putN X (q0 := 1) (ci := 4) (k := 6) (ty := .int) (ty0 := tyX4) q rfl rfl inX4 tyX4_ok nmX4 (by decide) fl_X5_146 rfl (by decide +kernel) (vp_nar_int v) rfl (Nat.le_of_ble_eq_true rfl) rfl hdg hq kk
theorem g_X4_41 (X : cx p s m args c cc nL RX4 D (wC cI cZ cH a n) A (tyW cI cZ cH)) (q : Nat) (hdg : decode cc pc = .ok (.getfield 41, 3)) (hq : pc + 3 = q) (kk : go p l e R s m args below meth c D (wC cI cZ cH a n) A cells slots Qf nL q lv ((.int (σ 1 7)) :: st) σ) : go p l e R s m args below meth c D (wC cI cZ cH a n) A cells slots Qf nL pc lv (.ref (a 1) :: st) σ := r_get X (q0 := 1) (ci := 4) (k := 7) q rfl rfl inX4 (by decide) rfl fl_X4_41 hdg hq kk
theorem u_X4_41 (X : cx p s m args c cc nL RX4 D (wC cI cZ cH a n) A (tyW cI cZ cH)) {v : Int32} (q : Nat) (hdg : decode cc pc = .ok (.putfield 41, 3)) (hq : pc + 3 = q) (kk : go p l e R s m args below meth c D (wC cI cZ cH a n) A cells slots Qf nL q lv st (up2 σ 1 7 v)) : go p l e R s m args below meth c D (wC cI cZ cH a n) A cells slots Qf nL pc lv (.int v :: .ref (a 1) :: st) σ := r_put X (q0 := 1) (ci := 4) (k := 7) (ty := .int) (ty0 := tyX4) q rfl rfl inX4 tyX4_ok nmX4 (by decide) fl_X4_41 rfl (by decide +kernel) (vp_nar_int v) rfl (Nat.le_of_ble_eq_true rfl) rfl hdg hq kk
theorem g_X3_87 (X : cx p s m args c cc nL RX3 D (wC cI cZ cH a n) A (tyW cI cZ cH)) (q : Nat) (hdg : decode cc pc = .ok (.getfield 87, 3)) (hq : pc + 3 = q) (kk : go p l e R s m args below meth c D (wC cI cZ cH a n) A cells slots Qf nL q lv ((.int (σ 1 7)) :: st) σ) : go p l e R s m args below meth c D (wC cI cZ cH a n) A cells slots Qf nL pc lv (.ref (a 1) :: st) σ := r_getN X (q0 := 1) (ci := 4) (k := 7) q rfl rfl inX4 (by decide) rfl fl_X3_87 hdg hq kk
theorem u_X3_87 (X : cx p s m args c cc nL RX3 D (wC cI cZ cH a n) A (tyW cI cZ cH)) {v : Int32} (q : Nat) (hdg : decode cc pc = .ok (.putfield 87, 3)) (hq : pc + 3 = q) (kk : go p l e R s m args below meth c D (wC cI cZ cH a n) A cells slots Qf nL q lv st (up2 σ 1 7 v)) : go p l e R s m args below meth c D (wC cI cZ cH a n) A cells slots Qf nL pc lv (.int v :: .ref (a 1) :: st) σ := r_putN X (q0 := 1) (ci := 4) (k := 7) (ty := .int) (ty0 := tyX4) q rfl rfl inX4 tyX4_ok nmX4 (by decide) fl_X3_87 rfl (by decide +kernel) (vp_nar_int v) rfl (Nat.le_of_ble_eq_true rfl) rfl hdg hq kk
theorem g_X5_149 (X : cx p s m args c cc nL RX5 D (wC cI cZ cH a n) A (tyW cI cZ cH)) (q : Nat) (hdg : decode cc pc = .ok (.getfield 149, 3)) (hq : pc + 3 = q) (kk : go p l e R s m args below meth c D (wC cI cZ cH a n) A cells slots Qf nL q lv ((.int (σ 1 7)) :: st) σ) : go p l e R s m args below meth c D (wC cI cZ cH a n) A cells slots Qf nL pc lv (.ref (a 1) :: st) σ := r_getN X (q0 := 1) (ci := 4) (k := 7) q rfl rfl inX4 (by decide) rfl fl_X5_149 hdg hq kk
theorem u_X5_149 (X : cx p s m args c cc nL RX5 D (wC cI cZ cH a n) A (tyW cI cZ cH)) {v : Int32} (q : Nat) (hdg : decode cc pc = .ok (.putfield 149, 3)) (hq : pc + 3 = q) (kk : go p l e R s m args below meth c D (wC cI cZ cH a n) A cells slots Qf nL q lv st (up2 σ 1 7 v)) : go p l e R s m args below meth c D (wC cI cZ cH a n) A cells slots Qf nL pc lv (.int v :: .ref (a 1) :: st) σ := r_putN X (q0 := 1) (ci := 4) (k := 7) (ty := .int) (ty0 := tyX4) q rfl rfl inX4 tyX4_ok nmX4 (by decide) fl_X5_149 rfl (by decide +kernel) (vp_nar_int v) rfl (Nat.le_of_ble_eq_true rfl) rfl hdg hq kk
theorem g_X2_9 (X : cx p s m args c cc nL RX2 D (wC cI cZ cH a n) A (tyW cI cZ cH)) {r : Nat} (hr : r = 7 ∨ r = 10) (q : Nat) (hdg : decode cc pc = .ok (.getfield 9, 3)) (hq : pc + 3 = q) (kk : go p l e R s m args below meth c D (wC cI cZ cH a n) A cells slots Qf nL q lv ((.ref (a (r + 1))) :: st) σ) : go p l e R s m args below meth c D (wC cI cZ cH a n) A cells slots Qf nL pc lv (.ref (a r) :: st) σ := r_get X (q0 := r) (ci := 2) (k := 0) q (wC_at_r hr) rfl inX2 (by decide) rfl fl_X2_9 hdg hq kk
theorem g_X2_15 (X : cx p s m args c cc nL RX2 D (wC cI cZ cH a n) A (tyW cI cZ cH)) {r : Nat} (hr : r = 7 ∨ r = 10) (q : Nat) (hdg : decode cc pc = .ok (.getfield 15, 3)) (hq : pc + 3 = q) (kk : go p l e R s m args below meth c D (wC cI cZ cH a n) A cells slots Qf nL q lv ((.ref (a (r + 2))) :: st) σ) : go p l e R s m args below meth c D (wC cI cZ cH a n) A cells slots Qf nL pc lv (.ref (a r) :: st) σ := r_get X (q0 := r) (ci := 2) (k := 1) q (wC_at_r hr) rfl inX2 (by decide) rfl fl_X2_15 hdg hq kk
theorem g_X2_18 (X : cx p s m args c cc nL RX2 D (wC cI cZ cH a n) A (tyW cI cZ cH)) {r : Nat} (hr : r = 7 ∨ r = 10) (q : Nat) (hdg : decode cc pc = .ok (.getfield 18, 3)) (hq : pc + 3 = q) (kk : go p l e R s m args below meth c D (wC cI cZ cH a n) A cells slots Qf nL q lv ((.int (σ r 2)) :: st) σ) : go p l e R s m args below meth c D (wC cI cZ cH a n) A cells slots Qf nL pc lv (.ref (a r) :: st) σ := r_get X (q0 := r) (ci := 2) (k := 2) q (wC_at_r hr) rfl inX2 (by decide) rfl fl_X2_18 hdg hq kk
theorem u_X2_18 (X : cx p s m args c cc nL RX2 D (wC cI cZ cH a n) A (tyW cI cZ cH)) {r : Nat} (hr : r = 7 ∨ r = 10) {v : Int32} (q : Nat) (hdg : decode cc pc = .ok (.putfield 18, 3)) (hq : pc + 3 = q) (kk : go p l e R s m args below meth c D (wC cI cZ cH a n) A cells slots Qf nL q lv st (up2 σ r 2 v)) : go p l e R s m args below meth c D (wC cI cZ cH a n) A cells slots Qf nL pc lv (.int v :: .ref (a r) :: st) σ := r_put X (q0 := r) (ci := 2) (k := 2) (ty := .int) (ty0 := tyX2) q (wC_at_r hr) rfl inX2 tyX2_ok nmX2 (by decide) fl_X2_18 rfl (by decide +kernel) (vp_nar_int v) rfl (Nat.le_of_ble_eq_true rfl) (by rcases hr with rfl | rfl <;> rfl) hdg hq kk
theorem g_X3_55 (X : cx p s m args c cc nL RX3 D (wC cI cZ cH a n) A (tyW cI cZ cH)) {r : Nat} (hr : r = 7 ∨ r = 10) (q : Nat) (hdg : decode cc pc = .ok (.getfield 55, 3)) (hq : pc + 3 = q) (kk : go p l e R s m args below meth c D (wC cI cZ cH a n) A cells slots Qf nL q lv ((.int (σ r 2)) :: st) σ) : go p l e R s m args below meth c D (wC cI cZ cH a n) A cells slots Qf nL pc lv (.ref (a r) :: st) σ := r_getN X (q0 := r) (ci := 2) (k := 2) q (wC_at_r hr) rfl inX2 (by decide) rfl fl_X3_55 hdg hq kk
theorem u_X3_55 (X : cx p s m args c cc nL RX3 D (wC cI cZ cH a n) A (tyW cI cZ cH)) {r : Nat} (hr : r = 7 ∨ r = 10) {v : Int32} (q : Nat) (hdg : decode cc pc = .ok (.putfield 55, 3)) (hq : pc + 3 = q) (kk : go p l e R s m args below meth c D (wC cI cZ cH a n) A cells slots Qf nL q lv st (up2 σ r 2 v)) : go p l e R s m args below meth c D (wC cI cZ cH a n) A cells slots Qf nL pc lv (.int v :: .ref (a r) :: st) σ := r_putN X (q0 := r) (ci := 2) (k := 2) (ty := .int) (ty0 := tyX2) q (wC_at_r hr) rfl inX2 tyX2_ok nmX2 (by decide) fl_X3_55 rfl (by decide +kernel) (vp_nar_int v) rfl (Nat.le_of_ble_eq_true rfl) (by rcases hr with rfl | rfl <;> rfl) hdg hq kk
theorem g_X1_23 (X : cx p s m args c cc nL RX1 D (wC cI cZ cH a n) A (tyW cI cZ cH)) {r : Nat} (hr : r = 7 ∨ r = 10) (q : Nat) (hdg : decode cc pc = .ok (.getfield 23, 3)) (hq : pc + 3 = q) (kk : go p l e R s m args below meth c D (wC cI cZ cH a n) A cells slots Qf nL q lv ((.int (σ r 2)) :: st) σ) : go p l e R s m args below meth c D (wC cI cZ cH a n) A cells slots Qf nL pc lv (.ref (a r) :: st) σ := r_getN X (q0 := r) (ci := 2) (k := 2) q (wC_at_r hr) rfl inX2 (by decide) rfl fl_X1_23 hdg hq kk
theorem u_X1_23 (X : cx p s m args c cc nL RX1 D (wC cI cZ cH a n) A (tyW cI cZ cH)) {r : Nat} (hr : r = 7 ∨ r = 10) {v : Int32} (q : Nat) (hdg : decode cc pc = .ok (.putfield 23, 3)) (hq : pc + 3 = q) (kk : go p l e R s m args below meth c D (wC cI cZ cH a n) A cells slots Qf nL q lv st (up2 σ r 2 v)) : go p l e R s m args below meth c D (wC cI cZ cH a n) A cells slots Qf nL pc lv (.int v :: .ref (a r) :: st) σ := r_putN X (q0 := r) (ci := 2) (k := 2) (ty := .int) (ty0 := tyX2) q (wC_at_r hr) rfl inX2 tyX2_ok nmX2 (by decide) fl_X1_23 rfl (by decide +kernel) (vp_nar_int v) rfl (Nat.le_of_ble_eq_true rfl) (by rcases hr with rfl | rfl <;> rfl) hdg hq kk
theorem g_X5_152 (X : cx p s m args c cc nL RX5 D (wC cI cZ cH a n) A (tyW cI cZ cH)) {r : Nat} (hr : r = 7 ∨ r = 10) (q : Nat) (hdg : decode cc pc = .ok (.getfield 152, 3)) (hq : pc + 3 = q) (kk : go p l e R s m args below meth c D (wC cI cZ cH a n) A cells slots Qf nL q lv ((.int (σ r 2)) :: st) σ) : go p l e R s m args below meth c D (wC cI cZ cH a n) A cells slots Qf nL pc lv (.ref (a r) :: st) σ := r_getN X (q0 := r) (ci := 2) (k := 2) q (wC_at_r hr) rfl inX2 (by decide) rfl fl_X5_152 hdg hq kk
theorem u_X5_152 (X : cx p s m args c cc nL RX5 D (wC cI cZ cH a n) A (tyW cI cZ cH)) {r : Nat} (hr : r = 7 ∨ r = 10) {v : Int32} (q : Nat) (hdg : decode cc pc = .ok (.putfield 152, 3)) (hq : pc + 3 = q) (kk : go p l e R s m args below meth c D (wC cI cZ cH a n) A cells slots Qf nL q lv st (up2 σ r 2 v)) : go p l e R s m args below meth c D (wC cI cZ cH a n) A cells slots Qf nL pc lv (.int v :: .ref (a r) :: st) σ := r_putN X (q0 := r) (ci := 2) (k := 2) (ty := .int) (ty0 := tyX2) q (wC_at_r hr) rfl inX2 tyX2_ok nmX2 (by decide) fl_X5_152 rfl (by decide +kernel) (vp_nar_int v) rfl (Nat.le_of_ble_eq_true rfl) (by rcases hr with rfl | rfl <;> rfl) hdg hq kk
theorem g_X3_48 (X : cx p s m args c cc nL RX3 D (wC cI cZ cH a n) A (tyW cI cZ cH)) (q : Nat) (hdg : decode cc pc = .ok (.getfield 48, 3)) (hq : pc + 3 = q) (kk : go p l e R s m args below meth c D (wC cI cZ cH a n) A cells slots Qf nL q lv ((.ref (a 1)) :: st) σ) : go p l e R s m args below meth c D (wC cI cZ cH a n) A cells slots Qf nL pc lv (.ref (a 13) :: st) σ := r_get X (q0 := 13) (ci := 3) (k := 0) q rfl rfl inX3 (by decide) rfl fl_X3_48 hdg hq kk
theorem g_X3_9 (X : cx p s m args c cc nL RX3 D (wC cI cZ cH a n) A (tyW cI cZ cH)) (q : Nat) (hdg : decode cc pc = .ok (.getfield 9, 3)) (hq : pc + 3 = q) (kk : go p l e R s m args below meth c D (wC cI cZ cH a n) A cells slots Qf nL q lv ((.ref (a 14)) :: st) σ) : go p l e R s m args below meth c D (wC cI cZ cH a n) A cells slots Qf nL pc lv (.ref (a 13) :: st) σ := r_get X (q0 := 13) (ci := 3) (k := 1) q rfl rfl inX3 (by decide) rfl fl_X3_9 hdg hq kk
theorem g_X3_15 (X : cx p s m args c cc nL RX3 D (wC cI cZ cH a n) A (tyW cI cZ cH)) (q : Nat) (hdg : decode cc pc = .ok (.getfield 15, 3)) (hq : pc + 3 = q) (kk : go p l e R s m args below meth c D (wC cI cZ cH a n) A cells slots Qf nL q lv ((.ref (a 15)) :: st) σ) : go p l e R s m args below meth c D (wC cI cZ cH a n) A cells slots Qf nL pc lv (.ref (a 13) :: st) σ := r_get X (q0 := 13) (ci := 3) (k := 2) q rfl rfl inX3 (by decide) rfl fl_X3_15 hdg hq kk
theorem g_X3_18 (X : cx p s m args c cc nL RX3 D (wC cI cZ cH a n) A (tyW cI cZ cH)) (q : Nat) (hdg : decode cc pc = .ok (.getfield 18, 3)) (hq : pc + 3 = q) (kk : go p l e R s m args below meth c D (wC cI cZ cH a n) A cells slots Qf nL q lv ((.ref (a 16)) :: st) σ) : go p l e R s m args below meth c D (wC cI cZ cH a n) A cells slots Qf nL pc lv (.ref (a 13) :: st) σ := r_get X (q0 := 13) (ci := 3) (k := 3) q rfl rfl inX3 (by decide) rfl fl_X3_18 hdg hq kk
theorem g_X3_21 (X : cx p s m args c cc nL RX3 D (wC cI cZ cH a n) A (tyW cI cZ cH)) (q : Nat) (hdg : decode cc pc = .ok (.getfield 21, 3)) (hq : pc + 3 = q) (kk : go p l e R s m args below meth c D (wC cI cZ cH a n) A cells slots Qf nL q lv ((.ref (a 17)) :: st) σ) : go p l e R s m args below meth c D (wC cI cZ cH a n) A cells slots Qf nL pc lv (.ref (a 13) :: st) σ := r_get X (q0 := 13) (ci := 3) (k := 4) q rfl rfl inX3 (by decide) rfl fl_X3_21 hdg hq kk
theorem g_X3_24 (X : cx p s m args c cc nL RX3 D (wC cI cZ cH a n) A (tyW cI cZ cH)) (q : Nat) (hdg : decode cc pc = .ok (.getfield 24, 3)) (hq : pc + 3 = q) (kk : go p l e R s m args below meth c D (wC cI cZ cH a n) A cells slots Qf nL q lv ((.ref (a 18)) :: st) σ) : go p l e R s m args below meth c D (wC cI cZ cH a n) A cells slots Qf nL pc lv (.ref (a 13) :: st) σ := r_get X (q0 := 13) (ci := 3) (k := 5) q rfl rfl inX3 (by decide) rfl fl_X3_24 hdg hq kk
theorem g_X3_27 (X : cx p s m args c cc nL RX3 D (wC cI cZ cH a n) A (tyW cI cZ cH)) (q : Nat) (hdg : decode cc pc = .ok (.getfield 27, 3)) (hq : pc + 3 = q) (kk : go p l e R s m args below meth c D (wC cI cZ cH a n) A cells slots Qf nL q lv ((.ref (a 19)) :: st) σ) : go p l e R s m args below meth c D (wC cI cZ cH a n) A cells slots Qf nL pc lv (.ref (a 13) :: st) σ := r_get X (q0 := 13) (ci := 3) (k := 6) q rfl rfl inX3 (by decide) rfl fl_X3_27 hdg hq kk
theorem g_X3_30 (X : cx p s m args c cc nL RX3 D (wC cI cZ cH a n) A (tyW cI cZ cH)) (q : Nat) (hdg : decode cc pc = .ok (.getfield 30, 3)) (hq : pc + 3 = q) (kk : go p l e R s m args below meth c D (wC cI cZ cH a n) A cells slots Qf nL q lv ((.ref (a 20)) :: st) σ) : go p l e R s m args below meth c D (wC cI cZ cH a n) A cells slots Qf nL pc lv (.ref (a 13) :: st) σ := r_get X (q0 := 13) (ci := 3) (k := 7) q rfl rfl inX3 (by decide) rfl fl_X3_30 hdg hq kk
theorem g_X3_33 (X : cx p s m args c cc nL RX3 D (wC cI cZ cH a n) A (tyW cI cZ cH)) (q : Nat) (hdg : decode cc pc = .ok (.getfield 33, 3)) (hq : pc + 3 = q) (kk : go p l e R s m args below meth c D (wC cI cZ cH a n) A cells slots Qf nL q lv ((.ref (a 21)) :: st) σ) : go p l e R s m args below meth c D (wC cI cZ cH a n) A cells slots Qf nL pc lv (.ref (a 13) :: st) σ := r_get X (q0 := 13) (ci := 3) (k := 8) q rfl rfl inX3 (by decide) rfl fl_X3_33 hdg hq kk
theorem g_X3_36 (X : cx p s m args c cc nL RX3 D (wC cI cZ cH a n) A (tyW cI cZ cH)) (q : Nat) (hdg : decode cc pc = .ok (.getfield 36, 3)) (hq : pc + 3 = q) (kk : go p l e R s m args below meth c D (wC cI cZ cH a n) A cells slots Qf nL q lv ((.ref (a 22)) :: st) σ) : go p l e R s m args below meth c D (wC cI cZ cH a n) A cells slots Qf nL pc lv (.ref (a 13) :: st) σ := r_get X (q0 := 13) (ci := 3) (k := 9) q rfl rfl inX3 (by decide) rfl fl_X3_36 hdg hq kk
theorem g_X3_39 (X : cx p s m args c cc nL RX3 D (wC cI cZ cH a n) A (tyW cI cZ cH)) (q : Nat) (hdg : decode cc pc = .ok (.getfield 39, 3)) (hq : pc + 3 = q) (kk : go p l e R s m args below meth c D (wC cI cZ cH a n) A cells slots Qf nL q lv ((.ref (a 23)) :: st) σ) : go p l e R s m args below meth c D (wC cI cZ cH a n) A cells slots Qf nL pc lv (.ref (a 13) :: st) σ := r_get X (q0 := 13) (ci := 3) (k := 10) q rfl rfl inX3 (by decide) rfl fl_X3_39 hdg hq kk
theorem g_X3_42 (X : cx p s m args c cc nL RX3 D (wC cI cZ cH a n) A (tyW cI cZ cH)) (q : Nat) (hdg : decode cc pc = .ok (.getfield 42, 3)) (hq : pc + 3 = q) (kk : go p l e R s m args below meth c D (wC cI cZ cH a n) A cells slots Qf nL q lv ((.ref (a 24)) :: st) σ) : go p l e R s m args below meth c D (wC cI cZ cH a n) A cells slots Qf nL pc lv (.ref (a 13) :: st) σ := r_get X (q0 := 13) (ci := 3) (k := 11) q rfl rfl inX3 (by decide) rfl fl_X3_42 hdg hq kk
theorem g_X3_45 (X : cx p s m args c cc nL RX3 D (wC cI cZ cH a n) A (tyW cI cZ cH)) (q : Nat) (hdg : decode cc pc = .ok (.getfield 45, 3)) (hq : pc + 3 = q) (kk : go p l e R s m args below meth c D (wC cI cZ cH a n) A cells slots Qf nL q lv ((.ref (a 25)) :: st) σ) : go p l e R s m args below meth c D (wC cI cZ cH a n) A cells slots Qf nL pc lv (.ref (a 13) :: st) σ := r_get X (q0 := 13) (ci := 3) (k := 12) q rfl rfl inX3 (by decide) rfl fl_X3_45 hdg hq kk
theorem g_X3_108 (X : cx p s m args c cc nL RX3 D (wC cI cZ cH a n) A (tyW cI cZ cH)) (q : Nat) (hdg : decode cc pc = .ok (.getfield 108, 3)) (hq : pc + 3 = q) (kk : go p l e R s m args below meth c D (wC cI cZ cH a n) A cells slots Qf nL q lv ((.int (σ 13 13)) :: st) σ) : go p l e R s m args below meth c D (wC cI cZ cH a n) A cells slots Qf nL pc lv (.ref (a 13) :: st) σ := r_get X (q0 := 13) (ci := 3) (k := 13) q rfl rfl inX3 (by decide) rfl fl_X3_108 hdg hq kk
theorem u_X3_108 (X : cx p s m args c cc nL RX3 D (wC cI cZ cH a n) A (tyW cI cZ cH)) {v : Int32} (q : Nat) (hdg : decode cc pc = .ok (.putfield 108, 3)) (hq : pc + 3 = q) (kk : go p l e R s m args below meth c D (wC cI cZ cH a n) A cells slots Qf nL q lv st (up2 σ 13 13 v)) : go p l e R s m args below meth c D (wC cI cZ cH a n) A cells slots Qf nL pc lv (.int v :: .ref (a 13) :: st) σ := r_put X (q0 := 13) (ci := 3) (k := 13) (ty := .int) (ty0 := tyX3) q rfl rfl inX3 tyX3_ok nmX3 (by decide) fl_X3_108 rfl (by decide +kernel) (vp_nar_int v) rfl (Nat.le_of_ble_eq_true rfl) rfl hdg hq kk
theorem g_X3_111 (X : cx p s m args c cc nL RX3 D (wC cI cZ cH a n) A (tyW cI cZ cH)) (q : Nat) (hdg : decode cc pc = .ok (.getfield 111, 3)) (hq : pc + 3 = q) (kk : go p l e R s m args below meth c D (wC cI cZ cH a n) A cells slots Qf nL q lv ((.int (σ 13 14)) :: st) σ) : go p l e R s m args below meth c D (wC cI cZ cH a n) A cells slots Qf nL pc lv (.ref (a 13) :: st) σ := r_get X (q0 := 13) (ci := 3) (k := 14) q rfl rfl inX3 (by decide) rfl fl_X3_111 hdg hq kk
theorem u_X3_111 (X : cx p s m args c cc nL RX3 D (wC cI cZ cH a n) A (tyW cI cZ cH)) {v : Int32} (q : Nat) (hdg : decode cc pc = .ok (.putfield 111, 3)) (hq : pc + 3 = q) (kk : go p l e R s m args below meth c D (wC cI cZ cH a n) A cells slots Qf nL q lv st (up2 σ 13 14 v)) : go p l e R s m args below meth c D (wC cI cZ cH a n) A cells slots Qf nL pc lv (.int v :: .ref (a 13) :: st) σ := r_put X (q0 := 13) (ci := 3) (k := 14) (ty := .int) (ty0 := tyX3) q rfl rfl inX3 tyX3_ok nmX3 (by decide) fl_X3_111 rfl (by decide +kernel) (vp_nar_int v) rfl (Nat.le_of_ble_eq_true rfl) rfl hdg hq kk
theorem g_X3_114 (X : cx p s m args c cc nL RX3 D (wC cI cZ cH a n) A (tyW cI cZ cH)) (q : Nat) (hdg : decode cc pc = .ok (.getfield 114, 3)) (hq : pc + 3 = q) (kk : go p l e R s m args below meth c D (wC cI cZ cH a n) A cells slots Qf nL q lv ((.int (σ 13 15)) :: st) σ) : go p l e R s m args below meth c D (wC cI cZ cH a n) A cells slots Qf nL pc lv (.ref (a 13) :: st) σ := r_get X (q0 := 13) (ci := 3) (k := 15) q rfl rfl inX3 (by decide) rfl fl_X3_114 hdg hq kk
theorem u_X3_114 (X : cx p s m args c cc nL RX3 D (wC cI cZ cH a n) A (tyW cI cZ cH)) {v : Int32} (q : Nat) (hdg : decode cc pc = .ok (.putfield 114, 3)) (hq : pc + 3 = q) (kk : go p l e R s m args below meth c D (wC cI cZ cH a n) A cells slots Qf nL q lv st (up2 σ 13 15 v)) : go p l e R s m args below meth c D (wC cI cZ cH a n) A cells slots Qf nL pc lv (.int v :: .ref (a 13) :: st) σ := r_put X (q0 := 13) (ci := 3) (k := 15) (ty := .int) (ty0 := tyX3) q rfl rfl inX3 tyX3_ok nmX3 (by decide) fl_X3_114 rfl (by decide +kernel) (vp_nar_int v) rfl (Nat.le_of_ble_eq_true rfl) rfl hdg hq kk
theorem g_X3_117 (X : cx p s m args c cc nL RX3 D (wC cI cZ cH a n) A (tyW cI cZ cH)) (q : Nat) (hdg : decode cc pc = .ok (.getfield 117, 3)) (hq : pc + 3 = q) (kk : go p l e R s m args below meth c D (wC cI cZ cH a n) A cells slots Qf nL q lv ((.int (σ 13 16)) :: st) σ) : go p l e R s m args below meth c D (wC cI cZ cH a n) A cells slots Qf nL pc lv (.ref (a 13) :: st) σ := r_get X (q0 := 13) (ci := 3) (k := 16) q rfl rfl inX3 (by decide) rfl fl_X3_117 hdg hq kk
theorem u_X3_117 (X : cx p s m args c cc nL RX3 D (wC cI cZ cH a n) A (tyW cI cZ cH)) {v : Int32} (q : Nat) (hdg : decode cc pc = .ok (.putfield 117, 3)) (hq : pc + 3 = q) (kk : go p l e R s m args below meth c D (wC cI cZ cH a n) A cells slots Qf nL q lv st (up2 σ 13 16 v)) : go p l e R s m args below meth c D (wC cI cZ cH a n) A cells slots Qf nL pc lv (.int v :: .ref (a 13) :: st) σ := r_put X (q0 := 13) (ci := 3) (k := 16) (ty := .int) (ty0 := tyX3) q rfl rfl inX3 tyX3_ok nmX3 (by decide) fl_X3_117 rfl (by decide +kernel) (vp_nar_int v) rfl (Nat.le_of_ble_eq_true rfl) rfl hdg hq kk
theorem g_X3_120 (X : cx p s m args c cc nL RX3 D (wC cI cZ cH a n) A (tyW cI cZ cH)) (q : Nat) (hdg : decode cc pc = .ok (.getfield 120, 3)) (hq : pc + 3 = q) (kk : go p l e R s m args below meth c D (wC cI cZ cH a n) A cells slots Qf nL q lv ((.int (σ 13 17)) :: st) σ) : go p l e R s m args below meth c D (wC cI cZ cH a n) A cells slots Qf nL pc lv (.ref (a 13) :: st) σ := r_get X (q0 := 13) (ci := 3) (k := 17) q rfl rfl inX3 (by decide) rfl fl_X3_120 hdg hq kk
theorem u_X3_120 (X : cx p s m args c cc nL RX3 D (wC cI cZ cH a n) A (tyW cI cZ cH)) {v : Int32} (q : Nat) (hdg : decode cc pc = .ok (.putfield 120, 3)) (hq : pc + 3 = q) (kk : go p l e R s m args below meth c D (wC cI cZ cH a n) A cells slots Qf nL q lv st (up2 σ 13 17 v)) : go p l e R s m args below meth c D (wC cI cZ cH a n) A cells slots Qf nL pc lv (.int v :: .ref (a 13) :: st) σ := r_put X (q0 := 13) (ci := 3) (k := 17) (ty := .int) (ty0 := tyX3) q rfl rfl inX3 tyX3_ok nmX3 (by decide) fl_X3_120 rfl (by decide +kernel) (vp_nar_int v) rfl (Nat.le_of_ble_eq_true rfl) rfl hdg hq kk
theorem g_X3_123 (X : cx p s m args c cc nL RX3 D (wC cI cZ cH a n) A (tyW cI cZ cH)) (q : Nat) (hdg : decode cc pc = .ok (.getfield 123, 3)) (hq : pc + 3 = q) (kk : go p l e R s m args below meth c D (wC cI cZ cH a n) A cells slots Qf nL q lv ((.int (σ 13 18)) :: st) σ) : go p l e R s m args below meth c D (wC cI cZ cH a n) A cells slots Qf nL pc lv (.ref (a 13) :: st) σ := r_get X (q0 := 13) (ci := 3) (k := 18) q rfl rfl inX3 (by decide) rfl fl_X3_123 hdg hq kk
theorem u_X3_123 (X : cx p s m args c cc nL RX3 D (wC cI cZ cH a n) A (tyW cI cZ cH)) {v : Int32} (q : Nat) (hdg : decode cc pc = .ok (.putfield 123, 3)) (hq : pc + 3 = q) (kk : go p l e R s m args below meth c D (wC cI cZ cH a n) A cells slots Qf nL q lv st (up2 σ 13 18 v)) : go p l e R s m args below meth c D (wC cI cZ cH a n) A cells slots Qf nL pc lv (.int v :: .ref (a 13) :: st) σ := r_put X (q0 := 13) (ci := 3) (k := 18) (ty := .int) (ty0 := tyX3) q rfl rfl inX3 tyX3_ok nmX3 (by decide) fl_X3_123 rfl (by decide +kernel) (vp_nar_int v) rfl (Nat.le_of_ble_eq_true rfl) rfl hdg hq kk
theorem g_X1_15 (X : cx p s m args c cc nL RX1 D (wC cI cZ cH a n) A (tyW cI cZ cH)) (q : Nat) (hdg : decode cc pc = .ok (.getfield 15, 3)) (hq : pc + 3 = q) (kk : go p l e R s m args below meth c D (wC cI cZ cH a n) A cells slots Qf nL q lv ((.ref (a 7)) :: st) σ) : go p l e R s m args below meth c D (wC cI cZ cH a n) A cells slots Qf nL pc lv (.ref (a 26) :: st) σ := r_get X (q0 := 26) (ci := 1) (k := 0) q rfl rfl inX1 (by decide) rfl fl_X1_15 hdg hq kk
theorem g_X1_9 (X : cx p s m args c cc nL RX1 D (wC cI cZ cH a n) A (tyW cI cZ cH)) (q : Nat) (hdg : decode cc pc = .ok (.getfield 9, 3)) (hq : pc + 3 = q) (kk : go p l e R s m args below meth c D (wC cI cZ cH a n) A cells slots Qf nL q lv ((.ref (a 27)) :: st) σ) : go p l e R s m args below meth c D (wC cI cZ cH a n) A cells slots Qf nL pc lv (.ref (a 26) :: st) σ := r_get X (q0 := 26) (ci := 1) (k := 1) q rfl rfl inX1 (by decide) rfl fl_X1_9 hdg hq kk
theorem g_X1_19 (X : cx p s m args c cc nL RX1 D (wC cI cZ cH a n) A (tyW cI cZ cH)) (q : Nat) (hdg : decode cc pc = .ok (.getfield 19, 3)) (hq : pc + 3 = q) (kk : go p l e R s m args below meth c D (wC cI cZ cH a n) A cells slots Qf nL q lv ((.int (σ 26 2)) :: st) σ) : go p l e R s m args below meth c D (wC cI cZ cH a n) A cells slots Qf nL pc lv (.ref (a 26) :: st) σ := r_get X (q0 := 26) (ci := 1) (k := 2) q rfl rfl inX1 (by decide) rfl fl_X1_19 hdg hq kk
theorem u_X1_19 (X : cx p s m args c cc nL RX1 D (wC cI cZ cH a n) A (tyW cI cZ cH)) {v : Int32} (q : Nat) (hdg : decode cc pc = .ok (.putfield 19, 3)) (hq : pc + 3 = q) (kk : go p l e R s m args below meth c D (wC cI cZ cH a n) A cells slots Qf nL q lv st (up2 σ 26 2 v)) : go p l e R s m args below meth c D (wC cI cZ cH a n) A cells slots Qf nL pc lv (.int v :: .ref (a 26) :: st) σ := r_put X (q0 := 26) (ci := 1) (k := 2) (ty := .int) (ty0 := tyX1) q rfl rfl inX1 tyX1_ok nmX1 (by decide) fl_X1_19 rfl (by decide +kernel) (vp_nar_int v) rfl (Nat.le_of_ble_eq_true rfl) rfl hdg hq kk
theorem g_X5_10 (X : cx p s m args c cc nL RX5 D (wC cI cZ cH a n) A (tyW cI cZ cH)) (q : Nat) (hdg : decode cc pc = .ok (.getfield 10, 3)) (hq : pc + 3 = q) (kk : go p l e R s m args below meth c D (wC cI cZ cH a n) A cells slots Qf nL q lv ((.ref (a 1)) :: st) σ) : go p l e R s m args below meth c D (wC cI cZ cH a n) A cells slots Qf nL pc lv (.ref (a 0) :: st) σ := r_get X (q0 := 0) (ci := 5) (k := 0) q rfl rfl inX5 (by decide) rfl fl_X5_10 hdg hq kk
theorem g_X5_19 (X : cx p s m args c cc nL RX5 D (wC cI cZ cH a n) A (tyW cI cZ cH)) (q : Nat) (hdg : decode cc pc = .ok (.getfield 19, 3)) (hq : pc + 3 = q) (kk : go p l e R s m args below meth c D (wC cI cZ cH a n) A cells slots Qf nL q lv ((.ref (a 7)) :: st) σ) : go p l e R s m args below meth c D (wC cI cZ cH a n) A cells slots Qf nL pc lv (.ref (a 0) :: st) σ := r_get X (q0 := 0) (ci := 5) (k := 1) q rfl rfl inX5 (by decide) rfl fl_X5_19 hdg hq kk
theorem g_X5_23 (X : cx p s m args c cc nL RX5 D (wC cI cZ cH a n) A (tyW cI cZ cH)) (q : Nat) (hdg : decode cc pc = .ok (.getfield 23, 3)) (hq : pc + 3 = q) (kk : go p l e R s m args below meth c D (wC cI cZ cH a n) A cells slots Qf nL q lv ((.ref (a 10)) :: st) σ) : go p l e R s m args below meth c D (wC cI cZ cH a n) A cells slots Qf nL pc lv (.ref (a 0) :: st) σ := r_get X (q0 := 0) (ci := 5) (k := 2) q rfl rfl inX5 (by decide) rfl fl_X5_23 hdg hq kk
theorem g_X5_31 (X : cx p s m args c cc nL RX5 D (wC cI cZ cH a n) A (tyW cI cZ cH)) (q : Nat) (hdg : decode cc pc = .ok (.getfield 31, 3)) (hq : pc + 3 = q) (kk : go p l e R s m args below meth c D (wC cI cZ cH a n) A cells slots Qf nL q lv ((.ref (a 13)) :: st) σ) : go p l e R s m args below meth c D (wC cI cZ cH a n) A cells slots Qf nL pc lv (.ref (a 0) :: st) σ := r_get X (q0 := 0) (ci := 5) (k := 3) q rfl rfl inX5 (by decide) rfl fl_X5_31 hdg hq kk
theorem g_X5_40 (X : cx p s m args c cc nL RX5 D (wC cI cZ cH a n) A (tyW cI cZ cH)) (q : Nat) (hdg : decode cc pc = .ok (.getfield 40, 3)) (hq : pc + 3 = q) (kk : go p l e R s m args below meth c D (wC cI cZ cH a n) A cells slots Qf nL q lv ((.ref (a 26)) :: st) σ) : go p l e R s m args below meth c D (wC cI cZ cH a n) A cells slots Qf nL pc lv (.ref (a 0) :: st) σ := r_get X (q0 := 0) (ci := 5) (k := 4) q rfl rfl inX5 (by decide) rfl fl_X5_40 hdg hq kk
theorem g_X5_46 (X : cx p s m args c cc nL RX5 D (wC cI cZ cH a n) A (tyW cI cZ cH)) (q : Nat) (hdg : decode cc pc = .ok (.getfield 46, 3)) (hq : pc + 3 = q) (kk : go p l e R s m args below meth c D (wC cI cZ cH a n) A cells slots Qf nL q lv ((.ref (a 28)) :: st) σ) : go p l e R s m args below meth c D (wC cI cZ cH a n) A cells slots Qf nL pc lv (.ref (a 0) :: st) σ := r_get X (q0 := 0) (ci := 5) (k := 5) q rfl rfl inX5 (by decide) rfl fl_X5_46 hdg hq kk
theorem g_X5_50 (X : cx p s m args c cc nL RX5 D (wC cI cZ cH a n) A (tyW cI cZ cH)) (q : Nat) (hdg : decode cc pc = .ok (.getfield 50, 3)) (hq : pc + 3 = q) (kk : go p l e R s m args below meth c D (wC cI cZ cH a n) A cells slots Qf nL q lv ((.ref (a 29)) :: st) σ) : go p l e R s m args below meth c D (wC cI cZ cH a n) A cells slots Qf nL pc lv (.ref (a 0) :: st) σ := r_get X (q0 := 0) (ci := 5) (k := 6) q rfl rfl inX5 (by decide) rfl fl_X5_50 hdg hq kk
theorem g_X5_97 (X : cx p s m args c cc nL RX5 D (wC cI cZ cH a n) A (tyW cI cZ cH)) (q : Nat) (hdg : decode cc pc = .ok (.getfield 97, 3)) (hq : pc + 3 = q) (kk : go p l e R s m args below meth c D (wC cI cZ cH a n) A cells slots Qf nL q lv ((.int (σ 0 7)) :: st) σ) : go p l e R s m args below meth c D (wC cI cZ cH a n) A cells slots Qf nL pc lv (.ref (a 0) :: st) σ := r_get X (q0 := 0) (ci := 5) (k := 7) q rfl rfl inX5 (by decide) rfl fl_X5_97 hdg hq kk
theorem u_X5_97 (X : cx p s m args c cc nL RX5 D (wC cI cZ cH a n) A (tyW cI cZ cH)) {v : Int32} (q : Nat) (hdg : decode cc pc = .ok (.putfield 97, 3)) (hq : pc + 3 = q) (kk : go p l e R s m args below meth c D (wC cI cZ cH a n) A cells slots Qf nL q lv st (up2 σ 0 7 v)) : go p l e R s m args below meth c D (wC cI cZ cH a n) A cells slots Qf nL pc lv (.int v :: .ref (a 0) :: st) σ := r_put X (q0 := 0) (ci := 5) (k := 7) (ty := .int) (ty0 := tyX5) q rfl rfl inX5 tyX5_ok nmX5 (by decide) fl_X5_97 rfl (by decide +kernel) (vp_nar_int v) rfl (Nat.le_of_ble_eq_true rfl) rfl hdg hq kk
theorem g_X5_155 (X : cx p s m args c cc nL RX5 D (wC cI cZ cH a n) A (tyW cI cZ cH)) (q : Nat) (hdg : decode cc pc = .ok (.getfield 155, 3)) (hq : pc + 3 = q) (kk : go p l e R s m args below meth c D (wC cI cZ cH a n) A cells slots Qf nL q lv ((.int (σ 0 8)) :: st) σ) : go p l e R s m args below meth c D (wC cI cZ cH a n) A cells slots Qf nL pc lv (.ref (a 0) :: st) σ := r_get X (q0 := 0) (ci := 5) (k := 8) q rfl rfl inX5 (by decide) rfl fl_X5_155 hdg hq kk
theorem u_X5_155 (X : cx p s m args c cc nL RX5 D (wC cI cZ cH a n) A (tyW cI cZ cH)) {v : Int32} (hb9 : isB v) (q : Nat) (hdg : decode cc pc = .ok (.putfield 155, 3)) (hq : pc + 3 = q) (kk : go p l e R s m args below meth c D (wC cI cZ cH a n) A cells slots Qf nL q lv st (up2 σ 0 8 v)) : go p l e R s m args below meth c D (wC cI cZ cH a n) A cells slots Qf nL pc lv (.int v :: .ref (a 0) :: st) σ := r_put X (q0 := 0) (ci := 5) (k := 8) (ty := .boolean) (ty0 := tyX5) q rfl rfl inX5 tyX5_ok nmX5 (by decide) fl_X5_155 rfl (by decide +kernel) (isB_nar hb9) (by rcases hb9 with rfl | rfl <;> decide +kernel) (Nat.le_of_ble_eq_true rfl) rfl hdg hq kk
theorem g_X5_83 (X : cx p s m args c cc nL RX5 D (wC cI cZ cH a n) A (tyW cI cZ cH)) (q : Nat) (hdg : decode cc pc = .ok (.getfield 83, 3)) (hq : pc + 3 = q) (kk : go p l e R s m args below meth c D (wC cI cZ cH a n) A cells slots Qf nL q lv ((.int (σ 0 9)) :: st) σ) : go p l e R s m args below meth c D (wC cI cZ cH a n) A cells slots Qf nL pc lv (.ref (a 0) :: st) σ := r_get X (q0 := 0) (ci := 5) (k := 9) q rfl rfl inX5 (by decide) rfl fl_X5_83 hdg hq kk
theorem u_X5_83 (X : cx p s m args c cc nL RX5 D (wC cI cZ cH a n) A (tyW cI cZ cH)) {v : Int32} (q : Nat) (hdg : decode cc pc = .ok (.putfield 83, 3)) (hq : pc + 3 = q) (kk : go p l e R s m args below meth c D (wC cI cZ cH a n) A cells slots Qf nL q lv st (up2 σ 0 9 v)) : go p l e R s m args below meth c D (wC cI cZ cH a n) A cells slots Qf nL pc lv (.int v :: .ref (a 0) :: st) σ := r_put X (q0 := 0) (ci := 5) (k := 9) (ty := .int) (ty0 := tyX5) q rfl rfl inX5 tyX5_ok nmX5 (by decide) fl_X5_83 rfl (by decide +kernel) (vp_nar_int v) rfl (Nat.le_of_ble_eq_true rfl) rfl hdg hq kk
theorem g_X5_54 (X : cx p s m args c cc nL RX5 D (wC cI cZ cH a n) A (tyW cI cZ cH)) (q : Nat) (hdg : decode cc pc = .ok (.getfield 54, 3)) (hq : pc + 3 = q) (kk : go p l e R s m args below meth c D (wC cI cZ cH a n) A cells slots Qf nL q lv ((.int (σ 0 10)) :: st) σ) : go p l e R s m args below meth c D (wC cI cZ cH a n) A cells slots Qf nL pc lv (.ref (a 0) :: st) σ := r_get X (q0 := 0) (ci := 5) (k := 10) q rfl rfl inX5 (by decide) rfl fl_X5_54 hdg hq kk
theorem u_X5_54 (X : cx p s m args c cc nL RX5 D (wC cI cZ cH a n) A (tyW cI cZ cH)) {v : Int32} (q : Nat) (hdg : decode cc pc = .ok (.putfield 54, 3)) (hq : pc + 3 = q) (kk : go p l e R s m args below meth c D (wC cI cZ cH a n) A cells slots Qf nL q lv st (up2 σ 0 10 v)) : go p l e R s m args below meth c D (wC cI cZ cH a n) A cells slots Qf nL pc lv (.int v :: .ref (a 0) :: st) σ := r_put X (q0 := 0) (ci := 5) (k := 10) (ty := .int) (ty0 := tyX5) q rfl rfl inX5 tyX5_ok nmX5 (by decide) fl_X5_54 rfl (by decide +kernel) (vp_nar_int v) rfl (Nat.le_of_ble_eq_true rfl) rfl hdg hq kk
theorem g_X5_58 (X : cx p s m args c cc nL RX5 D (wC cI cZ cH a n) A (tyW cI cZ cH)) (q : Nat) (hdg : decode cc pc = .ok (.getfield 58, 3)) (hq : pc + 3 = q) (kk : go p l e R s m args below meth c D (wC cI cZ cH a n) A cells slots Qf nL q lv ((.int (σ 0 11)) :: st) σ) : go p l e R s m args below meth c D (wC cI cZ cH a n) A cells slots Qf nL pc lv (.ref (a 0) :: st) σ := r_get X (q0 := 0) (ci := 5) (k := 11) q rfl rfl inX5 (by decide) rfl fl_X5_58 hdg hq kk
theorem u_X5_58 (X : cx p s m args c cc nL RX5 D (wC cI cZ cH a n) A (tyW cI cZ cH)) {v : Int32} (q : Nat) (hdg : decode cc pc = .ok (.putfield 58, 3)) (hq : pc + 3 = q) (kk : go p l e R s m args below meth c D (wC cI cZ cH a n) A cells slots Qf nL q lv st (up2 σ 0 11 v)) : go p l e R s m args below meth c D (wC cI cZ cH a n) A cells slots Qf nL pc lv (.int v :: .ref (a 0) :: st) σ := r_put X (q0 := 0) (ci := 5) (k := 11) (ty := .int) (ty0 := tyX5) q rfl rfl inX5 tyX5_ok nmX5 (by decide) fl_X5_58 rfl (by decide +kernel) (vp_nar_int v) rfl (Nat.le_of_ble_eq_true rfl) rfl hdg hq kk
theorem g_X0_18 (X : cx p s m args c cc nL RX0 D (wC cI cZ cH a n) A (tyW cI cZ cH)) {i : Nat} (hi : i < n) (q : Nat) (hdg : decode cc pc = .ok (.getfield 18, 3)) (hq : pc + 3 = q) (kk : go p l e R s m args below meth c D (wC cI cZ cH a n) A cells slots Qf nL q lv ((.int (σ 30 (7 * i))) :: st) σ) : go p l e R s m args below meth c D (wC cI cZ cH a n) A cells slots Qf nL pc lv (.ref (a (30 + i)) :: st) σ := r_get X (q0 := 30 + i) (ci := 0) (k := 0) q (wC_pl hi) rfl inX0 (by decide) rfl fl_X0_18 hdg hq kk
theorem g_X5_127 (X : cx p s m args c cc nL RX5 D (wC cI cZ cH a n) A (tyW cI cZ cH)) {i : Nat} (hi : i < n) (q : Nat) (hdg : decode cc pc = .ok (.getfield 127, 3)) (hq : pc + 3 = q) (kk : go p l e R s m args below meth c D (wC cI cZ cH a n) A cells slots Qf nL q lv ((.int (σ 30 (7 * i))) :: st) σ) : go p l e R s m args below meth c D (wC cI cZ cH a n) A cells slots Qf nL pc lv (.ref (a (30 + i)) :: st) σ := r_getN X (q0 := 30 + i) (ci := 0) (k := 0) q (wC_pl hi) rfl inX0 (by decide) rfl fl_X5_127 hdg hq kk
theorem g_X0_21 (X : cx p s m args c cc nL RX0 D (wC cI cZ cH a n) A (tyW cI cZ cH)) {i : Nat} (hi : i < n) (q : Nat) (hdg : decode cc pc = .ok (.getfield 21, 3)) (hq : pc + 3 = q) (kk : go p l e R s m args below meth c D (wC cI cZ cH a n) A cells slots Qf nL q lv ((.int (σ 30 (7 * i + 1))) :: st) σ) : go p l e R s m args below meth c D (wC cI cZ cH a n) A cells slots Qf nL pc lv (.ref (a (30 + i)) :: st) σ := r_get X (q0 := 30 + i) (ci := 0) (k := 1) q (wC_pl hi) rfl inX0 (by decide) rfl fl_X0_21 hdg hq kk
theorem g_X5_130 (X : cx p s m args c cc nL RX5 D (wC cI cZ cH a n) A (tyW cI cZ cH)) {i : Nat} (hi : i < n) (q : Nat) (hdg : decode cc pc = .ok (.getfield 130, 3)) (hq : pc + 3 = q) (kk : go p l e R s m args below meth c D (wC cI cZ cH a n) A cells slots Qf nL q lv ((.int (σ 30 (7 * i + 1))) :: st) σ) : go p l e R s m args below meth c D (wC cI cZ cH a n) A cells slots Qf nL pc lv (.ref (a (30 + i)) :: st) σ := r_getN X (q0 := 30 + i) (ci := 0) (k := 1) q (wC_pl hi) rfl inX0 (by decide) rfl fl_X5_130 hdg hq kk
theorem g_X0_24 (X : cx p s m args c cc nL RX0 D (wC cI cZ cH a n) A (tyW cI cZ cH)) {i : Nat} (hi : i < n) (q : Nat) (hdg : decode cc pc = .ok (.getfield 24, 3)) (hq : pc + 3 = q) (kk : go p l e R s m args below meth c D (wC cI cZ cH a n) A cells slots Qf nL q lv ((.int (σ 30 (7 * i + 2))) :: st) σ) : go p l e R s m args below meth c D (wC cI cZ cH a n) A cells slots Qf nL pc lv (.ref (a (30 + i)) :: st) σ := r_get X (q0 := 30 + i) (ci := 0) (k := 2) q (wC_pl hi) rfl inX0 (by decide) rfl fl_X0_24 hdg hq kk
theorem g_X5_133 (X : cx p s m args c cc nL RX5 D (wC cI cZ cH a n) A (tyW cI cZ cH)) {i : Nat} (hi : i < n) (q : Nat) (hdg : decode cc pc = .ok (.getfield 133, 3)) (hq : pc + 3 = q) (kk : go p l e R s m args below meth c D (wC cI cZ cH a n) A cells slots Qf nL q lv ((.int (σ 30 (7 * i + 2))) :: st) σ) : go p l e R s m args below meth c D (wC cI cZ cH a n) A cells slots Qf nL pc lv (.ref (a (30 + i)) :: st) σ := r_getN X (q0 := 30 + i) (ci := 0) (k := 2) q (wC_pl hi) rfl inX0 (by decide) rfl fl_X5_133 hdg hq kk
theorem g_X0_27 (X : cx p s m args c cc nL RX0 D (wC cI cZ cH a n) A (tyW cI cZ cH)) {i : Nat} (hi : i < n) (q : Nat) (hdg : decode cc pc = .ok (.getfield 27, 3)) (hq : pc + 3 = q) (kk : go p l e R s m args below meth c D (wC cI cZ cH a n) A cells slots Qf nL q lv ((.int (σ 30 (7 * i + 3))) :: st) σ) : go p l e R s m args below meth c D (wC cI cZ cH a n) A cells slots Qf nL pc lv (.ref (a (30 + i)) :: st) σ := r_get X (q0 := 30 + i) (ci := 0) (k := 3) q (wC_pl hi) rfl inX0 (by decide) rfl fl_X0_27 hdg hq kk
theorem g_X5_110 (X : cx p s m args c cc nL RX5 D (wC cI cZ cH a n) A (tyW cI cZ cH)) {i : Nat} (hi : i < n) (q : Nat) (hdg : decode cc pc = .ok (.getfield 110, 3)) (hq : pc + 3 = q) (kk : go p l e R s m args below meth c D (wC cI cZ cH a n) A cells slots Qf nL q lv ((.int (σ 30 (7 * i + 3))) :: st) σ) : go p l e R s m args below meth c D (wC cI cZ cH a n) A cells slots Qf nL pc lv (.ref (a (30 + i)) :: st) σ := r_getN X (q0 := 30 + i) (ci := 0) (k := 3) q (wC_pl hi) rfl inX0 (by decide) rfl fl_X5_110 hdg hq kk
theorem g_X0_9 (X : cx p s m args c cc nL RX0 D (wC cI cZ cH a n) A (tyW cI cZ cH)) {i : Nat} (hi : i < n) (q : Nat) (hdg : decode cc pc = .ok (.getfield 9, 3)) (hq : pc + 3 = q) (kk : go p l e R s m args below meth c D (wC cI cZ cH a n) A cells slots Qf nL q lv ((.int (σ 30 (7 * i + 4))) :: st) σ) : go p l e R s m args below meth c D (wC cI cZ cH a n) A cells slots Qf nL pc lv (.ref (a (30 + i)) :: st) σ := r_get X (q0 := 30 + i) (ci := 0) (k := 4) q (wC_pl hi) rfl inX0 (by decide) rfl fl_X0_9 hdg hq kk
theorem u_X0_9 (X : cx p s m args c cc nL RX0 D (wC cI cZ cH a n) A (tyW cI cZ cH)) {i : Nat} (hi : i < n) {v : Int32} (q : Nat) (hdg : decode cc pc = .ok (.putfield 9, 3)) (hq : pc + 3 = q) (kk : go p l e R s m args below meth c D (wC cI cZ cH a n) A cells slots Qf nL q lv st (up2 σ 30 (7 * i + 4) v)) : go p l e R s m args below meth c D (wC cI cZ cH a n) A cells slots Qf nL pc lv (.int v :: .ref (a (30 + i)) :: st) σ := r_put X (q0 := 30 + i) (ci := 0) (k := 4) (ty := .int) (ty0 := tyX0) q (wC_pl hi) rfl inX0 tyX0_ok nmX0 (by decide) fl_X0_9 rfl (by decide +kernel) (vp_nar_int v) rfl (Nat.le_of_ble_eq_true rfl) (wC_pl_set hi 4 (by decide) rfl) hdg hq kk
theorem g_X0_15 (X : cx p s m args c cc nL RX0 D (wC cI cZ cH a n) A (tyW cI cZ cH)) {i : Nat} (hi : i < n) (q : Nat) (hdg : decode cc pc = .ok (.getfield 15, 3)) (hq : pc + 3 = q) (kk : go p l e R s m args below meth c D (wC cI cZ cH a n) A cells slots Qf nL q lv ((.int (σ 30 (7 * i + 5))) :: st) σ) : go p l e R s m args below meth c D (wC cI cZ cH a n) A cells slots Qf nL pc lv (.ref (a (30 + i)) :: st) σ := r_get X (q0 := 30 + i) (ci := 0) (k := 5) q (wC_pl hi) rfl inX0 (by decide) rfl fl_X0_15 hdg hq kk
theorem u_X0_15 (X : cx p s m args c cc nL RX0 D (wC cI cZ cH a n) A (tyW cI cZ cH)) {i : Nat} (hi : i < n) {v : Int32} (q : Nat) (hdg : decode cc pc = .ok (.putfield 15, 3)) (hq : pc + 3 = q) (kk : go p l e R s m args below meth c D (wC cI cZ cH a n) A cells slots Qf nL q lv st (up2 σ 30 (7 * i + 5) v)) : go p l e R s m args below meth c D (wC cI cZ cH a n) A cells slots Qf nL pc lv (.int v :: .ref (a (30 + i)) :: st) σ := r_put X (q0 := 30 + i) (ci := 0) (k := 5) (ty := .int) (ty0 := tyX0) q (wC_pl hi) rfl inX0 tyX0_ok nmX0 (by decide) fl_X0_15 rfl (by decide +kernel) (vp_nar_int v) rfl (Nat.le_of_ble_eq_true rfl) (wC_pl_set hi 5 (by decide) rfl) hdg hq kk
theorem g_X0_30 (X : cx p s m args c cc nL RX0 D (wC cI cZ cH a n) A (tyW cI cZ cH)) {i : Nat} (hi : i < n) (q : Nat) (hdg : decode cc pc = .ok (.getfield 30, 3)) (hq : pc + 3 = q) (kk : go p l e R s m args below meth c D (wC cI cZ cH a n) A cells slots Qf nL q lv ((.int (σ 30 (7 * i + 6))) :: st) σ) : go p l e R s m args below meth c D (wC cI cZ cH a n) A cells slots Qf nL pc lv (.ref (a (30 + i)) :: st) σ := r_get X (q0 := 30 + i) (ci := 0) (k := 6) q (wC_pl hi) rfl inX0 (by decide) rfl fl_X0_30 hdg hq kk
theorem u_X0_30 (X : cx p s m args c cc nL RX0 D (wC cI cZ cH a n) A (tyW cI cZ cH)) {i : Nat} (hi : i < n) {v : Int32} (hb9 : isB v) (q : Nat) (hdg : decode cc pc = .ok (.putfield 30, 3)) (hq : pc + 3 = q) (kk : go p l e R s m args below meth c D (wC cI cZ cH a n) A cells slots Qf nL q lv st (up2 σ 30 (7 * i + 6) v)) : go p l e R s m args below meth c D (wC cI cZ cH a n) A cells slots Qf nL pc lv (.int v :: .ref (a (30 + i)) :: st) σ := r_put X (q0 := 30 + i) (ci := 0) (k := 6) (ty := .boolean) (ty0 := tyX0) q (wC_pl hi) rfl inX0 tyX0_ok nmX0 (by decide) fl_X0_30 rfl (by decide +kernel) (isB_nar hb9) (by rcases hb9 with rfl | rfl <;> decide +kernel) (Nat.le_of_ble_eq_true rfl) (wC_pl_set hi 6 (by decide) rfl) hdg hq kk
theorem g_X5_136 (X : cx p s m args c cc nL RX5 D (wC cI cZ cH a n) A (tyW cI cZ cH)) {i : Nat} (hi : i < n) (q : Nat) (hdg : decode cc pc = .ok (.getfield 136, 3)) (hq : pc + 3 = q) (kk : go p l e R s m args below meth c D (wC cI cZ cH a n) A cells slots Qf nL q lv ((.int (σ 30 (7 * i + 6))) :: st) σ) : go p l e R s m args below meth c D (wC cI cZ cH a n) A cells slots Qf nL pc lv (.ref (a (30 + i)) :: st) σ := r_getN X (q0 := 30 + i) (ci := 0) (k := 6) q (wC_pl hi) rfl inX0 (by decide) rfl fl_X5_136 hdg hq kk
theorem u_X5_136 (X : cx p s m args c cc nL RX5 D (wC cI cZ cH a n) A (tyW cI cZ cH)) {i : Nat} (hi : i < n) {v : Int32} (hb9 : isB v) (q : Nat) (hdg : decode cc pc = .ok (.putfield 136, 3)) (hq : pc + 3 = q) (kk : go p l e R s m args below meth c D (wC cI cZ cH a n) A cells slots Qf nL q lv st (up2 σ 30 (7 * i + 6) v)) : go p l e R s m args below meth c D (wC cI cZ cH a n) A cells slots Qf nL pc lv (.int v :: .ref (a (30 + i)) :: st) σ := r_putN X (q0 := 30 + i) (ci := 0) (k := 6) (ty := .boolean) (ty0 := tyX0) q (wC_pl hi) rfl inX0 tyX0_ok nmX0 (by decide) fl_X5_136 rfl (by decide +kernel) (isB_nar hb9) (by rcases hb9 with rfl | rfl <;> decide +kernel) (Nat.le_of_ble_eq_true rfl) (wC_pl_set hi 6 (by decide) rfl) hdg hq kk
theorem l_C2 (X : cx p s m args c cc nL own D (wC cI cZ cH a n) A (tyW cI cZ cH)) {i9 : Int32} (q : Nat) (hin : vp_in i9 20) (hdg : decode cc pc = .ok (.baload, 1)) (hq : pc + 1 = q) (kk : go p l e R s m args below meth c D (wC cI cZ cH a n) A cells slots Qf nL q lv (.int (σ 2 (ix i9)) :: st) σ) : go p l e R s m args below meth c D (wC cI cZ cH a n) A cells slots Qf nL pc lv (.int i9 :: .ref (a 2) :: st) σ := r_zald X (q0 := 2) (t0 := 1) q rfl rfl hin hdg hq kk
theorem s_C2 (X : cx p s m args c cc nL own D (wC cI cZ cH a n) A (tyW cI cZ cH)) {i9 x9 x8 : Int32} (hb9 : vp_nar .boolean x9 = x8) (q : Nat) (hin : vp_in i9 20) (hdg : decode cc pc = .ok (.bastore, 1)) (hq : pc + 1 = q) (kk : go p l e R s m args below meth c D (wC cI cZ cH a n) A cells slots Qf nL q lv st (up2 σ 2 (ix i9) x8)) : go p l e R s m args below meth c D (wC cI cZ cH a n) A cells slots Qf nL pc lv (.int x9 :: .int i9 :: .ref (a 2) :: st) σ := r_zast X (q0 := 2) (t0 := 1) q rfl rfl hin hb9 rfl hdg hq kk
theorem n_C2 (X : cx p s m args c cc nL own D (wC cI cZ cH a n) A (tyW cI cZ cH)) (q : Nat) (hdg : decode cc pc = .ok (.arraylength, 1)) (hq : pc + 1 = q) (kk : go p l e R s m args below meth c D (wC cI cZ cH a n) A cells slots Qf nL q lv (.int 20 :: st) σ) : go p l e R s m args below meth c D (wC cI cZ cH a n) A cells slots Qf nL pc lv (.ref (a 2) :: st) σ := r_alen X (q0 := 2) (t0 := 1) q rfl rfl rfl hdg hq kk
theorem l_C3 (X : cx p s m args c cc nL own D (wC cI cZ cH a n) A (tyW cI cZ cH)) {i9 : Int32} (q : Nat) (hin : vp_in i9 8) (hdg : decode cc pc = .ok (.baload, 1)) (hq : pc + 1 = q) (kk : go p l e R s m args below meth c D (wC cI cZ cH a n) A cells slots Qf nL q lv (.int (σ 3 (ix i9)) :: st) σ) : go p l e R s m args below meth c D (wC cI cZ cH a n) A cells slots Qf nL pc lv (.int i9 :: .ref (a 3) :: st) σ := r_zald X (q0 := 3) (t0 := 1) q rfl rfl hin hdg hq kk
theorem s_C3 (X : cx p s m args c cc nL own D (wC cI cZ cH a n) A (tyW cI cZ cH)) {i9 x9 x8 : Int32} (hb9 : vp_nar .boolean x9 = x8) (q : Nat) (hin : vp_in i9 8) (hdg : decode cc pc = .ok (.bastore, 1)) (hq : pc + 1 = q) (kk : go p l e R s m args below meth c D (wC cI cZ cH a n) A cells slots Qf nL q lv st (up2 σ 3 (ix i9) x8)) : go p l e R s m args below meth c D (wC cI cZ cH a n) A cells slots Qf nL pc lv (.int x9 :: .int i9 :: .ref (a 3) :: st) σ := r_zast X (q0 := 3) (t0 := 1) q rfl rfl hin hb9 rfl hdg hq kk
theorem n_C3 (X : cx p s m args c cc nL own D (wC cI cZ cH a n) A (tyW cI cZ cH)) (q : Nat) (hdg : decode cc pc = .ok (.arraylength, 1)) (hq : pc + 1 = q) (kk : go p l e R s m args below meth c D (wC cI cZ cH a n) A cells slots Qf nL q lv (.int 8 :: st) σ) : go p l e R s m args below meth c D (wC cI cZ cH a n) A cells slots Qf nL pc lv (.ref (a 3) :: st) σ := r_alen X (q0 := 3) (t0 := 1) q rfl rfl rfl hdg hq kk
theorem l_C4 (X : cx p s m args c cc nL own D (wC cI cZ cH a n) A (tyW cI cZ cH)) {i9 : Int32} (q : Nat) (hin : vp_in i9 6) (hdg : decode cc pc = .ok (.iaload, 1)) (hq : pc + 1 = q) (kk : go p l e R s m args below meth c D (wC cI cZ cH a n) A cells slots Qf nL q lv (.int (σ 4 (ix i9)) :: st) σ) : go p l e R s m args below meth c D (wC cI cZ cH a n) A cells slots Qf nL pc lv (.int i9 :: .ref (a 4) :: st) σ := r_iald X (q0 := 4) (t0 := 0) q rfl rfl hin hdg hq kk
theorem s_C4 (X : cx p s m args c cc nL own D (wC cI cZ cH a n) A (tyW cI cZ cH)) {i9 x9 : Int32} (q : Nat) (hin : vp_in i9 6) (hdg : decode cc pc = .ok (.iastore, 1)) (hq : pc + 1 = q) (kk : go p l e R s m args below meth c D (wC cI cZ cH a n) A cells slots Qf nL q lv st (up2 σ 4 (ix i9) x9)) : go p l e R s m args below meth c D (wC cI cZ cH a n) A cells slots Qf nL pc lv (.int x9 :: .int i9 :: .ref (a 4) :: st) σ := r_iast X (q0 := 4) (t0 := 0) q rfl rfl hin rfl hdg hq kk
theorem n_C4 (X : cx p s m args c cc nL own D (wC cI cZ cH a n) A (tyW cI cZ cH)) (q : Nat) (hdg : decode cc pc = .ok (.arraylength, 1)) (hq : pc + 1 = q) (kk : go p l e R s m args below meth c D (wC cI cZ cH a n) A cells slots Qf nL q lv (.int 6 :: st) σ) : go p l e R s m args below meth c D (wC cI cZ cH a n) A cells slots Qf nL pc lv (.ref (a 4) :: st) σ := r_alen X (q0 := 4) (t0 := 0) q rfl rfl rfl hdg hq kk
theorem l_C5 (X : cx p s m args c cc nL own D (wC cI cZ cH a n) A (tyW cI cZ cH)) {i9 : Int32} (q : Nat) (hin : vp_in i9 60) (hdg : decode cc pc = .ok (.iaload, 1)) (hq : pc + 1 = q) (kk : go p l e R s m args below meth c D (wC cI cZ cH a n) A cells slots Qf nL q lv (.int (σ 5 (ix i9)) :: st) σ) : go p l e R s m args below meth c D (wC cI cZ cH a n) A cells slots Qf nL pc lv (.int i9 :: .ref (a 5) :: st) σ := r_iald X (q0 := 5) (t0 := 0) q rfl rfl hin hdg hq kk
theorem s_C5 (X : cx p s m args c cc nL own D (wC cI cZ cH a n) A (tyW cI cZ cH)) {i9 x9 : Int32} (q : Nat) (hin : vp_in i9 60) (hdg : decode cc pc = .ok (.iastore, 1)) (hq : pc + 1 = q) (kk : go p l e R s m args below meth c D (wC cI cZ cH a n) A cells slots Qf nL q lv st (up2 σ 5 (ix i9) x9)) : go p l e R s m args below meth c D (wC cI cZ cH a n) A cells slots Qf nL pc lv (.int x9 :: .int i9 :: .ref (a 5) :: st) σ := r_iast X (q0 := 5) (t0 := 0) q rfl rfl hin rfl hdg hq kk
theorem n_C5 (X : cx p s m args c cc nL own D (wC cI cZ cH a n) A (tyW cI cZ cH)) (q : Nat) (hdg : decode cc pc = .ok (.arraylength, 1)) (hq : pc + 1 = q) (kk : go p l e R s m args below meth c D (wC cI cZ cH a n) A cells slots Qf nL q lv (.int 60 :: st) σ) : go p l e R s m args below meth c D (wC cI cZ cH a n) A cells slots Qf nL pc lv (.ref (a 5) :: st) σ := r_alen X (q0 := 5) (t0 := 0) q rfl rfl rfl hdg hq kk
theorem l_C6 (X : cx p s m args c cc nL own D (wC cI cZ cH a n) A (tyW cI cZ cH)) {i9 : Int32} (q : Nat) (hin : vp_in i9 60) (hdg : decode cc pc = .ok (.iaload, 1)) (hq : pc + 1 = q) (kk : go p l e R s m args below meth c D (wC cI cZ cH a n) A cells slots Qf nL q lv (.int (σ 6 (ix i9)) :: st) σ) : go p l e R s m args below meth c D (wC cI cZ cH a n) A cells slots Qf nL pc lv (.int i9 :: .ref (a 6) :: st) σ := r_iald X (q0 := 6) (t0 := 0) q rfl rfl hin hdg hq kk
theorem s_C6 (X : cx p s m args c cc nL own D (wC cI cZ cH a n) A (tyW cI cZ cH)) {i9 x9 : Int32} (q : Nat) (hin : vp_in i9 60) (hdg : decode cc pc = .ok (.iastore, 1)) (hq : pc + 1 = q) (kk : go p l e R s m args below meth c D (wC cI cZ cH a n) A cells slots Qf nL q lv st (up2 σ 6 (ix i9) x9)) : go p l e R s m args below meth c D (wC cI cZ cH a n) A cells slots Qf nL pc lv (.int x9 :: .int i9 :: .ref (a 6) :: st) σ := r_iast X (q0 := 6) (t0 := 0) q rfl rfl hin rfl hdg hq kk
theorem n_C6 (X : cx p s m args c cc nL own D (wC cI cZ cH a n) A (tyW cI cZ cH)) (q : Nat) (hdg : decode cc pc = .ok (.arraylength, 1)) (hq : pc + 1 = q) (kk : go p l e R s m args below meth c D (wC cI cZ cH a n) A cells slots Qf nL q lv (.int 60 :: st) σ) : go p l e R s m args below meth c D (wC cI cZ cH a n) A cells slots Qf nL pc lv (.ref (a 6) :: st) σ := r_alen X (q0 := 6) (t0 := 0) q rfl rfl rfl hdg hq kk
theorem l_C24 (X : cx p s m args c cc nL own D (wC cI cZ cH a n) A (tyW cI cZ cH)) {i9 : Int32} (q : Nat) (hin : vp_in i9 96) (hdg : decode cc pc = .ok (.iaload, 1)) (hq : pc + 1 = q) (kk : go p l e R s m args below meth c D (wC cI cZ cH a n) A cells slots Qf nL q lv (.int (σ 24 (ix i9)) :: st) σ) : go p l e R s m args below meth c D (wC cI cZ cH a n) A cells slots Qf nL pc lv (.int i9 :: .ref (a 24) :: st) σ := r_iald X (q0 := 24) (t0 := 0) q rfl rfl hin hdg hq kk
theorem s_C24 (X : cx p s m args c cc nL own D (wC cI cZ cH a n) A (tyW cI cZ cH)) {i9 x9 : Int32} (q : Nat) (hin : vp_in i9 96) (hdg : decode cc pc = .ok (.iastore, 1)) (hq : pc + 1 = q) (kk : go p l e R s m args below meth c D (wC cI cZ cH a n) A cells slots Qf nL q lv st (up2 σ 24 (ix i9) x9)) : go p l e R s m args below meth c D (wC cI cZ cH a n) A cells slots Qf nL pc lv (.int x9 :: .int i9 :: .ref (a 24) :: st) σ := r_iast X (q0 := 24) (t0 := 0) q rfl rfl hin rfl hdg hq kk
theorem n_C24 (X : cx p s m args c cc nL own D (wC cI cZ cH a n) A (tyW cI cZ cH)) (q : Nat) (hdg : decode cc pc = .ok (.arraylength, 1)) (hq : pc + 1 = q) (kk : go p l e R s m args below meth c D (wC cI cZ cH a n) A cells slots Qf nL q lv (.int 96 :: st) σ) : go p l e R s m args below meth c D (wC cI cZ cH a n) A cells slots Qf nL pc lv (.ref (a 24) :: st) σ := r_alen X (q0 := 24) (t0 := 0) q rfl rfl rfl hdg hq kk
theorem l_C25 (X : cx p s m args c cc nL own D (wC cI cZ cH a n) A (tyW cI cZ cH)) {i9 : Int32} (q : Nat) (hin : vp_in i9 600) (hdg : decode cc pc = .ok (.iaload, 1)) (hq : pc + 1 = q) (kk : go p l e R s m args below meth c D (wC cI cZ cH a n) A cells slots Qf nL q lv (.int (σ 25 (ix i9)) :: st) σ) : go p l e R s m args below meth c D (wC cI cZ cH a n) A cells slots Qf nL pc lv (.int i9 :: .ref (a 25) :: st) σ := r_iald X (q0 := 25) (t0 := 0) q rfl rfl hin hdg hq kk
theorem s_C25 (X : cx p s m args c cc nL own D (wC cI cZ cH a n) A (tyW cI cZ cH)) {i9 x9 : Int32} (q : Nat) (hin : vp_in i9 600) (hdg : decode cc pc = .ok (.iastore, 1)) (hq : pc + 1 = q) (kk : go p l e R s m args below meth c D (wC cI cZ cH a n) A cells slots Qf nL q lv st (up2 σ 25 (ix i9) x9)) : go p l e R s m args below meth c D (wC cI cZ cH a n) A cells slots Qf nL pc lv (.int x9 :: .int i9 :: .ref (a 25) :: st) σ := r_iast X (q0 := 25) (t0 := 0) q rfl rfl hin rfl hdg hq kk
theorem n_C25 (X : cx p s m args c cc nL own D (wC cI cZ cH a n) A (tyW cI cZ cH)) (q : Nat) (hdg : decode cc pc = .ok (.arraylength, 1)) (hq : pc + 1 = q) (kk : go p l e R s m args below meth c D (wC cI cZ cH a n) A cells slots Qf nL q lv (.int 600 :: st) σ) : go p l e R s m args below meth c D (wC cI cZ cH a n) A cells slots Qf nL pc lv (.ref (a 25) :: st) σ := r_alen X (q0 := 25) (t0 := 0) q rfl rfl rfl hdg hq kk
theorem l_C27 (X : cx p s m args c cc nL own D (wC cI cZ cH a n) A (tyW cI cZ cH)) {i9 : Int32} (q : Nat) (hin : vp_in i9 400) (hdg : decode cc pc = .ok (.iaload, 1)) (hq : pc + 1 = q) (kk : go p l e R s m args below meth c D (wC cI cZ cH a n) A cells slots Qf nL q lv (.int (σ 27 (ix i9)) :: st) σ) : go p l e R s m args below meth c D (wC cI cZ cH a n) A cells slots Qf nL pc lv (.int i9 :: .ref (a 27) :: st) σ := r_iald X (q0 := 27) (t0 := 0) q rfl rfl hin hdg hq kk
theorem s_C27 (X : cx p s m args c cc nL own D (wC cI cZ cH a n) A (tyW cI cZ cH)) {i9 x9 : Int32} (q : Nat) (hin : vp_in i9 400) (hdg : decode cc pc = .ok (.iastore, 1)) (hq : pc + 1 = q) (kk : go p l e R s m args below meth c D (wC cI cZ cH a n) A cells slots Qf nL q lv st (up2 σ 27 (ix i9) x9)) : go p l e R s m args below meth c D (wC cI cZ cH a n) A cells slots Qf nL pc lv (.int x9 :: .int i9 :: .ref (a 27) :: st) σ := r_iast X (q0 := 27) (t0 := 0) q rfl rfl hin rfl hdg hq kk
theorem n_C27 (X : cx p s m args c cc nL own D (wC cI cZ cH a n) A (tyW cI cZ cH)) (q : Nat) (hdg : decode cc pc = .ok (.arraylength, 1)) (hq : pc + 1 = q) (kk : go p l e R s m args below meth c D (wC cI cZ cH a n) A cells slots Qf nL q lv (.int 400 :: st) σ) : go p l e R s m args below meth c D (wC cI cZ cH a n) A cells slots Qf nL pc lv (.ref (a 27) :: st) σ := r_alen X (q0 := 27) (t0 := 0) q rfl rfl rfl hdg hq kk
theorem l_C29 (X : cx p s m args c cc nL own D (wC cI cZ cH a n) A (tyW cI cZ cH)) {i9 : Int32} (q : Nat) (hin : vp_in i9 8) (hdg : decode cc pc = .ok (.iaload, 1)) (hq : pc + 1 = q) (kk : go p l e R s m args below meth c D (wC cI cZ cH a n) A cells slots Qf nL q lv (.int (σ 29 (ix i9)) :: st) σ) : go p l e R s m args below meth c D (wC cI cZ cH a n) A cells slots Qf nL pc lv (.int i9 :: .ref (a 29) :: st) σ := r_iald X (q0 := 29) (t0 := 0) q rfl rfl hin hdg hq kk
theorem s_C29 (X : cx p s m args c cc nL own D (wC cI cZ cH a n) A (tyW cI cZ cH)) {i9 x9 : Int32} (q : Nat) (hin : vp_in i9 8) (hdg : decode cc pc = .ok (.iastore, 1)) (hq : pc + 1 = q) (kk : go p l e R s m args below meth c D (wC cI cZ cH a n) A cells slots Qf nL q lv st (up2 σ 29 (ix i9) x9)) : go p l e R s m args below meth c D (wC cI cZ cH a n) A cells slots Qf nL pc lv (.int x9 :: .int i9 :: .ref (a 29) :: st) σ := r_iast X (q0 := 29) (t0 := 0) q rfl rfl hin rfl hdg hq kk
theorem n_C29 (X : cx p s m args c cc nL own D (wC cI cZ cH a n) A (tyW cI cZ cH)) (q : Nat) (hdg : decode cc pc = .ok (.arraylength, 1)) (hq : pc + 1 = q) (kk : go p l e R s m args below meth c D (wC cI cZ cH a n) A cells slots Qf nL q lv (.int 8 :: st) σ) : go p l e R s m args below meth c D (wC cI cZ cH a n) A cells slots Qf nL pc lv (.ref (a 29) :: st) σ := r_alen X (q0 := 29) (t0 := 0) q rfl rfl rfl hdg hq kk
theorem l_C14 (X : cx p s m args c cc nL own D (wC cI cZ cH a n) A (tyW cI cZ cH)) {i9 : Int32} (q : Nat) (hin : vp_in i9 60) (hdg : decode cc pc = .ok (.iaload, 1)) (hq : pc + 1 = q) (kk : go p l e R s m args below meth c D (wC cI cZ cH a n) A cells slots Qf nL q lv (.int (σ 14 (ix i9)) :: st) σ) : go p l e R s m args below meth c D (wC cI cZ cH a n) A cells slots Qf nL pc lv (.int i9 :: .ref (a 14) :: st) σ := r_iald X (q0 := 14) (t0 := 0) q rfl rfl hin hdg hq kk
theorem s_C14 (X : cx p s m args c cc nL own D (wC cI cZ cH a n) A (tyW cI cZ cH)) {i9 x9 : Int32} (q : Nat) (hin : vp_in i9 60) (hdg : decode cc pc = .ok (.iastore, 1)) (hq : pc + 1 = q) (kk : go p l e R s m args below meth c D (wC cI cZ cH a n) A cells slots Qf nL q lv st (up2 σ 14 (ix i9) x9)) : go p l e R s m args below meth c D (wC cI cZ cH a n) A cells slots Qf nL pc lv (.int x9 :: .int i9 :: .ref (a 14) :: st) σ := r_iast X (q0 := 14) (t0 := 0) q rfl rfl hin rfl hdg hq kk
theorem n_C14 (X : cx p s m args c cc nL own D (wC cI cZ cH a n) A (tyW cI cZ cH)) (q : Nat) (hdg : decode cc pc = .ok (.arraylength, 1)) (hq : pc + 1 = q) (kk : go p l e R s m args below meth c D (wC cI cZ cH a n) A cells slots Qf nL q lv (.int 60 :: st) σ) : go p l e R s m args below meth c D (wC cI cZ cH a n) A cells slots Qf nL pc lv (.ref (a 14) :: st) σ := r_alen X (q0 := 14) (t0 := 0) q rfl rfl rfl hdg hq kk
theorem l_C15 (X : cx p s m args c cc nL own D (wC cI cZ cH a n) A (tyW cI cZ cH)) {i9 : Int32} (q : Nat) (hin : vp_in i9 60) (hdg : decode cc pc = .ok (.iaload, 1)) (hq : pc + 1 = q) (kk : go p l e R s m args below meth c D (wC cI cZ cH a n) A cells slots Qf nL q lv (.int (σ 15 (ix i9)) :: st) σ) : go p l e R s m args below meth c D (wC cI cZ cH a n) A cells slots Qf nL pc lv (.int i9 :: .ref (a 15) :: st) σ := r_iald X (q0 := 15) (t0 := 0) q rfl rfl hin hdg hq kk
theorem s_C15 (X : cx p s m args c cc nL own D (wC cI cZ cH a n) A (tyW cI cZ cH)) {i9 x9 : Int32} (q : Nat) (hin : vp_in i9 60) (hdg : decode cc pc = .ok (.iastore, 1)) (hq : pc + 1 = q) (kk : go p l e R s m args below meth c D (wC cI cZ cH a n) A cells slots Qf nL q lv st (up2 σ 15 (ix i9) x9)) : go p l e R s m args below meth c D (wC cI cZ cH a n) A cells slots Qf nL pc lv (.int x9 :: .int i9 :: .ref (a 15) :: st) σ := r_iast X (q0 := 15) (t0 := 0) q rfl rfl hin rfl hdg hq kk
theorem n_C15 (X : cx p s m args c cc nL own D (wC cI cZ cH a n) A (tyW cI cZ cH)) (q : Nat) (hdg : decode cc pc = .ok (.arraylength, 1)) (hq : pc + 1 = q) (kk : go p l e R s m args below meth c D (wC cI cZ cH a n) A cells slots Qf nL q lv (.int 60 :: st) σ) : go p l e R s m args below meth c D (wC cI cZ cH a n) A cells slots Qf nL pc lv (.ref (a 15) :: st) σ := r_alen X (q0 := 15) (t0 := 0) q rfl rfl rfl hdg hq kk
theorem l_C16 (X : cx p s m args c cc nL own D (wC cI cZ cH a n) A (tyW cI cZ cH)) {i9 : Int32} (q : Nat) (hin : vp_in i9 60) (hdg : decode cc pc = .ok (.iaload, 1)) (hq : pc + 1 = q) (kk : go p l e R s m args below meth c D (wC cI cZ cH a n) A cells slots Qf nL q lv (.int (σ 16 (ix i9)) :: st) σ) : go p l e R s m args below meth c D (wC cI cZ cH a n) A cells slots Qf nL pc lv (.int i9 :: .ref (a 16) :: st) σ := r_iald X (q0 := 16) (t0 := 0) q rfl rfl hin hdg hq kk
theorem s_C16 (X : cx p s m args c cc nL own D (wC cI cZ cH a n) A (tyW cI cZ cH)) {i9 x9 : Int32} (q : Nat) (hin : vp_in i9 60) (hdg : decode cc pc = .ok (.iastore, 1)) (hq : pc + 1 = q) (kk : go p l e R s m args below meth c D (wC cI cZ cH a n) A cells slots Qf nL q lv st (up2 σ 16 (ix i9) x9)) : go p l e R s m args below meth c D (wC cI cZ cH a n) A cells slots Qf nL pc lv (.int x9 :: .int i9 :: .ref (a 16) :: st) σ := r_iast X (q0 := 16) (t0 := 0) q rfl rfl hin rfl hdg hq kk
theorem n_C16 (X : cx p s m args c cc nL own D (wC cI cZ cH a n) A (tyW cI cZ cH)) (q : Nat) (hdg : decode cc pc = .ok (.arraylength, 1)) (hq : pc + 1 = q) (kk : go p l e R s m args below meth c D (wC cI cZ cH a n) A cells slots Qf nL q lv (.int 60 :: st) σ) : go p l e R s m args below meth c D (wC cI cZ cH a n) A cells slots Qf nL pc lv (.ref (a 16) :: st) σ := r_alen X (q0 := 16) (t0 := 0) q rfl rfl rfl hdg hq kk
theorem l_C17 (X : cx p s m args c cc nL own D (wC cI cZ cH a n) A (tyW cI cZ cH)) {i9 : Int32} (q : Nat) (hin : vp_in i9 60) (hdg : decode cc pc = .ok (.iaload, 1)) (hq : pc + 1 = q) (kk : go p l e R s m args below meth c D (wC cI cZ cH a n) A cells slots Qf nL q lv (.int (σ 17 (ix i9)) :: st) σ) : go p l e R s m args below meth c D (wC cI cZ cH a n) A cells slots Qf nL pc lv (.int i9 :: .ref (a 17) :: st) σ := r_iald X (q0 := 17) (t0 := 0) q rfl rfl hin hdg hq kk
theorem s_C17 (X : cx p s m args c cc nL own D (wC cI cZ cH a n) A (tyW cI cZ cH)) {i9 x9 : Int32} (q : Nat) (hin : vp_in i9 60) (hdg : decode cc pc = .ok (.iastore, 1)) (hq : pc + 1 = q) (kk : go p l e R s m args below meth c D (wC cI cZ cH a n) A cells slots Qf nL q lv st (up2 σ 17 (ix i9) x9)) : go p l e R s m args below meth c D (wC cI cZ cH a n) A cells slots Qf nL pc lv (.int x9 :: .int i9 :: .ref (a 17) :: st) σ := r_iast X (q0 := 17) (t0 := 0) q rfl rfl hin rfl hdg hq kk
theorem n_C17 (X : cx p s m args c cc nL own D (wC cI cZ cH a n) A (tyW cI cZ cH)) (q : Nat) (hdg : decode cc pc = .ok (.arraylength, 1)) (hq : pc + 1 = q) (kk : go p l e R s m args below meth c D (wC cI cZ cH a n) A cells slots Qf nL q lv (.int 60 :: st) σ) : go p l e R s m args below meth c D (wC cI cZ cH a n) A cells slots Qf nL pc lv (.ref (a 17) :: st) σ := r_alen X (q0 := 17) (t0 := 0) q rfl rfl rfl hdg hq kk
theorem l_C18 (X : cx p s m args c cc nL own D (wC cI cZ cH a n) A (tyW cI cZ cH)) {i9 : Int32} (q : Nat) (hin : vp_in i9 60) (hdg : decode cc pc = .ok (.iaload, 1)) (hq : pc + 1 = q) (kk : go p l e R s m args below meth c D (wC cI cZ cH a n) A cells slots Qf nL q lv (.int (σ 18 (ix i9)) :: st) σ) : go p l e R s m args below meth c D (wC cI cZ cH a n) A cells slots Qf nL pc lv (.int i9 :: .ref (a 18) :: st) σ := r_iald X (q0 := 18) (t0 := 0) q rfl rfl hin hdg hq kk
theorem s_C18 (X : cx p s m args c cc nL own D (wC cI cZ cH a n) A (tyW cI cZ cH)) {i9 x9 : Int32} (q : Nat) (hin : vp_in i9 60) (hdg : decode cc pc = .ok (.iastore, 1)) (hq : pc + 1 = q) (kk : go p l e R s m args below meth c D (wC cI cZ cH a n) A cells slots Qf nL q lv st (up2 σ 18 (ix i9) x9)) : go p l e R s m args below meth c D (wC cI cZ cH a n) A cells slots Qf nL pc lv (.int x9 :: .int i9 :: .ref (a 18) :: st) σ := r_iast X (q0 := 18) (t0 := 0) q rfl rfl hin rfl hdg hq kk
theorem n_C18 (X : cx p s m args c cc nL own D (wC cI cZ cH a n) A (tyW cI cZ cH)) (q : Nat) (hdg : decode cc pc = .ok (.arraylength, 1)) (hq : pc + 1 = q) (kk : go p l e R s m args below meth c D (wC cI cZ cH a n) A cells slots Qf nL q lv (.int 60 :: st) σ) : go p l e R s m args below meth c D (wC cI cZ cH a n) A cells slots Qf nL pc lv (.ref (a 18) :: st) σ := r_alen X (q0 := 18) (t0 := 0) q rfl rfl rfl hdg hq kk
theorem l_C19 (X : cx p s m args c cc nL own D (wC cI cZ cH a n) A (tyW cI cZ cH)) {i9 : Int32} (q : Nat) (hin : vp_in i9 60) (hdg : decode cc pc = .ok (.iaload, 1)) (hq : pc + 1 = q) (kk : go p l e R s m args below meth c D (wC cI cZ cH a n) A cells slots Qf nL q lv (.int (σ 19 (ix i9)) :: st) σ) : go p l e R s m args below meth c D (wC cI cZ cH a n) A cells slots Qf nL pc lv (.int i9 :: .ref (a 19) :: st) σ := r_iald X (q0 := 19) (t0 := 0) q rfl rfl hin hdg hq kk
theorem s_C19 (X : cx p s m args c cc nL own D (wC cI cZ cH a n) A (tyW cI cZ cH)) {i9 x9 : Int32} (q : Nat) (hin : vp_in i9 60) (hdg : decode cc pc = .ok (.iastore, 1)) (hq : pc + 1 = q) (kk : go p l e R s m args below meth c D (wC cI cZ cH a n) A cells slots Qf nL q lv st (up2 σ 19 (ix i9) x9)) : go p l e R s m args below meth c D (wC cI cZ cH a n) A cells slots Qf nL pc lv (.int x9 :: .int i9 :: .ref (a 19) :: st) σ := r_iast X (q0 := 19) (t0 := 0) q rfl rfl hin rfl hdg hq kk
theorem n_C19 (X : cx p s m args c cc nL own D (wC cI cZ cH a n) A (tyW cI cZ cH)) (q : Nat) (hdg : decode cc pc = .ok (.arraylength, 1)) (hq : pc + 1 = q) (kk : go p l e R s m args below meth c D (wC cI cZ cH a n) A cells slots Qf nL q lv (.int 60 :: st) σ) : go p l e R s m args below meth c D (wC cI cZ cH a n) A cells slots Qf nL pc lv (.ref (a 19) :: st) σ := r_alen X (q0 := 19) (t0 := 0) q rfl rfl rfl hdg hq kk
theorem l_C20 (X : cx p s m args c cc nL own D (wC cI cZ cH a n) A (tyW cI cZ cH)) {i9 : Int32} (q : Nat) (hin : vp_in i9 60) (hdg : decode cc pc = .ok (.iaload, 1)) (hq : pc + 1 = q) (kk : go p l e R s m args below meth c D (wC cI cZ cH a n) A cells slots Qf nL q lv (.int (σ 20 (ix i9)) :: st) σ) : go p l e R s m args below meth c D (wC cI cZ cH a n) A cells slots Qf nL pc lv (.int i9 :: .ref (a 20) :: st) σ := r_iald X (q0 := 20) (t0 := 0) q rfl rfl hin hdg hq kk
theorem s_C20 (X : cx p s m args c cc nL own D (wC cI cZ cH a n) A (tyW cI cZ cH)) {i9 x9 : Int32} (q : Nat) (hin : vp_in i9 60) (hdg : decode cc pc = .ok (.iastore, 1)) (hq : pc + 1 = q) (kk : go p l e R s m args below meth c D (wC cI cZ cH a n) A cells slots Qf nL q lv st (up2 σ 20 (ix i9) x9)) : go p l e R s m args below meth c D (wC cI cZ cH a n) A cells slots Qf nL pc lv (.int x9 :: .int i9 :: .ref (a 20) :: st) σ := r_iast X (q0 := 20) (t0 := 0) q rfl rfl hin rfl hdg hq kk
theorem n_C20 (X : cx p s m args c cc nL own D (wC cI cZ cH a n) A (tyW cI cZ cH)) (q : Nat) (hdg : decode cc pc = .ok (.arraylength, 1)) (hq : pc + 1 = q) (kk : go p l e R s m args below meth c D (wC cI cZ cH a n) A cells slots Qf nL q lv (.int 60 :: st) σ) : go p l e R s m args below meth c D (wC cI cZ cH a n) A cells slots Qf nL pc lv (.ref (a 20) :: st) σ := r_alen X (q0 := 20) (t0 := 0) q rfl rfl rfl hdg hq kk
theorem l_C21 (X : cx p s m args c cc nL own D (wC cI cZ cH a n) A (tyW cI cZ cH)) {i9 : Int32} (q : Nat) (hin : vp_in i9 60) (hdg : decode cc pc = .ok (.iaload, 1)) (hq : pc + 1 = q) (kk : go p l e R s m args below meth c D (wC cI cZ cH a n) A cells slots Qf nL q lv (.int (σ 21 (ix i9)) :: st) σ) : go p l e R s m args below meth c D (wC cI cZ cH a n) A cells slots Qf nL pc lv (.int i9 :: .ref (a 21) :: st) σ := r_iald X (q0 := 21) (t0 := 0) q rfl rfl hin hdg hq kk
theorem s_C21 (X : cx p s m args c cc nL own D (wC cI cZ cH a n) A (tyW cI cZ cH)) {i9 x9 : Int32} (q : Nat) (hin : vp_in i9 60) (hdg : decode cc pc = .ok (.iastore, 1)) (hq : pc + 1 = q) (kk : go p l e R s m args below meth c D (wC cI cZ cH a n) A cells slots Qf nL q lv st (up2 σ 21 (ix i9) x9)) : go p l e R s m args below meth c D (wC cI cZ cH a n) A cells slots Qf nL pc lv (.int x9 :: .int i9 :: .ref (a 21) :: st) σ := r_iast X (q0 := 21) (t0 := 0) q rfl rfl hin rfl hdg hq kk
theorem n_C21 (X : cx p s m args c cc nL own D (wC cI cZ cH a n) A (tyW cI cZ cH)) (q : Nat) (hdg : decode cc pc = .ok (.arraylength, 1)) (hq : pc + 1 = q) (kk : go p l e R s m args below meth c D (wC cI cZ cH a n) A cells slots Qf nL q lv (.int 60 :: st) σ) : go p l e R s m args below meth c D (wC cI cZ cH a n) A cells slots Qf nL pc lv (.ref (a 21) :: st) σ := r_alen X (q0 := 21) (t0 := 0) q rfl rfl rfl hdg hq kk
theorem l_C22 (X : cx p s m args c cc nL own D (wC cI cZ cH a n) A (tyW cI cZ cH)) {i9 : Int32} (q : Nat) (hin : vp_in i9 60) (hdg : decode cc pc = .ok (.iaload, 1)) (hq : pc + 1 = q) (kk : go p l e R s m args below meth c D (wC cI cZ cH a n) A cells slots Qf nL q lv (.int (σ 22 (ix i9)) :: st) σ) : go p l e R s m args below meth c D (wC cI cZ cH a n) A cells slots Qf nL pc lv (.int i9 :: .ref (a 22) :: st) σ := r_iald X (q0 := 22) (t0 := 0) q rfl rfl hin hdg hq kk
theorem s_C22 (X : cx p s m args c cc nL own D (wC cI cZ cH a n) A (tyW cI cZ cH)) {i9 x9 : Int32} (q : Nat) (hin : vp_in i9 60) (hdg : decode cc pc = .ok (.iastore, 1)) (hq : pc + 1 = q) (kk : go p l e R s m args below meth c D (wC cI cZ cH a n) A cells slots Qf nL q lv st (up2 σ 22 (ix i9) x9)) : go p l e R s m args below meth c D (wC cI cZ cH a n) A cells slots Qf nL pc lv (.int x9 :: .int i9 :: .ref (a 22) :: st) σ := r_iast X (q0 := 22) (t0 := 0) q rfl rfl hin rfl hdg hq kk
theorem n_C22 (X : cx p s m args c cc nL own D (wC cI cZ cH a n) A (tyW cI cZ cH)) (q : Nat) (hdg : decode cc pc = .ok (.arraylength, 1)) (hq : pc + 1 = q) (kk : go p l e R s m args below meth c D (wC cI cZ cH a n) A cells slots Qf nL q lv (.int 60 :: st) σ) : go p l e R s m args below meth c D (wC cI cZ cH a n) A cells slots Qf nL pc lv (.ref (a 22) :: st) σ := r_alen X (q0 := 22) (t0 := 0) q rfl rfl rfl hdg hq kk
theorem l_C23 (X : cx p s m args c cc nL own D (wC cI cZ cH a n) A (tyW cI cZ cH)) {i9 : Int32} (q : Nat) (hin : vp_in i9 60) (hdg : decode cc pc = .ok (.iaload, 1)) (hq : pc + 1 = q) (kk : go p l e R s m args below meth c D (wC cI cZ cH a n) A cells slots Qf nL q lv (.int (σ 23 (ix i9)) :: st) σ) : go p l e R s m args below meth c D (wC cI cZ cH a n) A cells slots Qf nL pc lv (.int i9 :: .ref (a 23) :: st) σ := r_iald X (q0 := 23) (t0 := 0) q rfl rfl hin hdg hq kk
theorem s_C23 (X : cx p s m args c cc nL own D (wC cI cZ cH a n) A (tyW cI cZ cH)) {i9 x9 : Int32} (q : Nat) (hin : vp_in i9 60) (hdg : decode cc pc = .ok (.iastore, 1)) (hq : pc + 1 = q) (kk : go p l e R s m args below meth c D (wC cI cZ cH a n) A cells slots Qf nL q lv st (up2 σ 23 (ix i9) x9)) : go p l e R s m args below meth c D (wC cI cZ cH a n) A cells slots Qf nL pc lv (.int x9 :: .int i9 :: .ref (a 23) :: st) σ := r_iast X (q0 := 23) (t0 := 0) q rfl rfl hin rfl hdg hq kk
theorem n_C23 (X : cx p s m args c cc nL own D (wC cI cZ cH a n) A (tyW cI cZ cH)) (q : Nat) (hdg : decode cc pc = .ok (.arraylength, 1)) (hq : pc + 1 = q) (kk : go p l e R s m args below meth c D (wC cI cZ cH a n) A cells slots Qf nL q lv (.int 60 :: st) σ) : go p l e R s m args below meth c D (wC cI cZ cH a n) A cells slots Qf nL pc lv (.ref (a 23) :: st) σ := r_alen X (q0 := 23) (t0 := 0) q rfl rfl rfl hdg hq kk
theorem l_Cr1 (X : cx p s m args c cc nL own D (wC cI cZ cH a n) A (tyW cI cZ cH)) {r : Nat} (hr : r = 7 ∨ r = 10) {i9 : Int32} (q : Nat) (hin : vp_in i9 3200) (hdg : decode cc pc = .ok (.iaload, 1)) (hq : pc + 1 = q) (kk : go p l e R s m args below meth c D (wC cI cZ cH a n) A cells slots Qf nL q lv (.int (σ (r + 1) (ix i9)) :: st) σ) : go p l e R s m args below meth c D (wC cI cZ cH a n) A cells slots Qf nL pc lv (.int i9 :: .ref (a (r + 1)) :: st) σ := r_iald X (q0 := (r + 1)) (t0 := 0) q (by rcases hr with rfl | rfl <;> rfl) rfl hin hdg hq kk
theorem s_Cr1 (X : cx p s m args c cc nL own D (wC cI cZ cH a n) A (tyW cI cZ cH)) {r : Nat} (hr : r = 7 ∨ r = 10) {i9 x9 : Int32} (q : Nat) (hin : vp_in i9 3200) (hdg : decode cc pc = .ok (.iastore, 1)) (hq : pc + 1 = q) (kk : go p l e R s m args below meth c D (wC cI cZ cH a n) A cells slots Qf nL q lv st (up2 σ (r + 1) (ix i9) x9)) : go p l e R s m args below meth c D (wC cI cZ cH a n) A cells slots Qf nL pc lv (.int x9 :: .int i9 :: .ref (a (r + 1)) :: st) σ := r_iast X (q0 := (r + 1)) (t0 := 0) q (by rcases hr with rfl | rfl <;> rfl) rfl hin (by rcases hr with rfl | rfl <;> rfl) hdg hq kk
theorem n_Cr1 (X : cx p s m args c cc nL own D (wC cI cZ cH a n) A (tyW cI cZ cH)) {r : Nat} (hr : r = 7 ∨ r = 10) (q : Nat) (hdg : decode cc pc = .ok (.arraylength, 1)) (hq : pc + 1 = q) (kk : go p l e R s m args below meth c D (wC cI cZ cH a n) A cells slots Qf nL q lv (.int 3200 :: st) σ) : go p l e R s m args below meth c D (wC cI cZ cH a n) A cells slots Qf nL pc lv (.ref (a (r + 1)) :: st) σ := r_alen X (q0 := (r + 1)) (t0 := 0) q (by rcases hr with rfl | rfl <;> rfl) rfl rfl hdg hq kk
theorem l_Cr2 (X : cx p s m args c cc nL own D (wC cI cZ cH a n) A (tyW cI cZ cH)) {r : Nat} (hr : r = 7 ∨ r = 10) {i9 : Int32} (q : Nat) (hin : vp_in i9 400) (hdg : decode cc pc = .ok (.iaload, 1)) (hq : pc + 1 = q) (kk : go p l e R s m args below meth c D (wC cI cZ cH a n) A cells slots Qf nL q lv (.int (σ (r + 2) (ix i9)) :: st) σ) : go p l e R s m args below meth c D (wC cI cZ cH a n) A cells slots Qf nL pc lv (.int i9 :: .ref (a (r + 2)) :: st) σ := r_iald X (q0 := (r + 2)) (t0 := 0) q (by rcases hr with rfl | rfl <;> rfl) rfl hin hdg hq kk
theorem s_Cr2 (X : cx p s m args c cc nL own D (wC cI cZ cH a n) A (tyW cI cZ cH)) {r : Nat} (hr : r = 7 ∨ r = 10) {i9 x9 : Int32} (q : Nat) (hin : vp_in i9 400) (hdg : decode cc pc = .ok (.iastore, 1)) (hq : pc + 1 = q) (kk : go p l e R s m args below meth c D (wC cI cZ cH a n) A cells slots Qf nL q lv st (up2 σ (r + 2) (ix i9) x9)) : go p l e R s m args below meth c D (wC cI cZ cH a n) A cells slots Qf nL pc lv (.int x9 :: .int i9 :: .ref (a (r + 2)) :: st) σ := r_iast X (q0 := (r + 2)) (t0 := 0) q (by rcases hr with rfl | rfl <;> rfl) rfl hin (by rcases hr with rfl | rfl <;> rfl) hdg hq kk
theorem n_Cr2 (X : cx p s m args c cc nL own D (wC cI cZ cH a n) A (tyW cI cZ cH)) {r : Nat} (hr : r = 7 ∨ r = 10) (q : Nat) (hdg : decode cc pc = .ok (.arraylength, 1)) (hq : pc + 1 = q) (kk : go p l e R s m args below meth c D (wC cI cZ cH a n) A cells slots Qf nL q lv (.int 400 :: st) σ) : go p l e R s m args below meth c D (wC cI cZ cH a n) A cells slots Qf nL pc lv (.ref (a (r + 2)) :: st) σ := r_alen X (q0 := (r + 2)) (t0 := 0) q (by rcases hr with rfl | rfl <;> rfl) rfl rfl hdg hq kk
theorem g_X6_100 (X : cx p s m args c cc nL RX6 D (wM cI cZ a) A (tyW cI cZ cH)) (q : Nat) (hdg : decode cc pc = .ok (.getfield 100, 3)) (hq : pc + 3 = q) (kk : go p l e R s m args below meth c D (wM cI cZ a) A cells slots Qf nL q lv ((.int (σ 0 0)) :: st) σ) : go p l e R s m args below meth c D (wM cI cZ a) A cells slots Qf nL pc lv (.ref (a 0) :: st) σ := r_get X (q0 := 0) (ci := 6) (k := 0) q rfl rfl inX6 (by decide) rfl fl_X6_100 hdg hq kk
theorem u_X6_100 (X : cx p s m args c cc nL RX6 D (wM cI cZ a) A (tyW cI cZ cH)) {v : Int32} (q : Nat) (hdg : decode cc pc = .ok (.putfield 100, 3)) (hq : pc + 3 = q) (kk : go p l e R s m args below meth c D (wM cI cZ a) A cells slots Qf nL q lv st (up2 σ 0 0 v)) : go p l e R s m args below meth c D (wM cI cZ a) A cells slots Qf nL pc lv (.int v :: .ref (a 0) :: st) σ := r_put X (q0 := 0) (ci := 6) (k := 0) (ty := .int) (ty0 := tyX6) q rfl rfl inX6 tyX6_ok nmX6 (by decide) fl_X6_100 rfl (by decide +kernel) (vp_nar_int v) rfl (Nat.le_of_ble_eq_true rfl) rfl hdg hq kk
theorem g_X6_103 (X : cx p s m args c cc nL RX6 D (wM cI cZ a) A (tyW cI cZ cH)) (q : Nat) (hdg : decode cc pc = .ok (.getfield 103, 3)) (hq : pc + 3 = q) (kk : go p l e R s m args below meth c D (wM cI cZ a) A cells slots Qf nL q lv ((.int (σ 0 1)) :: st) σ) : go p l e R s m args below meth c D (wM cI cZ a) A cells slots Qf nL pc lv (.ref (a 0) :: st) σ := r_get X (q0 := 0) (ci := 6) (k := 1) q rfl rfl inX6 (by decide) rfl fl_X6_103 hdg hq kk
theorem u_X6_103 (X : cx p s m args c cc nL RX6 D (wM cI cZ a) A (tyW cI cZ cH)) {v : Int32} (q : Nat) (hdg : decode cc pc = .ok (.putfield 103, 3)) (hq : pc + 3 = q) (kk : go p l e R s m args below meth c D (wM cI cZ a) A cells slots Qf nL q lv st (up2 σ 0 1 v)) : go p l e R s m args below meth c D (wM cI cZ a) A cells slots Qf nL pc lv (.int v :: .ref (a 0) :: st) σ := r_put X (q0 := 0) (ci := 6) (k := 1) (ty := .int) (ty0 := tyX6) q rfl rfl inX6 tyX6_ok nmX6 (by decide) fl_X6_103 rfl (by decide +kernel) (vp_nar_int v) rfl (Nat.le_of_ble_eq_true rfl) rfl hdg hq kk
theorem g_X6_93 (X : cx p s m args c cc nL RX6 D (wM cI cZ a) A (tyW cI cZ cH)) (q : Nat) (hdg : decode cc pc = .ok (.getfield 93, 3)) (hq : pc + 3 = q) (kk : go p l e R s m args below meth c D (wM cI cZ a) A cells slots Qf nL q lv ((.int (σ 0 2)) :: st) σ) : go p l e R s m args below meth c D (wM cI cZ a) A cells slots Qf nL pc lv (.ref (a 0) :: st) σ := r_get X (q0 := 0) (ci := 6) (k := 2) q rfl rfl inX6 (by decide) rfl fl_X6_93 hdg hq kk
theorem u_X6_93 (X : cx p s m args c cc nL RX6 D (wM cI cZ a) A (tyW cI cZ cH)) {v : Int32} (q : Nat) (hdg : decode cc pc = .ok (.putfield 93, 3)) (hq : pc + 3 = q) (kk : go p l e R s m args below meth c D (wM cI cZ a) A cells slots Qf nL q lv st (up2 σ 0 2 v)) : go p l e R s m args below meth c D (wM cI cZ a) A cells slots Qf nL pc lv (.int v :: .ref (a 0) :: st) σ := r_put X (q0 := 0) (ci := 6) (k := 2) (ty := .int) (ty0 := tyX6) q rfl rfl inX6 tyX6_ok nmX6 (by decide) fl_X6_93 rfl (by decide +kernel) (vp_nar_int v) rfl (Nat.le_of_ble_eq_true rfl) rfl hdg hq kk
theorem g_X6_195 (X : cx p s m args c cc nL RX6 D (wM cI cZ a) A (tyW cI cZ cH)) (q : Nat) (hdg : decode cc pc = .ok (.getfield 195, 3)) (hq : pc + 3 = q) (kk : go p l e R s m args below meth c D (wM cI cZ a) A cells slots Qf nL q lv ((.int (σ 0 3)) :: st) σ) : go p l e R s m args below meth c D (wM cI cZ a) A cells slots Qf nL pc lv (.ref (a 0) :: st) σ := r_get X (q0 := 0) (ci := 6) (k := 3) q rfl rfl inX6 (by decide) rfl fl_X6_195 hdg hq kk
theorem u_X6_195 (X : cx p s m args c cc nL RX6 D (wM cI cZ a) A (tyW cI cZ cH)) {v : Int32} (q : Nat) (hdg : decode cc pc = .ok (.putfield 195, 3)) (hq : pc + 3 = q) (kk : go p l e R s m args below meth c D (wM cI cZ a) A cells slots Qf nL q lv st (up2 σ 0 3 v)) : go p l e R s m args below meth c D (wM cI cZ a) A cells slots Qf nL pc lv (.int v :: .ref (a 0) :: st) σ := r_put X (q0 := 0) (ci := 6) (k := 3) (ty := .int) (ty0 := tyX6) q rfl rfl inX6 tyX6_ok nmX6 (by decide) fl_X6_195 rfl (by decide +kernel) (vp_nar_int v) rfl (Nat.le_of_ble_eq_true rfl) rfl hdg hq kk
theorem g_X6_204 (X : cx p s m args c cc nL RX6 D (wM cI cZ a) A (tyW cI cZ cH)) (q : Nat) (hdg : decode cc pc = .ok (.getfield 204, 3)) (hq : pc + 3 = q) (kk : go p l e R s m args below meth c D (wM cI cZ a) A cells slots Qf nL q lv ((.int (σ 0 4)) :: st) σ) : go p l e R s m args below meth c D (wM cI cZ a) A cells slots Qf nL pc lv (.ref (a 0) :: st) σ := r_get X (q0 := 0) (ci := 6) (k := 4) q rfl rfl inX6 (by decide) rfl fl_X6_204 hdg hq kk
theorem u_X6_204 (X : cx p s m args c cc nL RX6 D (wM cI cZ a) A (tyW cI cZ cH)) {v : Int32} (q : Nat) (hdg : decode cc pc = .ok (.putfield 204, 3)) (hq : pc + 3 = q) (kk : go p l e R s m args below meth c D (wM cI cZ a) A cells slots Qf nL q lv st (up2 σ 0 4 v)) : go p l e R s m args below meth c D (wM cI cZ a) A cells slots Qf nL pc lv (.int v :: .ref (a 0) :: st) σ := r_put X (q0 := 0) (ci := 6) (k := 4) (ty := .int) (ty0 := tyX6) q rfl rfl inX6 tyX6_ok nmX6 (by decide) fl_X6_204 rfl (by decide +kernel) (vp_nar_int v) rfl (Nat.le_of_ble_eq_true rfl) rfl hdg hq kk
theorem g_X6_216 (X : cx p s m args c cc nL RX6 D (wM cI cZ a) A (tyW cI cZ cH)) (q : Nat) (hdg : decode cc pc = .ok (.getfield 216, 3)) (hq : pc + 3 = q) (kk : go p l e R s m args below meth c D (wM cI cZ a) A cells slots Qf nL q lv ((.int (σ 0 5)) :: st) σ) : go p l e R s m args below meth c D (wM cI cZ a) A cells slots Qf nL pc lv (.ref (a 0) :: st) σ := r_get X (q0 := 0) (ci := 6) (k := 5) q rfl rfl inX6 (by decide) rfl fl_X6_216 hdg hq kk
theorem u_X6_216 (X : cx p s m args c cc nL RX6 D (wM cI cZ a) A (tyW cI cZ cH)) {v : Int32} (q : Nat) (hdg : decode cc pc = .ok (.putfield 216, 3)) (hq : pc + 3 = q) (kk : go p l e R s m args below meth c D (wM cI cZ a) A cells slots Qf nL q lv st (up2 σ 0 5 v)) : go p l e R s m args below meth c D (wM cI cZ a) A cells slots Qf nL pc lv (.int v :: .ref (a 0) :: st) σ := r_put X (q0 := 0) (ci := 6) (k := 5) (ty := .int) (ty0 := tyX6) q rfl rfl inX6 tyX6_ok nmX6 (by decide) fl_X6_216 rfl (by decide +kernel) (vp_nar_int v) rfl (Nat.le_of_ble_eq_true rfl) rfl hdg hq kk
theorem g_X6_9 (X : cx p s m args c cc nL RX6 D (wM cI cZ a) A (tyW cI cZ cH)) (q : Nat) (hdg : decode cc pc = .ok (.getfield 9, 3)) (hq : pc + 3 = q) (kk : go p l e R s m args below meth c D (wM cI cZ a) A cells slots Qf nL q lv ((.int (σ 0 6)) :: st) σ) : go p l e R s m args below meth c D (wM cI cZ a) A cells slots Qf nL pc lv (.ref (a 0) :: st) σ := r_get X (q0 := 0) (ci := 6) (k := 6) q rfl rfl inX6 (by decide) rfl fl_X6_9 hdg hq kk
theorem u_X6_9 (X : cx p s m args c cc nL RX6 D (wM cI cZ a) A (tyW cI cZ cH)) {v : Int32} (q : Nat) (hdg : decode cc pc = .ok (.putfield 9, 3)) (hq : pc + 3 = q) (kk : go p l e R s m args below meth c D (wM cI cZ a) A cells slots Qf nL q lv st (up2 σ 0 6 v)) : go p l e R s m args below meth c D (wM cI cZ a) A cells slots Qf nL pc lv (.int v :: .ref (a 0) :: st) σ := r_put X (q0 := 0) (ci := 6) (k := 6) (ty := .int) (ty0 := tyX6) q rfl rfl inX6 tyX6_ok nmX6 (by decide) fl_X6_9 rfl (by decide +kernel) (vp_nar_int v) rfl (Nat.le_of_ble_eq_true rfl) rfl hdg hq kk
theorem g_X6_13 (X : cx p s m args c cc nL RX6 D (wM cI cZ a) A (tyW cI cZ cH)) (q : Nat) (hdg : decode cc pc = .ok (.getfield 13, 3)) (hq : pc + 3 = q) (kk : go p l e R s m args below meth c D (wM cI cZ a) A cells slots Qf nL q lv ((.ref (a 1)) :: st) σ) : go p l e R s m args below meth c D (wM cI cZ a) A cells slots Qf nL pc lv (.ref (a 0) :: st) σ := r_get X (q0 := 0) (ci := 6) (k := 7) q rfl rfl inX6 (by decide) rfl fl_X6_13 hdg hq kk
theorem g_X6_17 (X : cx p s m args c cc nL RX6 D (wM cI cZ a) A (tyW cI cZ cH)) (q : Nat) (hdg : decode cc pc = .ok (.getfield 17, 3)) (hq : pc + 3 = q) (kk : go p l e R s m args below meth c D (wM cI cZ a) A cells slots Qf nL q lv ((.ref (a 2)) :: st) σ) : go p l e R s m args below meth c D (wM cI cZ a) A cells slots Qf nL pc lv (.ref (a 0) :: st) σ := r_get X (q0 := 0) (ci := 6) (k := 8) q rfl rfl inX6 (by decide) rfl fl_X6_17 hdg hq kk
theorem g_X6_20 (X : cx p s m args c cc nL RX6 D (wM cI cZ a) A (tyW cI cZ cH)) (q : Nat) (hdg : decode cc pc = .ok (.getfield 20, 3)) (hq : pc + 3 = q) (kk : go p l e R s m args below meth c D (wM cI cZ a) A cells slots Qf nL q lv ((.ref (a 3)) :: st) σ) : go p l e R s m args below meth c D (wM cI cZ a) A cells slots Qf nL pc lv (.ref (a 0) :: st) σ := r_get X (q0 := 0) (ci := 6) (k := 9) q rfl rfl inX6 (by decide) rfl fl_X6_20 hdg hq kk
theorem g_X6_24 (X : cx p s m args c cc nL RX6 D (wM cI cZ a) A (tyW cI cZ cH)) (q : Nat) (hdg : decode cc pc = .ok (.getfield 24, 3)) (hq : pc + 3 = q) (kk : go p l e R s m args below meth c D (wM cI cZ a) A cells slots Qf nL q lv ((.ref (a 4)) :: st) σ) : go p l e R s m args below meth c D (wM cI cZ a) A cells slots Qf nL pc lv (.ref (a 0) :: st) σ := r_get X (q0 := 0) (ci := 6) (k := 10) q rfl rfl inX6 (by decide) rfl fl_X6_24 hdg hq kk
theorem g_X6_27 (X : cx p s m args c cc nL RX6 D (wM cI cZ a) A (tyW cI cZ cH)) (q : Nat) (hdg : decode cc pc = .ok (.getfield 27, 3)) (hq : pc + 3 = q) (kk : go p l e R s m args below meth c D (wM cI cZ a) A cells slots Qf nL q lv ((.ref (a 5)) :: st) σ) : go p l e R s m args below meth c D (wM cI cZ a) A cells slots Qf nL pc lv (.ref (a 0) :: st) σ := r_get X (q0 := 0) (ci := 6) (k := 11) q rfl rfl inX6 (by decide) rfl fl_X6_27 hdg hq kk
theorem g_X6_30 (X : cx p s m args c cc nL RX6 D (wM cI cZ a) A (tyW cI cZ cH)) (q : Nat) (hdg : decode cc pc = .ok (.getfield 30, 3)) (hq : pc + 3 = q) (kk : go p l e R s m args below meth c D (wM cI cZ a) A cells slots Qf nL q lv ((.ref (a 6)) :: st) σ) : go p l e R s m args below meth c D (wM cI cZ a) A cells slots Qf nL pc lv (.ref (a 0) :: st) σ := r_get X (q0 := 0) (ci := 6) (k := 12) q rfl rfl inX6 (by decide) rfl fl_X6_30 hdg hq kk
theorem g_X6_33 (X : cx p s m args c cc nL RX6 D (wM cI cZ a) A (tyW cI cZ cH)) (q : Nat) (hdg : decode cc pc = .ok (.getfield 33, 3)) (hq : pc + 3 = q) (kk : go p l e R s m args below meth c D (wM cI cZ a) A cells slots Qf nL q lv ((.ref (a 7)) :: st) σ) : go p l e R s m args below meth c D (wM cI cZ a) A cells slots Qf nL pc lv (.ref (a 0) :: st) σ := r_get X (q0 := 0) (ci := 6) (k := 13) q rfl rfl inX6 (by decide) rfl fl_X6_33 hdg hq kk
theorem g_X6_36 (X : cx p s m args c cc nL RX6 D (wM cI cZ a) A (tyW cI cZ cH)) (q : Nat) (hdg : decode cc pc = .ok (.getfield 36, 3)) (hq : pc + 3 = q) (kk : go p l e R s m args below meth c D (wM cI cZ a) A cells slots Qf nL q lv ((.ref (a 8)) :: st) σ) : go p l e R s m args below meth c D (wM cI cZ a) A cells slots Qf nL pc lv (.ref (a 0) :: st) σ := r_get X (q0 := 0) (ci := 6) (k := 14) q rfl rfl inX6 (by decide) rfl fl_X6_36 hdg hq kk
theorem g_X6_39 (X : cx p s m args c cc nL RX6 D (wM cI cZ a) A (tyW cI cZ cH)) (q : Nat) (hdg : decode cc pc = .ok (.getfield 39, 3)) (hq : pc + 3 = q) (kk : go p l e R s m args below meth c D (wM cI cZ a) A cells slots Qf nL q lv ((.int (σ 0 15)) :: st) σ) : go p l e R s m args below meth c D (wM cI cZ a) A cells slots Qf nL pc lv (.ref (a 0) :: st) σ := r_get X (q0 := 0) (ci := 6) (k := 15) q rfl rfl inX6 (by decide) rfl fl_X6_39 hdg hq kk
theorem u_X6_39 (X : cx p s m args c cc nL RX6 D (wM cI cZ a) A (tyW cI cZ cH)) {v : Int32} (q : Nat) (hdg : decode cc pc = .ok (.putfield 39, 3)) (hq : pc + 3 = q) (kk : go p l e R s m args below meth c D (wM cI cZ a) A cells slots Qf nL q lv st (up2 σ 0 15 v)) : go p l e R s m args below meth c D (wM cI cZ a) A cells slots Qf nL pc lv (.int v :: .ref (a 0) :: st) σ := r_put X (q0 := 0) (ci := 6) (k := 15) (ty := .int) (ty0 := tyX6) q rfl rfl inX6 tyX6_ok nmX6 (by decide) fl_X6_39 rfl (by decide +kernel) (vp_nar_int v) rfl (Nat.le_of_ble_eq_true rfl) rfl hdg hq kk
theorem g_X6_42 (X : cx p s m args c cc nL RX6 D (wM cI cZ a) A (tyW cI cZ cH)) (q : Nat) (hdg : decode cc pc = .ok (.getfield 42, 3)) (hq : pc + 3 = q) (kk : go p l e R s m args below meth c D (wM cI cZ a) A cells slots Qf nL q lv ((.int (σ 0 16)) :: st) σ) : go p l e R s m args below meth c D (wM cI cZ a) A cells slots Qf nL pc lv (.ref (a 0) :: st) σ := r_get X (q0 := 0) (ci := 6) (k := 16) q rfl rfl inX6 (by decide) rfl fl_X6_42 hdg hq kk
theorem u_X6_42 (X : cx p s m args c cc nL RX6 D (wM cI cZ a) A (tyW cI cZ cH)) {v : Int32} (q : Nat) (hdg : decode cc pc = .ok (.putfield 42, 3)) (hq : pc + 3 = q) (kk : go p l e R s m args below meth c D (wM cI cZ a) A cells slots Qf nL q lv st (up2 σ 0 16 v)) : go p l e R s m args below meth c D (wM cI cZ a) A cells slots Qf nL pc lv (.int v :: .ref (a 0) :: st) σ := r_put X (q0 := 0) (ci := 6) (k := 16) (ty := .int) (ty0 := tyX6) q rfl rfl inX6 tyX6_ok nmX6 (by decide) fl_X6_42 rfl (by decide +kernel) (vp_nar_int v) rfl (Nat.le_of_ble_eq_true rfl) rfl hdg hq kk
theorem g_X6_45 (X : cx p s m args c cc nL RX6 D (wM cI cZ a) A (tyW cI cZ cH)) (q : Nat) (hdg : decode cc pc = .ok (.getfield 45, 3)) (hq : pc + 3 = q) (kk : go p l e R s m args below meth c D (wM cI cZ a) A cells slots Qf nL q lv ((.ref (a 9)) :: st) σ) : go p l e R s m args below meth c D (wM cI cZ a) A cells slots Qf nL pc lv (.ref (a 0) :: st) σ := r_get X (q0 := 0) (ci := 6) (k := 17) q rfl rfl inX6 (by decide) rfl fl_X6_45 hdg hq kk
theorem g_X6_48 (X : cx p s m args c cc nL RX6 D (wM cI cZ a) A (tyW cI cZ cH)) (q : Nat) (hdg : decode cc pc = .ok (.getfield 48, 3)) (hq : pc + 3 = q) (kk : go p l e R s m args below meth c D (wM cI cZ a) A cells slots Qf nL q lv ((.ref (a 10)) :: st) σ) : go p l e R s m args below meth c D (wM cI cZ a) A cells slots Qf nL pc lv (.ref (a 0) :: st) σ := r_get X (q0 := 0) (ci := 6) (k := 18) q rfl rfl inX6 (by decide) rfl fl_X6_48 hdg hq kk
theorem g_X6_51 (X : cx p s m args c cc nL RX6 D (wM cI cZ a) A (tyW cI cZ cH)) (q : Nat) (hdg : decode cc pc = .ok (.getfield 51, 3)) (hq : pc + 3 = q) (kk : go p l e R s m args below meth c D (wM cI cZ a) A cells slots Qf nL q lv ((.ref (a 11)) :: st) σ) : go p l e R s m args below meth c D (wM cI cZ a) A cells slots Qf nL pc lv (.ref (a 0) :: st) σ := r_get X (q0 := 0) (ci := 6) (k := 19) q rfl rfl inX6 (by decide) rfl fl_X6_51 hdg hq kk
theorem g_X6_54 (X : cx p s m args c cc nL RX6 D (wM cI cZ a) A (tyW cI cZ cH)) (q : Nat) (hdg : decode cc pc = .ok (.getfield 54, 3)) (hq : pc + 3 = q) (kk : go p l e R s m args below meth c D (wM cI cZ a) A cells slots Qf nL q lv ((.ref (a 12)) :: st) σ) : go p l e R s m args below meth c D (wM cI cZ a) A cells slots Qf nL pc lv (.ref (a 0) :: st) σ := r_get X (q0 := 0) (ci := 6) (k := 20) q rfl rfl inX6 (by decide) rfl fl_X6_54 hdg hq kk
theorem g_X6_57 (X : cx p s m args c cc nL RX6 D (wM cI cZ a) A (tyW cI cZ cH)) (q : Nat) (hdg : decode cc pc = .ok (.getfield 57, 3)) (hq : pc + 3 = q) (kk : go p l e R s m args below meth c D (wM cI cZ a) A cells slots Qf nL q lv ((.ref (a 13)) :: st) σ) : go p l e R s m args below meth c D (wM cI cZ a) A cells slots Qf nL pc lv (.ref (a 0) :: st) σ := r_get X (q0 := 0) (ci := 6) (k := 21) q rfl rfl inX6 (by decide) rfl fl_X6_57 hdg hq kk
theorem g_X6_60 (X : cx p s m args c cc nL RX6 D (wM cI cZ a) A (tyW cI cZ cH)) (q : Nat) (hdg : decode cc pc = .ok (.getfield 60, 3)) (hq : pc + 3 = q) (kk : go p l e R s m args below meth c D (wM cI cZ a) A cells slots Qf nL q lv ((.ref (a 14)) :: st) σ) : go p l e R s m args below meth c D (wM cI cZ a) A cells slots Qf nL pc lv (.ref (a 0) :: st) σ := r_get X (q0 := 0) (ci := 6) (k := 22) q rfl rfl inX6 (by decide) rfl fl_X6_60 hdg hq kk
theorem g_X6_63 (X : cx p s m args c cc nL RX6 D (wM cI cZ a) A (tyW cI cZ cH)) (q : Nat) (hdg : decode cc pc = .ok (.getfield 63, 3)) (hq : pc + 3 = q) (kk : go p l e R s m args below meth c D (wM cI cZ a) A cells slots Qf nL q lv ((.ref (a 15)) :: st) σ) : go p l e R s m args below meth c D (wM cI cZ a) A cells slots Qf nL pc lv (.ref (a 0) :: st) σ := r_get X (q0 := 0) (ci := 6) (k := 23) q rfl rfl inX6 (by decide) rfl fl_X6_63 hdg hq kk
theorem g_X6_66 (X : cx p s m args c cc nL RX6 D (wM cI cZ a) A (tyW cI cZ cH)) (q : Nat) (hdg : decode cc pc = .ok (.getfield 66, 3)) (hq : pc + 3 = q) (kk : go p l e R s m args below meth c D (wM cI cZ a) A cells slots Qf nL q lv ((.ref (a 16)) :: st) σ) : go p l e R s m args below meth c D (wM cI cZ a) A cells slots Qf nL pc lv (.ref (a 0) :: st) σ := r_get X (q0 := 0) (ci := 6) (k := 24) q rfl rfl inX6 (by decide) rfl fl_X6_66 hdg hq kk
theorem g_X6_69 (X : cx p s m args c cc nL RX6 D (wM cI cZ a) A (tyW cI cZ cH)) (q : Nat) (hdg : decode cc pc = .ok (.getfield 69, 3)) (hq : pc + 3 = q) (kk : go p l e R s m args below meth c D (wM cI cZ a) A cells slots Qf nL q lv ((.ref (a 17)) :: st) σ) : go p l e R s m args below meth c D (wM cI cZ a) A cells slots Qf nL pc lv (.ref (a 0) :: st) σ := r_get X (q0 := 0) (ci := 6) (k := 25) q rfl rfl inX6 (by decide) rfl fl_X6_69 hdg hq kk
theorem g_X6_72 (X : cx p s m args c cc nL RX6 D (wM cI cZ a) A (tyW cI cZ cH)) (q : Nat) (hdg : decode cc pc = .ok (.getfield 72, 3)) (hq : pc + 3 = q) (kk : go p l e R s m args below meth c D (wM cI cZ a) A cells slots Qf nL q lv ((.ref (a 18)) :: st) σ) : go p l e R s m args below meth c D (wM cI cZ a) A cells slots Qf nL pc lv (.ref (a 0) :: st) σ := r_get X (q0 := 0) (ci := 6) (k := 26) q rfl rfl inX6 (by decide) rfl fl_X6_72 hdg hq kk
theorem g_X6_75 (X : cx p s m args c cc nL RX6 D (wM cI cZ a) A (tyW cI cZ cH)) (q : Nat) (hdg : decode cc pc = .ok (.getfield 75, 3)) (hq : pc + 3 = q) (kk : go p l e R s m args below meth c D (wM cI cZ a) A cells slots Qf nL q lv ((.ref (a 19)) :: st) σ) : go p l e R s m args below meth c D (wM cI cZ a) A cells slots Qf nL pc lv (.ref (a 0) :: st) σ := r_get X (q0 := 0) (ci := 6) (k := 27) q rfl rfl inX6 (by decide) rfl fl_X6_75 hdg hq kk
theorem g_X6_78 (X : cx p s m args c cc nL RX6 D (wM cI cZ a) A (tyW cI cZ cH)) (q : Nat) (hdg : decode cc pc = .ok (.getfield 78, 3)) (hq : pc + 3 = q) (kk : go p l e R s m args below meth c D (wM cI cZ a) A cells slots Qf nL q lv ((.ref (a 20)) :: st) σ) : go p l e R s m args below meth c D (wM cI cZ a) A cells slots Qf nL pc lv (.ref (a 0) :: st) σ := r_get X (q0 := 0) (ci := 6) (k := 28) q rfl rfl inX6 (by decide) rfl fl_X6_78 hdg hq kk
theorem g_X6_81 (X : cx p s m args c cc nL RX6 D (wM cI cZ a) A (tyW cI cZ cH)) (q : Nat) (hdg : decode cc pc = .ok (.getfield 81, 3)) (hq : pc + 3 = q) (kk : go p l e R s m args below meth c D (wM cI cZ a) A cells slots Qf nL q lv ((.ref (a 21)) :: st) σ) : go p l e R s m args below meth c D (wM cI cZ a) A cells slots Qf nL pc lv (.ref (a 0) :: st) σ := r_get X (q0 := 0) (ci := 6) (k := 29) q rfl rfl inX6 (by decide) rfl fl_X6_81 hdg hq kk
theorem g_X6_229 (X : cx p s m args c cc nL RX6 D (wM cI cZ a) A (tyW cI cZ cH)) (q : Nat) (hdg : decode cc pc = .ok (.getfield 229, 3)) (hq : pc + 3 = q) (kk : go p l e R s m args below meth c D (wM cI cZ a) A cells slots Qf nL q lv ((.int (σ 0 30)) :: st) σ) : go p l e R s m args below meth c D (wM cI cZ a) A cells slots Qf nL pc lv (.ref (a 0) :: st) σ := r_get X (q0 := 0) (ci := 6) (k := 30) q rfl rfl inX6 (by decide) rfl fl_X6_229 hdg hq kk
theorem u_X6_229 (X : cx p s m args c cc nL RX6 D (wM cI cZ a) A (tyW cI cZ cH)) {v : Int32} (q : Nat) (hdg : decode cc pc = .ok (.putfield 229, 3)) (hq : pc + 3 = q) (kk : go p l e R s m args below meth c D (wM cI cZ a) A cells slots Qf nL q lv st (up2 σ 0 30 v)) : go p l e R s m args below meth c D (wM cI cZ a) A cells slots Qf nL pc lv (.int v :: .ref (a 0) :: st) σ := r_put X (q0 := 0) (ci := 6) (k := 30) (ty := .int) (ty0 := tyX6) q rfl rfl inX6 tyX6_ok nmX6 (by decide) fl_X6_229 rfl (by decide +kernel) (vp_nar_int v) rfl (Nat.le_of_ble_eq_true rfl) rfl hdg hq kk
theorem g_X6_84 (X : cx p s m args c cc nL RX6 D (wM cI cZ a) A (tyW cI cZ cH)) (q : Nat) (hdg : decode cc pc = .ok (.getfield 84, 3)) (hq : pc + 3 = q) (kk : go p l e R s m args below meth c D (wM cI cZ a) A cells slots Qf nL q lv ((.ref (a 22)) :: st) σ) : go p l e R s m args below meth c D (wM cI cZ a) A cells slots Qf nL pc lv (.ref (a 0) :: st) σ := r_get X (q0 := 0) (ci := 6) (k := 31) q rfl rfl inX6 (by decide) rfl fl_X6_84 hdg hq kk
theorem g_X6_87 (X : cx p s m args c cc nL RX6 D (wM cI cZ a) A (tyW cI cZ cH)) (q : Nat) (hdg : decode cc pc = .ok (.getfield 87, 3)) (hq : pc + 3 = q) (kk : go p l e R s m args below meth c D (wM cI cZ a) A cells slots Qf nL q lv ((.ref (a 23)) :: st) σ) : go p l e R s m args below meth c D (wM cI cZ a) A cells slots Qf nL pc lv (.ref (a 0) :: st) σ := r_get X (q0 := 0) (ci := 6) (k := 32) q rfl rfl inX6 (by decide) rfl fl_X6_87 hdg hq kk
theorem l_M1 (X : cx p s m args c cc nL own D (wM cI cZ a) A (tyW cI cZ cH)) {i9 : Int32} (q : Nat) (hin : vp_in i9 20) (hdg : decode cc pc = .ok (.baload, 1)) (hq : pc + 1 = q) (kk : go p l e R s m args below meth c D (wM cI cZ a) A cells slots Qf nL q lv (.int (σ 1 (ix i9)) :: st) σ) : go p l e R s m args below meth c D (wM cI cZ a) A cells slots Qf nL pc lv (.int i9 :: .ref (a 1) :: st) σ := r_zald X (q0 := 1) (t0 := 1) q rfl rfl hin hdg hq kk
theorem s_M1 (X : cx p s m args c cc nL own D (wM cI cZ a) A (tyW cI cZ cH)) {i9 x9 x8 : Int32} (hb9 : vp_nar .boolean x9 = x8) (q : Nat) (hin : vp_in i9 20) (hdg : decode cc pc = .ok (.bastore, 1)) (hq : pc + 1 = q) (kk : go p l e R s m args below meth c D (wM cI cZ a) A cells slots Qf nL q lv st (up2 σ 1 (ix i9) x8)) : go p l e R s m args below meth c D (wM cI cZ a) A cells slots Qf nL pc lv (.int x9 :: .int i9 :: .ref (a 1) :: st) σ := r_zast X (q0 := 1) (t0 := 1) q rfl rfl hin hb9 rfl hdg hq kk
theorem n_M1 (X : cx p s m args c cc nL own D (wM cI cZ a) A (tyW cI cZ cH)) (q : Nat) (hdg : decode cc pc = .ok (.arraylength, 1)) (hq : pc + 1 = q) (kk : go p l e R s m args below meth c D (wM cI cZ a) A cells slots Qf nL q lv (.int 20 :: st) σ) : go p l e R s m args below meth c D (wM cI cZ a) A cells slots Qf nL pc lv (.ref (a 1) :: st) σ := r_alen X (q0 := 1) (t0 := 1) q rfl rfl rfl hdg hq kk
theorem l_M2 (X : cx p s m args c cc nL own D (wM cI cZ a) A (tyW cI cZ cH)) {i9 : Int32} (q : Nat) (hin : vp_in i9 8) (hdg : decode cc pc = .ok (.baload, 1)) (hq : pc + 1 = q) (kk : go p l e R s m args below meth c D (wM cI cZ a) A cells slots Qf nL q lv (.int (σ 2 (ix i9)) :: st) σ) : go p l e R s m args below meth c D (wM cI cZ a) A cells slots Qf nL pc lv (.int i9 :: .ref (a 2) :: st) σ := r_zald X (q0 := 2) (t0 := 1) q rfl rfl hin hdg hq kk
theorem s_M2 (X : cx p s m args c cc nL own D (wM cI cZ a) A (tyW cI cZ cH)) {i9 x9 x8 : Int32} (hb9 : vp_nar .boolean x9 = x8) (q : Nat) (hin : vp_in i9 8) (hdg : decode cc pc = .ok (.bastore, 1)) (hq : pc + 1 = q) (kk : go p l e R s m args below meth c D (wM cI cZ a) A cells slots Qf nL q lv st (up2 σ 2 (ix i9) x8)) : go p l e R s m args below meth c D (wM cI cZ a) A cells slots Qf nL pc lv (.int x9 :: .int i9 :: .ref (a 2) :: st) σ := r_zast X (q0 := 2) (t0 := 1) q rfl rfl hin hb9 rfl hdg hq kk
theorem n_M2 (X : cx p s m args c cc nL own D (wM cI cZ a) A (tyW cI cZ cH)) (q : Nat) (hdg : decode cc pc = .ok (.arraylength, 1)) (hq : pc + 1 = q) (kk : go p l e R s m args below meth c D (wM cI cZ a) A cells slots Qf nL q lv (.int 8 :: st) σ) : go p l e R s m args below meth c D (wM cI cZ a) A cells slots Qf nL pc lv (.ref (a 2) :: st) σ := r_alen X (q0 := 2) (t0 := 1) q rfl rfl rfl hdg hq kk
theorem l_M3 (X : cx p s m args c cc nL own D (wM cI cZ a) A (tyW cI cZ cH)) {i9 : Int32} (q : Nat) (hin : vp_in i9 6) (hdg : decode cc pc = .ok (.iaload, 1)) (hq : pc + 1 = q) (kk : go p l e R s m args below meth c D (wM cI cZ a) A cells slots Qf nL q lv (.int (σ 3 (ix i9)) :: st) σ) : go p l e R s m args below meth c D (wM cI cZ a) A cells slots Qf nL pc lv (.int i9 :: .ref (a 3) :: st) σ := r_iald X (q0 := 3) (t0 := 0) q rfl rfl hin hdg hq kk
theorem s_M3 (X : cx p s m args c cc nL own D (wM cI cZ a) A (tyW cI cZ cH)) {i9 x9 : Int32} (q : Nat) (hin : vp_in i9 6) (hdg : decode cc pc = .ok (.iastore, 1)) (hq : pc + 1 = q) (kk : go p l e R s m args below meth c D (wM cI cZ a) A cells slots Qf nL q lv st (up2 σ 3 (ix i9) x9)) : go p l e R s m args below meth c D (wM cI cZ a) A cells slots Qf nL pc lv (.int x9 :: .int i9 :: .ref (a 3) :: st) σ := r_iast X (q0 := 3) (t0 := 0) q rfl rfl hin rfl hdg hq kk
theorem n_M3 (X : cx p s m args c cc nL own D (wM cI cZ a) A (tyW cI cZ cH)) (q : Nat) (hdg : decode cc pc = .ok (.arraylength, 1)) (hq : pc + 1 = q) (kk : go p l e R s m args below meth c D (wM cI cZ a) A cells slots Qf nL q lv (.int 6 :: st) σ) : go p l e R s m args below meth c D (wM cI cZ a) A cells slots Qf nL pc lv (.ref (a 3) :: st) σ := r_alen X (q0 := 3) (t0 := 0) q rfl rfl rfl hdg hq kk
theorem l_M4 (X : cx p s m args c cc nL own D (wM cI cZ a) A (tyW cI cZ cH)) {i9 : Int32} (q : Nat) (hin : vp_in i9 60) (hdg : decode cc pc = .ok (.iaload, 1)) (hq : pc + 1 = q) (kk : go p l e R s m args below meth c D (wM cI cZ a) A cells slots Qf nL q lv (.int (σ 4 (ix i9)) :: st) σ) : go p l e R s m args below meth c D (wM cI cZ a) A cells slots Qf nL pc lv (.int i9 :: .ref (a 4) :: st) σ := r_iald X (q0 := 4) (t0 := 0) q rfl rfl hin hdg hq kk
theorem s_M4 (X : cx p s m args c cc nL own D (wM cI cZ a) A (tyW cI cZ cH)) {i9 x9 : Int32} (q : Nat) (hin : vp_in i9 60) (hdg : decode cc pc = .ok (.iastore, 1)) (hq : pc + 1 = q) (kk : go p l e R s m args below meth c D (wM cI cZ a) A cells slots Qf nL q lv st (up2 σ 4 (ix i9) x9)) : go p l e R s m args below meth c D (wM cI cZ a) A cells slots Qf nL pc lv (.int x9 :: .int i9 :: .ref (a 4) :: st) σ := r_iast X (q0 := 4) (t0 := 0) q rfl rfl hin rfl hdg hq kk
theorem n_M4 (X : cx p s m args c cc nL own D (wM cI cZ a) A (tyW cI cZ cH)) (q : Nat) (hdg : decode cc pc = .ok (.arraylength, 1)) (hq : pc + 1 = q) (kk : go p l e R s m args below meth c D (wM cI cZ a) A cells slots Qf nL q lv (.int 60 :: st) σ) : go p l e R s m args below meth c D (wM cI cZ a) A cells slots Qf nL pc lv (.ref (a 4) :: st) σ := r_alen X (q0 := 4) (t0 := 0) q rfl rfl rfl hdg hq kk
theorem l_M5 (X : cx p s m args c cc nL own D (wM cI cZ a) A (tyW cI cZ cH)) {i9 : Int32} (q : Nat) (hin : vp_in i9 60) (hdg : decode cc pc = .ok (.iaload, 1)) (hq : pc + 1 = q) (kk : go p l e R s m args below meth c D (wM cI cZ a) A cells slots Qf nL q lv (.int (σ 5 (ix i9)) :: st) σ) : go p l e R s m args below meth c D (wM cI cZ a) A cells slots Qf nL pc lv (.int i9 :: .ref (a 5) :: st) σ := r_iald X (q0 := 5) (t0 := 0) q rfl rfl hin hdg hq kk
theorem s_M5 (X : cx p s m args c cc nL own D (wM cI cZ a) A (tyW cI cZ cH)) {i9 x9 : Int32} (q : Nat) (hin : vp_in i9 60) (hdg : decode cc pc = .ok (.iastore, 1)) (hq : pc + 1 = q) (kk : go p l e R s m args below meth c D (wM cI cZ a) A cells slots Qf nL q lv st (up2 σ 5 (ix i9) x9)) : go p l e R s m args below meth c D (wM cI cZ a) A cells slots Qf nL pc lv (.int x9 :: .int i9 :: .ref (a 5) :: st) σ := r_iast X (q0 := 5) (t0 := 0) q rfl rfl hin rfl hdg hq kk
theorem n_M5 (X : cx p s m args c cc nL own D (wM cI cZ a) A (tyW cI cZ cH)) (q : Nat) (hdg : decode cc pc = .ok (.arraylength, 1)) (hq : pc + 1 = q) (kk : go p l e R s m args below meth c D (wM cI cZ a) A cells slots Qf nL q lv (.int 60 :: st) σ) : go p l e R s m args below meth c D (wM cI cZ a) A cells slots Qf nL pc lv (.ref (a 5) :: st) σ := r_alen X (q0 := 5) (t0 := 0) q rfl rfl rfl hdg hq kk
theorem l_M8 (X : cx p s m args c cc nL own D (wM cI cZ a) A (tyW cI cZ cH)) {i9 : Int32} (q : Nat) (hin : vp_in i9 420) (hdg : decode cc pc = .ok (.iaload, 1)) (hq : pc + 1 = q) (kk : go p l e R s m args below meth c D (wM cI cZ a) A cells slots Qf nL q lv (.int (σ 8 (ix i9)) :: st) σ) : go p l e R s m args below meth c D (wM cI cZ a) A cells slots Qf nL pc lv (.int i9 :: .ref (a 8) :: st) σ := r_iald X (q0 := 8) (t0 := 0) q rfl rfl hin hdg hq kk
theorem s_M8 (X : cx p s m args c cc nL own D (wM cI cZ a) A (tyW cI cZ cH)) {i9 x9 : Int32} (q : Nat) (hin : vp_in i9 420) (hdg : decode cc pc = .ok (.iastore, 1)) (hq : pc + 1 = q) (kk : go p l e R s m args below meth c D (wM cI cZ a) A cells slots Qf nL q lv st (up2 σ 8 (ix i9) x9)) : go p l e R s m args below meth c D (wM cI cZ a) A cells slots Qf nL pc lv (.int x9 :: .int i9 :: .ref (a 8) :: st) σ := r_iast X (q0 := 8) (t0 := 0) q rfl rfl hin rfl hdg hq kk
theorem n_M8 (X : cx p s m args c cc nL own D (wM cI cZ a) A (tyW cI cZ cH)) (q : Nat) (hdg : decode cc pc = .ok (.arraylength, 1)) (hq : pc + 1 = q) (kk : go p l e R s m args below meth c D (wM cI cZ a) A cells slots Qf nL q lv (.int 420 :: st) σ) : go p l e R s m args below meth c D (wM cI cZ a) A cells slots Qf nL pc lv (.ref (a 8) :: st) σ := r_alen X (q0 := 8) (t0 := 0) q rfl rfl rfl hdg hq kk
theorem l_M9 (X : cx p s m args c cc nL own D (wM cI cZ a) A (tyW cI cZ cH)) {i9 : Int32} (q : Nat) (hin : vp_in i9 60) (hdg : decode cc pc = .ok (.iaload, 1)) (hq : pc + 1 = q) (kk : go p l e R s m args below meth c D (wM cI cZ a) A cells slots Qf nL q lv (.int (σ 9 (ix i9)) :: st) σ) : go p l e R s m args below meth c D (wM cI cZ a) A cells slots Qf nL pc lv (.int i9 :: .ref (a 9) :: st) σ := r_iald X (q0 := 9) (t0 := 0) q rfl rfl hin hdg hq kk
theorem s_M9 (X : cx p s m args c cc nL own D (wM cI cZ a) A (tyW cI cZ cH)) {i9 x9 : Int32} (q : Nat) (hin : vp_in i9 60) (hdg : decode cc pc = .ok (.iastore, 1)) (hq : pc + 1 = q) (kk : go p l e R s m args below meth c D (wM cI cZ a) A cells slots Qf nL q lv st (up2 σ 9 (ix i9) x9)) : go p l e R s m args below meth c D (wM cI cZ a) A cells slots Qf nL pc lv (.int x9 :: .int i9 :: .ref (a 9) :: st) σ := r_iast X (q0 := 9) (t0 := 0) q rfl rfl hin rfl hdg hq kk
theorem n_M9 (X : cx p s m args c cc nL own D (wM cI cZ a) A (tyW cI cZ cH)) (q : Nat) (hdg : decode cc pc = .ok (.arraylength, 1)) (hq : pc + 1 = q) (kk : go p l e R s m args below meth c D (wM cI cZ a) A cells slots Qf nL q lv (.int 60 :: st) σ) : go p l e R s m args below meth c D (wM cI cZ a) A cells slots Qf nL pc lv (.ref (a 9) :: st) σ := r_alen X (q0 := 9) (t0 := 0) q rfl rfl rfl hdg hq kk
theorem l_M10 (X : cx p s m args c cc nL own D (wM cI cZ a) A (tyW cI cZ cH)) {i9 : Int32} (q : Nat) (hin : vp_in i9 60) (hdg : decode cc pc = .ok (.iaload, 1)) (hq : pc + 1 = q) (kk : go p l e R s m args below meth c D (wM cI cZ a) A cells slots Qf nL q lv (.int (σ 10 (ix i9)) :: st) σ) : go p l e R s m args below meth c D (wM cI cZ a) A cells slots Qf nL pc lv (.int i9 :: .ref (a 10) :: st) σ := r_iald X (q0 := 10) (t0 := 0) q rfl rfl hin hdg hq kk
theorem s_M10 (X : cx p s m args c cc nL own D (wM cI cZ a) A (tyW cI cZ cH)) {i9 x9 : Int32} (q : Nat) (hin : vp_in i9 60) (hdg : decode cc pc = .ok (.iastore, 1)) (hq : pc + 1 = q) (kk : go p l e R s m args below meth c D (wM cI cZ a) A cells slots Qf nL q lv st (up2 σ 10 (ix i9) x9)) : go p l e R s m args below meth c D (wM cI cZ a) A cells slots Qf nL pc lv (.int x9 :: .int i9 :: .ref (a 10) :: st) σ := r_iast X (q0 := 10) (t0 := 0) q rfl rfl hin rfl hdg hq kk
theorem n_M10 (X : cx p s m args c cc nL own D (wM cI cZ a) A (tyW cI cZ cH)) (q : Nat) (hdg : decode cc pc = .ok (.arraylength, 1)) (hq : pc + 1 = q) (kk : go p l e R s m args below meth c D (wM cI cZ a) A cells slots Qf nL q lv (.int 60 :: st) σ) : go p l e R s m args below meth c D (wM cI cZ a) A cells slots Qf nL pc lv (.ref (a 10) :: st) σ := r_alen X (q0 := 10) (t0 := 0) q rfl rfl rfl hdg hq kk
theorem l_M11 (X : cx p s m args c cc nL own D (wM cI cZ a) A (tyW cI cZ cH)) {i9 : Int32} (q : Nat) (hin : vp_in i9 60) (hdg : decode cc pc = .ok (.iaload, 1)) (hq : pc + 1 = q) (kk : go p l e R s m args below meth c D (wM cI cZ a) A cells slots Qf nL q lv (.int (σ 11 (ix i9)) :: st) σ) : go p l e R s m args below meth c D (wM cI cZ a) A cells slots Qf nL pc lv (.int i9 :: .ref (a 11) :: st) σ := r_iald X (q0 := 11) (t0 := 0) q rfl rfl hin hdg hq kk
theorem s_M11 (X : cx p s m args c cc nL own D (wM cI cZ a) A (tyW cI cZ cH)) {i9 x9 : Int32} (q : Nat) (hin : vp_in i9 60) (hdg : decode cc pc = .ok (.iastore, 1)) (hq : pc + 1 = q) (kk : go p l e R s m args below meth c D (wM cI cZ a) A cells slots Qf nL q lv st (up2 σ 11 (ix i9) x9)) : go p l e R s m args below meth c D (wM cI cZ a) A cells slots Qf nL pc lv (.int x9 :: .int i9 :: .ref (a 11) :: st) σ := r_iast X (q0 := 11) (t0 := 0) q rfl rfl hin rfl hdg hq kk
theorem n_M11 (X : cx p s m args c cc nL own D (wM cI cZ a) A (tyW cI cZ cH)) (q : Nat) (hdg : decode cc pc = .ok (.arraylength, 1)) (hq : pc + 1 = q) (kk : go p l e R s m args below meth c D (wM cI cZ a) A cells slots Qf nL q lv (.int 60 :: st) σ) : go p l e R s m args below meth c D (wM cI cZ a) A cells slots Qf nL pc lv (.ref (a 11) :: st) σ := r_alen X (q0 := 11) (t0 := 0) q rfl rfl rfl hdg hq kk
theorem l_M12 (X : cx p s m args c cc nL own D (wM cI cZ a) A (tyW cI cZ cH)) {i9 : Int32} (q : Nat) (hin : vp_in i9 60) (hdg : decode cc pc = .ok (.iaload, 1)) (hq : pc + 1 = q) (kk : go p l e R s m args below meth c D (wM cI cZ a) A cells slots Qf nL q lv (.int (σ 12 (ix i9)) :: st) σ) : go p l e R s m args below meth c D (wM cI cZ a) A cells slots Qf nL pc lv (.int i9 :: .ref (a 12) :: st) σ := r_iald X (q0 := 12) (t0 := 0) q rfl rfl hin hdg hq kk
theorem s_M12 (X : cx p s m args c cc nL own D (wM cI cZ a) A (tyW cI cZ cH)) {i9 x9 : Int32} (q : Nat) (hin : vp_in i9 60) (hdg : decode cc pc = .ok (.iastore, 1)) (hq : pc + 1 = q) (kk : go p l e R s m args below meth c D (wM cI cZ a) A cells slots Qf nL q lv st (up2 σ 12 (ix i9) x9)) : go p l e R s m args below meth c D (wM cI cZ a) A cells slots Qf nL pc lv (.int x9 :: .int i9 :: .ref (a 12) :: st) σ := r_iast X (q0 := 12) (t0 := 0) q rfl rfl hin rfl hdg hq kk
theorem n_M12 (X : cx p s m args c cc nL own D (wM cI cZ a) A (tyW cI cZ cH)) (q : Nat) (hdg : decode cc pc = .ok (.arraylength, 1)) (hq : pc + 1 = q) (kk : go p l e R s m args below meth c D (wM cI cZ a) A cells slots Qf nL q lv (.int 60 :: st) σ) : go p l e R s m args below meth c D (wM cI cZ a) A cells slots Qf nL pc lv (.ref (a 12) :: st) σ := r_alen X (q0 := 12) (t0 := 0) q rfl rfl rfl hdg hq kk
theorem l_M13 (X : cx p s m args c cc nL own D (wM cI cZ a) A (tyW cI cZ cH)) {i9 : Int32} (q : Nat) (hin : vp_in i9 60) (hdg : decode cc pc = .ok (.iaload, 1)) (hq : pc + 1 = q) (kk : go p l e R s m args below meth c D (wM cI cZ a) A cells slots Qf nL q lv (.int (σ 13 (ix i9)) :: st) σ) : go p l e R s m args below meth c D (wM cI cZ a) A cells slots Qf nL pc lv (.int i9 :: .ref (a 13) :: st) σ := r_iald X (q0 := 13) (t0 := 0) q rfl rfl hin hdg hq kk
theorem s_M13 (X : cx p s m args c cc nL own D (wM cI cZ a) A (tyW cI cZ cH)) {i9 x9 : Int32} (q : Nat) (hin : vp_in i9 60) (hdg : decode cc pc = .ok (.iastore, 1)) (hq : pc + 1 = q) (kk : go p l e R s m args below meth c D (wM cI cZ a) A cells slots Qf nL q lv st (up2 σ 13 (ix i9) x9)) : go p l e R s m args below meth c D (wM cI cZ a) A cells slots Qf nL pc lv (.int x9 :: .int i9 :: .ref (a 13) :: st) σ := r_iast X (q0 := 13) (t0 := 0) q rfl rfl hin rfl hdg hq kk
theorem n_M13 (X : cx p s m args c cc nL own D (wM cI cZ a) A (tyW cI cZ cH)) (q : Nat) (hdg : decode cc pc = .ok (.arraylength, 1)) (hq : pc + 1 = q) (kk : go p l e R s m args below meth c D (wM cI cZ a) A cells slots Qf nL q lv (.int 60 :: st) σ) : go p l e R s m args below meth c D (wM cI cZ a) A cells slots Qf nL pc lv (.ref (a 13) :: st) σ := r_alen X (q0 := 13) (t0 := 0) q rfl rfl rfl hdg hq kk
theorem l_M14 (X : cx p s m args c cc nL own D (wM cI cZ a) A (tyW cI cZ cH)) {i9 : Int32} (q : Nat) (hin : vp_in i9 60) (hdg : decode cc pc = .ok (.iaload, 1)) (hq : pc + 1 = q) (kk : go p l e R s m args below meth c D (wM cI cZ a) A cells slots Qf nL q lv (.int (σ 14 (ix i9)) :: st) σ) : go p l e R s m args below meth c D (wM cI cZ a) A cells slots Qf nL pc lv (.int i9 :: .ref (a 14) :: st) σ := r_iald X (q0 := 14) (t0 := 0) q rfl rfl hin hdg hq kk
theorem s_M14 (X : cx p s m args c cc nL own D (wM cI cZ a) A (tyW cI cZ cH)) {i9 x9 : Int32} (q : Nat) (hin : vp_in i9 60) (hdg : decode cc pc = .ok (.iastore, 1)) (hq : pc + 1 = q) (kk : go p l e R s m args below meth c D (wM cI cZ a) A cells slots Qf nL q lv st (up2 σ 14 (ix i9) x9)) : go p l e R s m args below meth c D (wM cI cZ a) A cells slots Qf nL pc lv (.int x9 :: .int i9 :: .ref (a 14) :: st) σ := r_iast X (q0 := 14) (t0 := 0) q rfl rfl hin rfl hdg hq kk
theorem n_M14 (X : cx p s m args c cc nL own D (wM cI cZ a) A (tyW cI cZ cH)) (q : Nat) (hdg : decode cc pc = .ok (.arraylength, 1)) (hq : pc + 1 = q) (kk : go p l e R s m args below meth c D (wM cI cZ a) A cells slots Qf nL q lv (.int 60 :: st) σ) : go p l e R s m args below meth c D (wM cI cZ a) A cells slots Qf nL pc lv (.ref (a 14) :: st) σ := r_alen X (q0 := 14) (t0 := 0) q rfl rfl rfl hdg hq kk
theorem l_M15 (X : cx p s m args c cc nL own D (wM cI cZ a) A (tyW cI cZ cH)) {i9 : Int32} (q : Nat) (hin : vp_in i9 60) (hdg : decode cc pc = .ok (.baload, 1)) (hq : pc + 1 = q) (kk : go p l e R s m args below meth c D (wM cI cZ a) A cells slots Qf nL q lv (.int (σ 15 (ix i9)) :: st) σ) : go p l e R s m args below meth c D (wM cI cZ a) A cells slots Qf nL pc lv (.int i9 :: .ref (a 15) :: st) σ := r_zald X (q0 := 15) (t0 := 1) q rfl rfl hin hdg hq kk
theorem s_M15 (X : cx p s m args c cc nL own D (wM cI cZ a) A (tyW cI cZ cH)) {i9 x9 x8 : Int32} (hb9 : vp_nar .boolean x9 = x8) (q : Nat) (hin : vp_in i9 60) (hdg : decode cc pc = .ok (.bastore, 1)) (hq : pc + 1 = q) (kk : go p l e R s m args below meth c D (wM cI cZ a) A cells slots Qf nL q lv st (up2 σ 15 (ix i9) x8)) : go p l e R s m args below meth c D (wM cI cZ a) A cells slots Qf nL pc lv (.int x9 :: .int i9 :: .ref (a 15) :: st) σ := r_zast X (q0 := 15) (t0 := 1) q rfl rfl hin hb9 rfl hdg hq kk
theorem n_M15 (X : cx p s m args c cc nL own D (wM cI cZ a) A (tyW cI cZ cH)) (q : Nat) (hdg : decode cc pc = .ok (.arraylength, 1)) (hq : pc + 1 = q) (kk : go p l e R s m args below meth c D (wM cI cZ a) A cells slots Qf nL q lv (.int 60 :: st) σ) : go p l e R s m args below meth c D (wM cI cZ a) A cells slots Qf nL pc lv (.ref (a 15) :: st) σ := r_alen X (q0 := 15) (t0 := 1) q rfl rfl rfl hdg hq kk
theorem l_M16 (X : cx p s m args c cc nL own D (wM cI cZ a) A (tyW cI cZ cH)) {i9 : Int32} (q : Nat) (hin : vp_in i9 60) (hdg : decode cc pc = .ok (.iaload, 1)) (hq : pc + 1 = q) (kk : go p l e R s m args below meth c D (wM cI cZ a) A cells slots Qf nL q lv (.int (σ 16 (ix i9)) :: st) σ) : go p l e R s m args below meth c D (wM cI cZ a) A cells slots Qf nL pc lv (.int i9 :: .ref (a 16) :: st) σ := r_iald X (q0 := 16) (t0 := 0) q rfl rfl hin hdg hq kk
theorem s_M16 (X : cx p s m args c cc nL own D (wM cI cZ a) A (tyW cI cZ cH)) {i9 x9 : Int32} (q : Nat) (hin : vp_in i9 60) (hdg : decode cc pc = .ok (.iastore, 1)) (hq : pc + 1 = q) (kk : go p l e R s m args below meth c D (wM cI cZ a) A cells slots Qf nL q lv st (up2 σ 16 (ix i9) x9)) : go p l e R s m args below meth c D (wM cI cZ a) A cells slots Qf nL pc lv (.int x9 :: .int i9 :: .ref (a 16) :: st) σ := r_iast X (q0 := 16) (t0 := 0) q rfl rfl hin rfl hdg hq kk
theorem n_M16 (X : cx p s m args c cc nL own D (wM cI cZ a) A (tyW cI cZ cH)) (q : Nat) (hdg : decode cc pc = .ok (.arraylength, 1)) (hq : pc + 1 = q) (kk : go p l e R s m args below meth c D (wM cI cZ a) A cells slots Qf nL q lv (.int 60 :: st) σ) : go p l e R s m args below meth c D (wM cI cZ a) A cells slots Qf nL pc lv (.ref (a 16) :: st) σ := r_alen X (q0 := 16) (t0 := 0) q rfl rfl rfl hdg hq kk
theorem l_M17 (X : cx p s m args c cc nL own D (wM cI cZ a) A (tyW cI cZ cH)) {i9 : Int32} (q : Nat) (hin : vp_in i9 60) (hdg : decode cc pc = .ok (.iaload, 1)) (hq : pc + 1 = q) (kk : go p l e R s m args below meth c D (wM cI cZ a) A cells slots Qf nL q lv (.int (σ 17 (ix i9)) :: st) σ) : go p l e R s m args below meth c D (wM cI cZ a) A cells slots Qf nL pc lv (.int i9 :: .ref (a 17) :: st) σ := r_iald X (q0 := 17) (t0 := 0) q rfl rfl hin hdg hq kk
theorem s_M17 (X : cx p s m args c cc nL own D (wM cI cZ a) A (tyW cI cZ cH)) {i9 x9 : Int32} (q : Nat) (hin : vp_in i9 60) (hdg : decode cc pc = .ok (.iastore, 1)) (hq : pc + 1 = q) (kk : go p l e R s m args below meth c D (wM cI cZ a) A cells slots Qf nL q lv st (up2 σ 17 (ix i9) x9)) : go p l e R s m args below meth c D (wM cI cZ a) A cells slots Qf nL pc lv (.int x9 :: .int i9 :: .ref (a 17) :: st) σ := r_iast X (q0 := 17) (t0 := 0) q rfl rfl hin rfl hdg hq kk
theorem n_M17 (X : cx p s m args c cc nL own D (wM cI cZ a) A (tyW cI cZ cH)) (q : Nat) (hdg : decode cc pc = .ok (.arraylength, 1)) (hq : pc + 1 = q) (kk : go p l e R s m args below meth c D (wM cI cZ a) A cells slots Qf nL q lv (.int 60 :: st) σ) : go p l e R s m args below meth c D (wM cI cZ a) A cells slots Qf nL pc lv (.ref (a 17) :: st) σ := r_alen X (q0 := 17) (t0 := 0) q rfl rfl rfl hdg hq kk
theorem l_M18 (X : cx p s m args c cc nL own D (wM cI cZ a) A (tyW cI cZ cH)) {i9 : Int32} (q : Nat) (hin : vp_in i9 60) (hdg : decode cc pc = .ok (.baload, 1)) (hq : pc + 1 = q) (kk : go p l e R s m args below meth c D (wM cI cZ a) A cells slots Qf nL q lv (.int (σ 18 (ix i9)) :: st) σ) : go p l e R s m args below meth c D (wM cI cZ a) A cells slots Qf nL pc lv (.int i9 :: .ref (a 18) :: st) σ := r_zald X (q0 := 18) (t0 := 1) q rfl rfl hin hdg hq kk
theorem s_M18 (X : cx p s m args c cc nL own D (wM cI cZ a) A (tyW cI cZ cH)) {i9 x9 x8 : Int32} (hb9 : vp_nar .boolean x9 = x8) (q : Nat) (hin : vp_in i9 60) (hdg : decode cc pc = .ok (.bastore, 1)) (hq : pc + 1 = q) (kk : go p l e R s m args below meth c D (wM cI cZ a) A cells slots Qf nL q lv st (up2 σ 18 (ix i9) x8)) : go p l e R s m args below meth c D (wM cI cZ a) A cells slots Qf nL pc lv (.int x9 :: .int i9 :: .ref (a 18) :: st) σ := r_zast X (q0 := 18) (t0 := 1) q rfl rfl hin hb9 rfl hdg hq kk
theorem n_M18 (X : cx p s m args c cc nL own D (wM cI cZ a) A (tyW cI cZ cH)) (q : Nat) (hdg : decode cc pc = .ok (.arraylength, 1)) (hq : pc + 1 = q) (kk : go p l e R s m args below meth c D (wM cI cZ a) A cells slots Qf nL q lv (.int 60 :: st) σ) : go p l e R s m args below meth c D (wM cI cZ a) A cells slots Qf nL pc lv (.ref (a 18) :: st) σ := r_alen X (q0 := 18) (t0 := 1) q rfl rfl rfl hdg hq kk
theorem l_M19 (X : cx p s m args c cc nL own D (wM cI cZ a) A (tyW cI cZ cH)) {i9 : Int32} (q : Nat) (hin : vp_in i9 600) (hdg : decode cc pc = .ok (.baload, 1)) (hq : pc + 1 = q) (kk : go p l e R s m args below meth c D (wM cI cZ a) A cells slots Qf nL q lv (.int (σ 19 (ix i9)) :: st) σ) : go p l e R s m args below meth c D (wM cI cZ a) A cells slots Qf nL pc lv (.int i9 :: .ref (a 19) :: st) σ := r_zald X (q0 := 19) (t0 := 1) q rfl rfl hin hdg hq kk
theorem s_M19 (X : cx p s m args c cc nL own D (wM cI cZ a) A (tyW cI cZ cH)) {i9 x9 x8 : Int32} (hb9 : vp_nar .boolean x9 = x8) (q : Nat) (hin : vp_in i9 600) (hdg : decode cc pc = .ok (.bastore, 1)) (hq : pc + 1 = q) (kk : go p l e R s m args below meth c D (wM cI cZ a) A cells slots Qf nL q lv st (up2 σ 19 (ix i9) x8)) : go p l e R s m args below meth c D (wM cI cZ a) A cells slots Qf nL pc lv (.int x9 :: .int i9 :: .ref (a 19) :: st) σ := r_zast X (q0 := 19) (t0 := 1) q rfl rfl hin hb9 rfl hdg hq kk
theorem n_M19 (X : cx p s m args c cc nL own D (wM cI cZ a) A (tyW cI cZ cH)) (q : Nat) (hdg : decode cc pc = .ok (.arraylength, 1)) (hq : pc + 1 = q) (kk : go p l e R s m args below meth c D (wM cI cZ a) A cells slots Qf nL q lv (.int 600 :: st) σ) : go p l e R s m args below meth c D (wM cI cZ a) A cells slots Qf nL pc lv (.ref (a 19) :: st) σ := r_alen X (q0 := 19) (t0 := 1) q rfl rfl rfl hdg hq kk
theorem l_M20 (X : cx p s m args c cc nL own D (wM cI cZ a) A (tyW cI cZ cH)) {i9 : Int32} (q : Nat) (hin : vp_in i9 401) (hdg : decode cc pc = .ok (.iaload, 1)) (hq : pc + 1 = q) (kk : go p l e R s m args below meth c D (wM cI cZ a) A cells slots Qf nL q lv (.int (σ 20 (ix i9)) :: st) σ) : go p l e R s m args below meth c D (wM cI cZ a) A cells slots Qf nL pc lv (.int i9 :: .ref (a 20) :: st) σ := r_iald X (q0 := 20) (t0 := 0) q rfl rfl hin hdg hq kk
theorem s_M20 (X : cx p s m args c cc nL own D (wM cI cZ a) A (tyW cI cZ cH)) {i9 x9 : Int32} (q : Nat) (hin : vp_in i9 401) (hdg : decode cc pc = .ok (.iastore, 1)) (hq : pc + 1 = q) (kk : go p l e R s m args below meth c D (wM cI cZ a) A cells slots Qf nL q lv st (up2 σ 20 (ix i9) x9)) : go p l e R s m args below meth c D (wM cI cZ a) A cells slots Qf nL pc lv (.int x9 :: .int i9 :: .ref (a 20) :: st) σ := r_iast X (q0 := 20) (t0 := 0) q rfl rfl hin rfl hdg hq kk
theorem n_M20 (X : cx p s m args c cc nL own D (wM cI cZ a) A (tyW cI cZ cH)) (q : Nat) (hdg : decode cc pc = .ok (.arraylength, 1)) (hq : pc + 1 = q) (kk : go p l e R s m args below meth c D (wM cI cZ a) A cells slots Qf nL q lv (.int 401 :: st) σ) : go p l e R s m args below meth c D (wM cI cZ a) A cells slots Qf nL pc lv (.ref (a 20) :: st) σ := r_alen X (q0 := 20) (t0 := 0) q rfl rfl rfl hdg hq kk
theorem l_M21 (X : cx p s m args c cc nL own D (wM cI cZ a) A (tyW cI cZ cH)) {i9 : Int32} (q : Nat) (hin : vp_in i9 800) (hdg : decode cc pc = .ok (.iaload, 1)) (hq : pc + 1 = q) (kk : go p l e R s m args below meth c D (wM cI cZ a) A cells slots Qf nL q lv (.int (σ 21 (ix i9)) :: st) σ) : go p l e R s m args below meth c D (wM cI cZ a) A cells slots Qf nL pc lv (.int i9 :: .ref (a 21) :: st) σ := r_iald X (q0 := 21) (t0 := 0) q rfl rfl hin hdg hq kk
theorem s_M21 (X : cx p s m args c cc nL own D (wM cI cZ a) A (tyW cI cZ cH)) {i9 x9 : Int32} (q : Nat) (hin : vp_in i9 800) (hdg : decode cc pc = .ok (.iastore, 1)) (hq : pc + 1 = q) (kk : go p l e R s m args below meth c D (wM cI cZ a) A cells slots Qf nL q lv st (up2 σ 21 (ix i9) x9)) : go p l e R s m args below meth c D (wM cI cZ a) A cells slots Qf nL pc lv (.int x9 :: .int i9 :: .ref (a 21) :: st) σ := r_iast X (q0 := 21) (t0 := 0) q rfl rfl hin rfl hdg hq kk
theorem n_M21 (X : cx p s m args c cc nL own D (wM cI cZ a) A (tyW cI cZ cH)) (q : Nat) (hdg : decode cc pc = .ok (.arraylength, 1)) (hq : pc + 1 = q) (kk : go p l e R s m args below meth c D (wM cI cZ a) A cells slots Qf nL q lv (.int 800 :: st) σ) : go p l e R s m args below meth c D (wM cI cZ a) A cells slots Qf nL pc lv (.ref (a 21) :: st) σ := r_alen X (q0 := 21) (t0 := 0) q rfl rfl rfl hdg hq kk
theorem l_M22 (X : cx p s m args c cc nL own D (wM cI cZ a) A (tyW cI cZ cH)) {i9 : Int32} (q : Nat) (hin : vp_in i9 60) (hdg : decode cc pc = .ok (.iaload, 1)) (hq : pc + 1 = q) (kk : go p l e R s m args below meth c D (wM cI cZ a) A cells slots Qf nL q lv (.int (σ 22 (ix i9)) :: st) σ) : go p l e R s m args below meth c D (wM cI cZ a) A cells slots Qf nL pc lv (.int i9 :: .ref (a 22) :: st) σ := r_iald X (q0 := 22) (t0 := 0) q rfl rfl hin hdg hq kk
theorem s_M22 (X : cx p s m args c cc nL own D (wM cI cZ a) A (tyW cI cZ cH)) {i9 x9 : Int32} (q : Nat) (hin : vp_in i9 60) (hdg : decode cc pc = .ok (.iastore, 1)) (hq : pc + 1 = q) (kk : go p l e R s m args below meth c D (wM cI cZ a) A cells slots Qf nL q lv st (up2 σ 22 (ix i9) x9)) : go p l e R s m args below meth c D (wM cI cZ a) A cells slots Qf nL pc lv (.int x9 :: .int i9 :: .ref (a 22) :: st) σ := r_iast X (q0 := 22) (t0 := 0) q rfl rfl hin rfl hdg hq kk
theorem n_M22 (X : cx p s m args c cc nL own D (wM cI cZ a) A (tyW cI cZ cH)) (q : Nat) (hdg : decode cc pc = .ok (.arraylength, 1)) (hq : pc + 1 = q) (kk : go p l e R s m args below meth c D (wM cI cZ a) A cells slots Qf nL q lv (.int 60 :: st) σ) : go p l e R s m args below meth c D (wM cI cZ a) A cells slots Qf nL pc lv (.ref (a 22) :: st) σ := r_alen X (q0 := 22) (t0 := 0) q rfl rfl rfl hdg hq kk
theorem l_M23 (X : cx p s m args c cc nL own D (wM cI cZ a) A (tyW cI cZ cH)) {i9 : Int32} (q : Nat) (hin : vp_in i9 60) (hdg : decode cc pc = .ok (.iaload, 1)) (hq : pc + 1 = q) (kk : go p l e R s m args below meth c D (wM cI cZ a) A cells slots Qf nL q lv (.int (σ 23 (ix i9)) :: st) σ) : go p l e R s m args below meth c D (wM cI cZ a) A cells slots Qf nL pc lv (.int i9 :: .ref (a 23) :: st) σ := r_iald X (q0 := 23) (t0 := 0) q rfl rfl hin hdg hq kk
theorem s_M23 (X : cx p s m args c cc nL own D (wM cI cZ a) A (tyW cI cZ cH)) {i9 x9 : Int32} (q : Nat) (hin : vp_in i9 60) (hdg : decode cc pc = .ok (.iastore, 1)) (hq : pc + 1 = q) (kk : go p l e R s m args below meth c D (wM cI cZ a) A cells slots Qf nL q lv st (up2 σ 23 (ix i9) x9)) : go p l e R s m args below meth c D (wM cI cZ a) A cells slots Qf nL pc lv (.int x9 :: .int i9 :: .ref (a 23) :: st) σ := r_iast X (q0 := 23) (t0 := 0) q rfl rfl hin rfl hdg hq kk
theorem n_M23 (X : cx p s m args c cc nL own D (wM cI cZ a) A (tyW cI cZ cH)) (q : Nat) (hdg : decode cc pc = .ok (.arraylength, 1)) (hq : pc + 1 = q) (kk : go p l e R s m args below meth c D (wM cI cZ a) A cells slots Qf nL q lv (.int 60 :: st) σ) : go p l e R s m args below meth c D (wM cI cZ a) A cells slots Qf nL pc lv (.ref (a 23) :: st) σ := r_alen X (q0 := 23) (t0 := 0) q rfl rfl rfl hdg hq kk
theorem l_Mk (X : cx p s m args c cc nL own D (wM cI cZ a) A (tyW cI cZ cH)) {k : Nat} (hk : k = 6 ∨ k = 7) {i9 : Int32} (q : Nat) (hin : vp_in i9 3208) (hdg : decode cc pc = .ok (.iaload, 1)) (hq : pc + 1 = q) (kk : go p l e R s m args below meth c D (wM cI cZ a) A cells slots Qf nL q lv (.int (σ k (ix i9)) :: st) σ) : go p l e R s m args below meth c D (wM cI cZ a) A cells slots Qf nL pc lv (.int i9 :: .ref (a k) :: st) σ := r_iald X (q0 := k) (t0 := 0) q (by rcases hk with rfl | rfl <;> rfl) rfl hin hdg hq kk
theorem s_Mk (X : cx p s m args c cc nL own D (wM cI cZ a) A (tyW cI cZ cH)) {k : Nat} (hk : k = 6 ∨ k = 7) {i9 x9 : Int32} (q : Nat) (hin : vp_in i9 3208) (hdg : decode cc pc = .ok (.iastore, 1)) (hq : pc + 1 = q) (kk : go p l e R s m args below meth c D (wM cI cZ a) A cells slots Qf nL q lv st (up2 σ k (ix i9) x9)) : go p l e R s m args below meth c D (wM cI cZ a) A cells slots Qf nL pc lv (.int x9 :: .int i9 :: .ref (a k) :: st) σ := r_iast X (q0 := k) (t0 := 0) q (by rcases hk with rfl | rfl <;> rfl) rfl hin (by rcases hk with rfl | rfl <;> rfl) hdg hq kk
theorem n_Mk (X : cx p s m args c cc nL own D (wM cI cZ a) A (tyW cI cZ cH)) {k : Nat} (hk : k = 6 ∨ k = 7) (q : Nat) (hdg : decode cc pc = .ok (.arraylength, 1)) (hq : pc + 1 = q) (kk : go p l e R s m args below meth c D (wM cI cZ a) A cells slots Qf nL q lv (.int 3208 :: st) σ) : go p l e R s m args below meth c D (wM cI cZ a) A cells slots Qf nL pc lv (.ref (a k) :: st) σ := r_alen X (q0 := k) (t0 := 0) q (by rcases hk with rfl | rfl <;> rfl) rfl rfl hdg hq kk
end WROWS
end
