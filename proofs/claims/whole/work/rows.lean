section
-- ===== PART A: goes FIRST, ahead of the names: the tables' words, and 'selects' of the private methods out of them =====
/-- a private method of a class that the tables say can be made, by its rows of tables_1 -/
def lw_okq (q : MethodName × Nat) : Prop := (q.1.cls ≠ "java/lang/invoke/MethodHandle" ∧ q.1.cls ≠ "java/lang/invoke/VarHandle") ∧ Cond.instantiable q.1.cls q.2 ∈ tables_1 ∧ Cond.privateMethod q.1 ∈ tables_1 ∧ Cond.instanceMethod q.1 ∈ tables_1
theorem lw_p0 : lw_okq (⟨"CustodyRoom$Stock", "addHand", "(Z)I"⟩, 8) := ⟨⟨by decide +kernel, by decide +kernel⟩, List.mem_of_getElem? (i := 21) (by decide +kernel), List.mem_of_getElem? (i := 204) (by decide +kernel), List.mem_of_getElem? (i := 205) (by decide +kernel)⟩
theorem lw_p1 : lw_okq (⟨"CustodyRoom$Stock", "addShelf", "(Z)I"⟩, 8) := ⟨⟨by decide +kernel, by decide +kernel⟩, List.mem_of_getElem? (i := 21) (by decide +kernel), List.mem_of_getElem? (i := 212) (by decide +kernel), List.mem_of_getElem? (i := 213) (by decide +kernel)⟩
theorem lw_p2 : lw_okq (⟨"CustodyRoom$Slips", "useSealBeyond", "(II)Z"⟩, 3) := ⟨⟨by decide +kernel, by decide +kernel⟩, List.mem_of_getElem? (i := 62) (by decide +kernel), List.mem_of_getElem? (i := 220) (by decide +kernel), List.mem_of_getElem? (i := 221) (by decide +kernel)⟩
theorem lw_p3 : lw_okq (⟨"CustodyRoom$Slips", "cell", "(II)I"⟩, 3) := ⟨⟨by decide +kernel, by decide +kernel⟩, List.mem_of_getElem? (i := 62) (by decide +kernel), List.mem_of_getElem? (i := 224) (by decide +kernel), List.mem_of_getElem? (i := 225) (by decide +kernel)⟩
theorem lw_p4 : lw_okq (⟨"CustodyRoom$Slips", "has", "(I)Z"⟩, 3) := ⟨⟨by decide +kernel, by decide +kernel⟩, List.mem_of_getElem? (i := 62) (by decide +kernel), List.mem_of_getElem? (i := 228) (by decide +kernel), List.mem_of_getElem? (i := 229) (by decide +kernel)⟩
theorem lw_p5 : lw_okq (⟨"CustodyRoom$Stock", "giveOut", "(II)V"⟩, 8) := ⟨⟨by decide +kernel, by decide +kernel⟩, List.mem_of_getElem? (i := 21) (by decide +kernel), List.mem_of_getElem? (i := 232) (by decide +kernel), List.mem_of_getElem? (i := 233) (by decide +kernel)⟩
theorem lw_p6 : lw_okq (⟨"CustodyRoom$Stock", "addThing", "(II)I"⟩, 8) := ⟨⟨by decide +kernel, by decide +kernel⟩, List.mem_of_getElem? (i := 21) (by decide +kernel), List.mem_of_getElem? (i := 241) (by decide +kernel), List.mem_of_getElem? (i := 242) (by decide +kernel)⟩
theorem lw_p7 : lw_okq (⟨"CustodyRoom", "write", "(IIIIIII)I"⟩, 12) := ⟨⟨by decide +kernel, by decide +kernel⟩, List.mem_of_getElem? (i := 13) (by decide +kernel), List.mem_of_getElem? (i := 255) (by decide +kernel), List.mem_of_getElem? (i := 256) (by decide +kernel)⟩
theorem lw_p8 : lw_okq (⟨"CustodyRoom", "faultAhead", "(III)I"⟩, 12) := ⟨⟨by decide +kernel, by decide +kernel⟩, List.mem_of_getElem? (i := 13) (by decide +kernel), List.mem_of_getElem? (i := 259) (by decide +kernel), List.mem_of_getElem? (i := 260) (by decide +kernel)⟩
theorem lw_p9 : lw_okq (⟨"CustodyRoom$Stock", "isThing", "(I)Z"⟩, 8) := ⟨⟨by decide +kernel, by decide +kernel⟩, List.mem_of_getElem? (i := 21) (by decide +kernel), List.mem_of_getElem? (i := 263) (by decide +kernel), List.mem_of_getElem? (i := 264) (by decide +kernel)⟩
theorem lw_p10 : lw_okq (⟨"CustodyRoom$Slips", "add", "([I)V"⟩, 3) := ⟨⟨by decide +kernel, by decide +kernel⟩, List.mem_of_getElem? (i := 62) (by decide +kernel), List.mem_of_getElem? (i := 267) (by decide +kernel), List.mem_of_getElem? (i := 268) (by decide +kernel)⟩
theorem lw_p11 : lw_okq (⟨"CustodyRoom$Slips", "putInOrder", "(I)V"⟩, 3) := ⟨⟨by decide +kernel, by decide +kernel⟩, List.mem_of_getElem? (i := 62) (by decide +kernel), List.mem_of_getElem? (i := 274) (by decide +kernel), List.mem_of_getElem? (i := 275) (by decide +kernel)⟩
theorem lw_p12 : lw_okq (⟨"CustodyRoom$Standing", "firstUndone", "(LCustodyRoom$Slips;)I"⟩, 19) := ⟨⟨by decide +kernel, by decide +kernel⟩, List.mem_of_getElem? (i := 81) (by decide +kernel), List.mem_of_getElem? (i := 278) (by decide +kernel), List.mem_of_getElem? (i := 279) (by decide +kernel)⟩
theorem lw_p13 : lw_okq (⟨"CustodyRoom$Standing", "clear", "()V"⟩, 19) := ⟨⟨by decide +kernel, by decide +kernel⟩, List.mem_of_getElem? (i := 81) (by decide +kernel), List.mem_of_getElem? (i := 282) (by decide +kernel), List.mem_of_getElem? (i := 283) (by decide +kernel)⟩
theorem lw_p14 : lw_okq (⟨"CustodyRoom$Slips", "inOrder", "(I)I"⟩, 3) := ⟨⟨by decide +kernel, by decide +kernel⟩, List.mem_of_getElem? (i := 62) (by decide +kernel), List.mem_of_getElem? (i := 288) (by decide +kernel), List.mem_of_getElem? (i := 289) (by decide +kernel)⟩
theorem lw_p15 : lw_okq (⟨"CustodyRoom$Standing", "tell", "(LCustodyRoom$Slips;I)Z"⟩, 19) := ⟨⟨by decide +kernel, by decide +kernel⟩, List.mem_of_getElem? (i := 81) (by decide +kernel), List.mem_of_getElem? (i := 292) (by decide +kernel), List.mem_of_getElem? (i := 293) (by decide +kernel)⟩
def lw_privs_1 : List (MethodName × Nat) := [(⟨"CustodyRoom$Stock", "addHand", "(Z)I"⟩, 8), (⟨"CustodyRoom$Stock", "addShelf", "(Z)I"⟩, 8), (⟨"CustodyRoom$Slips", "useSealBeyond", "(II)Z"⟩, 3), (⟨"CustodyRoom$Slips", "cell", "(II)I"⟩, 3), (⟨"CustodyRoom$Slips", "has", "(I)Z"⟩, 3), (⟨"CustodyRoom$Stock", "giveOut", "(II)V"⟩, 8), (⟨"CustodyRoom$Stock", "addThing", "(II)I"⟩, 8), (⟨"CustodyRoom", "write", "(IIIIIII)I"⟩, 12), (⟨"CustodyRoom", "faultAhead", "(III)I"⟩, 12), (⟨"CustodyRoom$Stock", "isThing", "(I)Z"⟩, 8), (⟨"CustodyRoom$Slips", "add", "([I)V"⟩, 3), (⟨"CustodyRoom$Slips", "putInOrder", "(I)V"⟩, 3), (⟨"CustodyRoom$Standing", "firstUndone", "(LCustodyRoom$Slips;)I"⟩, 19), (⟨"CustodyRoom$Standing", "clear", "()V"⟩, 19), (⟨"CustodyRoom$Slips", "inOrder", "(I)I"⟩, 3), (⟨"CustodyRoom$Standing", "tell", "(LCustodyRoom$Slips;I)Z"⟩, 19)]
theorem lw_r1 : ∀ q ∈ lw_privs_1, lw_okq q := List.forall_mem_cons.mpr ⟨lw_p0, List.forall_mem_cons.mpr ⟨lw_p1, List.forall_mem_cons.mpr ⟨lw_p2, List.forall_mem_cons.mpr ⟨lw_p3, List.forall_mem_cons.mpr ⟨lw_p4, List.forall_mem_cons.mpr ⟨lw_p5, List.forall_mem_cons.mpr ⟨lw_p6, List.forall_mem_cons.mpr ⟨lw_p7, List.forall_mem_cons.mpr ⟨lw_p8, List.forall_mem_cons.mpr ⟨lw_p9, List.forall_mem_cons.mpr ⟨lw_p10, List.forall_mem_cons.mpr ⟨lw_p11, List.forall_mem_cons.mpr ⟨lw_p12, List.forall_mem_cons.mpr ⟨lw_p13, List.forall_mem_cons.mpr ⟨lw_p14, List.forall_mem_cons.mpr ⟨lw_p15, fun _ h => absurd h List.not_mem_nil⟩⟩⟩⟩⟩⟩⟩⟩⟩⟩⟩⟩⟩⟩⟩⟩
theorem lw_p16 : lw_okq (⟨"CustodyRoom$Standing", "isKept", "(I)Z"⟩, 19) := ⟨⟨by decide +kernel, by decide +kernel⟩, List.mem_of_getElem? (i := 81) (by decide +kernel), List.mem_of_getElem? (i := 298) (by decide +kernel), List.mem_of_getElem? (i := 299) (by decide +kernel)⟩
theorem lw_p17 : lw_okq (⟨"CustodyRoom$Standing", "comeIn", "()Z"⟩, 19) := ⟨⟨by decide +kernel, by decide +kernel⟩, List.mem_of_getElem? (i := 81) (by decide +kernel), List.mem_of_getElem? (i := 302) (by decide +kernel), List.mem_of_getElem? (i := 303) (by decide +kernel)⟩
theorem lw_p18 : lw_okq (⟨"CustodyRoom$Stock", "isOfKind", "(II)Z"⟩, 8) := ⟨⟨by decide +kernel, by decide +kernel⟩, List.mem_of_getElem? (i := 21) (by decide +kernel), List.mem_of_getElem? (i := 306) (by decide +kernel), List.mem_of_getElem? (i := 307) (by decide +kernel)⟩
theorem lw_p19 : lw_okq (⟨"CustodyRoom$Standing", "isMoneyBag", "(I)Z"⟩, 19) := ⟨⟨by decide +kernel, by decide +kernel⟩, List.mem_of_getElem? (i := 81) (by decide +kernel), List.mem_of_getElem? (i := 310) (by decide +kernel), List.mem_of_getElem? (i := 311) (by decide +kernel)⟩
theorem lw_p20 : lw_okq (⟨"CustodyRoom$Standing", "keepersServe", "(Z)Z"⟩, 19) := ⟨⟨by decide +kernel, by decide +kernel⟩, List.mem_of_getElem? (i := 81) (by decide +kernel), List.mem_of_getElem? (i := 314) (by decide +kernel), List.mem_of_getElem? (i := 315) (by decide +kernel)⟩
theorem lw_p21 : lw_okq (⟨"CustodyRoom$Stock", "isKeeper", "(I)Z"⟩, 8) := ⟨⟨by decide +kernel, by decide +kernel⟩, List.mem_of_getElem? (i := 21) (by decide +kernel), List.mem_of_getElem? (i := 318) (by decide +kernel), List.mem_of_getElem? (i := 319) (by decide +kernel)⟩
theorem lw_p22 : lw_okq (⟨"CustodyRoom$Stock", "isHand", "(I)Z"⟩, 8) := ⟨⟨by decide +kernel, by decide +kernel⟩, List.mem_of_getElem? (i := 21) (by decide +kernel), List.mem_of_getElem? (i := 322) (by decide +kernel), List.mem_of_getElem? (i := 323) (by decide +kernel)⟩
theorem lw_p23 : lw_okq (⟨"CustodyRoom$Standing", "mayLieAt", "(I)Z"⟩, 19) := ⟨⟨by decide +kernel, by decide +kernel⟩, List.mem_of_getElem? (i := 81) (by decide +kernel), List.mem_of_getElem? (i := 326) (by decide +kernel), List.mem_of_getElem? (i := 327) (by decide +kernel)⟩
theorem lw_p24 : lw_okq (⟨"CustodyRoom$Stock", "isPlace", "(I)Z"⟩, 8) := ⟨⟨by decide +kernel, by decide +kernel⟩, List.mem_of_getElem? (i := 21) (by decide +kernel), List.mem_of_getElem? (i := 330) (by decide +kernel), List.mem_of_getElem? (i := 331) (by decide +kernel)⟩
theorem lw_p25 : lw_okq (⟨"CustodyRoom$Stock", "isColdPlace", "(I)Z"⟩, 8) := ⟨⟨by decide +kernel, by decide +kernel⟩, List.mem_of_getElem? (i := 21) (by decide +kernel), List.mem_of_getElem? (i := 334) (by decide +kernel), List.mem_of_getElem? (i := 335) (by decide +kernel)⟩
theorem lw_p26 : lw_okq (⟨"CustodyRoom$Standing", "move", "(III)V"⟩, 19) := ⟨⟨by decide +kernel, by decide +kernel⟩, List.mem_of_getElem? (i := 81) (by decide +kernel), List.mem_of_getElem? (i := 338) (by decide +kernel), List.mem_of_getElem? (i := 339) (by decide +kernel)⟩
theorem lw_p27 : lw_okq (⟨"CustodyRoom$Standing", "register", "(III)V"⟩, 19) := ⟨⟨by decide +kernel, by decide +kernel⟩, List.mem_of_getElem? (i := 81) (by decide +kernel), List.mem_of_getElem? (i := 342) (by decide +kernel), List.mem_of_getElem? (i := 343) (by decide +kernel)⟩
theorem lw_p28 : lw_okq (⟨"CustodyRoom$Standing", "goOut", "()Z"⟩, 19) := ⟨⟨by decide +kernel, by decide +kernel⟩, List.mem_of_getElem? (i := 81) (by decide +kernel), List.mem_of_getElem? (i := 346) (by decide +kernel), List.mem_of_getElem? (i := 347) (by decide +kernel)⟩
theorem lw_p29 : lw_okq (⟨"CustodyRoom$Standing", "isDay", "(I)Z"⟩, 19) := ⟨⟨by decide +kernel, by decide +kernel⟩, List.mem_of_getElem? (i := 81) (by decide +kernel), List.mem_of_getElem? (i := 350) (by decide +kernel), List.mem_of_getElem? (i := 351) (by decide +kernel)⟩
theorem lw_p30 : lw_okq (⟨"CustodyRoom$Standing", "goOn", "()Z"⟩, 19) := ⟨⟨by decide +kernel, by decide +kernel⟩, List.mem_of_getElem? (i := 81) (by decide +kernel), List.mem_of_getElem? (i := 355) (by decide +kernel), List.mem_of_getElem? (i := 356) (by decide +kernel)⟩
theorem lw_p31 : lw_okq (⟨"CustodyRoom$Standing", "isAt", "(III)Z"⟩, 19) := ⟨⟨by decide +kernel, by decide +kernel⟩, List.mem_of_getElem? (i := 81) (by decide +kernel), List.mem_of_getElem? (i := 359) (by decide +kernel), List.mem_of_getElem? (i := 360) (by decide +kernel)⟩
def lw_privs_2 : List (MethodName × Nat) := [(⟨"CustodyRoom$Standing", "isKept", "(I)Z"⟩, 19), (⟨"CustodyRoom$Standing", "comeIn", "()Z"⟩, 19), (⟨"CustodyRoom$Stock", "isOfKind", "(II)Z"⟩, 8), (⟨"CustodyRoom$Standing", "isMoneyBag", "(I)Z"⟩, 19), (⟨"CustodyRoom$Standing", "keepersServe", "(Z)Z"⟩, 19), (⟨"CustodyRoom$Stock", "isKeeper", "(I)Z"⟩, 8), (⟨"CustodyRoom$Stock", "isHand", "(I)Z"⟩, 8), (⟨"CustodyRoom$Standing", "mayLieAt", "(I)Z"⟩, 19), (⟨"CustodyRoom$Stock", "isPlace", "(I)Z"⟩, 8), (⟨"CustodyRoom$Stock", "isColdPlace", "(I)Z"⟩, 8), (⟨"CustodyRoom$Standing", "move", "(III)V"⟩, 19), (⟨"CustodyRoom$Standing", "register", "(III)V"⟩, 19), (⟨"CustodyRoom$Standing", "goOut", "()Z"⟩, 19), (⟨"CustodyRoom$Standing", "isDay", "(I)Z"⟩, 19), (⟨"CustodyRoom$Standing", "goOn", "()Z"⟩, 19), (⟨"CustodyRoom$Standing", "isAt", "(III)Z"⟩, 19)]
theorem lw_r2 : ∀ q ∈ lw_privs_2, lw_okq q := List.forall_mem_cons.mpr ⟨lw_p16, List.forall_mem_cons.mpr ⟨lw_p17, List.forall_mem_cons.mpr ⟨lw_p18, List.forall_mem_cons.mpr ⟨lw_p19, List.forall_mem_cons.mpr ⟨lw_p20, List.forall_mem_cons.mpr ⟨lw_p21, List.forall_mem_cons.mpr ⟨lw_p22, List.forall_mem_cons.mpr ⟨lw_p23, List.forall_mem_cons.mpr ⟨lw_p24, List.forall_mem_cons.mpr ⟨lw_p25, List.forall_mem_cons.mpr ⟨lw_p26, List.forall_mem_cons.mpr ⟨lw_p27, List.forall_mem_cons.mpr ⟨lw_p28, List.forall_mem_cons.mpr ⟨lw_p29, List.forall_mem_cons.mpr ⟨lw_p30, List.forall_mem_cons.mpr ⟨lw_p31, fun _ h => absurd h List.not_mem_nil⟩⟩⟩⟩⟩⟩⟩⟩⟩⟩⟩⟩⟩⟩⟩⟩
theorem lw_p32 : lw_okq (⟨"CustodyRoom$Standing", "comeBack", "()Z"⟩, 19) := ⟨⟨by decide +kernel, by decide +kernel⟩, List.mem_of_getElem? (i := 81) (by decide +kernel), List.mem_of_getElem? (i := 363) (by decide +kernel), List.mem_of_getElem? (i := 364) (by decide +kernel)⟩
theorem lw_p33 : lw_okq (⟨"CustodyRoom$Standing", "putElsewhere", "()Z"⟩, 19) := ⟨⟨by decide +kernel, by decide +kernel⟩, List.mem_of_getElem? (i := 81) (by decide +kernel), List.mem_of_getElem? (i := 367) (by decide +kernel), List.mem_of_getElem? (i := 368) (by decide +kernel)⟩
theorem lw_p34 : lw_okq (⟨"CustodyRoom$Standing", "goInto", "()Z"⟩, 19) := ⟨⟨by decide +kernel, by decide +kernel⟩, List.mem_of_getElem? (i := 81) (by decide +kernel), List.mem_of_getElem? (i := 371) (by decide +kernel), List.mem_of_getElem? (i := 372) (by decide +kernel)⟩
theorem lw_p35 : lw_okq (⟨"CustodyRoom$Stock", "isBag", "(I)Z"⟩, 8) := ⟨⟨by decide +kernel, by decide +kernel⟩, List.mem_of_getElem? (i := 21) (by decide +kernel), List.mem_of_getElem? (i := 375) (by decide +kernel), List.mem_of_getElem? (i := 376) (by decide +kernel)⟩
theorem lw_p36 : lw_okq (⟨"CustodyRoom$Standing", "deepestIn", "(I)I"⟩, 19) := ⟨⟨by decide +kernel, by decide +kernel⟩, List.mem_of_getElem? (i := 81) (by decide +kernel), List.mem_of_getElem? (i := 380) (by decide +kernel), List.mem_of_getElem? (i := 381) (by decide +kernel)⟩
theorem lw_p37 : lw_okq (⟨"CustodyRoom$Standing", "stepsUpTo", "(II)I"⟩, 19) := ⟨⟨by decide +kernel, by decide +kernel⟩, List.mem_of_getElem? (i := 81) (by decide +kernel), List.mem_of_getElem? (i := 384) (by decide +kernel), List.mem_of_getElem? (i := 385) (by decide +kernel)⟩
theorem lw_p38 : lw_okq (⟨"CustodyRoom$Standing", "bagAround", "(I)I"⟩, 19) := ⟨⟨by decide +kernel, by decide +kernel⟩, List.mem_of_getElem? (i := 81) (by decide +kernel), List.mem_of_getElem? (i := 388) (by decide +kernel), List.mem_of_getElem? (i := 389) (by decide +kernel)⟩
theorem lw_p39 : lw_okq (⟨"CustodyRoom$Standing", "comeFrom", "()Z"⟩, 19) := ⟨⟨by decide +kernel, by decide +kernel⟩, List.mem_of_getElem? (i := 81) (by decide +kernel), List.mem_of_getElem? (i := 395) (by decide +kernel), List.mem_of_getElem? (i := 396) (by decide +kernel)⟩
theorem lw_p40 : lw_okq (⟨"CustodyRoom$Standing", "close", "()Z"⟩, 19) := ⟨⟨by decide +kernel, by decide +kernel⟩, List.mem_of_getElem? (i := 81) (by decide +kernel), List.mem_of_getElem? (i := 399) (by decide +kernel), List.mem_of_getElem? (i := 400) (by decide +kernel)⟩
theorem lw_p41 : lw_okq (⟨"CustodyRoom$Stock", "isGivenOut", "(I)Z"⟩, 8) := ⟨⟨by decide +kernel, by decide +kernel⟩, List.mem_of_getElem? (i := 21) (by decide +kernel), List.mem_of_getElem? (i := 403) (by decide +kernel), List.mem_of_getElem? (i := 404) (by decide +kernel)⟩
theorem lw_p42 : lw_okq (⟨"CustodyRoom$Standing", "unseal", "()Z"⟩, 19) := ⟨⟨by decide +kernel, by decide +kernel⟩, List.mem_of_getElem? (i := 81) (by decide +kernel), List.mem_of_getElem? (i := 407) (by decide +kernel), List.mem_of_getElem? (i := 408) (by decide +kernel)⟩
theorem lw_p43 : lw_okq (⟨"CustodyRoom$Standing", "look", "()Z"⟩, 19) := ⟨⟨by decide +kernel, by decide +kernel⟩, List.mem_of_getElem? (i := 81) (by decide +kernel), List.mem_of_getElem? (i := 411) (by decide +kernel), List.mem_of_getElem? (i := 412) (by decide +kernel)⟩
theorem lw_p44 : lw_okq (⟨"CustodyRoom$Standing", "takePart", "()Z"⟩, 19) := ⟨⟨by decide +kernel, by decide +kernel⟩, List.mem_of_getElem? (i := 81) (by decide +kernel), List.mem_of_getElem? (i := 415) (by decide +kernel), List.mem_of_getElem? (i := 416) (by decide +kernel)⟩
theorem lw_p45 : lw_okq (⟨"CustodyRoom$Standing", "mayBeTaken", "(I)Z"⟩, 19) := ⟨⟨by decide +kernel, by decide +kernel⟩, List.mem_of_getElem? (i := 81) (by decide +kernel), List.mem_of_getElem? (i := 419) (by decide +kernel), List.mem_of_getElem? (i := 420) (by decide +kernel)⟩
theorem lw_p46 : lw_okq (⟨"CustodyRoom$Standing", "isFree", "(I)Z"⟩, 19) := ⟨⟨by decide +kernel, by decide +kernel⟩, List.mem_of_getElem? (i := 81) (by decide +kernel), List.mem_of_getElem? (i := 423) (by decide +kernel), List.mem_of_getElem? (i := 424) (by decide +kernel)⟩
theorem lw_p47 : lw_okq (⟨"CustodyRoom$Standing", "bringToHand", "()V"⟩, 19) := ⟨⟨by decide +kernel, by decide +kernel⟩, List.mem_of_getElem? (i := 81) (by decide +kernel), List.mem_of_getElem? (i := 427) (by decide +kernel), List.mem_of_getElem? (i := 428) (by decide +kernel)⟩
def lw_privs_3 : List (MethodName × Nat) := [(⟨"CustodyRoom$Standing", "comeBack", "()Z"⟩, 19), (⟨"CustodyRoom$Standing", "putElsewhere", "()Z"⟩, 19), (⟨"CustodyRoom$Standing", "goInto", "()Z"⟩, 19), (⟨"CustodyRoom$Stock", "isBag", "(I)Z"⟩, 8), (⟨"CustodyRoom$Standing", "deepestIn", "(I)I"⟩, 19), (⟨"CustodyRoom$Standing", "stepsUpTo", "(II)I"⟩, 19), (⟨"CustodyRoom$Standing", "bagAround", "(I)I"⟩, 19), (⟨"CustodyRoom$Standing", "comeFrom", "()Z"⟩, 19), (⟨"CustodyRoom$Standing", "close", "()Z"⟩, 19), (⟨"CustodyRoom$Stock", "isGivenOut", "(I)Z"⟩, 8), (⟨"CustodyRoom$Standing", "unseal", "()Z"⟩, 19), (⟨"CustodyRoom$Standing", "look", "()Z"⟩, 19), (⟨"CustodyRoom$Standing", "takePart", "()Z"⟩, 19), (⟨"CustodyRoom$Standing", "mayBeTaken", "(I)Z"⟩, 19), (⟨"CustodyRoom$Standing", "isFree", "(I)Z"⟩, 19), (⟨"CustodyRoom$Standing", "bringToHand", "()V"⟩, 19)]
theorem lw_r3 : ∀ q ∈ lw_privs_3, lw_okq q := List.forall_mem_cons.mpr ⟨lw_p32, List.forall_mem_cons.mpr ⟨lw_p33, List.forall_mem_cons.mpr ⟨lw_p34, List.forall_mem_cons.mpr ⟨lw_p35, List.forall_mem_cons.mpr ⟨lw_p36, List.forall_mem_cons.mpr ⟨lw_p37, List.forall_mem_cons.mpr ⟨lw_p38, List.forall_mem_cons.mpr ⟨lw_p39, List.forall_mem_cons.mpr ⟨lw_p40, List.forall_mem_cons.mpr ⟨lw_p41, List.forall_mem_cons.mpr ⟨lw_p42, List.forall_mem_cons.mpr ⟨lw_p43, List.forall_mem_cons.mpr ⟨lw_p44, List.forall_mem_cons.mpr ⟨lw_p45, List.forall_mem_cons.mpr ⟨lw_p46, List.forall_mem_cons.mpr ⟨lw_p47, fun _ h => absurd h List.not_mem_nil⟩⟩⟩⟩⟩⟩⟩⟩⟩⟩⟩⟩⟩⟩⟩⟩
theorem lw_p48 : lw_okq (⟨"CustodyRoom$Standing", "takeCopy", "()Z"⟩, 19) := ⟨⟨by decide +kernel, by decide +kernel⟩, List.mem_of_getElem? (i := 81) (by decide +kernel), List.mem_of_getElem? (i := 431) (by decide +kernel), List.mem_of_getElem? (i := 432) (by decide +kernel)⟩
theorem lw_p49 : lw_okq (⟨"CustodyRoom$Standing", "weigh", "()Z"⟩, 19) := ⟨⟨by decide +kernel, by decide +kernel⟩, List.mem_of_getElem? (i := 81) (by decide +kernel), List.mem_of_getElem? (i := 435) (by decide +kernel), List.mem_of_getElem? (i := 436) (by decide +kernel)⟩
theorem lw_p50 : lw_okq (⟨"CustodyRoom$Standing", "keep", "()Z"⟩, 19) := ⟨⟨by decide +kernel, by decide +kernel⟩, List.mem_of_getElem? (i := 81) (by decide +kernel), List.mem_of_getElem? (i := 439) (by decide +kernel), List.mem_of_getElem? (i := 440) (by decide +kernel)⟩
theorem lw_p51 : lw_okq (⟨"CustodyRoom$Standing", "doom", "()Z"⟩, 19) := ⟨⟨by decide +kernel, by decide +kernel⟩, List.mem_of_getElem? (i := 81) (by decide +kernel), List.mem_of_getElem? (i := 443) (by decide +kernel), List.mem_of_getElem? (i := 444) (by decide +kernel)⟩
theorem lw_p52 : lw_okq (⟨"CustodyRoom$Standing", "beginTrial", "()Z"⟩, 19) := ⟨⟨by decide +kernel, by decide +kernel⟩, List.mem_of_getElem? (i := 81) (by decide +kernel), List.mem_of_getElem? (i := 447) (by decide +kernel), List.mem_of_getElem? (i := 448) (by decide +kernel)⟩
theorem lw_p53 : lw_okq (⟨"CustodyRoom$Standing", "goesOn", "()Z"⟩, 19) := ⟨⟨by decide +kernel, by decide +kernel⟩, List.mem_of_getElem? (i := 81) (by decide +kernel), List.mem_of_getElem? (i := 451) (by decide +kernel), List.mem_of_getElem? (i := 452) (by decide +kernel)⟩
theorem lw_p54 : lw_okq (⟨"CustodyRoom$Standing", "endTrial", "()Z"⟩, 19) := ⟨⟨by decide +kernel, by decide +kernel⟩, List.mem_of_getElem? (i := 81) (by decide +kernel), List.mem_of_getElem? (i := 455) (by decide +kernel), List.mem_of_getElem? (i := 456) (by decide +kernel)⟩
theorem lw_p55 : lw_okq (⟨"CustodyRoom$Standing", "destroy", "()Z"⟩, 19) := ⟨⟨by decide +kernel, by decide +kernel⟩, List.mem_of_getElem? (i := 81) (by decide +kernel), List.mem_of_getElem? (i := 459) (by decide +kernel), List.mem_of_getElem? (i := 460) (by decide +kernel)⟩
theorem lw_p56 : lw_okq (⟨"CustodyRoom$Standing", "isAnyOfItInHand", "()Z"⟩, 19) := ⟨⟨by decide +kernel, by decide +kernel⟩, List.mem_of_getElem? (i := 81) (by decide +kernel), List.mem_of_getElem? (i := 463) (by decide +kernel), List.mem_of_getElem? (i := 464) (by decide +kernel)⟩
theorem lw_p57 : lw_okq (⟨"CustodyRoom$Standing", "isOf", "(II)Z"⟩, 19) := ⟨⟨by decide +kernel, by decide +kernel⟩, List.mem_of_getElem? (i := 81) (by decide +kernel), List.mem_of_getElem? (i := 467) (by decide +kernel), List.mem_of_getElem? (i := 468) (by decide +kernel)⟩
theorem lw_p58 : lw_okq (⟨"CustodyRoom$Standing", "find", "()Z"⟩, 19) := ⟨⟨by decide +kernel, by decide +kernel⟩, List.mem_of_getElem? (i := 81) (by decide +kernel), List.mem_of_getElem? (i := 471) (by decide +kernel), List.mem_of_getElem? (i := 472) (by decide +kernel)⟩
theorem lw_p59 : lw_okq (⟨"CustodyRoom$Slips", "dropLast", "()V"⟩, 3) := ⟨⟨by decide +kernel, by decide +kernel⟩, List.mem_of_getElem? (i := 62) (by decide +kernel), List.mem_of_getElem? (i := 475) (by decide +kernel), List.mem_of_getElem? (i := 476) (by decide +kernel)⟩
theorem lw_p60 : lw_okq (⟨"CustodyRoom", "findHanding", "(I)LCustodyRoom$Handing;"⟩, 12) := ⟨⟨by decide +kernel, by decide +kernel⟩, List.mem_of_getElem? (i := 13) (by decide +kernel), List.mem_of_getElem? (i := 524) (by decide +kernel), List.mem_of_getElem? (i := 525) (by decide +kernel)⟩
theorem lw_p61 : lw_okq (⟨"CustodyRoom$Handing", "awaits", "(I)Z"⟩, 7) := ⟨⟨by decide +kernel, by decide +kernel⟩, List.mem_of_getElem? (i := 487) (by decide +kernel), List.mem_of_getElem? (i := 528) (by decide +kernel), List.mem_of_getElem? (i := 529) (by decide +kernel)⟩
theorem lw_p62 : lw_okq (⟨"CustodyRoom$Handing", "setYes", "(II)V"⟩, 7) := ⟨⟨by decide +kernel, by decide +kernel⟩, List.mem_of_getElem? (i := 487) (by decide +kernel), List.mem_of_getElem? (i := 532) (by decide +kernel), List.mem_of_getElem? (i := 533) (by decide +kernel)⟩
theorem lw_p63 : lw_okq (⟨"CustodyRoom$Handing", "isAgreed", "()Z"⟩, 7) := ⟨⟨by decide +kernel, by decide +kernel⟩, List.mem_of_getElem? (i := 487) (by decide +kernel), List.mem_of_getElem? (i := 536) (by decide +kernel), List.mem_of_getElem? (i := 537) (by decide +kernel)⟩
def lw_privs_4 : List (MethodName × Nat) := [(⟨"CustodyRoom$Standing", "takeCopy", "()Z"⟩, 19), (⟨"CustodyRoom$Standing", "weigh", "()Z"⟩, 19), (⟨"CustodyRoom$Standing", "keep", "()Z"⟩, 19), (⟨"CustodyRoom$Standing", "doom", "()Z"⟩, 19), (⟨"CustodyRoom$Standing", "beginTrial", "()Z"⟩, 19), (⟨"CustodyRoom$Standing", "goesOn", "()Z"⟩, 19), (⟨"CustodyRoom$Standing", "endTrial", "()Z"⟩, 19), (⟨"CustodyRoom$Standing", "destroy", "()Z"⟩, 19), (⟨"CustodyRoom$Standing", "isAnyOfItInHand", "()Z"⟩, 19), (⟨"CustodyRoom$Standing", "isOf", "(II)Z"⟩, 19), (⟨"CustodyRoom$Standing", "find", "()Z"⟩, 19), (⟨"CustodyRoom$Slips", "dropLast", "()V"⟩, 3), (⟨"CustodyRoom", "findHanding", "(I)LCustodyRoom$Handing;"⟩, 12), (⟨"CustodyRoom$Handing", "awaits", "(I)Z"⟩, 7), (⟨"CustodyRoom$Handing", "setYes", "(II)V"⟩, 7), (⟨"CustodyRoom$Handing", "isAgreed", "()Z"⟩, 7)]
theorem lw_r4 : ∀ q ∈ lw_privs_4, lw_okq q := List.forall_mem_cons.mpr ⟨lw_p48, List.forall_mem_cons.mpr ⟨lw_p49, List.forall_mem_cons.mpr ⟨lw_p50, List.forall_mem_cons.mpr ⟨lw_p51, List.forall_mem_cons.mpr ⟨lw_p52, List.forall_mem_cons.mpr ⟨lw_p53, List.forall_mem_cons.mpr ⟨lw_p54, List.forall_mem_cons.mpr ⟨lw_p55, List.forall_mem_cons.mpr ⟨lw_p56, List.forall_mem_cons.mpr ⟨lw_p57, List.forall_mem_cons.mpr ⟨lw_p58, List.forall_mem_cons.mpr ⟨lw_p59, List.forall_mem_cons.mpr ⟨lw_p60, List.forall_mem_cons.mpr ⟨lw_p61, List.forall_mem_cons.mpr ⟨lw_p62, List.forall_mem_cons.mpr ⟨lw_p63, fun _ h => absurd h List.not_mem_nil⟩⟩⟩⟩⟩⟩⟩⟩⟩⟩⟩⟩⟩⟩⟩⟩
theorem lw_p64 : lw_okq (⟨"CustodyRoom$Handing", "isLate", "()Z"⟩, 7) := ⟨⟨by decide +kernel, by decide +kernel⟩, List.mem_of_getElem? (i := 487) (by decide +kernel), List.mem_of_getElem? (i := 540) (by decide +kernel), List.mem_of_getElem? (i := 541) (by decide +kernel)⟩
theorem lw_p65 : lw_okq (⟨"CustodyRoom$Handing", "laterYes", "()I"⟩, 7) := ⟨⟨by decide +kernel, by decide +kernel⟩, List.mem_of_getElem? (i := 487) (by decide +kernel), List.mem_of_getElem? (i := 544) (by decide +kernel), List.mem_of_getElem? (i := 545) (by decide +kernel)⟩
theorem lw_p66 : lw_okq (⟨"CustodyRoom$Handing", "isBetween", "(I)Z"⟩, 7) := ⟨⟨by decide +kernel, by decide +kernel⟩, List.mem_of_getElem? (i := 487) (by decide +kernel), List.mem_of_getElem? (i := 554) (by decide +kernel), List.mem_of_getElem? (i := 555) (by decide +kernel)⟩
theorem lw_p67 : lw_okq (⟨"CustodyRoom$Slips", "isLate", "(I)Z"⟩, 3) := ⟨⟨by decide +kernel, by decide +kernel⟩, List.mem_of_getElem? (i := 62) (by decide +kernel), List.mem_of_getElem? (i := 567) (by decide +kernel), List.mem_of_getElem? (i := 568) (by decide +kernel)⟩
theorem lw_p68 : lw_okq (⟨"CustodyRoom$Standing", "tellKnown", "(LCustodyRoom$Slips;II)V"⟩, 19) := ⟨⟨by decide +kernel, by decide +kernel⟩, List.mem_of_getElem? (i := 81) (by decide +kernel), List.mem_of_getElem? (i := 576) (by decide +kernel), List.mem_of_getElem? (i := 577) (by decide +kernel)⟩
theorem lw_p69 : lw_okq (⟨"CustodyRoom$Standing", "answer", "(II)I"⟩, 19) := ⟨⟨by decide +kernel, by decide +kernel⟩, List.mem_of_getElem? (i := 81) (by decide +kernel), List.mem_of_getElem? (i := 580) (by decide +kernel), List.mem_of_getElem? (i := 581) (by decide +kernel)⟩
theorem lw_p70 : lw_okq (⟨"CustodyRoom$Standing", "outermost", "(I)I"⟩, 19) := ⟨⟨by decide +kernel, by decide +kernel⟩, List.mem_of_getElem? (i := 81) (by decide +kernel), List.mem_of_getElem? (i := 584) (by decide +kernel), List.mem_of_getElem? (i := 585) (by decide +kernel)⟩
theorem lw_p71 : lw_okq (⟨"CustodyRoom$Links", "follow", "(I)V"⟩, 3) := ⟨⟨by decide +kernel, by decide +kernel⟩, List.mem_of_getElem? (i := 145) (by decide +kernel), List.mem_of_getElem? (i := 598) (by decide +kernel), List.mem_of_getElem? (i := 599) (by decide +kernel)⟩
theorem lw_p72 : lw_okq (⟨"CustodyRoom$Slips", "isBirth", "(II)Z"⟩, 3) := ⟨⟨by decide +kernel, by decide +kernel⟩, List.mem_of_getElem? (i := 62) (by decide +kernel), List.mem_of_getElem? (i := 603) (by decide +kernel), List.mem_of_getElem? (i := 604) (by decide +kernel)⟩
theorem lw_p73 : lw_okq (⟨"CustodyRoom$Links", "append", "(I)V"⟩, 3) := ⟨⟨by decide +kernel, by decide +kernel⟩, List.mem_of_getElem? (i := 145) (by decide +kernel), List.mem_of_getElem? (i := 607) (by decide +kernel), List.mem_of_getElem? (i := 608) (by decide +kernel)⟩
theorem lw_p74 : lw_okq (⟨"CustodyRoom$Slips", "isMoveOf", "(II)Z"⟩, 3) := ⟨⟨by decide +kernel, by decide +kernel⟩, List.mem_of_getElem? (i := 62) (by decide +kernel), List.mem_of_getElem? (i := 612) (by decide +kernel), List.mem_of_getElem? (i := 613) (by decide +kernel)⟩
theorem lw_p75 : lw_okq (⟨"CustodyRoom$Links", "link", "(I)I"⟩, 3) := ⟨⟨by decide +kernel, by decide +kernel⟩, List.mem_of_getElem? (i := 145) (by decide +kernel), List.mem_of_getElem? (i := 616) (by decide +kernel), List.mem_of_getElem? (i := 617) (by decide +kernel)⟩
theorem lw_p76 : lw_okq (⟨"CustodyRoom$Links", "endOfGap", "(I)I"⟩, 3) := ⟨⟨by decide +kernel, by decide +kernel⟩, List.mem_of_getElem? (i := 145) (by decide +kernel), List.mem_of_getElem? (i := 624) (by decide +kernel), List.mem_of_getElem? (i := 625) (by decide +kernel)⟩
theorem lw_p77 : lw_okq (⟨"CustodyRoom$Slips", "firstBreak", "(I)I"⟩, 3) := ⟨⟨by decide +kernel, by decide +kernel⟩, List.mem_of_getElem? (i := 62) (by decide +kernel), List.mem_of_getElem? (i := 634) (by decide +kernel), List.mem_of_getElem? (i := 635) (by decide +kernel)⟩
theorem lw_p78 : lw_okq (⟨"CustodyRoom$Standing", "thingOfDay", "(II)I"⟩, 19) := ⟨⟨by decide +kernel, by decide +kernel⟩, List.mem_of_getElem? (i := 81) (by decide +kernel), List.mem_of_getElem? (i := 642) (by decide +kernel), List.mem_of_getElem? (i := 643) (by decide +kernel)⟩
theorem lw_p79 : lw_okq (⟨"CustodyRoom$Slips", "copyFrom", "(LCustodyRoom$Slips;)V"⟩, 3) := ⟨⟨by decide +kernel, by decide +kernel⟩, List.mem_of_getElem? (i := 62) (by decide +kernel), List.mem_of_getElem? (i := 650) (by decide +kernel), List.mem_of_getElem? (i := 651) (by decide +kernel)⟩
def lw_privs_5 : List (MethodName × Nat) := [(⟨"CustodyRoom$Handing", "isLate", "()Z"⟩, 7), (⟨"CustodyRoom$Handing", "laterYes", "()I"⟩, 7), (⟨"CustodyRoom$Handing", "isBetween", "(I)Z"⟩, 7), (⟨"CustodyRoom$Slips", "isLate", "(I)Z"⟩, 3), (⟨"CustodyRoom$Standing", "tellKnown", "(LCustodyRoom$Slips;II)V"⟩, 19), (⟨"CustodyRoom$Standing", "answer", "(II)I"⟩, 19), (⟨"CustodyRoom$Standing", "outermost", "(I)I"⟩, 19), (⟨"CustodyRoom$Links", "follow", "(I)V"⟩, 3), (⟨"CustodyRoom$Slips", "isBirth", "(II)Z"⟩, 3), (⟨"CustodyRoom$Links", "append", "(I)V"⟩, 3), (⟨"CustodyRoom$Slips", "isMoveOf", "(II)Z"⟩, 3), (⟨"CustodyRoom$Links", "link", "(I)I"⟩, 3), (⟨"CustodyRoom$Links", "endOfGap", "(I)I"⟩, 3), (⟨"CustodyRoom$Slips", "firstBreak", "(I)I"⟩, 3), (⟨"CustodyRoom$Standing", "thingOfDay", "(II)I"⟩, 19), (⟨"CustodyRoom$Slips", "copyFrom", "(LCustodyRoom$Slips;)V"⟩, 3)]
theorem lw_r5 : ∀ q ∈ lw_privs_5, lw_okq q := List.forall_mem_cons.mpr ⟨lw_p64, List.forall_mem_cons.mpr ⟨lw_p65, List.forall_mem_cons.mpr ⟨lw_p66, List.forall_mem_cons.mpr ⟨lw_p67, List.forall_mem_cons.mpr ⟨lw_p68, List.forall_mem_cons.mpr ⟨lw_p69, List.forall_mem_cons.mpr ⟨lw_p70, List.forall_mem_cons.mpr ⟨lw_p71, List.forall_mem_cons.mpr ⟨lw_p72, List.forall_mem_cons.mpr ⟨lw_p73, List.forall_mem_cons.mpr ⟨lw_p74, List.forall_mem_cons.mpr ⟨lw_p75, List.forall_mem_cons.mpr ⟨lw_p76, List.forall_mem_cons.mpr ⟨lw_p77, List.forall_mem_cons.mpr ⟨lw_p78, List.forall_mem_cons.mpr ⟨lw_p79, fun _ h => absurd h List.not_mem_nil⟩⟩⟩⟩⟩⟩⟩⟩⟩⟩⟩⟩⟩⟩⟩⟩
theorem lw_p80 : lw_okq (⟨"CustodyRoom$Slips", "alterCell", "(III)V"⟩, 3) := ⟨⟨by decide +kernel, by decide +kernel⟩, List.mem_of_getElem? (i := 62) (by decide +kernel), List.mem_of_getElem? (i := 658) (by decide +kernel), List.mem_of_getElem? (i := 659) (by decide +kernel)⟩
theorem lw_p81 : lw_okq (⟨"CustodyRoomModel", "begin", "()V"⟩, 33) := ⟨⟨by decide +kernel, by decide +kernel⟩, List.mem_of_getElem? (i := 670) (by decide +kernel), List.mem_of_getElem? (i := 676) (by decide +kernel), List.mem_of_getElem? (i := 677) (by decide +kernel)⟩
theorem lw_p82 : lw_okq (⟨"CustodyRoomModel", "written", "(IIIIIII)I"⟩, 33) := ⟨⟨by decide +kernel, by decide +kernel⟩, List.mem_of_getElem? (i := 670) (by decide +kernel), List.mem_of_getElem? (i := 810) (by decide +kernel), List.mem_of_getElem? (i := 811) (by decide +kernel)⟩
theorem lw_p83 : lw_okq (⟨"CustodyRoomModel", "firstWrong", "([II)I"⟩, 33) := ⟨⟨by decide +kernel, by decide +kernel⟩, List.mem_of_getElem? (i := 670) (by decide +kernel), List.mem_of_getElem? (i := 814) (by decide +kernel), List.mem_of_getElem? (i := 815) (by decide +kernel)⟩
theorem lw_p84 : lw_okq (⟨"CustodyRoomModel", "sort", "([II)V"⟩, 33) := ⟨⟨by decide +kernel, by decide +kernel⟩, List.mem_of_getElem? (i := 670) (by decide +kernel), List.mem_of_getElem? (i := 818) (by decide +kernel), List.mem_of_getElem? (i := 819) (by decide +kernel)⟩
theorem lw_p85 : lw_okq (⟨"CustodyRoomModel", "isSlip", "([II)Z"⟩, 33) := ⟨⟨by decide +kernel, by decide +kernel⟩, List.mem_of_getElem? (i := 670) (by decide +kernel), List.mem_of_getElem? (i := 822) (by decide +kernel), List.mem_of_getElem? (i := 823) (by decide +kernel)⟩
theorem lw_p86 : lw_okq (⟨"CustodyRoomModel", "isDone", "([II)Z"⟩, 33) := ⟨⟨by decide +kernel, by decide +kernel⟩, List.mem_of_getElem? (i := 670) (by decide +kernel), List.mem_of_getElem? (i := 826) (by decide +kernel), List.mem_of_getElem? (i := 827) (by decide +kernel)⟩
theorem lw_p87 : lw_okq (⟨"CustodyRoomModel", "comesIn", "(IIIII)Z"⟩, 33) := ⟨⟨by decide +kernel, by decide +kernel⟩, List.mem_of_getElem? (i := 670) (by decide +kernel), List.mem_of_getElem? (i := 830) (by decide +kernel), List.mem_of_getElem? (i := 831) (by decide +kernel)⟩
theorem lw_p88 : lw_okq (⟨"CustodyRoomModel", "hasKeepers", "(IIZ)Z"⟩, 33) := ⟨⟨by decide +kernel, by decide +kernel⟩, List.mem_of_getElem? (i := 670) (by decide +kernel), List.mem_of_getElem? (i := 834) (by decide +kernel), List.mem_of_getElem? (i := 835) (by decide +kernel)⟩
theorem lw_p89 : lw_okq (⟨"CustodyRoomModel", "isKeeper", "(I)Z"⟩, 33) := ⟨⟨by decide +kernel, by decide +kernel⟩, List.mem_of_getElem? (i := 670) (by decide +kernel), List.mem_of_getElem? (i := 838) (by decide +kernel), List.mem_of_getElem? (i := 839) (by decide +kernel)⟩
theorem lw_p90 : lw_okq (⟨"CustodyRoomModel", "isHand", "(I)Z"⟩, 33) := ⟨⟨by decide +kernel, by decide +kernel⟩, List.mem_of_getElem? (i := 670) (by decide +kernel), List.mem_of_getElem? (i := 842) (by decide +kernel), List.mem_of_getElem? (i := 843) (by decide +kernel)⟩
theorem lw_p91 : lw_okq (⟨"CustodyRoomModel", "fits", "(II)Z"⟩, 33) := ⟨⟨by decide +kernel, by decide +kernel⟩, List.mem_of_getElem? (i := 670) (by decide +kernel), List.mem_of_getElem? (i := 846) (by decide +kernel), List.mem_of_getElem? (i := 847) (by decide +kernel)⟩
theorem lw_p92 : lw_okq (⟨"CustodyRoomModel", "isEmpty", "(I)Z"⟩, 33) := ⟨⟨by decide +kernel, by decide +kernel⟩, List.mem_of_getElem? (i := 670) (by decide +kernel), List.mem_of_getElem? (i := 850) (by decide +kernel), List.mem_of_getElem? (i := 851) (by decide +kernel)⟩
theorem lw_p93 : lw_okq (⟨"CustodyRoomModel", "go", "(III)V"⟩, 33) := ⟨⟨by decide +kernel, by decide +kernel⟩, List.mem_of_getElem? (i := 670) (by decide +kernel), List.mem_of_getElem? (i := 854) (by decide +kernel), List.mem_of_getElem? (i := 855) (by decide +kernel)⟩
theorem lw_p94 : lw_okq (⟨"CustodyRoomModel", "isKept", "(I)Z"⟩, 33) := ⟨⟨by decide +kernel, by decide +kernel⟩, List.mem_of_getElem? (i := 670) (by decide +kernel), List.mem_of_getElem? (i := 858) (by decide +kernel), List.mem_of_getElem? (i := 859) (by decide +kernel)⟩
theorem lw_p95 : lw_okq (⟨"CustodyRoomModel", "moves", "(IIIIII)Z"⟩, 33) := ⟨⟨by decide +kernel, by decide +kernel⟩, List.mem_of_getElem? (i := 670) (by decide +kernel), List.mem_of_getElem? (i := 862) (by decide +kernel), List.mem_of_getElem? (i := 863) (by decide +kernel)⟩
def lw_privs_6 : List (MethodName × Nat) := [(⟨"CustodyRoom$Slips", "alterCell", "(III)V"⟩, 3), (⟨"CustodyRoomModel", "begin", "()V"⟩, 33), (⟨"CustodyRoomModel", "written", "(IIIIIII)I"⟩, 33), (⟨"CustodyRoomModel", "firstWrong", "([II)I"⟩, 33), (⟨"CustodyRoomModel", "sort", "([II)V"⟩, 33), (⟨"CustodyRoomModel", "isSlip", "([II)Z"⟩, 33), (⟨"CustodyRoomModel", "isDone", "([II)Z"⟩, 33), (⟨"CustodyRoomModel", "comesIn", "(IIIII)Z"⟩, 33), (⟨"CustodyRoomModel", "hasKeepers", "(IIZ)Z"⟩, 33), (⟨"CustodyRoomModel", "isKeeper", "(I)Z"⟩, 33), (⟨"CustodyRoomModel", "isHand", "(I)Z"⟩, 33), (⟨"CustodyRoomModel", "fits", "(II)Z"⟩, 33), (⟨"CustodyRoomModel", "isEmpty", "(I)Z"⟩, 33), (⟨"CustodyRoomModel", "go", "(III)V"⟩, 33), (⟨"CustodyRoomModel", "isKept", "(I)Z"⟩, 33), (⟨"CustodyRoomModel", "moves", "(IIIIII)Z"⟩, 33)]
theorem lw_r6 : ∀ q ∈ lw_privs_6, lw_okq q := List.forall_mem_cons.mpr ⟨lw_p80, List.forall_mem_cons.mpr ⟨lw_p81, List.forall_mem_cons.mpr ⟨lw_p82, List.forall_mem_cons.mpr ⟨lw_p83, List.forall_mem_cons.mpr ⟨lw_p84, List.forall_mem_cons.mpr ⟨lw_p85, List.forall_mem_cons.mpr ⟨lw_p86, List.forall_mem_cons.mpr ⟨lw_p87, List.forall_mem_cons.mpr ⟨lw_p88, List.forall_mem_cons.mpr ⟨lw_p89, List.forall_mem_cons.mpr ⟨lw_p90, List.forall_mem_cons.mpr ⟨lw_p91, List.forall_mem_cons.mpr ⟨lw_p92, List.forall_mem_cons.mpr ⟨lw_p93, List.forall_mem_cons.mpr ⟨lw_p94, List.forall_mem_cons.mpr ⟨lw_p95, fun _ h => absurd h List.not_mem_nil⟩⟩⟩⟩⟩⟩⟩⟩⟩⟩⟩⟩⟩⟩⟩⟩
theorem lw_p96 : lw_okq (⟨"CustodyRoomModel", "goesInto", "(IIII)Z"⟩, 33) := ⟨⟨by decide +kernel, by decide +kernel⟩, List.mem_of_getElem? (i := 670) (by decide +kernel), List.mem_of_getElem? (i := 866) (by decide +kernel), List.mem_of_getElem? (i := 867) (by decide +kernel)⟩
theorem lw_p97 : lw_okq (⟨"CustodyRoomModel", "isBag", "(I)Z"⟩, 33) := ⟨⟨by decide +kernel, by decide +kernel⟩, List.mem_of_getElem? (i := 670) (by decide +kernel), List.mem_of_getElem? (i := 870) (by decide +kernel), List.mem_of_getElem? (i := 871) (by decide +kernel)⟩
theorem lw_p98 : lw_okq (⟨"CustodyRoomModel", "isWithin", "(II)Z"⟩, 33) := ⟨⟨by decide +kernel, by decide +kernel⟩, List.mem_of_getElem? (i := 670) (by decide +kernel), List.mem_of_getElem? (i := 874) (by decide +kernel), List.mem_of_getElem? (i := 875) (by decide +kernel)⟩
theorem lw_p99 : lw_okq (⟨"CustodyRoomModel", "inside", "(I)I"⟩, 33) := ⟨⟨by decide +kernel, by decide +kernel⟩, List.mem_of_getElem? (i := 670) (by decide +kernel), List.mem_of_getElem? (i := 878) (by decide +kernel), List.mem_of_getElem? (i := 879) (by decide +kernel)⟩
theorem lw_p100 : lw_okq (⟨"CustodyRoomModel", "depth", "(I)I"⟩, 33) := ⟨⟨by decide +kernel, by decide +kernel⟩, List.mem_of_getElem? (i := 670) (by decide +kernel), List.mem_of_getElem? (i := 882) (by decide +kernel), List.mem_of_getElem? (i := 883) (by decide +kernel)⟩
theorem lw_p101 : lw_okq (⟨"CustodyRoomModel", "goesFrom", "(IIII)Z"⟩, 33) := ⟨⟨by decide +kernel, by decide +kernel⟩, List.mem_of_getElem? (i := 670) (by decide +kernel), List.mem_of_getElem? (i := 886) (by decide +kernel), List.mem_of_getElem? (i := 887) (by decide +kernel)⟩
theorem lw_p102 : lw_okq (⟨"CustodyRoomModel", "isSealing", "(IIIII)Z"⟩, 33) := ⟨⟨by decide +kernel, by decide +kernel⟩, List.mem_of_getElem? (i := 670) (by decide +kernel), List.mem_of_getElem? (i := 890) (by decide +kernel), List.mem_of_getElem? (i := 891) (by decide +kernel)⟩
theorem lw_p103 : lw_okq (⟨"CustodyRoomModel", "isSeal", "(I)Z"⟩, 33) := ⟨⟨by decide +kernel, by decide +kernel⟩, List.mem_of_getElem? (i := 670) (by decide +kernel), List.mem_of_getElem? (i := 894) (by decide +kernel), List.mem_of_getElem? (i := 895) (by decide +kernel)⟩
theorem lw_p104 : lw_okq (⟨"CustodyRoomModel", "takes", "(IIIIII)Z"⟩, 33) := ⟨⟨by decide +kernel, by decide +kernel⟩, List.mem_of_getElem? (i := 670) (by decide +kernel), List.mem_of_getElem? (i := 898) (by decide +kernel), List.mem_of_getElem? (i := 899) (by decide +kernel)⟩
theorem lw_p105 : lw_okq (⟨"CustodyRoomModel", "isFree", "(I)Z"⟩, 33) := ⟨⟨by decide +kernel, by decide +kernel⟩, List.mem_of_getElem? (i := 670) (by decide +kernel), List.mem_of_getElem? (i := 902) (by decide +kernel), List.mem_of_getElem? (i := 903) (by decide +kernel)⟩
theorem lw_p106 : lw_okq (⟨"CustodyRoomModel", "orders", "(III)Z"⟩, 33) := ⟨⟨by decide +kernel, by decide +kernel⟩, List.mem_of_getElem? (i := 670) (by decide +kernel), List.mem_of_getElem? (i := 906) (by decide +kernel), List.mem_of_getElem? (i := 907) (by decide +kernel)⟩
theorem lw_p107 : lw_okq (⟨"CustodyRoomModel", "isDestroyed", "(IIIII)Z"⟩, 33) := ⟨⟨by decide +kernel, by decide +kernel⟩, List.mem_of_getElem? (i := 670) (by decide +kernel), List.mem_of_getElem? (i := 910) (by decide +kernel), List.mem_of_getElem? (i := 911) (by decide +kernel)⟩
theorem lw_p108 : lw_okq (⟨"CustodyRoomModel", "isOf", "(II)Z"⟩, 33) := ⟨⟨by decide +kernel, by decide +kernel⟩, List.mem_of_getElem? (i := 670) (by decide +kernel), List.mem_of_getElem? (i := 914) (by decide +kernel), List.mem_of_getElem? (i := 915) (by decide +kernel)⟩
theorem lw_p109 : lw_okq (⟨"CustodyRoomModel", "isFound", "(III)Z"⟩, 33) := ⟨⟨by decide +kernel, by decide +kernel⟩, List.mem_of_getElem? (i := 670) (by decide +kernel), List.mem_of_getElem? (i := 918) (by decide +kernel), List.mem_of_getElem? (i := 919) (by decide +kernel)⟩
theorem lw_p110 : lw_okq (⟨"CustodyRoomModel", "sayer", "(II)I"⟩, 33) := ⟨⟨by decide +kernel, by decide +kernel⟩, List.mem_of_getElem? (i := 670) (by decide +kernel), List.mem_of_getElem? (i := 934) (by decide +kernel), List.mem_of_getElem? (i := 935) (by decide +kernel)⟩
theorem lw_p111 : lw_okq (⟨"CustodyRoomModel", "goOver", "(II)V"⟩, 33) := ⟨⟨by decide +kernel, by decide +kernel⟩, List.mem_of_getElem? (i := 670) (by decide +kernel), List.mem_of_getElem? (i := 954) (by decide +kernel), List.mem_of_getElem? (i := 955) (by decide +kernel)⟩
def lw_privs_7 : List (MethodName × Nat) := [(⟨"CustodyRoomModel", "goesInto", "(IIII)Z"⟩, 33), (⟨"CustodyRoomModel", "isBag", "(I)Z"⟩, 33), (⟨"CustodyRoomModel", "isWithin", "(II)Z"⟩, 33), (⟨"CustodyRoomModel", "inside", "(I)I"⟩, 33), (⟨"CustodyRoomModel", "depth", "(I)I"⟩, 33), (⟨"CustodyRoomModel", "goesFrom", "(IIII)Z"⟩, 33), (⟨"CustodyRoomModel", "isSealing", "(IIIII)Z"⟩, 33), (⟨"CustodyRoomModel", "isSeal", "(I)Z"⟩, 33), (⟨"CustodyRoomModel", "takes", "(IIIIII)Z"⟩, 33), (⟨"CustodyRoomModel", "isFree", "(I)Z"⟩, 33), (⟨"CustodyRoomModel", "orders", "(III)Z"⟩, 33), (⟨"CustodyRoomModel", "isDestroyed", "(IIIII)Z"⟩, 33), (⟨"CustodyRoomModel", "isOf", "(II)Z"⟩, 33), (⟨"CustodyRoomModel", "isFound", "(III)Z"⟩, 33), (⟨"CustodyRoomModel", "sayer", "(II)I"⟩, 33), (⟨"CustodyRoomModel", "goOver", "(II)V"⟩, 33)]
theorem lw_r7 : ∀ q ∈ lw_privs_7, lw_okq q := List.forall_mem_cons.mpr ⟨lw_p96, List.forall_mem_cons.mpr ⟨lw_p97, List.forall_mem_cons.mpr ⟨lw_p98, List.forall_mem_cons.mpr ⟨lw_p99, List.forall_mem_cons.mpr ⟨lw_p100, List.forall_mem_cons.mpr ⟨lw_p101, List.forall_mem_cons.mpr ⟨lw_p102, List.forall_mem_cons.mpr ⟨lw_p103, List.forall_mem_cons.mpr ⟨lw_p104, List.forall_mem_cons.mpr ⟨lw_p105, List.forall_mem_cons.mpr ⟨lw_p106, List.forall_mem_cons.mpr ⟨lw_p107, List.forall_mem_cons.mpr ⟨lw_p108, List.forall_mem_cons.mpr ⟨lw_p109, List.forall_mem_cons.mpr ⟨lw_p110, List.forall_mem_cons.mpr ⟨lw_p111, fun _ h => absurd h List.not_mem_nil⟩⟩⟩⟩⟩⟩⟩⟩⟩⟩⟩⟩⟩⟩⟩⟩
theorem lw_p112 : lw_okq (⟨"CustodyRoomModel", "outermost", "(I)I"⟩, 33) := ⟨⟨by decide +kernel, by decide +kernel⟩, List.mem_of_getElem? (i := 670) (by decide +kernel), List.mem_of_getElem? (i := 958) (by decide +kernel), List.mem_of_getElem? (i := 959) (by decide +kernel)⟩
theorem lw_p113 : lw_okq (⟨"CustodyRoomModel", "bits", "(I)I"⟩, 33) := ⟨⟨by decide +kernel, by decide +kernel⟩, List.mem_of_getElem? (i := 670) (by decide +kernel), List.mem_of_getElem? (i := 962) (by decide +kernel), List.mem_of_getElem? (i := 963) (by decide +kernel)⟩
theorem lw_p114 : lw_okq (⟨"CustodyRoomModel", "makeChain", "(I)V"⟩, 33) := ⟨⟨by decide +kernel, by decide +kernel⟩, List.mem_of_getElem? (i := 670) (by decide +kernel), List.mem_of_getElem? (i := 970) (by decide +kernel), List.mem_of_getElem? (i := 971) (by decide +kernel)⟩
theorem lw_p115 : lw_okq (⟨"CustodyRoomModel", "cameAt", "(I)I"⟩, 33) := ⟨⟨by decide +kernel, by decide +kernel⟩, List.mem_of_getElem? (i := 670) (by decide +kernel), List.mem_of_getElem? (i := 974) (by decide +kernel), List.mem_of_getElem? (i := 975) (by decide +kernel)⟩
theorem lw_p116 : lw_okq (⟨"CustodyRoomModel", "put", "(I)V"⟩, 33) := ⟨⟨by decide +kernel, by decide +kernel⟩, List.mem_of_getElem? (i := 670) (by decide +kernel), List.mem_of_getElem? (i := 978) (by decide +kernel), List.mem_of_getElem? (i := 979) (by decide +kernel)⟩
theorem lw_p117 : lw_okq (⟨"CustodyRoomModel", "goOverAll", "()V"⟩, 33) := ⟨⟨by decide +kernel, by decide +kernel⟩, List.mem_of_getElem? (i := 670) (by decide +kernel), List.mem_of_getElem? (i := 997) (by decide +kernel), List.mem_of_getElem? (i := 998) (by decide +kernel)⟩
def lw_privs_8 : List (MethodName × Nat) := [(⟨"CustodyRoomModel", "outermost", "(I)I"⟩, 33), (⟨"CustodyRoomModel", "bits", "(I)I"⟩, 33), (⟨"CustodyRoomModel", "makeChain", "(I)V"⟩, 33), (⟨"CustodyRoomModel", "cameAt", "(I)I"⟩, 33), (⟨"CustodyRoomModel", "put", "(I)V"⟩, 33), (⟨"CustodyRoomModel", "goOverAll", "()V"⟩, 33)]
theorem lw_r8 : ∀ q ∈ lw_privs_8, lw_okq q := List.forall_mem_cons.mpr ⟨lw_p112, List.forall_mem_cons.mpr ⟨lw_p113, List.forall_mem_cons.mpr ⟨lw_p114, List.forall_mem_cons.mpr ⟨lw_p115, List.forall_mem_cons.mpr ⟨lw_p116, List.forall_mem_cons.mpr ⟨lw_p117, fun _ h => absurd h List.not_mem_nil⟩⟩⟩⟩⟩⟩
def lw_privs : List (MethodName × Nat) := lw_privs_1 ++ (lw_privs_2 ++ (lw_privs_3 ++ (lw_privs_4 ++ (lw_privs_5 ++ (lw_privs_6 ++ (lw_privs_7 ++ (lw_privs_8)))))))
def lw_tbl : List Cond := k2_sels lw_privs ++ tables_1
theorem lw_privs_ok : ∀ q ∈ lw_privs, lw_okq q := by
  show ∀ q ∈ lw_privs_1 ++ (lw_privs_2 ++ (lw_privs_3 ++ (lw_privs_4 ++ (lw_privs_5 ++ (lw_privs_6 ++ (lw_privs_7 ++ (lw_privs_8))))))), lw_okq q
  exact List.forall_mem_append.mpr ⟨lw_r1, List.forall_mem_append.mpr ⟨lw_r2, List.forall_mem_append.mpr ⟨lw_r3, List.forall_mem_append.mpr ⟨lw_r4, List.forall_mem_append.mpr ⟨lw_r5, List.forall_mem_append.mpr ⟨lw_r6, List.forall_mem_append.mpr ⟨lw_r7, lw_r8⟩⟩⟩⟩⟩⟩⟩
/-- the words of the tables that a callee may be handed on -/
def lw_G : List Cond := lw_tbl.filter goodWord
theorem lw_G_mk {w : Cond} (h : w ∈ tables_1) (hg : goodWord w = true) : w ∈ lw_G := List.mem_filter.mpr ⟨List.mem_append_right _ h, hg⟩
theorem lw_G_t1 {w : Cond} (h : w ∈ tables_1_1) (hg : goodWord w = true) : w ∈ lw_G := lw_G_mk (List.mem_append_left _ h) hg
theorem lw_G_t2 {w : Cond} (h : w ∈ tables_1_2) (hg : goodWord w = true) : w ∈ lw_G := lw_G_mk (List.mem_append_right _ (List.mem_append_left _ h)) hg
theorem lw_G_t3 {w : Cond} (h : w ∈ tables_1_3) (hg : goodWord w = true) : w ∈ lw_G := lw_G_mk (List.mem_append_right _ (List.mem_append_right _ (List.mem_append_left _ h))) hg
theorem lw_G_t4 {w : Cond} (h : w ∈ tables_1_4) (hg : goodWord w = true) : w ∈ lw_G := lw_G_mk (List.mem_append_right _ (List.mem_append_right _ (List.mem_append_right _ (List.mem_append_left _ h)))) hg
theorem lw_G_t5 {w : Cond} (h : w ∈ tables_1_5) (hg : goodWord w = true) : w ∈ lw_G := lw_G_mk (List.mem_append_right _ (List.mem_append_right _ (List.mem_append_right _ (List.mem_append_right _ h)))) hg
theorem lw_G_sel {y : MethodName} {n : Nat} (h : (y, n) ∈ lw_privs) (hg : goodWord (Cond.selects y.cls y y) = true) : Cond.selects y.cls y y ∈ lw_G := List.mem_filter.mpr ⟨List.mem_append_left _ (List.mem_map.mpr ⟨(y, n), h, rfl⟩), hg⟩
theorem lw_G_tbl {w : Cond} (h : w ∈ lw_G) : w ∈ lw_tbl := (List.mem_filter.mp h).1
theorem lw_G_good {w : Cond} (h : w ∈ lw_G) : (w.onTables && w.keeps) = true ∨ ∃ ty, w = .arrayClass ty := good_of_word (List.mem_filter.mp h).2
end
section
def RX0 : String := "CustodyRoom$Handing"
def TX0 : u_T := fun k => match k with
  | 0 => ("CustodyRoom$Handing", "thing", "I", true)
  | 1 => ("CustodyRoom$Handing", "giver", "I", true)
  | 2 => ("CustodyRoom$Handing", "taker", "I", true)
  | 3 => ("CustodyRoom$Handing", "minute", "I", true)
  | 4 => ("CustodyRoom$Handing", "giverYes", "I", false)
  | 5 => ("CustodyRoom$Handing", "takerYes", "I", false)
  | _ => ("CustodyRoom$Handing", "ended", "Z", false)
def tyX0 : Nat → FieldType := fun k => match k with
  | 0 => .int
  | 1 => .int
  | 2 => .int
  | 3 => .int
  | 4 => .int
  | 5 => .int
  | _ => .boolean
abbrev wsX00 : List Cond := u_ws RX0 TX0 7
theorem nmX0 : ∀ a, a < 7 → ∀ b, b < 7 → a ≠ b → (TX0 a).2.1 ≠ (TX0 b).2.1 := by decide +kernel
theorem tyX0_ok : ∀ k, k < 7 → parseFieldDescriptor (TX0 k).2.2.1 = some (tyX0 k) := by decide +kernel
abbrev cX0_init : ByteArray := prog_2_method_1_code
def yX0_init : MethodName := ⟨RX0, "<init>", "(IIII)V"⟩
abbrev cX0_isBetween : ByteArray := prog_2_method_2_code
def yX0_isBetween : MethodName := ⟨RX0, "isBetween", "(I)Z"⟩
abbrev cX0_awaits : ByteArray := prog_2_method_3_code
def yX0_awaits : MethodName := ⟨RX0, "awaits", "(I)Z"⟩
abbrev cX0_setYes : ByteArray := prog_2_method_4_code
def yX0_setYes : MethodName := ⟨RX0, "setYes", "(II)V"⟩
abbrev cX0_isAgreed : ByteArray := prog_2_method_5_code
def yX0_isAgreed : MethodName := ⟨RX0, "isAgreed", "()Z"⟩
abbrev cX0_laterYes : ByteArray := prog_2_method_6_code
def yX0_laterYes : MethodName := ⟨RX0, "laterYes", "()I"⟩
abbrev cX0_isLate : ByteArray := prog_2_method_7_code
def yX0_isLate : MethodName := ⟨RX0, "isLate", "()Z"⟩
def RX1 : String := "CustodyRoom$Links"
def TX1 : u_T := fun k => match k with
  | 0 => ("CustodyRoom$Links", "slips", "LCustodyRoom$Slips;", true)
  | 1 => ("CustodyRoom$Links", "backward", "[I", true)
  | _ => ("CustodyRoom$Links", "length", "I", false)
def tyX1 : Nat → FieldType := fun k => match k with
  | 0 => .object "CustodyRoom$Slips"
  | 1 => .array .int
  | _ => .int
abbrev wsX10 : List Cond := u_ws RX1 TX1 3
theorem nmX1 : ∀ a, a < 3 → ∀ b, b < 3 → a ≠ b → (TX1 a).2.1 ≠ (TX1 b).2.1 := by decide +kernel
theorem tyX1_ok : ∀ k, k < 3 → parseFieldDescriptor (TX1 k).2.2.1 = some (tyX1 k) := by decide +kernel
abbrev cX1_init : ByteArray := prog_3_method_1_code
def yX1_init : MethodName := ⟨RX1, "<init>", "(LCustodyRoom$Slips;)V"⟩
abbrev cX1_follow : ByteArray := prog_3_method_2_code
def yX1_follow : MethodName := ⟨RX1, "follow", "(I)V"⟩
abbrev cX1_append : ByteArray := prog_3_method_3_code
def yX1_append : MethodName := ⟨RX1, "append", "(I)V"⟩
abbrev cX1_link : ByteArray := prog_3_method_4_code
def yX1_link : MethodName := ⟨RX1, "link", "(I)I"⟩
abbrev cX1_endOfGap : ByteArray := prog_3_method_5_code
def yX1_endOfGap : MethodName := ⟨RX1, "endOfGap", "(I)I"⟩
def RX2 : String := "CustodyRoom$Slips"
def TX2 : u_T := fun k => match k with
  | 0 => ("CustodyRoom$Slips", "cells", "[I", true)
  | 1 => ("CustodyRoom$Slips", "order", "[I", true)
  | _ => ("CustodyRoom$Slips", "count", "I", false)
def tyX2 : Nat → FieldType := fun k => match k with
  | 0 => .array .int
  | 1 => .array .int
  | _ => .int
abbrev wsX20 : List Cond := u_ws RX2 TX2 3
theorem nmX2 : ∀ a, a < 3 → ∀ b, b < 3 → a ≠ b → (TX2 a).2.1 ≠ (TX2 b).2.1 := by decide +kernel
theorem tyX2_ok : ∀ k, k < 3 → parseFieldDescriptor (TX2 k).2.2.1 = some (tyX2 k) := by decide +kernel
abbrev cX2_init : ByteArray := prog_4_method_1_code
def yX2_init : MethodName := ⟨RX2, "<init>", "()V"⟩
abbrev cX2_has : ByteArray := prog_4_method_2_code
def yX2_has : MethodName := ⟨RX2, "has", "(I)Z"⟩
abbrev cX2_cell : ByteArray := prog_4_method_3_code
def yX2_cell : MethodName := ⟨RX2, "cell", "(II)I"⟩
abbrev cX2_inOrder : ByteArray := prog_4_method_4_code
def yX2_inOrder : MethodName := ⟨RX2, "inOrder", "(I)I"⟩
abbrev cX2_add : ByteArray := prog_4_method_5_code
def yX2_add : MethodName := ⟨RX2, "add", "([I)V"⟩
abbrev cX2_dropLast : ByteArray := prog_4_method_6_code
def yX2_dropLast : MethodName := ⟨RX2, "dropLast", "()V"⟩
abbrev cX2_putInOrder : ByteArray := prog_4_method_7_code
def yX2_putInOrder : MethodName := ⟨RX2, "putInOrder", "(I)V"⟩
abbrev cX2_alterCell : ByteArray := prog_4_method_8_code
def yX2_alterCell : MethodName := ⟨RX2, "alterCell", "(III)V"⟩
abbrev cX2_copyFrom : ByteArray := prog_4_method_9_code
def yX2_copyFrom : MethodName := ⟨RX2, "copyFrom", "(LCustodyRoom$Slips;)V"⟩
abbrev cX2_isLate : ByteArray := prog_4_method_10_code
def yX2_isLate : MethodName := ⟨RX2, "isLate", "(I)Z"⟩
abbrev cX2_useSealBeyond : ByteArray := prog_4_method_11_code
def yX2_useSealBeyond : MethodName := ⟨RX2, "useSealBeyond", "(II)Z"⟩
abbrev cX2_firstBreak : ByteArray := prog_4_method_12_code
def yX2_firstBreak : MethodName := ⟨RX2, "firstBreak", "(I)I"⟩
abbrev cX2_isBirth : ByteArray := prog_4_method_13_code
def yX2_isBirth : MethodName := ⟨RX2, "isBirth", "(II)Z"⟩
abbrev cX2_isMoveOf : ByteArray := prog_4_method_14_code
def yX2_isMoveOf : MethodName := ⟨RX2, "isMoveOf", "(II)Z"⟩
def RX3 : String := "CustodyRoom$Standing"
def TX3 : u_T := fun k => match k with
  | 0 => ("CustodyRoom$Standing", "stock", "LCustodyRoom$Stock;", true)
  | 1 => ("CustodyRoom$Standing", "how", "[I", true)
  | 2 => ("CustodyRoom$Standing", "holder", "[I", true)
  | 3 => ("CustodyRoom$Standing", "weight", "[I", true)
  | 4 => ("CustodyRoom$Standing", "seal", "[I", true)
  | 5 => ("CustodyRoom$Standing", "dueDay", "[I", true)
  | 6 => ("CustodyRoom$Standing", "keepDay", "[I", true)
  | 7 => ("CustodyRoom$Standing", "doomed", "[I", true)
  | 8 => ("CustodyRoom$Standing", "trials", "[I", true)
  | 9 => ("CustodyRoom$Standing", "inside", "[I", true)
  | 10 => ("CustodyRoom$Standing", "origin", "[I", true)
  | 11 => ("CustodyRoom$Standing", "lying", "[I", true)
  | 12 => ("CustodyRoom$Standing", "sealUsed", "[I", true)
  | 13 => ("CustodyRoom$Standing", "t", "I", false)
  | 14 => ("CustodyRoom$Standing", "a", "I", false)
  | 15 => ("CustodyRoom$Standing", "b", "I", false)
  | 16 => ("CustodyRoom$Standing", "c", "I", false)
  | 17 => ("CustodyRoom$Standing", "d", "I", false)
  | _ => ("CustodyRoom$Standing", "day", "I", false)
def tyX3 : Nat → FieldType := fun k => match k with
  | 0 => .object "CustodyRoom$Stock"
  | 1 => .array .int
  | 2 => .array .int
  | 3 => .array .int
  | 4 => .array .int
  | 5 => .array .int
  | 6 => .array .int
  | 7 => .array .int
  | 8 => .array .int
  | 9 => .array .int
  | 10 => .array .int
  | 11 => .array .int
  | 12 => .array .int
  | 13 => .int
  | 14 => .int
  | 15 => .int
  | 16 => .int
  | 17 => .int
  | _ => .int
abbrev wsX30 : List Cond := u_ws RX3 TX3 19
theorem nmX3 : ∀ a, a < 19 → ∀ b, b < 19 → a ≠ b → (TX3 a).2.1 ≠ (TX3 b).2.1 := by decide +kernel
theorem tyX3_ok : ∀ k, k < 19 → parseFieldDescriptor (TX3 k).2.2.1 = some (tyX3 k) := by decide +kernel
abbrev cX3_init : ByteArray := prog_5_method_1_code
def yX3_init : MethodName := ⟨RX3, "<init>", "(LCustodyRoom$Stock;)V"⟩
abbrev cX3_firstUndone : ByteArray := prog_5_method_2_code
def yX3_firstUndone : MethodName := ⟨RX3, "firstUndone", "(LCustodyRoom$Slips;)I"⟩
abbrev cX3_tellKnown : ByteArray := prog_5_method_3_code
def yX3_tellKnown : MethodName := ⟨RX3, "tellKnown", "(LCustodyRoom$Slips;II)V"⟩
abbrev cX3_answer : ByteArray := prog_5_method_4_code
def yX3_answer : MethodName := ⟨RX3, "answer", "(II)I"⟩
abbrev cX3_thingOfDay : ByteArray := prog_5_method_5_code
def yX3_thingOfDay : MethodName := ⟨RX3, "thingOfDay", "(II)I"⟩
abbrev cX3_clear : ByteArray := prog_5_method_6_code
def yX3_clear : MethodName := ⟨RX3, "clear", "()V"⟩
abbrev cX3_tell : ByteArray := prog_5_method_7_code
def yX3_tell : MethodName := ⟨RX3, "tell", "(LCustodyRoom$Slips;I)Z"⟩
abbrev cX3_comeIn : ByteArray := prog_5_method_8_code
def yX3_comeIn : MethodName := ⟨RX3, "comeIn", "()Z"⟩
abbrev cX3_goOut : ByteArray := prog_5_method_9_code
def yX3_goOut : MethodName := ⟨RX3, "goOut", "()Z"⟩
abbrev cX3_goOn : ByteArray := prog_5_method_10_code
def yX3_goOn : MethodName := ⟨RX3, "goOn", "()Z"⟩
abbrev cX3_comeBack : ByteArray := prog_5_method_11_code
def yX3_comeBack : MethodName := ⟨RX3, "comeBack", "()Z"⟩
abbrev cX3_putElsewhere : ByteArray := prog_5_method_12_code
def yX3_putElsewhere : MethodName := ⟨RX3, "putElsewhere", "()Z"⟩
abbrev cX3_goInto : ByteArray := prog_5_method_13_code
def yX3_goInto : MethodName := ⟨RX3, "goInto", "()Z"⟩
abbrev cX3_comeFrom : ByteArray := prog_5_method_14_code
def yX3_comeFrom : MethodName := ⟨RX3, "comeFrom", "()Z"⟩
abbrev cX3_close : ByteArray := prog_5_method_15_code
def yX3_close : MethodName := ⟨RX3, "close", "()Z"⟩
abbrev cX3_unseal : ByteArray := prog_5_method_16_code
def yX3_unseal : MethodName := ⟨RX3, "unseal", "()Z"⟩
abbrev cX3_look : ByteArray := prog_5_method_17_code
def yX3_look : MethodName := ⟨RX3, "look", "()Z"⟩
abbrev cX3_takePart : ByteArray := prog_5_method_18_code
def yX3_takePart : MethodName := ⟨RX3, "takePart", "()Z"⟩
abbrev cX3_takeCopy : ByteArray := prog_5_method_19_code
def yX3_takeCopy : MethodName := ⟨RX3, "takeCopy", "()Z"⟩
abbrev cX3_mayBeTaken : ByteArray := prog_5_method_20_code
def yX3_mayBeTaken : MethodName := ⟨RX3, "mayBeTaken", "(I)Z"⟩
abbrev cX3_bringToHand : ByteArray := prog_5_method_21_code
def yX3_bringToHand : MethodName := ⟨RX3, "bringToHand", "()V"⟩
abbrev cX3_weigh : ByteArray := prog_5_method_22_code
def yX3_weigh : MethodName := ⟨RX3, "weigh", "()Z"⟩
abbrev cX3_keep : ByteArray := prog_5_method_23_code
def yX3_keep : MethodName := ⟨RX3, "keep", "()Z"⟩
abbrev cX3_doom : ByteArray := prog_5_method_24_code
def yX3_doom : MethodName := ⟨RX3, "doom", "()Z"⟩
abbrev cX3_beginTrial : ByteArray := prog_5_method_25_code
def yX3_beginTrial : MethodName := ⟨RX3, "beginTrial", "()Z"⟩
abbrev cX3_endTrial : ByteArray := prog_5_method_26_code
def yX3_endTrial : MethodName := ⟨RX3, "endTrial", "()Z"⟩
abbrev cX3_goesOn : ByteArray := prog_5_method_27_code
def yX3_goesOn : MethodName := ⟨RX3, "goesOn", "()Z"⟩
abbrev cX3_destroy : ByteArray := prog_5_method_28_code
def yX3_destroy : MethodName := ⟨RX3, "destroy", "()Z"⟩
abbrev cX3_find : ByteArray := prog_5_method_29_code
def yX3_find : MethodName := ⟨RX3, "find", "()Z"⟩
abbrev cX3_keepersServe : ByteArray := prog_5_method_30_code
def yX3_keepersServe : MethodName := ⟨RX3, "keepersServe", "(Z)Z"⟩
abbrev cX3_isMoneyBag : ByteArray := prog_5_method_31_code
def yX3_isMoneyBag : MethodName := ⟨RX3, "isMoneyBag", "(I)Z"⟩
abbrev cX3_isDay : ByteArray := prog_5_method_32_code
def yX3_isDay : MethodName := ⟨RX3, "isDay", "(I)Z"⟩
abbrev cX3_isKept : ByteArray := prog_5_method_33_code
def yX3_isKept : MethodName := ⟨RX3, "isKept", "(I)Z"⟩
abbrev cX3_isAt : ByteArray := prog_5_method_34_code
def yX3_isAt : MethodName := ⟨RX3, "isAt", "(III)Z"⟩
abbrev cX3_mayLieAt : ByteArray := prog_5_method_35_code
def yX3_mayLieAt : MethodName := ⟨RX3, "mayLieAt", "(I)Z"⟩
abbrev cX3_move : ByteArray := prog_5_method_36_code
def yX3_move : MethodName := ⟨RX3, "move", "(III)V"⟩
abbrev cX3_register : ByteArray := prog_5_method_37_code
def yX3_register : MethodName := ⟨RX3, "register", "(III)V"⟩
abbrev cX3_bagAround : ByteArray := prog_5_method_38_code
def yX3_bagAround : MethodName := ⟨RX3, "bagAround", "(I)I"⟩
abbrev cX3_outermost : ByteArray := prog_5_method_39_code
def yX3_outermost : MethodName := ⟨RX3, "outermost", "(I)I"⟩
abbrev cX3_isFree : ByteArray := prog_5_method_40_code
def yX3_isFree : MethodName := ⟨RX3, "isFree", "(I)Z"⟩
abbrev cX3_deepestIn : ByteArray := prog_5_method_41_code
def yX3_deepestIn : MethodName := ⟨RX3, "deepestIn", "(I)I"⟩
abbrev cX3_stepsUpTo : ByteArray := prog_5_method_42_code
def yX3_stepsUpTo : MethodName := ⟨RX3, "stepsUpTo", "(II)I"⟩
abbrev cX3_isAnyOfItInHand : ByteArray := prog_5_method_43_code
def yX3_isAnyOfItInHand : MethodName := ⟨RX3, "isAnyOfItInHand", "()Z"⟩
abbrev cX3_isOf : ByteArray := prog_5_method_44_code
def yX3_isOf : MethodName := ⟨RX3, "isOf", "(II)Z"⟩
def RX4 : String := "CustodyRoom$Stock"
def TX4 : u_T := fun k => match k with
  | 0 => ("CustodyRoom$Stock", "keeper", "[Z", true)
  | 1 => ("CustodyRoom$Stock", "cold", "[Z", true)
  | 2 => ("CustodyRoom$Stock", "sealsGiven", "[I", true)
  | 3 => ("CustodyRoom$Stock", "kinds", "[I", true)
  | 4 => ("CustodyRoom$Stock", "weights", "[I", true)
  | 5 => ("CustodyRoom$Stock", "hands", "I", false)
  | 6 => ("CustodyRoom$Stock", "shelves", "I", false)
  | _ => ("CustodyRoom$Stock", "things", "I", false)
def tyX4 : Nat → FieldType := fun k => match k with
  | 0 => .array .boolean
  | 1 => .array .boolean
  | 2 => .array .int
  | 3 => .array .int
  | 4 => .array .int
  | 5 => .int
  | 6 => .int
  | _ => .int
abbrev wsX40 : List Cond := u_ws RX4 TX4 8
theorem nmX4 : ∀ a, a < 8 → ∀ b, b < 8 → a ≠ b → (TX4 a).2.1 ≠ (TX4 b).2.1 := by decide +kernel
theorem tyX4_ok : ∀ k, k < 8 → parseFieldDescriptor (TX4 k).2.2.1 = some (tyX4 k) := by decide +kernel
abbrev cX4_init : ByteArray := prog_6_method_1_code
def yX4_init : MethodName := ⟨RX4, "<init>", "()V"⟩
abbrev cX4_addHand : ByteArray := prog_6_method_2_code
def yX4_addHand : MethodName := ⟨RX4, "addHand", "(Z)I"⟩
abbrev cX4_addShelf : ByteArray := prog_6_method_3_code
def yX4_addShelf : MethodName := ⟨RX4, "addShelf", "(Z)I"⟩
abbrev cX4_addThing : ByteArray := prog_6_method_4_code
def yX4_addThing : MethodName := ⟨RX4, "addThing", "(II)I"⟩
abbrev cX4_giveOut : ByteArray := prog_6_method_5_code
def yX4_giveOut : MethodName := ⟨RX4, "giveOut", "(II)V"⟩
abbrev cX4_isHand : ByteArray := prog_6_method_6_code
def yX4_isHand : MethodName := ⟨RX4, "isHand", "(I)Z"⟩
abbrev cX4_isKeeper : ByteArray := prog_6_method_7_code
def yX4_isKeeper : MethodName := ⟨RX4, "isKeeper", "(I)Z"⟩
abbrev cX4_isPlace : ByteArray := prog_6_method_8_code
def yX4_isPlace : MethodName := ⟨RX4, "isPlace", "(I)Z"⟩
abbrev cX4_isColdPlace : ByteArray := prog_6_method_9_code
def yX4_isColdPlace : MethodName := ⟨RX4, "isColdPlace", "(I)Z"⟩
abbrev cX4_isGivenOut : ByteArray := prog_6_method_10_code
def yX4_isGivenOut : MethodName := ⟨RX4, "isGivenOut", "(I)Z"⟩
abbrev cX4_isThing : ByteArray := prog_6_method_11_code
def yX4_isThing : MethodName := ⟨RX4, "isThing", "(I)Z"⟩
abbrev cX4_isOfKind : ByteArray := prog_6_method_12_code
def yX4_isOfKind : MethodName := ⟨RX4, "isOfKind", "(II)Z"⟩
abbrev cX4_isBag : ByteArray := prog_6_method_13_code
def yX4_isBag : MethodName := ⟨RX4, "isBag", "(I)Z"⟩
def RX5 : String := "CustodyRoom"
def TX5 : u_T := fun k => match k with
  | 0 => ("CustodyRoom", "stock", "LCustodyRoom$Stock;", true)
  | 1 => ("CustodyRoom", "slips", "LCustodyRoom$Slips;", true)
  | 2 => ("CustodyRoom", "image", "LCustodyRoom$Slips;", true)
  | 3 => ("CustodyRoom", "standing", "LCustodyRoom$Standing;", true)
  | 4 => ("CustodyRoom", "links", "LCustodyRoom$Links;", true)
  | 5 => ("CustodyRoom", "handings", "[LCustodyRoom$Handing;", true)
  | 6 => ("CustodyRoom", "draft", "[I", true)
  | 7 => ("CustodyRoom", "handingCount", "I", false)
  | 8 => ("CustodyRoom", "frozen", "Z", false)
  | 9 => ("CustodyRoom", "now", "I", false)
  | 10 => ("CustodyRoom", "faultTold", "I", false)
  | _ => ("CustodyRoom", "slipBlamed", "I", false)
def tyX5 : Nat → FieldType := fun k => match k with
  | 0 => .object "CustodyRoom$Stock"
  | 1 => .object "CustodyRoom$Slips"
  | 2 => .object "CustodyRoom$Slips"
  | 3 => .object "CustodyRoom$Standing"
  | 4 => .object "CustodyRoom$Links"
  | 5 => .array (.object "CustodyRoom$Handing")
  | 6 => .array .int
  | 7 => .int
  | 8 => .boolean
  | 9 => .int
  | 10 => .int
  | _ => .int
abbrev wsX50 : List Cond := u_ws RX5 TX5 12
theorem nmX5 : ∀ a, a < 12 → ∀ b, b < 12 → a ≠ b → (TX5 a).2.1 ≠ (TX5 b).2.1 := by decide +kernel
theorem tyX5_ok : ∀ k, k < 12 → parseFieldDescriptor (TX5 k).2.2.1 = some (tyX5 k) := by decide +kernel
abbrev cX5_init : ByteArray := prog_1_method_1_code
def yX5_init : MethodName := ⟨RX5, "<init>", "()V"⟩
abbrev cX5_hand : ByteArray := prog_1_method_2_code
def yX5_hand : MethodName := ⟨RX5, "hand", "(Z)I"⟩
abbrev cX5_shelf : ByteArray := prog_1_method_3_code
def yX5_shelf : MethodName := ⟨RX5, "shelf", "(Z)I"⟩
abbrev cX5_seals : ByteArray := prog_1_method_4_code
def yX5_seals : MethodName := ⟨RX5, "seals", "(II)Z"⟩
abbrev cX5_thing : ByteArray := prog_1_method_5_code
def yX5_thing : MethodName := ⟨RX5, "thing", "(II)I"⟩
abbrev cX5_pass : ByteArray := prog_1_method_6_code
def yX5_pass : MethodName := ⟨RX5, "pass", "(I)I"⟩
abbrev cX5_slip : ByteArray := prog_1_method_7_code
def yX5_slip : MethodName := ⟨RX5, "slip", "(IIIIIII)I"⟩
abbrev cX5_fault : ByteArray := prog_1_method_8_code
def yX5_fault : MethodName := ⟨RX5, "fault", "(I)I"⟩
abbrev cX5_handing : ByteArray := prog_1_method_9_code
def yX5_handing : MethodName := ⟨RX5, "handing", "(IIII)I"⟩
abbrev cX5_yes : ByteArray := prog_1_method_10_code
def yX5_yes : MethodName := ⟨RX5, "yes", "(III)I"⟩
abbrev cX5_no : ByteArray := prog_1_method_11_code
def yX5_no : MethodName := ⟨RX5, "no", "(II)Z"⟩
abbrev cX5_about : ByteArray := prog_1_method_12_code
def yX5_about : MethodName := ⟨RX5, "about", "(I)I"⟩
abbrev cX5_slipOf : ByteArray := prog_1_method_13_code
def yX5_slipOf : MethodName := ⟨RX5, "slipOf", "(II)I"⟩
abbrev cX5_where : ByteArray := prog_1_method_14_code
def yX5_where : MethodName := ⟨RX5, "where", "(IIII)I"⟩
abbrev cX5_chain : ByteArray := prog_1_method_15_code
def yX5_chain : MethodName := ⟨RX5, "chain", "(II)I"⟩
abbrev cX5_gap : ByteArray := prog_1_method_16_code
def yX5_gap : MethodName := ⟨RX5, "gap", "(III)I"⟩
abbrev cX5_breaks : ByteArray := prog_1_method_17_code
def yX5_breaks : MethodName := ⟨RX5, "breaks", "(I)I"⟩
abbrev cX5_due : ByteArray := prog_1_method_18_code
def yX5_due : MethodName := ⟨RX5, "due", "(II)I"⟩
abbrev cX5_freeze : ByteArray := prog_1_method_19_code
def yX5_freeze : MethodName := ⟨RX5, "freeze", "()I"⟩
abbrev cX5_alter : ByteArray := prog_1_method_20_code
def yX5_alter : MethodName := ⟨RX5, "alter", "(III)Z"⟩
abbrev cX5_check : ByteArray := prog_1_method_21_code
def yX5_check : MethodName := ⟨RX5, "check", "()I"⟩
abbrev cX5_thaw : ByteArray := prog_1_method_22_code
def yX5_thaw : MethodName := ⟨RX5, "thaw", "()Z"⟩
abbrev cX5_findHanding : ByteArray := prog_1_method_23_code
def yX5_findHanding : MethodName := ⟨RX5, "findHanding", "(I)LCustodyRoom$Handing;"⟩
abbrev cX5_write : ByteArray := prog_1_method_24_code
def yX5_write : MethodName := ⟨RX5, "write", "(IIIIIII)I"⟩
abbrev cX5_faultAhead : ByteArray := prog_1_method_25_code
def yX5_faultAhead : MethodName := ⟨RX5, "faultAhead", "(III)I"⟩
def RX6 : String := "CustodyRoomModel"
def TX6 : u_T := fun k => match k with
  | 0 => ("CustodyRoomModel", "hands", "I", false)
  | 1 => ("CustodyRoomModel", "shelves", "I", false)
  | 2 => ("CustodyRoomModel", "things", "I", false)
  | 3 => ("CustodyRoomModel", "slips", "I", false)
  | 4 => ("CustodyRoomModel", "now", "I", false)
  | 5 => ("CustodyRoomModel", "handings", "I", false)
  | 6 => ("CustodyRoomModel", "image", "I", false)
  | 7 => ("CustodyRoomModel", "keeper", "[Z", true)
  | 8 => ("CustodyRoomModel", "cold", "[Z", true)
  | 9 => ("CustodyRoomModel", "sealRow", "[I", true)
  | 10 => ("CustodyRoomModel", "kind", "[I", true)
  | 11 => ("CustodyRoomModel", "weight", "[I", true)
  | 12 => ("CustodyRoomModel", "slip", "[I", true)
  | 13 => ("CustodyRoomModel", "kept", "[I", true)
  | 14 => ("CustodyRoomModel", "handing", "[I", true)
  | 15 => ("CustodyRoomModel", "fault", "I", false)
  | 16 => ("CustodyRoomModel", "culprit", "I", false)
  | 17 => ("CustodyRoomModel", "how", "[I", true)
  | 18 => ("CustodyRoomModel", "where", "[I", true)
  | 19 => ("CustodyRoomModel", "heavy", "[I", true)
  | 20 => ("CustodyRoomModel", "seal", "[I", true)
  | 21 => ("CustodyRoomModel", "dueOn", "[I", true)
  | 22 => ("CustodyRoomModel", "keepTill", "[I", true)
  | 23 => ("CustodyRoomModel", "toGo", "[Z", true)
  | 24 => ("CustodyRoomModel", "trials", "[I", true)
  | 25 => ("CustodyRoomModel", "of", "[I", true)
  | 26 => ("CustodyRoomModel", "was", "[Z", true)
  | 27 => ("CustodyRoomModel", "sealed", "[Z", true)
  | 28 => ("CustodyRoomModel", "order", "[I", true)
  | 29 => ("CustodyRoomModel", "chain", "[I", true)
  | 30 => ("CustodyRoomModel", "chains", "I", false)
  | 31 => ("CustodyRoomModel", "line", "[I", true)
  | _ => ("CustodyRoomModel", "came", "[I", true)
def tyX6 : Nat → FieldType := fun k => match k with
  | 0 => .int
  | 1 => .int
  | 2 => .int
  | 3 => .int
  | 4 => .int
  | 5 => .int
  | 6 => .int
  | 7 => .array .boolean
  | 8 => .array .boolean
  | 9 => .array .int
  | 10 => .array .int
  | 11 => .array .int
  | 12 => .array .int
  | 13 => .array .int
  | 14 => .array .int
  | 15 => .int
  | 16 => .int
  | 17 => .array .int
  | 18 => .array .int
  | 19 => .array .int
  | 20 => .array .int
  | 21 => .array .int
  | 22 => .array .int
  | 23 => .array .boolean
  | 24 => .array .int
  | 25 => .array .int
  | 26 => .array .boolean
  | 27 => .array .boolean
  | 28 => .array .int
  | 29 => .array .int
  | 30 => .int
  | 31 => .array .int
  | _ => .array .int
abbrev wsX60 : List Cond := u_ws RX6 TX6 33
theorem nmX6 : ∀ a, a < 33 → ∀ b, b < 33 → a ≠ b → (TX6 a).2.1 ≠ (TX6 b).2.1 := by decide +kernel
theorem tyX6_ok : ∀ k, k < 33 → parseFieldDescriptor (TX6 k).2.2.1 = some (tyX6 k) := by decide +kernel
abbrev cX6_init : ByteArray := prog_8_method_1_code
def yX6_init : MethodName := ⟨RX6, "<init>", "()V"⟩
abbrev cX6_isIn : ByteArray := prog_8_method_2_code
def yX6_isIn : MethodName := ⟨RX6, "isIn", "(III)Z"⟩
abbrev cX6_begin : ByteArray := prog_8_method_3_code
def yX6_begin : MethodName := ⟨RX6, "begin", "()V"⟩
abbrev cX6_isBag : ByteArray := prog_8_method_4_code
def yX6_isBag : MethodName := ⟨RX6, "isBag", "(I)Z"⟩
abbrev cX6_isKept : ByteArray := prog_8_method_5_code
def yX6_isKept : MethodName := ⟨RX6, "isKept", "(I)Z"⟩
abbrev cX6_isKeeper : ByteArray := prog_8_method_6_code
def yX6_isKeeper : MethodName := ⟨RX6, "isKeeper", "(I)Z"⟩
abbrev cX6_isHand : ByteArray := prog_8_method_7_code
def yX6_isHand : MethodName := ⟨RX6, "isHand", "(I)Z"⟩
abbrev cX6_isEmpty : ByteArray := prog_8_method_8_code
def yX6_isEmpty : MethodName := ⟨RX6, "isEmpty", "(I)Z"⟩
abbrev cX6_fits : ByteArray := prog_8_method_9_code
def yX6_fits : MethodName := ⟨RX6, "fits", "(II)Z"⟩
abbrev cX6_hasKeepers : ByteArray := prog_8_method_10_code
def yX6_hasKeepers : MethodName := ⟨RX6, "hasKeepers", "(IIZ)Z"⟩
abbrev cX6_isFree : ByteArray := prog_8_method_11_code
def yX6_isFree : MethodName := ⟨RX6, "isFree", "(I)Z"⟩
abbrev cX6_outermost : ByteArray := prog_8_method_12_code
def yX6_outermost : MethodName := ⟨RX6, "outermost", "(I)I"⟩
abbrev cX6_inside : ByteArray := prog_8_method_13_code
def yX6_inside : MethodName := ⟨RX6, "inside", "(I)I"⟩
abbrev cX6_depth : ByteArray := prog_8_method_14_code
def yX6_depth : MethodName := ⟨RX6, "depth", "(I)I"⟩
abbrev cX6_isWithin : ByteArray := prog_8_method_15_code
def yX6_isWithin : MethodName := ⟨RX6, "isWithin", "(II)Z"⟩
abbrev cX6_go : ByteArray := prog_8_method_16_code
def yX6_go : MethodName := ⟨RX6, "go", "(III)V"⟩
abbrev cX6_isDone : ByteArray := prog_8_method_17_code
def yX6_isDone : MethodName := ⟨RX6, "isDone", "([II)Z"⟩
abbrev cX6_comesIn : ByteArray := prog_8_method_18_code
def yX6_comesIn : MethodName := ⟨RX6, "comesIn", "(IIIII)Z"⟩
abbrev cX6_moves : ByteArray := prog_8_method_19_code
def yX6_moves : MethodName := ⟨RX6, "moves", "(IIIIII)Z"⟩
abbrev cX6_goesInto : ByteArray := prog_8_method_20_code
def yX6_goesInto : MethodName := ⟨RX6, "goesInto", "(IIII)Z"⟩
abbrev cX6_goesFrom : ByteArray := prog_8_method_21_code
def yX6_goesFrom : MethodName := ⟨RX6, "goesFrom", "(IIII)Z"⟩
abbrev cX6_isSeal : ByteArray := prog_8_method_22_code
def yX6_isSeal : MethodName := ⟨RX6, "isSeal", "(I)Z"⟩
abbrev cX6_isSealing : ByteArray := prog_8_method_23_code
def yX6_isSealing : MethodName := ⟨RX6, "isSealing", "(IIIII)Z"⟩
abbrev cX6_takes : ByteArray := prog_8_method_24_code
def yX6_takes : MethodName := ⟨RX6, "takes", "(IIIIII)Z"⟩
abbrev cX6_orders : ByteArray := prog_8_method_25_code
def yX6_orders : MethodName := ⟨RX6, "orders", "(III)Z"⟩
abbrev cX6_isOf : ByteArray := prog_8_method_26_code
def yX6_isOf : MethodName := ⟨RX6, "isOf", "(II)Z"⟩
abbrev cX6_isDestroyed : ByteArray := prog_8_method_27_code
def yX6_isDestroyed : MethodName := ⟨RX6, "isDestroyed", "(IIIII)Z"⟩
abbrev cX6_isFound : ByteArray := prog_8_method_28_code
def yX6_isFound : MethodName := ⟨RX6, "isFound", "(III)Z"⟩
abbrev cX6_sort : ByteArray := prog_8_method_29_code
def yX6_sort : MethodName := ⟨RX6, "sort", "([II)V"⟩
abbrev cX6_isSlip : ByteArray := prog_8_method_30_code
def yX6_isSlip : MethodName := ⟨RX6, "isSlip", "([II)Z"⟩
abbrev cX6_firstWrong : ByteArray := prog_8_method_31_code
def yX6_firstWrong : MethodName := ⟨RX6, "firstWrong", "([II)I"⟩
abbrev cX6_goOver : ByteArray := prog_8_method_32_code
def yX6_goOver : MethodName := ⟨RX6, "goOver", "(II)V"⟩
abbrev cX6_goOverAll : ByteArray := prog_8_method_33_code
def yX6_goOverAll : MethodName := ⟨RX6, "goOverAll", "()V"⟩
abbrev cX6_hand : ByteArray := prog_8_method_34_code
def yX6_hand : MethodName := ⟨RX6, "hand", "(Z)I"⟩
abbrev cX6_shelf : ByteArray := prog_8_method_35_code
def yX6_shelf : MethodName := ⟨RX6, "shelf", "(Z)I"⟩
abbrev cX6_seals : ByteArray := prog_8_method_36_code
def yX6_seals : MethodName := ⟨RX6, "seals", "(II)Z"⟩
abbrev cX6_thing : ByteArray := prog_8_method_37_code
def yX6_thing : MethodName := ⟨RX6, "thing", "(II)I"⟩
abbrev cX6_pass : ByteArray := prog_8_method_38_code
def yX6_pass : MethodName := ⟨RX6, "pass", "(I)I"⟩
abbrev cX6_written : ByteArray := prog_8_method_39_code
def yX6_written : MethodName := ⟨RX6, "written", "(IIIIIII)I"⟩
abbrev cX6_slip : ByteArray := prog_8_method_40_code
def yX6_slip : MethodName := ⟨RX6, "slip", "(IIIIIII)I"⟩
abbrev cX6_fault : ByteArray := prog_8_method_41_code
def yX6_fault : MethodName := ⟨RX6, "fault", "(I)I"⟩
abbrev cX6_handing : ByteArray := prog_8_method_42_code
def yX6_handing : MethodName := ⟨RX6, "handing", "(IIII)I"⟩
abbrev cX6_sayer : ByteArray := prog_8_method_43_code
def yX6_sayer : MethodName := ⟨RX6, "sayer", "(II)I"⟩
abbrev cX6_yes : ByteArray := prog_8_method_44_code
def yX6_yes : MethodName := ⟨RX6, "yes", "(III)I"⟩
abbrev cX6_no : ByteArray := prog_8_method_45_code
def yX6_no : MethodName := ⟨RX6, "no", "(II)Z"⟩
abbrev cX6_about : ByteArray := prog_8_method_46_code
def yX6_about : MethodName := ⟨RX6, "about", "(I)I"⟩
abbrev cX6_slipOf : ByteArray := prog_8_method_47_code
def yX6_slipOf : MethodName := ⟨RX6, "slipOf", "(II)I"⟩
abbrev cX6_bits : ByteArray := prog_8_method_48_code
def yX6_bits : MethodName := ⟨RX6, "bits", "(I)I"⟩
abbrev cX6_where : ByteArray := prog_8_method_49_code
def yX6_where : MethodName := ⟨RX6, "where", "(IIII)I"⟩
abbrev cX6_isMove : ByteArray := prog_8_method_50_code
def yX6_isMove : MethodName := ⟨RX6, "isMove", "(I)Z"⟩
abbrev cX6_cameAt : ByteArray := prog_8_method_51_code
def yX6_cameAt : MethodName := ⟨RX6, "cameAt", "(I)I"⟩
abbrev cX6_makeChain : ByteArray := prog_8_method_52_code
def yX6_makeChain : MethodName := ⟨RX6, "makeChain", "(I)V"⟩
abbrev cX6_put : ByteArray := prog_8_method_53_code
def yX6_put : MethodName := ⟨RX6, "put", "(I)V"⟩
abbrev cX6_chain : ByteArray := prog_8_method_54_code
def yX6_chain : MethodName := ⟨RX6, "chain", "(II)I"⟩
abbrev cX6_gap : ByteArray := prog_8_method_55_code
def yX6_gap : MethodName := ⟨RX6, "gap", "(III)I"⟩
abbrev cX6_breaks : ByteArray := prog_8_method_56_code
def yX6_breaks : MethodName := ⟨RX6, "breaks", "(I)I"⟩
abbrev cX6_due : ByteArray := prog_8_method_57_code
def yX6_due : MethodName := ⟨RX6, "due", "(II)I"⟩
abbrev cX6_freeze : ByteArray := prog_8_method_58_code
def yX6_freeze : MethodName := ⟨RX6, "freeze", "()I"⟩
abbrev cX6_alter : ByteArray := prog_8_method_59_code
def yX6_alter : MethodName := ⟨RX6, "alter", "(III)Z"⟩
abbrev cX6_check : ByteArray := prog_8_method_60_code
def yX6_check : MethodName := ⟨RX6, "check", "()I"⟩
abbrev cX6_thaw : ByteArray := prog_8_method_61_code
def yX6_thaw : MethodName := ⟨RX6, "thaw", "()Z"⟩
def RJ6 : String := "java/lang/Integer"
def TJ6 : u_T := fun k => match k with
  | _ => ("", "", "", false)
def tyJ6 : Nat → FieldType := fun k => match k with
  | _ => .int
abbrev wsJ60 : List Cond := u_ws RJ6 TJ6 0
theorem nmJ6 : ∀ a, a < 0 → ∀ b, b < 0 → a ≠ b → (TJ6 a).2.1 ≠ (TJ6 b).2.1 := by decide +kernel
theorem tyJ6_ok : ∀ k, k < 0 → parseFieldDescriptor (TJ6 k).2.2.1 = some (tyJ6 k) := by decide +kernel
abbrev cJ6_bitCount_0f7a4 : ByteArray := prog_9_method_49_code
def yJ6_bitCount_0f7a4 : MethodName := ⟨RJ6, "bitCount", "(I)I"⟩
def RJ9 : String := "java/lang/Math"
def TJ9 : u_T := fun k => match k with
  | _ => ("", "", "", false)
def tyJ9 : Nat → FieldType := fun k => match k with
  | _ => .int
abbrev wsJ90 : List Cond := u_ws RJ9 TJ9 0
theorem nmJ9 : ∀ a, a < 0 → ∀ b, b < 0 → a ≠ b → (TJ9 a).2.1 ≠ (TJ9 b).2.1 := by decide +kernel
theorem tyJ9_ok : ∀ k, k < 0 → parseFieldDescriptor (TJ9 k).2.2.1 = some (tyJ9 k) := by decide +kernel
abbrev cJ9_max_7cf53 : ByteArray := prog_10_method_65_code
def yJ9_max_7cf53 : MethodName := ⟨RJ9, "max", "(II)I"⟩
def RJ10 : String := "java/lang/System"
def TJ10 : u_T := fun k => match k with
  | _ => ("", "", "", false)
def tyJ10 : Nat → FieldType := fun k => match k with
  | _ => .int
abbrev wsJ100 : List Cond := u_ws RJ10 TJ10 0
theorem nmJ10 : ∀ a, a < 0 → ∀ b, b < 0 → a ≠ b → (TJ10 a).2.1 ≠ (TJ10 b).2.1 := by decide +kernel
theorem tyJ10_ok : ∀ k, k < 0 → parseFieldDescriptor (TJ10 k).2.2.1 = some (tyJ10 k) := by decide +kernel
def RJ7 : String := "java/util/Arrays"
def TJ7 : u_T := fun k => match k with
  | _ => ("", "", "", false)
def tyJ7 : Nat → FieldType := fun k => match k with
  | _ => .int
abbrev wsJ70 : List Cond := u_ws RJ7 TJ7 0
theorem nmJ7 : ∀ a, a < 0 → ∀ b, b < 0 → a ≠ b → (TJ7 a).2.1 ≠ (TJ7 b).2.1 := by decide +kernel
theorem tyJ7_ok : ∀ k, k < 0 → parseFieldDescriptor (TJ7 k).2.2.1 = some (tyJ7 k) := by decide +kernel
abbrev cJ7_fill_53178 : ByteArray := prog_12_method_103_code
def yJ7_fill_53178 : MethodName := ⟨RJ7, "fill", "([II)V"⟩
def RL : String := "CustodyRoomLaw"
abbrev cL_law : ByteArray := code
def yL_law : MethodName := ⟨RL, "law", "([I)Z"⟩
abbrev vwCl : List vw_C := [(RX0, TX0, 7), (RX1, TX1, 3), (RX2, TX2, 3), (RX3, TX3, 19), (RX4, TX4, 8), (RX5, TX5, 12), (RX6, TX6, 33)]
theorem inX0 : ∀ w ∈ u_ws RX0 TX0 7, w ∈ lw_G := fun w h => lw_G_mk ((by decide +kernel : ∀ w ∈ u_ws RX0 TX0 7, w ∈ tables_1) w h) ((by decide +kernel : ∀ w ∈ u_ws RX0 TX0 7, goodWord w = true) w h)
theorem inX1 : ∀ w ∈ u_ws RX1 TX1 3, w ∈ lw_G := fun w h => lw_G_mk ((by decide +kernel : ∀ w ∈ u_ws RX1 TX1 3, w ∈ tables_1) w h) ((by decide +kernel : ∀ w ∈ u_ws RX1 TX1 3, goodWord w = true) w h)
theorem inX2 : ∀ w ∈ u_ws RX2 TX2 3, w ∈ lw_G := fun w h => lw_G_mk ((by decide +kernel : ∀ w ∈ u_ws RX2 TX2 3, w ∈ tables_1) w h) ((by decide +kernel : ∀ w ∈ u_ws RX2 TX2 3, goodWord w = true) w h)
theorem inX3 : ∀ w ∈ u_ws RX3 TX3 19, w ∈ lw_G := fun w h => lw_G_mk ((by decide +kernel : ∀ w ∈ u_ws RX3 TX3 19, w ∈ tables_1) w h) ((by decide +kernel : ∀ w ∈ u_ws RX3 TX3 19, goodWord w = true) w h)
theorem inX4 : ∀ w ∈ u_ws RX4 TX4 8, w ∈ lw_G := fun w h => lw_G_mk ((by decide +kernel : ∀ w ∈ u_ws RX4 TX4 8, w ∈ tables_1) w h) ((by decide +kernel : ∀ w ∈ u_ws RX4 TX4 8, goodWord w = true) w h)
theorem inX5 : ∀ w ∈ u_ws RX5 TX5 12, w ∈ lw_G := fun w h => lw_G_mk ((by decide +kernel : ∀ w ∈ u_ws RX5 TX5 12, w ∈ tables_1) w h) ((by decide +kernel : ∀ w ∈ u_ws RX5 TX5 12, goodWord w = true) w h)
theorem inX6 : ∀ w ∈ u_ws RX6 TX6 33, w ∈ lw_G := fun w h => lw_G_mk ((by decide +kernel : ∀ w ∈ u_ws RX6 TX6 33, w ∈ tables_1) w h) ((by decide +kernel : ∀ w ∈ u_ws RX6 TX6 33, goodWord w = true) w h)
end
section
theorem dX0_init_0 : decode cX0_init 0 = .ok (.aload_n 0, 1) := by decide +kernel
theorem dX0_init_1 : decode cX0_init 1 = .ok (.invokespecial 3, 3) := by decide +kernel
theorem dX0_init_4 : decode cX0_init 4 = .ok (.aload_n 0, 1) := by decide +kernel
theorem dX0_init_5 : decode cX0_init 5 = .ok (.iconst (-1), 1) := by decide +kernel
theorem dX0_init_6 : decode cX0_init 6 = .ok (.putfield 9, 3) := by decide +kernel
theorem dX0_init_9 : decode cX0_init 9 = .ok (.aload_n 0, 1) := by decide +kernel
theorem dX0_init_10 : decode cX0_init 10 = .ok (.iconst (-1), 1) := by decide +kernel
theorem dX0_init_11 : decode cX0_init 11 = .ok (.putfield 15, 3) := by decide +kernel
theorem dX0_init_14 : decode cX0_init 14 = .ok (.aload_n 0, 1) := by decide +kernel
theorem dX0_init_15 : decode cX0_init 15 = .ok (.iload_n 1, 1) := by decide +kernel
theorem dX0_init_16 : decode cX0_init 16 = .ok (.putfield 18, 3) := by decide +kernel
theorem dX0_init_19 : decode cX0_init 19 = .ok (.aload_n 0, 1) := by decide +kernel
theorem dX0_init_20 : decode cX0_init 20 = .ok (.iload_n 2, 1) := by decide +kernel
theorem dX0_init_21 : decode cX0_init 21 = .ok (.putfield 21, 3) := by decide +kernel
theorem dX0_init_24 : decode cX0_init 24 = .ok (.aload_n 0, 1) := by decide +kernel
theorem dX0_init_25 : decode cX0_init 25 = .ok (.iload_n 3, 1) := by decide +kernel
theorem dX0_init_26 : decode cX0_init 26 = .ok (.putfield 24, 3) := by decide +kernel
theorem dX0_init_29 : decode cX0_init 29 = .ok (.aload_n 0, 1) := by decide +kernel
theorem dX0_init_30 : decode cX0_init 30 = .ok (.iload 4, 2) := by decide +kernel
theorem dX0_init_32 : decode cX0_init 32 = .ok (.putfield 27, 3) := by decide +kernel
theorem dX0_init_35 : decode cX0_init 35 = .ok (.return_, 1) := by decide +kernel
theorem dX0_isBetween_0 : decode cX0_isBetween 0 = .ok (.iload_n 1, 1) := by decide +kernel
theorem dX0_isBetween_1 : decode cX0_isBetween 1 = .ok (.aload_n 0, 1) := by decide +kernel
theorem dX0_isBetween_2 : decode cX0_isBetween 2 = .ok (.getfield 21, 3) := by decide +kernel
theorem dX0_isBetween_5 : decode cX0_isBetween 5 = .ok (.if_icmp .eq 11, 3) := by decide +kernel
theorem dX0_isBetween_8 : decode cX0_isBetween 8 = .ok (.iload_n 1, 1) := by decide +kernel
theorem dX0_isBetween_9 : decode cX0_isBetween 9 = .ok (.aload_n 0, 1) := by decide +kernel
theorem dX0_isBetween_10 : decode cX0_isBetween 10 = .ok (.getfield 24, 3) := by decide +kernel
theorem dX0_isBetween_13 : decode cX0_isBetween 13 = .ok (.if_icmp .ne 7, 3) := by decide +kernel
theorem dX0_isBetween_16 : decode cX0_isBetween 16 = .ok (.iconst 1, 1) := by decide +kernel
theorem dX0_isBetween_17 : decode cX0_isBetween 17 = .ok (.goto 4, 3) := by decide +kernel
theorem dX0_isBetween_20 : decode cX0_isBetween 20 = .ok (.iconst 0, 1) := by decide +kernel
theorem dX0_isBetween_21 : decode cX0_isBetween 21 = .ok (.ireturn, 1) := by decide +kernel
theorem dX0_awaits_0 : decode cX0_awaits 0 = .ok (.aload_n 0, 1) := by decide +kernel
theorem dX0_awaits_1 : decode cX0_awaits 1 = .ok (.getfield 30, 3) := by decide +kernel
theorem dX0_awaits_4 : decode cX0_awaits 4 = .ok (.ifCond .ne 39, 3) := by decide +kernel
theorem dX0_awaits_7 : decode cX0_awaits 7 = .ok (.iload_n 1, 1) := by decide +kernel
theorem dX0_awaits_8 : decode cX0_awaits 8 = .ok (.aload_n 0, 1) := by decide +kernel
theorem dX0_awaits_9 : decode cX0_awaits 9 = .ok (.getfield 21, 3) := by decide +kernel
theorem dX0_awaits_12 : decode cX0_awaits 12 = .ok (.if_icmp .ne 11, 3) := by decide +kernel
theorem dX0_awaits_15 : decode cX0_awaits 15 = .ok (.aload_n 0, 1) := by decide +kernel
theorem dX0_awaits_16 : decode cX0_awaits 16 = .ok (.getfield 9, 3) := by decide +kernel
theorem dX0_awaits_19 : decode cX0_awaits 19 = .ok (.iconst (-1), 1) := by decide +kernel
theorem dX0_awaits_20 : decode cX0_awaits 20 = .ok (.if_icmp .eq 19, 3) := by decide +kernel
theorem dX0_awaits_23 : decode cX0_awaits 23 = .ok (.iload_n 1, 1) := by decide +kernel
theorem dX0_awaits_24 : decode cX0_awaits 24 = .ok (.aload_n 0, 1) := by decide +kernel
theorem dX0_awaits_25 : decode cX0_awaits 25 = .ok (.getfield 24, 3) := by decide +kernel
theorem dX0_awaits_28 : decode cX0_awaits 28 = .ok (.if_icmp .ne 15, 3) := by decide +kernel
theorem dX0_awaits_31 : decode cX0_awaits 31 = .ok (.aload_n 0, 1) := by decide +kernel
theorem dX0_awaits_32 : decode cX0_awaits 32 = .ok (.getfield 15, 3) := by decide +kernel
theorem dX0_awaits_35 : decode cX0_awaits 35 = .ok (.iconst (-1), 1) := by decide +kernel
theorem dX0_awaits_36 : decode cX0_awaits 36 = .ok (.if_icmp .ne 7, 3) := by decide +kernel
theorem dX0_awaits_39 : decode cX0_awaits 39 = .ok (.iconst 1, 1) := by decide +kernel
theorem dX0_awaits_40 : decode cX0_awaits 40 = .ok (.goto 4, 3) := by decide +kernel
theorem dX0_awaits_43 : decode cX0_awaits 43 = .ok (.iconst 0, 1) := by decide +kernel
theorem dX0_awaits_44 : decode cX0_awaits 44 = .ok (.ireturn, 1) := by decide +kernel
theorem dX0_setYes_0 : decode cX0_setYes 0 = .ok (.iload_n 1, 1) := by decide +kernel
theorem dX0_setYes_1 : decode cX0_setYes 1 = .ok (.aload_n 0, 1) := by decide +kernel
theorem dX0_setYes_2 : decode cX0_setYes 2 = .ok (.getfield 21, 3) := by decide +kernel
theorem dX0_setYes_5 : decode cX0_setYes 5 = .ok (.if_icmp .ne 11, 3) := by decide +kernel
theorem dX0_setYes_8 : decode cX0_setYes 8 = .ok (.aload_n 0, 1) := by decide +kernel
theorem dX0_setYes_9 : decode cX0_setYes 9 = .ok (.iload_n 2, 1) := by decide +kernel
theorem dX0_setYes_10 : decode cX0_setYes 10 = .ok (.putfield 9, 3) := by decide +kernel
theorem dX0_setYes_13 : decode cX0_setYes 13 = .ok (.goto 8, 3) := by decide +kernel
theorem dX0_setYes_16 : decode cX0_setYes 16 = .ok (.aload_n 0, 1) := by decide +kernel
theorem dX0_setYes_17 : decode cX0_setYes 17 = .ok (.iload_n 2, 1) := by decide +kernel
theorem dX0_setYes_18 : decode cX0_setYes 18 = .ok (.putfield 15, 3) := by decide +kernel
theorem dX0_setYes_21 : decode cX0_setYes 21 = .ok (.return_, 1) := by decide +kernel
theorem dX0_isAgreed_0 : decode cX0_isAgreed 0 = .ok (.aload_n 0, 1) := by decide +kernel
theorem dX0_isAgreed_1 : decode cX0_isAgreed 1 = .ok (.getfield 9, 3) := by decide +kernel
theorem dX0_isAgreed_4 : decode cX0_isAgreed 4 = .ok (.iconst (-1), 1) := by decide +kernel
theorem dX0_isAgreed_5 : decode cX0_isAgreed 5 = .ok (.if_icmp .eq 15, 3) := by decide +kernel
theorem dX0_isAgreed_8 : decode cX0_isAgreed 8 = .ok (.aload_n 0, 1) := by decide +kernel
theorem dX0_isAgreed_9 : decode cX0_isAgreed 9 = .ok (.getfield 15, 3) := by decide +kernel
theorem dX0_isAgreed_12 : decode cX0_isAgreed 12 = .ok (.iconst (-1), 1) := by decide +kernel
theorem dX0_isAgreed_13 : decode cX0_isAgreed 13 = .ok (.if_icmp .eq 7, 3) := by decide +kernel
theorem dX0_isAgreed_16 : decode cX0_isAgreed 16 = .ok (.iconst 1, 1) := by decide +kernel
theorem dX0_isAgreed_17 : decode cX0_isAgreed 17 = .ok (.goto 4, 3) := by decide +kernel
theorem dX0_isAgreed_20 : decode cX0_isAgreed 20 = .ok (.iconst 0, 1) := by decide +kernel
theorem dX0_isAgreed_21 : decode cX0_isAgreed 21 = .ok (.ireturn, 1) := by decide +kernel
theorem dX0_laterYes_0 : decode cX0_laterYes 0 = .ok (.aload_n 0, 1) := by decide +kernel
theorem dX0_laterYes_1 : decode cX0_laterYes 1 = .ok (.getfield 9, 3) := by decide +kernel
theorem dX0_laterYes_4 : decode cX0_laterYes 4 = .ok (.aload_n 0, 1) := by decide +kernel
theorem dX0_laterYes_5 : decode cX0_laterYes 5 = .ok (.getfield 15, 3) := by decide +kernel
theorem dX0_laterYes_8 : decode cX0_laterYes 8 = .ok (.invokestatic 34, 3) := by decide +kernel
theorem dX0_laterYes_11 : decode cX0_laterYes 11 = .ok (.ireturn, 1) := by decide +kernel
theorem dX0_isLate_0 : decode cX0_isLate 0 = .ok (.aload_n 0, 1) := by decide +kernel
theorem dX0_isLate_1 : decode cX0_isLate 1 = .ok (.invokevirtual 40, 3) := by decide +kernel
theorem dX0_isLate_4 : decode cX0_isLate 4 = .ok (.aload_n 0, 1) := by decide +kernel
theorem dX0_isLate_5 : decode cX0_isLate 5 = .ok (.getfield 27, 3) := by decide +kernel
theorem dX0_isLate_8 : decode cX0_isLate 8 = .ok (.isub, 1) := by decide +kernel
theorem dX0_isLate_9 : decode cX0_isLate 9 = .ok (.bipush 30, 2) := by decide +kernel
theorem dX0_isLate_11 : decode cX0_isLate 11 = .ok (.if_icmp .le 7, 3) := by decide +kernel
theorem dX0_isLate_14 : decode cX0_isLate 14 = .ok (.iconst 1, 1) := by decide +kernel
theorem dX0_isLate_15 : decode cX0_isLate 15 = .ok (.goto 4, 3) := by decide +kernel
theorem dX0_isLate_18 : decode cX0_isLate 18 = .ok (.iconst 0, 1) := by decide +kernel
theorem dX0_isLate_19 : decode cX0_isLate 19 = .ok (.ireturn, 1) := by decide +kernel
theorem dX1_init_0 : decode cX1_init 0 = .ok (.aload_n 0, 1) := by decide +kernel
theorem dX1_init_1 : decode cX1_init 1 = .ok (.invokespecial 3, 3) := by decide +kernel
theorem dX1_init_4 : decode cX1_init 4 = .ok (.aload_n 0, 1) := by decide +kernel
theorem dX1_init_5 : decode cX1_init 5 = .ok (.sipush 400, 3) := by decide +kernel
theorem dX1_init_8 : decode cX1_init 8 = .ok (.newarray .int, 2) := by decide +kernel
theorem dX1_init_10 : decode cX1_init 10 = .ok (.putfield 9, 3) := by decide +kernel
theorem dX1_init_13 : decode cX1_init 13 = .ok (.aload_n 0, 1) := by decide +kernel
theorem dX1_init_14 : decode cX1_init 14 = .ok (.aload_n 1, 1) := by decide +kernel
theorem dX1_init_15 : decode cX1_init 15 = .ok (.putfield 15, 3) := by decide +kernel
theorem dX1_init_18 : decode cX1_init 18 = .ok (.return_, 1) := by decide +kernel
theorem dX1_follow_0 : decode cX1_follow 0 = .ok (.aload_n 0, 1) := by decide +kernel
theorem dX1_follow_1 : decode cX1_follow 1 = .ok (.iconst 0, 1) := by decide +kernel
theorem dX1_follow_2 : decode cX1_follow 2 = .ok (.putfield 19, 3) := by decide +kernel
theorem dX1_follow_5 : decode cX1_follow 5 = .ok (.iload_n 1, 1) := by decide +kernel
theorem dX1_follow_6 : decode cX1_follow 6 = .ok (.istore_n 2, 1) := by decide +kernel
theorem dX1_follow_7 : decode cX1_follow 7 = .ok (.aload_n 0, 1) := by decide +kernel
theorem dX1_follow_8 : decode cX1_follow 8 = .ok (.getfield 15, 3) := by decide +kernel
theorem dX1_follow_11 : decode cX1_follow 11 = .ok (.getfield 23, 3) := by decide +kernel
theorem dX1_follow_14 : decode cX1_follow 14 = .ok (.iconst 1, 1) := by decide +kernel
theorem dX1_follow_15 : decode cX1_follow 15 = .ok (.isub, 1) := by decide +kernel
theorem dX1_follow_16 : decode cX1_follow 16 = .ok (.istore_n 3, 1) := by decide +kernel
theorem dX1_follow_17 : decode cX1_follow 17 = .ok (.iload_n 3, 1) := by decide +kernel
theorem dX1_follow_18 : decode cX1_follow 18 = .ok (.ifCond .lt 71, 3) := by decide +kernel
theorem dX1_follow_21 : decode cX1_follow 21 = .ok (.aload_n 0, 1) := by decide +kernel
theorem dX1_follow_22 : decode cX1_follow 22 = .ok (.getfield 15, 3) := by decide +kernel
theorem dX1_follow_25 : decode cX1_follow 25 = .ok (.iload_n 3, 1) := by decide +kernel
theorem dX1_follow_26 : decode cX1_follow 26 = .ok (.invokevirtual 28, 3) := by decide +kernel
theorem dX1_follow_29 : decode cX1_follow 29 = .ok (.istore 4, 2) := by decide +kernel
theorem dX1_follow_31 : decode cX1_follow 31 = .ok (.aload_n 0, 1) := by decide +kernel
theorem dX1_follow_32 : decode cX1_follow 32 = .ok (.getfield 15, 3) := by decide +kernel
theorem dX1_follow_35 : decode cX1_follow 35 = .ok (.iload 4, 2) := by decide +kernel
theorem dX1_follow_37 : decode cX1_follow 37 = .ok (.iload_n 2, 1) := by decide +kernel
theorem dX1_follow_38 : decode cX1_follow 38 = .ok (.invokevirtual 32, 3) := by decide +kernel
theorem dX1_follow_41 : decode cX1_follow 41 = .ok (.ifCond .eq 23, 3) := by decide +kernel
theorem dX1_follow_44 : decode cX1_follow 44 = .ok (.aload_n 0, 1) := by decide +kernel
theorem dX1_follow_45 : decode cX1_follow 45 = .ok (.iload 4, 2) := by decide +kernel
theorem dX1_follow_47 : decode cX1_follow 47 = .ok (.invokevirtual 36, 3) := by decide +kernel
theorem dX1_follow_50 : decode cX1_follow 50 = .ok (.aload_n 0, 1) := by decide +kernel
theorem dX1_follow_51 : decode cX1_follow 51 = .ok (.getfield 15, 3) := by decide +kernel
theorem dX1_follow_54 : decode cX1_follow 54 = .ok (.iload 4, 2) := by decide +kernel
theorem dX1_follow_56 : decode cX1_follow 56 = .ok (.iconst 1, 1) := by decide +kernel
theorem dX1_follow_57 : decode cX1_follow 57 = .ok (.invokevirtual 40, 3) := by decide +kernel
theorem dX1_follow_60 : decode cX1_follow 60 = .ok (.istore_n 2, 1) := by decide +kernel
theorem dX1_follow_61 : decode cX1_follow 61 = .ok (.goto 22, 3) := by decide +kernel
theorem dX1_follow_64 : decode cX1_follow 64 = .ok (.aload_n 0, 1) := by decide +kernel
theorem dX1_follow_65 : decode cX1_follow 65 = .ok (.getfield 15, 3) := by decide +kernel
theorem dX1_follow_68 : decode cX1_follow 68 = .ok (.iload 4, 2) := by decide +kernel
theorem dX1_follow_70 : decode cX1_follow 70 = .ok (.iload_n 2, 1) := by decide +kernel
theorem dX1_follow_71 : decode cX1_follow 71 = .ok (.invokevirtual 44, 3) := by decide +kernel
theorem dX1_follow_74 : decode cX1_follow 74 = .ok (.ifCond .eq 9, 3) := by decide +kernel
theorem dX1_follow_77 : decode cX1_follow 77 = .ok (.aload_n 0, 1) := by decide +kernel
theorem dX1_follow_78 : decode cX1_follow 78 = .ok (.iload 4, 2) := by decide +kernel
theorem dX1_follow_80 : decode cX1_follow 80 = .ok (.invokevirtual 36, 3) := by decide +kernel
theorem dX1_follow_83 : decode cX1_follow 83 = .ok (.iinc 3 (-1), 3) := by decide +kernel
theorem dX1_follow_86 : decode cX1_follow 86 = .ok (.goto (-69), 3) := by decide +kernel
theorem dX1_follow_89 : decode cX1_follow 89 = .ok (.return_, 1) := by decide +kernel
theorem dX1_append_0 : decode cX1_append 0 = .ok (.aload_n 0, 1) := by decide +kernel
theorem dX1_append_1 : decode cX1_append 1 = .ok (.getfield 19, 3) := by decide +kernel
theorem dX1_append_4 : decode cX1_append 4 = .ok (.sipush 400, 3) := by decide +kernel
theorem dX1_append_7 : decode cX1_append 7 = .ok (.if_icmp .ge 23, 3) := by decide +kernel
theorem dX1_append_10 : decode cX1_append 10 = .ok (.aload_n 0, 1) := by decide +kernel
theorem dX1_append_11 : decode cX1_append 11 = .ok (.getfield 9, 3) := by decide +kernel
theorem dX1_append_14 : decode cX1_append 14 = .ok (.aload_n 0, 1) := by decide +kernel
theorem dX1_append_15 : decode cX1_append 15 = .ok (.getfield 19, 3) := by decide +kernel
theorem dX1_append_18 : decode cX1_append 18 = .ok (.iload_n 1, 1) := by decide +kernel
theorem dX1_append_19 : decode cX1_append 19 = .ok (.iastore, 1) := by decide +kernel
theorem dX1_append_20 : decode cX1_append 20 = .ok (.aload_n 0, 1) := by decide +kernel
theorem dX1_append_21 : decode cX1_append 21 = .ok (.dup, 1) := by decide +kernel
theorem dX1_append_22 : decode cX1_append 22 = .ok (.getfield 19, 3) := by decide +kernel
theorem dX1_append_25 : decode cX1_append 25 = .ok (.iconst 1, 1) := by decide +kernel
theorem dX1_append_26 : decode cX1_append 26 = .ok (.iadd, 1) := by decide +kernel
theorem dX1_append_27 : decode cX1_append 27 = .ok (.putfield 19, 3) := by decide +kernel
theorem dX1_append_30 : decode cX1_append 30 = .ok (.return_, 1) := by decide +kernel
theorem dX1_link_0 : decode cX1_link 0 = .ok (.iload_n 1, 1) := by decide +kernel
theorem dX1_link_1 : decode cX1_link 1 = .ok (.ifCond .lt 27, 3) := by decide +kernel
theorem dX1_link_4 : decode cX1_link 4 = .ok (.iload_n 1, 1) := by decide +kernel
theorem dX1_link_5 : decode cX1_link 5 = .ok (.aload_n 0, 1) := by decide +kernel
theorem dX1_link_6 : decode cX1_link 6 = .ok (.getfield 19, 3) := by decide +kernel
theorem dX1_link_9 : decode cX1_link 9 = .ok (.if_icmp .ge 19, 3) := by decide +kernel
theorem dX1_link_12 : decode cX1_link 12 = .ok (.aload_n 0, 1) := by decide +kernel
theorem dX1_link_13 : decode cX1_link 13 = .ok (.getfield 9, 3) := by decide +kernel
theorem dX1_link_16 : decode cX1_link 16 = .ok (.aload_n 0, 1) := by decide +kernel
theorem dX1_link_17 : decode cX1_link 17 = .ok (.getfield 19, 3) := by decide +kernel
theorem dX1_link_20 : decode cX1_link 20 = .ok (.iconst 1, 1) := by decide +kernel
theorem dX1_link_21 : decode cX1_link 21 = .ok (.isub, 1) := by decide +kernel
theorem dX1_link_22 : decode cX1_link 22 = .ok (.iload_n 1, 1) := by decide +kernel
theorem dX1_link_23 : decode cX1_link 23 = .ok (.isub, 1) := by decide +kernel
theorem dX1_link_24 : decode cX1_link 24 = .ok (.iaload, 1) := by decide +kernel
theorem dX1_link_25 : decode cX1_link 25 = .ok (.goto 4, 3) := by decide +kernel
theorem dX1_link_28 : decode cX1_link 28 = .ok (.iconst (-1), 1) := by decide +kernel
theorem dX1_link_29 : decode cX1_link 29 = .ok (.ireturn, 1) := by decide +kernel
theorem dX1_endOfGap_0 : decode cX1_endOfGap 0 = .ok (.iload_n 1, 1) := by decide +kernel
theorem dX1_endOfGap_1 : decode cX1_endOfGap 1 = .ok (.istore_n 2, 1) := by decide +kernel
theorem dX1_endOfGap_2 : decode cX1_endOfGap 2 = .ok (.iconst 1, 1) := by decide +kernel
theorem dX1_endOfGap_3 : decode cX1_endOfGap 3 = .ok (.istore_n 3, 1) := by decide +kernel
theorem dX1_endOfGap_4 : decode cX1_endOfGap 4 = .ok (.iload_n 3, 1) := by decide +kernel
theorem dX1_endOfGap_5 : decode cX1_endOfGap 5 = .ok (.aload_n 0, 1) := by decide +kernel
theorem dX1_endOfGap_6 : decode cX1_endOfGap 6 = .ok (.getfield 19, 3) := by decide +kernel
theorem dX1_endOfGap_9 : decode cX1_endOfGap 9 = .ok (.if_icmp .ge 40, 3) := by decide +kernel
theorem dX1_endOfGap_12 : decode cX1_endOfGap 12 = .ok (.iload_n 2, 1) := by decide +kernel
theorem dX1_endOfGap_13 : decode cX1_endOfGap 13 = .ok (.ifCond .lt 36, 3) := by decide +kernel
theorem dX1_endOfGap_16 : decode cX1_endOfGap 16 = .ok (.aload_n 0, 1) := by decide +kernel
theorem dX1_endOfGap_17 : decode cX1_endOfGap 17 = .ok (.getfield 15, 3) := by decide +kernel
theorem dX1_endOfGap_20 : decode cX1_endOfGap 20 = .ok (.aload_n 0, 1) := by decide +kernel
theorem dX1_endOfGap_21 : decode cX1_endOfGap 21 = .ok (.iload_n 3, 1) := by decide +kernel
theorem dX1_endOfGap_22 : decode cX1_endOfGap 22 = .ok (.invokevirtual 47, 3) := by decide +kernel
theorem dX1_endOfGap_25 : decode cX1_endOfGap 25 = .ok (.iconst 0, 1) := by decide +kernel
theorem dX1_endOfGap_26 : decode cX1_endOfGap 26 = .ok (.invokevirtual 40, 3) := by decide +kernel
theorem dX1_endOfGap_29 : decode cX1_endOfGap 29 = .ok (.bipush 19, 2) := by decide +kernel
theorem dX1_endOfGap_31 : decode cX1_endOfGap 31 = .ok (.if_icmp .ne 12, 3) := by decide +kernel
theorem dX1_endOfGap_34 : decode cX1_endOfGap 34 = .ok (.iload_n 2, 1) := by decide +kernel
theorem dX1_endOfGap_35 : decode cX1_endOfGap 35 = .ok (.ifCond .ne 5, 3) := by decide +kernel
theorem dX1_endOfGap_38 : decode cX1_endOfGap 38 = .ok (.iload_n 3, 1) := by decide +kernel
theorem dX1_endOfGap_39 : decode cX1_endOfGap 39 = .ok (.ireturn, 1) := by decide +kernel
theorem dX1_endOfGap_40 : decode cX1_endOfGap 40 = .ok (.iinc 2 (-1), 3) := by decide +kernel
theorem dX1_endOfGap_43 : decode cX1_endOfGap 43 = .ok (.iinc 3 1, 3) := by decide +kernel
theorem dX1_endOfGap_46 : decode cX1_endOfGap 46 = .ok (.goto (-42), 3) := by decide +kernel
theorem dX1_endOfGap_49 : decode cX1_endOfGap 49 = .ok (.iconst (-1), 1) := by decide +kernel
theorem dX1_endOfGap_50 : decode cX1_endOfGap 50 = .ok (.ireturn, 1) := by decide +kernel
theorem dX2_init_0 : decode cX2_init 0 = .ok (.aload_n 0, 1) := by decide +kernel
theorem dX2_init_1 : decode cX2_init 1 = .ok (.invokespecial 3, 3) := by decide +kernel
theorem dX2_init_4 : decode cX2_init 4 = .ok (.aload_n 0, 1) := by decide +kernel
theorem dX2_init_5 : decode cX2_init 5 = .ok (.sipush 3200, 3) := by decide +kernel
theorem dX2_init_8 : decode cX2_init 8 = .ok (.newarray .int, 2) := by decide +kernel
theorem dX2_init_10 : decode cX2_init 10 = .ok (.putfield 9, 3) := by decide +kernel
theorem dX2_init_13 : decode cX2_init 13 = .ok (.aload_n 0, 1) := by decide +kernel
theorem dX2_init_14 : decode cX2_init 14 = .ok (.sipush 400, 3) := by decide +kernel
theorem dX2_init_17 : decode cX2_init 17 = .ok (.newarray .int, 2) := by decide +kernel
theorem dX2_init_19 : decode cX2_init 19 = .ok (.putfield 15, 3) := by decide +kernel
theorem dX2_init_22 : decode cX2_init 22 = .ok (.return_, 1) := by decide +kernel
theorem dX2_has_0 : decode cX2_has 0 = .ok (.iload_n 1, 1) := by decide +kernel
theorem dX2_has_1 : decode cX2_has 1 = .ok (.ifCond .lt 15, 3) := by decide +kernel
theorem dX2_has_4 : decode cX2_has 4 = .ok (.iload_n 1, 1) := by decide +kernel
theorem dX2_has_5 : decode cX2_has 5 = .ok (.aload_n 0, 1) := by decide +kernel
theorem dX2_has_6 : decode cX2_has 6 = .ok (.getfield 18, 3) := by decide +kernel
theorem dX2_has_9 : decode cX2_has 9 = .ok (.if_icmp .ge 7, 3) := by decide +kernel
theorem dX2_has_12 : decode cX2_has 12 = .ok (.iconst 1, 1) := by decide +kernel
theorem dX2_has_13 : decode cX2_has 13 = .ok (.goto 4, 3) := by decide +kernel
theorem dX2_has_16 : decode cX2_has 16 = .ok (.iconst 0, 1) := by decide +kernel
theorem dX2_has_17 : decode cX2_has 17 = .ok (.ireturn, 1) := by decide +kernel
theorem dX2_cell_0 : decode cX2_cell 0 = .ok (.aload_n 0, 1) := by decide +kernel
theorem dX2_cell_1 : decode cX2_cell 1 = .ok (.iload_n 1, 1) := by decide +kernel
theorem dX2_cell_2 : decode cX2_cell 2 = .ok (.invokevirtual 22, 3) := by decide +kernel
theorem dX2_cell_5 : decode cX2_cell 5 = .ok (.ifCond .eq 13, 3) := by decide +kernel
theorem dX2_cell_8 : decode cX2_cell 8 = .ok (.iload_n 2, 1) := by decide +kernel
theorem dX2_cell_9 : decode cX2_cell 9 = .ok (.ifCond .lt 9, 3) := by decide +kernel
theorem dX2_cell_12 : decode cX2_cell 12 = .ok (.iload_n 2, 1) := by decide +kernel
theorem dX2_cell_13 : decode cX2_cell 13 = .ok (.bipush 8, 2) := by decide +kernel
theorem dX2_cell_15 : decode cX2_cell 15 = .ok (.if_icmp .lt 5, 3) := by decide +kernel
theorem dX2_cell_18 : decode cX2_cell 18 = .ok (.iconst (-1), 1) := by decide +kernel
theorem dX2_cell_19 : decode cX2_cell 19 = .ok (.ireturn, 1) := by decide +kernel
theorem dX2_cell_20 : decode cX2_cell 20 = .ok (.aload_n 0, 1) := by decide +kernel
theorem dX2_cell_21 : decode cX2_cell 21 = .ok (.getfield 9, 3) := by decide +kernel
theorem dX2_cell_24 : decode cX2_cell 24 = .ok (.iload_n 1, 1) := by decide +kernel
theorem dX2_cell_25 : decode cX2_cell 25 = .ok (.bipush 8, 2) := by decide +kernel
theorem dX2_cell_27 : decode cX2_cell 27 = .ok (.imul, 1) := by decide +kernel
theorem dX2_cell_28 : decode cX2_cell 28 = .ok (.iload_n 2, 1) := by decide +kernel
theorem dX2_cell_29 : decode cX2_cell 29 = .ok (.iadd, 1) := by decide +kernel
theorem dX2_cell_30 : decode cX2_cell 30 = .ok (.iaload, 1) := by decide +kernel
theorem dX2_cell_31 : decode cX2_cell 31 = .ok (.ireturn, 1) := by decide +kernel
theorem dX2_inOrder_0 : decode cX2_inOrder 0 = .ok (.aload_n 0, 1) := by decide +kernel
theorem dX2_inOrder_1 : decode cX2_inOrder 1 = .ok (.iload_n 1, 1) := by decide +kernel
theorem dX2_inOrder_2 : decode cX2_inOrder 2 = .ok (.invokevirtual 22, 3) := by decide +kernel
theorem dX2_inOrder_5 : decode cX2_inOrder 5 = .ok (.ifCond .eq 12, 3) := by decide +kernel
theorem dX2_inOrder_8 : decode cX2_inOrder 8 = .ok (.aload_n 0, 1) := by decide +kernel
theorem dX2_inOrder_9 : decode cX2_inOrder 9 = .ok (.getfield 15, 3) := by decide +kernel
theorem dX2_inOrder_12 : decode cX2_inOrder 12 = .ok (.iload_n 1, 1) := by decide +kernel
theorem dX2_inOrder_13 : decode cX2_inOrder 13 = .ok (.iaload, 1) := by decide +kernel
theorem dX2_inOrder_14 : decode cX2_inOrder 14 = .ok (.goto 4, 3) := by decide +kernel
theorem dX2_inOrder_17 : decode cX2_inOrder 17 = .ok (.iconst (-1), 1) := by decide +kernel
theorem dX2_inOrder_18 : decode cX2_inOrder 18 = .ok (.ireturn, 1) := by decide +kernel
theorem dX2_add_0 : decode cX2_add 0 = .ok (.aload_n 0, 1) := by decide +kernel
theorem dX2_add_1 : decode cX2_add 1 = .ok (.getfield 18, 3) := by decide +kernel
theorem dX2_add_4 : decode cX2_add 4 = .ok (.sipush 400, 3) := by decide +kernel
theorem dX2_add_7 : decode cX2_add 7 = .ok (.if_icmp .ge 10, 3) := by decide +kernel
theorem dX2_add_10 : decode cX2_add 10 = .ok (.aload_n 1, 1) := by decide +kernel
theorem dX2_add_11 : decode cX2_add 11 = .ok (.arraylength, 1) := by decide +kernel
theorem dX2_add_12 : decode cX2_add 12 = .ok (.bipush 8, 2) := by decide +kernel
theorem dX2_add_14 : decode cX2_add 14 = .ok (.if_icmp .ge 4, 3) := by decide +kernel
theorem dX2_add_17 : decode cX2_add 17 = .ok (.return_, 1) := by decide +kernel
theorem dX2_add_18 : decode cX2_add 18 = .ok (.aload_n 1, 1) := by decide +kernel
theorem dX2_add_19 : decode cX2_add 19 = .ok (.iconst 0, 1) := by decide +kernel
theorem dX2_add_20 : decode cX2_add 20 = .ok (.aload_n 0, 1) := by decide +kernel
theorem dX2_add_21 : decode cX2_add 21 = .ok (.getfield 9, 3) := by decide +kernel
theorem dX2_add_24 : decode cX2_add 24 = .ok (.aload_n 0, 1) := by decide +kernel
theorem dX2_add_25 : decode cX2_add 25 = .ok (.getfield 18, 3) := by decide +kernel
theorem dX2_add_28 : decode cX2_add 28 = .ok (.bipush 8, 2) := by decide +kernel
theorem dX2_add_30 : decode cX2_add 30 = .ok (.imul, 1) := by decide +kernel
theorem dX2_add_31 : decode cX2_add 31 = .ok (.bipush 8, 2) := by decide +kernel
theorem dX2_add_33 : decode cX2_add 33 = .ok (.invokestatic 26, 3) := by decide +kernel
theorem dX2_add_36 : decode cX2_add 36 = .ok (.aload_n 0, 1) := by decide +kernel
theorem dX2_add_37 : decode cX2_add 37 = .ok (.dup, 1) := by decide +kernel
theorem dX2_add_38 : decode cX2_add 38 = .ok (.getfield 18, 3) := by decide +kernel
theorem dX2_add_41 : decode cX2_add 41 = .ok (.iconst 1, 1) := by decide +kernel
theorem dX2_add_42 : decode cX2_add 42 = .ok (.iadd, 1) := by decide +kernel
theorem dX2_add_43 : decode cX2_add 43 = .ok (.putfield 18, 3) := by decide +kernel
theorem dX2_add_46 : decode cX2_add 46 = .ok (.aload_n 0, 1) := by decide +kernel
theorem dX2_add_47 : decode cX2_add 47 = .ok (.aload_n 0, 1) := by decide +kernel
theorem dX2_add_48 : decode cX2_add 48 = .ok (.getfield 18, 3) := by decide +kernel
theorem dX2_add_51 : decode cX2_add 51 = .ok (.iconst 1, 1) := by decide +kernel
theorem dX2_add_52 : decode cX2_add 52 = .ok (.isub, 1) := by decide +kernel
theorem dX2_add_53 : decode cX2_add 53 = .ok (.invokevirtual 32, 3) := by decide +kernel
theorem dX2_add_56 : decode cX2_add 56 = .ok (.return_, 1) := by decide +kernel
theorem dX2_dropLast_0 : decode cX2_dropLast 0 = .ok (.aload_n 0, 1) := by decide +kernel
theorem dX2_dropLast_1 : decode cX2_dropLast 1 = .ok (.getfield 18, 3) := by decide +kernel
theorem dX2_dropLast_4 : decode cX2_dropLast 4 = .ok (.ifCond .gt 4, 3) := by decide +kernel
theorem dX2_dropLast_7 : decode cX2_dropLast 7 = .ok (.return_, 1) := by decide +kernel
theorem dX2_dropLast_8 : decode cX2_dropLast 8 = .ok (.aload_n 0, 1) := by decide +kernel
theorem dX2_dropLast_9 : decode cX2_dropLast 9 = .ok (.dup, 1) := by decide +kernel
theorem dX2_dropLast_10 : decode cX2_dropLast 10 = .ok (.getfield 18, 3) := by decide +kernel
theorem dX2_dropLast_13 : decode cX2_dropLast 13 = .ok (.iconst 1, 1) := by decide +kernel
theorem dX2_dropLast_14 : decode cX2_dropLast 14 = .ok (.isub, 1) := by decide +kernel
theorem dX2_dropLast_15 : decode cX2_dropLast 15 = .ok (.putfield 18, 3) := by decide +kernel
theorem dX2_dropLast_18 : decode cX2_dropLast 18 = .ok (.iconst 0, 1) := by decide +kernel
theorem dX2_dropLast_19 : decode cX2_dropLast 19 = .ok (.istore_n 1, 1) := by decide +kernel
theorem dX2_dropLast_20 : decode cX2_dropLast 20 = .ok (.iconst 0, 1) := by decide +kernel
theorem dX2_dropLast_21 : decode cX2_dropLast 21 = .ok (.istore_n 2, 1) := by decide +kernel
theorem dX2_dropLast_22 : decode cX2_dropLast 22 = .ok (.iload_n 2, 1) := by decide +kernel
theorem dX2_dropLast_23 : decode cX2_dropLast 23 = .ok (.aload_n 0, 1) := by decide +kernel
theorem dX2_dropLast_24 : decode cX2_dropLast 24 = .ok (.getfield 18, 3) := by decide +kernel
theorem dX2_dropLast_27 : decode cX2_dropLast 27 = .ok (.if_icmp .ge 50, 3) := by decide +kernel
theorem dX2_dropLast_30 : decode cX2_dropLast 30 = .ok (.iload_n 1, 1) := by decide +kernel
theorem dX2_dropLast_31 : decode cX2_dropLast 31 = .ok (.ifCond .ne 16, 3) := by decide +kernel
theorem dX2_dropLast_34 : decode cX2_dropLast 34 = .ok (.aload_n 0, 1) := by decide +kernel
theorem dX2_dropLast_35 : decode cX2_dropLast 35 = .ok (.getfield 15, 3) := by decide +kernel
theorem dX2_dropLast_38 : decode cX2_dropLast 38 = .ok (.iload_n 2, 1) := by decide +kernel
theorem dX2_dropLast_39 : decode cX2_dropLast 39 = .ok (.iaload, 1) := by decide +kernel
theorem dX2_dropLast_40 : decode cX2_dropLast 40 = .ok (.aload_n 0, 1) := by decide +kernel
theorem dX2_dropLast_41 : decode cX2_dropLast 41 = .ok (.getfield 18, 3) := by decide +kernel
theorem dX2_dropLast_44 : decode cX2_dropLast 44 = .ok (.if_icmp .ne 7, 3) := by decide +kernel
theorem dX2_dropLast_47 : decode cX2_dropLast 47 = .ok (.iconst 1, 1) := by decide +kernel
theorem dX2_dropLast_48 : decode cX2_dropLast 48 = .ok (.goto 4, 3) := by decide +kernel
theorem dX2_dropLast_51 : decode cX2_dropLast 51 = .ok (.iconst 0, 1) := by decide +kernel
theorem dX2_dropLast_52 : decode cX2_dropLast 52 = .ok (.istore_n 1, 1) := by decide +kernel
theorem dX2_dropLast_53 : decode cX2_dropLast 53 = .ok (.iload_n 1, 1) := by decide +kernel
theorem dX2_dropLast_54 : decode cX2_dropLast 54 = .ok (.ifCond .eq 17, 3) := by decide +kernel
theorem dX2_dropLast_57 : decode cX2_dropLast 57 = .ok (.aload_n 0, 1) := by decide +kernel
theorem dX2_dropLast_58 : decode cX2_dropLast 58 = .ok (.getfield 15, 3) := by decide +kernel
theorem dX2_dropLast_61 : decode cX2_dropLast 61 = .ok (.iload_n 2, 1) := by decide +kernel
theorem dX2_dropLast_62 : decode cX2_dropLast 62 = .ok (.aload_n 0, 1) := by decide +kernel
theorem dX2_dropLast_63 : decode cX2_dropLast 63 = .ok (.getfield 15, 3) := by decide +kernel
theorem dX2_dropLast_66 : decode cX2_dropLast 66 = .ok (.iload_n 2, 1) := by decide +kernel
theorem dX2_dropLast_67 : decode cX2_dropLast 67 = .ok (.iconst 1, 1) := by decide +kernel
theorem dX2_dropLast_68 : decode cX2_dropLast 68 = .ok (.iadd, 1) := by decide +kernel
theorem dX2_dropLast_69 : decode cX2_dropLast 69 = .ok (.iaload, 1) := by decide +kernel
theorem dX2_dropLast_70 : decode cX2_dropLast 70 = .ok (.iastore, 1) := by decide +kernel
theorem dX2_dropLast_71 : decode cX2_dropLast 71 = .ok (.iinc 2 1, 3) := by decide +kernel
theorem dX2_dropLast_74 : decode cX2_dropLast 74 = .ok (.goto (-52), 3) := by decide +kernel
theorem dX2_dropLast_77 : decode cX2_dropLast 77 = .ok (.return_, 1) := by decide +kernel
theorem dX2_putInOrder_0 : decode cX2_putInOrder 0 = .ok (.aload_n 0, 1) := by decide +kernel
theorem dX2_putInOrder_1 : decode cX2_putInOrder 1 = .ok (.iload_n 1, 1) := by decide +kernel
theorem dX2_putInOrder_2 : decode cX2_putInOrder 2 = .ok (.invokevirtual 22, 3) := by decide +kernel
theorem dX2_putInOrder_5 : decode cX2_putInOrder 5 = .ok (.ifCond .ne 4, 3) := by decide +kernel
theorem dX2_putInOrder_8 : decode cX2_putInOrder 8 = .ok (.return_, 1) := by decide +kernel
theorem dX2_putInOrder_9 : decode cX2_putInOrder 9 = .ok (.aload_n 0, 1) := by decide +kernel
theorem dX2_putInOrder_10 : decode cX2_putInOrder 10 = .ok (.iload_n 1, 1) := by decide +kernel
theorem dX2_putInOrder_11 : decode cX2_putInOrder 11 = .ok (.bipush 6, 2) := by decide +kernel
theorem dX2_putInOrder_13 : decode cX2_putInOrder 13 = .ok (.invokevirtual 36, 3) := by decide +kernel
theorem dX2_putInOrder_16 : decode cX2_putInOrder 16 = .ok (.istore_n 2, 1) := by decide +kernel
theorem dX2_putInOrder_17 : decode cX2_putInOrder 17 = .ok (.iload_n 1, 1) := by decide +kernel
theorem dX2_putInOrder_18 : decode cX2_putInOrder 18 = .ok (.istore_n 3, 1) := by decide +kernel
theorem dX2_putInOrder_19 : decode cX2_putInOrder 19 = .ok (.iload_n 3, 1) := by decide +kernel
theorem dX2_putInOrder_20 : decode cX2_putInOrder 20 = .ok (.ifCond .le 41, 3) := by decide +kernel
theorem dX2_putInOrder_23 : decode cX2_putInOrder 23 = .ok (.aload_n 0, 1) := by decide +kernel
theorem dX2_putInOrder_24 : decode cX2_putInOrder 24 = .ok (.aload_n 0, 1) := by decide +kernel
theorem dX2_putInOrder_25 : decode cX2_putInOrder 25 = .ok (.getfield 15, 3) := by decide +kernel
theorem dX2_putInOrder_28 : decode cX2_putInOrder 28 = .ok (.iload_n 3, 1) := by decide +kernel
theorem dX2_putInOrder_29 : decode cX2_putInOrder 29 = .ok (.iconst 1, 1) := by decide +kernel
theorem dX2_putInOrder_30 : decode cX2_putInOrder 30 = .ok (.isub, 1) := by decide +kernel
theorem dX2_putInOrder_31 : decode cX2_putInOrder 31 = .ok (.iaload, 1) := by decide +kernel
theorem dX2_putInOrder_32 : decode cX2_putInOrder 32 = .ok (.bipush 6, 2) := by decide +kernel
theorem dX2_putInOrder_34 : decode cX2_putInOrder 34 = .ok (.invokevirtual 36, 3) := by decide +kernel
theorem dX2_putInOrder_37 : decode cX2_putInOrder 37 = .ok (.iload_n 2, 1) := by decide +kernel
theorem dX2_putInOrder_38 : decode cX2_putInOrder 38 = .ok (.if_icmp .le 23, 3) := by decide +kernel
theorem dX2_putInOrder_41 : decode cX2_putInOrder 41 = .ok (.aload_n 0, 1) := by decide +kernel
theorem dX2_putInOrder_42 : decode cX2_putInOrder 42 = .ok (.getfield 15, 3) := by decide +kernel
theorem dX2_putInOrder_45 : decode cX2_putInOrder 45 = .ok (.iload_n 3, 1) := by decide +kernel
theorem dX2_putInOrder_46 : decode cX2_putInOrder 46 = .ok (.aload_n 0, 1) := by decide +kernel
theorem dX2_putInOrder_47 : decode cX2_putInOrder 47 = .ok (.getfield 15, 3) := by decide +kernel
theorem dX2_putInOrder_50 : decode cX2_putInOrder 50 = .ok (.iload_n 3, 1) := by decide +kernel
theorem dX2_putInOrder_51 : decode cX2_putInOrder 51 = .ok (.iconst 1, 1) := by decide +kernel
theorem dX2_putInOrder_52 : decode cX2_putInOrder 52 = .ok (.isub, 1) := by decide +kernel
theorem dX2_putInOrder_53 : decode cX2_putInOrder 53 = .ok (.iaload, 1) := by decide +kernel
theorem dX2_putInOrder_54 : decode cX2_putInOrder 54 = .ok (.iastore, 1) := by decide +kernel
theorem dX2_putInOrder_55 : decode cX2_putInOrder 55 = .ok (.iinc 3 (-1), 3) := by decide +kernel
theorem dX2_putInOrder_58 : decode cX2_putInOrder 58 = .ok (.goto (-39), 3) := by decide +kernel
theorem dX2_putInOrder_61 : decode cX2_putInOrder 61 = .ok (.aload_n 0, 1) := by decide +kernel
theorem dX2_putInOrder_62 : decode cX2_putInOrder 62 = .ok (.getfield 15, 3) := by decide +kernel
theorem dX2_putInOrder_65 : decode cX2_putInOrder 65 = .ok (.iload_n 3, 1) := by decide +kernel
theorem dX2_putInOrder_66 : decode cX2_putInOrder 66 = .ok (.iload_n 1, 1) := by decide +kernel
theorem dX2_putInOrder_67 : decode cX2_putInOrder 67 = .ok (.iastore, 1) := by decide +kernel
theorem dX2_putInOrder_68 : decode cX2_putInOrder 68 = .ok (.return_, 1) := by decide +kernel
theorem dX2_alterCell_0 : decode cX2_alterCell 0 = .ok (.aload_n 0, 1) := by decide +kernel
theorem dX2_alterCell_1 : decode cX2_alterCell 1 = .ok (.iload_n 1, 1) := by decide +kernel
theorem dX2_alterCell_2 : decode cX2_alterCell 2 = .ok (.invokevirtual 22, 3) := by decide +kernel
theorem dX2_alterCell_5 : decode cX2_alterCell 5 = .ok (.ifCond .eq 13, 3) := by decide +kernel
theorem dX2_alterCell_8 : decode cX2_alterCell 8 = .ok (.iload_n 2, 1) := by decide +kernel
theorem dX2_alterCell_9 : decode cX2_alterCell 9 = .ok (.ifCond .lt 9, 3) := by decide +kernel
theorem dX2_alterCell_12 : decode cX2_alterCell 12 = .ok (.iload_n 2, 1) := by decide +kernel
theorem dX2_alterCell_13 : decode cX2_alterCell 13 = .ok (.bipush 8, 2) := by decide +kernel
theorem dX2_alterCell_15 : decode cX2_alterCell 15 = .ok (.if_icmp .lt 4, 3) := by decide +kernel
theorem dX2_alterCell_18 : decode cX2_alterCell 18 = .ok (.return_, 1) := by decide +kernel
theorem dX2_alterCell_19 : decode cX2_alterCell 19 = .ok (.aload_n 0, 1) := by decide +kernel
theorem dX2_alterCell_20 : decode cX2_alterCell 20 = .ok (.getfield 9, 3) := by decide +kernel
theorem dX2_alterCell_23 : decode cX2_alterCell 23 = .ok (.iload_n 1, 1) := by decide +kernel
theorem dX2_alterCell_24 : decode cX2_alterCell 24 = .ok (.bipush 8, 2) := by decide +kernel
theorem dX2_alterCell_26 : decode cX2_alterCell 26 = .ok (.imul, 1) := by decide +kernel
theorem dX2_alterCell_27 : decode cX2_alterCell 27 = .ok (.iload_n 2, 1) := by decide +kernel
theorem dX2_alterCell_28 : decode cX2_alterCell 28 = .ok (.iadd, 1) := by decide +kernel
theorem dX2_alterCell_29 : decode cX2_alterCell 29 = .ok (.iload_n 3, 1) := by decide +kernel
theorem dX2_alterCell_30 : decode cX2_alterCell 30 = .ok (.iastore, 1) := by decide +kernel
theorem dX2_alterCell_31 : decode cX2_alterCell 31 = .ok (.iload_n 2, 1) := by decide +kernel
theorem dX2_alterCell_32 : decode cX2_alterCell 32 = .ok (.bipush 6, 2) := by decide +kernel
theorem dX2_alterCell_34 : decode cX2_alterCell 34 = .ok (.if_icmp .ne 27, 3) := by decide +kernel
theorem dX2_alterCell_37 : decode cX2_alterCell 37 = .ok (.iconst 0, 1) := by decide +kernel
theorem dX2_alterCell_38 : decode cX2_alterCell 38 = .ok (.istore 4, 2) := by decide +kernel
theorem dX2_alterCell_40 : decode cX2_alterCell 40 = .ok (.iload 4, 2) := by decide +kernel
theorem dX2_alterCell_42 : decode cX2_alterCell 42 = .ok (.aload_n 0, 1) := by decide +kernel
theorem dX2_alterCell_43 : decode cX2_alterCell 43 = .ok (.getfield 18, 3) := by decide +kernel
theorem dX2_alterCell_46 : decode cX2_alterCell 46 = .ok (.if_icmp .ge 15, 3) := by decide +kernel
theorem dX2_alterCell_49 : decode cX2_alterCell 49 = .ok (.aload_n 0, 1) := by decide +kernel
theorem dX2_alterCell_50 : decode cX2_alterCell 50 = .ok (.iload 4, 2) := by decide +kernel
theorem dX2_alterCell_52 : decode cX2_alterCell 52 = .ok (.invokevirtual 32, 3) := by decide +kernel
theorem dX2_alterCell_55 : decode cX2_alterCell 55 = .ok (.iinc 4 1, 3) := by decide +kernel
theorem dX2_alterCell_58 : decode cX2_alterCell 58 = .ok (.goto (-18), 3) := by decide +kernel
theorem dX2_alterCell_61 : decode cX2_alterCell 61 = .ok (.return_, 1) := by decide +kernel
theorem dX2_copyFrom_0 : decode cX2_copyFrom 0 = .ok (.aload_n 0, 1) := by decide +kernel
theorem dX2_copyFrom_1 : decode cX2_copyFrom 1 = .ok (.aload_n 1, 1) := by decide +kernel
theorem dX2_copyFrom_2 : decode cX2_copyFrom 2 = .ok (.getfield 18, 3) := by decide +kernel
theorem dX2_copyFrom_5 : decode cX2_copyFrom 5 = .ok (.putfield 18, 3) := by decide +kernel
theorem dX2_copyFrom_8 : decode cX2_copyFrom 8 = .ok (.aload_n 1, 1) := by decide +kernel
theorem dX2_copyFrom_9 : decode cX2_copyFrom 9 = .ok (.getfield 9, 3) := by decide +kernel
theorem dX2_copyFrom_12 : decode cX2_copyFrom 12 = .ok (.iconst 0, 1) := by decide +kernel
theorem dX2_copyFrom_13 : decode cX2_copyFrom 13 = .ok (.aload_n 0, 1) := by decide +kernel
theorem dX2_copyFrom_14 : decode cX2_copyFrom 14 = .ok (.getfield 9, 3) := by decide +kernel
theorem dX2_copyFrom_17 : decode cX2_copyFrom 17 = .ok (.iconst 0, 1) := by decide +kernel
theorem dX2_copyFrom_18 : decode cX2_copyFrom 18 = .ok (.aload_n 0, 1) := by decide +kernel
theorem dX2_copyFrom_19 : decode cX2_copyFrom 19 = .ok (.getfield 18, 3) := by decide +kernel
theorem dX2_copyFrom_22 : decode cX2_copyFrom 22 = .ok (.bipush 8, 2) := by decide +kernel
theorem dX2_copyFrom_24 : decode cX2_copyFrom 24 = .ok (.imul, 1) := by decide +kernel
theorem dX2_copyFrom_25 : decode cX2_copyFrom 25 = .ok (.invokestatic 26, 3) := by decide +kernel
theorem dX2_copyFrom_28 : decode cX2_copyFrom 28 = .ok (.aload_n 1, 1) := by decide +kernel
theorem dX2_copyFrom_29 : decode cX2_copyFrom 29 = .ok (.getfield 15, 3) := by decide +kernel
theorem dX2_copyFrom_32 : decode cX2_copyFrom 32 = .ok (.iconst 0, 1) := by decide +kernel
theorem dX2_copyFrom_33 : decode cX2_copyFrom 33 = .ok (.aload_n 0, 1) := by decide +kernel
theorem dX2_copyFrom_34 : decode cX2_copyFrom 34 = .ok (.getfield 15, 3) := by decide +kernel
theorem dX2_copyFrom_37 : decode cX2_copyFrom 37 = .ok (.iconst 0, 1) := by decide +kernel
theorem dX2_copyFrom_38 : decode cX2_copyFrom 38 = .ok (.aload_n 0, 1) := by decide +kernel
theorem dX2_copyFrom_39 : decode cX2_copyFrom 39 = .ok (.getfield 18, 3) := by decide +kernel
theorem dX2_copyFrom_42 : decode cX2_copyFrom 42 = .ok (.invokestatic 26, 3) := by decide +kernel
theorem dX2_copyFrom_45 : decode cX2_copyFrom 45 = .ok (.return_, 1) := by decide +kernel
theorem dX2_isLate_0 : decode cX2_isLate 0 = .ok (.iconst 0, 1) := by decide +kernel
theorem dX2_isLate_1 : decode cX2_isLate 1 = .ok (.istore_n 2, 1) := by decide +kernel
theorem dX2_isLate_2 : decode cX2_isLate 2 = .ok (.iload_n 2, 1) := by decide +kernel
theorem dX2_isLate_3 : decode cX2_isLate 3 = .ok (.iload_n 1, 1) := by decide +kernel
theorem dX2_isLate_4 : decode cX2_isLate 4 = .ok (.if_icmp .ge 28, 3) := by decide +kernel
theorem dX2_isLate_7 : decode cX2_isLate 7 = .ok (.aload_n 0, 1) := by decide +kernel
theorem dX2_isLate_8 : decode cX2_isLate 8 = .ok (.iload_n 2, 1) := by decide +kernel
theorem dX2_isLate_9 : decode cX2_isLate 9 = .ok (.bipush 6, 2) := by decide +kernel
theorem dX2_isLate_11 : decode cX2_isLate 11 = .ok (.invokevirtual 36, 3) := by decide +kernel
theorem dX2_isLate_14 : decode cX2_isLate 14 = .ok (.aload_n 0, 1) := by decide +kernel
theorem dX2_isLate_15 : decode cX2_isLate 15 = .ok (.iload_n 1, 1) := by decide +kernel
theorem dX2_isLate_16 : decode cX2_isLate 16 = .ok (.bipush 6, 2) := by decide +kernel
theorem dX2_isLate_18 : decode cX2_isLate 18 = .ok (.invokevirtual 36, 3) := by decide +kernel
theorem dX2_isLate_21 : decode cX2_isLate 21 = .ok (.if_icmp .le 5, 3) := by decide +kernel
theorem dX2_isLate_24 : decode cX2_isLate 24 = .ok (.iconst 1, 1) := by decide +kernel
theorem dX2_isLate_25 : decode cX2_isLate 25 = .ok (.ireturn, 1) := by decide +kernel
theorem dX2_isLate_26 : decode cX2_isLate 26 = .ok (.iinc 2 1, 3) := by decide +kernel
theorem dX2_isLate_29 : decode cX2_isLate 29 = .ok (.goto (-27), 3) := by decide +kernel
theorem dX2_isLate_32 : decode cX2_isLate 32 = .ok (.iconst 0, 1) := by decide +kernel
theorem dX2_isLate_33 : decode cX2_isLate 33 = .ok (.ireturn, 1) := by decide +kernel
theorem dX2_useSealBeyond_0 : decode cX2_useSealBeyond 0 = .ok (.iconst 0, 1) := by decide +kernel
theorem dX2_useSealBeyond_1 : decode cX2_useSealBeyond 1 = .ok (.istore_n 3, 1) := by decide +kernel
theorem dX2_useSealBeyond_2 : decode cX2_useSealBeyond 2 = .ok (.iload_n 3, 1) := by decide +kernel
theorem dX2_useSealBeyond_3 : decode cX2_useSealBeyond 3 = .ok (.aload_n 0, 1) := by decide +kernel
theorem dX2_useSealBeyond_4 : decode cX2_useSealBeyond 4 = .ok (.getfield 18, 3) := by decide +kernel
theorem dX2_useSealBeyond_7 : decode cX2_useSealBeyond 7 = .ok (.if_icmp .ge 60, 3) := by decide +kernel
theorem dX2_useSealBeyond_10 : decode cX2_useSealBeyond 10 = .ok (.aload_n 0, 1) := by decide +kernel
theorem dX2_useSealBeyond_11 : decode cX2_useSealBeyond 11 = .ok (.iload_n 3, 1) := by decide +kernel
theorem dX2_useSealBeyond_12 : decode cX2_useSealBeyond 12 = .ok (.iconst 4, 1) := by decide +kernel
theorem dX2_useSealBeyond_13 : decode cX2_useSealBeyond 13 = .ok (.invokevirtual 36, 3) := by decide +kernel
theorem dX2_useSealBeyond_16 : decode cX2_useSealBeyond 16 = .ok (.istore 4, 2) := by decide +kernel
theorem dX2_useSealBeyond_18 : decode cX2_useSealBeyond 18 = .ok (.aload_n 0, 1) := by decide +kernel
theorem dX2_useSealBeyond_19 : decode cX2_useSealBeyond 19 = .ok (.iload_n 3, 1) := by decide +kernel
theorem dX2_useSealBeyond_20 : decode cX2_useSealBeyond 20 = .ok (.iconst 0, 1) := by decide +kernel
theorem dX2_useSealBeyond_21 : decode cX2_useSealBeyond 21 = .ok (.invokevirtual 36, 3) := by decide +kernel
theorem dX2_useSealBeyond_24 : decode cX2_useSealBeyond 24 = .ok (.bipush 8, 2) := by decide +kernel
theorem dX2_useSealBeyond_26 : decode cX2_useSealBeyond 26 = .ok (.if_icmp .ne 16, 3) := by decide +kernel
theorem dX2_useSealBeyond_29 : decode cX2_useSealBeyond 29 = .ok (.iload 4, 2) := by decide +kernel
theorem dX2_useSealBeyond_31 : decode cX2_useSealBeyond 31 = .ok (.bipush 100, 2) := by decide +kernel
theorem dX2_useSealBeyond_33 : decode cX2_useSealBeyond 33 = .ok (.idiv, 1) := by decide +kernel
theorem dX2_useSealBeyond_34 : decode cX2_useSealBeyond 34 = .ok (.iload_n 1, 1) := by decide +kernel
theorem dX2_useSealBeyond_35 : decode cX2_useSealBeyond 35 = .ok (.if_icmp .ne 7, 3) := by decide +kernel
theorem dX2_useSealBeyond_38 : decode cX2_useSealBeyond 38 = .ok (.iconst 1, 1) := by decide +kernel
theorem dX2_useSealBeyond_39 : decode cX2_useSealBeyond 39 = .ok (.goto 4, 3) := by decide +kernel
theorem dX2_useSealBeyond_42 : decode cX2_useSealBeyond 42 = .ok (.iconst 0, 1) := by decide +kernel
theorem dX2_useSealBeyond_43 : decode cX2_useSealBeyond 43 = .ok (.istore 5, 2) := by decide +kernel
theorem dX2_useSealBeyond_45 : decode cX2_useSealBeyond 45 = .ok (.iload 5, 2) := by decide +kernel
theorem dX2_useSealBeyond_47 : decode cX2_useSealBeyond 47 = .ok (.ifCond .eq 14, 3) := by decide +kernel
theorem dX2_useSealBeyond_50 : decode cX2_useSealBeyond 50 = .ok (.iload 4, 2) := by decide +kernel
theorem dX2_useSealBeyond_52 : decode cX2_useSealBeyond 52 = .ok (.bipush 100, 2) := by decide +kernel
theorem dX2_useSealBeyond_54 : decode cX2_useSealBeyond 54 = .ok (.irem, 1) := by decide +kernel
theorem dX2_useSealBeyond_55 : decode cX2_useSealBeyond 55 = .ok (.iload_n 2, 1) := by decide +kernel
theorem dX2_useSealBeyond_56 : decode cX2_useSealBeyond 56 = .ok (.if_icmp .lt 5, 3) := by decide +kernel
theorem dX2_useSealBeyond_59 : decode cX2_useSealBeyond 59 = .ok (.iconst 1, 1) := by decide +kernel
theorem dX2_useSealBeyond_60 : decode cX2_useSealBeyond 60 = .ok (.ireturn, 1) := by decide +kernel
theorem dX2_useSealBeyond_61 : decode cX2_useSealBeyond 61 = .ok (.iinc 3 1, 3) := by decide +kernel
theorem dX2_useSealBeyond_64 : decode cX2_useSealBeyond 64 = .ok (.goto (-62), 3) := by decide +kernel
theorem dX2_useSealBeyond_67 : decode cX2_useSealBeyond 67 = .ok (.iconst 0, 1) := by decide +kernel
theorem dX2_useSealBeyond_68 : decode cX2_useSealBeyond 68 = .ok (.ireturn, 1) := by decide +kernel
theorem dX2_firstBreak_0 : decode cX2_firstBreak 0 = .ok (.iconst (-1), 1) := by decide +kernel
theorem dX2_firstBreak_1 : decode cX2_firstBreak 1 = .ok (.istore_n 2, 1) := by decide +kernel
theorem dX2_firstBreak_2 : decode cX2_firstBreak 2 = .ok (.iconst 0, 1) := by decide +kernel
theorem dX2_firstBreak_3 : decode cX2_firstBreak 3 = .ok (.istore_n 3, 1) := by decide +kernel
theorem dX2_firstBreak_4 : decode cX2_firstBreak 4 = .ok (.iload_n 3, 1) := by decide +kernel
theorem dX2_firstBreak_5 : decode cX2_firstBreak 5 = .ok (.aload_n 0, 1) := by decide +kernel
theorem dX2_firstBreak_6 : decode cX2_firstBreak 6 = .ok (.getfield 18, 3) := by decide +kernel
theorem dX2_firstBreak_9 : decode cX2_firstBreak 9 = .ok (.if_icmp .ge 94, 3) := by decide +kernel
theorem dX2_firstBreak_12 : decode cX2_firstBreak 12 = .ok (.aload_n 0, 1) := by decide +kernel
theorem dX2_firstBreak_13 : decode cX2_firstBreak 13 = .ok (.getfield 15, 3) := by decide +kernel
theorem dX2_firstBreak_16 : decode cX2_firstBreak 16 = .ok (.iload_n 3, 1) := by decide +kernel
theorem dX2_firstBreak_17 : decode cX2_firstBreak 17 = .ok (.iaload, 1) := by decide +kernel
theorem dX2_firstBreak_18 : decode cX2_firstBreak 18 = .ok (.istore 4, 2) := by decide +kernel
theorem dX2_firstBreak_20 : decode cX2_firstBreak 20 = .ok (.aload_n 0, 1) := by decide +kernel
theorem dX2_firstBreak_21 : decode cX2_firstBreak 21 = .ok (.iload 4, 2) := by decide +kernel
theorem dX2_firstBreak_23 : decode cX2_firstBreak 23 = .ok (.iconst 1, 1) := by decide +kernel
theorem dX2_firstBreak_24 : decode cX2_firstBreak 24 = .ok (.invokevirtual 36, 3) := by decide +kernel
theorem dX2_firstBreak_27 : decode cX2_firstBreak 27 = .ok (.iload_n 1, 1) := by decide +kernel
theorem dX2_firstBreak_28 : decode cX2_firstBreak 28 = .ok (.if_icmp .eq 6, 3) := by decide +kernel
theorem dX2_firstBreak_31 : decode cX2_firstBreak 31 = .ok (.goto 66, 3) := by decide +kernel
theorem dX2_firstBreak_34 : decode cX2_firstBreak 34 = .ok (.aload_n 0, 1) := by decide +kernel
theorem dX2_firstBreak_35 : decode cX2_firstBreak 35 = .ok (.iload 4, 2) := by decide +kernel
theorem dX2_firstBreak_37 : decode cX2_firstBreak 37 = .ok (.iconst 0, 1) := by decide +kernel
theorem dX2_firstBreak_38 : decode cX2_firstBreak 38 = .ok (.invokevirtual 36, 3) := by decide +kernel
theorem dX2_firstBreak_41 : decode cX2_firstBreak 41 = .ok (.istore 5, 2) := by decide +kernel
theorem dX2_firstBreak_43 : decode cX2_firstBreak 43 = .ok (.aload_n 0, 1) := by decide +kernel
theorem dX2_firstBreak_44 : decode cX2_firstBreak 44 = .ok (.iload 4, 2) := by decide +kernel
theorem dX2_firstBreak_46 : decode cX2_firstBreak 46 = .ok (.iconst 4, 1) := by decide +kernel
theorem dX2_firstBreak_47 : decode cX2_firstBreak 47 = .ok (.invokevirtual 36, 3) := by decide +kernel
theorem dX2_firstBreak_50 : decode cX2_firstBreak 50 = .ok (.istore 6, 2) := by decide +kernel
theorem dX2_firstBreak_52 : decode cX2_firstBreak 52 = .ok (.iload 5, 2) := by decide +kernel
theorem dX2_firstBreak_54 : decode cX2_firstBreak 54 = .ok (.bipush 9, 2) := by decide +kernel
theorem dX2_firstBreak_56 : decode cX2_firstBreak 56 = .ok (.if_icmp .eq 10, 3) := by decide +kernel
theorem dX2_firstBreak_59 : decode cX2_firstBreak 59 = .ok (.iload 5, 2) := by decide +kernel
theorem dX2_firstBreak_61 : decode cX2_firstBreak 61 = .ok (.bipush 10, 2) := by decide +kernel
theorem dX2_firstBreak_63 : decode cX2_firstBreak 63 = .ok (.if_icmp .ne 12, 3) := by decide +kernel
theorem dX2_firstBreak_66 : decode cX2_firstBreak 66 = .ok (.iload 6, 2) := by decide +kernel
theorem dX2_firstBreak_68 : decode cX2_firstBreak 68 = .ok (.iload_n 2, 1) := by decide +kernel
theorem dX2_firstBreak_69 : decode cX2_firstBreak 69 = .ok (.if_icmp .eq 6, 3) := by decide +kernel
theorem dX2_firstBreak_72 : decode cX2_firstBreak 72 = .ok (.iload 4, 2) := by decide +kernel
theorem dX2_firstBreak_74 : decode cX2_firstBreak 74 = .ok (.ireturn, 1) := by decide +kernel
theorem dX2_firstBreak_75 : decode cX2_firstBreak 75 = .ok (.iload 5, 2) := by decide +kernel
theorem dX2_firstBreak_77 : decode cX2_firstBreak 77 = .ok (.bipush 8, 2) := by decide +kernel
theorem dX2_firstBreak_79 : decode cX2_firstBreak 79 = .ok (.if_icmp .ne 9, 3) := by decide +kernel
theorem dX2_firstBreak_82 : decode cX2_firstBreak 82 = .ok (.iload 6, 2) := by decide +kernel
theorem dX2_firstBreak_84 : decode cX2_firstBreak 84 = .ok (.istore_n 2, 1) := by decide +kernel
theorem dX2_firstBreak_85 : decode cX2_firstBreak 85 = .ok (.goto 12, 3) := by decide +kernel
theorem dX2_firstBreak_88 : decode cX2_firstBreak 88 = .ok (.iload 5, 2) := by decide +kernel
theorem dX2_firstBreak_90 : decode cX2_firstBreak 90 = .ok (.bipush 9, 2) := by decide +kernel
theorem dX2_firstBreak_92 : decode cX2_firstBreak 92 = .ok (.if_icmp .ne 5, 3) := by decide +kernel
theorem dX2_firstBreak_95 : decode cX2_firstBreak 95 = .ok (.iconst (-1), 1) := by decide +kernel
theorem dX2_firstBreak_96 : decode cX2_firstBreak 96 = .ok (.istore_n 2, 1) := by decide +kernel
theorem dX2_firstBreak_97 : decode cX2_firstBreak 97 = .ok (.iinc 3 1, 3) := by decide +kernel
theorem dX2_firstBreak_100 : decode cX2_firstBreak 100 = .ok (.goto (-96), 3) := by decide +kernel
theorem dX2_firstBreak_103 : decode cX2_firstBreak 103 = .ok (.iconst (-1), 1) := by decide +kernel
theorem dX2_firstBreak_104 : decode cX2_firstBreak 104 = .ok (.ireturn, 1) := by decide +kernel
theorem dX2_isBirth_0 : decode cX2_isBirth 0 = .ok (.aload_n 0, 1) := by decide +kernel
theorem dX2_isBirth_1 : decode cX2_isBirth 1 = .ok (.iload_n 1, 1) := by decide +kernel
theorem dX2_isBirth_2 : decode cX2_isBirth 2 = .ok (.iconst 0, 1) := by decide +kernel
theorem dX2_isBirth_3 : decode cX2_isBirth 3 = .ok (.invokevirtual 36, 3) := by decide +kernel
theorem dX2_isBirth_6 : decode cX2_isBirth 6 = .ok (.istore_n 3, 1) := by decide +kernel
theorem dX2_isBirth_7 : decode cX2_isBirth 7 = .ok (.iload_n 3, 1) := by decide +kernel
theorem dX2_isBirth_8 : decode cX2_isBirth 8 = .ok (.bipush 11, 2) := by decide +kernel
theorem dX2_isBirth_10 : decode cX2_isBirth 10 = .ok (.if_icmp .eq 9, 3) := by decide +kernel
theorem dX2_isBirth_13 : decode cX2_isBirth 13 = .ok (.iload_n 3, 1) := by decide +kernel
theorem dX2_isBirth_14 : decode cX2_isBirth 14 = .ok (.bipush 12, 2) := by decide +kernel
theorem dX2_isBirth_16 : decode cX2_isBirth 16 = .ok (.if_icmp .ne 17, 3) := by decide +kernel
theorem dX2_isBirth_19 : decode cX2_isBirth 19 = .ok (.aload_n 0, 1) := by decide +kernel
theorem dX2_isBirth_20 : decode cX2_isBirth 20 = .ok (.iload_n 1, 1) := by decide +kernel
theorem dX2_isBirth_21 : decode cX2_isBirth 21 = .ok (.iconst 4, 1) := by decide +kernel
theorem dX2_isBirth_22 : decode cX2_isBirth 22 = .ok (.invokevirtual 36, 3) := by decide +kernel
theorem dX2_isBirth_25 : decode cX2_isBirth 25 = .ok (.iload_n 2, 1) := by decide +kernel
theorem dX2_isBirth_26 : decode cX2_isBirth 26 = .ok (.if_icmp .ne 7, 3) := by decide +kernel
theorem dX2_isBirth_29 : decode cX2_isBirth 29 = .ok (.iconst 1, 1) := by decide +kernel
theorem dX2_isBirth_30 : decode cX2_isBirth 30 = .ok (.goto 4, 3) := by decide +kernel
theorem dX2_isBirth_33 : decode cX2_isBirth 33 = .ok (.iconst 0, 1) := by decide +kernel
theorem dX2_isBirth_34 : decode cX2_isBirth 34 = .ok (.ireturn, 1) := by decide +kernel
theorem dX2_isMoveOf_0 : decode cX2_isMoveOf 0 = .ok (.aload_n 0, 1) := by decide +kernel
theorem dX2_isMoveOf_1 : decode cX2_isMoveOf 1 = .ok (.iload_n 1, 1) := by decide +kernel
theorem dX2_isMoveOf_2 : decode cX2_isMoveOf 2 = .ok (.iconst 0, 1) := by decide +kernel
theorem dX2_isMoveOf_3 : decode cX2_isMoveOf 3 = .ok (.invokevirtual 36, 3) := by decide +kernel
theorem dX2_isMoveOf_6 : decode cX2_isMoveOf 6 = .ok (.istore_n 3, 1) := by decide +kernel
theorem dX2_isMoveOf_7 : decode cX2_isMoveOf 7 = .ok (.iload_n 3, 1) := by decide +kernel
theorem dX2_isMoveOf_8 : decode cX2_isMoveOf 8 = .ok (.iconst 1, 1) := by decide +kernel
theorem dX2_isMoveOf_9 : decode cX2_isMoveOf 9 = .ok (.if_icmp .lt 9, 3) := by decide +kernel
theorem dX2_isMoveOf_12 : decode cX2_isMoveOf 12 = .ok (.iload_n 3, 1) := by decide +kernel
theorem dX2_isMoveOf_13 : decode cX2_isMoveOf 13 = .ok (.bipush 7, 2) := by decide +kernel
theorem dX2_isMoveOf_15 : decode cX2_isMoveOf 15 = .ok (.if_icmp .le 15, 3) := by decide +kernel
theorem dX2_isMoveOf_18 : decode cX2_isMoveOf 18 = .ok (.iload_n 3, 1) := by decide +kernel
theorem dX2_isMoveOf_19 : decode cX2_isMoveOf 19 = .ok (.bipush 18, 2) := by decide +kernel
theorem dX2_isMoveOf_21 : decode cX2_isMoveOf 21 = .ok (.if_icmp .eq 9, 3) := by decide +kernel
theorem dX2_isMoveOf_24 : decode cX2_isMoveOf 24 = .ok (.iload_n 3, 1) := by decide +kernel
theorem dX2_isMoveOf_25 : decode cX2_isMoveOf 25 = .ok (.bipush 19, 2) := by decide +kernel
theorem dX2_isMoveOf_27 : decode cX2_isMoveOf 27 = .ok (.if_icmp .ne 7, 3) := by decide +kernel
theorem dX2_isMoveOf_30 : decode cX2_isMoveOf 30 = .ok (.iconst 1, 1) := by decide +kernel
theorem dX2_isMoveOf_31 : decode cX2_isMoveOf 31 = .ok (.goto 4, 3) := by decide +kernel
theorem dX2_isMoveOf_34 : decode cX2_isMoveOf 34 = .ok (.iconst 0, 1) := by decide +kernel
theorem dX2_isMoveOf_35 : decode cX2_isMoveOf 35 = .ok (.istore 4, 2) := by decide +kernel
theorem dX2_isMoveOf_37 : decode cX2_isMoveOf 37 = .ok (.iload 4, 2) := by decide +kernel
theorem dX2_isMoveOf_39 : decode cX2_isMoveOf 39 = .ok (.ifCond .eq 17, 3) := by decide +kernel
theorem dX2_isMoveOf_42 : decode cX2_isMoveOf 42 = .ok (.aload_n 0, 1) := by decide +kernel
theorem dX2_isMoveOf_43 : decode cX2_isMoveOf 43 = .ok (.iload_n 1, 1) := by decide +kernel
theorem dX2_isMoveOf_44 : decode cX2_isMoveOf 44 = .ok (.iconst 1, 1) := by decide +kernel
theorem dX2_isMoveOf_45 : decode cX2_isMoveOf 45 = .ok (.invokevirtual 36, 3) := by decide +kernel
theorem dX2_isMoveOf_48 : decode cX2_isMoveOf 48 = .ok (.iload_n 2, 1) := by decide +kernel
theorem dX2_isMoveOf_49 : decode cX2_isMoveOf 49 = .ok (.if_icmp .ne 7, 3) := by decide +kernel
theorem dX2_isMoveOf_52 : decode cX2_isMoveOf 52 = .ok (.iconst 1, 1) := by decide +kernel
theorem dX2_isMoveOf_53 : decode cX2_isMoveOf 53 = .ok (.goto 4, 3) := by decide +kernel
theorem dX2_isMoveOf_56 : decode cX2_isMoveOf 56 = .ok (.iconst 0, 1) := by decide +kernel
theorem dX2_isMoveOf_57 : decode cX2_isMoveOf 57 = .ok (.ireturn, 1) := by decide +kernel
theorem dX3_init_0 : decode cX3_init 0 = .ok (.aload_n 0, 1) := by decide +kernel
theorem dX3_init_1 : decode cX3_init 1 = .ok (.invokespecial 3, 3) := by decide +kernel
theorem dX3_init_4 : decode cX3_init 4 = .ok (.aload_n 0, 1) := by decide +kernel
theorem dX3_init_5 : decode cX3_init 5 = .ok (.bipush 60, 2) := by decide +kernel
theorem dX3_init_7 : decode cX3_init 7 = .ok (.newarray .int, 2) := by decide +kernel
theorem dX3_init_9 : decode cX3_init 9 = .ok (.putfield 9, 3) := by decide +kernel
theorem dX3_init_12 : decode cX3_init 12 = .ok (.aload_n 0, 1) := by decide +kernel
theorem dX3_init_13 : decode cX3_init 13 = .ok (.bipush 60, 2) := by decide +kernel
theorem dX3_init_15 : decode cX3_init 15 = .ok (.newarray .int, 2) := by decide +kernel
theorem dX3_init_17 : decode cX3_init 17 = .ok (.putfield 15, 3) := by decide +kernel
theorem dX3_init_20 : decode cX3_init 20 = .ok (.aload_n 0, 1) := by decide +kernel
theorem dX3_init_21 : decode cX3_init 21 = .ok (.bipush 60, 2) := by decide +kernel
theorem dX3_init_23 : decode cX3_init 23 = .ok (.newarray .int, 2) := by decide +kernel
theorem dX3_init_25 : decode cX3_init 25 = .ok (.putfield 18, 3) := by decide +kernel
theorem dX3_init_28 : decode cX3_init 28 = .ok (.aload_n 0, 1) := by decide +kernel
theorem dX3_init_29 : decode cX3_init 29 = .ok (.bipush 60, 2) := by decide +kernel
theorem dX3_init_31 : decode cX3_init 31 = .ok (.newarray .int, 2) := by decide +kernel
theorem dX3_init_33 : decode cX3_init 33 = .ok (.putfield 21, 3) := by decide +kernel
theorem dX3_init_36 : decode cX3_init 36 = .ok (.aload_n 0, 1) := by decide +kernel
theorem dX3_init_37 : decode cX3_init 37 = .ok (.bipush 60, 2) := by decide +kernel
theorem dX3_init_39 : decode cX3_init 39 = .ok (.newarray .int, 2) := by decide +kernel
theorem dX3_init_41 : decode cX3_init 41 = .ok (.putfield 24, 3) := by decide +kernel
theorem dX3_init_44 : decode cX3_init 44 = .ok (.aload_n 0, 1) := by decide +kernel
theorem dX3_init_45 : decode cX3_init 45 = .ok (.bipush 60, 2) := by decide +kernel
theorem dX3_init_47 : decode cX3_init 47 = .ok (.newarray .int, 2) := by decide +kernel
theorem dX3_init_49 : decode cX3_init 49 = .ok (.putfield 27, 3) := by decide +kernel
theorem dX3_init_52 : decode cX3_init 52 = .ok (.aload_n 0, 1) := by decide +kernel
theorem dX3_init_53 : decode cX3_init 53 = .ok (.bipush 60, 2) := by decide +kernel
theorem dX3_init_55 : decode cX3_init 55 = .ok (.newarray .int, 2) := by decide +kernel
theorem dX3_init_57 : decode cX3_init 57 = .ok (.putfield 30, 3) := by decide +kernel
theorem dX3_init_60 : decode cX3_init 60 = .ok (.aload_n 0, 1) := by decide +kernel
theorem dX3_init_61 : decode cX3_init 61 = .ok (.bipush 60, 2) := by decide +kernel
theorem dX3_init_63 : decode cX3_init 63 = .ok (.newarray .int, 2) := by decide +kernel
theorem dX3_init_65 : decode cX3_init 65 = .ok (.putfield 33, 3) := by decide +kernel
theorem dX3_init_68 : decode cX3_init 68 = .ok (.aload_n 0, 1) := by decide +kernel
theorem dX3_init_69 : decode cX3_init 69 = .ok (.bipush 60, 2) := by decide +kernel
theorem dX3_init_71 : decode cX3_init 71 = .ok (.newarray .int, 2) := by decide +kernel
theorem dX3_init_73 : decode cX3_init 73 = .ok (.putfield 36, 3) := by decide +kernel
theorem dX3_init_76 : decode cX3_init 76 = .ok (.aload_n 0, 1) := by decide +kernel
theorem dX3_init_77 : decode cX3_init 77 = .ok (.bipush 60, 2) := by decide +kernel
theorem dX3_init_79 : decode cX3_init 79 = .ok (.newarray .int, 2) := by decide +kernel
theorem dX3_init_81 : decode cX3_init 81 = .ok (.putfield 39, 3) := by decide +kernel
theorem dX3_init_84 : decode cX3_init 84 = .ok (.aload_n 0, 1) := by decide +kernel
theorem dX3_init_85 : decode cX3_init 85 = .ok (.bipush 96, 2) := by decide +kernel
theorem dX3_init_87 : decode cX3_init 87 = .ok (.newarray .int, 2) := by decide +kernel
theorem dX3_init_89 : decode cX3_init 89 = .ok (.putfield 42, 3) := by decide +kernel
theorem dX3_init_92 : decode cX3_init 92 = .ok (.aload_n 0, 1) := by decide +kernel
theorem dX3_init_93 : decode cX3_init 93 = .ok (.sipush 600, 3) := by decide +kernel
theorem dX3_init_96 : decode cX3_init 96 = .ok (.newarray .int, 2) := by decide +kernel
theorem dX3_init_98 : decode cX3_init 98 = .ok (.putfield 45, 3) := by decide +kernel
theorem dX3_init_101 : decode cX3_init 101 = .ok (.aload_n 0, 1) := by decide +kernel
theorem dX3_init_102 : decode cX3_init 102 = .ok (.aload_n 1, 1) := by decide +kernel
theorem dX3_init_103 : decode cX3_init 103 = .ok (.putfield 48, 3) := by decide +kernel
theorem dX3_init_106 : decode cX3_init 106 = .ok (.return_, 1) := by decide +kernel
theorem dX3_firstUndone_0 : decode cX3_firstUndone 0 = .ok (.aload_n 0, 1) := by decide +kernel
theorem dX3_firstUndone_1 : decode cX3_firstUndone 1 = .ok (.invokevirtual 52, 3) := by decide +kernel
theorem dX3_firstUndone_4 : decode cX3_firstUndone 4 = .ok (.iconst 0, 1) := by decide +kernel
theorem dX3_firstUndone_5 : decode cX3_firstUndone 5 = .ok (.istore_n 2, 1) := by decide +kernel
theorem dX3_firstUndone_6 : decode cX3_firstUndone 6 = .ok (.iload_n 2, 1) := by decide +kernel
theorem dX3_firstUndone_7 : decode cX3_firstUndone 7 = .ok (.aload_n 1, 1) := by decide +kernel
theorem dX3_firstUndone_8 : decode cX3_firstUndone 8 = .ok (.getfield 55, 3) := by decide +kernel
theorem dX3_firstUndone_11 : decode cX3_firstUndone 11 = .ok (.if_icmp .ge 26, 3) := by decide +kernel
theorem dX3_firstUndone_14 : decode cX3_firstUndone 14 = .ok (.aload_n 1, 1) := by decide +kernel
theorem dX3_firstUndone_15 : decode cX3_firstUndone 15 = .ok (.iload_n 2, 1) := by decide +kernel
theorem dX3_firstUndone_16 : decode cX3_firstUndone 16 = .ok (.invokevirtual 61, 3) := by decide +kernel
theorem dX3_firstUndone_19 : decode cX3_firstUndone 19 = .ok (.istore_n 3, 1) := by decide +kernel
theorem dX3_firstUndone_20 : decode cX3_firstUndone 20 = .ok (.aload_n 0, 1) := by decide +kernel
theorem dX3_firstUndone_21 : decode cX3_firstUndone 21 = .ok (.aload_n 1, 1) := by decide +kernel
theorem dX3_firstUndone_22 : decode cX3_firstUndone 22 = .ok (.iload_n 3, 1) := by decide +kernel
theorem dX3_firstUndone_23 : decode cX3_firstUndone 23 = .ok (.invokevirtual 65, 3) := by decide +kernel
theorem dX3_firstUndone_26 : decode cX3_firstUndone 26 = .ok (.ifCond .ne 5, 3) := by decide +kernel
theorem dX3_firstUndone_29 : decode cX3_firstUndone 29 = .ok (.iload_n 3, 1) := by decide +kernel
theorem dX3_firstUndone_30 : decode cX3_firstUndone 30 = .ok (.ireturn, 1) := by decide +kernel
theorem dX3_firstUndone_31 : decode cX3_firstUndone 31 = .ok (.iinc 2 1, 3) := by decide +kernel
theorem dX3_firstUndone_34 : decode cX3_firstUndone 34 = .ok (.goto (-28), 3) := by decide +kernel
theorem dX3_firstUndone_37 : decode cX3_firstUndone 37 = .ok (.iconst (-1), 1) := by decide +kernel
theorem dX3_firstUndone_38 : decode cX3_firstUndone 38 = .ok (.ireturn, 1) := by decide +kernel
theorem dX3_tellKnown_0 : decode cX3_tellKnown 0 = .ok (.aload_n 0, 1) := by decide +kernel
theorem dX3_tellKnown_1 : decode cX3_tellKnown 1 = .ok (.invokevirtual 52, 3) := by decide +kernel
theorem dX3_tellKnown_4 : decode cX3_tellKnown 4 = .ok (.iconst 0, 1) := by decide +kernel
theorem dX3_tellKnown_5 : decode cX3_tellKnown 5 = .ok (.istore 4, 2) := by decide +kernel
theorem dX3_tellKnown_7 : decode cX3_tellKnown 7 = .ok (.iload 4, 2) := by decide +kernel
theorem dX3_tellKnown_9 : decode cX3_tellKnown 9 = .ok (.aload_n 1, 1) := by decide +kernel
theorem dX3_tellKnown_10 : decode cX3_tellKnown 10 = .ok (.getfield 55, 3) := by decide +kernel
theorem dX3_tellKnown_13 : decode cX3_tellKnown 13 = .ok (.if_icmp .ge 49, 3) := by decide +kernel
theorem dX3_tellKnown_16 : decode cX3_tellKnown 16 = .ok (.aload_n 1, 1) := by decide +kernel
theorem dX3_tellKnown_17 : decode cX3_tellKnown 17 = .ok (.iload 4, 2) := by decide +kernel
theorem dX3_tellKnown_19 : decode cX3_tellKnown 19 = .ok (.invokevirtual 61, 3) := by decide +kernel
theorem dX3_tellKnown_22 : decode cX3_tellKnown 22 = .ok (.istore 5, 2) := by decide +kernel
theorem dX3_tellKnown_24 : decode cX3_tellKnown 24 = .ok (.aload_n 1, 1) := by decide +kernel
theorem dX3_tellKnown_25 : decode cX3_tellKnown 25 = .ok (.iload 5, 2) := by decide +kernel
theorem dX3_tellKnown_27 : decode cX3_tellKnown 27 = .ok (.bipush 6, 2) := by decide +kernel
theorem dX3_tellKnown_29 : decode cX3_tellKnown 29 = .ok (.invokevirtual 69, 3) := by decide +kernel
theorem dX3_tellKnown_32 : decode cX3_tellKnown 32 = .ok (.iload_n 2, 1) := by decide +kernel
theorem dX3_tellKnown_33 : decode cX3_tellKnown 33 = .ok (.if_icmp .gt 23, 3) := by decide +kernel
theorem dX3_tellKnown_36 : decode cX3_tellKnown 36 = .ok (.aload_n 1, 1) := by decide +kernel
theorem dX3_tellKnown_37 : decode cX3_tellKnown 37 = .ok (.iload 5, 2) := by decide +kernel
theorem dX3_tellKnown_39 : decode cX3_tellKnown 39 = .ok (.bipush 7, 2) := by decide +kernel
theorem dX3_tellKnown_41 : decode cX3_tellKnown 41 = .ok (.invokevirtual 69, 3) := by decide +kernel
theorem dX3_tellKnown_44 : decode cX3_tellKnown 44 = .ok (.iload_n 3, 1) := by decide +kernel
theorem dX3_tellKnown_45 : decode cX3_tellKnown 45 = .ok (.if_icmp .gt 11, 3) := by decide +kernel
theorem dX3_tellKnown_48 : decode cX3_tellKnown 48 = .ok (.aload_n 0, 1) := by decide +kernel
theorem dX3_tellKnown_49 : decode cX3_tellKnown 49 = .ok (.aload_n 1, 1) := by decide +kernel
theorem dX3_tellKnown_50 : decode cX3_tellKnown 50 = .ok (.iload 5, 2) := by decide +kernel
theorem dX3_tellKnown_52 : decode cX3_tellKnown 52 = .ok (.invokevirtual 65, 3) := by decide +kernel
theorem dX3_tellKnown_55 : decode cX3_tellKnown 55 = .ok (.pop, 1) := by decide +kernel
theorem dX3_tellKnown_56 : decode cX3_tellKnown 56 = .ok (.iinc 4 1, 3) := by decide +kernel
theorem dX3_tellKnown_59 : decode cX3_tellKnown 59 = .ok (.goto (-52), 3) := by decide +kernel
theorem dX3_tellKnown_62 : decode cX3_tellKnown 62 = .ok (.return_, 1) := by decide +kernel
theorem dX3_answer_0 : decode cX3_answer 0 = .ok (.aload_n 0, 1) := by decide +kernel
theorem dX3_answer_1 : decode cX3_answer 1 = .ok (.getfield 48, 3) := by decide +kernel
theorem dX3_answer_4 : decode cX3_answer 4 = .ok (.iload_n 1, 1) := by decide +kernel
theorem dX3_answer_5 : decode cX3_answer 5 = .ok (.invokevirtual 73, 3) := by decide +kernel
theorem dX3_answer_8 : decode cX3_answer 8 = .ok (.ifCond .ne 5, 3) := by decide +kernel
theorem dX3_answer_11 : decode cX3_answer 11 = .ok (.iconst (-1), 1) := by decide +kernel
theorem dX3_answer_12 : decode cX3_answer 12 = .ok (.ireturn, 1) := by decide +kernel
theorem dX3_answer_13 : decode cX3_answer 13 = .ok (.iload_n 2, 1) := by decide +kernel
theorem dX3_answer_14 : decode cX3_answer 14 = .ok (.tableswitch 157 0 11 #[62, 69, 76, 83, 90, 101, 112, 119, 126, 133, 143, 150], 62) := by decide +kernel
theorem dX3_answer_76 : decode cX3_answer 76 = .ok (.aload_n 0, 1) := by decide +kernel
theorem dX3_answer_77 : decode cX3_answer 77 = .ok (.getfield 9, 3) := by decide +kernel
theorem dX3_answer_80 : decode cX3_answer 80 = .ok (.iload_n 1, 1) := by decide +kernel
theorem dX3_answer_81 : decode cX3_answer 81 = .ok (.iaload, 1) := by decide +kernel
theorem dX3_answer_82 : decode cX3_answer 82 = .ok (.ireturn, 1) := by decide +kernel
theorem dX3_answer_83 : decode cX3_answer 83 = .ok (.aload_n 0, 1) := by decide +kernel
theorem dX3_answer_84 : decode cX3_answer 84 = .ok (.getfield 15, 3) := by decide +kernel
theorem dX3_answer_87 : decode cX3_answer 87 = .ok (.iload_n 1, 1) := by decide +kernel
theorem dX3_answer_88 : decode cX3_answer 88 = .ok (.iaload, 1) := by decide +kernel
theorem dX3_answer_89 : decode cX3_answer 89 = .ok (.ireturn, 1) := by decide +kernel
theorem dX3_answer_90 : decode cX3_answer 90 = .ok (.aload_n 0, 1) := by decide +kernel
theorem dX3_answer_91 : decode cX3_answer 91 = .ok (.getfield 18, 3) := by decide +kernel
theorem dX3_answer_94 : decode cX3_answer 94 = .ok (.iload_n 1, 1) := by decide +kernel
theorem dX3_answer_95 : decode cX3_answer 95 = .ok (.iaload, 1) := by decide +kernel
theorem dX3_answer_96 : decode cX3_answer 96 = .ok (.ireturn, 1) := by decide +kernel
theorem dX3_answer_97 : decode cX3_answer 97 = .ok (.aload_n 0, 1) := by decide +kernel
theorem dX3_answer_98 : decode cX3_answer 98 = .ok (.getfield 21, 3) := by decide +kernel
theorem dX3_answer_101 : decode cX3_answer 101 = .ok (.iload_n 1, 1) := by decide +kernel
theorem dX3_answer_102 : decode cX3_answer 102 = .ok (.iaload, 1) := by decide +kernel
theorem dX3_answer_103 : decode cX3_answer 103 = .ok (.ireturn, 1) := by decide +kernel
theorem dX3_answer_104 : decode cX3_answer 104 = .ok (.aload_n 0, 1) := by decide +kernel
theorem dX3_answer_105 : decode cX3_answer 105 = .ok (.getfield 9, 3) := by decide +kernel
theorem dX3_answer_108 : decode cX3_answer 108 = .ok (.aload_n 0, 1) := by decide +kernel
theorem dX3_answer_109 : decode cX3_answer 109 = .ok (.iload_n 1, 1) := by decide +kernel
theorem dX3_answer_110 : decode cX3_answer 110 = .ok (.invokevirtual 79, 3) := by decide +kernel
theorem dX3_answer_113 : decode cX3_answer 113 = .ok (.iaload, 1) := by decide +kernel
theorem dX3_answer_114 : decode cX3_answer 114 = .ok (.ireturn, 1) := by decide +kernel
theorem dX3_answer_115 : decode cX3_answer 115 = .ok (.aload_n 0, 1) := by decide +kernel
theorem dX3_answer_116 : decode cX3_answer 116 = .ok (.getfield 15, 3) := by decide +kernel
theorem dX3_answer_119 : decode cX3_answer 119 = .ok (.aload_n 0, 1) := by decide +kernel
theorem dX3_answer_120 : decode cX3_answer 120 = .ok (.iload_n 1, 1) := by decide +kernel
theorem dX3_answer_121 : decode cX3_answer 121 = .ok (.invokevirtual 79, 3) := by decide +kernel
theorem dX3_answer_124 : decode cX3_answer 124 = .ok (.iaload, 1) := by decide +kernel
theorem dX3_answer_125 : decode cX3_answer 125 = .ok (.ireturn, 1) := by decide +kernel
theorem dX3_answer_126 : decode cX3_answer 126 = .ok (.aload_n 0, 1) := by decide +kernel
theorem dX3_answer_127 : decode cX3_answer 127 = .ok (.getfield 24, 3) := by decide +kernel
theorem dX3_answer_130 : decode cX3_answer 130 = .ok (.iload_n 1, 1) := by decide +kernel
theorem dX3_answer_131 : decode cX3_answer 131 = .ok (.iaload, 1) := by decide +kernel
theorem dX3_answer_132 : decode cX3_answer 132 = .ok (.ireturn, 1) := by decide +kernel
theorem dX3_answer_133 : decode cX3_answer 133 = .ok (.aload_n 0, 1) := by decide +kernel
theorem dX3_answer_134 : decode cX3_answer 134 = .ok (.getfield 27, 3) := by decide +kernel
theorem dX3_answer_137 : decode cX3_answer 137 = .ok (.iload_n 1, 1) := by decide +kernel
theorem dX3_answer_138 : decode cX3_answer 138 = .ok (.iaload, 1) := by decide +kernel
theorem dX3_answer_139 : decode cX3_answer 139 = .ok (.ireturn, 1) := by decide +kernel
theorem dX3_answer_140 : decode cX3_answer 140 = .ok (.aload_n 0, 1) := by decide +kernel
theorem dX3_answer_141 : decode cX3_answer 141 = .ok (.getfield 30, 3) := by decide +kernel
theorem dX3_answer_144 : decode cX3_answer 144 = .ok (.iload_n 1, 1) := by decide +kernel
theorem dX3_answer_145 : decode cX3_answer 145 = .ok (.iaload, 1) := by decide +kernel
theorem dX3_answer_146 : decode cX3_answer 146 = .ok (.ireturn, 1) := by decide +kernel
theorem dX3_answer_147 : decode cX3_answer 147 = .ok (.aload_n 0, 1) := by decide +kernel
theorem dX3_answer_148 : decode cX3_answer 148 = .ok (.getfield 33, 3) := by decide +kernel
theorem dX3_answer_151 : decode cX3_answer 151 = .ok (.iload_n 1, 1) := by decide +kernel
theorem dX3_answer_152 : decode cX3_answer 152 = .ok (.iaload, 1) := by decide +kernel
theorem dX3_answer_153 : decode cX3_answer 153 = .ok (.invokestatic 82, 3) := by decide +kernel
theorem dX3_answer_156 : decode cX3_answer 156 = .ok (.ireturn, 1) := by decide +kernel
theorem dX3_answer_157 : decode cX3_answer 157 = .ok (.aload_n 0, 1) := by decide +kernel
theorem dX3_answer_158 : decode cX3_answer 158 = .ok (.getfield 36, 3) := by decide +kernel
theorem dX3_answer_161 : decode cX3_answer 161 = .ok (.iload_n 1, 1) := by decide +kernel
theorem dX3_answer_162 : decode cX3_answer 162 = .ok (.iaload, 1) := by decide +kernel
theorem dX3_answer_163 : decode cX3_answer 163 = .ok (.ireturn, 1) := by decide +kernel
theorem dX3_answer_164 : decode cX3_answer 164 = .ok (.aload_n 0, 1) := by decide +kernel
theorem dX3_answer_165 : decode cX3_answer 165 = .ok (.getfield 39, 3) := by decide +kernel
theorem dX3_answer_168 : decode cX3_answer 168 = .ok (.iload_n 1, 1) := by decide +kernel
theorem dX3_answer_169 : decode cX3_answer 169 = .ok (.iaload, 1) := by decide +kernel
theorem dX3_answer_170 : decode cX3_answer 170 = .ok (.ireturn, 1) := by decide +kernel
theorem dX3_answer_171 : decode cX3_answer 171 = .ok (.iconst (-1), 1) := by decide +kernel
theorem dX3_answer_172 : decode cX3_answer 172 = .ok (.ireturn, 1) := by decide +kernel
theorem dX3_thingOfDay_0 : decode cX3_thingOfDay 0 = .ok (.iload_n 2, 1) := by decide +kernel
theorem dX3_thingOfDay_1 : decode cX3_thingOfDay 1 = .ok (.istore_n 3, 1) := by decide +kernel
theorem dX3_thingOfDay_2 : decode cX3_thingOfDay 2 = .ok (.iconst 0, 1) := by decide +kernel
theorem dX3_thingOfDay_3 : decode cX3_thingOfDay 3 = .ok (.istore 4, 2) := by decide +kernel
theorem dX3_thingOfDay_5 : decode cX3_thingOfDay 5 = .ok (.iload 4, 2) := by decide +kernel
theorem dX3_thingOfDay_7 : decode cX3_thingOfDay 7 = .ok (.aload_n 0, 1) := by decide +kernel
theorem dX3_thingOfDay_8 : decode cX3_thingOfDay 8 = .ok (.getfield 48, 3) := by decide +kernel
theorem dX3_thingOfDay_11 : decode cX3_thingOfDay 11 = .ok (.getfield 87, 3) := by decide +kernel
theorem dX3_thingOfDay_14 : decode cX3_thingOfDay 14 = .ok (.if_icmp .ge 50, 3) := by decide +kernel
theorem dX3_thingOfDay_17 : decode cX3_thingOfDay 17 = .ok (.aload_n 0, 1) := by decide +kernel
theorem dX3_thingOfDay_18 : decode cX3_thingOfDay 18 = .ok (.iload 4, 2) := by decide +kernel
theorem dX3_thingOfDay_20 : decode cX3_thingOfDay 20 = .ok (.invokevirtual 90, 3) := by decide +kernel
theorem dX3_thingOfDay_23 : decode cX3_thingOfDay 23 = .ok (.ifCond .eq 35, 3) := by decide +kernel
theorem dX3_thingOfDay_26 : decode cX3_thingOfDay 26 = .ok (.aload_n 0, 1) := by decide +kernel
theorem dX3_thingOfDay_27 : decode cX3_thingOfDay 27 = .ok (.getfield 24, 3) := by decide +kernel
theorem dX3_thingOfDay_30 : decode cX3_thingOfDay 30 = .ok (.iload 4, 2) := by decide +kernel
theorem dX3_thingOfDay_32 : decode cX3_thingOfDay 32 = .ok (.iaload, 1) := by decide +kernel
theorem dX3_thingOfDay_33 : decode cX3_thingOfDay 33 = .ok (.iload_n 1, 1) := by decide +kernel
theorem dX3_thingOfDay_34 : decode cX3_thingOfDay 34 = .ok (.if_icmp .eq 14, 3) := by decide +kernel
theorem dX3_thingOfDay_37 : decode cX3_thingOfDay 37 = .ok (.aload_n 0, 1) := by decide +kernel
theorem dX3_thingOfDay_38 : decode cX3_thingOfDay 38 = .ok (.getfield 27, 3) := by decide +kernel
theorem dX3_thingOfDay_41 : decode cX3_thingOfDay 41 = .ok (.iload 4, 2) := by decide +kernel
theorem dX3_thingOfDay_43 : decode cX3_thingOfDay 43 = .ok (.iaload, 1) := by decide +kernel
theorem dX3_thingOfDay_44 : decode cX3_thingOfDay 44 = .ok (.iload_n 1, 1) := by decide +kernel
theorem dX3_thingOfDay_45 : decode cX3_thingOfDay 45 = .ok (.if_icmp .ne 13, 3) := by decide +kernel
theorem dX3_thingOfDay_48 : decode cX3_thingOfDay 48 = .ok (.iload_n 3, 1) := by decide +kernel
theorem dX3_thingOfDay_49 : decode cX3_thingOfDay 49 = .ok (.ifCond .ne 6, 3) := by decide +kernel
theorem dX3_thingOfDay_52 : decode cX3_thingOfDay 52 = .ok (.iload 4, 2) := by decide +kernel
theorem dX3_thingOfDay_54 : decode cX3_thingOfDay 54 = .ok (.ireturn, 1) := by decide +kernel
theorem dX3_thingOfDay_55 : decode cX3_thingOfDay 55 = .ok (.iinc 3 (-1), 3) := by decide +kernel
theorem dX3_thingOfDay_58 : decode cX3_thingOfDay 58 = .ok (.iinc 4 1, 3) := by decide +kernel
theorem dX3_thingOfDay_61 : decode cX3_thingOfDay 61 = .ok (.goto (-56), 3) := by decide +kernel
theorem dX3_thingOfDay_64 : decode cX3_thingOfDay 64 = .ok (.iconst (-1), 1) := by decide +kernel
theorem dX3_thingOfDay_65 : decode cX3_thingOfDay 65 = .ok (.ireturn, 1) := by decide +kernel
theorem dX3_clear_0 : decode cX3_clear 0 = .ok (.aload_n 0, 1) := by decide +kernel
theorem dX3_clear_1 : decode cX3_clear 1 = .ok (.getfield 9, 3) := by decide +kernel
theorem dX3_clear_4 : decode cX3_clear 4 = .ok (.iconst 0, 1) := by decide +kernel
theorem dX3_clear_5 : decode cX3_clear 5 = .ok (.invokestatic 93, 3) := by decide +kernel
theorem dX3_clear_8 : decode cX3_clear 8 = .ok (.aload_n 0, 1) := by decide +kernel
theorem dX3_clear_9 : decode cX3_clear 9 = .ok (.getfield 15, 3) := by decide +kernel
theorem dX3_clear_12 : decode cX3_clear 12 = .ok (.iconst (-1), 1) := by decide +kernel
theorem dX3_clear_13 : decode cX3_clear 13 = .ok (.invokestatic 93, 3) := by decide +kernel
theorem dX3_clear_16 : decode cX3_clear 16 = .ok (.aload_n 0, 1) := by decide +kernel
theorem dX3_clear_17 : decode cX3_clear 17 = .ok (.getfield 48, 3) := by decide +kernel
theorem dX3_clear_20 : decode cX3_clear 20 = .ok (.getfield 99, 3) := by decide +kernel
theorem dX3_clear_23 : decode cX3_clear 23 = .ok (.iconst 0, 1) := by decide +kernel
theorem dX3_clear_24 : decode cX3_clear 24 = .ok (.aload_n 0, 1) := by decide +kernel
theorem dX3_clear_25 : decode cX3_clear 25 = .ok (.getfield 18, 3) := by decide +kernel
theorem dX3_clear_28 : decode cX3_clear 28 = .ok (.iconst 0, 1) := by decide +kernel
theorem dX3_clear_29 : decode cX3_clear 29 = .ok (.bipush 60, 2) := by decide +kernel
theorem dX3_clear_31 : decode cX3_clear 31 = .ok (.invokestatic 102, 3) := by decide +kernel
theorem dX3_clear_34 : decode cX3_clear 34 = .ok (.aload_n 0, 1) := by decide +kernel
theorem dX3_clear_35 : decode cX3_clear 35 = .ok (.getfield 21, 3) := by decide +kernel
theorem dX3_clear_38 : decode cX3_clear 38 = .ok (.iconst (-1), 1) := by decide +kernel
theorem dX3_clear_39 : decode cX3_clear 39 = .ok (.invokestatic 93, 3) := by decide +kernel
theorem dX3_clear_42 : decode cX3_clear 42 = .ok (.aload_n 0, 1) := by decide +kernel
theorem dX3_clear_43 : decode cX3_clear 43 = .ok (.getfield 24, 3) := by decide +kernel
theorem dX3_clear_46 : decode cX3_clear 46 = .ok (.iconst (-1), 1) := by decide +kernel
theorem dX3_clear_47 : decode cX3_clear 47 = .ok (.invokestatic 93, 3) := by decide +kernel
theorem dX3_clear_50 : decode cX3_clear 50 = .ok (.aload_n 0, 1) := by decide +kernel
theorem dX3_clear_51 : decode cX3_clear 51 = .ok (.getfield 27, 3) := by decide +kernel
theorem dX3_clear_54 : decode cX3_clear 54 = .ok (.iconst (-1), 1) := by decide +kernel
theorem dX3_clear_55 : decode cX3_clear 55 = .ok (.invokestatic 93, 3) := by decide +kernel
theorem dX3_clear_58 : decode cX3_clear 58 = .ok (.aload_n 0, 1) := by decide +kernel
theorem dX3_clear_59 : decode cX3_clear 59 = .ok (.getfield 30, 3) := by decide +kernel
theorem dX3_clear_62 : decode cX3_clear 62 = .ok (.iconst 0, 1) := by decide +kernel
theorem dX3_clear_63 : decode cX3_clear 63 = .ok (.invokestatic 93, 3) := by decide +kernel
theorem dX3_clear_66 : decode cX3_clear 66 = .ok (.aload_n 0, 1) := by decide +kernel
theorem dX3_clear_67 : decode cX3_clear 67 = .ok (.getfield 33, 3) := by decide +kernel
theorem dX3_clear_70 : decode cX3_clear 70 = .ok (.iconst 0, 1) := by decide +kernel
theorem dX3_clear_71 : decode cX3_clear 71 = .ok (.invokestatic 93, 3) := by decide +kernel
theorem dX3_clear_74 : decode cX3_clear 74 = .ok (.aload_n 0, 1) := by decide +kernel
theorem dX3_clear_75 : decode cX3_clear 75 = .ok (.getfield 36, 3) := by decide +kernel
theorem dX3_clear_78 : decode cX3_clear 78 = .ok (.iconst 0, 1) := by decide +kernel
theorem dX3_clear_79 : decode cX3_clear 79 = .ok (.invokestatic 93, 3) := by decide +kernel
theorem dX3_clear_82 : decode cX3_clear 82 = .ok (.aload_n 0, 1) := by decide +kernel
theorem dX3_clear_83 : decode cX3_clear 83 = .ok (.getfield 39, 3) := by decide +kernel
theorem dX3_clear_86 : decode cX3_clear 86 = .ok (.iconst (-1), 1) := by decide +kernel
theorem dX3_clear_87 : decode cX3_clear 87 = .ok (.invokestatic 93, 3) := by decide +kernel
theorem dX3_clear_90 : decode cX3_clear 90 = .ok (.aload_n 0, 1) := by decide +kernel
theorem dX3_clear_91 : decode cX3_clear 91 = .ok (.getfield 42, 3) := by decide +kernel
theorem dX3_clear_94 : decode cX3_clear 94 = .ok (.iconst (-1), 1) := by decide +kernel
theorem dX3_clear_95 : decode cX3_clear 95 = .ok (.invokestatic 93, 3) := by decide +kernel
theorem dX3_clear_98 : decode cX3_clear 98 = .ok (.aload_n 0, 1) := by decide +kernel
theorem dX3_clear_99 : decode cX3_clear 99 = .ok (.getfield 45, 3) := by decide +kernel
theorem dX3_clear_102 : decode cX3_clear 102 = .ok (.iconst 0, 1) := by decide +kernel
theorem dX3_clear_103 : decode cX3_clear 103 = .ok (.invokestatic 93, 3) := by decide +kernel
theorem dX3_clear_106 : decode cX3_clear 106 = .ok (.return_, 1) := by decide +kernel
theorem dX3_tell_0 : decode cX3_tell 0 = .ok (.aload_n 1, 1) := by decide +kernel
theorem dX3_tell_1 : decode cX3_tell 1 = .ok (.iload_n 2, 1) := by decide +kernel
theorem dX3_tell_2 : decode cX3_tell 2 = .ok (.iconst 0, 1) := by decide +kernel
theorem dX3_tell_3 : decode cX3_tell 3 = .ok (.invokevirtual 69, 3) := by decide +kernel
theorem dX3_tell_6 : decode cX3_tell 6 = .ok (.istore_n 3, 1) := by decide +kernel
theorem dX3_tell_7 : decode cX3_tell 7 = .ok (.aload_n 1, 1) := by decide +kernel
theorem dX3_tell_8 : decode cX3_tell 8 = .ok (.iload_n 2, 1) := by decide +kernel
theorem dX3_tell_9 : decode cX3_tell 9 = .ok (.bipush 6, 2) := by decide +kernel
theorem dX3_tell_11 : decode cX3_tell 11 = .ok (.invokevirtual 69, 3) := by decide +kernel
theorem dX3_tell_14 : decode cX3_tell 14 = .ok (.istore 4, 2) := by decide +kernel
theorem dX3_tell_16 : decode cX3_tell 16 = .ok (.aload_n 0, 1) := by decide +kernel
theorem dX3_tell_17 : decode cX3_tell 17 = .ok (.aload_n 1, 1) := by decide +kernel
theorem dX3_tell_18 : decode cX3_tell 18 = .ok (.iload_n 2, 1) := by decide +kernel
theorem dX3_tell_19 : decode cX3_tell 19 = .ok (.iconst 1, 1) := by decide +kernel
theorem dX3_tell_20 : decode cX3_tell 20 = .ok (.invokevirtual 69, 3) := by decide +kernel
theorem dX3_tell_23 : decode cX3_tell 23 = .ok (.putfield 108, 3) := by decide +kernel
theorem dX3_tell_26 : decode cX3_tell 26 = .ok (.aload_n 0, 1) := by decide +kernel
theorem dX3_tell_27 : decode cX3_tell 27 = .ok (.aload_n 1, 1) := by decide +kernel
theorem dX3_tell_28 : decode cX3_tell 28 = .ok (.iload_n 2, 1) := by decide +kernel
theorem dX3_tell_29 : decode cX3_tell 29 = .ok (.iconst 2, 1) := by decide +kernel
theorem dX3_tell_30 : decode cX3_tell 30 = .ok (.invokevirtual 69, 3) := by decide +kernel
theorem dX3_tell_33 : decode cX3_tell 33 = .ok (.putfield 111, 3) := by decide +kernel
theorem dX3_tell_36 : decode cX3_tell 36 = .ok (.aload_n 0, 1) := by decide +kernel
theorem dX3_tell_37 : decode cX3_tell 37 = .ok (.aload_n 1, 1) := by decide +kernel
theorem dX3_tell_38 : decode cX3_tell 38 = .ok (.iload_n 2, 1) := by decide +kernel
theorem dX3_tell_39 : decode cX3_tell 39 = .ok (.iconst 3, 1) := by decide +kernel
theorem dX3_tell_40 : decode cX3_tell 40 = .ok (.invokevirtual 69, 3) := by decide +kernel
theorem dX3_tell_43 : decode cX3_tell 43 = .ok (.putfield 114, 3) := by decide +kernel
theorem dX3_tell_46 : decode cX3_tell 46 = .ok (.aload_n 0, 1) := by decide +kernel
theorem dX3_tell_47 : decode cX3_tell 47 = .ok (.aload_n 1, 1) := by decide +kernel
theorem dX3_tell_48 : decode cX3_tell 48 = .ok (.iload_n 2, 1) := by decide +kernel
theorem dX3_tell_49 : decode cX3_tell 49 = .ok (.iconst 4, 1) := by decide +kernel
theorem dX3_tell_50 : decode cX3_tell 50 = .ok (.invokevirtual 69, 3) := by decide +kernel
theorem dX3_tell_53 : decode cX3_tell 53 = .ok (.putfield 117, 3) := by decide +kernel
theorem dX3_tell_56 : decode cX3_tell 56 = .ok (.aload_n 0, 1) := by decide +kernel
theorem dX3_tell_57 : decode cX3_tell 57 = .ok (.aload_n 1, 1) := by decide +kernel
theorem dX3_tell_58 : decode cX3_tell 58 = .ok (.iload_n 2, 1) := by decide +kernel
theorem dX3_tell_59 : decode cX3_tell 59 = .ok (.iconst 5, 1) := by decide +kernel
theorem dX3_tell_60 : decode cX3_tell 60 = .ok (.invokevirtual 69, 3) := by decide +kernel
theorem dX3_tell_63 : decode cX3_tell 63 = .ok (.putfield 120, 3) := by decide +kernel
theorem dX3_tell_66 : decode cX3_tell 66 = .ok (.iload 4, 2) := by decide +kernel
theorem dX3_tell_68 : decode cX3_tell 68 = .ok (.ifCond .lt 29, 3) := by decide +kernel
theorem dX3_tell_71 : decode cX3_tell 71 = .ok (.iload 4, 2) := by decide +kernel
theorem dX3_tell_73 : decode cX3_tell 73 = .ok (.aload_n 1, 1) := by decide +kernel
theorem dX3_tell_74 : decode cX3_tell 74 = .ok (.iload_n 2, 1) := by decide +kernel
theorem dX3_tell_75 : decode cX3_tell 75 = .ok (.bipush 7, 2) := by decide +kernel
theorem dX3_tell_77 : decode cX3_tell 77 = .ok (.invokevirtual 69, 3) := by decide +kernel
theorem dX3_tell_80 : decode cX3_tell 80 = .ok (.if_icmp .gt 17, 3) := by decide +kernel
theorem dX3_tell_83 : decode cX3_tell 83 = .ok (.aload_n 0, 1) := by decide +kernel
theorem dX3_tell_84 : decode cX3_tell 84 = .ok (.getfield 48, 3) := by decide +kernel
theorem dX3_tell_87 : decode cX3_tell 87 = .ok (.aload_n 0, 1) := by decide +kernel
theorem dX3_tell_88 : decode cX3_tell 88 = .ok (.getfield 108, 3) := by decide +kernel
theorem dX3_tell_91 : decode cX3_tell 91 = .ok (.invokevirtual 73, 3) := by decide +kernel
theorem dX3_tell_94 : decode cX3_tell 94 = .ok (.ifCond .ne 5, 3) := by decide +kernel
theorem dX3_tell_97 : decode cX3_tell 97 = .ok (.iconst 0, 1) := by decide +kernel
theorem dX3_tell_98 : decode cX3_tell 98 = .ok (.ireturn, 1) := by decide +kernel
theorem dX3_tell_99 : decode cX3_tell 99 = .ok (.iload_n 3, 1) := by decide +kernel
theorem dX3_tell_100 : decode cX3_tell 100 = .ok (.iconst 1, 1) := by decide +kernel
theorem dX3_tell_101 : decode cX3_tell 101 = .ok (.if_icmp .eq 16, 3) := by decide +kernel
theorem dX3_tell_104 : decode cX3_tell 104 = .ok (.aload_n 0, 1) := by decide +kernel
theorem dX3_tell_105 : decode cX3_tell 105 = .ok (.aload_n 0, 1) := by decide +kernel
theorem dX3_tell_106 : decode cX3_tell 106 = .ok (.getfield 108, 3) := by decide +kernel
theorem dX3_tell_109 : decode cX3_tell 109 = .ok (.invokevirtual 90, 3) := by decide +kernel
theorem dX3_tell_112 : decode cX3_tell 112 = .ok (.ifCond .ne 5, 3) := by decide +kernel
theorem dX3_tell_115 : decode cX3_tell 115 = .ok (.iconst 0, 1) := by decide +kernel
theorem dX3_tell_116 : decode cX3_tell 116 = .ok (.ireturn, 1) := by decide +kernel
theorem dX3_tell_117 : decode cX3_tell 117 = .ok (.aload_n 0, 1) := by decide +kernel
theorem dX3_tell_118 : decode cX3_tell 118 = .ok (.iload 4, 2) := by decide +kernel
theorem dX3_tell_120 : decode cX3_tell 120 = .ok (.sipush 1440, 3) := by decide +kernel
theorem dX3_tell_123 : decode cX3_tell 123 = .ok (.idiv, 1) := by decide +kernel
theorem dX3_tell_124 : decode cX3_tell 124 = .ok (.putfield 123, 3) := by decide +kernel
theorem dX3_tell_127 : decode cX3_tell 127 = .ok (.iload_n 3, 1) := by decide +kernel
theorem dX3_tell_128 : decode cX3_tell 128 = .ok (.tableswitch 187 1 19 #[92, 97, 102, 107, 112, 117, 122, 127, 132, 137, 142, 147, 152, 157, 162, 167, 172, 177, 182], 92) := by decide +kernel
theorem dX3_tell_220 : decode cX3_tell 220 = .ok (.aload_n 0, 1) := by decide +kernel
theorem dX3_tell_221 : decode cX3_tell 221 = .ok (.invokevirtual 126, 3) := by decide +kernel
theorem dX3_tell_224 : decode cX3_tell 224 = .ok (.ireturn, 1) := by decide +kernel
theorem dX3_tell_225 : decode cX3_tell 225 = .ok (.aload_n 0, 1) := by decide +kernel
theorem dX3_tell_226 : decode cX3_tell 226 = .ok (.invokevirtual 130, 3) := by decide +kernel
theorem dX3_tell_229 : decode cX3_tell 229 = .ok (.ireturn, 1) := by decide +kernel
theorem dX3_tell_230 : decode cX3_tell 230 = .ok (.aload_n 0, 1) := by decide +kernel
theorem dX3_tell_231 : decode cX3_tell 231 = .ok (.invokevirtual 133, 3) := by decide +kernel
theorem dX3_tell_234 : decode cX3_tell 234 = .ok (.ireturn, 1) := by decide +kernel
theorem dX3_tell_235 : decode cX3_tell 235 = .ok (.aload_n 0, 1) := by decide +kernel
theorem dX3_tell_236 : decode cX3_tell 236 = .ok (.invokevirtual 136, 3) := by decide +kernel
theorem dX3_tell_239 : decode cX3_tell 239 = .ok (.ireturn, 1) := by decide +kernel
theorem dX3_tell_240 : decode cX3_tell 240 = .ok (.aload_n 0, 1) := by decide +kernel
theorem dX3_tell_241 : decode cX3_tell 241 = .ok (.invokevirtual 139, 3) := by decide +kernel
theorem dX3_tell_244 : decode cX3_tell 244 = .ok (.ireturn, 1) := by decide +kernel
theorem dX3_tell_245 : decode cX3_tell 245 = .ok (.aload_n 0, 1) := by decide +kernel
theorem dX3_tell_246 : decode cX3_tell 246 = .ok (.invokevirtual 142, 3) := by decide +kernel
theorem dX3_tell_249 : decode cX3_tell 249 = .ok (.ireturn, 1) := by decide +kernel
theorem dX3_tell_250 : decode cX3_tell 250 = .ok (.aload_n 0, 1) := by decide +kernel
theorem dX3_tell_251 : decode cX3_tell 251 = .ok (.invokevirtual 145, 3) := by decide +kernel
theorem dX3_tell_254 : decode cX3_tell 254 = .ok (.ireturn, 1) := by decide +kernel
theorem dX3_tell_255 : decode cX3_tell 255 = .ok (.aload_n 0, 1) := by decide +kernel
theorem dX3_tell_256 : decode cX3_tell 256 = .ok (.invokevirtual 148, 3) := by decide +kernel
theorem dX3_tell_259 : decode cX3_tell 259 = .ok (.ireturn, 1) := by decide +kernel
theorem dX3_tell_260 : decode cX3_tell 260 = .ok (.aload_n 0, 1) := by decide +kernel
theorem dX3_tell_261 : decode cX3_tell 261 = .ok (.invokevirtual 151, 3) := by decide +kernel
theorem dX3_tell_264 : decode cX3_tell 264 = .ok (.ireturn, 1) := by decide +kernel
theorem dX3_tell_265 : decode cX3_tell 265 = .ok (.aload_n 0, 1) := by decide +kernel
theorem dX3_tell_266 : decode cX3_tell 266 = .ok (.invokevirtual 154, 3) := by decide +kernel
theorem dX3_tell_269 : decode cX3_tell 269 = .ok (.ireturn, 1) := by decide +kernel
theorem dX3_tell_270 : decode cX3_tell 270 = .ok (.aload_n 0, 1) := by decide +kernel
theorem dX3_tell_271 : decode cX3_tell 271 = .ok (.invokevirtual 157, 3) := by decide +kernel
theorem dX3_tell_274 : decode cX3_tell 274 = .ok (.ireturn, 1) := by decide +kernel
theorem dX3_tell_275 : decode cX3_tell 275 = .ok (.aload_n 0, 1) := by decide +kernel
theorem dX3_tell_276 : decode cX3_tell 276 = .ok (.invokevirtual 160, 3) := by decide +kernel
theorem dX3_tell_279 : decode cX3_tell 279 = .ok (.ireturn, 1) := by decide +kernel
theorem dX3_tell_280 : decode cX3_tell 280 = .ok (.aload_n 0, 1) := by decide +kernel
theorem dX3_tell_281 : decode cX3_tell 281 = .ok (.invokevirtual 163, 3) := by decide +kernel
theorem dX3_tell_284 : decode cX3_tell 284 = .ok (.ireturn, 1) := by decide +kernel
theorem dX3_tell_285 : decode cX3_tell 285 = .ok (.aload_n 0, 1) := by decide +kernel
theorem dX3_tell_286 : decode cX3_tell 286 = .ok (.invokevirtual 166, 3) := by decide +kernel
theorem dX3_tell_289 : decode cX3_tell 289 = .ok (.ireturn, 1) := by decide +kernel
theorem dX3_tell_290 : decode cX3_tell 290 = .ok (.aload_n 0, 1) := by decide +kernel
theorem dX3_tell_291 : decode cX3_tell 291 = .ok (.invokevirtual 169, 3) := by decide +kernel
theorem dX3_tell_294 : decode cX3_tell 294 = .ok (.ireturn, 1) := by decide +kernel
theorem dX3_tell_295 : decode cX3_tell 295 = .ok (.aload_n 0, 1) := by decide +kernel
theorem dX3_tell_296 : decode cX3_tell 296 = .ok (.invokevirtual 172, 3) := by decide +kernel
theorem dX3_tell_299 : decode cX3_tell 299 = .ok (.ireturn, 1) := by decide +kernel
theorem dX3_tell_300 : decode cX3_tell 300 = .ok (.aload_n 0, 1) := by decide +kernel
theorem dX3_tell_301 : decode cX3_tell 301 = .ok (.invokevirtual 175, 3) := by decide +kernel
theorem dX3_tell_304 : decode cX3_tell 304 = .ok (.ireturn, 1) := by decide +kernel
theorem dX3_tell_305 : decode cX3_tell 305 = .ok (.aload_n 0, 1) := by decide +kernel
theorem dX3_tell_306 : decode cX3_tell 306 = .ok (.invokevirtual 178, 3) := by decide +kernel
theorem dX3_tell_309 : decode cX3_tell 309 = .ok (.ireturn, 1) := by decide +kernel
theorem dX3_tell_310 : decode cX3_tell 310 = .ok (.aload_n 0, 1) := by decide +kernel
theorem dX3_tell_311 : decode cX3_tell 311 = .ok (.invokevirtual 181, 3) := by decide +kernel
theorem dX3_tell_314 : decode cX3_tell 314 = .ok (.ireturn, 1) := by decide +kernel
theorem dX3_tell_315 : decode cX3_tell 315 = .ok (.iconst 0, 1) := by decide +kernel
theorem dX3_tell_316 : decode cX3_tell 316 = .ok (.ireturn, 1) := by decide +kernel
theorem dX3_comeIn_0 : decode cX3_comeIn 0 = .ok (.aload_n 0, 1) := by decide +kernel
theorem dX3_comeIn_1 : decode cX3_comeIn 1 = .ok (.getfield 9, 3) := by decide +kernel
theorem dX3_comeIn_4 : decode cX3_comeIn 4 = .ok (.aload_n 0, 1) := by decide +kernel
theorem dX3_comeIn_5 : decode cX3_comeIn 5 = .ok (.getfield 108, 3) := by decide +kernel
theorem dX3_comeIn_8 : decode cX3_comeIn 8 = .ok (.iaload, 1) := by decide +kernel
theorem dX3_comeIn_9 : decode cX3_comeIn 9 = .ok (.ifCond .ne 33, 3) := by decide +kernel
theorem dX3_comeIn_12 : decode cX3_comeIn 12 = .ok (.aload_n 0, 1) := by decide +kernel
theorem dX3_comeIn_13 : decode cX3_comeIn 13 = .ok (.getfield 48, 3) := by decide +kernel
theorem dX3_comeIn_16 : decode cX3_comeIn 16 = .ok (.aload_n 0, 1) := by decide +kernel
theorem dX3_comeIn_17 : decode cX3_comeIn 17 = .ok (.getfield 108, 3) := by decide +kernel
theorem dX3_comeIn_20 : decode cX3_comeIn 20 = .ok (.iconst 2, 1) := by decide +kernel
theorem dX3_comeIn_21 : decode cX3_comeIn 21 = .ok (.invokevirtual 184, 3) := by decide +kernel
theorem dX3_comeIn_24 : decode cX3_comeIn 24 = .ok (.ifCond .ne 18, 3) := by decide +kernel
theorem dX3_comeIn_27 : decode cX3_comeIn 27 = .ok (.aload_n 0, 1) := by decide +kernel
theorem dX3_comeIn_28 : decode cX3_comeIn 28 = .ok (.getfield 48, 3) := by decide +kernel
theorem dX3_comeIn_31 : decode cX3_comeIn 31 = .ok (.aload_n 0, 1) := by decide +kernel
theorem dX3_comeIn_32 : decode cX3_comeIn 32 = .ok (.getfield 108, 3) := by decide +kernel
theorem dX3_comeIn_35 : decode cX3_comeIn 35 = .ok (.iconst 3, 1) := by decide +kernel
theorem dX3_comeIn_36 : decode cX3_comeIn 36 = .ok (.invokevirtual 184, 3) := by decide +kernel
theorem dX3_comeIn_39 : decode cX3_comeIn 39 = .ok (.ifCond .eq 5, 3) := by decide +kernel
theorem dX3_comeIn_42 : decode cX3_comeIn 42 = .ok (.iconst 0, 1) := by decide +kernel
theorem dX3_comeIn_43 : decode cX3_comeIn 43 = .ok (.ireturn, 1) := by decide +kernel
theorem dX3_comeIn_44 : decode cX3_comeIn 44 = .ok (.aload_n 0, 1) := by decide +kernel
theorem dX3_comeIn_45 : decode cX3_comeIn 45 = .ok (.aload_n 0, 1) := by decide +kernel
theorem dX3_comeIn_46 : decode cX3_comeIn 46 = .ok (.aload_n 0, 1) := by decide +kernel
theorem dX3_comeIn_47 : decode cX3_comeIn 47 = .ok (.getfield 108, 3) := by decide +kernel
theorem dX3_comeIn_50 : decode cX3_comeIn 50 = .ok (.invokevirtual 188, 3) := by decide +kernel
theorem dX3_comeIn_53 : decode cX3_comeIn 53 = .ok (.invokevirtual 191, 3) := by decide +kernel
theorem dX3_comeIn_56 : decode cX3_comeIn 56 = .ok (.ifCond .eq 28, 3) := by decide +kernel
theorem dX3_comeIn_59 : decode cX3_comeIn 59 = .ok (.aload_n 0, 1) := by decide +kernel
theorem dX3_comeIn_60 : decode cX3_comeIn 60 = .ok (.getfield 48, 3) := by decide +kernel
theorem dX3_comeIn_63 : decode cX3_comeIn 63 = .ok (.aload_n 0, 1) := by decide +kernel
theorem dX3_comeIn_64 : decode cX3_comeIn 64 = .ok (.getfield 120, 3) := by decide +kernel
theorem dX3_comeIn_67 : decode cX3_comeIn 67 = .ok (.invokevirtual 195, 3) := by decide +kernel
theorem dX3_comeIn_70 : decode cX3_comeIn 70 = .ok (.ifCond .eq 14, 3) := by decide +kernel
theorem dX3_comeIn_73 : decode cX3_comeIn 73 = .ok (.aload_n 0, 1) := by decide +kernel
theorem dX3_comeIn_74 : decode cX3_comeIn 74 = .ok (.aload_n 0, 1) := by decide +kernel
theorem dX3_comeIn_75 : decode cX3_comeIn 75 = .ok (.getfield 117, 3) := by decide +kernel
theorem dX3_comeIn_78 : decode cX3_comeIn 78 = .ok (.invokevirtual 198, 3) := by decide +kernel
theorem dX3_comeIn_81 : decode cX3_comeIn 81 = .ok (.ifCond .ne 5, 3) := by decide +kernel
theorem dX3_comeIn_84 : decode cX3_comeIn 84 = .ok (.iconst 0, 1) := by decide +kernel
theorem dX3_comeIn_85 : decode cX3_comeIn 85 = .ok (.ireturn, 1) := by decide +kernel
theorem dX3_comeIn_86 : decode cX3_comeIn 86 = .ok (.aload_n 0, 1) := by decide +kernel
theorem dX3_comeIn_87 : decode cX3_comeIn 87 = .ok (.aload_n 0, 1) := by decide +kernel
theorem dX3_comeIn_88 : decode cX3_comeIn 88 = .ok (.getfield 108, 3) := by decide +kernel
theorem dX3_comeIn_91 : decode cX3_comeIn 91 = .ok (.iconst 1, 1) := by decide +kernel
theorem dX3_comeIn_92 : decode cX3_comeIn 92 = .ok (.aload_n 0, 1) := by decide +kernel
theorem dX3_comeIn_93 : decode cX3_comeIn 93 = .ok (.getfield 117, 3) := by decide +kernel
theorem dX3_comeIn_96 : decode cX3_comeIn 96 = .ok (.invokevirtual 201, 3) := by decide +kernel
theorem dX3_comeIn_99 : decode cX3_comeIn 99 = .ok (.iconst 1, 1) := by decide +kernel
theorem dX3_comeIn_100 : decode cX3_comeIn 100 = .ok (.ireturn, 1) := by decide +kernel
theorem dX3_goOut_0 : decode cX3_goOut 0 = .ok (.aload_n 0, 1) := by decide +kernel
theorem dX3_goOut_1 : decode cX3_goOut 1 = .ok (.getfield 9, 3) := by decide +kernel
theorem dX3_goOut_4 : decode cX3_goOut 4 = .ok (.aload_n 0, 1) := by decide +kernel
theorem dX3_goOut_5 : decode cX3_goOut 5 = .ok (.getfield 108, 3) := by decide +kernel
theorem dX3_goOut_8 : decode cX3_goOut 8 = .ok (.iaload, 1) := by decide +kernel
theorem dX3_goOut_9 : decode cX3_goOut 9 = .ok (.iconst 1, 1) := by decide +kernel
theorem dX3_goOut_10 : decode cX3_goOut 10 = .ok (.if_icmp .ne 43, 3) := by decide +kernel
theorem dX3_goOut_13 : decode cX3_goOut 13 = .ok (.aload_n 0, 1) := by decide +kernel
theorem dX3_goOut_14 : decode cX3_goOut 14 = .ok (.aload_n 0, 1) := by decide +kernel
theorem dX3_goOut_15 : decode cX3_goOut 15 = .ok (.aload_n 0, 1) := by decide +kernel
theorem dX3_goOut_16 : decode cX3_goOut 16 = .ok (.getfield 108, 3) := by decide +kernel
theorem dX3_goOut_19 : decode cX3_goOut 19 = .ok (.invokevirtual 188, 3) := by decide +kernel
theorem dX3_goOut_22 : decode cX3_goOut 22 = .ok (.invokevirtual 191, 3) := by decide +kernel
theorem dX3_goOut_25 : decode cX3_goOut 25 = .ok (.ifCond .eq 28, 3) := by decide +kernel
theorem dX3_goOut_28 : decode cX3_goOut 28 = .ok (.aload_n 0, 1) := by decide +kernel
theorem dX3_goOut_29 : decode cX3_goOut 29 = .ok (.getfield 48, 3) := by decide +kernel
theorem dX3_goOut_32 : decode cX3_goOut 32 = .ok (.aload_n 0, 1) := by decide +kernel
theorem dX3_goOut_33 : decode cX3_goOut 33 = .ok (.getfield 117, 3) := by decide +kernel
theorem dX3_goOut_36 : decode cX3_goOut 36 = .ok (.invokevirtual 195, 3) := by decide +kernel
theorem dX3_goOut_39 : decode cX3_goOut 39 = .ok (.ifCond .eq 14, 3) := by decide +kernel
theorem dX3_goOut_42 : decode cX3_goOut 42 = .ok (.aload_n 0, 1) := by decide +kernel
theorem dX3_goOut_43 : decode cX3_goOut 43 = .ok (.aload_n 0, 1) := by decide +kernel
theorem dX3_goOut_44 : decode cX3_goOut 44 = .ok (.getfield 120, 3) := by decide +kernel
theorem dX3_goOut_47 : decode cX3_goOut 47 = .ok (.invokevirtual 205, 3) := by decide +kernel
theorem dX3_goOut_50 : decode cX3_goOut 50 = .ok (.ifCond .ne 5, 3) := by decide +kernel
theorem dX3_goOut_53 : decode cX3_goOut 53 = .ok (.iconst 0, 1) := by decide +kernel
theorem dX3_goOut_54 : decode cX3_goOut 54 = .ok (.ireturn, 1) := by decide +kernel
theorem dX3_goOut_55 : decode cX3_goOut 55 = .ok (.aload_n 0, 1) := by decide +kernel
theorem dX3_goOut_56 : decode cX3_goOut 56 = .ok (.aload_n 0, 1) := by decide +kernel
theorem dX3_goOut_57 : decode cX3_goOut 57 = .ok (.getfield 108, 3) := by decide +kernel
theorem dX3_goOut_60 : decode cX3_goOut 60 = .ok (.iconst 2, 1) := by decide +kernel
theorem dX3_goOut_61 : decode cX3_goOut 61 = .ok (.aload_n 0, 1) := by decide +kernel
theorem dX3_goOut_62 : decode cX3_goOut 62 = .ok (.getfield 117, 3) := by decide +kernel
theorem dX3_goOut_65 : decode cX3_goOut 65 = .ok (.invokevirtual 201, 3) := by decide +kernel
theorem dX3_goOut_68 : decode cX3_goOut 68 = .ok (.aload_n 0, 1) := by decide +kernel
theorem dX3_goOut_69 : decode cX3_goOut 69 = .ok (.getfield 24, 3) := by decide +kernel
theorem dX3_goOut_72 : decode cX3_goOut 72 = .ok (.aload_n 0, 1) := by decide +kernel
theorem dX3_goOut_73 : decode cX3_goOut 73 = .ok (.getfield 108, 3) := by decide +kernel
theorem dX3_goOut_76 : decode cX3_goOut 76 = .ok (.aload_n 0, 1) := by decide +kernel
theorem dX3_goOut_77 : decode cX3_goOut 77 = .ok (.getfield 120, 3) := by decide +kernel
theorem dX3_goOut_80 : decode cX3_goOut 80 = .ok (.iastore, 1) := by decide +kernel
theorem dX3_goOut_81 : decode cX3_goOut 81 = .ok (.iconst 1, 1) := by decide +kernel
theorem dX3_goOut_82 : decode cX3_goOut 82 = .ok (.ireturn, 1) := by decide +kernel
theorem dX3_goOn_0 : decode cX3_goOn 0 = .ok (.aload_n 0, 1) := by decide +kernel
theorem dX3_goOn_1 : decode cX3_goOn 1 = .ok (.aload_n 0, 1) := by decide +kernel
theorem dX3_goOn_2 : decode cX3_goOn 2 = .ok (.getfield 108, 3) := by decide +kernel
theorem dX3_goOn_5 : decode cX3_goOn 5 = .ok (.iconst 2, 1) := by decide +kernel
theorem dX3_goOn_6 : decode cX3_goOn 6 = .ok (.aload_n 0, 1) := by decide +kernel
theorem dX3_goOn_7 : decode cX3_goOn 7 = .ok (.getfield 117, 3) := by decide +kernel
theorem dX3_goOn_10 : decode cX3_goOn 10 = .ok (.invokevirtual 208, 3) := by decide +kernel
theorem dX3_goOn_13 : decode cX3_goOn 13 = .ok (.ifCond .eq 28, 3) := by decide +kernel
theorem dX3_goOn_16 : decode cX3_goOn 16 = .ok (.aload_n 0, 1) := by decide +kernel
theorem dX3_goOn_17 : decode cX3_goOn 17 = .ok (.getfield 48, 3) := by decide +kernel
theorem dX3_goOn_20 : decode cX3_goOn 20 = .ok (.aload_n 0, 1) := by decide +kernel
theorem dX3_goOn_21 : decode cX3_goOn 21 = .ok (.getfield 120, 3) := by decide +kernel
theorem dX3_goOn_24 : decode cX3_goOn 24 = .ok (.invokevirtual 195, 3) := by decide +kernel
theorem dX3_goOn_27 : decode cX3_goOn 27 = .ok (.ifCond .eq 14, 3) := by decide +kernel
theorem dX3_goOn_30 : decode cX3_goOn 30 = .ok (.aload_n 0, 1) := by decide +kernel
theorem dX3_goOn_31 : decode cX3_goOn 31 = .ok (.getfield 117, 3) := by decide +kernel
theorem dX3_goOn_34 : decode cX3_goOn 34 = .ok (.aload_n 0, 1) := by decide +kernel
theorem dX3_goOn_35 : decode cX3_goOn 35 = .ok (.getfield 120, 3) := by decide +kernel
theorem dX3_goOn_38 : decode cX3_goOn 38 = .ok (.if_icmp .ne 5, 3) := by decide +kernel
theorem dX3_goOn_41 : decode cX3_goOn 41 = .ok (.iconst 0, 1) := by decide +kernel
theorem dX3_goOn_42 : decode cX3_goOn 42 = .ok (.ireturn, 1) := by decide +kernel
theorem dX3_goOn_43 : decode cX3_goOn 43 = .ok (.aload_n 0, 1) := by decide +kernel
theorem dX3_goOn_44 : decode cX3_goOn 44 = .ok (.aload_n 0, 1) := by decide +kernel
theorem dX3_goOn_45 : decode cX3_goOn 45 = .ok (.getfield 108, 3) := by decide +kernel
theorem dX3_goOn_48 : decode cX3_goOn 48 = .ok (.iconst 2, 1) := by decide +kernel
theorem dX3_goOn_49 : decode cX3_goOn 49 = .ok (.aload_n 0, 1) := by decide +kernel
theorem dX3_goOn_50 : decode cX3_goOn 50 = .ok (.getfield 120, 3) := by decide +kernel
theorem dX3_goOn_53 : decode cX3_goOn 53 = .ok (.invokevirtual 201, 3) := by decide +kernel
theorem dX3_goOn_56 : decode cX3_goOn 56 = .ok (.iconst 1, 1) := by decide +kernel
theorem dX3_goOn_57 : decode cX3_goOn 57 = .ok (.ireturn, 1) := by decide +kernel
theorem dX3_comeBack_0 : decode cX3_comeBack 0 = .ok (.aload_n 0, 1) := by decide +kernel
theorem dX3_comeBack_1 : decode cX3_comeBack 1 = .ok (.aload_n 0, 1) := by decide +kernel
theorem dX3_comeBack_2 : decode cX3_comeBack 2 = .ok (.getfield 108, 3) := by decide +kernel
theorem dX3_comeBack_5 : decode cX3_comeBack 5 = .ok (.iconst 2, 1) := by decide +kernel
theorem dX3_comeBack_6 : decode cX3_comeBack 6 = .ok (.aload_n 0, 1) := by decide +kernel
theorem dX3_comeBack_7 : decode cX3_comeBack 7 = .ok (.getfield 120, 3) := by decide +kernel
theorem dX3_comeBack_10 : decode cX3_comeBack 10 = .ok (.invokevirtual 208, 3) := by decide +kernel
theorem dX3_comeBack_13 : decode cX3_comeBack 13 = .ok (.ifCond .eq 29, 3) := by decide +kernel
theorem dX3_comeBack_16 : decode cX3_comeBack 16 = .ok (.aload_n 0, 1) := by decide +kernel
theorem dX3_comeBack_17 : decode cX3_comeBack 17 = .ok (.aload_n 0, 1) := by decide +kernel
theorem dX3_comeBack_18 : decode cX3_comeBack 18 = .ok (.aload_n 0, 1) := by decide +kernel
theorem dX3_comeBack_19 : decode cX3_comeBack 19 = .ok (.getfield 108, 3) := by decide +kernel
theorem dX3_comeBack_22 : decode cX3_comeBack 22 = .ok (.invokevirtual 188, 3) := by decide +kernel
theorem dX3_comeBack_25 : decode cX3_comeBack 25 = .ok (.invokevirtual 191, 3) := by decide +kernel
theorem dX3_comeBack_28 : decode cX3_comeBack 28 = .ok (.ifCond .eq 14, 3) := by decide +kernel
theorem dX3_comeBack_31 : decode cX3_comeBack 31 = .ok (.aload_n 0, 1) := by decide +kernel
theorem dX3_comeBack_32 : decode cX3_comeBack 32 = .ok (.aload_n 0, 1) := by decide +kernel
theorem dX3_comeBack_33 : decode cX3_comeBack 33 = .ok (.getfield 117, 3) := by decide +kernel
theorem dX3_comeBack_36 : decode cX3_comeBack 36 = .ok (.invokevirtual 198, 3) := by decide +kernel
theorem dX3_comeBack_39 : decode cX3_comeBack 39 = .ok (.ifCond .ne 5, 3) := by decide +kernel
theorem dX3_comeBack_42 : decode cX3_comeBack 42 = .ok (.iconst 0, 1) := by decide +kernel
theorem dX3_comeBack_43 : decode cX3_comeBack 43 = .ok (.ireturn, 1) := by decide +kernel
theorem dX3_comeBack_44 : decode cX3_comeBack 44 = .ok (.aload_n 0, 1) := by decide +kernel
theorem dX3_comeBack_45 : decode cX3_comeBack 45 = .ok (.aload_n 0, 1) := by decide +kernel
theorem dX3_comeBack_46 : decode cX3_comeBack 46 = .ok (.getfield 108, 3) := by decide +kernel
theorem dX3_comeBack_49 : decode cX3_comeBack 49 = .ok (.iconst 1, 1) := by decide +kernel
theorem dX3_comeBack_50 : decode cX3_comeBack 50 = .ok (.aload_n 0, 1) := by decide +kernel
theorem dX3_comeBack_51 : decode cX3_comeBack 51 = .ok (.getfield 117, 3) := by decide +kernel
theorem dX3_comeBack_54 : decode cX3_comeBack 54 = .ok (.invokevirtual 201, 3) := by decide +kernel
theorem dX3_comeBack_57 : decode cX3_comeBack 57 = .ok (.aload_n 0, 1) := by decide +kernel
theorem dX3_comeBack_58 : decode cX3_comeBack 58 = .ok (.getfield 24, 3) := by decide +kernel
theorem dX3_comeBack_61 : decode cX3_comeBack 61 = .ok (.aload_n 0, 1) := by decide +kernel
theorem dX3_comeBack_62 : decode cX3_comeBack 62 = .ok (.getfield 108, 3) := by decide +kernel
theorem dX3_comeBack_65 : decode cX3_comeBack 65 = .ok (.iconst (-1), 1) := by decide +kernel
theorem dX3_comeBack_66 : decode cX3_comeBack 66 = .ok (.iastore, 1) := by decide +kernel
theorem dX3_comeBack_67 : decode cX3_comeBack 67 = .ok (.iconst 1, 1) := by decide +kernel
theorem dX3_comeBack_68 : decode cX3_comeBack 68 = .ok (.ireturn, 1) := by decide +kernel
theorem dX3_putElsewhere_0 : decode cX3_putElsewhere 0 = .ok (.aload_n 0, 1) := by decide +kernel
theorem dX3_putElsewhere_1 : decode cX3_putElsewhere 1 = .ok (.getfield 9, 3) := by decide +kernel
theorem dX3_putElsewhere_4 : decode cX3_putElsewhere 4 = .ok (.aload_n 0, 1) := by decide +kernel
theorem dX3_putElsewhere_5 : decode cX3_putElsewhere 5 = .ok (.getfield 108, 3) := by decide +kernel
theorem dX3_putElsewhere_8 : decode cX3_putElsewhere 8 = .ok (.iaload, 1) := by decide +kernel
theorem dX3_putElsewhere_9 : decode cX3_putElsewhere 9 = .ok (.iconst 1, 1) := by decide +kernel
theorem dX3_putElsewhere_10 : decode cX3_putElsewhere 10 = .ok (.if_icmp .ne 29, 3) := by decide +kernel
theorem dX3_putElsewhere_13 : decode cX3_putElsewhere 13 = .ok (.aload_n 0, 1) := by decide +kernel
theorem dX3_putElsewhere_14 : decode cX3_putElsewhere 14 = .ok (.aload_n 0, 1) := by decide +kernel
theorem dX3_putElsewhere_15 : decode cX3_putElsewhere 15 = .ok (.aload_n 0, 1) := by decide +kernel
theorem dX3_putElsewhere_16 : decode cX3_putElsewhere 16 = .ok (.getfield 108, 3) := by decide +kernel
theorem dX3_putElsewhere_19 : decode cX3_putElsewhere 19 = .ok (.invokevirtual 188, 3) := by decide +kernel
theorem dX3_putElsewhere_22 : decode cX3_putElsewhere 22 = .ok (.invokevirtual 191, 3) := by decide +kernel
theorem dX3_putElsewhere_25 : decode cX3_putElsewhere 25 = .ok (.ifCond .eq 14, 3) := by decide +kernel
theorem dX3_putElsewhere_28 : decode cX3_putElsewhere 28 = .ok (.aload_n 0, 1) := by decide +kernel
theorem dX3_putElsewhere_29 : decode cX3_putElsewhere 29 = .ok (.aload_n 0, 1) := by decide +kernel
theorem dX3_putElsewhere_30 : decode cX3_putElsewhere 30 = .ok (.getfield 117, 3) := by decide +kernel
theorem dX3_putElsewhere_33 : decode cX3_putElsewhere 33 = .ok (.invokevirtual 198, 3) := by decide +kernel
theorem dX3_putElsewhere_36 : decode cX3_putElsewhere 36 = .ok (.ifCond .ne 5, 3) := by decide +kernel
theorem dX3_putElsewhere_39 : decode cX3_putElsewhere 39 = .ok (.iconst 0, 1) := by decide +kernel
theorem dX3_putElsewhere_40 : decode cX3_putElsewhere 40 = .ok (.ireturn, 1) := by decide +kernel
theorem dX3_putElsewhere_41 : decode cX3_putElsewhere 41 = .ok (.aload_n 0, 1) := by decide +kernel
theorem dX3_putElsewhere_42 : decode cX3_putElsewhere 42 = .ok (.aload_n 0, 1) := by decide +kernel
theorem dX3_putElsewhere_43 : decode cX3_putElsewhere 43 = .ok (.getfield 108, 3) := by decide +kernel
theorem dX3_putElsewhere_46 : decode cX3_putElsewhere 46 = .ok (.iconst 1, 1) := by decide +kernel
theorem dX3_putElsewhere_47 : decode cX3_putElsewhere 47 = .ok (.aload_n 0, 1) := by decide +kernel
theorem dX3_putElsewhere_48 : decode cX3_putElsewhere 48 = .ok (.getfield 117, 3) := by decide +kernel
theorem dX3_putElsewhere_51 : decode cX3_putElsewhere 51 = .ok (.invokevirtual 201, 3) := by decide +kernel
theorem dX3_putElsewhere_54 : decode cX3_putElsewhere 54 = .ok (.iconst 1, 1) := by decide +kernel
theorem dX3_putElsewhere_55 : decode cX3_putElsewhere 55 = .ok (.ireturn, 1) := by decide +kernel
theorem dX3_goInto_0 : decode cX3_goInto 0 = .ok (.aload_n 0, 1) := by decide +kernel
theorem dX3_goInto_1 : decode cX3_goInto 1 = .ok (.getfield 48, 3) := by decide +kernel
theorem dX3_goInto_4 : decode cX3_goInto 4 = .ok (.aload_n 0, 1) := by decide +kernel
theorem dX3_goInto_5 : decode cX3_goInto 5 = .ok (.getfield 117, 3) := by decide +kernel
theorem dX3_goInto_8 : decode cX3_goInto 8 = .ok (.invokevirtual 212, 3) := by decide +kernel
theorem dX3_goInto_11 : decode cX3_goInto 11 = .ok (.ifCond .eq 38, 3) := by decide +kernel
theorem dX3_goInto_14 : decode cX3_goInto 14 = .ok (.aload_n 0, 1) := by decide +kernel
theorem dX3_goInto_15 : decode cX3_goInto 15 = .ok (.aload_n 0, 1) := by decide +kernel
theorem dX3_goInto_16 : decode cX3_goInto 16 = .ok (.getfield 117, 3) := by decide +kernel
theorem dX3_goInto_19 : decode cX3_goInto 19 = .ok (.invokevirtual 90, 3) := by decide +kernel
theorem dX3_goInto_22 : decode cX3_goInto 22 = .ok (.ifCond .eq 27, 3) := by decide +kernel
theorem dX3_goInto_25 : decode cX3_goInto 25 = .ok (.aload_n 0, 1) := by decide +kernel
theorem dX3_goInto_26 : decode cX3_goInto 26 = .ok (.getfield 117, 3) := by decide +kernel
theorem dX3_goInto_29 : decode cX3_goInto 29 = .ok (.aload_n 0, 1) := by decide +kernel
theorem dX3_goInto_30 : decode cX3_goInto 30 = .ok (.getfield 108, 3) := by decide +kernel
theorem dX3_goInto_33 : decode cX3_goInto 33 = .ok (.if_icmp .eq 16, 3) := by decide +kernel
theorem dX3_goInto_36 : decode cX3_goInto 36 = .ok (.aload_n 0, 1) := by decide +kernel
theorem dX3_goInto_37 : decode cX3_goInto 37 = .ok (.getfield 21, 3) := by decide +kernel
theorem dX3_goInto_40 : decode cX3_goInto 40 = .ok (.aload_n 0, 1) := by decide +kernel
theorem dX3_goInto_41 : decode cX3_goInto 41 = .ok (.getfield 117, 3) := by decide +kernel
theorem dX3_goInto_44 : decode cX3_goInto 44 = .ok (.iaload, 1) := by decide +kernel
theorem dX3_goInto_45 : decode cX3_goInto 45 = .ok (.iconst (-1), 1) := by decide +kernel
theorem dX3_goInto_46 : decode cX3_goInto 46 = .ok (.if_icmp .eq 5, 3) := by decide +kernel
theorem dX3_goInto_49 : decode cX3_goInto 49 = .ok (.iconst 0, 1) := by decide +kernel
theorem dX3_goInto_50 : decode cX3_goInto 50 = .ok (.ireturn, 1) := by decide +kernel
theorem dX3_goInto_51 : decode cX3_goInto 51 = .ok (.aload_n 0, 1) := by decide +kernel
theorem dX3_goInto_52 : decode cX3_goInto 52 = .ok (.getfield 9, 3) := by decide +kernel
theorem dX3_goInto_55 : decode cX3_goInto 55 = .ok (.aload_n 0, 1) := by decide +kernel
theorem dX3_goInto_56 : decode cX3_goInto 56 = .ok (.getfield 108, 3) := by decide +kernel
theorem dX3_goInto_59 : decode cX3_goInto 59 = .ok (.iaload, 1) := by decide +kernel
theorem dX3_goInto_60 : decode cX3_goInto 60 = .ok (.iconst 1, 1) := by decide +kernel
theorem dX3_goInto_61 : decode cX3_goInto 61 = .ok (.if_icmp .ne 16, 3) := by decide +kernel
theorem dX3_goInto_64 : decode cX3_goInto 64 = .ok (.aload_n 0, 1) := by decide +kernel
theorem dX3_goInto_65 : decode cX3_goInto 65 = .ok (.getfield 9, 3) := by decide +kernel
theorem dX3_goInto_68 : decode cX3_goInto 68 = .ok (.aload_n 0, 1) := by decide +kernel
theorem dX3_goInto_69 : decode cX3_goInto 69 = .ok (.getfield 117, 3) := by decide +kernel
theorem dX3_goInto_72 : decode cX3_goInto 72 = .ok (.iaload, 1) := by decide +kernel
theorem dX3_goInto_73 : decode cX3_goInto 73 = .ok (.iconst 1, 1) := by decide +kernel
theorem dX3_goInto_74 : decode cX3_goInto 74 = .ok (.if_icmp .eq 37, 3) := by decide +kernel
theorem dX3_goInto_77 : decode cX3_goInto 77 = .ok (.aload_n 0, 1) := by decide +kernel
theorem dX3_goInto_78 : decode cX3_goInto 78 = .ok (.getfield 9, 3) := by decide +kernel
theorem dX3_goInto_81 : decode cX3_goInto 81 = .ok (.aload_n 0, 1) := by decide +kernel
theorem dX3_goInto_82 : decode cX3_goInto 82 = .ok (.getfield 117, 3) := by decide +kernel
theorem dX3_goInto_85 : decode cX3_goInto 85 = .ok (.iaload, 1) := by decide +kernel
theorem dX3_goInto_86 : decode cX3_goInto 86 = .ok (.iconst 2, 1) := by decide +kernel
theorem dX3_goInto_87 : decode cX3_goInto 87 = .ok (.if_icmp .ne 28, 3) := by decide +kernel
theorem dX3_goInto_90 : decode cX3_goInto 90 = .ok (.aload_n 0, 1) := by decide +kernel
theorem dX3_goInto_91 : decode cX3_goInto 91 = .ok (.aload_n 0, 1) := by decide +kernel
theorem dX3_goInto_92 : decode cX3_goInto 92 = .ok (.getfield 108, 3) := by decide +kernel
theorem dX3_goInto_95 : decode cX3_goInto 95 = .ok (.iconst 2, 1) := by decide +kernel
theorem dX3_goInto_96 : decode cX3_goInto 96 = .ok (.aload_n 0, 1) := by decide +kernel
theorem dX3_goInto_97 : decode cX3_goInto 97 = .ok (.getfield 15, 3) := by decide +kernel
theorem dX3_goInto_100 : decode cX3_goInto 100 = .ok (.aload_n 0, 1) := by decide +kernel
theorem dX3_goInto_101 : decode cX3_goInto 101 = .ok (.getfield 117, 3) := by decide +kernel
theorem dX3_goInto_104 : decode cX3_goInto 104 = .ok (.iaload, 1) := by decide +kernel
theorem dX3_goInto_105 : decode cX3_goInto 105 = .ok (.invokevirtual 208, 3) := by decide +kernel
theorem dX3_goInto_108 : decode cX3_goInto 108 = .ok (.ifCond .eq 7, 3) := by decide +kernel
theorem dX3_goInto_111 : decode cX3_goInto 111 = .ok (.iconst 1, 1) := by decide +kernel
theorem dX3_goInto_112 : decode cX3_goInto 112 = .ok (.goto 4, 3) := by decide +kernel
theorem dX3_goInto_115 : decode cX3_goInto 115 = .ok (.iconst 0, 1) := by decide +kernel
theorem dX3_goInto_116 : decode cX3_goInto 116 = .ok (.istore_n 1, 1) := by decide +kernel
theorem dX3_goInto_117 : decode cX3_goInto 117 = .ok (.iload_n 1, 1) := by decide +kernel
theorem dX3_goInto_118 : decode cX3_goInto 118 = .ok (.ifCond .eq 37, 3) := by decide +kernel
theorem dX3_goInto_121 : decode cX3_goInto 121 = .ok (.aload_n 0, 1) := by decide +kernel
theorem dX3_goInto_122 : decode cX3_goInto 122 = .ok (.aload_n 0, 1) := by decide +kernel
theorem dX3_goInto_123 : decode cX3_goInto 123 = .ok (.aload_n 0, 1) := by decide +kernel
theorem dX3_goInto_124 : decode cX3_goInto 124 = .ok (.getfield 108, 3) := by decide +kernel
theorem dX3_goInto_127 : decode cX3_goInto 127 = .ok (.invokevirtual 188, 3) := by decide +kernel
theorem dX3_goInto_130 : decode cX3_goInto 130 = .ok (.ifCond .ne 14, 3) := by decide +kernel
theorem dX3_goInto_133 : decode cX3_goInto 133 = .ok (.aload_n 0, 1) := by decide +kernel
theorem dX3_goInto_134 : decode cX3_goInto 134 = .ok (.aload_n 0, 1) := by decide +kernel
theorem dX3_goInto_135 : decode cX3_goInto 135 = .ok (.getfield 117, 3) := by decide +kernel
theorem dX3_goInto_138 : decode cX3_goInto 138 = .ok (.invokevirtual 188, 3) := by decide +kernel
theorem dX3_goInto_141 : decode cX3_goInto 141 = .ok (.ifCond .eq 7, 3) := by decide +kernel
theorem dX3_goInto_144 : decode cX3_goInto 144 = .ok (.iconst 1, 1) := by decide +kernel
theorem dX3_goInto_145 : decode cX3_goInto 145 = .ok (.goto 4, 3) := by decide +kernel
theorem dX3_goInto_148 : decode cX3_goInto 148 = .ok (.iconst 0, 1) := by decide +kernel
theorem dX3_goInto_149 : decode cX3_goInto 149 = .ok (.invokevirtual 191, 3) := by decide +kernel
theorem dX3_goInto_152 : decode cX3_goInto 152 = .ok (.ifCond .ne 5, 3) := by decide +kernel
theorem dX3_goInto_155 : decode cX3_goInto 155 = .ok (.iconst 0, 1) := by decide +kernel
theorem dX3_goInto_156 : decode cX3_goInto 156 = .ok (.ireturn, 1) := by decide +kernel
theorem dX3_goInto_157 : decode cX3_goInto 157 = .ok (.aload_n 0, 1) := by decide +kernel
theorem dX3_goInto_158 : decode cX3_goInto 158 = .ok (.getfield 36, 3) := by decide +kernel
theorem dX3_goInto_161 : decode cX3_goInto 161 = .ok (.aload_n 0, 1) := by decide +kernel
theorem dX3_goInto_162 : decode cX3_goInto 162 = .ok (.getfield 117, 3) := by decide +kernel
theorem dX3_goInto_165 : decode cX3_goInto 165 = .ok (.iaload, 1) := by decide +kernel
theorem dX3_goInto_166 : decode cX3_goInto 166 = .ok (.bipush 8, 2) := by decide +kernel
theorem dX3_goInto_168 : decode cX3_goInto 168 = .ok (.if_icmp .ge 17, 3) := by decide +kernel
theorem dX3_goInto_171 : decode cX3_goInto 171 = .ok (.aload_n 0, 1) := by decide +kernel
theorem dX3_goInto_172 : decode cX3_goInto 172 = .ok (.aload_n 0, 1) := by decide +kernel
theorem dX3_goInto_173 : decode cX3_goInto 173 = .ok (.getfield 108, 3) := by decide +kernel
theorem dX3_goInto_176 : decode cX3_goInto 176 = .ok (.invokevirtual 215, 3) := by decide +kernel
theorem dX3_goInto_179 : decode cX3_goInto 179 = .ok (.iconst 1, 1) := by decide +kernel
theorem dX3_goInto_180 : decode cX3_goInto 180 = .ok (.iadd, 1) := by decide +kernel
theorem dX3_goInto_181 : decode cX3_goInto 181 = .ok (.iconst 4, 1) := by decide +kernel
theorem dX3_goInto_182 : decode cX3_goInto 182 = .ok (.if_icmp .le 5, 3) := by decide +kernel
theorem dX3_goInto_185 : decode cX3_goInto 185 = .ok (.iconst 0, 1) := by decide +kernel
theorem dX3_goInto_186 : decode cX3_goInto 186 = .ok (.ireturn, 1) := by decide +kernel
theorem dX3_goInto_187 : decode cX3_goInto 187 = .ok (.aload_n 0, 1) := by decide +kernel
theorem dX3_goInto_188 : decode cX3_goInto 188 = .ok (.aload_n 0, 1) := by decide +kernel
theorem dX3_goInto_189 : decode cX3_goInto 189 = .ok (.getfield 108, 3) := by decide +kernel
theorem dX3_goInto_192 : decode cX3_goInto 192 = .ok (.iconst 3, 1) := by decide +kernel
theorem dX3_goInto_193 : decode cX3_goInto 193 = .ok (.aload_n 0, 1) := by decide +kernel
theorem dX3_goInto_194 : decode cX3_goInto 194 = .ok (.getfield 117, 3) := by decide +kernel
theorem dX3_goInto_197 : decode cX3_goInto 197 = .ok (.invokevirtual 201, 3) := by decide +kernel
theorem dX3_goInto_200 : decode cX3_goInto 200 = .ok (.iconst 1, 1) := by decide +kernel
theorem dX3_goInto_201 : decode cX3_goInto 201 = .ok (.ireturn, 1) := by decide +kernel
theorem dX3_comeFrom_0 : decode cX3_comeFrom 0 = .ok (.aload_n 0, 1) := by decide +kernel
theorem dX3_comeFrom_1 : decode cX3_comeFrom 1 = .ok (.aload_n 0, 1) := by decide +kernel
theorem dX3_comeFrom_2 : decode cX3_comeFrom 2 = .ok (.getfield 108, 3) := by decide +kernel
theorem dX3_comeFrom_5 : decode cX3_comeFrom 5 = .ok (.invokevirtual 218, 3) := by decide +kernel
theorem dX3_comeFrom_8 : decode cX3_comeFrom 8 = .ok (.istore_n 1, 1) := by decide +kernel
theorem dX3_comeFrom_9 : decode cX3_comeFrom 9 = .ok (.aload_n 0, 1) := by decide +kernel
theorem dX3_comeFrom_10 : decode cX3_comeFrom 10 = .ok (.getfield 48, 3) := by decide +kernel
theorem dX3_comeFrom_13 : decode cX3_comeFrom 13 = .ok (.iload_n 1, 1) := by decide +kernel
theorem dX3_comeFrom_14 : decode cX3_comeFrom 14 = .ok (.invokevirtual 73, 3) := by decide +kernel
theorem dX3_comeFrom_17 : decode cX3_comeFrom 17 = .ok (.ifCond .eq 44, 3) := by decide +kernel
theorem dX3_comeFrom_20 : decode cX3_comeFrom 20 = .ok (.aload_n 0, 1) := by decide +kernel
theorem dX3_comeFrom_21 : decode cX3_comeFrom 21 = .ok (.getfield 21, 3) := by decide +kernel
theorem dX3_comeFrom_24 : decode cX3_comeFrom 24 = .ok (.iload_n 1, 1) := by decide +kernel
theorem dX3_comeFrom_25 : decode cX3_comeFrom 25 = .ok (.iaload, 1) := by decide +kernel
theorem dX3_comeFrom_26 : decode cX3_comeFrom 26 = .ok (.iconst (-1), 1) := by decide +kernel
theorem dX3_comeFrom_27 : decode cX3_comeFrom 27 = .ok (.if_icmp .ne 34, 3) := by decide +kernel
theorem dX3_comeFrom_30 : decode cX3_comeFrom 30 = .ok (.aload_n 0, 1) := by decide +kernel
theorem dX3_comeFrom_31 : decode cX3_comeFrom 31 = .ok (.aload_n 0, 1) := by decide +kernel
theorem dX3_comeFrom_32 : decode cX3_comeFrom 32 = .ok (.aload_n 0, 1) := by decide +kernel
theorem dX3_comeFrom_33 : decode cX3_comeFrom 33 = .ok (.getfield 108, 3) := by decide +kernel
theorem dX3_comeFrom_36 : decode cX3_comeFrom 36 = .ok (.invokevirtual 188, 3) := by decide +kernel
theorem dX3_comeFrom_39 : decode cX3_comeFrom 39 = .ok (.ifCond .ne 11, 3) := by decide +kernel
theorem dX3_comeFrom_42 : decode cX3_comeFrom 42 = .ok (.aload_n 0, 1) := by decide +kernel
theorem dX3_comeFrom_43 : decode cX3_comeFrom 43 = .ok (.iload_n 1, 1) := by decide +kernel
theorem dX3_comeFrom_44 : decode cX3_comeFrom 44 = .ok (.invokevirtual 188, 3) := by decide +kernel
theorem dX3_comeFrom_47 : decode cX3_comeFrom 47 = .ok (.ifCond .eq 7, 3) := by decide +kernel
theorem dX3_comeFrom_50 : decode cX3_comeFrom 50 = .ok (.iconst 1, 1) := by decide +kernel
theorem dX3_comeFrom_51 : decode cX3_comeFrom 51 = .ok (.goto 4, 3) := by decide +kernel
theorem dX3_comeFrom_54 : decode cX3_comeFrom 54 = .ok (.iconst 0, 1) := by decide +kernel
theorem dX3_comeFrom_55 : decode cX3_comeFrom 55 = .ok (.invokevirtual 191, 3) := by decide +kernel
theorem dX3_comeFrom_58 : decode cX3_comeFrom 58 = .ok (.ifCond .ne 5, 3) := by decide +kernel
theorem dX3_comeFrom_61 : decode cX3_comeFrom 61 = .ok (.iconst 0, 1) := by decide +kernel
theorem dX3_comeFrom_62 : decode cX3_comeFrom 62 = .ok (.ireturn, 1) := by decide +kernel
theorem dX3_comeFrom_63 : decode cX3_comeFrom 63 = .ok (.aload_n 0, 1) := by decide +kernel
theorem dX3_comeFrom_64 : decode cX3_comeFrom 64 = .ok (.getfield 9, 3) := by decide +kernel
theorem dX3_comeFrom_67 : decode cX3_comeFrom 67 = .ok (.iload_n 1, 1) := by decide +kernel
theorem dX3_comeFrom_68 : decode cX3_comeFrom 68 = .ok (.iaload, 1) := by decide +kernel
theorem dX3_comeFrom_69 : decode cX3_comeFrom 69 = .ok (.iconst 2, 1) := by decide +kernel
theorem dX3_comeFrom_70 : decode cX3_comeFrom 70 = .ok (.if_icmp .ne 20, 3) := by decide +kernel
theorem dX3_comeFrom_73 : decode cX3_comeFrom 73 = .ok (.aload_n 0, 1) := by decide +kernel
theorem dX3_comeFrom_74 : decode cX3_comeFrom 74 = .ok (.aload_n 0, 1) := by decide +kernel
theorem dX3_comeFrom_75 : decode cX3_comeFrom 75 = .ok (.getfield 108, 3) := by decide +kernel
theorem dX3_comeFrom_78 : decode cX3_comeFrom 78 = .ok (.iconst 2, 1) := by decide +kernel
theorem dX3_comeFrom_79 : decode cX3_comeFrom 79 = .ok (.aload_n 0, 1) := by decide +kernel
theorem dX3_comeFrom_80 : decode cX3_comeFrom 80 = .ok (.getfield 15, 3) := by decide +kernel
theorem dX3_comeFrom_83 : decode cX3_comeFrom 83 = .ok (.iload_n 1, 1) := by decide +kernel
theorem dX3_comeFrom_84 : decode cX3_comeFrom 84 = .ok (.iaload, 1) := by decide +kernel
theorem dX3_comeFrom_85 : decode cX3_comeFrom 85 = .ok (.invokevirtual 201, 3) := by decide +kernel
theorem dX3_comeFrom_88 : decode cX3_comeFrom 88 = .ok (.iconst 1, 1) := by decide +kernel
theorem dX3_comeFrom_89 : decode cX3_comeFrom 89 = .ok (.ireturn, 1) := by decide +kernel
theorem dX3_comeFrom_90 : decode cX3_comeFrom 90 = .ok (.aload_n 0, 1) := by decide +kernel
theorem dX3_comeFrom_91 : decode cX3_comeFrom 91 = .ok (.getfield 9, 3) := by decide +kernel
theorem dX3_comeFrom_94 : decode cX3_comeFrom 94 = .ok (.iload_n 1, 1) := by decide +kernel
theorem dX3_comeFrom_95 : decode cX3_comeFrom 95 = .ok (.iaload, 1) := by decide +kernel
theorem dX3_comeFrom_96 : decode cX3_comeFrom 96 = .ok (.iconst 1, 1) := by decide +kernel
theorem dX3_comeFrom_97 : decode cX3_comeFrom 97 = .ok (.if_icmp .ne 14, 3) := by decide +kernel
theorem dX3_comeFrom_100 : decode cX3_comeFrom 100 = .ok (.aload_n 0, 1) := by decide +kernel
theorem dX3_comeFrom_101 : decode cX3_comeFrom 101 = .ok (.aload_n 0, 1) := by decide +kernel
theorem dX3_comeFrom_102 : decode cX3_comeFrom 102 = .ok (.getfield 117, 3) := by decide +kernel
theorem dX3_comeFrom_105 : decode cX3_comeFrom 105 = .ok (.invokevirtual 198, 3) := by decide +kernel
theorem dX3_comeFrom_108 : decode cX3_comeFrom 108 = .ok (.ifCond .ne 5, 3) := by decide +kernel
theorem dX3_comeFrom_111 : decode cX3_comeFrom 111 = .ok (.iconst 0, 1) := by decide +kernel
theorem dX3_comeFrom_112 : decode cX3_comeFrom 112 = .ok (.ireturn, 1) := by decide +kernel
theorem dX3_comeFrom_113 : decode cX3_comeFrom 113 = .ok (.aload_n 0, 1) := by decide +kernel
theorem dX3_comeFrom_114 : decode cX3_comeFrom 114 = .ok (.aload_n 0, 1) := by decide +kernel
theorem dX3_comeFrom_115 : decode cX3_comeFrom 115 = .ok (.getfield 108, 3) := by decide +kernel
theorem dX3_comeFrom_118 : decode cX3_comeFrom 118 = .ok (.iconst 1, 1) := by decide +kernel
theorem dX3_comeFrom_119 : decode cX3_comeFrom 119 = .ok (.aload_n 0, 1) := by decide +kernel
theorem dX3_comeFrom_120 : decode cX3_comeFrom 120 = .ok (.getfield 117, 3) := by decide +kernel
theorem dX3_comeFrom_123 : decode cX3_comeFrom 123 = .ok (.invokevirtual 201, 3) := by decide +kernel
theorem dX3_comeFrom_126 : decode cX3_comeFrom 126 = .ok (.iconst 1, 1) := by decide +kernel
theorem dX3_comeFrom_127 : decode cX3_comeFrom 127 = .ok (.ireturn, 1) := by decide +kernel
theorem dX3_close_0 : decode cX3_close 0 = .ok (.aload_n 0, 1) := by decide +kernel
theorem dX3_close_1 : decode cX3_close 1 = .ok (.getfield 48, 3) := by decide +kernel
theorem dX3_close_4 : decode cX3_close 4 = .ok (.aload_n 0, 1) := by decide +kernel
theorem dX3_close_5 : decode cX3_close 5 = .ok (.getfield 108, 3) := by decide +kernel
theorem dX3_close_8 : decode cX3_close 8 = .ok (.invokevirtual 212, 3) := by decide +kernel
theorem dX3_close_11 : decode cX3_close 11 = .ok (.ifCond .eq 42, 3) := by decide +kernel
theorem dX3_close_14 : decode cX3_close 14 = .ok (.aload_n 0, 1) := by decide +kernel
theorem dX3_close_15 : decode cX3_close 15 = .ok (.getfield 21, 3) := by decide +kernel
theorem dX3_close_18 : decode cX3_close 18 = .ok (.aload_n 0, 1) := by decide +kernel
theorem dX3_close_19 : decode cX3_close 19 = .ok (.getfield 108, 3) := by decide +kernel
theorem dX3_close_22 : decode cX3_close 22 = .ok (.iaload, 1) := by decide +kernel
theorem dX3_close_23 : decode cX3_close 23 = .ok (.iconst (-1), 1) := by decide +kernel
theorem dX3_close_24 : decode cX3_close 24 = .ok (.if_icmp .ne 29, 3) := by decide +kernel
theorem dX3_close_27 : decode cX3_close 27 = .ok (.aload_n 0, 1) := by decide +kernel
theorem dX3_close_28 : decode cX3_close 28 = .ok (.getfield 48, 3) := by decide +kernel
theorem dX3_close_31 : decode cX3_close 31 = .ok (.aload_n 0, 1) := by decide +kernel
theorem dX3_close_32 : decode cX3_close 32 = .ok (.getfield 117, 3) := by decide +kernel
theorem dX3_close_35 : decode cX3_close 35 = .ok (.invokevirtual 221, 3) := by decide +kernel
theorem dX3_close_38 : decode cX3_close 38 = .ok (.ifCond .eq 15, 3) := by decide +kernel
theorem dX3_close_41 : decode cX3_close 41 = .ok (.aload_n 0, 1) := by decide +kernel
theorem dX3_close_42 : decode cX3_close 42 = .ok (.getfield 45, 3) := by decide +kernel
theorem dX3_close_45 : decode cX3_close 45 = .ok (.aload_n 0, 1) := by decide +kernel
theorem dX3_close_46 : decode cX3_close 46 = .ok (.getfield 117, 3) := by decide +kernel
theorem dX3_close_49 : decode cX3_close 49 = .ok (.iaload, 1) := by decide +kernel
theorem dX3_close_50 : decode cX3_close 50 = .ok (.ifCond .eq 5, 3) := by decide +kernel
theorem dX3_close_53 : decode cX3_close 53 = .ok (.iconst 0, 1) := by decide +kernel
theorem dX3_close_54 : decode cX3_close 54 = .ok (.ireturn, 1) := by decide +kernel
theorem dX3_close_55 : decode cX3_close 55 = .ok (.aload_n 0, 1) := by decide +kernel
theorem dX3_close_56 : decode cX3_close 56 = .ok (.aload_n 0, 1) := by decide +kernel
theorem dX3_close_57 : decode cX3_close 57 = .ok (.getfield 108, 3) := by decide +kernel
theorem dX3_close_60 : decode cX3_close 60 = .ok (.invokevirtual 188, 3) := by decide +kernel
theorem dX3_close_63 : decode cX3_close 63 = .ok (.ifCond .eq 13, 3) := by decide +kernel
theorem dX3_close_66 : decode cX3_close 66 = .ok (.aload_n 0, 1) := by decide +kernel
theorem dX3_close_67 : decode cX3_close 67 = .ok (.iconst 1, 1) := by decide +kernel
theorem dX3_close_68 : decode cX3_close 68 = .ok (.invokevirtual 191, 3) := by decide +kernel
theorem dX3_close_71 : decode cX3_close 71 = .ok (.ifCond .ne 5, 3) := by decide +kernel
theorem dX3_close_74 : decode cX3_close 74 = .ok (.iconst 0, 1) := by decide +kernel
theorem dX3_close_75 : decode cX3_close 75 = .ok (.ireturn, 1) := by decide +kernel
theorem dX3_close_76 : decode cX3_close 76 = .ok (.aload_n 0, 1) := by decide +kernel
theorem dX3_close_77 : decode cX3_close 77 = .ok (.getfield 21, 3) := by decide +kernel
theorem dX3_close_80 : decode cX3_close 80 = .ok (.aload_n 0, 1) := by decide +kernel
theorem dX3_close_81 : decode cX3_close 81 = .ok (.getfield 108, 3) := by decide +kernel
theorem dX3_close_84 : decode cX3_close 84 = .ok (.aload_n 0, 1) := by decide +kernel
theorem dX3_close_85 : decode cX3_close 85 = .ok (.getfield 117, 3) := by decide +kernel
theorem dX3_close_88 : decode cX3_close 88 = .ok (.iastore, 1) := by decide +kernel
theorem dX3_close_89 : decode cX3_close 89 = .ok (.aload_n 0, 1) := by decide +kernel
theorem dX3_close_90 : decode cX3_close 90 = .ok (.getfield 45, 3) := by decide +kernel
theorem dX3_close_93 : decode cX3_close 93 = .ok (.aload_n 0, 1) := by decide +kernel
theorem dX3_close_94 : decode cX3_close 94 = .ok (.getfield 117, 3) := by decide +kernel
theorem dX3_close_97 : decode cX3_close 97 = .ok (.iconst 1, 1) := by decide +kernel
theorem dX3_close_98 : decode cX3_close 98 = .ok (.iastore, 1) := by decide +kernel
theorem dX3_close_99 : decode cX3_close 99 = .ok (.iconst 1, 1) := by decide +kernel
theorem dX3_close_100 : decode cX3_close 100 = .ok (.ireturn, 1) := by decide +kernel
theorem dX3_unseal_0 : decode cX3_unseal 0 = .ok (.aload_n 0, 1) := by decide +kernel
theorem dX3_unseal_1 : decode cX3_unseal 1 = .ok (.getfield 48, 3) := by decide +kernel
theorem dX3_unseal_4 : decode cX3_unseal 4 = .ok (.aload_n 0, 1) := by decide +kernel
theorem dX3_unseal_5 : decode cX3_unseal 5 = .ok (.getfield 108, 3) := by decide +kernel
theorem dX3_unseal_8 : decode cX3_unseal 8 = .ok (.invokevirtual 212, 3) := by decide +kernel
theorem dX3_unseal_11 : decode cX3_unseal 11 = .ok (.ifCond .eq 33, 3) := by decide +kernel
theorem dX3_unseal_14 : decode cX3_unseal 14 = .ok (.aload_n 0, 1) := by decide +kernel
theorem dX3_unseal_15 : decode cX3_unseal 15 = .ok (.getfield 21, 3) := by decide +kernel
theorem dX3_unseal_18 : decode cX3_unseal 18 = .ok (.aload_n 0, 1) := by decide +kernel
theorem dX3_unseal_19 : decode cX3_unseal 19 = .ok (.getfield 108, 3) := by decide +kernel
theorem dX3_unseal_22 : decode cX3_unseal 22 = .ok (.iaload, 1) := by decide +kernel
theorem dX3_unseal_23 : decode cX3_unseal 23 = .ok (.iconst (-1), 1) := by decide +kernel
theorem dX3_unseal_24 : decode cX3_unseal 24 = .ok (.if_icmp .eq 20, 3) := by decide +kernel
theorem dX3_unseal_27 : decode cX3_unseal 27 = .ok (.aload_n 0, 1) := by decide +kernel
theorem dX3_unseal_28 : decode cX3_unseal 28 = .ok (.getfield 117, 3) := by decide +kernel
theorem dX3_unseal_31 : decode cX3_unseal 31 = .ok (.ifCond .lt 13, 3) := by decide +kernel
theorem dX3_unseal_34 : decode cX3_unseal 34 = .ok (.aload_n 0, 1) := by decide +kernel
theorem dX3_unseal_35 : decode cX3_unseal 35 = .ok (.getfield 117, 3) := by decide +kernel
theorem dX3_unseal_38 : decode cX3_unseal 38 = .ok (.sipush 999, 3) := by decide +kernel
theorem dX3_unseal_41 : decode cX3_unseal 41 = .ok (.if_icmp .le 5, 3) := by decide +kernel
theorem dX3_unseal_44 : decode cX3_unseal 44 = .ok (.iconst 0, 1) := by decide +kernel
theorem dX3_unseal_45 : decode cX3_unseal 45 = .ok (.ireturn, 1) := by decide +kernel
theorem dX3_unseal_46 : decode cX3_unseal 46 = .ok (.aload_n 0, 1) := by decide +kernel
theorem dX3_unseal_47 : decode cX3_unseal 47 = .ok (.aload_n 0, 1) := by decide +kernel
theorem dX3_unseal_48 : decode cX3_unseal 48 = .ok (.getfield 108, 3) := by decide +kernel
theorem dX3_unseal_51 : decode cX3_unseal 51 = .ok (.invokevirtual 188, 3) := by decide +kernel
theorem dX3_unseal_54 : decode cX3_unseal 54 = .ok (.ifCond .eq 13, 3) := by decide +kernel
theorem dX3_unseal_57 : decode cX3_unseal 57 = .ok (.aload_n 0, 1) := by decide +kernel
theorem dX3_unseal_58 : decode cX3_unseal 58 = .ok (.iconst 1, 1) := by decide +kernel
theorem dX3_unseal_59 : decode cX3_unseal 59 = .ok (.invokevirtual 191, 3) := by decide +kernel
theorem dX3_unseal_62 : decode cX3_unseal 62 = .ok (.ifCond .ne 5, 3) := by decide +kernel
theorem dX3_unseal_65 : decode cX3_unseal 65 = .ok (.iconst 0, 1) := by decide +kernel
theorem dX3_unseal_66 : decode cX3_unseal 66 = .ok (.ireturn, 1) := by decide +kernel
theorem dX3_unseal_67 : decode cX3_unseal 67 = .ok (.aload_n 0, 1) := by decide +kernel
theorem dX3_unseal_68 : decode cX3_unseal 68 = .ok (.getfield 21, 3) := by decide +kernel
theorem dX3_unseal_71 : decode cX3_unseal 71 = .ok (.aload_n 0, 1) := by decide +kernel
theorem dX3_unseal_72 : decode cX3_unseal 72 = .ok (.getfield 108, 3) := by decide +kernel
theorem dX3_unseal_75 : decode cX3_unseal 75 = .ok (.iconst (-1), 1) := by decide +kernel
theorem dX3_unseal_76 : decode cX3_unseal 76 = .ok (.iastore, 1) := by decide +kernel
theorem dX3_unseal_77 : decode cX3_unseal 77 = .ok (.iconst 1, 1) := by decide +kernel
theorem dX3_unseal_78 : decode cX3_unseal 78 = .ok (.ireturn, 1) := by decide +kernel
theorem dX3_look_0 : decode cX3_look 0 = .ok (.aload_n 0, 1) := by decide +kernel
theorem dX3_look_1 : decode cX3_look 1 = .ok (.getfield 48, 3) := by decide +kernel
theorem dX3_look_4 : decode cX3_look 4 = .ok (.aload_n 0, 1) := by decide +kernel
theorem dX3_look_5 : decode cX3_look 5 = .ok (.getfield 108, 3) := by decide +kernel
theorem dX3_look_8 : decode cX3_look 8 = .ok (.invokevirtual 212, 3) := by decide +kernel
theorem dX3_look_11 : decode cX3_look 11 = .ok (.ifCond .eq 25, 3) := by decide +kernel
theorem dX3_look_14 : decode cX3_look 14 = .ok (.aload_n 0, 1) := by decide +kernel
theorem dX3_look_15 : decode cX3_look 15 = .ok (.getfield 117, 3) := by decide +kernel
theorem dX3_look_18 : decode cX3_look 18 = .ok (.iconst (-1), 1) := by decide +kernel
theorem dX3_look_19 : decode cX3_look 19 = .ok (.if_icmp .lt 17, 3) := by decide +kernel
theorem dX3_look_22 : decode cX3_look 22 = .ok (.aload_n 0, 1) := by decide +kernel
theorem dX3_look_23 : decode cX3_look 23 = .ok (.getfield 117, 3) := by decide +kernel
theorem dX3_look_26 : decode cX3_look 26 = .ok (.sipush 999, 3) := by decide +kernel
theorem dX3_look_29 : decode cX3_look 29 = .ok (.if_icmp .gt 7, 3) := by decide +kernel
theorem dX3_look_32 : decode cX3_look 32 = .ok (.iconst 1, 1) := by decide +kernel
theorem dX3_look_33 : decode cX3_look 33 = .ok (.goto 4, 3) := by decide +kernel
theorem dX3_look_36 : decode cX3_look 36 = .ok (.iconst 0, 1) := by decide +kernel
theorem dX3_look_37 : decode cX3_look 37 = .ok (.ireturn, 1) := by decide +kernel
theorem dX3_takePart_0 : decode cX3_takePart 0 = .ok (.aload_n 0, 1) := by decide +kernel
theorem dX3_takePart_1 : decode cX3_takePart 1 = .ok (.iconst 2, 1) := by decide +kernel
theorem dX3_takePart_2 : decode cX3_takePart 2 = .ok (.invokevirtual 224, 3) := by decide +kernel
theorem dX3_takePart_5 : decode cX3_takePart 5 = .ok (.ifCond .eq 27, 3) := by decide +kernel
theorem dX3_takePart_8 : decode cX3_takePart 8 = .ok (.aload_n 0, 1) := by decide +kernel
theorem dX3_takePart_9 : decode cX3_takePart 9 = .ok (.getfield 120, 3) := by decide +kernel
theorem dX3_takePart_12 : decode cX3_takePart 12 = .ok (.iconst 1, 1) := by decide +kernel
theorem dX3_takePart_13 : decode cX3_takePart 13 = .ok (.if_icmp .lt 19, 3) := by decide +kernel
theorem dX3_takePart_16 : decode cX3_takePart 16 = .ok (.aload_n 0, 1) := by decide +kernel
theorem dX3_takePart_17 : decode cX3_takePart 17 = .ok (.getfield 120, 3) := by decide +kernel
theorem dX3_takePart_20 : decode cX3_takePart 20 = .ok (.aload_n 0, 1) := by decide +kernel
theorem dX3_takePart_21 : decode cX3_takePart 21 = .ok (.getfield 18, 3) := by decide +kernel
theorem dX3_takePart_24 : decode cX3_takePart 24 = .ok (.aload_n 0, 1) := by decide +kernel
theorem dX3_takePart_25 : decode cX3_takePart 25 = .ok (.getfield 108, 3) := by decide +kernel
theorem dX3_takePart_28 : decode cX3_takePart 28 = .ok (.iaload, 1) := by decide +kernel
theorem dX3_takePart_29 : decode cX3_takePart 29 = .ok (.if_icmp .le 5, 3) := by decide +kernel
theorem dX3_takePart_32 : decode cX3_takePart 32 = .ok (.iconst 0, 1) := by decide +kernel
theorem dX3_takePart_33 : decode cX3_takePart 33 = .ok (.ireturn, 1) := by decide +kernel
theorem dX3_takePart_34 : decode cX3_takePart 34 = .ok (.aload_n 0, 1) := by decide +kernel
theorem dX3_takePart_35 : decode cX3_takePart 35 = .ok (.getfield 18, 3) := by decide +kernel
theorem dX3_takePart_38 : decode cX3_takePart 38 = .ok (.aload_n 0, 1) := by decide +kernel
theorem dX3_takePart_39 : decode cX3_takePart 39 = .ok (.getfield 108, 3) := by decide +kernel
theorem dX3_takePart_42 : decode cX3_takePart 42 = .ok (.dup2, 1) := by decide +kernel
theorem dX3_takePart_43 : decode cX3_takePart 43 = .ok (.iaload, 1) := by decide +kernel
theorem dX3_takePart_44 : decode cX3_takePart 44 = .ok (.aload_n 0, 1) := by decide +kernel
theorem dX3_takePart_45 : decode cX3_takePart 45 = .ok (.getfield 120, 3) := by decide +kernel
theorem dX3_takePart_48 : decode cX3_takePart 48 = .ok (.isub, 1) := by decide +kernel
theorem dX3_takePart_49 : decode cX3_takePart 49 = .ok (.iastore, 1) := by decide +kernel
theorem dX3_takePart_50 : decode cX3_takePart 50 = .ok (.aload_n 0, 1) := by decide +kernel
theorem dX3_takePart_51 : decode cX3_takePart 51 = .ok (.getfield 18, 3) := by decide +kernel
theorem dX3_takePart_54 : decode cX3_takePart 54 = .ok (.aload_n 0, 1) := by decide +kernel
theorem dX3_takePart_55 : decode cX3_takePart 55 = .ok (.getfield 117, 3) := by decide +kernel
theorem dX3_takePart_58 : decode cX3_takePart 58 = .ok (.aload_n 0, 1) := by decide +kernel
theorem dX3_takePart_59 : decode cX3_takePart 59 = .ok (.getfield 120, 3) := by decide +kernel
theorem dX3_takePart_62 : decode cX3_takePart 62 = .ok (.iastore, 1) := by decide +kernel
theorem dX3_takePart_63 : decode cX3_takePart 63 = .ok (.aload_n 0, 1) := by decide +kernel
theorem dX3_takePart_64 : decode cX3_takePart 64 = .ok (.invokevirtual 227, 3) := by decide +kernel
theorem dX3_takePart_67 : decode cX3_takePart 67 = .ok (.iconst 1, 1) := by decide +kernel
theorem dX3_takePart_68 : decode cX3_takePart 68 = .ok (.ireturn, 1) := by decide +kernel
theorem dX3_takeCopy_0 : decode cX3_takeCopy 0 = .ok (.aload_n 0, 1) := by decide +kernel
theorem dX3_takeCopy_1 : decode cX3_takeCopy 1 = .ok (.iconst 3, 1) := by decide +kernel
theorem dX3_takeCopy_2 : decode cX3_takeCopy 2 = .ok (.invokevirtual 224, 3) := by decide +kernel
theorem dX3_takeCopy_5 : decode cX3_takeCopy 5 = .ok (.ifCond .ne 5, 3) := by decide +kernel
theorem dX3_takeCopy_8 : decode cX3_takeCopy 8 = .ok (.iconst 0, 1) := by decide +kernel
theorem dX3_takeCopy_9 : decode cX3_takeCopy 9 = .ok (.ireturn, 1) := by decide +kernel
theorem dX3_takeCopy_10 : decode cX3_takeCopy 10 = .ok (.aload_n 0, 1) := by decide +kernel
theorem dX3_takeCopy_11 : decode cX3_takeCopy 11 = .ok (.invokevirtual 227, 3) := by decide +kernel
theorem dX3_takeCopy_14 : decode cX3_takeCopy 14 = .ok (.iconst 1, 1) := by decide +kernel
theorem dX3_takeCopy_15 : decode cX3_takeCopy 15 = .ok (.ireturn, 1) := by decide +kernel
theorem dX3_mayBeTaken_0 : decode cX3_mayBeTaken 0 = .ok (.aload_n 0, 1) := by decide +kernel
theorem dX3_mayBeTaken_1 : decode cX3_mayBeTaken 1 = .ok (.getfield 48, 3) := by decide +kernel
theorem dX3_mayBeTaken_4 : decode cX3_mayBeTaken 4 = .ok (.aload_n 0, 1) := by decide +kernel
theorem dX3_mayBeTaken_5 : decode cX3_mayBeTaken 5 = .ok (.getfield 117, 3) := by decide +kernel
theorem dX3_mayBeTaken_8 : decode cX3_mayBeTaken 8 = .ok (.iload_n 1, 1) := by decide +kernel
theorem dX3_mayBeTaken_9 : decode cX3_mayBeTaken 9 = .ok (.invokevirtual 184, 3) := by decide +kernel
theorem dX3_mayBeTaken_12 : decode cX3_mayBeTaken 12 = .ok (.ifCond .eq 45, 3) := by decide +kernel
theorem dX3_mayBeTaken_15 : decode cX3_mayBeTaken 15 = .ok (.aload_n 0, 1) := by decide +kernel
theorem dX3_mayBeTaken_16 : decode cX3_mayBeTaken 16 = .ok (.getfield 9, 3) := by decide +kernel
theorem dX3_mayBeTaken_19 : decode cX3_mayBeTaken 19 = .ok (.aload_n 0, 1) := by decide +kernel
theorem dX3_mayBeTaken_20 : decode cX3_mayBeTaken 20 = .ok (.getfield 117, 3) := by decide +kernel
theorem dX3_mayBeTaken_23 : decode cX3_mayBeTaken 23 = .ok (.iaload, 1) := by decide +kernel
theorem dX3_mayBeTaken_24 : decode cX3_mayBeTaken 24 = .ok (.ifCond .ne 33, 3) := by decide +kernel
theorem dX3_mayBeTaken_27 : decode cX3_mayBeTaken 27 = .ok (.aload_n 0, 1) := by decide +kernel
theorem dX3_mayBeTaken_28 : decode cX3_mayBeTaken 28 = .ok (.aload_n 0, 1) := by decide +kernel
theorem dX3_mayBeTaken_29 : decode cX3_mayBeTaken 29 = .ok (.getfield 108, 3) := by decide +kernel
theorem dX3_mayBeTaken_32 : decode cX3_mayBeTaken 32 = .ok (.invokevirtual 230, 3) := by decide +kernel
theorem dX3_mayBeTaken_35 : decode cX3_mayBeTaken 35 = .ok (.ifCond .eq 22, 3) := by decide +kernel
theorem dX3_mayBeTaken_38 : decode cX3_mayBeTaken 38 = .ok (.aload_n 0, 1) := by decide +kernel
theorem dX3_mayBeTaken_39 : decode cX3_mayBeTaken 39 = .ok (.aload_n 0, 1) := by decide +kernel
theorem dX3_mayBeTaken_40 : decode cX3_mayBeTaken 40 = .ok (.aload_n 0, 1) := by decide +kernel
theorem dX3_mayBeTaken_41 : decode cX3_mayBeTaken 41 = .ok (.getfield 108, 3) := by decide +kernel
theorem dX3_mayBeTaken_44 : decode cX3_mayBeTaken 44 = .ok (.invokevirtual 188, 3) := by decide +kernel
theorem dX3_mayBeTaken_47 : decode cX3_mayBeTaken 47 = .ok (.invokevirtual 191, 3) := by decide +kernel
theorem dX3_mayBeTaken_50 : decode cX3_mayBeTaken 50 = .ok (.ifCond .eq 7, 3) := by decide +kernel
theorem dX3_mayBeTaken_53 : decode cX3_mayBeTaken 53 = .ok (.iconst 1, 1) := by decide +kernel
theorem dX3_mayBeTaken_54 : decode cX3_mayBeTaken 54 = .ok (.goto 4, 3) := by decide +kernel
theorem dX3_mayBeTaken_57 : decode cX3_mayBeTaken 57 = .ok (.iconst 0, 1) := by decide +kernel
theorem dX3_mayBeTaken_58 : decode cX3_mayBeTaken 58 = .ok (.ireturn, 1) := by decide +kernel
theorem dX3_bringToHand_0 : decode cX3_bringToHand 0 = .ok (.aload_n 0, 1) := by decide +kernel
theorem dX3_bringToHand_1 : decode cX3_bringToHand 1 = .ok (.getfield 39, 3) := by decide +kernel
theorem dX3_bringToHand_4 : decode cX3_bringToHand 4 = .ok (.aload_n 0, 1) := by decide +kernel
theorem dX3_bringToHand_5 : decode cX3_bringToHand 5 = .ok (.getfield 117, 3) := by decide +kernel
theorem dX3_bringToHand_8 : decode cX3_bringToHand 8 = .ok (.aload_n 0, 1) := by decide +kernel
theorem dX3_bringToHand_9 : decode cX3_bringToHand 9 = .ok (.getfield 108, 3) := by decide +kernel
theorem dX3_bringToHand_12 : decode cX3_bringToHand 12 = .ok (.iastore, 1) := by decide +kernel
theorem dX3_bringToHand_13 : decode cX3_bringToHand 13 = .ok (.aload_n 0, 1) := by decide +kernel
theorem dX3_bringToHand_14 : decode cX3_bringToHand 14 = .ok (.aload_n 0, 1) := by decide +kernel
theorem dX3_bringToHand_15 : decode cX3_bringToHand 15 = .ok (.getfield 117, 3) := by decide +kernel
theorem dX3_bringToHand_18 : decode cX3_bringToHand 18 = .ok (.iconst 2, 1) := by decide +kernel
theorem dX3_bringToHand_19 : decode cX3_bringToHand 19 = .ok (.aload_n 0, 1) := by decide +kernel
theorem dX3_bringToHand_20 : decode cX3_bringToHand 20 = .ok (.getfield 111, 3) := by decide +kernel
theorem dX3_bringToHand_23 : decode cX3_bringToHand 23 = .ok (.invokevirtual 201, 3) := by decide +kernel
theorem dX3_bringToHand_26 : decode cX3_bringToHand 26 = .ok (.return_, 1) := by decide +kernel
theorem dX3_weigh_0 : decode cX3_weigh 0 = .ok (.aload_n 0, 1) := by decide +kernel
theorem dX3_weigh_1 : decode cX3_weigh 1 = .ok (.aload_n 0, 1) := by decide +kernel
theorem dX3_weigh_2 : decode cX3_weigh 2 = .ok (.getfield 108, 3) := by decide +kernel
theorem dX3_weigh_5 : decode cX3_weigh 5 = .ok (.invokevirtual 230, 3) := by decide +kernel
theorem dX3_weigh_8 : decode cX3_weigh 8 = .ok (.ifCond .eq 26, 3) := by decide +kernel
theorem dX3_weigh_11 : decode cX3_weigh 11 = .ok (.aload_n 0, 1) := by decide +kernel
theorem dX3_weigh_12 : decode cX3_weigh 12 = .ok (.getfield 120, 3) := by decide +kernel
theorem dX3_weigh_15 : decode cX3_weigh 15 = .ok (.ifCond .lt 19, 3) := by decide +kernel
theorem dX3_weigh_18 : decode cX3_weigh 18 = .ok (.aload_n 0, 1) := by decide +kernel
theorem dX3_weigh_19 : decode cX3_weigh 19 = .ok (.getfield 120, 3) := by decide +kernel
theorem dX3_weigh_22 : decode cX3_weigh 22 = .ok (.aload_n 0, 1) := by decide +kernel
theorem dX3_weigh_23 : decode cX3_weigh 23 = .ok (.getfield 18, 3) := by decide +kernel
theorem dX3_weigh_26 : decode cX3_weigh 26 = .ok (.aload_n 0, 1) := by decide +kernel
theorem dX3_weigh_27 : decode cX3_weigh 27 = .ok (.getfield 108, 3) := by decide +kernel
theorem dX3_weigh_30 : decode cX3_weigh 30 = .ok (.iaload, 1) := by decide +kernel
theorem dX3_weigh_31 : decode cX3_weigh 31 = .ok (.if_icmp .le 5, 3) := by decide +kernel
theorem dX3_weigh_34 : decode cX3_weigh 34 = .ok (.iconst 0, 1) := by decide +kernel
theorem dX3_weigh_35 : decode cX3_weigh 35 = .ok (.ireturn, 1) := by decide +kernel
theorem dX3_weigh_36 : decode cX3_weigh 36 = .ok (.aload_n 0, 1) := by decide +kernel
theorem dX3_weigh_37 : decode cX3_weigh 37 = .ok (.getfield 18, 3) := by decide +kernel
theorem dX3_weigh_40 : decode cX3_weigh 40 = .ok (.aload_n 0, 1) := by decide +kernel
theorem dX3_weigh_41 : decode cX3_weigh 41 = .ok (.getfield 108, 3) := by decide +kernel
theorem dX3_weigh_44 : decode cX3_weigh 44 = .ok (.dup2, 1) := by decide +kernel
theorem dX3_weigh_45 : decode cX3_weigh 45 = .ok (.iaload, 1) := by decide +kernel
theorem dX3_weigh_46 : decode cX3_weigh 46 = .ok (.aload_n 0, 1) := by decide +kernel
theorem dX3_weigh_47 : decode cX3_weigh 47 = .ok (.getfield 120, 3) := by decide +kernel
theorem dX3_weigh_50 : decode cX3_weigh 50 = .ok (.isub, 1) := by decide +kernel
theorem dX3_weigh_51 : decode cX3_weigh 51 = .ok (.iastore, 1) := by decide +kernel
theorem dX3_weigh_52 : decode cX3_weigh 52 = .ok (.iconst 1, 1) := by decide +kernel
theorem dX3_weigh_53 : decode cX3_weigh 53 = .ok (.ireturn, 1) := by decide +kernel
theorem dX3_keep_0 : decode cX3_keep 0 = .ok (.aload_n 0, 1) := by decide +kernel
theorem dX3_keep_1 : decode cX3_keep 1 = .ok (.aload_n 0, 1) := by decide +kernel
theorem dX3_keep_2 : decode cX3_keep 2 = .ok (.getfield 117, 3) := by decide +kernel
theorem dX3_keep_5 : decode cX3_keep 5 = .ok (.invokevirtual 205, 3) := by decide +kernel
theorem dX3_keep_8 : decode cX3_keep 8 = .ok (.ifCond .ne 5, 3) := by decide +kernel
theorem dX3_keep_11 : decode cX3_keep 11 = .ok (.iconst 0, 1) := by decide +kernel
theorem dX3_keep_12 : decode cX3_keep 12 = .ok (.ireturn, 1) := by decide +kernel
theorem dX3_keep_13 : decode cX3_keep 13 = .ok (.aload_n 0, 1) := by decide +kernel
theorem dX3_keep_14 : decode cX3_keep 14 = .ok (.getfield 27, 3) := by decide +kernel
theorem dX3_keep_17 : decode cX3_keep 17 = .ok (.aload_n 0, 1) := by decide +kernel
theorem dX3_keep_18 : decode cX3_keep 18 = .ok (.getfield 108, 3) := by decide +kernel
theorem dX3_keep_21 : decode cX3_keep 21 = .ok (.aload_n 0, 1) := by decide +kernel
theorem dX3_keep_22 : decode cX3_keep 22 = .ok (.getfield 117, 3) := by decide +kernel
theorem dX3_keep_25 : decode cX3_keep 25 = .ok (.iastore, 1) := by decide +kernel
theorem dX3_keep_26 : decode cX3_keep 26 = .ok (.iconst 1, 1) := by decide +kernel
theorem dX3_keep_27 : decode cX3_keep 27 = .ok (.ireturn, 1) := by decide +kernel
theorem dX3_doom_0 : decode cX3_doom 0 = .ok (.aload_n 0, 1) := by decide +kernel
theorem dX3_doom_1 : decode cX3_doom 1 = .ok (.getfield 30, 3) := by decide +kernel
theorem dX3_doom_4 : decode cX3_doom 4 = .ok (.aload_n 0, 1) := by decide +kernel
theorem dX3_doom_5 : decode cX3_doom 5 = .ok (.getfield 108, 3) := by decide +kernel
theorem dX3_doom_8 : decode cX3_doom 8 = .ok (.iconst 1, 1) := by decide +kernel
theorem dX3_doom_9 : decode cX3_doom 9 = .ok (.iastore, 1) := by decide +kernel
theorem dX3_doom_10 : decode cX3_doom 10 = .ok (.iconst 1, 1) := by decide +kernel
theorem dX3_doom_11 : decode cX3_doom 11 = .ok (.ireturn, 1) := by decide +kernel
theorem dX3_beginTrial_0 : decode cX3_beginTrial 0 = .ok (.aload_n 0, 1) := by decide +kernel
theorem dX3_beginTrial_1 : decode cX3_beginTrial 1 = .ok (.getfield 117, 3) := by decide +kernel
theorem dX3_beginTrial_4 : decode cX3_beginTrial 4 = .ok (.ifCond .lt 19, 3) := by decide +kernel
theorem dX3_beginTrial_7 : decode cX3_beginTrial 7 = .ok (.aload_n 0, 1) := by decide +kernel
theorem dX3_beginTrial_8 : decode cX3_beginTrial 8 = .ok (.getfield 117, 3) := by decide +kernel
theorem dX3_beginTrial_11 : decode cX3_beginTrial 11 = .ok (.bipush 30, 2) := by decide +kernel
theorem dX3_beginTrial_13 : decode cX3_beginTrial 13 = .ok (.if_icmp .gt 10, 3) := by decide +kernel
theorem dX3_beginTrial_16 : decode cX3_beginTrial 16 = .ok (.aload_n 0, 1) := by decide +kernel
theorem dX3_beginTrial_17 : decode cX3_beginTrial 17 = .ok (.invokevirtual 233, 3) := by decide +kernel
theorem dX3_beginTrial_20 : decode cX3_beginTrial 20 = .ok (.ifCond .eq 5, 3) := by decide +kernel
theorem dX3_beginTrial_23 : decode cX3_beginTrial 23 = .ok (.iconst 0, 1) := by decide +kernel
theorem dX3_beginTrial_24 : decode cX3_beginTrial 24 = .ok (.ireturn, 1) := by decide +kernel
theorem dX3_beginTrial_25 : decode cX3_beginTrial 25 = .ok (.aload_n 0, 1) := by decide +kernel
theorem dX3_beginTrial_26 : decode cX3_beginTrial 26 = .ok (.getfield 33, 3) := by decide +kernel
theorem dX3_beginTrial_29 : decode cX3_beginTrial 29 = .ok (.aload_n 0, 1) := by decide +kernel
theorem dX3_beginTrial_30 : decode cX3_beginTrial 30 = .ok (.getfield 108, 3) := by decide +kernel
theorem dX3_beginTrial_33 : decode cX3_beginTrial 33 = .ok (.dup2, 1) := by decide +kernel
theorem dX3_beginTrial_34 : decode cX3_beginTrial 34 = .ok (.iaload, 1) := by decide +kernel
theorem dX3_beginTrial_35 : decode cX3_beginTrial 35 = .ok (.iconst 1, 1) := by decide +kernel
theorem dX3_beginTrial_36 : decode cX3_beginTrial 36 = .ok (.aload_n 0, 1) := by decide +kernel
theorem dX3_beginTrial_37 : decode cX3_beginTrial 37 = .ok (.getfield 117, 3) := by decide +kernel
theorem dX3_beginTrial_40 : decode cX3_beginTrial 40 = .ok (.ishl, 1) := by decide +kernel
theorem dX3_beginTrial_41 : decode cX3_beginTrial 41 = .ok (.ior, 1) := by decide +kernel
theorem dX3_beginTrial_42 : decode cX3_beginTrial 42 = .ok (.iastore, 1) := by decide +kernel
theorem dX3_beginTrial_43 : decode cX3_beginTrial 43 = .ok (.iconst 1, 1) := by decide +kernel
theorem dX3_beginTrial_44 : decode cX3_beginTrial 44 = .ok (.ireturn, 1) := by decide +kernel
theorem dX3_endTrial_0 : decode cX3_endTrial 0 = .ok (.aload_n 0, 1) := by decide +kernel
theorem dX3_endTrial_1 : decode cX3_endTrial 1 = .ok (.getfield 117, 3) := by decide +kernel
theorem dX3_endTrial_4 : decode cX3_endTrial 4 = .ok (.ifCond .lt 19, 3) := by decide +kernel
theorem dX3_endTrial_7 : decode cX3_endTrial 7 = .ok (.aload_n 0, 1) := by decide +kernel
theorem dX3_endTrial_8 : decode cX3_endTrial 8 = .ok (.getfield 117, 3) := by decide +kernel
theorem dX3_endTrial_11 : decode cX3_endTrial 11 = .ok (.bipush 30, 2) := by decide +kernel
theorem dX3_endTrial_13 : decode cX3_endTrial 13 = .ok (.if_icmp .gt 10, 3) := by decide +kernel
theorem dX3_endTrial_16 : decode cX3_endTrial 16 = .ok (.aload_n 0, 1) := by decide +kernel
theorem dX3_endTrial_17 : decode cX3_endTrial 17 = .ok (.invokevirtual 233, 3) := by decide +kernel
theorem dX3_endTrial_20 : decode cX3_endTrial 20 = .ok (.ifCond .ne 5, 3) := by decide +kernel
theorem dX3_endTrial_23 : decode cX3_endTrial 23 = .ok (.iconst 0, 1) := by decide +kernel
theorem dX3_endTrial_24 : decode cX3_endTrial 24 = .ok (.ireturn, 1) := by decide +kernel
theorem dX3_endTrial_25 : decode cX3_endTrial 25 = .ok (.aload_n 0, 1) := by decide +kernel
theorem dX3_endTrial_26 : decode cX3_endTrial 26 = .ok (.getfield 33, 3) := by decide +kernel
theorem dX3_endTrial_29 : decode cX3_endTrial 29 = .ok (.aload_n 0, 1) := by decide +kernel
theorem dX3_endTrial_30 : decode cX3_endTrial 30 = .ok (.getfield 108, 3) := by decide +kernel
theorem dX3_endTrial_33 : decode cX3_endTrial 33 = .ok (.dup2, 1) := by decide +kernel
theorem dX3_endTrial_34 : decode cX3_endTrial 34 = .ok (.iaload, 1) := by decide +kernel
theorem dX3_endTrial_35 : decode cX3_endTrial 35 = .ok (.iconst 1, 1) := by decide +kernel
theorem dX3_endTrial_36 : decode cX3_endTrial 36 = .ok (.aload_n 0, 1) := by decide +kernel
theorem dX3_endTrial_37 : decode cX3_endTrial 37 = .ok (.getfield 117, 3) := by decide +kernel
theorem dX3_endTrial_40 : decode cX3_endTrial 40 = .ok (.ishl, 1) := by decide +kernel
theorem dX3_endTrial_41 : decode cX3_endTrial 41 = .ok (.iconst (-1), 1) := by decide +kernel
theorem dX3_endTrial_42 : decode cX3_endTrial 42 = .ok (.ixor, 1) := by decide +kernel
theorem dX3_endTrial_43 : decode cX3_endTrial 43 = .ok (.iand, 1) := by decide +kernel
theorem dX3_endTrial_44 : decode cX3_endTrial 44 = .ok (.iastore, 1) := by decide +kernel
theorem dX3_endTrial_45 : decode cX3_endTrial 45 = .ok (.iconst 1, 1) := by decide +kernel
theorem dX3_endTrial_46 : decode cX3_endTrial 46 = .ok (.ireturn, 1) := by decide +kernel
end
section
theorem dX3_goesOn_0 : decode cX3_goesOn 0 = .ok (.aload_n 0, 1) := by decide +kernel
theorem dX3_goesOn_1 : decode cX3_goesOn 1 = .ok (.getfield 33, 3) := by decide +kernel
theorem dX3_goesOn_4 : decode cX3_goesOn 4 = .ok (.aload_n 0, 1) := by decide +kernel
theorem dX3_goesOn_5 : decode cX3_goesOn 5 = .ok (.getfield 108, 3) := by decide +kernel
theorem dX3_goesOn_8 : decode cX3_goesOn 8 = .ok (.iaload, 1) := by decide +kernel
theorem dX3_goesOn_9 : decode cX3_goesOn 9 = .ok (.iconst 1, 1) := by decide +kernel
theorem dX3_goesOn_10 : decode cX3_goesOn 10 = .ok (.aload_n 0, 1) := by decide +kernel
theorem dX3_goesOn_11 : decode cX3_goesOn 11 = .ok (.getfield 117, 3) := by decide +kernel
theorem dX3_goesOn_14 : decode cX3_goesOn 14 = .ok (.ishl, 1) := by decide +kernel
theorem dX3_goesOn_15 : decode cX3_goesOn 15 = .ok (.iand, 1) := by decide +kernel
theorem dX3_goesOn_16 : decode cX3_goesOn 16 = .ok (.ifCond .eq 7, 3) := by decide +kernel
theorem dX3_goesOn_19 : decode cX3_goesOn 19 = .ok (.iconst 1, 1) := by decide +kernel
theorem dX3_goesOn_20 : decode cX3_goesOn 20 = .ok (.goto 4, 3) := by decide +kernel
theorem dX3_goesOn_23 : decode cX3_goesOn 23 = .ok (.iconst 0, 1) := by decide +kernel
theorem dX3_goesOn_24 : decode cX3_goesOn 24 = .ok (.ireturn, 1) := by decide +kernel
theorem dX3_destroy_0 : decode cX3_destroy 0 = .ok (.aload_n 0, 1) := by decide +kernel
theorem dX3_destroy_1 : decode cX3_destroy 1 = .ok (.iconst 1, 1) := by decide +kernel
theorem dX3_destroy_2 : decode cX3_destroy 2 = .ok (.invokevirtual 191, 3) := by decide +kernel
theorem dX3_destroy_5 : decode cX3_destroy 5 = .ok (.ifCond .eq 39, 3) := by decide +kernel
theorem dX3_destroy_8 : decode cX3_destroy 8 = .ok (.aload_n 0, 1) := by decide +kernel
theorem dX3_destroy_9 : decode cX3_destroy 9 = .ok (.getfield 48, 3) := by decide +kernel
theorem dX3_destroy_12 : decode cX3_destroy 12 = .ok (.aload_n 0, 1) := by decide +kernel
theorem dX3_destroy_13 : decode cX3_destroy 13 = .ok (.getfield 117, 3) := by decide +kernel
theorem dX3_destroy_16 : decode cX3_destroy 16 = .ok (.invokevirtual 195, 3) := by decide +kernel
theorem dX3_destroy_19 : decode cX3_destroy 19 = .ok (.ifCond .eq 25, 3) := by decide +kernel
theorem dX3_destroy_22 : decode cX3_destroy 22 = .ok (.aload_n 0, 1) := by decide +kernel
theorem dX3_destroy_23 : decode cX3_destroy 23 = .ok (.getfield 117, 3) := by decide +kernel
theorem dX3_destroy_26 : decode cX3_destroy 26 = .ok (.aload_n 0, 1) := by decide +kernel
theorem dX3_destroy_27 : decode cX3_destroy 27 = .ok (.getfield 111, 3) := by decide +kernel
theorem dX3_destroy_30 : decode cX3_destroy 30 = .ok (.if_icmp .eq 14, 3) := by decide +kernel
theorem dX3_destroy_33 : decode cX3_destroy 33 = .ok (.aload_n 0, 1) := by decide +kernel
theorem dX3_destroy_34 : decode cX3_destroy 34 = .ok (.getfield 117, 3) := by decide +kernel
theorem dX3_destroy_37 : decode cX3_destroy 37 = .ok (.aload_n 0, 1) := by decide +kernel
theorem dX3_destroy_38 : decode cX3_destroy 38 = .ok (.getfield 114, 3) := by decide +kernel
theorem dX3_destroy_41 : decode cX3_destroy 41 = .ok (.if_icmp .ne 5, 3) := by decide +kernel
theorem dX3_destroy_44 : decode cX3_destroy 44 = .ok (.iconst 0, 1) := by decide +kernel
theorem dX3_destroy_45 : decode cX3_destroy 45 = .ok (.ireturn, 1) := by decide +kernel
theorem dX3_destroy_46 : decode cX3_destroy 46 = .ok (.aload_n 0, 1) := by decide +kernel
theorem dX3_destroy_47 : decode cX3_destroy 47 = .ok (.getfield 9, 3) := by decide +kernel
theorem dX3_destroy_50 : decode cX3_destroy 50 = .ok (.aload_n 0, 1) := by decide +kernel
theorem dX3_destroy_51 : decode cX3_destroy 51 = .ok (.getfield 108, 3) := by decide +kernel
theorem dX3_destroy_54 : decode cX3_destroy 54 = .ok (.iaload, 1) := by decide +kernel
theorem dX3_destroy_55 : decode cX3_destroy 55 = .ok (.iconst 1, 1) := by decide +kernel
theorem dX3_destroy_56 : decode cX3_destroy 56 = .ok (.if_icmp .ne 43, 3) := by decide +kernel
theorem dX3_destroy_59 : decode cX3_destroy 59 = .ok (.aload_n 0, 1) := by decide +kernel
theorem dX3_destroy_60 : decode cX3_destroy 60 = .ok (.getfield 30, 3) := by decide +kernel
theorem dX3_destroy_63 : decode cX3_destroy 63 = .ok (.aload_n 0, 1) := by decide +kernel
theorem dX3_destroy_64 : decode cX3_destroy 64 = .ok (.getfield 108, 3) := by decide +kernel
theorem dX3_destroy_67 : decode cX3_destroy 67 = .ok (.iaload, 1) := by decide +kernel
theorem dX3_destroy_68 : decode cX3_destroy 68 = .ok (.ifCond .eq 31, 3) := by decide +kernel
theorem dX3_destroy_71 : decode cX3_destroy 71 = .ok (.aload_n 0, 1) := by decide +kernel
theorem dX3_destroy_72 : decode cX3_destroy 72 = .ok (.getfield 27, 3) := by decide +kernel
theorem dX3_destroy_75 : decode cX3_destroy 75 = .ok (.aload_n 0, 1) := by decide +kernel
theorem dX3_destroy_76 : decode cX3_destroy 76 = .ok (.getfield 108, 3) := by decide +kernel
theorem dX3_destroy_79 : decode cX3_destroy 79 = .ok (.iaload, 1) := by decide +kernel
theorem dX3_destroy_80 : decode cX3_destroy 80 = .ok (.aload_n 0, 1) := by decide +kernel
theorem dX3_destroy_81 : decode cX3_destroy 81 = .ok (.getfield 123, 3) := by decide +kernel
theorem dX3_destroy_84 : decode cX3_destroy 84 = .ok (.if_icmp .gt 15, 3) := by decide +kernel
theorem dX3_destroy_87 : decode cX3_destroy 87 = .ok (.aload_n 0, 1) := by decide +kernel
theorem dX3_destroy_88 : decode cX3_destroy 88 = .ok (.getfield 33, 3) := by decide +kernel
theorem dX3_destroy_91 : decode cX3_destroy 91 = .ok (.aload_n 0, 1) := by decide +kernel
theorem dX3_destroy_92 : decode cX3_destroy 92 = .ok (.getfield 108, 3) := by decide +kernel
theorem dX3_destroy_95 : decode cX3_destroy 95 = .ok (.iaload, 1) := by decide +kernel
theorem dX3_destroy_96 : decode cX3_destroy 96 = .ok (.ifCond .eq 5, 3) := by decide +kernel
theorem dX3_destroy_99 : decode cX3_destroy 99 = .ok (.iconst 0, 1) := by decide +kernel
theorem dX3_destroy_100 : decode cX3_destroy 100 = .ok (.ireturn, 1) := by decide +kernel
theorem dX3_destroy_101 : decode cX3_destroy 101 = .ok (.aload_n 0, 1) := by decide +kernel
theorem dX3_destroy_102 : decode cX3_destroy 102 = .ok (.getfield 36, 3) := by decide +kernel
theorem dX3_destroy_105 : decode cX3_destroy 105 = .ok (.aload_n 0, 1) := by decide +kernel
theorem dX3_destroy_106 : decode cX3_destroy 106 = .ok (.getfield 108, 3) := by decide +kernel
theorem dX3_destroy_109 : decode cX3_destroy 109 = .ok (.iaload, 1) := by decide +kernel
theorem dX3_destroy_110 : decode cX3_destroy 110 = .ok (.ifCond .ne 10, 3) := by decide +kernel
theorem dX3_destroy_113 : decode cX3_destroy 113 = .ok (.aload_n 0, 1) := by decide +kernel
theorem dX3_destroy_114 : decode cX3_destroy 114 = .ok (.invokevirtual 236, 3) := by decide +kernel
theorem dX3_destroy_117 : decode cX3_destroy 117 = .ok (.ifCond .eq 5, 3) := by decide +kernel
theorem dX3_destroy_120 : decode cX3_destroy 120 = .ok (.iconst 0, 1) := by decide +kernel
theorem dX3_destroy_121 : decode cX3_destroy 121 = .ok (.ireturn, 1) := by decide +kernel
theorem dX3_destroy_122 : decode cX3_destroy 122 = .ok (.aload_n 0, 1) := by decide +kernel
theorem dX3_destroy_123 : decode cX3_destroy 123 = .ok (.aload_n 0, 1) := by decide +kernel
theorem dX3_destroy_124 : decode cX3_destroy 124 = .ok (.getfield 108, 3) := by decide +kernel
theorem dX3_destroy_127 : decode cX3_destroy 127 = .ok (.iconst 4, 1) := by decide +kernel
theorem dX3_destroy_128 : decode cX3_destroy 128 = .ok (.iconst (-1), 1) := by decide +kernel
theorem dX3_destroy_129 : decode cX3_destroy 129 = .ok (.invokevirtual 201, 3) := by decide +kernel
theorem dX3_destroy_132 : decode cX3_destroy 132 = .ok (.iconst 1, 1) := by decide +kernel
theorem dX3_destroy_133 : decode cX3_destroy 133 = .ok (.ireturn, 1) := by decide +kernel
theorem dX3_find_0 : decode cX3_find 0 = .ok (.aload_n 0, 1) := by decide +kernel
theorem dX3_find_1 : decode cX3_find 1 = .ok (.getfield 120, 3) := by decide +kernel
theorem dX3_find_4 : decode cX3_find 4 = .ok (.iconst (-1), 1) := by decide +kernel
theorem dX3_find_5 : decode cX3_find 5 = .ok (.if_icmp .ne 29, 3) := by decide +kernel
theorem dX3_find_8 : decode cX3_find 8 = .ok (.aload_n 0, 1) := by decide +kernel
theorem dX3_find_9 : decode cX3_find 9 = .ok (.aload_n 0, 1) := by decide +kernel
theorem dX3_find_10 : decode cX3_find 10 = .ok (.getfield 117, 3) := by decide +kernel
theorem dX3_find_13 : decode cX3_find 13 = .ok (.invokevirtual 198, 3) := by decide +kernel
theorem dX3_find_16 : decode cX3_find 16 = .ok (.ifCond .eq 18, 3) := by decide +kernel
theorem dX3_find_19 : decode cX3_find 19 = .ok (.aload_n 0, 1) := by decide +kernel
theorem dX3_find_20 : decode cX3_find 20 = .ok (.aload_n 0, 1) := by decide +kernel
theorem dX3_find_21 : decode cX3_find 21 = .ok (.getfield 108, 3) := by decide +kernel
theorem dX3_find_24 : decode cX3_find 24 = .ok (.iconst 1, 1) := by decide +kernel
theorem dX3_find_25 : decode cX3_find 25 = .ok (.aload_n 0, 1) := by decide +kernel
theorem dX3_find_26 : decode cX3_find 26 = .ok (.getfield 117, 3) := by decide +kernel
theorem dX3_find_29 : decode cX3_find 29 = .ok (.invokevirtual 201, 3) := by decide +kernel
theorem dX3_find_32 : decode cX3_find 32 = .ok (.iconst 1, 1) := by decide +kernel
theorem dX3_find_33 : decode cX3_find 33 = .ok (.ireturn, 1) := by decide +kernel
theorem dX3_find_34 : decode cX3_find 34 = .ok (.aload_n 0, 1) := by decide +kernel
theorem dX3_find_35 : decode cX3_find 35 = .ok (.getfield 117, 3) := by decide +kernel
theorem dX3_find_38 : decode cX3_find 38 = .ok (.iconst (-1), 1) := by decide +kernel
theorem dX3_find_39 : decode cX3_find 39 = .ok (.if_icmp .ne 48, 3) := by decide +kernel
theorem dX3_find_42 : decode cX3_find 42 = .ok (.aload_n 0, 1) := by decide +kernel
theorem dX3_find_43 : decode cX3_find 43 = .ok (.getfield 48, 3) := by decide +kernel
theorem dX3_find_46 : decode cX3_find 46 = .ok (.aload_n 0, 1) := by decide +kernel
theorem dX3_find_47 : decode cX3_find 47 = .ok (.getfield 120, 3) := by decide +kernel
theorem dX3_find_50 : decode cX3_find 50 = .ok (.invokevirtual 195, 3) := by decide +kernel
theorem dX3_find_53 : decode cX3_find 53 = .ok (.ifCond .eq 34, 3) := by decide +kernel
theorem dX3_find_56 : decode cX3_find 56 = .ok (.aload_n 0, 1) := by decide +kernel
theorem dX3_find_57 : decode cX3_find 57 = .ok (.aload_n 0, 1) := by decide +kernel
theorem dX3_find_58 : decode cX3_find 58 = .ok (.getfield 108, 3) := by decide +kernel
theorem dX3_find_61 : decode cX3_find 61 = .ok (.iconst 2, 1) := by decide +kernel
theorem dX3_find_62 : decode cX3_find 62 = .ok (.aload_n 0, 1) := by decide +kernel
theorem dX3_find_63 : decode cX3_find 63 = .ok (.getfield 120, 3) := by decide +kernel
theorem dX3_find_66 : decode cX3_find 66 = .ok (.invokevirtual 208, 3) := by decide +kernel
theorem dX3_find_69 : decode cX3_find 69 = .ok (.ifCond .ne 18, 3) := by decide +kernel
theorem dX3_find_72 : decode cX3_find 72 = .ok (.aload_n 0, 1) := by decide +kernel
theorem dX3_find_73 : decode cX3_find 73 = .ok (.aload_n 0, 1) := by decide +kernel
theorem dX3_find_74 : decode cX3_find 74 = .ok (.getfield 108, 3) := by decide +kernel
theorem dX3_find_77 : decode cX3_find 77 = .ok (.iconst 2, 1) := by decide +kernel
theorem dX3_find_78 : decode cX3_find 78 = .ok (.aload_n 0, 1) := by decide +kernel
theorem dX3_find_79 : decode cX3_find 79 = .ok (.getfield 120, 3) := by decide +kernel
theorem dX3_find_82 : decode cX3_find 82 = .ok (.invokevirtual 201, 3) := by decide +kernel
theorem dX3_find_85 : decode cX3_find 85 = .ok (.iconst 1, 1) := by decide +kernel
theorem dX3_find_86 : decode cX3_find 86 = .ok (.ireturn, 1) := by decide +kernel
theorem dX3_find_87 : decode cX3_find 87 = .ok (.iconst 0, 1) := by decide +kernel
theorem dX3_find_88 : decode cX3_find 88 = .ok (.ireturn, 1) := by decide +kernel
theorem dX3_keepersServe_0 : decode cX3_keepersServe 0 = .ok (.aload_n 0, 1) := by decide +kernel
theorem dX3_keepersServe_1 : decode cX3_keepersServe 1 = .ok (.getfield 48, 3) := by decide +kernel
theorem dX3_keepersServe_4 : decode cX3_keepersServe 4 = .ok (.aload_n 0, 1) := by decide +kernel
theorem dX3_keepersServe_5 : decode cX3_keepersServe 5 = .ok (.getfield 111, 3) := by decide +kernel
theorem dX3_keepersServe_8 : decode cX3_keepersServe 8 = .ok (.invokevirtual 239, 3) := by decide +kernel
theorem dX3_keepersServe_11 : decode cX3_keepersServe 11 = .ok (.ifCond .eq 36, 3) := by decide +kernel
theorem dX3_keepersServe_14 : decode cX3_keepersServe 14 = .ok (.iload_n 1, 1) := by decide +kernel
theorem dX3_keepersServe_15 : decode cX3_keepersServe 15 = .ok (.ifCond .eq 28, 3) := by decide +kernel
theorem dX3_keepersServe_18 : decode cX3_keepersServe 18 = .ok (.aload_n 0, 1) := by decide +kernel
theorem dX3_keepersServe_19 : decode cX3_keepersServe 19 = .ok (.getfield 114, 3) := by decide +kernel
theorem dX3_keepersServe_22 : decode cX3_keepersServe 22 = .ok (.aload_n 0, 1) := by decide +kernel
theorem dX3_keepersServe_23 : decode cX3_keepersServe 23 = .ok (.getfield 111, 3) := by decide +kernel
theorem dX3_keepersServe_26 : decode cX3_keepersServe 26 = .ok (.if_icmp .eq 21, 3) := by decide +kernel
theorem dX3_keepersServe_29 : decode cX3_keepersServe 29 = .ok (.aload_n 0, 1) := by decide +kernel
theorem dX3_keepersServe_30 : decode cX3_keepersServe 30 = .ok (.getfield 48, 3) := by decide +kernel
theorem dX3_keepersServe_33 : decode cX3_keepersServe 33 = .ok (.aload_n 0, 1) := by decide +kernel
theorem dX3_keepersServe_34 : decode cX3_keepersServe 34 = .ok (.getfield 114, 3) := by decide +kernel
theorem dX3_keepersServe_37 : decode cX3_keepersServe 37 = .ok (.invokevirtual 239, 3) := by decide +kernel
theorem dX3_keepersServe_40 : decode cX3_keepersServe 40 = .ok (.ifCond .eq 7, 3) := by decide +kernel
theorem dX3_keepersServe_43 : decode cX3_keepersServe 43 = .ok (.iconst 1, 1) := by decide +kernel
theorem dX3_keepersServe_44 : decode cX3_keepersServe 44 = .ok (.goto 4, 3) := by decide +kernel
theorem dX3_keepersServe_47 : decode cX3_keepersServe 47 = .ok (.iconst 0, 1) := by decide +kernel
theorem dX3_keepersServe_48 : decode cX3_keepersServe 48 = .ok (.ireturn, 1) := by decide +kernel
theorem dX3_isMoneyBag_0 : decode cX3_isMoneyBag 0 = .ok (.aload_n 0, 1) := by decide +kernel
theorem dX3_isMoneyBag_1 : decode cX3_isMoneyBag 1 = .ok (.getfield 48, 3) := by decide +kernel
theorem dX3_isMoneyBag_4 : decode cX3_isMoneyBag 4 = .ok (.iload_n 1, 1) := by decide +kernel
theorem dX3_isMoneyBag_5 : decode cX3_isMoneyBag 5 = .ok (.iconst 5, 1) := by decide +kernel
theorem dX3_isMoneyBag_6 : decode cX3_isMoneyBag 6 = .ok (.invokevirtual 184, 3) := by decide +kernel
theorem dX3_isMoneyBag_9 : decode cX3_isMoneyBag 9 = .ok (.ireturn, 1) := by decide +kernel
theorem dX3_isDay_0 : decode cX3_isDay 0 = .ok (.iload_n 1, 1) := by decide +kernel
theorem dX3_isDay_1 : decode cX3_isDay 1 = .ok (.ifCond .lt 13, 3) := by decide +kernel
theorem dX3_isDay_4 : decode cX3_isDay 4 = .ok (.iload_n 1, 1) := by decide +kernel
theorem dX3_isDay_5 : decode cX3_isDay 5 = .ok (.ldc 242, 2) := by decide +kernel
theorem dX3_isDay_7 : decode cX3_isDay 7 = .ok (.if_icmp .gt 7, 3) := by decide +kernel
theorem dX3_isDay_10 : decode cX3_isDay 10 = .ok (.iconst 1, 1) := by decide +kernel
theorem dX3_isDay_11 : decode cX3_isDay 11 = .ok (.goto 4, 3) := by decide +kernel
theorem dX3_isDay_14 : decode cX3_isDay 14 = .ok (.iconst 0, 1) := by decide +kernel
theorem dX3_isDay_15 : decode cX3_isDay 15 = .ok (.ireturn, 1) := by decide +kernel
theorem dX3_isKept_0 : decode cX3_isKept 0 = .ok (.aload_n 0, 1) := by decide +kernel
theorem dX3_isKept_1 : decode cX3_isKept 1 = .ok (.getfield 9, 3) := by decide +kernel
theorem dX3_isKept_4 : decode cX3_isKept 4 = .ok (.iload_n 1, 1) := by decide +kernel
theorem dX3_isKept_5 : decode cX3_isKept 5 = .ok (.iaload, 1) := by decide +kernel
theorem dX3_isKept_6 : decode cX3_isKept 6 = .ok (.iconst 1, 1) := by decide +kernel
theorem dX3_isKept_7 : decode cX3_isKept 7 = .ok (.if_icmp .eq 23, 3) := by decide +kernel
theorem dX3_isKept_10 : decode cX3_isKept 10 = .ok (.aload_n 0, 1) := by decide +kernel
theorem dX3_isKept_11 : decode cX3_isKept 11 = .ok (.getfield 9, 3) := by decide +kernel
theorem dX3_isKept_14 : decode cX3_isKept 14 = .ok (.iload_n 1, 1) := by decide +kernel
theorem dX3_isKept_15 : decode cX3_isKept 15 = .ok (.iaload, 1) := by decide +kernel
theorem dX3_isKept_16 : decode cX3_isKept 16 = .ok (.iconst 2, 1) := by decide +kernel
theorem dX3_isKept_17 : decode cX3_isKept 17 = .ok (.if_icmp .eq 13, 3) := by decide +kernel
theorem dX3_isKept_20 : decode cX3_isKept 20 = .ok (.aload_n 0, 1) := by decide +kernel
theorem dX3_isKept_21 : decode cX3_isKept 21 = .ok (.getfield 9, 3) := by decide +kernel
theorem dX3_isKept_24 : decode cX3_isKept 24 = .ok (.iload_n 1, 1) := by decide +kernel
theorem dX3_isKept_25 : decode cX3_isKept 25 = .ok (.iaload, 1) := by decide +kernel
theorem dX3_isKept_26 : decode cX3_isKept 26 = .ok (.iconst 3, 1) := by decide +kernel
theorem dX3_isKept_27 : decode cX3_isKept 27 = .ok (.if_icmp .ne 7, 3) := by decide +kernel
theorem dX3_isKept_30 : decode cX3_isKept 30 = .ok (.iconst 1, 1) := by decide +kernel
theorem dX3_isKept_31 : decode cX3_isKept 31 = .ok (.goto 4, 3) := by decide +kernel
theorem dX3_isKept_34 : decode cX3_isKept 34 = .ok (.iconst 0, 1) := by decide +kernel
theorem dX3_isKept_35 : decode cX3_isKept 35 = .ok (.ireturn, 1) := by decide +kernel
theorem dX3_isAt_0 : decode cX3_isAt 0 = .ok (.aload_n 0, 1) := by decide +kernel
theorem dX3_isAt_1 : decode cX3_isAt 1 = .ok (.getfield 9, 3) := by decide +kernel
theorem dX3_isAt_4 : decode cX3_isAt 4 = .ok (.iload_n 1, 1) := by decide +kernel
theorem dX3_isAt_5 : decode cX3_isAt 5 = .ok (.iaload, 1) := by decide +kernel
theorem dX3_isAt_6 : decode cX3_isAt 6 = .ok (.iload_n 2, 1) := by decide +kernel
theorem dX3_isAt_7 : decode cX3_isAt 7 = .ok (.if_icmp .ne 17, 3) := by decide +kernel
theorem dX3_isAt_10 : decode cX3_isAt 10 = .ok (.aload_n 0, 1) := by decide +kernel
theorem dX3_isAt_11 : decode cX3_isAt 11 = .ok (.getfield 15, 3) := by decide +kernel
theorem dX3_isAt_14 : decode cX3_isAt 14 = .ok (.iload_n 1, 1) := by decide +kernel
theorem dX3_isAt_15 : decode cX3_isAt 15 = .ok (.iaload, 1) := by decide +kernel
theorem dX3_isAt_16 : decode cX3_isAt 16 = .ok (.iload_n 3, 1) := by decide +kernel
theorem dX3_isAt_17 : decode cX3_isAt 17 = .ok (.if_icmp .ne 7, 3) := by decide +kernel
theorem dX3_isAt_20 : decode cX3_isAt 20 = .ok (.iconst 1, 1) := by decide +kernel
theorem dX3_isAt_21 : decode cX3_isAt 21 = .ok (.goto 4, 3) := by decide +kernel
theorem dX3_isAt_24 : decode cX3_isAt 24 = .ok (.iconst 0, 1) := by decide +kernel
theorem dX3_isAt_25 : decode cX3_isAt 25 = .ok (.ireturn, 1) := by decide +kernel
theorem dX3_mayLieAt_0 : decode cX3_mayLieAt 0 = .ok (.aload_n 0, 1) := by decide +kernel
theorem dX3_mayLieAt_1 : decode cX3_mayLieAt 1 = .ok (.getfield 48, 3) := by decide +kernel
theorem dX3_mayLieAt_4 : decode cX3_mayLieAt 4 = .ok (.iload_n 1, 1) := by decide +kernel
theorem dX3_mayLieAt_5 : decode cX3_mayLieAt 5 = .ok (.invokevirtual 243, 3) := by decide +kernel
theorem dX3_mayLieAt_8 : decode cX3_mayLieAt 8 = .ok (.ifCond .eq 43, 3) := by decide +kernel
theorem dX3_mayLieAt_11 : decode cX3_mayLieAt 11 = .ok (.aload_n 0, 1) := by decide +kernel
theorem dX3_mayLieAt_12 : decode cX3_mayLieAt 12 = .ok (.getfield 42, 3) := by decide +kernel
theorem dX3_mayLieAt_15 : decode cX3_mayLieAt 15 = .ok (.iload_n 1, 1) := by decide +kernel
theorem dX3_mayLieAt_16 : decode cX3_mayLieAt 16 = .ok (.iaload, 1) := by decide +kernel
theorem dX3_mayLieAt_17 : decode cX3_mayLieAt 17 = .ok (.iconst (-1), 1) := by decide +kernel
theorem dX3_mayLieAt_18 : decode cX3_mayLieAt 18 = .ok (.if_icmp .ne 33, 3) := by decide +kernel
theorem dX3_mayLieAt_21 : decode cX3_mayLieAt 21 = .ok (.aload_n 0, 1) := by decide +kernel
theorem dX3_mayLieAt_22 : decode cX3_mayLieAt 22 = .ok (.getfield 48, 3) := by decide +kernel
theorem dX3_mayLieAt_25 : decode cX3_mayLieAt 25 = .ok (.aload_n 0, 1) := by decide +kernel
theorem dX3_mayLieAt_26 : decode cX3_mayLieAt 26 = .ok (.getfield 108, 3) := by decide +kernel
theorem dX3_mayLieAt_29 : decode cX3_mayLieAt 29 = .ok (.iconst 4, 1) := by decide +kernel
theorem dX3_mayLieAt_30 : decode cX3_mayLieAt 30 = .ok (.invokevirtual 184, 3) := by decide +kernel
theorem dX3_mayLieAt_33 : decode cX3_mayLieAt 33 = .ok (.ifCond .eq 14, 3) := by decide +kernel
theorem dX3_mayLieAt_36 : decode cX3_mayLieAt 36 = .ok (.aload_n 0, 1) := by decide +kernel
theorem dX3_mayLieAt_37 : decode cX3_mayLieAt 37 = .ok (.getfield 48, 3) := by decide +kernel
theorem dX3_mayLieAt_40 : decode cX3_mayLieAt 40 = .ok (.iload_n 1, 1) := by decide +kernel
theorem dX3_mayLieAt_41 : decode cX3_mayLieAt 41 = .ok (.invokevirtual 246, 3) := by decide +kernel
theorem dX3_mayLieAt_44 : decode cX3_mayLieAt 44 = .ok (.ifCond .eq 7, 3) := by decide +kernel
theorem dX3_mayLieAt_47 : decode cX3_mayLieAt 47 = .ok (.iconst 1, 1) := by decide +kernel
theorem dX3_mayLieAt_48 : decode cX3_mayLieAt 48 = .ok (.goto 4, 3) := by decide +kernel
theorem dX3_mayLieAt_51 : decode cX3_mayLieAt 51 = .ok (.iconst 0, 1) := by decide +kernel
theorem dX3_mayLieAt_52 : decode cX3_mayLieAt 52 = .ok (.ireturn, 1) := by decide +kernel
theorem dX3_move_0 : decode cX3_move 0 = .ok (.aload_n 0, 1) := by decide +kernel
theorem dX3_move_1 : decode cX3_move 1 = .ok (.aload_n 0, 1) := by decide +kernel
theorem dX3_move_2 : decode cX3_move 2 = .ok (.getfield 9, 3) := by decide +kernel
theorem dX3_move_5 : decode cX3_move 5 = .ok (.iload_n 1, 1) := by decide +kernel
theorem dX3_move_6 : decode cX3_move 6 = .ok (.iaload, 1) := by decide +kernel
theorem dX3_move_7 : decode cX3_move 7 = .ok (.aload_n 0, 1) := by decide +kernel
theorem dX3_move_8 : decode cX3_move 8 = .ok (.getfield 15, 3) := by decide +kernel
theorem dX3_move_11 : decode cX3_move 11 = .ok (.iload_n 1, 1) := by decide +kernel
theorem dX3_move_12 : decode cX3_move 12 = .ok (.iaload, 1) := by decide +kernel
theorem dX3_move_13 : decode cX3_move 13 = .ok (.iconst (-1), 1) := by decide +kernel
theorem dX3_move_14 : decode cX3_move 14 = .ok (.invokevirtual 249, 3) := by decide +kernel
theorem dX3_move_17 : decode cX3_move 17 = .ok (.aload_n 0, 1) := by decide +kernel
theorem dX3_move_18 : decode cX3_move 18 = .ok (.getfield 9, 3) := by decide +kernel
theorem dX3_move_21 : decode cX3_move 21 = .ok (.iload_n 1, 1) := by decide +kernel
theorem dX3_move_22 : decode cX3_move 22 = .ok (.iload_n 2, 1) := by decide +kernel
theorem dX3_move_23 : decode cX3_move 23 = .ok (.iastore, 1) := by decide +kernel
theorem dX3_move_24 : decode cX3_move 24 = .ok (.aload_n 0, 1) := by decide +kernel
theorem dX3_move_25 : decode cX3_move 25 = .ok (.getfield 15, 3) := by decide +kernel
theorem dX3_move_28 : decode cX3_move 28 = .ok (.iload_n 1, 1) := by decide +kernel
theorem dX3_move_29 : decode cX3_move 29 = .ok (.iload_n 3, 1) := by decide +kernel
theorem dX3_move_30 : decode cX3_move 30 = .ok (.iastore, 1) := by decide +kernel
theorem dX3_move_31 : decode cX3_move 31 = .ok (.aload_n 0, 1) := by decide +kernel
theorem dX3_move_32 : decode cX3_move 32 = .ok (.iload_n 2, 1) := by decide +kernel
theorem dX3_move_33 : decode cX3_move 33 = .ok (.iload_n 3, 1) := by decide +kernel
theorem dX3_move_34 : decode cX3_move 34 = .ok (.iload_n 1, 1) := by decide +kernel
theorem dX3_move_35 : decode cX3_move 35 = .ok (.invokevirtual 249, 3) := by decide +kernel
theorem dX3_move_38 : decode cX3_move 38 = .ok (.return_, 1) := by decide +kernel
theorem dX3_register_0 : decode cX3_register 0 = .ok (.iload_n 1, 1) := by decide +kernel
theorem dX3_register_1 : decode cX3_register 1 = .ok (.iconst 1, 1) := by decide +kernel
theorem dX3_register_2 : decode cX3_register 2 = .ok (.if_icmp .ne 26, 3) := by decide +kernel
theorem dX3_register_5 : decode cX3_register 5 = .ok (.iload_n 2, 1) := by decide +kernel
theorem dX3_register_6 : decode cX3_register 6 = .ok (.ifCond .lt 22, 3) := by decide +kernel
theorem dX3_register_9 : decode cX3_register 9 = .ok (.iload_n 2, 1) := by decide +kernel
theorem dX3_register_10 : decode cX3_register 10 = .ok (.aload_n 0, 1) := by decide +kernel
theorem dX3_register_11 : decode cX3_register 11 = .ok (.getfield 42, 3) := by decide +kernel
theorem dX3_register_14 : decode cX3_register 14 = .ok (.arraylength, 1) := by decide +kernel
theorem dX3_register_15 : decode cX3_register 15 = .ok (.if_icmp .ge 13, 3) := by decide +kernel
theorem dX3_register_18 : decode cX3_register 18 = .ok (.aload_n 0, 1) := by decide +kernel
theorem dX3_register_19 : decode cX3_register 19 = .ok (.getfield 42, 3) := by decide +kernel
theorem dX3_register_22 : decode cX3_register 22 = .ok (.iload_n 2, 1) := by decide +kernel
theorem dX3_register_23 : decode cX3_register 23 = .ok (.iload_n 3, 1) := by decide +kernel
theorem dX3_register_24 : decode cX3_register 24 = .ok (.iastore, 1) := by decide +kernel
theorem dX3_register_25 : decode cX3_register 25 = .ok (.goto 40, 3) := by decide +kernel
theorem dX3_register_28 : decode cX3_register 28 = .ok (.iload_n 1, 1) := by decide +kernel
theorem dX3_register_29 : decode cX3_register 29 = .ok (.iconst 3, 1) := by decide +kernel
theorem dX3_register_30 : decode cX3_register 30 = .ok (.if_icmp .ne 35, 3) := by decide +kernel
theorem dX3_register_33 : decode cX3_register 33 = .ok (.iload_n 2, 1) := by decide +kernel
theorem dX3_register_34 : decode cX3_register 34 = .ok (.ifCond .lt 31, 3) := by decide +kernel
theorem dX3_register_37 : decode cX3_register 37 = .ok (.iload_n 2, 1) := by decide +kernel
theorem dX3_register_38 : decode cX3_register 38 = .ok (.aload_n 0, 1) := by decide +kernel
theorem dX3_register_39 : decode cX3_register 39 = .ok (.getfield 36, 3) := by decide +kernel
theorem dX3_register_42 : decode cX3_register 42 = .ok (.arraylength, 1) := by decide +kernel
theorem dX3_register_43 : decode cX3_register 43 = .ok (.if_icmp .ge 22, 3) := by decide +kernel
theorem dX3_register_46 : decode cX3_register 46 = .ok (.aload_n 0, 1) := by decide +kernel
theorem dX3_register_47 : decode cX3_register 47 = .ok (.getfield 36, 3) := by decide +kernel
theorem dX3_register_50 : decode cX3_register 50 = .ok (.iload_n 2, 1) := by decide +kernel
theorem dX3_register_51 : decode cX3_register 51 = .ok (.dup2, 1) := by decide +kernel
theorem dX3_register_52 : decode cX3_register 52 = .ok (.iaload, 1) := by decide +kernel
theorem dX3_register_53 : decode cX3_register 53 = .ok (.iload_n 3, 1) := by decide +kernel
theorem dX3_register_54 : decode cX3_register 54 = .ok (.iconst (-1), 1) := by decide +kernel
theorem dX3_register_55 : decode cX3_register 55 = .ok (.if_icmp .ne 7, 3) := by decide +kernel
theorem dX3_register_58 : decode cX3_register 58 = .ok (.iconst (-1), 1) := by decide +kernel
theorem dX3_register_59 : decode cX3_register 59 = .ok (.goto 4, 3) := by decide +kernel
theorem dX3_register_62 : decode cX3_register 62 = .ok (.iconst 1, 1) := by decide +kernel
theorem dX3_register_63 : decode cX3_register 63 = .ok (.iadd, 1) := by decide +kernel
theorem dX3_register_64 : decode cX3_register 64 = .ok (.iastore, 1) := by decide +kernel
theorem dX3_register_65 : decode cX3_register 65 = .ok (.return_, 1) := by decide +kernel
theorem dX3_bagAround_0 : decode cX3_bagAround 0 = .ok (.aload_n 0, 1) := by decide +kernel
theorem dX3_bagAround_1 : decode cX3_bagAround 1 = .ok (.getfield 9, 3) := by decide +kernel
theorem dX3_bagAround_4 : decode cX3_bagAround 4 = .ok (.iload_n 1, 1) := by decide +kernel
theorem dX3_bagAround_5 : decode cX3_bagAround 5 = .ok (.iaload, 1) := by decide +kernel
theorem dX3_bagAround_6 : decode cX3_bagAround 6 = .ok (.iconst 3, 1) := by decide +kernel
theorem dX3_bagAround_7 : decode cX3_bagAround 7 = .ok (.if_icmp .ne 12, 3) := by decide +kernel
theorem dX3_bagAround_10 : decode cX3_bagAround 10 = .ok (.aload_n 0, 1) := by decide +kernel
theorem dX3_bagAround_11 : decode cX3_bagAround 11 = .ok (.getfield 15, 3) := by decide +kernel
theorem dX3_bagAround_14 : decode cX3_bagAround 14 = .ok (.iload_n 1, 1) := by decide +kernel
theorem dX3_bagAround_15 : decode cX3_bagAround 15 = .ok (.iaload, 1) := by decide +kernel
theorem dX3_bagAround_16 : decode cX3_bagAround 16 = .ok (.goto 4, 3) := by decide +kernel
theorem dX3_bagAround_19 : decode cX3_bagAround 19 = .ok (.iconst (-1), 1) := by decide +kernel
theorem dX3_bagAround_20 : decode cX3_bagAround 20 = .ok (.ireturn, 1) := by decide +kernel
theorem dX3_outermost_0 : decode cX3_outermost 0 = .ok (.iload_n 1, 1) := by decide +kernel
theorem dX3_outermost_1 : decode cX3_outermost 1 = .ok (.istore_n 2, 1) := by decide +kernel
theorem dX3_outermost_2 : decode cX3_outermost 2 = .ok (.aload_n 0, 1) := by decide +kernel
theorem dX3_outermost_3 : decode cX3_outermost 3 = .ok (.iload_n 1, 1) := by decide +kernel
theorem dX3_outermost_4 : decode cX3_outermost 4 = .ok (.invokevirtual 218, 3) := by decide +kernel
theorem dX3_outermost_7 : decode cX3_outermost 7 = .ok (.istore_n 3, 1) := by decide +kernel
theorem dX3_outermost_8 : decode cX3_outermost 8 = .ok (.iconst 0, 1) := by decide +kernel
theorem dX3_outermost_9 : decode cX3_outermost 9 = .ok (.istore 4, 2) := by decide +kernel
theorem dX3_outermost_11 : decode cX3_outermost 11 = .ok (.iload 4, 2) := by decide +kernel
theorem dX3_outermost_13 : decode cX3_outermost 13 = .ok (.iconst 4, 1) := by decide +kernel
theorem dX3_outermost_14 : decode cX3_outermost 14 = .ok (.if_icmp .ge 28, 3) := by decide +kernel
theorem dX3_outermost_17 : decode cX3_outermost 17 = .ok (.aload_n 0, 1) := by decide +kernel
theorem dX3_outermost_18 : decode cX3_outermost 18 = .ok (.getfield 48, 3) := by decide +kernel
theorem dX3_outermost_21 : decode cX3_outermost 21 = .ok (.iload_n 3, 1) := by decide +kernel
theorem dX3_outermost_22 : decode cX3_outermost 22 = .ok (.invokevirtual 73, 3) := by decide +kernel
theorem dX3_outermost_25 : decode cX3_outermost 25 = .ok (.ifCond .eq 17, 3) := by decide +kernel
theorem dX3_outermost_28 : decode cX3_outermost 28 = .ok (.iload_n 3, 1) := by decide +kernel
theorem dX3_outermost_29 : decode cX3_outermost 29 = .ok (.istore_n 2, 1) := by decide +kernel
theorem dX3_outermost_30 : decode cX3_outermost 30 = .ok (.aload_n 0, 1) := by decide +kernel
theorem dX3_outermost_31 : decode cX3_outermost 31 = .ok (.iload_n 3, 1) := by decide +kernel
theorem dX3_outermost_32 : decode cX3_outermost 32 = .ok (.invokevirtual 218, 3) := by decide +kernel
theorem dX3_outermost_35 : decode cX3_outermost 35 = .ok (.istore_n 3, 1) := by decide +kernel
theorem dX3_outermost_36 : decode cX3_outermost 36 = .ok (.iinc 4 1, 3) := by decide +kernel
theorem dX3_outermost_39 : decode cX3_outermost 39 = .ok (.goto (-28), 3) := by decide +kernel
theorem dX3_outermost_42 : decode cX3_outermost 42 = .ok (.iload_n 2, 1) := by decide +kernel
theorem dX3_outermost_43 : decode cX3_outermost 43 = .ok (.ireturn, 1) := by decide +kernel
theorem dX3_isFree_0 : decode cX3_isFree 0 = .ok (.aload_n 0, 1) := by decide +kernel
theorem dX3_isFree_1 : decode cX3_isFree 1 = .ok (.iload_n 1, 1) := by decide +kernel
theorem dX3_isFree_2 : decode cX3_isFree 2 = .ok (.invokevirtual 218, 3) := by decide +kernel
theorem dX3_isFree_5 : decode cX3_isFree 5 = .ok (.istore_n 2, 1) := by decide +kernel
theorem dX3_isFree_6 : decode cX3_isFree 6 = .ok (.iconst 0, 1) := by decide +kernel
theorem dX3_isFree_7 : decode cX3_isFree 7 = .ok (.istore_n 3, 1) := by decide +kernel
theorem dX3_isFree_8 : decode cX3_isFree 8 = .ok (.iload_n 3, 1) := by decide +kernel
theorem dX3_isFree_9 : decode cX3_isFree 9 = .ok (.iconst 4, 1) := by decide +kernel
theorem dX3_isFree_10 : decode cX3_isFree 10 = .ok (.if_icmp .ge 38, 3) := by decide +kernel
theorem dX3_isFree_13 : decode cX3_isFree 13 = .ok (.aload_n 0, 1) := by decide +kernel
theorem dX3_isFree_14 : decode cX3_isFree 14 = .ok (.getfield 48, 3) := by decide +kernel
theorem dX3_isFree_17 : decode cX3_isFree 17 = .ok (.iload_n 2, 1) := by decide +kernel
theorem dX3_isFree_18 : decode cX3_isFree 18 = .ok (.invokevirtual 73, 3) := by decide +kernel
theorem dX3_isFree_21 : decode cX3_isFree 21 = .ok (.ifCond .eq 27, 3) := by decide +kernel
theorem dX3_isFree_24 : decode cX3_isFree 24 = .ok (.aload_n 0, 1) := by decide +kernel
theorem dX3_isFree_25 : decode cX3_isFree 25 = .ok (.getfield 21, 3) := by decide +kernel
theorem dX3_isFree_28 : decode cX3_isFree 28 = .ok (.iload_n 2, 1) := by decide +kernel
theorem dX3_isFree_29 : decode cX3_isFree 29 = .ok (.iaload, 1) := by decide +kernel
theorem dX3_isFree_30 : decode cX3_isFree 30 = .ok (.iconst (-1), 1) := by decide +kernel
theorem dX3_isFree_31 : decode cX3_isFree 31 = .ok (.if_icmp .eq 5, 3) := by decide +kernel
theorem dX3_isFree_34 : decode cX3_isFree 34 = .ok (.iconst 0, 1) := by decide +kernel
theorem dX3_isFree_35 : decode cX3_isFree 35 = .ok (.ireturn, 1) := by decide +kernel
theorem dX3_isFree_36 : decode cX3_isFree 36 = .ok (.aload_n 0, 1) := by decide +kernel
theorem dX3_isFree_37 : decode cX3_isFree 37 = .ok (.iload_n 2, 1) := by decide +kernel
theorem dX3_isFree_38 : decode cX3_isFree 38 = .ok (.invokevirtual 218, 3) := by decide +kernel
theorem dX3_isFree_41 : decode cX3_isFree 41 = .ok (.istore_n 2, 1) := by decide +kernel
theorem dX3_isFree_42 : decode cX3_isFree 42 = .ok (.iinc 3 1, 3) := by decide +kernel
theorem dX3_isFree_45 : decode cX3_isFree 45 = .ok (.goto (-37), 3) := by decide +kernel
theorem dX3_isFree_48 : decode cX3_isFree 48 = .ok (.iconst 1, 1) := by decide +kernel
theorem dX3_isFree_49 : decode cX3_isFree 49 = .ok (.ireturn, 1) := by decide +kernel
theorem dX3_deepestIn_0 : decode cX3_deepestIn 0 = .ok (.iconst 0, 1) := by decide +kernel
theorem dX3_deepestIn_1 : decode cX3_deepestIn 1 = .ok (.istore_n 2, 1) := by decide +kernel
theorem dX3_deepestIn_2 : decode cX3_deepestIn 2 = .ok (.iconst 0, 1) := by decide +kernel
theorem dX3_deepestIn_3 : decode cX3_deepestIn 3 = .ok (.istore_n 3, 1) := by decide +kernel
theorem dX3_deepestIn_4 : decode cX3_deepestIn 4 = .ok (.iload_n 3, 1) := by decide +kernel
theorem dX3_deepestIn_5 : decode cX3_deepestIn 5 = .ok (.aload_n 0, 1) := by decide +kernel
theorem dX3_deepestIn_6 : decode cX3_deepestIn 6 = .ok (.getfield 48, 3) := by decide +kernel
theorem dX3_deepestIn_9 : decode cX3_deepestIn 9 = .ok (.getfield 87, 3) := by decide +kernel
theorem dX3_deepestIn_12 : decode cX3_deepestIn 12 = .ok (.if_icmp .ge 20, 3) := by decide +kernel
theorem dX3_deepestIn_15 : decode cX3_deepestIn 15 = .ok (.iload_n 2, 1) := by decide +kernel
theorem dX3_deepestIn_16 : decode cX3_deepestIn 16 = .ok (.aload_n 0, 1) := by decide +kernel
theorem dX3_deepestIn_17 : decode cX3_deepestIn 17 = .ok (.iload_n 3, 1) := by decide +kernel
theorem dX3_deepestIn_18 : decode cX3_deepestIn 18 = .ok (.iload_n 1, 1) := by decide +kernel
theorem dX3_deepestIn_19 : decode cX3_deepestIn 19 = .ok (.invokevirtual 252, 3) := by decide +kernel
theorem dX3_deepestIn_22 : decode cX3_deepestIn 22 = .ok (.invokestatic 255, 3) := by decide +kernel
theorem dX3_deepestIn_25 : decode cX3_deepestIn 25 = .ok (.istore_n 2, 1) := by decide +kernel
theorem dX3_deepestIn_26 : decode cX3_deepestIn 26 = .ok (.iinc 3 1, 3) := by decide +kernel
theorem dX3_deepestIn_29 : decode cX3_deepestIn 29 = .ok (.goto (-25), 3) := by decide +kernel
theorem dX3_deepestIn_32 : decode cX3_deepestIn 32 = .ok (.iload_n 2, 1) := by decide +kernel
theorem dX3_deepestIn_33 : decode cX3_deepestIn 33 = .ok (.ireturn, 1) := by decide +kernel
theorem dX3_stepsUpTo_0 : decode cX3_stepsUpTo 0 = .ok (.aload_n 0, 1) := by decide +kernel
theorem dX3_stepsUpTo_1 : decode cX3_stepsUpTo 1 = .ok (.iload_n 1, 1) := by decide +kernel
theorem dX3_stepsUpTo_2 : decode cX3_stepsUpTo 2 = .ok (.invokevirtual 218, 3) := by decide +kernel
theorem dX3_stepsUpTo_5 : decode cX3_stepsUpTo 5 = .ok (.istore_n 3, 1) := by decide +kernel
theorem dX3_stepsUpTo_6 : decode cX3_stepsUpTo 6 = .ok (.iconst 1, 1) := by decide +kernel
theorem dX3_stepsUpTo_7 : decode cX3_stepsUpTo 7 = .ok (.istore 4, 2) := by decide +kernel
theorem dX3_stepsUpTo_9 : decode cX3_stepsUpTo 9 = .ok (.iload 4, 2) := by decide +kernel
theorem dX3_stepsUpTo_11 : decode cX3_stepsUpTo 11 = .ok (.iconst 4, 1) := by decide +kernel
theorem dX3_stepsUpTo_12 : decode cX3_stepsUpTo 12 = .ok (.if_icmp .gt 34, 3) := by decide +kernel
theorem dX3_stepsUpTo_15 : decode cX3_stepsUpTo 15 = .ok (.aload_n 0, 1) := by decide +kernel
theorem dX3_stepsUpTo_16 : decode cX3_stepsUpTo 16 = .ok (.getfield 48, 3) := by decide +kernel
theorem dX3_stepsUpTo_19 : decode cX3_stepsUpTo 19 = .ok (.iload_n 3, 1) := by decide +kernel
theorem dX3_stepsUpTo_20 : decode cX3_stepsUpTo 20 = .ok (.invokevirtual 73, 3) := by decide +kernel
theorem dX3_stepsUpTo_23 : decode cX3_stepsUpTo 23 = .ok (.ifCond .eq 23, 3) := by decide +kernel
theorem dX3_stepsUpTo_26 : decode cX3_stepsUpTo 26 = .ok (.iload_n 3, 1) := by decide +kernel
theorem dX3_stepsUpTo_27 : decode cX3_stepsUpTo 27 = .ok (.iload_n 2, 1) := by decide +kernel
theorem dX3_stepsUpTo_28 : decode cX3_stepsUpTo 28 = .ok (.if_icmp .ne 6, 3) := by decide +kernel
theorem dX3_stepsUpTo_31 : decode cX3_stepsUpTo 31 = .ok (.iload 4, 2) := by decide +kernel
theorem dX3_stepsUpTo_33 : decode cX3_stepsUpTo 33 = .ok (.ireturn, 1) := by decide +kernel
theorem dX3_stepsUpTo_34 : decode cX3_stepsUpTo 34 = .ok (.aload_n 0, 1) := by decide +kernel
theorem dX3_stepsUpTo_35 : decode cX3_stepsUpTo 35 = .ok (.iload_n 3, 1) := by decide +kernel
theorem dX3_stepsUpTo_36 : decode cX3_stepsUpTo 36 = .ok (.invokevirtual 218, 3) := by decide +kernel
theorem dX3_stepsUpTo_39 : decode cX3_stepsUpTo 39 = .ok (.istore_n 3, 1) := by decide +kernel
theorem dX3_stepsUpTo_40 : decode cX3_stepsUpTo 40 = .ok (.iinc 4 1, 3) := by decide +kernel
theorem dX3_stepsUpTo_43 : decode cX3_stepsUpTo 43 = .ok (.goto (-34), 3) := by decide +kernel
theorem dX3_stepsUpTo_46 : decode cX3_stepsUpTo 46 = .ok (.iconst 0, 1) := by decide +kernel
theorem dX3_stepsUpTo_47 : decode cX3_stepsUpTo 47 = .ok (.ireturn, 1) := by decide +kernel
theorem dX3_isAnyOfItInHand_0 : decode cX3_isAnyOfItInHand 0 = .ok (.iconst 0, 1) := by decide +kernel
theorem dX3_isAnyOfItInHand_1 : decode cX3_isAnyOfItInHand 1 = .ok (.istore_n 1, 1) := by decide +kernel
theorem dX3_isAnyOfItInHand_2 : decode cX3_isAnyOfItInHand 2 = .ok (.iload_n 1, 1) := by decide +kernel
theorem dX3_isAnyOfItInHand_3 : decode cX3_isAnyOfItInHand 3 = .ok (.aload_n 0, 1) := by decide +kernel
theorem dX3_isAnyOfItInHand_4 : decode cX3_isAnyOfItInHand 4 = .ok (.getfield 48, 3) := by decide +kernel
theorem dX3_isAnyOfItInHand_7 : decode cX3_isAnyOfItInHand 7 = .ok (.getfield 87, 3) := by decide +kernel
theorem dX3_isAnyOfItInHand_10 : decode cX3_isAnyOfItInHand 10 = .ok (.if_icmp .ge 33, 3) := by decide +kernel
theorem dX3_isAnyOfItInHand_13 : decode cX3_isAnyOfItInHand 13 = .ok (.aload_n 0, 1) := by decide +kernel
theorem dX3_isAnyOfItInHand_14 : decode cX3_isAnyOfItInHand 14 = .ok (.getfield 9, 3) := by decide +kernel
theorem dX3_isAnyOfItInHand_17 : decode cX3_isAnyOfItInHand 17 = .ok (.iload_n 1, 1) := by decide +kernel
theorem dX3_isAnyOfItInHand_18 : decode cX3_isAnyOfItInHand 18 = .ok (.iaload, 1) := by decide +kernel
theorem dX3_isAnyOfItInHand_19 : decode cX3_isAnyOfItInHand 19 = .ok (.iconst 2, 1) := by decide +kernel
theorem dX3_isAnyOfItInHand_20 : decode cX3_isAnyOfItInHand 20 = .ok (.if_icmp .ne 17, 3) := by decide +kernel
theorem dX3_isAnyOfItInHand_23 : decode cX3_isAnyOfItInHand 23 = .ok (.aload_n 0, 1) := by decide +kernel
theorem dX3_isAnyOfItInHand_24 : decode cX3_isAnyOfItInHand 24 = .ok (.iload_n 1, 1) := by decide +kernel
theorem dX3_isAnyOfItInHand_25 : decode cX3_isAnyOfItInHand 25 = .ok (.aload_n 0, 1) := by decide +kernel
theorem dX3_isAnyOfItInHand_26 : decode cX3_isAnyOfItInHand 26 = .ok (.getfield 108, 3) := by decide +kernel
theorem dX3_isAnyOfItInHand_29 : decode cX3_isAnyOfItInHand 29 = .ok (.invokevirtual 260, 3) := by decide +kernel
theorem dX3_isAnyOfItInHand_32 : decode cX3_isAnyOfItInHand 32 = .ok (.ifCond .eq 5, 3) := by decide +kernel
theorem dX3_isAnyOfItInHand_35 : decode cX3_isAnyOfItInHand 35 = .ok (.iconst 1, 1) := by decide +kernel
theorem dX3_isAnyOfItInHand_36 : decode cX3_isAnyOfItInHand 36 = .ok (.ireturn, 1) := by decide +kernel
theorem dX3_isAnyOfItInHand_37 : decode cX3_isAnyOfItInHand 37 = .ok (.iinc 1 1, 3) := by decide +kernel
theorem dX3_isAnyOfItInHand_40 : decode cX3_isAnyOfItInHand 40 = .ok (.goto (-38), 3) := by decide +kernel
theorem dX3_isAnyOfItInHand_43 : decode cX3_isAnyOfItInHand 43 = .ok (.iconst 0, 1) := by decide +kernel
theorem dX3_isAnyOfItInHand_44 : decode cX3_isAnyOfItInHand 44 = .ok (.ireturn, 1) := by decide +kernel
theorem dX3_isOf_0 : decode cX3_isOf 0 = .ok (.aload_n 0, 1) := by decide +kernel
theorem dX3_isOf_1 : decode cX3_isOf 1 = .ok (.getfield 39, 3) := by decide +kernel
theorem dX3_isOf_4 : decode cX3_isOf 4 = .ok (.iload_n 1, 1) := by decide +kernel
theorem dX3_isOf_5 : decode cX3_isOf 5 = .ok (.iaload, 1) := by decide +kernel
theorem dX3_isOf_6 : decode cX3_isOf 6 = .ok (.istore_n 3, 1) := by decide +kernel
theorem dX3_isOf_7 : decode cX3_isOf 7 = .ok (.iconst 0, 1) := by decide +kernel
theorem dX3_isOf_8 : decode cX3_isOf 8 = .ok (.istore 4, 2) := by decide +kernel
theorem dX3_isOf_10 : decode cX3_isOf 10 = .ok (.iload 4, 2) := by decide +kernel
theorem dX3_isOf_12 : decode cX3_isOf 12 = .ok (.bipush 60, 2) := by decide +kernel
theorem dX3_isOf_14 : decode cX3_isOf 14 = .ok (.if_icmp .ge 34, 3) := by decide +kernel
theorem dX3_isOf_17 : decode cX3_isOf 17 = .ok (.aload_n 0, 1) := by decide +kernel
theorem dX3_isOf_18 : decode cX3_isOf 18 = .ok (.getfield 48, 3) := by decide +kernel
theorem dX3_isOf_21 : decode cX3_isOf 21 = .ok (.iload_n 3, 1) := by decide +kernel
theorem dX3_isOf_22 : decode cX3_isOf 22 = .ok (.invokevirtual 73, 3) := by decide +kernel
theorem dX3_isOf_25 : decode cX3_isOf 25 = .ok (.ifCond .eq 23, 3) := by decide +kernel
theorem dX3_isOf_28 : decode cX3_isOf 28 = .ok (.iload_n 3, 1) := by decide +kernel
theorem dX3_isOf_29 : decode cX3_isOf 29 = .ok (.iload_n 2, 1) := by decide +kernel
theorem dX3_isOf_30 : decode cX3_isOf 30 = .ok (.if_icmp .ne 5, 3) := by decide +kernel
theorem dX3_isOf_33 : decode cX3_isOf 33 = .ok (.iconst 1, 1) := by decide +kernel
theorem dX3_isOf_34 : decode cX3_isOf 34 = .ok (.ireturn, 1) := by decide +kernel
theorem dX3_isOf_35 : decode cX3_isOf 35 = .ok (.aload_n 0, 1) := by decide +kernel
theorem dX3_isOf_36 : decode cX3_isOf 36 = .ok (.getfield 39, 3) := by decide +kernel
theorem dX3_isOf_39 : decode cX3_isOf 39 = .ok (.iload_n 3, 1) := by decide +kernel
theorem dX3_isOf_40 : decode cX3_isOf 40 = .ok (.iaload, 1) := by decide +kernel
theorem dX3_isOf_41 : decode cX3_isOf 41 = .ok (.istore_n 3, 1) := by decide +kernel
theorem dX3_isOf_42 : decode cX3_isOf 42 = .ok (.iinc 4 1, 3) := by decide +kernel
theorem dX3_isOf_45 : decode cX3_isOf 45 = .ok (.goto (-35), 3) := by decide +kernel
theorem dX3_isOf_48 : decode cX3_isOf 48 = .ok (.iconst 0, 1) := by decide +kernel
theorem dX3_isOf_49 : decode cX3_isOf 49 = .ok (.ireturn, 1) := by decide +kernel
theorem dX4_init_0 : decode cX4_init 0 = .ok (.aload_n 0, 1) := by decide +kernel
theorem dX4_init_1 : decode cX4_init 1 = .ok (.invokespecial 3, 3) := by decide +kernel
theorem dX4_init_4 : decode cX4_init 4 = .ok (.aload_n 0, 1) := by decide +kernel
theorem dX4_init_5 : decode cX4_init 5 = .ok (.bipush 20, 2) := by decide +kernel
theorem dX4_init_7 : decode cX4_init 7 = .ok (.newarray .boolean, 2) := by decide +kernel
theorem dX4_init_9 : decode cX4_init 9 = .ok (.putfield 9, 3) := by decide +kernel
theorem dX4_init_12 : decode cX4_init 12 = .ok (.aload_n 0, 1) := by decide +kernel
theorem dX4_init_13 : decode cX4_init 13 = .ok (.bipush 8, 2) := by decide +kernel
theorem dX4_init_15 : decode cX4_init 15 = .ok (.newarray .boolean, 2) := by decide +kernel
theorem dX4_init_17 : decode cX4_init 17 = .ok (.putfield 15, 3) := by decide +kernel
theorem dX4_init_20 : decode cX4_init 20 = .ok (.aload_n 0, 1) := by decide +kernel
theorem dX4_init_21 : decode cX4_init 21 = .ok (.bipush 6, 2) := by decide +kernel
theorem dX4_init_23 : decode cX4_init 23 = .ok (.newarray .int, 2) := by decide +kernel
theorem dX4_init_25 : decode cX4_init 25 = .ok (.putfield 18, 3) := by decide +kernel
theorem dX4_init_28 : decode cX4_init 28 = .ok (.aload_n 0, 1) := by decide +kernel
theorem dX4_init_29 : decode cX4_init 29 = .ok (.bipush 60, 2) := by decide +kernel
theorem dX4_init_31 : decode cX4_init 31 = .ok (.newarray .int, 2) := by decide +kernel
theorem dX4_init_33 : decode cX4_init 33 = .ok (.putfield 22, 3) := by decide +kernel
theorem dX4_init_36 : decode cX4_init 36 = .ok (.aload_n 0, 1) := by decide +kernel
theorem dX4_init_37 : decode cX4_init 37 = .ok (.bipush 60, 2) := by decide +kernel
theorem dX4_init_39 : decode cX4_init 39 = .ok (.newarray .int, 2) := by decide +kernel
theorem dX4_init_41 : decode cX4_init 41 = .ok (.putfield 25, 3) := by decide +kernel
theorem dX4_init_44 : decode cX4_init 44 = .ok (.aload_n 0, 1) := by decide +kernel
theorem dX4_init_45 : decode cX4_init 45 = .ok (.getfield 18, 3) := by decide +kernel
theorem dX4_init_48 : decode cX4_init 48 = .ok (.iconst (-1), 1) := by decide +kernel
theorem dX4_init_49 : decode cX4_init 49 = .ok (.invokestatic 28, 3) := by decide +kernel
theorem dX4_init_52 : decode cX4_init 52 = .ok (.return_, 1) := by decide +kernel
theorem dX4_addHand_0 : decode cX4_addHand 0 = .ok (.aload_n 0, 1) := by decide +kernel
theorem dX4_addHand_1 : decode cX4_addHand 1 = .ok (.getfield 34, 3) := by decide +kernel
theorem dX4_addHand_4 : decode cX4_addHand 4 = .ok (.bipush 20, 2) := by decide +kernel
theorem dX4_addHand_6 : decode cX4_addHand 6 = .ok (.if_icmp .lt 5, 3) := by decide +kernel
theorem dX4_addHand_9 : decode cX4_addHand 9 = .ok (.iconst (-1), 1) := by decide +kernel
theorem dX4_addHand_10 : decode cX4_addHand 10 = .ok (.ireturn, 1) := by decide +kernel
theorem dX4_addHand_11 : decode cX4_addHand 11 = .ok (.aload_n 0, 1) := by decide +kernel
theorem dX4_addHand_12 : decode cX4_addHand 12 = .ok (.getfield 9, 3) := by decide +kernel
theorem dX4_addHand_15 : decode cX4_addHand 15 = .ok (.aload_n 0, 1) := by decide +kernel
theorem dX4_addHand_16 : decode cX4_addHand 16 = .ok (.getfield 34, 3) := by decide +kernel
theorem dX4_addHand_19 : decode cX4_addHand 19 = .ok (.iload_n 1, 1) := by decide +kernel
theorem dX4_addHand_20 : decode cX4_addHand 20 = .ok (.bastore, 1) := by decide +kernel
theorem dX4_addHand_21 : decode cX4_addHand 21 = .ok (.aload_n 0, 1) := by decide +kernel
theorem dX4_addHand_22 : decode cX4_addHand 22 = .ok (.dup, 1) := by decide +kernel
theorem dX4_addHand_23 : decode cX4_addHand 23 = .ok (.getfield 34, 3) := by decide +kernel
theorem dX4_addHand_26 : decode cX4_addHand 26 = .ok (.iconst 1, 1) := by decide +kernel
theorem dX4_addHand_27 : decode cX4_addHand 27 = .ok (.iadd, 1) := by decide +kernel
theorem dX4_addHand_28 : decode cX4_addHand 28 = .ok (.putfield 34, 3) := by decide +kernel
theorem dX4_addHand_31 : decode cX4_addHand 31 = .ok (.aload_n 0, 1) := by decide +kernel
theorem dX4_addHand_32 : decode cX4_addHand 32 = .ok (.getfield 34, 3) := by decide +kernel
theorem dX4_addHand_35 : decode cX4_addHand 35 = .ok (.iconst 1, 1) := by decide +kernel
theorem dX4_addHand_36 : decode cX4_addHand 36 = .ok (.isub, 1) := by decide +kernel
theorem dX4_addHand_37 : decode cX4_addHand 37 = .ok (.ireturn, 1) := by decide +kernel
theorem dX4_addShelf_0 : decode cX4_addShelf 0 = .ok (.aload_n 0, 1) := by decide +kernel
theorem dX4_addShelf_1 : decode cX4_addShelf 1 = .ok (.getfield 38, 3) := by decide +kernel
theorem dX4_addShelf_4 : decode cX4_addShelf 4 = .ok (.bipush 8, 2) := by decide +kernel
theorem dX4_addShelf_6 : decode cX4_addShelf 6 = .ok (.if_icmp .lt 5, 3) := by decide +kernel
theorem dX4_addShelf_9 : decode cX4_addShelf 9 = .ok (.iconst (-1), 1) := by decide +kernel
theorem dX4_addShelf_10 : decode cX4_addShelf 10 = .ok (.ireturn, 1) := by decide +kernel
theorem dX4_addShelf_11 : decode cX4_addShelf 11 = .ok (.aload_n 0, 1) := by decide +kernel
theorem dX4_addShelf_12 : decode cX4_addShelf 12 = .ok (.getfield 15, 3) := by decide +kernel
theorem dX4_addShelf_15 : decode cX4_addShelf 15 = .ok (.aload_n 0, 1) := by decide +kernel
theorem dX4_addShelf_16 : decode cX4_addShelf 16 = .ok (.getfield 38, 3) := by decide +kernel
theorem dX4_addShelf_19 : decode cX4_addShelf 19 = .ok (.iload_n 1, 1) := by decide +kernel
theorem dX4_addShelf_20 : decode cX4_addShelf 20 = .ok (.bastore, 1) := by decide +kernel
theorem dX4_addShelf_21 : decode cX4_addShelf 21 = .ok (.aload_n 0, 1) := by decide +kernel
theorem dX4_addShelf_22 : decode cX4_addShelf 22 = .ok (.dup, 1) := by decide +kernel
theorem dX4_addShelf_23 : decode cX4_addShelf 23 = .ok (.getfield 38, 3) := by decide +kernel
theorem dX4_addShelf_26 : decode cX4_addShelf 26 = .ok (.iconst 1, 1) := by decide +kernel
theorem dX4_addShelf_27 : decode cX4_addShelf 27 = .ok (.iadd, 1) := by decide +kernel
theorem dX4_addShelf_28 : decode cX4_addShelf 28 = .ok (.putfield 38, 3) := by decide +kernel
theorem dX4_addShelf_31 : decode cX4_addShelf 31 = .ok (.aload_n 0, 1) := by decide +kernel
theorem dX4_addShelf_32 : decode cX4_addShelf 32 = .ok (.getfield 38, 3) := by decide +kernel
theorem dX4_addShelf_35 : decode cX4_addShelf 35 = .ok (.iconst 1, 1) := by decide +kernel
theorem dX4_addShelf_36 : decode cX4_addShelf 36 = .ok (.isub, 1) := by decide +kernel
theorem dX4_addShelf_37 : decode cX4_addShelf 37 = .ok (.ireturn, 1) := by decide +kernel
theorem dX4_addThing_0 : decode cX4_addThing 0 = .ok (.aload_n 0, 1) := by decide +kernel
theorem dX4_addThing_1 : decode cX4_addThing 1 = .ok (.getfield 41, 3) := by decide +kernel
theorem dX4_addThing_4 : decode cX4_addThing 4 = .ok (.bipush 60, 2) := by decide +kernel
theorem dX4_addThing_6 : decode cX4_addThing 6 = .ok (.if_icmp .lt 5, 3) := by decide +kernel
theorem dX4_addThing_9 : decode cX4_addThing 9 = .ok (.iconst (-1), 1) := by decide +kernel
theorem dX4_addThing_10 : decode cX4_addThing 10 = .ok (.ireturn, 1) := by decide +kernel
theorem dX4_addThing_11 : decode cX4_addThing 11 = .ok (.aload_n 0, 1) := by decide +kernel
theorem dX4_addThing_12 : decode cX4_addThing 12 = .ok (.getfield 22, 3) := by decide +kernel
theorem dX4_addThing_15 : decode cX4_addThing 15 = .ok (.aload_n 0, 1) := by decide +kernel
theorem dX4_addThing_16 : decode cX4_addThing 16 = .ok (.getfield 41, 3) := by decide +kernel
theorem dX4_addThing_19 : decode cX4_addThing 19 = .ok (.iload_n 1, 1) := by decide +kernel
theorem dX4_addThing_20 : decode cX4_addThing 20 = .ok (.iastore, 1) := by decide +kernel
theorem dX4_addThing_21 : decode cX4_addThing 21 = .ok (.aload_n 0, 1) := by decide +kernel
theorem dX4_addThing_22 : decode cX4_addThing 22 = .ok (.getfield 25, 3) := by decide +kernel
theorem dX4_addThing_25 : decode cX4_addThing 25 = .ok (.aload_n 0, 1) := by decide +kernel
theorem dX4_addThing_26 : decode cX4_addThing 26 = .ok (.getfield 41, 3) := by decide +kernel
theorem dX4_addThing_29 : decode cX4_addThing 29 = .ok (.iload_n 2, 1) := by decide +kernel
theorem dX4_addThing_30 : decode cX4_addThing 30 = .ok (.iastore, 1) := by decide +kernel
theorem dX4_addThing_31 : decode cX4_addThing 31 = .ok (.aload_n 0, 1) := by decide +kernel
theorem dX4_addThing_32 : decode cX4_addThing 32 = .ok (.dup, 1) := by decide +kernel
theorem dX4_addThing_33 : decode cX4_addThing 33 = .ok (.getfield 41, 3) := by decide +kernel
theorem dX4_addThing_36 : decode cX4_addThing 36 = .ok (.iconst 1, 1) := by decide +kernel
theorem dX4_addThing_37 : decode cX4_addThing 37 = .ok (.iadd, 1) := by decide +kernel
theorem dX4_addThing_38 : decode cX4_addThing 38 = .ok (.putfield 41, 3) := by decide +kernel
theorem dX4_addThing_41 : decode cX4_addThing 41 = .ok (.aload_n 0, 1) := by decide +kernel
theorem dX4_addThing_42 : decode cX4_addThing 42 = .ok (.getfield 41, 3) := by decide +kernel
theorem dX4_addThing_45 : decode cX4_addThing 45 = .ok (.iconst 1, 1) := by decide +kernel
theorem dX4_addThing_46 : decode cX4_addThing 46 = .ok (.isub, 1) := by decide +kernel
theorem dX4_addThing_47 : decode cX4_addThing 47 = .ok (.ireturn, 1) := by decide +kernel
theorem dX4_giveOut_0 : decode cX4_giveOut 0 = .ok (.iload_n 1, 1) := by decide +kernel
theorem dX4_giveOut_1 : decode cX4_giveOut 1 = .ok (.ifCond .lt 16, 3) := by decide +kernel
theorem dX4_giveOut_4 : decode cX4_giveOut 4 = .ok (.iload_n 1, 1) := by decide +kernel
theorem dX4_giveOut_5 : decode cX4_giveOut 5 = .ok (.bipush 6, 2) := by decide +kernel
theorem dX4_giveOut_7 : decode cX4_giveOut 7 = .ok (.if_icmp .ge 10, 3) := by decide +kernel
theorem dX4_giveOut_10 : decode cX4_giveOut 10 = .ok (.aload_n 0, 1) := by decide +kernel
theorem dX4_giveOut_11 : decode cX4_giveOut 11 = .ok (.getfield 18, 3) := by decide +kernel
theorem dX4_giveOut_14 : decode cX4_giveOut 14 = .ok (.iload_n 1, 1) := by decide +kernel
theorem dX4_giveOut_15 : decode cX4_giveOut 15 = .ok (.iload_n 2, 1) := by decide +kernel
theorem dX4_giveOut_16 : decode cX4_giveOut 16 = .ok (.iastore, 1) := by decide +kernel
theorem dX4_giveOut_17 : decode cX4_giveOut 17 = .ok (.return_, 1) := by decide +kernel
theorem dX4_isHand_0 : decode cX4_isHand 0 = .ok (.iload_n 1, 1) := by decide +kernel
theorem dX4_isHand_1 : decode cX4_isHand 1 = .ok (.ifCond .lt 15, 3) := by decide +kernel
theorem dX4_isHand_4 : decode cX4_isHand 4 = .ok (.iload_n 1, 1) := by decide +kernel
theorem dX4_isHand_5 : decode cX4_isHand 5 = .ok (.aload_n 0, 1) := by decide +kernel
theorem dX4_isHand_6 : decode cX4_isHand 6 = .ok (.getfield 34, 3) := by decide +kernel
theorem dX4_isHand_9 : decode cX4_isHand 9 = .ok (.if_icmp .ge 7, 3) := by decide +kernel
theorem dX4_isHand_12 : decode cX4_isHand 12 = .ok (.iconst 1, 1) := by decide +kernel
theorem dX4_isHand_13 : decode cX4_isHand 13 = .ok (.goto 4, 3) := by decide +kernel
theorem dX4_isHand_16 : decode cX4_isHand 16 = .ok (.iconst 0, 1) := by decide +kernel
theorem dX4_isHand_17 : decode cX4_isHand 17 = .ok (.ireturn, 1) := by decide +kernel
theorem dX4_isKeeper_0 : decode cX4_isKeeper 0 = .ok (.iload_n 1, 1) := by decide +kernel
theorem dX4_isKeeper_1 : decode cX4_isKeeper 1 = .ok (.ifCond .lt 24, 3) := by decide +kernel
theorem dX4_isKeeper_4 : decode cX4_isKeeper 4 = .ok (.iload_n 1, 1) := by decide +kernel
theorem dX4_isKeeper_5 : decode cX4_isKeeper 5 = .ok (.aload_n 0, 1) := by decide +kernel
theorem dX4_isKeeper_6 : decode cX4_isKeeper 6 = .ok (.getfield 34, 3) := by decide +kernel
theorem dX4_isKeeper_9 : decode cX4_isKeeper 9 = .ok (.if_icmp .ge 16, 3) := by decide +kernel
theorem dX4_isKeeper_12 : decode cX4_isKeeper 12 = .ok (.aload_n 0, 1) := by decide +kernel
theorem dX4_isKeeper_13 : decode cX4_isKeeper 13 = .ok (.getfield 9, 3) := by decide +kernel
theorem dX4_isKeeper_16 : decode cX4_isKeeper 16 = .ok (.iload_n 1, 1) := by decide +kernel
theorem dX4_isKeeper_17 : decode cX4_isKeeper 17 = .ok (.baload, 1) := by decide +kernel
theorem dX4_isKeeper_18 : decode cX4_isKeeper 18 = .ok (.ifCond .eq 7, 3) := by decide +kernel
theorem dX4_isKeeper_21 : decode cX4_isKeeper 21 = .ok (.iconst 1, 1) := by decide +kernel
theorem dX4_isKeeper_22 : decode cX4_isKeeper 22 = .ok (.goto 4, 3) := by decide +kernel
theorem dX4_isKeeper_25 : decode cX4_isKeeper 25 = .ok (.iconst 0, 1) := by decide +kernel
theorem dX4_isKeeper_26 : decode cX4_isKeeper 26 = .ok (.ireturn, 1) := by decide +kernel
theorem dX4_isPlace_0 : decode cX4_isPlace 0 = .ok (.iload_n 1, 1) := by decide +kernel
theorem dX4_isPlace_1 : decode cX4_isPlace 1 = .ok (.ifCond .lt 18, 3) := by decide +kernel
theorem dX4_isPlace_4 : decode cX4_isPlace 4 = .ok (.iload_n 1, 1) := by decide +kernel
theorem dX4_isPlace_5 : decode cX4_isPlace 5 = .ok (.aload_n 0, 1) := by decide +kernel
theorem dX4_isPlace_6 : decode cX4_isPlace 6 = .ok (.getfield 38, 3) := by decide +kernel
theorem dX4_isPlace_9 : decode cX4_isPlace 9 = .ok (.bipush 12, 2) := by decide +kernel
theorem dX4_isPlace_11 : decode cX4_isPlace 11 = .ok (.imul, 1) := by decide +kernel
theorem dX4_isPlace_12 : decode cX4_isPlace 12 = .ok (.if_icmp .ge 7, 3) := by decide +kernel
theorem dX4_isPlace_15 : decode cX4_isPlace 15 = .ok (.iconst 1, 1) := by decide +kernel
theorem dX4_isPlace_16 : decode cX4_isPlace 16 = .ok (.goto 4, 3) := by decide +kernel
theorem dX4_isPlace_19 : decode cX4_isPlace 19 = .ok (.iconst 0, 1) := by decide +kernel
theorem dX4_isPlace_20 : decode cX4_isPlace 20 = .ok (.ireturn, 1) := by decide +kernel
theorem dX4_isColdPlace_0 : decode cX4_isColdPlace 0 = .ok (.iload_n 1, 1) := by decide +kernel
theorem dX4_isColdPlace_1 : decode cX4_isColdPlace 1 = .ok (.ifCond .lt 30, 3) := by decide +kernel
theorem dX4_isColdPlace_4 : decode cX4_isColdPlace 4 = .ok (.iload_n 1, 1) := by decide +kernel
theorem dX4_isColdPlace_5 : decode cX4_isColdPlace 5 = .ok (.aload_n 0, 1) := by decide +kernel
theorem dX4_isColdPlace_6 : decode cX4_isColdPlace 6 = .ok (.getfield 38, 3) := by decide +kernel
theorem dX4_isColdPlace_9 : decode cX4_isColdPlace 9 = .ok (.bipush 12, 2) := by decide +kernel
theorem dX4_isColdPlace_11 : decode cX4_isColdPlace 11 = .ok (.imul, 1) := by decide +kernel
theorem dX4_isColdPlace_12 : decode cX4_isColdPlace 12 = .ok (.if_icmp .ge 19, 3) := by decide +kernel
theorem dX4_isColdPlace_15 : decode cX4_isColdPlace 15 = .ok (.aload_n 0, 1) := by decide +kernel
theorem dX4_isColdPlace_16 : decode cX4_isColdPlace 16 = .ok (.getfield 15, 3) := by decide +kernel
theorem dX4_isColdPlace_19 : decode cX4_isColdPlace 19 = .ok (.iload_n 1, 1) := by decide +kernel
theorem dX4_isColdPlace_20 : decode cX4_isColdPlace 20 = .ok (.bipush 12, 2) := by decide +kernel
theorem dX4_isColdPlace_22 : decode cX4_isColdPlace 22 = .ok (.idiv, 1) := by decide +kernel
theorem dX4_isColdPlace_23 : decode cX4_isColdPlace 23 = .ok (.baload, 1) := by decide +kernel
theorem dX4_isColdPlace_24 : decode cX4_isColdPlace 24 = .ok (.ifCond .eq 7, 3) := by decide +kernel
theorem dX4_isColdPlace_27 : decode cX4_isColdPlace 27 = .ok (.iconst 1, 1) := by decide +kernel
theorem dX4_isColdPlace_28 : decode cX4_isColdPlace 28 = .ok (.goto 4, 3) := by decide +kernel
theorem dX4_isColdPlace_31 : decode cX4_isColdPlace 31 = .ok (.iconst 0, 1) := by decide +kernel
theorem dX4_isColdPlace_32 : decode cX4_isColdPlace 32 = .ok (.ireturn, 1) := by decide +kernel
theorem dX4_isGivenOut_0 : decode cX4_isGivenOut 0 = .ok (.iload_n 1, 1) := by decide +kernel
theorem dX4_isGivenOut_1 : decode cX4_isGivenOut 1 = .ok (.ifCond .lt 10, 3) := by decide +kernel
theorem dX4_isGivenOut_4 : decode cX4_isGivenOut 4 = .ok (.iload_n 1, 1) := by decide +kernel
theorem dX4_isGivenOut_5 : decode cX4_isGivenOut 5 = .ok (.sipush 600, 3) := by decide +kernel
theorem dX4_isGivenOut_8 : decode cX4_isGivenOut 8 = .ok (.if_icmp .lt 5, 3) := by decide +kernel
theorem dX4_isGivenOut_11 : decode cX4_isGivenOut 11 = .ok (.iconst 0, 1) := by decide +kernel
theorem dX4_isGivenOut_12 : decode cX4_isGivenOut 12 = .ok (.ireturn, 1) := by decide +kernel
theorem dX4_isGivenOut_13 : decode cX4_isGivenOut 13 = .ok (.iload_n 1, 1) := by decide +kernel
theorem dX4_isGivenOut_14 : decode cX4_isGivenOut 14 = .ok (.bipush 100, 2) := by decide +kernel
theorem dX4_isGivenOut_16 : decode cX4_isGivenOut 16 = .ok (.irem, 1) := by decide +kernel
theorem dX4_isGivenOut_17 : decode cX4_isGivenOut 17 = .ok (.aload_n 0, 1) := by decide +kernel
theorem dX4_isGivenOut_18 : decode cX4_isGivenOut 18 = .ok (.getfield 18, 3) := by decide +kernel
theorem dX4_isGivenOut_21 : decode cX4_isGivenOut 21 = .ok (.iload_n 1, 1) := by decide +kernel
theorem dX4_isGivenOut_22 : decode cX4_isGivenOut 22 = .ok (.bipush 100, 2) := by decide +kernel
theorem dX4_isGivenOut_24 : decode cX4_isGivenOut 24 = .ok (.idiv, 1) := by decide +kernel
theorem dX4_isGivenOut_25 : decode cX4_isGivenOut 25 = .ok (.iaload, 1) := by decide +kernel
theorem dX4_isGivenOut_26 : decode cX4_isGivenOut 26 = .ok (.if_icmp .ge 7, 3) := by decide +kernel
theorem dX4_isGivenOut_29 : decode cX4_isGivenOut 29 = .ok (.iconst 1, 1) := by decide +kernel
theorem dX4_isGivenOut_30 : decode cX4_isGivenOut 30 = .ok (.goto 4, 3) := by decide +kernel
theorem dX4_isGivenOut_33 : decode cX4_isGivenOut 33 = .ok (.iconst 0, 1) := by decide +kernel
theorem dX4_isGivenOut_34 : decode cX4_isGivenOut 34 = .ok (.ireturn, 1) := by decide +kernel
theorem dX4_isThing_0 : decode cX4_isThing 0 = .ok (.iload_n 1, 1) := by decide +kernel
theorem dX4_isThing_1 : decode cX4_isThing 1 = .ok (.ifCond .lt 15, 3) := by decide +kernel
theorem dX4_isThing_4 : decode cX4_isThing 4 = .ok (.iload_n 1, 1) := by decide +kernel
theorem dX4_isThing_5 : decode cX4_isThing 5 = .ok (.aload_n 0, 1) := by decide +kernel
theorem dX4_isThing_6 : decode cX4_isThing 6 = .ok (.getfield 41, 3) := by decide +kernel
theorem dX4_isThing_9 : decode cX4_isThing 9 = .ok (.if_icmp .ge 7, 3) := by decide +kernel
theorem dX4_isThing_12 : decode cX4_isThing 12 = .ok (.iconst 1, 1) := by decide +kernel
theorem dX4_isThing_13 : decode cX4_isThing 13 = .ok (.goto 4, 3) := by decide +kernel
theorem dX4_isThing_16 : decode cX4_isThing 16 = .ok (.iconst 0, 1) := by decide +kernel
theorem dX4_isThing_17 : decode cX4_isThing 17 = .ok (.ireturn, 1) := by decide +kernel
theorem dX4_isOfKind_0 : decode cX4_isOfKind 0 = .ok (.iload_n 1, 1) := by decide +kernel
theorem dX4_isOfKind_1 : decode cX4_isOfKind 1 = .ok (.ifCond .lt 25, 3) := by decide +kernel
theorem dX4_isOfKind_4 : decode cX4_isOfKind 4 = .ok (.iload_n 1, 1) := by decide +kernel
theorem dX4_isOfKind_5 : decode cX4_isOfKind 5 = .ok (.aload_n 0, 1) := by decide +kernel
theorem dX4_isOfKind_6 : decode cX4_isOfKind 6 = .ok (.getfield 41, 3) := by decide +kernel
theorem dX4_isOfKind_9 : decode cX4_isOfKind 9 = .ok (.if_icmp .ge 17, 3) := by decide +kernel
theorem dX4_isOfKind_12 : decode cX4_isOfKind 12 = .ok (.aload_n 0, 1) := by decide +kernel
theorem dX4_isOfKind_13 : decode cX4_isOfKind 13 = .ok (.getfield 22, 3) := by decide +kernel
theorem dX4_isOfKind_16 : decode cX4_isOfKind 16 = .ok (.iload_n 1, 1) := by decide +kernel
theorem dX4_isOfKind_17 : decode cX4_isOfKind 17 = .ok (.iaload, 1) := by decide +kernel
theorem dX4_isOfKind_18 : decode cX4_isOfKind 18 = .ok (.iload_n 2, 1) := by decide +kernel
theorem dX4_isOfKind_19 : decode cX4_isOfKind 19 = .ok (.if_icmp .ne 7, 3) := by decide +kernel
theorem dX4_isOfKind_22 : decode cX4_isOfKind 22 = .ok (.iconst 1, 1) := by decide +kernel
theorem dX4_isOfKind_23 : decode cX4_isOfKind 23 = .ok (.goto 4, 3) := by decide +kernel
theorem dX4_isOfKind_26 : decode cX4_isOfKind 26 = .ok (.iconst 0, 1) := by decide +kernel
theorem dX4_isOfKind_27 : decode cX4_isOfKind 27 = .ok (.ireturn, 1) := by decide +kernel
theorem dX4_isBag_0 : decode cX4_isBag 0 = .ok (.aload_n 0, 1) := by decide +kernel
theorem dX4_isBag_1 : decode cX4_isBag 1 = .ok (.iload_n 1, 1) := by decide +kernel
theorem dX4_isBag_2 : decode cX4_isBag 2 = .ok (.iconst 1, 1) := by decide +kernel
theorem dX4_isBag_3 : decode cX4_isBag 3 = .ok (.invokevirtual 44, 3) := by decide +kernel
theorem dX4_isBag_6 : decode cX4_isBag 6 = .ok (.ifCond .ne 21, 3) := by decide +kernel
theorem dX4_isBag_9 : decode cX4_isBag 9 = .ok (.aload_n 0, 1) := by decide +kernel
theorem dX4_isBag_10 : decode cX4_isBag 10 = .ok (.iload_n 1, 1) := by decide +kernel
theorem dX4_isBag_11 : decode cX4_isBag 11 = .ok (.iconst 4, 1) := by decide +kernel
theorem dX4_isBag_12 : decode cX4_isBag 12 = .ok (.invokevirtual 44, 3) := by decide +kernel
theorem dX4_isBag_15 : decode cX4_isBag 15 = .ok (.ifCond .ne 12, 3) := by decide +kernel
theorem dX4_isBag_18 : decode cX4_isBag 18 = .ok (.aload_n 0, 1) := by decide +kernel
theorem dX4_isBag_19 : decode cX4_isBag 19 = .ok (.iload_n 1, 1) := by decide +kernel
theorem dX4_isBag_20 : decode cX4_isBag 20 = .ok (.iconst 5, 1) := by decide +kernel
theorem dX4_isBag_21 : decode cX4_isBag 21 = .ok (.invokevirtual 44, 3) := by decide +kernel
theorem dX4_isBag_24 : decode cX4_isBag 24 = .ok (.ifCond .eq 7, 3) := by decide +kernel
theorem dX4_isBag_27 : decode cX4_isBag 27 = .ok (.iconst 1, 1) := by decide +kernel
theorem dX4_isBag_28 : decode cX4_isBag 28 = .ok (.goto 4, 3) := by decide +kernel
theorem dX4_isBag_31 : decode cX4_isBag 31 = .ok (.iconst 0, 1) := by decide +kernel
theorem dX4_isBag_32 : decode cX4_isBag 32 = .ok (.ireturn, 1) := by decide +kernel
theorem dX5_init_0 : decode cX5_init 0 = .ok (.aload_n 0, 1) := by decide +kernel
theorem dX5_init_1 : decode cX5_init 1 = .ok (.invokespecial 1, 3) := by decide +kernel
theorem dX5_init_4 : decode cX5_init 4 = .ok (.aload_n 0, 1) := by decide +kernel
theorem dX5_init_5 : decode cX5_init 5 = .ok (.new 7, 3) := by decide +kernel
theorem dX5_init_8 : decode cX5_init 8 = .ok (.dup, 1) := by decide +kernel
theorem dX5_init_9 : decode cX5_init 9 = .ok (.invokespecial 9, 3) := by decide +kernel
theorem dX5_init_12 : decode cX5_init 12 = .ok (.putfield 10, 3) := by decide +kernel
theorem dX5_init_15 : decode cX5_init 15 = .ok (.aload_n 0, 1) := by decide +kernel
theorem dX5_init_16 : decode cX5_init 16 = .ok (.new 16, 3) := by decide +kernel
theorem dX5_init_19 : decode cX5_init 19 = .ok (.dup, 1) := by decide +kernel
theorem dX5_init_20 : decode cX5_init 20 = .ok (.invokespecial 18, 3) := by decide +kernel
theorem dX5_init_23 : decode cX5_init 23 = .ok (.putfield 19, 3) := by decide +kernel
theorem dX5_init_26 : decode cX5_init 26 = .ok (.aload_n 0, 1) := by decide +kernel
theorem dX5_init_27 : decode cX5_init 27 = .ok (.new 16, 3) := by decide +kernel
theorem dX5_init_30 : decode cX5_init 30 = .ok (.dup, 1) := by decide +kernel
theorem dX5_init_31 : decode cX5_init 31 = .ok (.invokespecial 18, 3) := by decide +kernel
theorem dX5_init_34 : decode cX5_init 34 = .ok (.putfield 23, 3) := by decide +kernel
theorem dX5_init_37 : decode cX5_init 37 = .ok (.aload_n 0, 1) := by decide +kernel
theorem dX5_init_38 : decode cX5_init 38 = .ok (.new 26, 3) := by decide +kernel
theorem dX5_init_41 : decode cX5_init 41 = .ok (.dup, 1) := by decide +kernel
theorem dX5_init_42 : decode cX5_init 42 = .ok (.aload_n 0, 1) := by decide +kernel
theorem dX5_init_43 : decode cX5_init 43 = .ok (.getfield 10, 3) := by decide +kernel
theorem dX5_init_46 : decode cX5_init 46 = .ok (.invokespecial 28, 3) := by decide +kernel
theorem dX5_init_49 : decode cX5_init 49 = .ok (.putfield 31, 3) := by decide +kernel
theorem dX5_init_52 : decode cX5_init 52 = .ok (.aload_n 0, 1) := by decide +kernel
theorem dX5_init_53 : decode cX5_init 53 = .ok (.new 35, 3) := by decide +kernel
theorem dX5_init_56 : decode cX5_init 56 = .ok (.dup, 1) := by decide +kernel
theorem dX5_init_57 : decode cX5_init 57 = .ok (.aload_n 0, 1) := by decide +kernel
theorem dX5_init_58 : decode cX5_init 58 = .ok (.getfield 19, 3) := by decide +kernel
theorem dX5_init_61 : decode cX5_init 61 = .ok (.invokespecial 37, 3) := by decide +kernel
theorem dX5_init_64 : decode cX5_init 64 = .ok (.putfield 40, 3) := by decide +kernel
theorem dX5_init_67 : decode cX5_init 67 = .ok (.aload_n 0, 1) := by decide +kernel
theorem dX5_init_68 : decode cX5_init 68 = .ok (.bipush 60, 2) := by decide +kernel
theorem dX5_init_70 : decode cX5_init 70 = .ok (.anewarray 44, 3) := by decide +kernel
theorem dX5_init_73 : decode cX5_init 73 = .ok (.putfield 46, 3) := by decide +kernel
theorem dX5_init_76 : decode cX5_init 76 = .ok (.aload_n 0, 1) := by decide +kernel
theorem dX5_init_77 : decode cX5_init 77 = .ok (.bipush 8, 2) := by decide +kernel
theorem dX5_init_79 : decode cX5_init 79 = .ok (.newarray .int, 2) := by decide +kernel
theorem dX5_init_81 : decode cX5_init 81 = .ok (.putfield 50, 3) := by decide +kernel
theorem dX5_init_84 : decode cX5_init 84 = .ok (.aload_n 0, 1) := by decide +kernel
theorem dX5_init_85 : decode cX5_init 85 = .ok (.iconst (-1), 1) := by decide +kernel
theorem dX5_init_86 : decode cX5_init 86 = .ok (.putfield 54, 3) := by decide +kernel
theorem dX5_init_89 : decode cX5_init 89 = .ok (.aload_n 0, 1) := by decide +kernel
theorem dX5_init_90 : decode cX5_init 90 = .ok (.iconst (-1), 1) := by decide +kernel
theorem dX5_init_91 : decode cX5_init 91 = .ok (.putfield 58, 3) := by decide +kernel
theorem dX5_init_94 : decode cX5_init 94 = .ok (.return_, 1) := by decide +kernel
theorem dX5_hand_0 : decode cX5_hand 0 = .ok (.aload_n 0, 1) := by decide +kernel
theorem dX5_hand_1 : decode cX5_hand 1 = .ok (.getfield 10, 3) := by decide +kernel
theorem dX5_hand_4 : decode cX5_hand 4 = .ok (.iload_n 1, 1) := by decide +kernel
theorem dX5_hand_5 : decode cX5_hand 5 = .ok (.invokevirtual 61, 3) := by decide +kernel
theorem dX5_hand_8 : decode cX5_hand 8 = .ok (.ireturn, 1) := by decide +kernel
theorem dX5_shelf_0 : decode cX5_shelf 0 = .ok (.aload_n 0, 1) := by decide +kernel
theorem dX5_shelf_1 : decode cX5_shelf 1 = .ok (.getfield 10, 3) := by decide +kernel
theorem dX5_shelf_4 : decode cX5_shelf 4 = .ok (.iload_n 1, 1) := by decide +kernel
theorem dX5_shelf_5 : decode cX5_shelf 5 = .ok (.invokevirtual 65, 3) := by decide +kernel
theorem dX5_shelf_8 : decode cX5_shelf 8 = .ok (.ireturn, 1) := by decide +kernel
theorem dX5_seals_0 : decode cX5_seals 0 = .ok (.iload_n 1, 1) := by decide +kernel
theorem dX5_seals_1 : decode cX5_seals 1 = .ok (.ifCond .lt 20, 3) := by decide +kernel
theorem dX5_seals_4 : decode cX5_seals 4 = .ok (.iload_n 1, 1) := by decide +kernel
theorem dX5_seals_5 : decode cX5_seals 5 = .ok (.bipush 6, 2) := by decide +kernel
theorem dX5_seals_7 : decode cX5_seals 7 = .ok (.if_icmp .ge 14, 3) := by decide +kernel
theorem dX5_seals_10 : decode cX5_seals 10 = .ok (.iload_n 2, 1) := by decide +kernel
theorem dX5_seals_11 : decode cX5_seals 11 = .ok (.iconst (-1), 1) := by decide +kernel
theorem dX5_seals_12 : decode cX5_seals 12 = .ok (.if_icmp .lt 9, 3) := by decide +kernel
theorem dX5_seals_15 : decode cX5_seals 15 = .ok (.iload_n 2, 1) := by decide +kernel
theorem dX5_seals_16 : decode cX5_seals 16 = .ok (.bipush 50, 2) := by decide +kernel
theorem dX5_seals_18 : decode cX5_seals 18 = .ok (.if_icmp .le 5, 3) := by decide +kernel
theorem dX5_seals_21 : decode cX5_seals 21 = .ok (.iconst 0, 1) := by decide +kernel
theorem dX5_seals_22 : decode cX5_seals 22 = .ok (.ireturn, 1) := by decide +kernel
theorem dX5_seals_23 : decode cX5_seals 23 = .ok (.aload_n 0, 1) := by decide +kernel
theorem dX5_seals_24 : decode cX5_seals 24 = .ok (.getfield 19, 3) := by decide +kernel
theorem dX5_seals_27 : decode cX5_seals 27 = .ok (.iload_n 1, 1) := by decide +kernel
theorem dX5_seals_28 : decode cX5_seals 28 = .ok (.iload_n 2, 1) := by decide +kernel
theorem dX5_seals_29 : decode cX5_seals 29 = .ok (.invokevirtual 68, 3) := by decide +kernel
theorem dX5_seals_32 : decode cX5_seals 32 = .ok (.ifCond .eq 5, 3) := by decide +kernel
theorem dX5_seals_35 : decode cX5_seals 35 = .ok (.iconst 0, 1) := by decide +kernel
theorem dX5_seals_36 : decode cX5_seals 36 = .ok (.ireturn, 1) := by decide +kernel
theorem dX5_seals_37 : decode cX5_seals 37 = .ok (.aload_n 0, 1) := by decide +kernel
theorem dX5_seals_38 : decode cX5_seals 38 = .ok (.getfield 10, 3) := by decide +kernel
theorem dX5_seals_41 : decode cX5_seals 41 = .ok (.iload_n 1, 1) := by decide +kernel
theorem dX5_seals_42 : decode cX5_seals 42 = .ok (.iload_n 2, 1) := by decide +kernel
theorem dX5_seals_43 : decode cX5_seals 43 = .ok (.invokevirtual 72, 3) := by decide +kernel
theorem dX5_seals_46 : decode cX5_seals 46 = .ok (.iconst 1, 1) := by decide +kernel
theorem dX5_seals_47 : decode cX5_seals 47 = .ok (.ireturn, 1) := by decide +kernel
theorem dX5_thing_0 : decode cX5_thing 0 = .ok (.iload_n 1, 1) := by decide +kernel
theorem dX5_thing_1 : decode cX5_thing 1 = .ok (.ifCond .lt 18, 3) := by decide +kernel
theorem dX5_thing_4 : decode cX5_thing 4 = .ok (.iload_n 1, 1) := by decide +kernel
theorem dX5_thing_5 : decode cX5_thing 5 = .ok (.iconst 5, 1) := by decide +kernel
theorem dX5_thing_6 : decode cX5_thing 6 = .ok (.if_icmp .gt 13, 3) := by decide +kernel
theorem dX5_thing_9 : decode cX5_thing 9 = .ok (.iload_n 2, 1) := by decide +kernel
theorem dX5_thing_10 : decode cX5_thing 10 = .ok (.ifCond .lt 9, 3) := by decide +kernel
theorem dX5_thing_13 : decode cX5_thing 13 = .ok (.iload_n 2, 1) := by decide +kernel
theorem dX5_thing_14 : decode cX5_thing 14 = .ok (.ldc 76, 2) := by decide +kernel
theorem dX5_thing_16 : decode cX5_thing 16 = .ok (.if_icmp .le 5, 3) := by decide +kernel
theorem dX5_thing_19 : decode cX5_thing 19 = .ok (.iconst (-1), 1) := by decide +kernel
theorem dX5_thing_20 : decode cX5_thing 20 = .ok (.ireturn, 1) := by decide +kernel
theorem dX5_thing_21 : decode cX5_thing 21 = .ok (.iload_n 1, 1) := by decide +kernel
theorem dX5_thing_22 : decode cX5_thing 22 = .ok (.iconst 2, 1) := by decide +kernel
theorem dX5_thing_23 : decode cX5_thing 23 = .ok (.if_icmp .eq 8, 3) := by decide +kernel
theorem dX5_thing_26 : decode cX5_thing 26 = .ok (.iload_n 1, 1) := by decide +kernel
theorem dX5_thing_27 : decode cX5_thing 27 = .ok (.iconst 3, 1) := by decide +kernel
theorem dX5_thing_28 : decode cX5_thing 28 = .ok (.if_icmp .ne 7, 3) := by decide +kernel
theorem dX5_thing_31 : decode cX5_thing 31 = .ok (.iconst 1, 1) := by decide +kernel
theorem dX5_thing_32 : decode cX5_thing 32 = .ok (.goto 4, 3) := by decide +kernel
theorem dX5_thing_35 : decode cX5_thing 35 = .ok (.iconst 0, 1) := by decide +kernel
theorem dX5_thing_36 : decode cX5_thing 36 = .ok (.istore_n 3, 1) := by decide +kernel
theorem dX5_thing_37 : decode cX5_thing 37 = .ok (.iload_n 3, 1) := by decide +kernel
theorem dX5_thing_38 : decode cX5_thing 38 = .ok (.ifCond .eq 9, 3) := by decide +kernel
theorem dX5_thing_41 : decode cX5_thing 41 = .ok (.iload_n 2, 1) := by decide +kernel
theorem dX5_thing_42 : decode cX5_thing 42 = .ok (.ifCond .eq 5, 3) := by decide +kernel
theorem dX5_thing_45 : decode cX5_thing 45 = .ok (.iconst (-1), 1) := by decide +kernel
theorem dX5_thing_46 : decode cX5_thing 46 = .ok (.ireturn, 1) := by decide +kernel
theorem dX5_thing_47 : decode cX5_thing 47 = .ok (.aload_n 0, 1) := by decide +kernel
theorem dX5_thing_48 : decode cX5_thing 48 = .ok (.getfield 10, 3) := by decide +kernel
theorem dX5_thing_51 : decode cX5_thing 51 = .ok (.iload_n 1, 1) := by decide +kernel
theorem dX5_thing_52 : decode cX5_thing 52 = .ok (.iload_n 2, 1) := by decide +kernel
theorem dX5_thing_53 : decode cX5_thing 53 = .ok (.invokevirtual 77, 3) := by decide +kernel
theorem dX5_thing_56 : decode cX5_thing 56 = .ok (.ireturn, 1) := by decide +kernel
theorem dX5_pass_0 : decode cX5_pass 0 = .ok (.iload_n 1, 1) := by decide +kernel
theorem dX5_pass_1 : decode cX5_pass 1 = .ok (.ifCond .lt 20, 3) := by decide +kernel
theorem dX5_pass_4 : decode cX5_pass 4 = .ok (.iload_n 1, 1) := by decide +kernel
theorem dX5_pass_5 : decode cX5_pass 5 = .ok (.ldc 81, 2) := by decide +kernel
theorem dX5_pass_7 : decode cX5_pass 7 = .ok (.if_icmp .gt 14, 3) := by decide +kernel
theorem dX5_pass_10 : decode cX5_pass 10 = .ok (.iload_n 1, 1) := by decide +kernel
theorem dX5_pass_11 : decode cX5_pass 11 = .ok (.ldc 82, 2) := by decide +kernel
theorem dX5_pass_13 : decode cX5_pass 13 = .ok (.aload_n 0, 1) := by decide +kernel
theorem dX5_pass_14 : decode cX5_pass 14 = .ok (.getfield 83, 3) := by decide +kernel
theorem dX5_pass_17 : decode cX5_pass 17 = .ok (.isub, 1) := by decide +kernel
theorem dX5_pass_18 : decode cX5_pass 18 = .ok (.if_icmp .le 5, 3) := by decide +kernel
theorem dX5_pass_21 : decode cX5_pass 21 = .ok (.iconst (-1), 1) := by decide +kernel
theorem dX5_pass_22 : decode cX5_pass 22 = .ok (.ireturn, 1) := by decide +kernel
theorem dX5_pass_23 : decode cX5_pass 23 = .ok (.aload_n 0, 1) := by decide +kernel
theorem dX5_pass_24 : decode cX5_pass 24 = .ok (.dup, 1) := by decide +kernel
theorem dX5_pass_25 : decode cX5_pass 25 = .ok (.getfield 83, 3) := by decide +kernel
theorem dX5_pass_28 : decode cX5_pass 28 = .ok (.iload_n 1, 1) := by decide +kernel
theorem dX5_pass_29 : decode cX5_pass 29 = .ok (.iadd, 1) := by decide +kernel
theorem dX5_pass_30 : decode cX5_pass 30 = .ok (.putfield 83, 3) := by decide +kernel
theorem dX5_pass_33 : decode cX5_pass 33 = .ok (.aload_n 0, 1) := by decide +kernel
theorem dX5_pass_34 : decode cX5_pass 34 = .ok (.getfield 83, 3) := by decide +kernel
theorem dX5_pass_37 : decode cX5_pass 37 = .ok (.ireturn, 1) := by decide +kernel
theorem dX5_slip_0 : decode cX5_slip 0 = .ok (.aload_n 0, 1) := by decide +kernel
theorem dX5_slip_1 : decode cX5_slip 1 = .ok (.iload_n 1, 1) := by decide +kernel
theorem dX5_slip_2 : decode cX5_slip 2 = .ok (.iload_n 2, 1) := by decide +kernel
theorem dX5_slip_3 : decode cX5_slip 3 = .ok (.iload_n 3, 1) := by decide +kernel
theorem dX5_slip_4 : decode cX5_slip 4 = .ok (.iload 4, 2) := by decide +kernel
theorem dX5_slip_6 : decode cX5_slip 6 = .ok (.iload 5, 2) := by decide +kernel
theorem dX5_slip_8 : decode cX5_slip 8 = .ok (.iload 6, 2) := by decide +kernel
theorem dX5_slip_10 : decode cX5_slip 10 = .ok (.iload 7, 2) := by decide +kernel
theorem dX5_slip_12 : decode cX5_slip 12 = .ok (.invokevirtual 86, 3) := by decide +kernel
theorem dX5_slip_15 : decode cX5_slip 15 = .ok (.ireturn, 1) := by decide +kernel
theorem dX5_fault_0 : decode cX5_fault 0 = .ok (.iload_n 1, 1) := by decide +kernel
theorem dX5_fault_1 : decode cX5_fault 1 = .ok (.lookupswitch 37 #[(0, 27), (1, 32)], 27) := by decide +kernel
theorem dX5_fault_28 : decode cX5_fault 28 = .ok (.aload_n 0, 1) := by decide +kernel
theorem dX5_fault_29 : decode cX5_fault 29 = .ok (.getfield 54, 3) := by decide +kernel
theorem dX5_fault_32 : decode cX5_fault 32 = .ok (.ireturn, 1) := by decide +kernel
theorem dX5_fault_33 : decode cX5_fault 33 = .ok (.aload_n 0, 1) := by decide +kernel
theorem dX5_fault_34 : decode cX5_fault 34 = .ok (.getfield 58, 3) := by decide +kernel
theorem dX5_fault_37 : decode cX5_fault 37 = .ok (.ireturn, 1) := by decide +kernel
theorem dX5_fault_38 : decode cX5_fault 38 = .ok (.iconst (-1), 1) := by decide +kernel
theorem dX5_fault_39 : decode cX5_fault 39 = .ok (.ireturn, 1) := by decide +kernel
theorem dX5_handing_0 : decode cX5_handing 0 = .ok (.aload_n 0, 1) := by decide +kernel
theorem dX5_handing_1 : decode cX5_handing 1 = .ok (.getfield 10, 3) := by decide +kernel
theorem dX5_handing_4 : decode cX5_handing 4 = .ok (.iload_n 1, 1) := by decide +kernel
theorem dX5_handing_5 : decode cX5_handing 5 = .ok (.invokevirtual 90, 3) := by decide +kernel
theorem dX5_handing_8 : decode cX5_handing 8 = .ok (.ifCond .eq 30, 3) := by decide +kernel
theorem dX5_handing_11 : decode cX5_handing 11 = .ok (.aload_n 0, 1) := by decide +kernel
theorem dX5_handing_12 : decode cX5_handing 12 = .ok (.getfield 10, 3) := by decide +kernel
theorem dX5_handing_15 : decode cX5_handing 15 = .ok (.iload_n 2, 1) := by decide +kernel
theorem dX5_handing_16 : decode cX5_handing 16 = .ok (.invokevirtual 94, 3) := by decide +kernel
theorem dX5_handing_19 : decode cX5_handing 19 = .ok (.ifCond .eq 19, 3) := by decide +kernel
theorem dX5_handing_22 : decode cX5_handing 22 = .ok (.aload_n 0, 1) := by decide +kernel
theorem dX5_handing_23 : decode cX5_handing 23 = .ok (.getfield 10, 3) := by decide +kernel
theorem dX5_handing_26 : decode cX5_handing 26 = .ok (.iload_n 3, 1) := by decide +kernel
theorem dX5_handing_27 : decode cX5_handing 27 = .ok (.invokevirtual 94, 3) := by decide +kernel
theorem dX5_handing_30 : decode cX5_handing 30 = .ok (.ifCond .eq 8, 3) := by decide +kernel
theorem dX5_handing_33 : decode cX5_handing 33 = .ok (.iload_n 2, 1) := by decide +kernel
theorem dX5_handing_34 : decode cX5_handing 34 = .ok (.iload_n 3, 1) := by decide +kernel
theorem dX5_handing_35 : decode cX5_handing 35 = .ok (.if_icmp .ne 5, 3) := by decide +kernel
theorem dX5_handing_38 : decode cX5_handing 38 = .ok (.iconst (-1), 1) := by decide +kernel
theorem dX5_handing_39 : decode cX5_handing 39 = .ok (.ireturn, 1) := by decide +kernel
theorem dX5_handing_40 : decode cX5_handing 40 = .ok (.iload 4, 2) := by decide +kernel
theorem dX5_handing_42 : decode cX5_handing 42 = .ok (.ifCond .lt 21, 3) := by decide +kernel
theorem dX5_handing_45 : decode cX5_handing 45 = .ok (.iload 4, 2) := by decide +kernel
theorem dX5_handing_47 : decode cX5_handing 47 = .ok (.aload_n 0, 1) := by decide +kernel
theorem dX5_handing_48 : decode cX5_handing 48 = .ok (.getfield 83, 3) := by decide +kernel
theorem dX5_handing_51 : decode cX5_handing 51 = .ok (.if_icmp .gt 12, 3) := by decide +kernel
theorem dX5_handing_54 : decode cX5_handing 54 = .ok (.aload_n 0, 1) := by decide +kernel
theorem dX5_handing_55 : decode cX5_handing 55 = .ok (.getfield 97, 3) := by decide +kernel
theorem dX5_handing_58 : decode cX5_handing 58 = .ok (.bipush 60, 2) := by decide +kernel
theorem dX5_handing_60 : decode cX5_handing 60 = .ok (.if_icmp .lt 5, 3) := by decide +kernel
theorem dX5_handing_63 : decode cX5_handing 63 = .ok (.iconst (-1), 1) := by decide +kernel
theorem dX5_handing_64 : decode cX5_handing 64 = .ok (.ireturn, 1) := by decide +kernel
theorem dX5_handing_65 : decode cX5_handing 65 = .ok (.aload_n 0, 1) := by decide +kernel
theorem dX5_handing_66 : decode cX5_handing 66 = .ok (.getfield 46, 3) := by decide +kernel
theorem dX5_handing_69 : decode cX5_handing 69 = .ok (.aload_n 0, 1) := by decide +kernel
theorem dX5_handing_70 : decode cX5_handing 70 = .ok (.getfield 97, 3) := by decide +kernel
theorem dX5_handing_73 : decode cX5_handing 73 = .ok (.new 44, 3) := by decide +kernel
theorem dX5_handing_76 : decode cX5_handing 76 = .ok (.dup, 1) := by decide +kernel
theorem dX5_handing_77 : decode cX5_handing 77 = .ok (.iload_n 1, 1) := by decide +kernel
theorem dX5_handing_78 : decode cX5_handing 78 = .ok (.iload_n 2, 1) := by decide +kernel
theorem dX5_handing_79 : decode cX5_handing 79 = .ok (.iload_n 3, 1) := by decide +kernel
theorem dX5_handing_80 : decode cX5_handing 80 = .ok (.iload 4, 2) := by decide +kernel
theorem dX5_handing_82 : decode cX5_handing 82 = .ok (.invokespecial 100, 3) := by decide +kernel
theorem dX5_handing_85 : decode cX5_handing 85 = .ok (.aastore, 1) := by decide +kernel
theorem dX5_handing_86 : decode cX5_handing 86 = .ok (.aload_n 0, 1) := by decide +kernel
theorem dX5_handing_87 : decode cX5_handing 87 = .ok (.dup, 1) := by decide +kernel
theorem dX5_handing_88 : decode cX5_handing 88 = .ok (.getfield 97, 3) := by decide +kernel
theorem dX5_handing_91 : decode cX5_handing 91 = .ok (.iconst 1, 1) := by decide +kernel
theorem dX5_handing_92 : decode cX5_handing 92 = .ok (.iadd, 1) := by decide +kernel
theorem dX5_handing_93 : decode cX5_handing 93 = .ok (.putfield 97, 3) := by decide +kernel
theorem dX5_handing_96 : decode cX5_handing 96 = .ok (.aload_n 0, 1) := by decide +kernel
theorem dX5_handing_97 : decode cX5_handing 97 = .ok (.getfield 97, 3) := by decide +kernel
theorem dX5_handing_100 : decode cX5_handing 100 = .ok (.iconst 1, 1) := by decide +kernel
theorem dX5_handing_101 : decode cX5_handing 101 = .ok (.isub, 1) := by decide +kernel
theorem dX5_handing_102 : decode cX5_handing 102 = .ok (.ireturn, 1) := by decide +kernel
theorem dX5_yes_0 : decode cX5_yes 0 = .ok (.aload_n 0, 1) := by decide +kernel
theorem dX5_yes_1 : decode cX5_yes 1 = .ok (.iload_n 1, 1) := by decide +kernel
theorem dX5_yes_2 : decode cX5_yes 2 = .ok (.invokevirtual 103, 3) := by decide +kernel
theorem dX5_yes_5 : decode cX5_yes 5 = .ok (.astore 4, 2) := by decide +kernel
theorem dX5_yes_7 : decode cX5_yes 7 = .ok (.aload 4, 2) := by decide +kernel
theorem dX5_yes_9 : decode cX5_yes 9 = .ok (.ifnull 29, 3) := by decide +kernel
theorem dX5_yes_12 : decode cX5_yes 12 = .ok (.aload 4, 2) := by decide +kernel
theorem dX5_yes_14 : decode cX5_yes 14 = .ok (.iload_n 2, 1) := by decide +kernel
theorem dX5_yes_15 : decode cX5_yes 15 = .ok (.invokevirtual 107, 3) := by decide +kernel
theorem dX5_yes_18 : decode cX5_yes 18 = .ok (.ifCond .eq 20, 3) := by decide +kernel
theorem dX5_yes_21 : decode cX5_yes 21 = .ok (.iload_n 3, 1) := by decide +kernel
theorem dX5_yes_22 : decode cX5_yes 22 = .ok (.aload 4, 2) := by decide +kernel
theorem dX5_yes_24 : decode cX5_yes 24 = .ok (.getfield 110, 3) := by decide +kernel
theorem dX5_yes_27 : decode cX5_yes 27 = .ok (.if_icmp .lt 11, 3) := by decide +kernel
theorem dX5_yes_30 : decode cX5_yes 30 = .ok (.iload_n 3, 1) := by decide +kernel
theorem dX5_yes_31 : decode cX5_yes 31 = .ok (.aload_n 0, 1) := by decide +kernel
theorem dX5_yes_32 : decode cX5_yes 32 = .ok (.getfield 83, 3) := by decide +kernel
theorem dX5_yes_35 : decode cX5_yes 35 = .ok (.if_icmp .le 5, 3) := by decide +kernel
theorem dX5_yes_38 : decode cX5_yes 38 = .ok (.iconst (-1), 1) := by decide +kernel
theorem dX5_yes_39 : decode cX5_yes 39 = .ok (.ireturn, 1) := by decide +kernel
theorem dX5_yes_40 : decode cX5_yes 40 = .ok (.aload 4, 2) := by decide +kernel
theorem dX5_yes_42 : decode cX5_yes 42 = .ok (.iload_n 2, 1) := by decide +kernel
theorem dX5_yes_43 : decode cX5_yes 43 = .ok (.iload_n 3, 1) := by decide +kernel
theorem dX5_yes_44 : decode cX5_yes 44 = .ok (.invokevirtual 113, 3) := by decide +kernel
theorem dX5_yes_47 : decode cX5_yes 47 = .ok (.aload 4, 2) := by decide +kernel
theorem dX5_yes_49 : decode cX5_yes 49 = .ok (.invokevirtual 116, 3) := by decide +kernel
theorem dX5_yes_52 : decode cX5_yes 52 = .ok (.ifCond .ne 5, 3) := by decide +kernel
theorem dX5_yes_55 : decode cX5_yes 55 = .ok (.iconst 0, 1) := by decide +kernel
theorem dX5_yes_56 : decode cX5_yes 56 = .ok (.ireturn, 1) := by decide +kernel
theorem dX5_yes_57 : decode cX5_yes 57 = .ok (.aload 4, 2) := by decide +kernel
theorem dX5_yes_59 : decode cX5_yes 59 = .ok (.invokevirtual 120, 3) := by decide +kernel
theorem dX5_yes_62 : decode cX5_yes 62 = .ok (.istore 5, 2) := by decide +kernel
theorem dX5_yes_64 : decode cX5_yes 64 = .ok (.iload 5, 2) := by decide +kernel
theorem dX5_yes_66 : decode cX5_yes 66 = .ok (.ifCond .eq 11, 3) := by decide +kernel
theorem dX5_yes_69 : decode cX5_yes 69 = .ok (.aload 4, 2) := by decide +kernel
theorem dX5_yes_71 : decode cX5_yes 71 = .ok (.invokevirtual 123, 3) := by decide +kernel
theorem dX5_yes_74 : decode cX5_yes 74 = .ok (.goto 8, 3) := by decide +kernel
theorem dX5_yes_77 : decode cX5_yes 77 = .ok (.aload 4, 2) := by decide +kernel
theorem dX5_yes_79 : decode cX5_yes 79 = .ok (.getfield 110, 3) := by decide +kernel
theorem dX5_yes_82 : decode cX5_yes 82 = .ok (.istore 6, 2) := by decide +kernel
theorem dX5_yes_84 : decode cX5_yes 84 = .ok (.aload_n 0, 1) := by decide +kernel
theorem dX5_yes_85 : decode cX5_yes 85 = .ok (.iconst 3, 1) := by decide +kernel
theorem dX5_yes_86 : decode cX5_yes 86 = .ok (.aload 4, 2) := by decide +kernel
theorem dX5_yes_88 : decode cX5_yes 88 = .ok (.getfield 127, 3) := by decide +kernel
theorem dX5_yes_91 : decode cX5_yes 91 = .ok (.iconst (-1), 1) := by decide +kernel
theorem dX5_yes_92 : decode cX5_yes 92 = .ok (.iconst (-1), 1) := by decide +kernel
theorem dX5_yes_93 : decode cX5_yes 93 = .ok (.aload 4, 2) := by decide +kernel
theorem dX5_yes_95 : decode cX5_yes 95 = .ok (.getfield 130, 3) := by decide +kernel
theorem dX5_yes_98 : decode cX5_yes 98 = .ok (.aload 4, 2) := by decide +kernel
theorem dX5_yes_100 : decode cX5_yes 100 = .ok (.getfield 133, 3) := by decide +kernel
theorem dX5_yes_103 : decode cX5_yes 103 = .ok (.iload 6, 2) := by decide +kernel
theorem dX5_yes_105 : decode cX5_yes 105 = .ok (.invokevirtual 86, 3) := by decide +kernel
theorem dX5_yes_108 : decode cX5_yes 108 = .ok (.iconst (-1), 1) := by decide +kernel
theorem dX5_yes_109 : decode cX5_yes 109 = .ok (.if_icmp .ne 12, 3) := by decide +kernel
theorem dX5_yes_112 : decode cX5_yes 112 = .ok (.aload 4, 2) := by decide +kernel
theorem dX5_yes_114 : decode cX5_yes 114 = .ok (.iload_n 2, 1) := by decide +kernel
theorem dX5_yes_115 : decode cX5_yes 115 = .ok (.iconst (-1), 1) := by decide +kernel
theorem dX5_yes_116 : decode cX5_yes 116 = .ok (.invokevirtual 113, 3) := by decide +kernel
theorem dX5_yes_119 : decode cX5_yes 119 = .ok (.iconst 3, 1) := by decide +kernel
theorem dX5_yes_120 : decode cX5_yes 120 = .ok (.ireturn, 1) := by decide +kernel
theorem dX5_yes_121 : decode cX5_yes 121 = .ok (.aload 4, 2) := by decide +kernel
theorem dX5_yes_123 : decode cX5_yes 123 = .ok (.iconst 1, 1) := by decide +kernel
theorem dX5_yes_124 : decode cX5_yes 124 = .ok (.putfield 136, 3) := by decide +kernel
theorem dX5_yes_127 : decode cX5_yes 127 = .ok (.iload 5, 2) := by decide +kernel
theorem dX5_yes_129 : decode cX5_yes 129 = .ok (.ifCond .eq 7, 3) := by decide +kernel
theorem dX5_yes_132 : decode cX5_yes 132 = .ok (.iconst 2, 1) := by decide +kernel
theorem dX5_yes_133 : decode cX5_yes 133 = .ok (.goto 4, 3) := by decide +kernel
theorem dX5_yes_136 : decode cX5_yes 136 = .ok (.iconst 1, 1) := by decide +kernel
theorem dX5_yes_137 : decode cX5_yes 137 = .ok (.ireturn, 1) := by decide +kernel
theorem dX5_no_0 : decode cX5_no 0 = .ok (.aload_n 0, 1) := by decide +kernel
theorem dX5_no_1 : decode cX5_no 1 = .ok (.iload_n 1, 1) := by decide +kernel
theorem dX5_no_2 : decode cX5_no 2 = .ok (.invokevirtual 103, 3) := by decide +kernel
theorem dX5_no_5 : decode cX5_no 5 = .ok (.astore_n 3, 1) := by decide +kernel
theorem dX5_no_6 : decode cX5_no 6 = .ok (.aload_n 3, 1) := by decide +kernel
theorem dX5_no_7 : decode cX5_no 7 = .ok (.ifnull 18, 3) := by decide +kernel
theorem dX5_no_10 : decode cX5_no 10 = .ok (.aload_n 3, 1) := by decide +kernel
theorem dX5_no_11 : decode cX5_no 11 = .ok (.getfield 136, 3) := by decide +kernel
theorem dX5_no_14 : decode cX5_no 14 = .ok (.ifCond .ne 11, 3) := by decide +kernel
theorem dX5_no_17 : decode cX5_no 17 = .ok (.aload_n 3, 1) := by decide +kernel
theorem dX5_no_18 : decode cX5_no 18 = .ok (.iload_n 2, 1) := by decide +kernel
theorem dX5_no_19 : decode cX5_no 19 = .ok (.invokevirtual 140, 3) := by decide +kernel
theorem dX5_no_22 : decode cX5_no 22 = .ok (.ifCond .ne 5, 3) := by decide +kernel
theorem dX5_no_25 : decode cX5_no 25 = .ok (.iconst 0, 1) := by decide +kernel
theorem dX5_no_26 : decode cX5_no 26 = .ok (.ireturn, 1) := by decide +kernel
theorem dX5_no_27 : decode cX5_no 27 = .ok (.aload_n 3, 1) := by decide +kernel
theorem dX5_no_28 : decode cX5_no 28 = .ok (.iconst 1, 1) := by decide +kernel
theorem dX5_no_29 : decode cX5_no 29 = .ok (.putfield 136, 3) := by decide +kernel
theorem dX5_no_32 : decode cX5_no 32 = .ok (.iconst 1, 1) := by decide +kernel
theorem dX5_no_33 : decode cX5_no 33 = .ok (.ireturn, 1) := by decide +kernel
theorem dX5_about_0 : decode cX5_about 0 = .ok (.iload_n 1, 1) := by decide +kernel
theorem dX5_about_1 : decode cX5_about 1 = .ok (.tableswitch 104 0 6 #[43, 51, 59, 67, 75, 80, 85], 43) := by decide +kernel
theorem dX5_about_44 : decode cX5_about 44 = .ok (.aload_n 0, 1) := by decide +kernel
theorem dX5_about_45 : decode cX5_about 45 = .ok (.getfield 10, 3) := by decide +kernel
theorem dX5_about_48 : decode cX5_about 48 = .ok (.getfield 143, 3) := by decide +kernel
theorem dX5_about_51 : decode cX5_about 51 = .ok (.ireturn, 1) := by decide +kernel
theorem dX5_about_52 : decode cX5_about 52 = .ok (.aload_n 0, 1) := by decide +kernel
theorem dX5_about_53 : decode cX5_about 53 = .ok (.getfield 10, 3) := by decide +kernel
theorem dX5_about_56 : decode cX5_about 56 = .ok (.getfield 146, 3) := by decide +kernel
theorem dX5_about_59 : decode cX5_about 59 = .ok (.ireturn, 1) := by decide +kernel
theorem dX5_about_60 : decode cX5_about 60 = .ok (.aload_n 0, 1) := by decide +kernel
theorem dX5_about_61 : decode cX5_about 61 = .ok (.getfield 10, 3) := by decide +kernel
theorem dX5_about_64 : decode cX5_about 64 = .ok (.getfield 149, 3) := by decide +kernel
theorem dX5_about_67 : decode cX5_about 67 = .ok (.ireturn, 1) := by decide +kernel
theorem dX5_about_68 : decode cX5_about 68 = .ok (.aload_n 0, 1) := by decide +kernel
theorem dX5_about_69 : decode cX5_about 69 = .ok (.getfield 19, 3) := by decide +kernel
theorem dX5_about_72 : decode cX5_about 72 = .ok (.getfield 152, 3) := by decide +kernel
theorem dX5_about_75 : decode cX5_about 75 = .ok (.ireturn, 1) := by decide +kernel
theorem dX5_about_76 : decode cX5_about 76 = .ok (.aload_n 0, 1) := by decide +kernel
theorem dX5_about_77 : decode cX5_about 77 = .ok (.getfield 83, 3) := by decide +kernel
theorem dX5_about_80 : decode cX5_about 80 = .ok (.ireturn, 1) := by decide +kernel
theorem dX5_about_81 : decode cX5_about 81 = .ok (.aload_n 0, 1) := by decide +kernel
theorem dX5_about_82 : decode cX5_about 82 = .ok (.getfield 97, 3) := by decide +kernel
theorem dX5_about_85 : decode cX5_about 85 = .ok (.ireturn, 1) := by decide +kernel
theorem dX5_about_86 : decode cX5_about 86 = .ok (.aload_n 0, 1) := by decide +kernel
theorem dX5_about_87 : decode cX5_about 87 = .ok (.getfield 155, 3) := by decide +kernel
theorem dX5_about_90 : decode cX5_about 90 = .ok (.ifCond .eq 13, 3) := by decide +kernel
theorem dX5_about_93 : decode cX5_about 93 = .ok (.aload_n 0, 1) := by decide +kernel
theorem dX5_about_94 : decode cX5_about 94 = .ok (.getfield 23, 3) := by decide +kernel
theorem dX5_about_97 : decode cX5_about 97 = .ok (.getfield 152, 3) := by decide +kernel
theorem dX5_about_100 : decode cX5_about 100 = .ok (.goto 4, 3) := by decide +kernel
theorem dX5_about_103 : decode cX5_about 103 = .ok (.iconst (-1), 1) := by decide +kernel
theorem dX5_about_104 : decode cX5_about 104 = .ok (.ireturn, 1) := by decide +kernel
theorem dX5_about_105 : decode cX5_about 105 = .ok (.iconst (-1), 1) := by decide +kernel
theorem dX5_about_106 : decode cX5_about 106 = .ok (.ireturn, 1) := by decide +kernel
theorem dX5_slipOf_0 : decode cX5_slipOf 0 = .ok (.aload_n 0, 1) := by decide +kernel
theorem dX5_slipOf_1 : decode cX5_slipOf 1 = .ok (.getfield 19, 3) := by decide +kernel
theorem dX5_slipOf_4 : decode cX5_slipOf 4 = .ok (.iload_n 1, 1) := by decide +kernel
theorem dX5_slipOf_5 : decode cX5_slipOf 5 = .ok (.invokevirtual 158, 3) := by decide +kernel
theorem dX5_slipOf_8 : decode cX5_slipOf 8 = .ok (.ifCond .ne 5, 3) := by decide +kernel
theorem dX5_slipOf_11 : decode cX5_slipOf 11 = .ok (.iconst (-1), 1) := by decide +kernel
theorem dX5_slipOf_12 : decode cX5_slipOf 12 = .ok (.ireturn, 1) := by decide +kernel
theorem dX5_slipOf_13 : decode cX5_slipOf 13 = .ok (.iload_n 2, 1) := by decide +kernel
theorem dX5_slipOf_14 : decode cX5_slipOf 14 = .ok (.bipush 8, 2) := by decide +kernel
theorem dX5_slipOf_16 : decode cX5_slipOf 16 = .ok (.if_icmp .ne 20, 3) := by decide +kernel
theorem dX5_slipOf_19 : decode cX5_slipOf 19 = .ok (.aload_n 0, 1) := by decide +kernel
theorem dX5_slipOf_20 : decode cX5_slipOf 20 = .ok (.getfield 19, 3) := by decide +kernel
theorem dX5_slipOf_23 : decode cX5_slipOf 23 = .ok (.iload_n 1, 1) := by decide +kernel
theorem dX5_slipOf_24 : decode cX5_slipOf 24 = .ok (.invokevirtual 161, 3) := by decide +kernel
theorem dX5_slipOf_27 : decode cX5_slipOf 27 = .ok (.ifCond .eq 7, 3) := by decide +kernel
theorem dX5_slipOf_30 : decode cX5_slipOf 30 = .ok (.iconst 1, 1) := by decide +kernel
theorem dX5_slipOf_31 : decode cX5_slipOf 31 = .ok (.goto 4, 3) := by decide +kernel
theorem dX5_slipOf_34 : decode cX5_slipOf 34 = .ok (.iconst 0, 1) := by decide +kernel
theorem dX5_slipOf_35 : decode cX5_slipOf 35 = .ok (.ireturn, 1) := by decide +kernel
theorem dX5_slipOf_36 : decode cX5_slipOf 36 = .ok (.aload_n 0, 1) := by decide +kernel
theorem dX5_slipOf_37 : decode cX5_slipOf 37 = .ok (.getfield 19, 3) := by decide +kernel
theorem dX5_slipOf_40 : decode cX5_slipOf 40 = .ok (.iload_n 1, 1) := by decide +kernel
theorem dX5_slipOf_41 : decode cX5_slipOf 41 = .ok (.iload_n 2, 1) := by decide +kernel
theorem dX5_slipOf_42 : decode cX5_slipOf 42 = .ok (.invokevirtual 163, 3) := by decide +kernel
theorem dX5_slipOf_45 : decode cX5_slipOf 45 = .ok (.ireturn, 1) := by decide +kernel
theorem dX5_where_0 : decode cX5_where 0 = .ok (.aload_n 0, 1) := by decide +kernel
theorem dX5_where_1 : decode cX5_where 1 = .ok (.getfield 10, 3) := by decide +kernel
theorem dX5_where_4 : decode cX5_where 4 = .ok (.iload_n 1, 1) := by decide +kernel
theorem dX5_where_5 : decode cX5_where 5 = .ok (.invokevirtual 90, 3) := by decide +kernel
theorem dX5_where_8 : decode cX5_where 8 = .ok (.ifCond .ne 5, 3) := by decide +kernel
theorem dX5_where_11 : decode cX5_where 11 = .ok (.iconst (-1), 1) := by decide +kernel
theorem dX5_where_12 : decode cX5_where 12 = .ok (.ireturn, 1) := by decide +kernel
theorem dX5_where_13 : decode cX5_where 13 = .ok (.aload_n 0, 1) := by decide +kernel
theorem dX5_where_14 : decode cX5_where 14 = .ok (.getfield 31, 3) := by decide +kernel
theorem dX5_where_17 : decode cX5_where 17 = .ok (.aload_n 0, 1) := by decide +kernel
theorem dX5_where_18 : decode cX5_where 18 = .ok (.getfield 19, 3) := by decide +kernel
theorem dX5_where_21 : decode cX5_where 21 = .ok (.iload_n 2, 1) := by decide +kernel
theorem dX5_where_22 : decode cX5_where 22 = .ok (.iload_n 3, 1) := by decide +kernel
theorem dX5_where_23 : decode cX5_where 23 = .ok (.invokevirtual 166, 3) := by decide +kernel
theorem dX5_where_26 : decode cX5_where 26 = .ok (.aload_n 0, 1) := by decide +kernel
theorem dX5_where_27 : decode cX5_where 27 = .ok (.getfield 31, 3) := by decide +kernel
theorem dX5_where_30 : decode cX5_where 30 = .ok (.iload_n 1, 1) := by decide +kernel
theorem dX5_where_31 : decode cX5_where 31 = .ok (.iload 4, 2) := by decide +kernel
theorem dX5_where_33 : decode cX5_where 33 = .ok (.invokevirtual 170, 3) := by decide +kernel
theorem dX5_where_36 : decode cX5_where 36 = .ok (.ireturn, 1) := by decide +kernel
theorem dX5_chain_0 : decode cX5_chain 0 = .ok (.aload_n 0, 1) := by decide +kernel
theorem dX5_chain_1 : decode cX5_chain 1 = .ok (.getfield 10, 3) := by decide +kernel
theorem dX5_chain_4 : decode cX5_chain 4 = .ok (.iload_n 1, 1) := by decide +kernel
theorem dX5_chain_5 : decode cX5_chain 5 = .ok (.invokevirtual 90, 3) := by decide +kernel
theorem dX5_chain_8 : decode cX5_chain 8 = .ok (.ifCond .ne 5, 3) := by decide +kernel
theorem dX5_chain_11 : decode cX5_chain 11 = .ok (.iconst (-1), 1) := by decide +kernel
theorem dX5_chain_12 : decode cX5_chain 12 = .ok (.ireturn, 1) := by decide +kernel
theorem dX5_chain_13 : decode cX5_chain 13 = .ok (.aload_n 0, 1) := by decide +kernel
theorem dX5_chain_14 : decode cX5_chain 14 = .ok (.getfield 40, 3) := by decide +kernel
theorem dX5_chain_17 : decode cX5_chain 17 = .ok (.iload_n 1, 1) := by decide +kernel
theorem dX5_chain_18 : decode cX5_chain 18 = .ok (.invokevirtual 173, 3) := by decide +kernel
theorem dX5_chain_21 : decode cX5_chain 21 = .ok (.aload_n 0, 1) := by decide +kernel
theorem dX5_chain_22 : decode cX5_chain 22 = .ok (.getfield 40, 3) := by decide +kernel
theorem dX5_chain_25 : decode cX5_chain 25 = .ok (.iload_n 2, 1) := by decide +kernel
theorem dX5_chain_26 : decode cX5_chain 26 = .ok (.invokevirtual 177, 3) := by decide +kernel
theorem dX5_chain_29 : decode cX5_chain 29 = .ok (.ireturn, 1) := by decide +kernel
theorem dX5_gap_0 : decode cX5_gap 0 = .ok (.aload_n 0, 1) := by decide +kernel
theorem dX5_gap_1 : decode cX5_gap 1 = .ok (.getfield 10, 3) := by decide +kernel
theorem dX5_gap_4 : decode cX5_gap 4 = .ok (.iload_n 1, 1) := by decide +kernel
theorem dX5_gap_5 : decode cX5_gap 5 = .ok (.invokevirtual 90, 3) := by decide +kernel
theorem dX5_gap_8 : decode cX5_gap 8 = .ok (.ifCond .ne 5, 3) := by decide +kernel
theorem dX5_gap_11 : decode cX5_gap 11 = .ok (.iconst (-1), 1) := by decide +kernel
theorem dX5_gap_12 : decode cX5_gap 12 = .ok (.ireturn, 1) := by decide +kernel
theorem dX5_gap_13 : decode cX5_gap 13 = .ok (.aload_n 0, 1) := by decide +kernel
theorem dX5_gap_14 : decode cX5_gap 14 = .ok (.getfield 40, 3) := by decide +kernel
theorem dX5_gap_17 : decode cX5_gap 17 = .ok (.iload_n 1, 1) := by decide +kernel
theorem dX5_gap_18 : decode cX5_gap 18 = .ok (.invokevirtual 173, 3) := by decide +kernel
theorem dX5_gap_21 : decode cX5_gap 21 = .ok (.aload_n 0, 1) := by decide +kernel
theorem dX5_gap_22 : decode cX5_gap 22 = .ok (.getfield 40, 3) := by decide +kernel
theorem dX5_gap_25 : decode cX5_gap 25 = .ok (.iload_n 2, 1) := by decide +kernel
theorem dX5_gap_26 : decode cX5_gap 26 = .ok (.invokevirtual 181, 3) := by decide +kernel
theorem dX5_gap_29 : decode cX5_gap 29 = .ok (.istore 4, 2) := by decide +kernel
theorem dX5_gap_31 : decode cX5_gap 31 = .ok (.iload 4, 2) := by decide +kernel
theorem dX5_gap_33 : decode cX5_gap 33 = .ok (.iconst (-1), 1) := by decide +kernel
theorem dX5_gap_34 : decode cX5_gap 34 = .ok (.if_icmp .ne 5, 3) := by decide +kernel
theorem dX5_gap_37 : decode cX5_gap 37 = .ok (.iconst (-1), 1) := by decide +kernel
theorem dX5_gap_38 : decode cX5_gap 38 = .ok (.ireturn, 1) := by decide +kernel
theorem dX5_gap_39 : decode cX5_gap 39 = .ok (.aload_n 0, 1) := by decide +kernel
theorem dX5_gap_40 : decode cX5_gap 40 = .ok (.getfield 40, 3) := by decide +kernel
theorem dX5_gap_43 : decode cX5_gap 43 = .ok (.iload 4, 2) := by decide +kernel
theorem dX5_gap_45 : decode cX5_gap 45 = .ok (.iconst 1, 1) := by decide +kernel
theorem dX5_gap_46 : decode cX5_gap 46 = .ok (.isub, 1) := by decide +kernel
theorem dX5_gap_47 : decode cX5_gap 47 = .ok (.invokevirtual 177, 3) := by decide +kernel
theorem dX5_gap_50 : decode cX5_gap 50 = .ok (.istore 5, 2) := by decide +kernel
theorem dX5_gap_52 : decode cX5_gap 52 = .ok (.aload_n 0, 1) := by decide +kernel
theorem dX5_gap_53 : decode cX5_gap 53 = .ok (.getfield 40, 3) := by decide +kernel
theorem dX5_gap_56 : decode cX5_gap 56 = .ok (.iload 4, 2) := by decide +kernel
theorem dX5_gap_58 : decode cX5_gap 58 = .ok (.invokevirtual 177, 3) := by decide +kernel
theorem dX5_gap_61 : decode cX5_gap 61 = .ok (.istore 6, 2) := by decide +kernel
theorem dX5_gap_63 : decode cX5_gap 63 = .ok (.iload_n 3, 1) := by decide +kernel
theorem dX5_gap_64 : decode cX5_gap 64 = .ok (.tableswitch 62 0 3 #[32, 44, 56, 59], 32) := by decide +kernel
theorem dX5_gap_96 : decode cX5_gap 96 = .ok (.aload_n 0, 1) := by decide +kernel
theorem dX5_gap_97 : decode cX5_gap 97 = .ok (.getfield 19, 3) := by decide +kernel
theorem dX5_gap_100 : decode cX5_gap 100 = .ok (.iload 5, 2) := by decide +kernel
theorem dX5_gap_102 : decode cX5_gap 102 = .ok (.bipush 6, 2) := by decide +kernel
theorem dX5_gap_104 : decode cX5_gap 104 = .ok (.invokevirtual 163, 3) := by decide +kernel
theorem dX5_gap_107 : decode cX5_gap 107 = .ok (.ireturn, 1) := by decide +kernel
theorem dX5_gap_108 : decode cX5_gap 108 = .ok (.aload_n 0, 1) := by decide +kernel
theorem dX5_gap_109 : decode cX5_gap 109 = .ok (.getfield 19, 3) := by decide +kernel
theorem dX5_gap_112 : decode cX5_gap 112 = .ok (.iload 6, 2) := by decide +kernel
theorem dX5_gap_114 : decode cX5_gap 114 = .ok (.bipush 6, 2) := by decide +kernel
theorem dX5_gap_116 : decode cX5_gap 116 = .ok (.invokevirtual 163, 3) := by decide +kernel
theorem dX5_gap_119 : decode cX5_gap 119 = .ok (.ireturn, 1) := by decide +kernel
theorem dX5_gap_120 : decode cX5_gap 120 = .ok (.iload 5, 2) := by decide +kernel
theorem dX5_gap_122 : decode cX5_gap 122 = .ok (.ireturn, 1) := by decide +kernel
theorem dX5_gap_123 : decode cX5_gap 123 = .ok (.iload 6, 2) := by decide +kernel
theorem dX5_gap_125 : decode cX5_gap 125 = .ok (.ireturn, 1) := by decide +kernel
theorem dX5_gap_126 : decode cX5_gap 126 = .ok (.iconst (-1), 1) := by decide +kernel
theorem dX5_gap_127 : decode cX5_gap 127 = .ok (.ireturn, 1) := by decide +kernel
theorem dX5_breaks_0 : decode cX5_breaks 0 = .ok (.aload_n 0, 1) := by decide +kernel
theorem dX5_breaks_1 : decode cX5_breaks 1 = .ok (.getfield 10, 3) := by decide +kernel
theorem dX5_breaks_4 : decode cX5_breaks 4 = .ok (.iload_n 1, 1) := by decide +kernel
theorem dX5_breaks_5 : decode cX5_breaks 5 = .ok (.invokevirtual 184, 3) := by decide +kernel
theorem dX5_breaks_8 : decode cX5_breaks 8 = .ok (.ifCond .eq 14, 3) := by decide +kernel
theorem dX5_breaks_11 : decode cX5_breaks 11 = .ok (.aload_n 0, 1) := by decide +kernel
theorem dX5_breaks_12 : decode cX5_breaks 12 = .ok (.getfield 19, 3) := by decide +kernel
theorem dX5_breaks_15 : decode cX5_breaks 15 = .ok (.iload_n 1, 1) := by decide +kernel
theorem dX5_breaks_16 : decode cX5_breaks 16 = .ok (.invokevirtual 187, 3) := by decide +kernel
theorem dX5_breaks_19 : decode cX5_breaks 19 = .ok (.goto 4, 3) := by decide +kernel
theorem dX5_breaks_22 : decode cX5_breaks 22 = .ok (.iconst (-1), 1) := by decide +kernel
theorem dX5_breaks_23 : decode cX5_breaks 23 = .ok (.ireturn, 1) := by decide +kernel
theorem dX5_due_0 : decode cX5_due 0 = .ok (.iload_n 1, 1) := by decide +kernel
theorem dX5_due_1 : decode cX5_due 1 = .ok (.ifCond .lt 7, 3) := by decide +kernel
theorem dX5_due_4 : decode cX5_due 4 = .ok (.iload_n 2, 1) := by decide +kernel
theorem dX5_due_5 : decode cX5_due 5 = .ok (.ifCond .ge 5, 3) := by decide +kernel
theorem dX5_due_8 : decode cX5_due 8 = .ok (.iconst (-1), 1) := by decide +kernel
theorem dX5_due_9 : decode cX5_due 9 = .ok (.ireturn, 1) := by decide +kernel
theorem dX5_due_10 : decode cX5_due 10 = .ok (.aload_n 0, 1) := by decide +kernel
theorem dX5_due_11 : decode cX5_due 11 = .ok (.getfield 31, 3) := by decide +kernel
theorem dX5_due_14 : decode cX5_due 14 = .ok (.aload_n 0, 1) := by decide +kernel
theorem dX5_due_15 : decode cX5_due 15 = .ok (.getfield 19, 3) := by decide +kernel
theorem dX5_due_18 : decode cX5_due 18 = .ok (.invokevirtual 190, 3) := by decide +kernel
theorem dX5_due_21 : decode cX5_due 21 = .ok (.pop, 1) := by decide +kernel
theorem dX5_due_22 : decode cX5_due 22 = .ok (.aload_n 0, 1) := by decide +kernel
theorem dX5_due_23 : decode cX5_due 23 = .ok (.getfield 31, 3) := by decide +kernel
theorem dX5_due_26 : decode cX5_due 26 = .ok (.iload_n 1, 1) := by decide +kernel
theorem dX5_due_27 : decode cX5_due 27 = .ok (.iload_n 2, 1) := by decide +kernel
theorem dX5_due_28 : decode cX5_due 28 = .ok (.invokevirtual 194, 3) := by decide +kernel
theorem dX5_due_31 : decode cX5_due 31 = .ok (.ireturn, 1) := by decide +kernel
theorem dX5_freeze_0 : decode cX5_freeze 0 = .ok (.aload_n 0, 1) := by decide +kernel
theorem dX5_freeze_1 : decode cX5_freeze 1 = .ok (.getfield 23, 3) := by decide +kernel
theorem dX5_freeze_4 : decode cX5_freeze 4 = .ok (.aload_n 0, 1) := by decide +kernel
theorem dX5_freeze_5 : decode cX5_freeze 5 = .ok (.getfield 19, 3) := by decide +kernel
theorem dX5_freeze_8 : decode cX5_freeze 8 = .ok (.invokevirtual 197, 3) := by decide +kernel
theorem dX5_freeze_11 : decode cX5_freeze 11 = .ok (.aload_n 0, 1) := by decide +kernel
theorem dX5_freeze_12 : decode cX5_freeze 12 = .ok (.iconst 1, 1) := by decide +kernel
theorem dX5_freeze_13 : decode cX5_freeze 13 = .ok (.putfield 155, 3) := by decide +kernel
theorem dX5_freeze_16 : decode cX5_freeze 16 = .ok (.aload_n 0, 1) := by decide +kernel
theorem dX5_freeze_17 : decode cX5_freeze 17 = .ok (.getfield 23, 3) := by decide +kernel
theorem dX5_freeze_20 : decode cX5_freeze 20 = .ok (.getfield 152, 3) := by decide +kernel
theorem dX5_freeze_23 : decode cX5_freeze 23 = .ok (.ireturn, 1) := by decide +kernel
theorem dX5_alter_0 : decode cX5_alter 0 = .ok (.aload_n 0, 1) := by decide +kernel
theorem dX5_alter_1 : decode cX5_alter 1 = .ok (.getfield 155, 3) := by decide +kernel
theorem dX5_alter_4 : decode cX5_alter 4 = .ok (.ifCond .eq 24, 3) := by decide +kernel
theorem dX5_alter_7 : decode cX5_alter 7 = .ok (.aload_n 0, 1) := by decide +kernel
theorem dX5_alter_8 : decode cX5_alter 8 = .ok (.getfield 23, 3) := by decide +kernel
theorem dX5_alter_11 : decode cX5_alter 11 = .ok (.iload_n 1, 1) := by decide +kernel
theorem dX5_alter_12 : decode cX5_alter 12 = .ok (.invokevirtual 158, 3) := by decide +kernel
theorem dX5_alter_15 : decode cX5_alter 15 = .ok (.ifCond .eq 13, 3) := by decide +kernel
theorem dX5_alter_18 : decode cX5_alter 18 = .ok (.iload_n 2, 1) := by decide +kernel
theorem dX5_alter_19 : decode cX5_alter 19 = .ok (.ifCond .lt 9, 3) := by decide +kernel
theorem dX5_alter_22 : decode cX5_alter 22 = .ok (.iload_n 2, 1) := by decide +kernel
theorem dX5_alter_23 : decode cX5_alter 23 = .ok (.bipush 6, 2) := by decide +kernel
theorem dX5_alter_25 : decode cX5_alter 25 = .ok (.if_icmp .le 5, 3) := by decide +kernel
theorem dX5_alter_28 : decode cX5_alter 28 = .ok (.iconst 0, 1) := by decide +kernel
theorem dX5_alter_29 : decode cX5_alter 29 = .ok (.ireturn, 1) := by decide +kernel
theorem dX5_alter_30 : decode cX5_alter 30 = .ok (.aload_n 0, 1) := by decide +kernel
theorem dX5_alter_31 : decode cX5_alter 31 = .ok (.getfield 23, 3) := by decide +kernel
theorem dX5_alter_34 : decode cX5_alter 34 = .ok (.iload_n 1, 1) := by decide +kernel
theorem dX5_alter_35 : decode cX5_alter 35 = .ok (.iload_n 2, 1) := by decide +kernel
theorem dX5_alter_36 : decode cX5_alter 36 = .ok (.iload_n 3, 1) := by decide +kernel
theorem dX5_alter_37 : decode cX5_alter 37 = .ok (.invokevirtual 200, 3) := by decide +kernel
theorem dX5_alter_40 : decode cX5_alter 40 = .ok (.iconst 1, 1) := by decide +kernel
theorem dX5_alter_41 : decode cX5_alter 41 = .ok (.ireturn, 1) := by decide +kernel
theorem dX5_check_0 : decode cX5_check 0 = .ok (.aload_n 0, 1) := by decide +kernel
theorem dX5_check_1 : decode cX5_check 1 = .ok (.getfield 155, 3) := by decide +kernel
theorem dX5_check_4 : decode cX5_check 4 = .ok (.ifCond .eq 17, 3) := by decide +kernel
theorem dX5_check_7 : decode cX5_check 7 = .ok (.aload_n 0, 1) := by decide +kernel
theorem dX5_check_8 : decode cX5_check 8 = .ok (.getfield 31, 3) := by decide +kernel
theorem dX5_check_11 : decode cX5_check 11 = .ok (.aload_n 0, 1) := by decide +kernel
theorem dX5_check_12 : decode cX5_check 12 = .ok (.getfield 23, 3) := by decide +kernel
theorem dX5_check_15 : decode cX5_check 15 = .ok (.invokevirtual 190, 3) := by decide +kernel
theorem dX5_check_18 : decode cX5_check 18 = .ok (.goto 5, 3) := by decide +kernel
theorem dX5_check_21 : decode cX5_check 21 = .ok (.bipush (-2), 2) := by decide +kernel
theorem dX5_check_23 : decode cX5_check 23 = .ok (.ireturn, 1) := by decide +kernel
theorem dX5_thaw_0 : decode cX5_thaw 0 = .ok (.aload_n 0, 1) := by decide +kernel
theorem dX5_thaw_1 : decode cX5_thaw 1 = .ok (.getfield 155, 3) := by decide +kernel
theorem dX5_thaw_4 : decode cX5_thaw 4 = .ok (.ifCond .eq 18, 3) := by decide +kernel
theorem dX5_thaw_7 : decode cX5_thaw 7 = .ok (.aload_n 0, 1) := by decide +kernel
theorem dX5_thaw_8 : decode cX5_thaw 8 = .ok (.getfield 31, 3) := by decide +kernel
theorem dX5_thaw_11 : decode cX5_thaw 11 = .ok (.aload_n 0, 1) := by decide +kernel
theorem dX5_thaw_12 : decode cX5_thaw 12 = .ok (.getfield 23, 3) := by decide +kernel
theorem dX5_thaw_15 : decode cX5_thaw 15 = .ok (.invokevirtual 190, 3) := by decide +kernel
theorem dX5_thaw_18 : decode cX5_thaw 18 = .ok (.iconst (-1), 1) := by decide +kernel
theorem dX5_thaw_19 : decode cX5_thaw 19 = .ok (.if_icmp .eq 5, 3) := by decide +kernel
theorem dX5_thaw_22 : decode cX5_thaw 22 = .ok (.iconst 0, 1) := by decide +kernel
theorem dX5_thaw_23 : decode cX5_thaw 23 = .ok (.ireturn, 1) := by decide +kernel
theorem dX5_thaw_24 : decode cX5_thaw 24 = .ok (.aload_n 0, 1) := by decide +kernel
theorem dX5_thaw_25 : decode cX5_thaw 25 = .ok (.getfield 19, 3) := by decide +kernel
theorem dX5_thaw_28 : decode cX5_thaw 28 = .ok (.aload_n 0, 1) := by decide +kernel
theorem dX5_thaw_29 : decode cX5_thaw 29 = .ok (.getfield 23, 3) := by decide +kernel
theorem dX5_thaw_32 : decode cX5_thaw 32 = .ok (.invokevirtual 197, 3) := by decide +kernel
theorem dX5_thaw_35 : decode cX5_thaw 35 = .ok (.iconst 1, 1) := by decide +kernel
theorem dX5_thaw_36 : decode cX5_thaw 36 = .ok (.ireturn, 1) := by decide +kernel
theorem dX5_findHanding_0 : decode cX5_findHanding 0 = .ok (.iload_n 1, 1) := by decide +kernel
theorem dX5_findHanding_1 : decode cX5_findHanding 1 = .ok (.ifCond .lt 11, 3) := by decide +kernel
theorem dX5_findHanding_4 : decode cX5_findHanding 4 = .ok (.iload_n 1, 1) := by decide +kernel
theorem dX5_findHanding_5 : decode cX5_findHanding 5 = .ok (.aload_n 0, 1) := by decide +kernel
theorem dX5_findHanding_6 : decode cX5_findHanding 6 = .ok (.getfield 97, 3) := by decide +kernel
theorem dX5_findHanding_9 : decode cX5_findHanding 9 = .ok (.if_icmp .lt 7, 3) := by decide +kernel
theorem dX5_findHanding_12 : decode cX5_findHanding 12 = .ok (.aconst_null, 1) := by decide +kernel
theorem dX5_findHanding_13 : decode cX5_findHanding 13 = .ok (.goto 9, 3) := by decide +kernel
theorem dX5_findHanding_16 : decode cX5_findHanding 16 = .ok (.aload_n 0, 1) := by decide +kernel
theorem dX5_findHanding_17 : decode cX5_findHanding 17 = .ok (.getfield 46, 3) := by decide +kernel
theorem dX5_findHanding_20 : decode cX5_findHanding 20 = .ok (.iload_n 1, 1) := by decide +kernel
theorem dX5_findHanding_21 : decode cX5_findHanding 21 = .ok (.aaload, 1) := by decide +kernel
theorem dX5_findHanding_22 : decode cX5_findHanding 22 = .ok (.areturn, 1) := by decide +kernel
theorem dX5_write_0 : decode cX5_write 0 = .ok (.aload_n 0, 1) := by decide +kernel
theorem dX5_write_1 : decode cX5_write 1 = .ok (.iconst (-1), 1) := by decide +kernel
theorem dX5_write_2 : decode cX5_write 2 = .ok (.putfield 58, 3) := by decide +kernel
theorem dX5_write_5 : decode cX5_write 5 = .ok (.aload_n 0, 1) := by decide +kernel
theorem dX5_write_6 : decode cX5_write 6 = .ok (.aload_n 0, 1) := by decide +kernel
theorem dX5_write_7 : decode cX5_write 7 = .ok (.iload_n 1, 1) := by decide +kernel
theorem dX5_write_8 : decode cX5_write 8 = .ok (.iload_n 2, 1) := by decide +kernel
theorem dX5_write_9 : decode cX5_write 9 = .ok (.iload 7, 2) := by decide +kernel
theorem dX5_write_11 : decode cX5_write 11 = .ok (.invokevirtual 204, 3) := by decide +kernel
theorem dX5_write_14 : decode cX5_write 14 = .ok (.putfield 54, 3) := by decide +kernel
theorem dX5_write_17 : decode cX5_write 17 = .ok (.aload_n 0, 1) := by decide +kernel
theorem dX5_write_18 : decode cX5_write 18 = .ok (.getfield 54, 3) := by decide +kernel
theorem dX5_write_21 : decode cX5_write 21 = .ok (.ifCond .eq 5, 3) := by decide +kernel
theorem dX5_write_24 : decode cX5_write 24 = .ok (.iconst (-1), 1) := by decide +kernel
theorem dX5_write_25 : decode cX5_write 25 = .ok (.ireturn, 1) := by decide +kernel
theorem dX5_write_26 : decode cX5_write 26 = .ok (.aload_n 0, 1) := by decide +kernel
theorem dX5_write_27 : decode cX5_write 27 = .ok (.getfield 50, 3) := by decide +kernel
theorem dX5_write_30 : decode cX5_write 30 = .ok (.iconst 0, 1) := by decide +kernel
theorem dX5_write_31 : decode cX5_write 31 = .ok (.iload_n 1, 1) := by decide +kernel
theorem dX5_write_32 : decode cX5_write 32 = .ok (.iastore, 1) := by decide +kernel
theorem dX5_write_33 : decode cX5_write 33 = .ok (.aload_n 0, 1) := by decide +kernel
theorem dX5_write_34 : decode cX5_write 34 = .ok (.getfield 50, 3) := by decide +kernel
theorem dX5_write_37 : decode cX5_write 37 = .ok (.iconst 1, 1) := by decide +kernel
theorem dX5_write_38 : decode cX5_write 38 = .ok (.iload_n 2, 1) := by decide +kernel
theorem dX5_write_39 : decode cX5_write 39 = .ok (.iastore, 1) := by decide +kernel
theorem dX5_write_40 : decode cX5_write 40 = .ok (.aload_n 0, 1) := by decide +kernel
theorem dX5_write_41 : decode cX5_write 41 = .ok (.getfield 50, 3) := by decide +kernel
theorem dX5_write_44 : decode cX5_write 44 = .ok (.iconst 2, 1) := by decide +kernel
theorem dX5_write_45 : decode cX5_write 45 = .ok (.iload_n 3, 1) := by decide +kernel
theorem dX5_write_46 : decode cX5_write 46 = .ok (.iastore, 1) := by decide +kernel
theorem dX5_write_47 : decode cX5_write 47 = .ok (.aload_n 0, 1) := by decide +kernel
theorem dX5_write_48 : decode cX5_write 48 = .ok (.getfield 50, 3) := by decide +kernel
theorem dX5_write_51 : decode cX5_write 51 = .ok (.iconst 3, 1) := by decide +kernel
theorem dX5_write_52 : decode cX5_write 52 = .ok (.iload 4, 2) := by decide +kernel
theorem dX5_write_54 : decode cX5_write 54 = .ok (.iastore, 1) := by decide +kernel
theorem dX5_write_55 : decode cX5_write 55 = .ok (.aload_n 0, 1) := by decide +kernel
theorem dX5_write_56 : decode cX5_write 56 = .ok (.getfield 50, 3) := by decide +kernel
theorem dX5_write_59 : decode cX5_write 59 = .ok (.iconst 4, 1) := by decide +kernel
theorem dX5_write_60 : decode cX5_write 60 = .ok (.iload 5, 2) := by decide +kernel
theorem dX5_write_62 : decode cX5_write 62 = .ok (.iastore, 1) := by decide +kernel
theorem dX5_write_63 : decode cX5_write 63 = .ok (.aload_n 0, 1) := by decide +kernel
theorem dX5_write_64 : decode cX5_write 64 = .ok (.getfield 50, 3) := by decide +kernel
theorem dX5_write_67 : decode cX5_write 67 = .ok (.iconst 5, 1) := by decide +kernel
theorem dX5_write_68 : decode cX5_write 68 = .ok (.iload 6, 2) := by decide +kernel
theorem dX5_write_70 : decode cX5_write 70 = .ok (.iastore, 1) := by decide +kernel
theorem dX5_write_71 : decode cX5_write 71 = .ok (.aload_n 0, 1) := by decide +kernel
theorem dX5_write_72 : decode cX5_write 72 = .ok (.getfield 50, 3) := by decide +kernel
theorem dX5_write_75 : decode cX5_write 75 = .ok (.bipush 6, 2) := by decide +kernel
theorem dX5_write_77 : decode cX5_write 77 = .ok (.iload 7, 2) := by decide +kernel
theorem dX5_write_79 : decode cX5_write 79 = .ok (.iastore, 1) := by decide +kernel
theorem dX5_write_80 : decode cX5_write 80 = .ok (.aload_n 0, 1) := by decide +kernel
theorem dX5_write_81 : decode cX5_write 81 = .ok (.getfield 50, 3) := by decide +kernel
theorem dX5_write_84 : decode cX5_write 84 = .ok (.bipush 7, 2) := by decide +kernel
theorem dX5_write_86 : decode cX5_write 86 = .ok (.aload_n 0, 1) := by decide +kernel
theorem dX5_write_87 : decode cX5_write 87 = .ok (.getfield 83, 3) := by decide +kernel
theorem dX5_write_90 : decode cX5_write 90 = .ok (.iastore, 1) := by decide +kernel
theorem dX5_write_91 : decode cX5_write 91 = .ok (.aload_n 0, 1) := by decide +kernel
theorem dX5_write_92 : decode cX5_write 92 = .ok (.getfield 19, 3) := by decide +kernel
theorem dX5_write_95 : decode cX5_write 95 = .ok (.aload_n 0, 1) := by decide +kernel
theorem dX5_write_96 : decode cX5_write 96 = .ok (.getfield 50, 3) := by decide +kernel
theorem dX5_write_99 : decode cX5_write 99 = .ok (.invokevirtual 208, 3) := by decide +kernel
theorem dX5_write_102 : decode cX5_write 102 = .ok (.aload_n 0, 1) := by decide +kernel
theorem dX5_write_103 : decode cX5_write 103 = .ok (.getfield 31, 3) := by decide +kernel
theorem dX5_write_106 : decode cX5_write 106 = .ok (.aload_n 0, 1) := by decide +kernel
theorem dX5_write_107 : decode cX5_write 107 = .ok (.getfield 19, 3) := by decide +kernel
theorem dX5_write_110 : decode cX5_write 110 = .ok (.invokevirtual 190, 3) := by decide +kernel
theorem dX5_write_113 : decode cX5_write 113 = .ok (.istore 8, 2) := by decide +kernel
theorem dX5_write_115 : decode cX5_write 115 = .ok (.iload 8, 2) := by decide +kernel
theorem dX5_write_117 : decode cX5_write 117 = .ok (.iconst (-1), 1) := by decide +kernel
theorem dX5_write_118 : decode cX5_write 118 = .ok (.if_icmp .eq 23, 3) := by decide +kernel
theorem dX5_write_121 : decode cX5_write 121 = .ok (.aload_n 0, 1) := by decide +kernel
theorem dX5_write_122 : decode cX5_write 122 = .ok (.getfield 19, 3) := by decide +kernel
theorem dX5_write_125 : decode cX5_write 125 = .ok (.invokevirtual 212, 3) := by decide +kernel
theorem dX5_write_128 : decode cX5_write 128 = .ok (.aload_n 0, 1) := by decide +kernel
theorem dX5_write_129 : decode cX5_write 129 = .ok (.iconst 5, 1) := by decide +kernel
theorem dX5_write_130 : decode cX5_write 130 = .ok (.putfield 54, 3) := by decide +kernel
theorem dX5_write_133 : decode cX5_write 133 = .ok (.aload_n 0, 1) := by decide +kernel
theorem dX5_write_134 : decode cX5_write 134 = .ok (.iload 8, 2) := by decide +kernel
theorem dX5_write_136 : decode cX5_write 136 = .ok (.putfield 58, 3) := by decide +kernel
theorem dX5_write_139 : decode cX5_write 139 = .ok (.iconst (-1), 1) := by decide +kernel
theorem dX5_write_140 : decode cX5_write 140 = .ok (.ireturn, 1) := by decide +kernel
theorem dX5_write_141 : decode cX5_write 141 = .ok (.aload_n 0, 1) := by decide +kernel
theorem dX5_write_142 : decode cX5_write 142 = .ok (.getfield 19, 3) := by decide +kernel
theorem dX5_write_145 : decode cX5_write 145 = .ok (.getfield 152, 3) := by decide +kernel
theorem dX5_write_148 : decode cX5_write 148 = .ok (.iconst 1, 1) := by decide +kernel
theorem dX5_write_149 : decode cX5_write 149 = .ok (.isub, 1) := by decide +kernel
theorem dX5_write_150 : decode cX5_write 150 = .ok (.ireturn, 1) := by decide +kernel
theorem dX5_faultAhead_0 : decode cX5_faultAhead 0 = .ok (.aload_n 0, 1) := by decide +kernel
theorem dX5_faultAhead_1 : decode cX5_faultAhead 1 = .ok (.getfield 19, 3) := by decide +kernel
theorem dX5_faultAhead_4 : decode cX5_faultAhead 4 = .ok (.getfield 152, 3) := by decide +kernel
theorem dX5_faultAhead_7 : decode cX5_faultAhead 7 = .ok (.sipush 400, 3) := by decide +kernel
theorem dX5_faultAhead_10 : decode cX5_faultAhead 10 = .ok (.if_icmp .lt 5, 3) := by decide +kernel
theorem dX5_faultAhead_13 : decode cX5_faultAhead 13 = .ok (.iconst 1, 1) := by decide +kernel
theorem dX5_faultAhead_14 : decode cX5_faultAhead 14 = .ok (.ireturn, 1) := by decide +kernel
theorem dX5_faultAhead_15 : decode cX5_faultAhead 15 = .ok (.iload_n 1, 1) := by decide +kernel
theorem dX5_faultAhead_16 : decode cX5_faultAhead 16 = .ok (.iconst 1, 1) := by decide +kernel
theorem dX5_faultAhead_17 : decode cX5_faultAhead 17 = .ok (.if_icmp .lt 9, 3) := by decide +kernel
theorem dX5_faultAhead_20 : decode cX5_faultAhead 20 = .ok (.iload_n 1, 1) := by decide +kernel
theorem dX5_faultAhead_21 : decode cX5_faultAhead 21 = .ok (.bipush 19, 2) := by decide +kernel
theorem dX5_faultAhead_23 : decode cX5_faultAhead 23 = .ok (.if_icmp .le 5, 3) := by decide +kernel
theorem dX5_faultAhead_26 : decode cX5_faultAhead 26 = .ok (.iconst 2, 1) := by decide +kernel
theorem dX5_faultAhead_27 : decode cX5_faultAhead 27 = .ok (.ireturn, 1) := by decide +kernel
theorem dX5_faultAhead_28 : decode cX5_faultAhead 28 = .ok (.aload_n 0, 1) := by decide +kernel
theorem dX5_faultAhead_29 : decode cX5_faultAhead 29 = .ok (.getfield 10, 3) := by decide +kernel
theorem dX5_faultAhead_32 : decode cX5_faultAhead 32 = .ok (.iload_n 2, 1) := by decide +kernel
theorem dX5_faultAhead_33 : decode cX5_faultAhead 33 = .ok (.invokevirtual 90, 3) := by decide +kernel
theorem dX5_faultAhead_36 : decode cX5_faultAhead 36 = .ok (.ifCond .ne 5, 3) := by decide +kernel
theorem dX5_faultAhead_39 : decode cX5_faultAhead 39 = .ok (.iconst 3, 1) := by decide +kernel
theorem dX5_faultAhead_40 : decode cX5_faultAhead 40 = .ok (.ireturn, 1) := by decide +kernel
theorem dX5_faultAhead_41 : decode cX5_faultAhead 41 = .ok (.iload_n 3, 1) := by decide +kernel
theorem dX5_faultAhead_42 : decode cX5_faultAhead 42 = .ok (.ifCond .lt 11, 3) := by decide +kernel
theorem dX5_faultAhead_45 : decode cX5_faultAhead 45 = .ok (.iload_n 3, 1) := by decide +kernel
theorem dX5_faultAhead_46 : decode cX5_faultAhead 46 = .ok (.aload_n 0, 1) := by decide +kernel
theorem dX5_faultAhead_47 : decode cX5_faultAhead 47 = .ok (.getfield 83, 3) := by decide +kernel
theorem dX5_faultAhead_50 : decode cX5_faultAhead 50 = .ok (.if_icmp .le 7, 3) := by decide +kernel
theorem dX5_faultAhead_53 : decode cX5_faultAhead 53 = .ok (.iconst 4, 1) := by decide +kernel
theorem dX5_faultAhead_54 : decode cX5_faultAhead 54 = .ok (.goto 4, 3) := by decide +kernel
theorem dX5_faultAhead_57 : decode cX5_faultAhead 57 = .ok (.iconst 0, 1) := by decide +kernel
theorem dX5_faultAhead_58 : decode cX5_faultAhead 58 = .ok (.ireturn, 1) := by decide +kernel
theorem dX6_init_0 : decode cX6_init 0 = .ok (.aload_n 0, 1) := by decide +kernel
theorem dX6_init_1 : decode cX6_init 1 = .ok (.invokespecial 1, 3) := by decide +kernel
theorem dX6_init_4 : decode cX6_init 4 = .ok (.aload_n 0, 1) := by decide +kernel
theorem dX6_init_5 : decode cX6_init 5 = .ok (.iconst (-1), 1) := by decide +kernel
theorem dX6_init_6 : decode cX6_init 6 = .ok (.putfield 9, 3) := by decide +kernel
theorem dX6_init_9 : decode cX6_init 9 = .ok (.aload_n 0, 1) := by decide +kernel
theorem dX6_init_10 : decode cX6_init 10 = .ok (.bipush 20, 2) := by decide +kernel
theorem dX6_init_12 : decode cX6_init 12 = .ok (.newarray .boolean, 2) := by decide +kernel
theorem dX6_init_14 : decode cX6_init 14 = .ok (.putfield 13, 3) := by decide +kernel
theorem dX6_init_17 : decode cX6_init 17 = .ok (.aload_n 0, 1) := by decide +kernel
theorem dX6_init_18 : decode cX6_init 18 = .ok (.bipush 8, 2) := by decide +kernel
theorem dX6_init_20 : decode cX6_init 20 = .ok (.newarray .boolean, 2) := by decide +kernel
theorem dX6_init_22 : decode cX6_init 22 = .ok (.putfield 17, 3) := by decide +kernel
theorem dX6_init_25 : decode cX6_init 25 = .ok (.aload_n 0, 1) := by decide +kernel
theorem dX6_init_26 : decode cX6_init 26 = .ok (.bipush 6, 2) := by decide +kernel
theorem dX6_init_28 : decode cX6_init 28 = .ok (.newarray .int, 2) := by decide +kernel
theorem dX6_init_30 : decode cX6_init 30 = .ok (.putfield 20, 3) := by decide +kernel
theorem dX6_init_33 : decode cX6_init 33 = .ok (.aload_n 0, 1) := by decide +kernel
theorem dX6_init_34 : decode cX6_init 34 = .ok (.bipush 60, 2) := by decide +kernel
theorem dX6_init_36 : decode cX6_init 36 = .ok (.newarray .int, 2) := by decide +kernel
theorem dX6_init_38 : decode cX6_init 38 = .ok (.putfield 24, 3) := by decide +kernel
theorem dX6_init_41 : decode cX6_init 41 = .ok (.aload_n 0, 1) := by decide +kernel
theorem dX6_init_42 : decode cX6_init 42 = .ok (.bipush 60, 2) := by decide +kernel
theorem dX6_init_44 : decode cX6_init 44 = .ok (.newarray .int, 2) := by decide +kernel
theorem dX6_init_46 : decode cX6_init 46 = .ok (.putfield 27, 3) := by decide +kernel
theorem dX6_init_49 : decode cX6_init 49 = .ok (.aload_n 0, 1) := by decide +kernel
theorem dX6_init_50 : decode cX6_init 50 = .ok (.sipush 3208, 3) := by decide +kernel
theorem dX6_init_53 : decode cX6_init 53 = .ok (.newarray .int, 2) := by decide +kernel
theorem dX6_init_55 : decode cX6_init 55 = .ok (.putfield 30, 3) := by decide +kernel
theorem dX6_init_58 : decode cX6_init 58 = .ok (.aload_n 0, 1) := by decide +kernel
theorem dX6_init_59 : decode cX6_init 59 = .ok (.sipush 3208, 3) := by decide +kernel
theorem dX6_init_62 : decode cX6_init 62 = .ok (.newarray .int, 2) := by decide +kernel
theorem dX6_init_64 : decode cX6_init 64 = .ok (.putfield 33, 3) := by decide +kernel
theorem dX6_init_67 : decode cX6_init 67 = .ok (.aload_n 0, 1) := by decide +kernel
theorem dX6_init_68 : decode cX6_init 68 = .ok (.sipush 420, 3) := by decide +kernel
theorem dX6_init_71 : decode cX6_init 71 = .ok (.newarray .int, 2) := by decide +kernel
theorem dX6_init_73 : decode cX6_init 73 = .ok (.putfield 36, 3) := by decide +kernel
theorem dX6_init_76 : decode cX6_init 76 = .ok (.aload_n 0, 1) := by decide +kernel
theorem dX6_init_77 : decode cX6_init 77 = .ok (.iconst (-1), 1) := by decide +kernel
theorem dX6_init_78 : decode cX6_init 78 = .ok (.putfield 39, 3) := by decide +kernel
theorem dX6_init_81 : decode cX6_init 81 = .ok (.aload_n 0, 1) := by decide +kernel
theorem dX6_init_82 : decode cX6_init 82 = .ok (.iconst (-1), 1) := by decide +kernel
theorem dX6_init_83 : decode cX6_init 83 = .ok (.putfield 42, 3) := by decide +kernel
theorem dX6_init_86 : decode cX6_init 86 = .ok (.aload_n 0, 1) := by decide +kernel
theorem dX6_init_87 : decode cX6_init 87 = .ok (.bipush 60, 2) := by decide +kernel
theorem dX6_init_89 : decode cX6_init 89 = .ok (.newarray .int, 2) := by decide +kernel
theorem dX6_init_91 : decode cX6_init 91 = .ok (.putfield 45, 3) := by decide +kernel
theorem dX6_init_94 : decode cX6_init 94 = .ok (.aload_n 0, 1) := by decide +kernel
theorem dX6_init_95 : decode cX6_init 95 = .ok (.bipush 60, 2) := by decide +kernel
theorem dX6_init_97 : decode cX6_init 97 = .ok (.newarray .int, 2) := by decide +kernel
theorem dX6_init_99 : decode cX6_init 99 = .ok (.putfield 48, 3) := by decide +kernel
theorem dX6_init_102 : decode cX6_init 102 = .ok (.aload_n 0, 1) := by decide +kernel
theorem dX6_init_103 : decode cX6_init 103 = .ok (.bipush 60, 2) := by decide +kernel
theorem dX6_init_105 : decode cX6_init 105 = .ok (.newarray .int, 2) := by decide +kernel
theorem dX6_init_107 : decode cX6_init 107 = .ok (.putfield 51, 3) := by decide +kernel
theorem dX6_init_110 : decode cX6_init 110 = .ok (.aload_n 0, 1) := by decide +kernel
theorem dX6_init_111 : decode cX6_init 111 = .ok (.bipush 60, 2) := by decide +kernel
theorem dX6_init_113 : decode cX6_init 113 = .ok (.newarray .int, 2) := by decide +kernel
theorem dX6_init_115 : decode cX6_init 115 = .ok (.putfield 54, 3) := by decide +kernel
theorem dX6_init_118 : decode cX6_init 118 = .ok (.aload_n 0, 1) := by decide +kernel
theorem dX6_init_119 : decode cX6_init 119 = .ok (.bipush 60, 2) := by decide +kernel
theorem dX6_init_121 : decode cX6_init 121 = .ok (.newarray .int, 2) := by decide +kernel
theorem dX6_init_123 : decode cX6_init 123 = .ok (.putfield 57, 3) := by decide +kernel
theorem dX6_init_126 : decode cX6_init 126 = .ok (.aload_n 0, 1) := by decide +kernel
theorem dX6_init_127 : decode cX6_init 127 = .ok (.bipush 60, 2) := by decide +kernel
theorem dX6_init_129 : decode cX6_init 129 = .ok (.newarray .int, 2) := by decide +kernel
theorem dX6_init_131 : decode cX6_init 131 = .ok (.putfield 60, 3) := by decide +kernel
theorem dX6_init_134 : decode cX6_init 134 = .ok (.aload_n 0, 1) := by decide +kernel
theorem dX6_init_135 : decode cX6_init 135 = .ok (.bipush 60, 2) := by decide +kernel
theorem dX6_init_137 : decode cX6_init 137 = .ok (.newarray .boolean, 2) := by decide +kernel
theorem dX6_init_139 : decode cX6_init 139 = .ok (.putfield 63, 3) := by decide +kernel
theorem dX6_init_142 : decode cX6_init 142 = .ok (.aload_n 0, 1) := by decide +kernel
theorem dX6_init_143 : decode cX6_init 143 = .ok (.bipush 60, 2) := by decide +kernel
theorem dX6_init_145 : decode cX6_init 145 = .ok (.newarray .int, 2) := by decide +kernel
theorem dX6_init_147 : decode cX6_init 147 = .ok (.putfield 66, 3) := by decide +kernel
theorem dX6_init_150 : decode cX6_init 150 = .ok (.aload_n 0, 1) := by decide +kernel
theorem dX6_init_151 : decode cX6_init 151 = .ok (.bipush 60, 2) := by decide +kernel
theorem dX6_init_153 : decode cX6_init 153 = .ok (.newarray .int, 2) := by decide +kernel
theorem dX6_init_155 : decode cX6_init 155 = .ok (.putfield 69, 3) := by decide +kernel
theorem dX6_init_158 : decode cX6_init 158 = .ok (.aload_n 0, 1) := by decide +kernel
theorem dX6_init_159 : decode cX6_init 159 = .ok (.bipush 60, 2) := by decide +kernel
theorem dX6_init_161 : decode cX6_init 161 = .ok (.newarray .boolean, 2) := by decide +kernel
theorem dX6_init_163 : decode cX6_init 163 = .ok (.putfield 72, 3) := by decide +kernel
theorem dX6_init_166 : decode cX6_init 166 = .ok (.aload_n 0, 1) := by decide +kernel
theorem dX6_init_167 : decode cX6_init 167 = .ok (.sipush 600, 3) := by decide +kernel
theorem dX6_init_170 : decode cX6_init 170 = .ok (.newarray .boolean, 2) := by decide +kernel
theorem dX6_init_172 : decode cX6_init 172 = .ok (.putfield 75, 3) := by decide +kernel
theorem dX6_init_175 : decode cX6_init 175 = .ok (.aload_n 0, 1) := by decide +kernel
theorem dX6_init_176 : decode cX6_init 176 = .ok (.sipush 401, 3) := by decide +kernel
theorem dX6_init_179 : decode cX6_init 179 = .ok (.newarray .int, 2) := by decide +kernel
theorem dX6_init_181 : decode cX6_init 181 = .ok (.putfield 78, 3) := by decide +kernel
theorem dX6_init_184 : decode cX6_init 184 = .ok (.aload_n 0, 1) := by decide +kernel
theorem dX6_init_185 : decode cX6_init 185 = .ok (.sipush 800, 3) := by decide +kernel
theorem dX6_init_188 : decode cX6_init 188 = .ok (.newarray .int, 2) := by decide +kernel
theorem dX6_init_190 : decode cX6_init 190 = .ok (.putfield 81, 3) := by decide +kernel
theorem dX6_init_193 : decode cX6_init 193 = .ok (.aload_n 0, 1) := by decide +kernel
theorem dX6_init_194 : decode cX6_init 194 = .ok (.bipush 60, 2) := by decide +kernel
theorem dX6_init_196 : decode cX6_init 196 = .ok (.newarray .int, 2) := by decide +kernel
theorem dX6_init_198 : decode cX6_init 198 = .ok (.putfield 84, 3) := by decide +kernel
theorem dX6_init_201 : decode cX6_init 201 = .ok (.aload_n 0, 1) := by decide +kernel
theorem dX6_init_202 : decode cX6_init 202 = .ok (.bipush 60, 2) := by decide +kernel
theorem dX6_init_204 : decode cX6_init 204 = .ok (.newarray .int, 2) := by decide +kernel
theorem dX6_init_206 : decode cX6_init 206 = .ok (.putfield 87, 3) := by decide +kernel
theorem dX6_init_209 : decode cX6_init 209 = .ok (.iconst 0, 1) := by decide +kernel
theorem dX6_init_210 : decode cX6_init 210 = .ok (.istore_n 1, 1) := by decide +kernel
theorem dX6_init_211 : decode cX6_init 211 = .ok (.iload_n 1, 1) := by decide +kernel
theorem dX6_init_212 : decode cX6_init 212 = .ok (.bipush 6, 2) := by decide +kernel
theorem dX6_init_214 : decode cX6_init 214 = .ok (.if_icmp .ge 16, 3) := by decide +kernel
theorem dX6_init_217 : decode cX6_init 217 = .ok (.aload_n 0, 1) := by decide +kernel
theorem dX6_init_218 : decode cX6_init 218 = .ok (.getfield 20, 3) := by decide +kernel
theorem dX6_init_221 : decode cX6_init 221 = .ok (.iload_n 1, 1) := by decide +kernel
theorem dX6_init_222 : decode cX6_init 222 = .ok (.iconst (-1), 1) := by decide +kernel
theorem dX6_init_223 : decode cX6_init 223 = .ok (.iastore, 1) := by decide +kernel
theorem dX6_init_224 : decode cX6_init 224 = .ok (.iinc 1 1, 3) := by decide +kernel
theorem dX6_init_227 : decode cX6_init 227 = .ok (.goto (-16), 3) := by decide +kernel
theorem dX6_init_230 : decode cX6_init 230 = .ok (.aload_n 0, 1) := by decide +kernel
theorem dX6_init_231 : decode cX6_init 231 = .ok (.invokevirtual 90, 3) := by decide +kernel
theorem dX6_init_234 : decode cX6_init 234 = .ok (.return_, 1) := by decide +kernel
theorem dX6_isIn_0 : decode cX6_isIn 0 = .ok (.iload_n 0, 1) := by decide +kernel
theorem dX6_isIn_1 : decode cX6_isIn 1 = .ok (.iload_n 1, 1) := by decide +kernel
theorem dX6_isIn_2 : decode cX6_isIn 2 = .ok (.if_icmp .lt 12, 3) := by decide +kernel
theorem dX6_isIn_5 : decode cX6_isIn 5 = .ok (.iload_n 0, 1) := by decide +kernel
theorem dX6_isIn_6 : decode cX6_isIn 6 = .ok (.iload_n 2, 1) := by decide +kernel
theorem dX6_isIn_7 : decode cX6_isIn 7 = .ok (.if_icmp .gt 7, 3) := by decide +kernel
theorem dX6_isIn_10 : decode cX6_isIn 10 = .ok (.iconst 1, 1) := by decide +kernel
theorem dX6_isIn_11 : decode cX6_isIn 11 = .ok (.goto 4, 3) := by decide +kernel
theorem dX6_isIn_14 : decode cX6_isIn 14 = .ok (.iconst 0, 1) := by decide +kernel
theorem dX6_isIn_15 : decode cX6_isIn 15 = .ok (.ireturn, 1) := by decide +kernel
theorem dX6_begin_0 : decode cX6_begin 0 = .ok (.iconst 0, 1) := by decide +kernel
theorem dX6_begin_1 : decode cX6_begin 1 = .ok (.istore_n 1, 1) := by decide +kernel
theorem dX6_begin_2 : decode cX6_begin 2 = .ok (.iload_n 1, 1) := by decide +kernel
theorem dX6_begin_3 : decode cX6_begin 3 = .ok (.bipush 60, 2) := by decide +kernel
theorem dX6_begin_5 : decode cX6_begin 5 = .ok (.if_icmp .ge 84, 3) := by decide +kernel
theorem dX6_begin_8 : decode cX6_begin 8 = .ok (.aload_n 0, 1) := by decide +kernel
theorem dX6_begin_9 : decode cX6_begin 9 = .ok (.getfield 45, 3) := by decide +kernel
theorem dX6_begin_12 : decode cX6_begin 12 = .ok (.iload_n 1, 1) := by decide +kernel
theorem dX6_begin_13 : decode cX6_begin 13 = .ok (.iconst 0, 1) := by decide +kernel
theorem dX6_begin_14 : decode cX6_begin 14 = .ok (.iastore, 1) := by decide +kernel
theorem dX6_begin_15 : decode cX6_begin 15 = .ok (.aload_n 0, 1) := by decide +kernel
theorem dX6_begin_16 : decode cX6_begin 16 = .ok (.getfield 48, 3) := by decide +kernel
theorem dX6_begin_19 : decode cX6_begin 19 = .ok (.iload_n 1, 1) := by decide +kernel
theorem dX6_begin_20 : decode cX6_begin 20 = .ok (.iconst (-1), 1) := by decide +kernel
theorem dX6_begin_21 : decode cX6_begin 21 = .ok (.iastore, 1) := by decide +kernel
theorem dX6_begin_22 : decode cX6_begin 22 = .ok (.aload_n 0, 1) := by decide +kernel
theorem dX6_begin_23 : decode cX6_begin 23 = .ok (.getfield 51, 3) := by decide +kernel
theorem dX6_begin_26 : decode cX6_begin 26 = .ok (.iload_n 1, 1) := by decide +kernel
theorem dX6_begin_27 : decode cX6_begin 27 = .ok (.aload_n 0, 1) := by decide +kernel
theorem dX6_begin_28 : decode cX6_begin 28 = .ok (.getfield 27, 3) := by decide +kernel
theorem dX6_begin_31 : decode cX6_begin 31 = .ok (.iload_n 1, 1) := by decide +kernel
theorem dX6_begin_32 : decode cX6_begin 32 = .ok (.iaload, 1) := by decide +kernel
theorem dX6_begin_33 : decode cX6_begin 33 = .ok (.iastore, 1) := by decide +kernel
theorem dX6_begin_34 : decode cX6_begin 34 = .ok (.aload_n 0, 1) := by decide +kernel
theorem dX6_begin_35 : decode cX6_begin 35 = .ok (.getfield 54, 3) := by decide +kernel
theorem dX6_begin_38 : decode cX6_begin 38 = .ok (.iload_n 1, 1) := by decide +kernel
theorem dX6_begin_39 : decode cX6_begin 39 = .ok (.iconst (-1), 1) := by decide +kernel
theorem dX6_begin_40 : decode cX6_begin 40 = .ok (.iastore, 1) := by decide +kernel
theorem dX6_begin_41 : decode cX6_begin 41 = .ok (.aload_n 0, 1) := by decide +kernel
theorem dX6_begin_42 : decode cX6_begin 42 = .ok (.getfield 57, 3) := by decide +kernel
theorem dX6_begin_45 : decode cX6_begin 45 = .ok (.iload_n 1, 1) := by decide +kernel
theorem dX6_begin_46 : decode cX6_begin 46 = .ok (.iconst (-1), 1) := by decide +kernel
theorem dX6_begin_47 : decode cX6_begin 47 = .ok (.iastore, 1) := by decide +kernel
theorem dX6_begin_48 : decode cX6_begin 48 = .ok (.aload_n 0, 1) := by decide +kernel
theorem dX6_begin_49 : decode cX6_begin 49 = .ok (.getfield 60, 3) := by decide +kernel
theorem dX6_begin_52 : decode cX6_begin 52 = .ok (.iload_n 1, 1) := by decide +kernel
theorem dX6_begin_53 : decode cX6_begin 53 = .ok (.iconst (-1), 1) := by decide +kernel
theorem dX6_begin_54 : decode cX6_begin 54 = .ok (.iastore, 1) := by decide +kernel
theorem dX6_begin_55 : decode cX6_begin 55 = .ok (.aload_n 0, 1) := by decide +kernel
theorem dX6_begin_56 : decode cX6_begin 56 = .ok (.getfield 63, 3) := by decide +kernel
theorem dX6_begin_59 : decode cX6_begin 59 = .ok (.iload_n 1, 1) := by decide +kernel
theorem dX6_begin_60 : decode cX6_begin 60 = .ok (.iconst 0, 1) := by decide +kernel
theorem dX6_begin_61 : decode cX6_begin 61 = .ok (.bastore, 1) := by decide +kernel
theorem dX6_begin_62 : decode cX6_begin 62 = .ok (.aload_n 0, 1) := by decide +kernel
theorem dX6_begin_63 : decode cX6_begin 63 = .ok (.getfield 66, 3) := by decide +kernel
theorem dX6_begin_66 : decode cX6_begin 66 = .ok (.iload_n 1, 1) := by decide +kernel
theorem dX6_begin_67 : decode cX6_begin 67 = .ok (.iconst 0, 1) := by decide +kernel
theorem dX6_begin_68 : decode cX6_begin 68 = .ok (.iastore, 1) := by decide +kernel
theorem dX6_begin_69 : decode cX6_begin 69 = .ok (.aload_n 0, 1) := by decide +kernel
theorem dX6_begin_70 : decode cX6_begin 70 = .ok (.getfield 69, 3) := by decide +kernel
theorem dX6_begin_73 : decode cX6_begin 73 = .ok (.iload_n 1, 1) := by decide +kernel
theorem dX6_begin_74 : decode cX6_begin 74 = .ok (.iconst (-1), 1) := by decide +kernel
theorem dX6_begin_75 : decode cX6_begin 75 = .ok (.iastore, 1) := by decide +kernel
theorem dX6_begin_76 : decode cX6_begin 76 = .ok (.aload_n 0, 1) := by decide +kernel
theorem dX6_begin_77 : decode cX6_begin 77 = .ok (.getfield 72, 3) := by decide +kernel
theorem dX6_begin_80 : decode cX6_begin 80 = .ok (.iload_n 1, 1) := by decide +kernel
theorem dX6_begin_81 : decode cX6_begin 81 = .ok (.iconst 0, 1) := by decide +kernel
theorem dX6_begin_82 : decode cX6_begin 82 = .ok (.bastore, 1) := by decide +kernel
theorem dX6_begin_83 : decode cX6_begin 83 = .ok (.iinc 1 1, 3) := by decide +kernel
theorem dX6_begin_86 : decode cX6_begin 86 = .ok (.goto (-84), 3) := by decide +kernel
theorem dX6_begin_89 : decode cX6_begin 89 = .ok (.iconst 0, 1) := by decide +kernel
theorem dX6_begin_90 : decode cX6_begin 90 = .ok (.istore_n 1, 1) := by decide +kernel
theorem dX6_begin_91 : decode cX6_begin 91 = .ok (.iload_n 1, 1) := by decide +kernel
theorem dX6_begin_92 : decode cX6_begin 92 = .ok (.sipush 600, 3) := by decide +kernel
theorem dX6_begin_95 : decode cX6_begin 95 = .ok (.if_icmp .ge 16, 3) := by decide +kernel
theorem dX6_begin_98 : decode cX6_begin 98 = .ok (.aload_n 0, 1) := by decide +kernel
theorem dX6_begin_99 : decode cX6_begin 99 = .ok (.getfield 75, 3) := by decide +kernel
theorem dX6_begin_102 : decode cX6_begin 102 = .ok (.iload_n 1, 1) := by decide +kernel
theorem dX6_begin_103 : decode cX6_begin 103 = .ok (.iconst 0, 1) := by decide +kernel
theorem dX6_begin_104 : decode cX6_begin 104 = .ok (.bastore, 1) := by decide +kernel
theorem dX6_begin_105 : decode cX6_begin 105 = .ok (.iinc 1 1, 3) := by decide +kernel
theorem dX6_begin_108 : decode cX6_begin 108 = .ok (.goto (-17), 3) := by decide +kernel
theorem dX6_begin_111 : decode cX6_begin 111 = .ok (.return_, 1) := by decide +kernel
theorem dX6_isBag_0 : decode cX6_isBag 0 = .ok (.aload_n 0, 1) := by decide +kernel
theorem dX6_isBag_1 : decode cX6_isBag 1 = .ok (.getfield 24, 3) := by decide +kernel
theorem dX6_isBag_4 : decode cX6_isBag 4 = .ok (.iload_n 1, 1) := by decide +kernel
theorem dX6_isBag_5 : decode cX6_isBag 5 = .ok (.iaload, 1) := by decide +kernel
theorem dX6_isBag_6 : decode cX6_isBag 6 = .ok (.iconst 1, 1) := by decide +kernel
theorem dX6_isBag_7 : decode cX6_isBag 7 = .ok (.if_icmp .eq 13, 3) := by decide +kernel
theorem dX6_isBag_10 : decode cX6_isBag 10 = .ok (.aload_n 0, 1) := by decide +kernel
theorem dX6_isBag_11 : decode cX6_isBag 11 = .ok (.getfield 24, 3) := by decide +kernel
theorem dX6_isBag_14 : decode cX6_isBag 14 = .ok (.iload_n 1, 1) := by decide +kernel
theorem dX6_isBag_15 : decode cX6_isBag 15 = .ok (.iaload, 1) := by decide +kernel
theorem dX6_isBag_16 : decode cX6_isBag 16 = .ok (.iconst 3, 1) := by decide +kernel
theorem dX6_isBag_17 : decode cX6_isBag 17 = .ok (.if_icmp .le 7, 3) := by decide +kernel
theorem dX6_isBag_20 : decode cX6_isBag 20 = .ok (.iconst 1, 1) := by decide +kernel
theorem dX6_isBag_21 : decode cX6_isBag 21 = .ok (.goto 4, 3) := by decide +kernel
theorem dX6_isBag_24 : decode cX6_isBag 24 = .ok (.iconst 0, 1) := by decide +kernel
theorem dX6_isBag_25 : decode cX6_isBag 25 = .ok (.ireturn, 1) := by decide +kernel
theorem dX6_isKept_0 : decode cX6_isKept 0 = .ok (.iload_n 1, 1) := by decide +kernel
theorem dX6_isKept_1 : decode cX6_isKept 1 = .ok (.iconst 0, 1) := by decide +kernel
theorem dX6_isKept_2 : decode cX6_isKept 2 = .ok (.aload_n 0, 1) := by decide +kernel
theorem dX6_isKept_3 : decode cX6_isKept 3 = .ok (.getfield 93, 3) := by decide +kernel
theorem dX6_isKept_6 : decode cX6_isKept 6 = .ok (.iconst 1, 1) := by decide +kernel
theorem dX6_isKept_7 : decode cX6_isKept 7 = .ok (.isub, 1) := by decide +kernel
theorem dX6_isKept_8 : decode cX6_isKept 8 = .ok (.invokestatic 96, 3) := by decide +kernel
theorem dX6_isKept_11 : decode cX6_isKept 11 = .ok (.ifCond .eq 26, 3) := by decide +kernel
theorem dX6_isKept_14 : decode cX6_isKept 14 = .ok (.aload_n 0, 1) := by decide +kernel
theorem dX6_isKept_15 : decode cX6_isKept 15 = .ok (.getfield 45, 3) := by decide +kernel
theorem dX6_isKept_18 : decode cX6_isKept 18 = .ok (.iload_n 1, 1) := by decide +kernel
theorem dX6_isKept_19 : decode cX6_isKept 19 = .ok (.iaload, 1) := by decide +kernel
theorem dX6_isKept_20 : decode cX6_isKept 20 = .ok (.ifCond .eq 17, 3) := by decide +kernel
theorem dX6_isKept_23 : decode cX6_isKept 23 = .ok (.aload_n 0, 1) := by decide +kernel
theorem dX6_isKept_24 : decode cX6_isKept 24 = .ok (.getfield 45, 3) := by decide +kernel
theorem dX6_isKept_27 : decode cX6_isKept 27 = .ok (.iload_n 1, 1) := by decide +kernel
theorem dX6_isKept_28 : decode cX6_isKept 28 = .ok (.iaload, 1) := by decide +kernel
theorem dX6_isKept_29 : decode cX6_isKept 29 = .ok (.iconst 4, 1) := by decide +kernel
theorem dX6_isKept_30 : decode cX6_isKept 30 = .ok (.if_icmp .eq 7, 3) := by decide +kernel
theorem dX6_isKept_33 : decode cX6_isKept 33 = .ok (.iconst 1, 1) := by decide +kernel
theorem dX6_isKept_34 : decode cX6_isKept 34 = .ok (.goto 4, 3) := by decide +kernel
theorem dX6_isKept_37 : decode cX6_isKept 37 = .ok (.iconst 0, 1) := by decide +kernel
theorem dX6_isKept_38 : decode cX6_isKept 38 = .ok (.ireturn, 1) := by decide +kernel
theorem dX6_isKeeper_0 : decode cX6_isKeeper 0 = .ok (.iload_n 1, 1) := by decide +kernel
theorem dX6_isKeeper_1 : decode cX6_isKeeper 1 = .ok (.iconst 0, 1) := by decide +kernel
theorem dX6_isKeeper_2 : decode cX6_isKeeper 2 = .ok (.aload_n 0, 1) := by decide +kernel
theorem dX6_isKeeper_3 : decode cX6_isKeeper 3 = .ok (.getfield 100, 3) := by decide +kernel
theorem dX6_isKeeper_6 : decode cX6_isKeeper 6 = .ok (.iconst 1, 1) := by decide +kernel
theorem dX6_isKeeper_7 : decode cX6_isKeeper 7 = .ok (.isub, 1) := by decide +kernel
theorem dX6_isKeeper_8 : decode cX6_isKeeper 8 = .ok (.invokestatic 96, 3) := by decide +kernel
theorem dX6_isKeeper_11 : decode cX6_isKeeper 11 = .ok (.ifCond .eq 16, 3) := by decide +kernel
theorem dX6_isKeeper_14 : decode cX6_isKeeper 14 = .ok (.aload_n 0, 1) := by decide +kernel
theorem dX6_isKeeper_15 : decode cX6_isKeeper 15 = .ok (.getfield 13, 3) := by decide +kernel
theorem dX6_isKeeper_18 : decode cX6_isKeeper 18 = .ok (.iload_n 1, 1) := by decide +kernel
theorem dX6_isKeeper_19 : decode cX6_isKeeper 19 = .ok (.baload, 1) := by decide +kernel
theorem dX6_isKeeper_20 : decode cX6_isKeeper 20 = .ok (.ifCond .eq 7, 3) := by decide +kernel
theorem dX6_isKeeper_23 : decode cX6_isKeeper 23 = .ok (.iconst 1, 1) := by decide +kernel
theorem dX6_isKeeper_24 : decode cX6_isKeeper 24 = .ok (.goto 4, 3) := by decide +kernel
theorem dX6_isKeeper_27 : decode cX6_isKeeper 27 = .ok (.iconst 0, 1) := by decide +kernel
theorem dX6_isKeeper_28 : decode cX6_isKeeper 28 = .ok (.ireturn, 1) := by decide +kernel
theorem dX6_isHand_0 : decode cX6_isHand 0 = .ok (.iload_n 1, 1) := by decide +kernel
theorem dX6_isHand_1 : decode cX6_isHand 1 = .ok (.iconst 0, 1) := by decide +kernel
theorem dX6_isHand_2 : decode cX6_isHand 2 = .ok (.aload_n 0, 1) := by decide +kernel
theorem dX6_isHand_3 : decode cX6_isHand 3 = .ok (.getfield 100, 3) := by decide +kernel
theorem dX6_isHand_6 : decode cX6_isHand 6 = .ok (.iconst 1, 1) := by decide +kernel
theorem dX6_isHand_7 : decode cX6_isHand 7 = .ok (.isub, 1) := by decide +kernel
theorem dX6_isHand_8 : decode cX6_isHand 8 = .ok (.invokestatic 96, 3) := by decide +kernel
theorem dX6_isHand_11 : decode cX6_isHand 11 = .ok (.ireturn, 1) := by decide +kernel
theorem dX6_isEmpty_0 : decode cX6_isEmpty 0 = .ok (.iload_n 1, 1) := by decide +kernel
theorem dX6_isEmpty_1 : decode cX6_isEmpty 1 = .ok (.iconst 0, 1) := by decide +kernel
theorem dX6_isEmpty_2 : decode cX6_isEmpty 2 = .ok (.bipush 12, 2) := by decide +kernel
theorem dX6_isEmpty_4 : decode cX6_isEmpty 4 = .ok (.aload_n 0, 1) := by decide +kernel
theorem dX6_isEmpty_5 : decode cX6_isEmpty 5 = .ok (.getfield 103, 3) := by decide +kernel
theorem dX6_isEmpty_8 : decode cX6_isEmpty 8 = .ok (.imul, 1) := by decide +kernel
theorem dX6_isEmpty_9 : decode cX6_isEmpty 9 = .ok (.iconst 1, 1) := by decide +kernel
theorem dX6_isEmpty_10 : decode cX6_isEmpty 10 = .ok (.isub, 1) := by decide +kernel
theorem dX6_isEmpty_11 : decode cX6_isEmpty 11 = .ok (.invokestatic 96, 3) := by decide +kernel
theorem dX6_isEmpty_14 : decode cX6_isEmpty 14 = .ok (.ifCond .ne 5, 3) := by decide +kernel
theorem dX6_isEmpty_17 : decode cX6_isEmpty 17 = .ok (.iconst 0, 1) := by decide +kernel
theorem dX6_isEmpty_18 : decode cX6_isEmpty 18 = .ok (.ireturn, 1) := by decide +kernel
theorem dX6_isEmpty_19 : decode cX6_isEmpty 19 = .ok (.iconst 0, 1) := by decide +kernel
theorem dX6_isEmpty_20 : decode cX6_isEmpty 20 = .ok (.istore_n 2, 1) := by decide +kernel
theorem dX6_isEmpty_21 : decode cX6_isEmpty 21 = .ok (.iload_n 2, 1) := by decide +kernel
theorem dX6_isEmpty_22 : decode cX6_isEmpty 22 = .ok (.aload_n 0, 1) := by decide +kernel
theorem dX6_isEmpty_23 : decode cX6_isEmpty 23 = .ok (.getfield 93, 3) := by decide +kernel
theorem dX6_isEmpty_26 : decode cX6_isEmpty 26 = .ok (.if_icmp .ge 31, 3) := by decide +kernel
theorem dX6_isEmpty_29 : decode cX6_isEmpty 29 = .ok (.aload_n 0, 1) := by decide +kernel
theorem dX6_isEmpty_30 : decode cX6_isEmpty 30 = .ok (.getfield 45, 3) := by decide +kernel
theorem dX6_isEmpty_33 : decode cX6_isEmpty 33 = .ok (.iload_n 2, 1) := by decide +kernel
theorem dX6_isEmpty_34 : decode cX6_isEmpty 34 = .ok (.iaload, 1) := by decide +kernel
theorem dX6_isEmpty_35 : decode cX6_isEmpty 35 = .ok (.iconst 1, 1) := by decide +kernel
theorem dX6_isEmpty_36 : decode cX6_isEmpty 36 = .ok (.if_icmp .ne 15, 3) := by decide +kernel
theorem dX6_isEmpty_39 : decode cX6_isEmpty 39 = .ok (.aload_n 0, 1) := by decide +kernel
theorem dX6_isEmpty_40 : decode cX6_isEmpty 40 = .ok (.getfield 48, 3) := by decide +kernel
theorem dX6_isEmpty_43 : decode cX6_isEmpty 43 = .ok (.iload_n 2, 1) := by decide +kernel
theorem dX6_isEmpty_44 : decode cX6_isEmpty 44 = .ok (.iaload, 1) := by decide +kernel
theorem dX6_isEmpty_45 : decode cX6_isEmpty 45 = .ok (.iload_n 1, 1) := by decide +kernel
theorem dX6_isEmpty_46 : decode cX6_isEmpty 46 = .ok (.if_icmp .ne 5, 3) := by decide +kernel
theorem dX6_isEmpty_49 : decode cX6_isEmpty 49 = .ok (.iconst 0, 1) := by decide +kernel
theorem dX6_isEmpty_50 : decode cX6_isEmpty 50 = .ok (.ireturn, 1) := by decide +kernel
theorem dX6_isEmpty_51 : decode cX6_isEmpty 51 = .ok (.iinc 2 1, 3) := by decide +kernel
theorem dX6_isEmpty_54 : decode cX6_isEmpty 54 = .ok (.goto (-33), 3) := by decide +kernel
theorem dX6_isEmpty_57 : decode cX6_isEmpty 57 = .ok (.iconst 1, 1) := by decide +kernel
theorem dX6_isEmpty_58 : decode cX6_isEmpty 58 = .ok (.ireturn, 1) := by decide +kernel
theorem dX6_fits_0 : decode cX6_fits 0 = .ok (.aload_n 0, 1) := by decide +kernel
theorem dX6_fits_1 : decode cX6_fits 1 = .ok (.iload_n 2, 1) := by decide +kernel
theorem dX6_fits_2 : decode cX6_fits 2 = .ok (.invokevirtual 106, 3) := by decide +kernel
theorem dX6_fits_5 : decode cX6_fits 5 = .ok (.ifCond .eq 29, 3) := by decide +kernel
theorem dX6_fits_8 : decode cX6_fits 8 = .ok (.aload_n 0, 1) := by decide +kernel
theorem dX6_fits_9 : decode cX6_fits 9 = .ok (.getfield 24, 3) := by decide +kernel
theorem dX6_fits_12 : decode cX6_fits 12 = .ok (.iload_n 1, 1) := by decide +kernel
theorem dX6_fits_13 : decode cX6_fits 13 = .ok (.iaload, 1) := by decide +kernel
theorem dX6_fits_14 : decode cX6_fits 14 = .ok (.iconst 4, 1) := by decide +kernel
theorem dX6_fits_15 : decode cX6_fits 15 = .ok (.if_icmp .ne 15, 3) := by decide +kernel
theorem dX6_fits_18 : decode cX6_fits 18 = .ok (.aload_n 0, 1) := by decide +kernel
theorem dX6_fits_19 : decode cX6_fits 19 = .ok (.getfield 17, 3) := by decide +kernel
theorem dX6_fits_22 : decode cX6_fits 22 = .ok (.iload_n 2, 1) := by decide +kernel
theorem dX6_fits_23 : decode cX6_fits 23 = .ok (.bipush 12, 2) := by decide +kernel
theorem dX6_fits_25 : decode cX6_fits 25 = .ok (.idiv, 1) := by decide +kernel
theorem dX6_fits_26 : decode cX6_fits 26 = .ok (.baload, 1) := by decide +kernel
theorem dX6_fits_27 : decode cX6_fits 27 = .ok (.ifCond .eq 7, 3) := by decide +kernel
theorem dX6_fits_30 : decode cX6_fits 30 = .ok (.iconst 1, 1) := by decide +kernel
theorem dX6_fits_31 : decode cX6_fits 31 = .ok (.goto 4, 3) := by decide +kernel
theorem dX6_fits_34 : decode cX6_fits 34 = .ok (.iconst 0, 1) := by decide +kernel
theorem dX6_fits_35 : decode cX6_fits 35 = .ok (.ireturn, 1) := by decide +kernel
end
section
theorem dX6_hasKeepers_0 : decode cX6_hasKeepers 0 = .ok (.aload_n 0, 1) := by decide +kernel
theorem dX6_hasKeepers_1 : decode cX6_hasKeepers 1 = .ok (.iload_n 1, 1) := by decide +kernel
theorem dX6_hasKeepers_2 : decode cX6_hasKeepers 2 = .ok (.invokevirtual 110, 3) := by decide +kernel
theorem dX6_hasKeepers_5 : decode cX6_hasKeepers 5 = .ok (.ifCond .eq 24, 3) := by decide +kernel
theorem dX6_hasKeepers_8 : decode cX6_hasKeepers 8 = .ok (.iload_n 3, 1) := by decide +kernel
theorem dX6_hasKeepers_9 : decode cX6_hasKeepers 9 = .ok (.ifCond .eq 16, 3) := by decide +kernel
theorem dX6_hasKeepers_12 : decode cX6_hasKeepers 12 = .ok (.iload_n 2, 1) := by decide +kernel
theorem dX6_hasKeepers_13 : decode cX6_hasKeepers 13 = .ok (.iload_n 1, 1) := by decide +kernel
theorem dX6_hasKeepers_14 : decode cX6_hasKeepers 14 = .ok (.if_icmp .eq 15, 3) := by decide +kernel
theorem dX6_hasKeepers_17 : decode cX6_hasKeepers 17 = .ok (.aload_n 0, 1) := by decide +kernel
theorem dX6_hasKeepers_18 : decode cX6_hasKeepers 18 = .ok (.iload_n 2, 1) := by decide +kernel
theorem dX6_hasKeepers_19 : decode cX6_hasKeepers 19 = .ok (.invokevirtual 110, 3) := by decide +kernel
theorem dX6_hasKeepers_22 : decode cX6_hasKeepers 22 = .ok (.ifCond .eq 7, 3) := by decide +kernel
theorem dX6_hasKeepers_25 : decode cX6_hasKeepers 25 = .ok (.iconst 1, 1) := by decide +kernel
theorem dX6_hasKeepers_26 : decode cX6_hasKeepers 26 = .ok (.goto 4, 3) := by decide +kernel
theorem dX6_hasKeepers_29 : decode cX6_hasKeepers 29 = .ok (.iconst 0, 1) := by decide +kernel
theorem dX6_hasKeepers_30 : decode cX6_hasKeepers 30 = .ok (.ireturn, 1) := by decide +kernel
theorem dX6_isFree_0 : decode cX6_isFree 0 = .ok (.aload_n 0, 1) := by decide +kernel
theorem dX6_isFree_1 : decode cX6_isFree 1 = .ok (.iload_n 1, 1) := by decide +kernel
theorem dX6_isFree_2 : decode cX6_isFree 2 = .ok (.invokevirtual 113, 3) := by decide +kernel
theorem dX6_isFree_5 : decode cX6_isFree 5 = .ok (.ifCond .ne 5, 3) := by decide +kernel
theorem dX6_isFree_8 : decode cX6_isFree 8 = .ok (.iconst 0, 1) := by decide +kernel
theorem dX6_isFree_9 : decode cX6_isFree 9 = .ok (.ireturn, 1) := by decide +kernel
theorem dX6_isFree_10 : decode cX6_isFree 10 = .ok (.iload_n 1, 1) := by decide +kernel
theorem dX6_isFree_11 : decode cX6_isFree 11 = .ok (.istore_n 2, 1) := by decide +kernel
theorem dX6_isFree_12 : decode cX6_isFree 12 = .ok (.aload_n 0, 1) := by decide +kernel
theorem dX6_isFree_13 : decode cX6_isFree 13 = .ok (.getfield 45, 3) := by decide +kernel
theorem dX6_isFree_16 : decode cX6_isFree 16 = .ok (.iload_n 2, 1) := by decide +kernel
theorem dX6_isFree_17 : decode cX6_isFree 17 = .ok (.iaload, 1) := by decide +kernel
theorem dX6_isFree_18 : decode cX6_isFree 18 = .ok (.iconst 3, 1) := by decide +kernel
theorem dX6_isFree_19 : decode cX6_isFree 19 = .ok (.if_icmp .ne 22, 3) := by decide +kernel
theorem dX6_isFree_22 : decode cX6_isFree 22 = .ok (.aload_n 0, 1) := by decide +kernel
theorem dX6_isFree_23 : decode cX6_isFree 23 = .ok (.getfield 48, 3) := by decide +kernel
theorem dX6_isFree_26 : decode cX6_isFree 26 = .ok (.iload_n 2, 1) := by decide +kernel
theorem dX6_isFree_27 : decode cX6_isFree 27 = .ok (.iaload, 1) := by decide +kernel
theorem dX6_isFree_28 : decode cX6_isFree 28 = .ok (.istore_n 2, 1) := by decide +kernel
theorem dX6_isFree_29 : decode cX6_isFree 29 = .ok (.aload_n 0, 1) := by decide +kernel
theorem dX6_isFree_30 : decode cX6_isFree 30 = .ok (.getfield 54, 3) := by decide +kernel
theorem dX6_isFree_33 : decode cX6_isFree 33 = .ok (.iload_n 2, 1) := by decide +kernel
theorem dX6_isFree_34 : decode cX6_isFree 34 = .ok (.iaload, 1) := by decide +kernel
theorem dX6_isFree_35 : decode cX6_isFree 35 = .ok (.iconst (-1), 1) := by decide +kernel
theorem dX6_isFree_36 : decode cX6_isFree 36 = .ok (.if_icmp .eq (-24), 3) := by decide +kernel
theorem dX6_isFree_39 : decode cX6_isFree 39 = .ok (.iconst 0, 1) := by decide +kernel
theorem dX6_isFree_40 : decode cX6_isFree 40 = .ok (.ireturn, 1) := by decide +kernel
theorem dX6_isFree_41 : decode cX6_isFree 41 = .ok (.iconst 1, 1) := by decide +kernel
theorem dX6_isFree_42 : decode cX6_isFree 42 = .ok (.ireturn, 1) := by decide +kernel
theorem dX6_outermost_0 : decode cX6_outermost 0 = .ok (.iload_n 1, 1) := by decide +kernel
theorem dX6_outermost_1 : decode cX6_outermost 1 = .ok (.istore_n 2, 1) := by decide +kernel
theorem dX6_outermost_2 : decode cX6_outermost 2 = .ok (.aload_n 0, 1) := by decide +kernel
theorem dX6_outermost_3 : decode cX6_outermost 3 = .ok (.getfield 45, 3) := by decide +kernel
theorem dX6_outermost_6 : decode cX6_outermost 6 = .ok (.iload_n 2, 1) := by decide +kernel
theorem dX6_outermost_7 : decode cX6_outermost 7 = .ok (.iaload, 1) := by decide +kernel
theorem dX6_outermost_8 : decode cX6_outermost 8 = .ok (.iconst 3, 1) := by decide +kernel
theorem dX6_outermost_9 : decode cX6_outermost 9 = .ok (.if_icmp .ne 13, 3) := by decide +kernel
theorem dX6_outermost_12 : decode cX6_outermost 12 = .ok (.aload_n 0, 1) := by decide +kernel
theorem dX6_outermost_13 : decode cX6_outermost 13 = .ok (.getfield 48, 3) := by decide +kernel
theorem dX6_outermost_16 : decode cX6_outermost 16 = .ok (.iload_n 2, 1) := by decide +kernel
theorem dX6_outermost_17 : decode cX6_outermost 17 = .ok (.iaload, 1) := by decide +kernel
theorem dX6_outermost_18 : decode cX6_outermost 18 = .ok (.istore_n 2, 1) := by decide +kernel
theorem dX6_outermost_19 : decode cX6_outermost 19 = .ok (.goto (-17), 3) := by decide +kernel
theorem dX6_outermost_22 : decode cX6_outermost 22 = .ok (.iload_n 2, 1) := by decide +kernel
theorem dX6_outermost_23 : decode cX6_outermost 23 = .ok (.ireturn, 1) := by decide +kernel
theorem dX6_inside_0 : decode cX6_inside 0 = .ok (.iconst 0, 1) := by decide +kernel
theorem dX6_inside_1 : decode cX6_inside 1 = .ok (.istore_n 2, 1) := by decide +kernel
theorem dX6_inside_2 : decode cX6_inside 2 = .ok (.iconst 0, 1) := by decide +kernel
theorem dX6_inside_3 : decode cX6_inside 3 = .ok (.istore_n 3, 1) := by decide +kernel
theorem dX6_inside_4 : decode cX6_inside 4 = .ok (.iload_n 3, 1) := by decide +kernel
theorem dX6_inside_5 : decode cX6_inside 5 = .ok (.aload_n 0, 1) := by decide +kernel
theorem dX6_inside_6 : decode cX6_inside 6 = .ok (.getfield 93, 3) := by decide +kernel
theorem dX6_inside_9 : decode cX6_inside 9 = .ok (.if_icmp .ge 37, 3) := by decide +kernel
theorem dX6_inside_12 : decode cX6_inside 12 = .ok (.iload_n 2, 1) := by decide +kernel
theorem dX6_inside_13 : decode cX6_inside 13 = .ok (.aload_n 0, 1) := by decide +kernel
theorem dX6_inside_14 : decode cX6_inside 14 = .ok (.getfield 45, 3) := by decide +kernel
theorem dX6_inside_17 : decode cX6_inside 17 = .ok (.iload_n 3, 1) := by decide +kernel
theorem dX6_inside_18 : decode cX6_inside 18 = .ok (.iaload, 1) := by decide +kernel
theorem dX6_inside_19 : decode cX6_inside 19 = .ok (.iconst 3, 1) := by decide +kernel
theorem dX6_inside_20 : decode cX6_inside 20 = .ok (.if_icmp .ne 17, 3) := by decide +kernel
theorem dX6_inside_23 : decode cX6_inside 23 = .ok (.aload_n 0, 1) := by decide +kernel
theorem dX6_inside_24 : decode cX6_inside 24 = .ok (.getfield 48, 3) := by decide +kernel
theorem dX6_inside_27 : decode cX6_inside 27 = .ok (.iload_n 3, 1) := by decide +kernel
theorem dX6_inside_28 : decode cX6_inside 28 = .ok (.iaload, 1) := by decide +kernel
theorem dX6_inside_29 : decode cX6_inside 29 = .ok (.iload_n 1, 1) := by decide +kernel
theorem dX6_inside_30 : decode cX6_inside 30 = .ok (.if_icmp .ne 7, 3) := by decide +kernel
theorem dX6_inside_33 : decode cX6_inside 33 = .ok (.iconst 1, 1) := by decide +kernel
theorem dX6_inside_34 : decode cX6_inside 34 = .ok (.goto 4, 3) := by decide +kernel
theorem dX6_inside_37 : decode cX6_inside 37 = .ok (.iconst 0, 1) := by decide +kernel
theorem dX6_inside_38 : decode cX6_inside 38 = .ok (.iadd, 1) := by decide +kernel
theorem dX6_inside_39 : decode cX6_inside 39 = .ok (.istore_n 2, 1) := by decide +kernel
theorem dX6_inside_40 : decode cX6_inside 40 = .ok (.iinc 3 1, 3) := by decide +kernel
theorem dX6_inside_43 : decode cX6_inside 43 = .ok (.goto (-39), 3) := by decide +kernel
theorem dX6_inside_46 : decode cX6_inside 46 = .ok (.iload_n 2, 1) := by decide +kernel
theorem dX6_inside_47 : decode cX6_inside 47 = .ok (.ireturn, 1) := by decide +kernel
theorem dX6_depth_0 : decode cX6_depth 0 = .ok (.iconst 0, 1) := by decide +kernel
theorem dX6_depth_1 : decode cX6_depth 1 = .ok (.istore_n 2, 1) := by decide +kernel
theorem dX6_depth_2 : decode cX6_depth 2 = .ok (.iload_n 1, 1) := by decide +kernel
theorem dX6_depth_3 : decode cX6_depth 3 = .ok (.istore_n 3, 1) := by decide +kernel
theorem dX6_depth_4 : decode cX6_depth 4 = .ok (.aload_n 0, 1) := by decide +kernel
theorem dX6_depth_5 : decode cX6_depth 5 = .ok (.getfield 45, 3) := by decide +kernel
theorem dX6_depth_8 : decode cX6_depth 8 = .ok (.iload_n 3, 1) := by decide +kernel
theorem dX6_depth_9 : decode cX6_depth 9 = .ok (.iaload, 1) := by decide +kernel
theorem dX6_depth_10 : decode cX6_depth 10 = .ok (.iconst 3, 1) := by decide +kernel
theorem dX6_depth_11 : decode cX6_depth 11 = .ok (.if_icmp .ne 16, 3) := by decide +kernel
theorem dX6_depth_14 : decode cX6_depth 14 = .ok (.iinc 2 1, 3) := by decide +kernel
theorem dX6_depth_17 : decode cX6_depth 17 = .ok (.aload_n 0, 1) := by decide +kernel
theorem dX6_depth_18 : decode cX6_depth 18 = .ok (.getfield 48, 3) := by decide +kernel
theorem dX6_depth_21 : decode cX6_depth 21 = .ok (.iload_n 3, 1) := by decide +kernel
theorem dX6_depth_22 : decode cX6_depth 22 = .ok (.iaload, 1) := by decide +kernel
theorem dX6_depth_23 : decode cX6_depth 23 = .ok (.istore_n 3, 1) := by decide +kernel
theorem dX6_depth_24 : decode cX6_depth 24 = .ok (.goto (-20), 3) := by decide +kernel
theorem dX6_depth_27 : decode cX6_depth 27 = .ok (.iload_n 2, 1) := by decide +kernel
theorem dX6_depth_28 : decode cX6_depth 28 = .ok (.ireturn, 1) := by decide +kernel
theorem dX6_isWithin_0 : decode cX6_isWithin 0 = .ok (.iload_n 1, 1) := by decide +kernel
theorem dX6_isWithin_1 : decode cX6_isWithin 1 = .ok (.istore_n 3, 1) := by decide +kernel
theorem dX6_isWithin_2 : decode cX6_isWithin 2 = .ok (.iload_n 3, 1) := by decide +kernel
theorem dX6_isWithin_3 : decode cX6_isWithin 3 = .ok (.iload_n 2, 1) := by decide +kernel
theorem dX6_isWithin_4 : decode cX6_isWithin 4 = .ok (.if_icmp .eq 23, 3) := by decide +kernel
theorem dX6_isWithin_7 : decode cX6_isWithin 7 = .ok (.aload_n 0, 1) := by decide +kernel
theorem dX6_isWithin_8 : decode cX6_isWithin 8 = .ok (.getfield 45, 3) := by decide +kernel
theorem dX6_isWithin_11 : decode cX6_isWithin 11 = .ok (.iload_n 3, 1) := by decide +kernel
theorem dX6_isWithin_12 : decode cX6_isWithin 12 = .ok (.iaload, 1) := by decide +kernel
theorem dX6_isWithin_13 : decode cX6_isWithin 13 = .ok (.iconst 3, 1) := by decide +kernel
theorem dX6_isWithin_14 : decode cX6_isWithin 14 = .ok (.if_icmp .ne 13, 3) := by decide +kernel
theorem dX6_isWithin_17 : decode cX6_isWithin 17 = .ok (.aload_n 0, 1) := by decide +kernel
theorem dX6_isWithin_18 : decode cX6_isWithin 18 = .ok (.getfield 48, 3) := by decide +kernel
theorem dX6_isWithin_21 : decode cX6_isWithin 21 = .ok (.iload_n 3, 1) := by decide +kernel
theorem dX6_isWithin_22 : decode cX6_isWithin 22 = .ok (.iaload, 1) := by decide +kernel
theorem dX6_isWithin_23 : decode cX6_isWithin 23 = .ok (.istore_n 3, 1) := by decide +kernel
theorem dX6_isWithin_24 : decode cX6_isWithin 24 = .ok (.goto (-22), 3) := by decide +kernel
theorem dX6_isWithin_27 : decode cX6_isWithin 27 = .ok (.iload_n 3, 1) := by decide +kernel
theorem dX6_isWithin_28 : decode cX6_isWithin 28 = .ok (.iload_n 2, 1) := by decide +kernel
theorem dX6_isWithin_29 : decode cX6_isWithin 29 = .ok (.if_icmp .ne 7, 3) := by decide +kernel
theorem dX6_isWithin_32 : decode cX6_isWithin 32 = .ok (.iconst 1, 1) := by decide +kernel
theorem dX6_isWithin_33 : decode cX6_isWithin 33 = .ok (.goto 4, 3) := by decide +kernel
theorem dX6_isWithin_36 : decode cX6_isWithin 36 = .ok (.iconst 0, 1) := by decide +kernel
theorem dX6_isWithin_37 : decode cX6_isWithin 37 = .ok (.ireturn, 1) := by decide +kernel
theorem dX6_go_0 : decode cX6_go 0 = .ok (.aload_n 0, 1) := by decide +kernel
theorem dX6_go_1 : decode cX6_go 1 = .ok (.getfield 45, 3) := by decide +kernel
theorem dX6_go_4 : decode cX6_go 4 = .ok (.iload_n 1, 1) := by decide +kernel
theorem dX6_go_5 : decode cX6_go 5 = .ok (.iload_n 2, 1) := by decide +kernel
theorem dX6_go_6 : decode cX6_go 6 = .ok (.iastore, 1) := by decide +kernel
theorem dX6_go_7 : decode cX6_go 7 = .ok (.aload_n 0, 1) := by decide +kernel
theorem dX6_go_8 : decode cX6_go 8 = .ok (.getfield 48, 3) := by decide +kernel
theorem dX6_go_11 : decode cX6_go 11 = .ok (.iload_n 1, 1) := by decide +kernel
theorem dX6_go_12 : decode cX6_go 12 = .ok (.iload_n 3, 1) := by decide +kernel
theorem dX6_go_13 : decode cX6_go 13 = .ok (.iastore, 1) := by decide +kernel
theorem dX6_go_14 : decode cX6_go 14 = .ok (.return_, 1) := by decide +kernel
theorem dX6_isDone_0 : decode cX6_isDone 0 = .ok (.aload_n 1, 1) := by decide +kernel
theorem dX6_isDone_1 : decode cX6_isDone 1 = .ok (.bipush 8, 2) := by decide +kernel
theorem dX6_isDone_3 : decode cX6_isDone 3 = .ok (.iload_n 2, 1) := by decide +kernel
theorem dX6_isDone_4 : decode cX6_isDone 4 = .ok (.imul, 1) := by decide +kernel
theorem dX6_isDone_5 : decode cX6_isDone 5 = .ok (.iconst 1, 1) := by decide +kernel
theorem dX6_isDone_6 : decode cX6_isDone 6 = .ok (.iadd, 1) := by decide +kernel
theorem dX6_isDone_7 : decode cX6_isDone 7 = .ok (.iaload, 1) := by decide +kernel
theorem dX6_isDone_8 : decode cX6_isDone 8 = .ok (.istore_n 3, 1) := by decide +kernel
theorem dX6_isDone_9 : decode cX6_isDone 9 = .ok (.aload_n 1, 1) := by decide +kernel
theorem dX6_isDone_10 : decode cX6_isDone 10 = .ok (.bipush 8, 2) := by decide +kernel
theorem dX6_isDone_12 : decode cX6_isDone 12 = .ok (.iload_n 2, 1) := by decide +kernel
theorem dX6_isDone_13 : decode cX6_isDone 13 = .ok (.imul, 1) := by decide +kernel
theorem dX6_isDone_14 : decode cX6_isDone 14 = .ok (.iconst 2, 1) := by decide +kernel
theorem dX6_isDone_15 : decode cX6_isDone 15 = .ok (.iadd, 1) := by decide +kernel
theorem dX6_isDone_16 : decode cX6_isDone 16 = .ok (.iaload, 1) := by decide +kernel
theorem dX6_isDone_17 : decode cX6_isDone 17 = .ok (.istore 4, 2) := by decide +kernel
theorem dX6_isDone_19 : decode cX6_isDone 19 = .ok (.aload_n 1, 1) := by decide +kernel
theorem dX6_isDone_20 : decode cX6_isDone 20 = .ok (.bipush 8, 2) := by decide +kernel
theorem dX6_isDone_22 : decode cX6_isDone 22 = .ok (.iload_n 2, 1) := by decide +kernel
theorem dX6_isDone_23 : decode cX6_isDone 23 = .ok (.imul, 1) := by decide +kernel
theorem dX6_isDone_24 : decode cX6_isDone 24 = .ok (.iconst 3, 1) := by decide +kernel
theorem dX6_isDone_25 : decode cX6_isDone 25 = .ok (.iadd, 1) := by decide +kernel
theorem dX6_isDone_26 : decode cX6_isDone 26 = .ok (.iaload, 1) := by decide +kernel
theorem dX6_isDone_27 : decode cX6_isDone 27 = .ok (.istore 5, 2) := by decide +kernel
theorem dX6_isDone_29 : decode cX6_isDone 29 = .ok (.aload_n 1, 1) := by decide +kernel
theorem dX6_isDone_30 : decode cX6_isDone 30 = .ok (.bipush 8, 2) := by decide +kernel
theorem dX6_isDone_32 : decode cX6_isDone 32 = .ok (.iload_n 2, 1) := by decide +kernel
theorem dX6_isDone_33 : decode cX6_isDone 33 = .ok (.imul, 1) := by decide +kernel
theorem dX6_isDone_34 : decode cX6_isDone 34 = .ok (.iconst 4, 1) := by decide +kernel
theorem dX6_isDone_35 : decode cX6_isDone 35 = .ok (.iadd, 1) := by decide +kernel
theorem dX6_isDone_36 : decode cX6_isDone 36 = .ok (.iaload, 1) := by decide +kernel
theorem dX6_isDone_37 : decode cX6_isDone 37 = .ok (.istore 6, 2) := by decide +kernel
theorem dX6_isDone_39 : decode cX6_isDone 39 = .ok (.aload_n 1, 1) := by decide +kernel
theorem dX6_isDone_40 : decode cX6_isDone 40 = .ok (.bipush 8, 2) := by decide +kernel
theorem dX6_isDone_42 : decode cX6_isDone 42 = .ok (.iload_n 2, 1) := by decide +kernel
theorem dX6_isDone_43 : decode cX6_isDone 43 = .ok (.imul, 1) := by decide +kernel
theorem dX6_isDone_44 : decode cX6_isDone 44 = .ok (.iconst 5, 1) := by decide +kernel
theorem dX6_isDone_45 : decode cX6_isDone 45 = .ok (.iadd, 1) := by decide +kernel
theorem dX6_isDone_46 : decode cX6_isDone 46 = .ok (.iaload, 1) := by decide +kernel
theorem dX6_isDone_47 : decode cX6_isDone 47 = .ok (.istore 7, 2) := by decide +kernel
theorem dX6_isDone_49 : decode cX6_isDone 49 = .ok (.iload_n 3, 1) := by decide +kernel
theorem dX6_isDone_50 : decode cX6_isDone 50 = .ok (.iconst 0, 1) := by decide +kernel
theorem dX6_isDone_51 : decode cX6_isDone 51 = .ok (.aload_n 0, 1) := by decide +kernel
theorem dX6_isDone_52 : decode cX6_isDone 52 = .ok (.getfield 93, 3) := by decide +kernel
theorem dX6_isDone_55 : decode cX6_isDone 55 = .ok (.iconst 1, 1) := by decide +kernel
theorem dX6_isDone_56 : decode cX6_isDone 56 = .ok (.isub, 1) := by decide +kernel
theorem dX6_isDone_57 : decode cX6_isDone 57 = .ok (.invokestatic 96, 3) := by decide +kernel
theorem dX6_isDone_60 : decode cX6_isDone 60 = .ok (.ifCond .ne 5, 3) := by decide +kernel
theorem dX6_isDone_63 : decode cX6_isDone 63 = .ok (.iconst 0, 1) := by decide +kernel
theorem dX6_isDone_64 : decode cX6_isDone 64 = .ok (.ireturn, 1) := by decide +kernel
theorem dX6_isDone_65 : decode cX6_isDone 65 = .ok (.aload_n 1, 1) := by decide +kernel
theorem dX6_isDone_66 : decode cX6_isDone 66 = .ok (.bipush 8, 2) := by decide +kernel
theorem dX6_isDone_68 : decode cX6_isDone 68 = .ok (.iload_n 2, 1) := by decide +kernel
theorem dX6_isDone_69 : decode cX6_isDone 69 = .ok (.imul, 1) := by decide +kernel
theorem dX6_isDone_70 : decode cX6_isDone 70 = .ok (.iaload, 1) := by decide +kernel
theorem dX6_isDone_71 : decode cX6_isDone 71 = .ok (.istore 8, 2) := by decide +kernel
theorem dX6_isDone_73 : decode cX6_isDone 73 = .ok (.iload 8, 2) := by decide +kernel
theorem dX6_isDone_75 : decode cX6_isDone 75 = .ok (.iconst 1, 1) := by decide +kernel
theorem dX6_isDone_76 : decode cX6_isDone 76 = .ok (.if_icmp .ne 17, 3) := by decide +kernel
theorem dX6_isDone_79 : decode cX6_isDone 79 = .ok (.aload_n 0, 1) := by decide +kernel
theorem dX6_isDone_80 : decode cX6_isDone 80 = .ok (.iload_n 3, 1) := by decide +kernel
theorem dX6_isDone_81 : decode cX6_isDone 81 = .ok (.iload 4, 2) := by decide +kernel
theorem dX6_isDone_83 : decode cX6_isDone 83 = .ok (.iload 5, 2) := by decide +kernel
theorem dX6_isDone_85 : decode cX6_isDone 85 = .ok (.iload 6, 2) := by decide +kernel
theorem dX6_isDone_87 : decode cX6_isDone 87 = .ok (.iload 7, 2) := by decide +kernel
theorem dX6_isDone_89 : decode cX6_isDone 89 = .ok (.invokevirtual 116, 3) := by decide +kernel
theorem dX6_isDone_92 : decode cX6_isDone 92 = .ok (.ireturn, 1) := by decide +kernel
theorem dX6_isDone_93 : decode cX6_isDone 93 = .ok (.aload_n 0, 1) := by decide +kernel
theorem dX6_isDone_94 : decode cX6_isDone 94 = .ok (.iload_n 3, 1) := by decide +kernel
theorem dX6_isDone_95 : decode cX6_isDone 95 = .ok (.invokevirtual 113, 3) := by decide +kernel
theorem dX6_isDone_98 : decode cX6_isDone 98 = .ok (.ifCond .ne 5, 3) := by decide +kernel
theorem dX6_isDone_101 : decode cX6_isDone 101 = .ok (.iconst 0, 1) := by decide +kernel
theorem dX6_isDone_102 : decode cX6_isDone 102 = .ok (.ireturn, 1) := by decide +kernel
theorem dX6_isDone_103 : decode cX6_isDone 103 = .ok (.iload 8, 2) := by decide +kernel
theorem dX6_isDone_105 : decode cX6_isDone 105 = .ok (.bipush 8, 2) := by decide +kernel
theorem dX6_isDone_107 : decode cX6_isDone 107 = .ok (.if_icmp .ge 19, 3) := by decide +kernel
theorem dX6_isDone_110 : decode cX6_isDone 110 = .ok (.aload_n 0, 1) := by decide +kernel
theorem dX6_isDone_111 : decode cX6_isDone 111 = .ok (.iload 8, 2) := by decide +kernel
theorem dX6_isDone_113 : decode cX6_isDone 113 = .ok (.iload_n 3, 1) := by decide +kernel
theorem dX6_isDone_114 : decode cX6_isDone 114 = .ok (.iload 4, 2) := by decide +kernel
theorem dX6_isDone_116 : decode cX6_isDone 116 = .ok (.iload 5, 2) := by decide +kernel
theorem dX6_isDone_118 : decode cX6_isDone 118 = .ok (.iload 6, 2) := by decide +kernel
theorem dX6_isDone_120 : decode cX6_isDone 120 = .ok (.iload 7, 2) := by decide +kernel
theorem dX6_isDone_122 : decode cX6_isDone 122 = .ok (.invokevirtual 120, 3) := by decide +kernel
theorem dX6_isDone_125 : decode cX6_isDone 125 = .ok (.ireturn, 1) := by decide +kernel
theorem dX6_isDone_126 : decode cX6_isDone 126 = .ok (.iload 8, 2) := by decide +kernel
theorem dX6_isDone_128 : decode cX6_isDone 128 = .ok (.bipush 11, 2) := by decide +kernel
theorem dX6_isDone_130 : decode cX6_isDone 130 = .ok (.if_icmp .ge 17, 3) := by decide +kernel
theorem dX6_isDone_133 : decode cX6_isDone 133 = .ok (.aload_n 0, 1) := by decide +kernel
theorem dX6_isDone_134 : decode cX6_isDone 134 = .ok (.iload 8, 2) := by decide +kernel
theorem dX6_isDone_136 : decode cX6_isDone 136 = .ok (.iload_n 3, 1) := by decide +kernel
theorem dX6_isDone_137 : decode cX6_isDone 137 = .ok (.iload 4, 2) := by decide +kernel
theorem dX6_isDone_139 : decode cX6_isDone 139 = .ok (.iload 5, 2) := by decide +kernel
theorem dX6_isDone_141 : decode cX6_isDone 141 = .ok (.iload 6, 2) := by decide +kernel
theorem dX6_isDone_143 : decode cX6_isDone 143 = .ok (.invokevirtual 124, 3) := by decide +kernel
theorem dX6_isDone_146 : decode cX6_isDone 146 = .ok (.ireturn, 1) := by decide +kernel
theorem dX6_isDone_147 : decode cX6_isDone 147 = .ok (.iload 8, 2) := by decide +kernel
theorem dX6_isDone_149 : decode cX6_isDone 149 = .ok (.bipush 14, 2) := by decide +kernel
theorem dX6_isDone_151 : decode cX6_isDone 151 = .ok (.if_icmp .ge 19, 3) := by decide +kernel
theorem dX6_isDone_154 : decode cX6_isDone 154 = .ok (.aload_n 0, 1) := by decide +kernel
theorem dX6_isDone_155 : decode cX6_isDone 155 = .ok (.iload 8, 2) := by decide +kernel
theorem dX6_isDone_157 : decode cX6_isDone 157 = .ok (.iload_n 3, 1) := by decide +kernel
theorem dX6_isDone_158 : decode cX6_isDone 158 = .ok (.iload 4, 2) := by decide +kernel
theorem dX6_isDone_160 : decode cX6_isDone 160 = .ok (.iload 5, 2) := by decide +kernel
theorem dX6_isDone_162 : decode cX6_isDone 162 = .ok (.iload 6, 2) := by decide +kernel
theorem dX6_isDone_164 : decode cX6_isDone 164 = .ok (.iload 7, 2) := by decide +kernel
theorem dX6_isDone_166 : decode cX6_isDone 166 = .ok (.invokevirtual 127, 3) := by decide +kernel
theorem dX6_isDone_169 : decode cX6_isDone 169 = .ok (.ireturn, 1) := by decide +kernel
theorem dX6_isDone_170 : decode cX6_isDone 170 = .ok (.iload 8, 2) := by decide +kernel
theorem dX6_isDone_172 : decode cX6_isDone 172 = .ok (.bipush 18, 2) := by decide +kernel
theorem dX6_isDone_174 : decode cX6_isDone 174 = .ok (.if_icmp .ge 13, 3) := by decide +kernel
theorem dX6_isDone_177 : decode cX6_isDone 177 = .ok (.aload_n 0, 1) := by decide +kernel
theorem dX6_isDone_178 : decode cX6_isDone 178 = .ok (.iload 8, 2) := by decide +kernel
theorem dX6_isDone_180 : decode cX6_isDone 180 = .ok (.iload_n 3, 1) := by decide +kernel
theorem dX6_isDone_181 : decode cX6_isDone 181 = .ok (.iload 6, 2) := by decide +kernel
theorem dX6_isDone_183 : decode cX6_isDone 183 = .ok (.invokevirtual 130, 3) := by decide +kernel
theorem dX6_isDone_186 : decode cX6_isDone 186 = .ok (.ireturn, 1) := by decide +kernel
theorem dX6_isDone_187 : decode cX6_isDone 187 = .ok (.iload 8, 2) := by decide +kernel
theorem dX6_isDone_189 : decode cX6_isDone 189 = .ok (.bipush 18, 2) := by decide +kernel
theorem dX6_isDone_191 : decode cX6_isDone 191 = .ok (.if_icmp .ne 30, 3) := by decide +kernel
theorem dX6_isDone_194 : decode cX6_isDone 194 = .ok (.aload_n 0, 1) := by decide +kernel
theorem dX6_isDone_195 : decode cX6_isDone 195 = .ok (.iload_n 3, 1) := by decide +kernel
theorem dX6_isDone_196 : decode cX6_isDone 196 = .ok (.iload 4, 2) := by decide +kernel
theorem dX6_isDone_198 : decode cX6_isDone 198 = .ok (.iload 5, 2) := by decide +kernel
theorem dX6_isDone_200 : decode cX6_isDone 200 = .ok (.iload 6, 2) := by decide +kernel
theorem dX6_isDone_202 : decode cX6_isDone 202 = .ok (.aload_n 1, 1) := by decide +kernel
theorem dX6_isDone_203 : decode cX6_isDone 203 = .ok (.bipush 8, 2) := by decide +kernel
theorem dX6_isDone_205 : decode cX6_isDone 205 = .ok (.iload_n 2, 1) := by decide +kernel
theorem dX6_isDone_206 : decode cX6_isDone 206 = .ok (.imul, 1) := by decide +kernel
theorem dX6_isDone_207 : decode cX6_isDone 207 = .ok (.bipush 6, 2) := by decide +kernel
theorem dX6_isDone_209 : decode cX6_isDone 209 = .ok (.iadd, 1) := by decide +kernel
theorem dX6_isDone_210 : decode cX6_isDone 210 = .ok (.iaload, 1) := by decide +kernel
theorem dX6_isDone_211 : decode cX6_isDone 211 = .ok (.sipush 1440, 3) := by decide +kernel
theorem dX6_isDone_214 : decode cX6_isDone 214 = .ok (.idiv, 1) := by decide +kernel
theorem dX6_isDone_215 : decode cX6_isDone 215 = .ok (.invokevirtual 133, 3) := by decide +kernel
theorem dX6_isDone_218 : decode cX6_isDone 218 = .ok (.goto 12, 3) := by decide +kernel
theorem dX6_isDone_221 : decode cX6_isDone 221 = .ok (.aload_n 0, 1) := by decide +kernel
theorem dX6_isDone_222 : decode cX6_isDone 222 = .ok (.iload_n 3, 1) := by decide +kernel
theorem dX6_isDone_223 : decode cX6_isDone 223 = .ok (.iload 6, 2) := by decide +kernel
theorem dX6_isDone_225 : decode cX6_isDone 225 = .ok (.iload 7, 2) := by decide +kernel
theorem dX6_isDone_227 : decode cX6_isDone 227 = .ok (.invokevirtual 136, 3) := by decide +kernel
theorem dX6_isDone_230 : decode cX6_isDone 230 = .ok (.ireturn, 1) := by decide +kernel
theorem dX6_comesIn_0 : decode cX6_comesIn 0 = .ok (.aload_n 0, 1) := by decide +kernel
theorem dX6_comesIn_1 : decode cX6_comesIn 1 = .ok (.getfield 72, 3) := by decide +kernel
theorem dX6_comesIn_4 : decode cX6_comesIn 4 = .ok (.iload_n 1, 1) := by decide +kernel
theorem dX6_comesIn_5 : decode cX6_comesIn 5 = .ok (.baload, 1) := by decide +kernel
theorem dX6_comesIn_6 : decode cX6_comesIn 6 = .ok (.ifCond .ne 66, 3) := by decide +kernel
theorem dX6_comesIn_9 : decode cX6_comesIn 9 = .ok (.aload_n 0, 1) := by decide +kernel
theorem dX6_comesIn_10 : decode cX6_comesIn 10 = .ok (.getfield 24, 3) := by decide +kernel
theorem dX6_comesIn_13 : decode cX6_comesIn 13 = .ok (.iload_n 1, 1) := by decide +kernel
theorem dX6_comesIn_14 : decode cX6_comesIn 14 = .ok (.iaload, 1) := by decide +kernel
theorem dX6_comesIn_15 : decode cX6_comesIn 15 = .ok (.iconst 2, 1) := by decide +kernel
theorem dX6_comesIn_16 : decode cX6_comesIn 16 = .ok (.if_icmp .eq 56, 3) := by decide +kernel
theorem dX6_comesIn_19 : decode cX6_comesIn 19 = .ok (.aload_n 0, 1) := by decide +kernel
theorem dX6_comesIn_20 : decode cX6_comesIn 20 = .ok (.getfield 24, 3) := by decide +kernel
theorem dX6_comesIn_23 : decode cX6_comesIn 23 = .ok (.iload_n 1, 1) := by decide +kernel
theorem dX6_comesIn_24 : decode cX6_comesIn 24 = .ok (.iaload, 1) := by decide +kernel
theorem dX6_comesIn_25 : decode cX6_comesIn 25 = .ok (.iconst 3, 1) := by decide +kernel
theorem dX6_comesIn_26 : decode cX6_comesIn 26 = .ok (.if_icmp .eq 46, 3) := by decide +kernel
theorem dX6_comesIn_29 : decode cX6_comesIn 29 = .ok (.aload_n 0, 1) := by decide +kernel
theorem dX6_comesIn_30 : decode cX6_comesIn 30 = .ok (.iload_n 2, 1) := by decide +kernel
theorem dX6_comesIn_31 : decode cX6_comesIn 31 = .ok (.iload_n 3, 1) := by decide +kernel
theorem dX6_comesIn_32 : decode cX6_comesIn 32 = .ok (.aload_n 0, 1) := by decide +kernel
theorem dX6_comesIn_33 : decode cX6_comesIn 33 = .ok (.getfield 24, 3) := by decide +kernel
theorem dX6_comesIn_36 : decode cX6_comesIn 36 = .ok (.iload_n 1, 1) := by decide +kernel
theorem dX6_comesIn_37 : decode cX6_comesIn 37 = .ok (.iaload, 1) := by decide +kernel
theorem dX6_comesIn_38 : decode cX6_comesIn 38 = .ok (.iconst 5, 1) := by decide +kernel
theorem dX6_comesIn_39 : decode cX6_comesIn 39 = .ok (.if_icmp .ne 7, 3) := by decide +kernel
theorem dX6_comesIn_42 : decode cX6_comesIn 42 = .ok (.iconst 1, 1) := by decide +kernel
theorem dX6_comesIn_43 : decode cX6_comesIn 43 = .ok (.goto 4, 3) := by decide +kernel
theorem dX6_comesIn_46 : decode cX6_comesIn 46 = .ok (.iconst 0, 1) := by decide +kernel
theorem dX6_comesIn_47 : decode cX6_comesIn 47 = .ok (.invokevirtual 139, 3) := by decide +kernel
theorem dX6_comesIn_50 : decode cX6_comesIn 50 = .ok (.ifCond .eq 22, 3) := by decide +kernel
theorem dX6_comesIn_53 : decode cX6_comesIn 53 = .ok (.aload_n 0, 1) := by decide +kernel
theorem dX6_comesIn_54 : decode cX6_comesIn 54 = .ok (.iload 5, 2) := by decide +kernel
theorem dX6_comesIn_56 : decode cX6_comesIn 56 = .ok (.invokevirtual 143, 3) := by decide +kernel
theorem dX6_comesIn_59 : decode cX6_comesIn 59 = .ok (.ifCond .eq 13, 3) := by decide +kernel
theorem dX6_comesIn_62 : decode cX6_comesIn 62 = .ok (.aload_n 0, 1) := by decide +kernel
theorem dX6_comesIn_63 : decode cX6_comesIn 63 = .ok (.iload_n 1, 1) := by decide +kernel
theorem dX6_comesIn_64 : decode cX6_comesIn 64 = .ok (.iload 4, 2) := by decide +kernel
theorem dX6_comesIn_66 : decode cX6_comesIn 66 = .ok (.invokevirtual 146, 3) := by decide +kernel
theorem dX6_comesIn_69 : decode cX6_comesIn 69 = .ok (.ifCond .ne 5, 3) := by decide +kernel
theorem dX6_comesIn_72 : decode cX6_comesIn 72 = .ok (.iconst 0, 1) := by decide +kernel
theorem dX6_comesIn_73 : decode cX6_comesIn 73 = .ok (.ireturn, 1) := by decide +kernel
theorem dX6_comesIn_74 : decode cX6_comesIn 74 = .ok (.aload_n 0, 1) := by decide +kernel
theorem dX6_comesIn_75 : decode cX6_comesIn 75 = .ok (.getfield 72, 3) := by decide +kernel
theorem dX6_comesIn_78 : decode cX6_comesIn 78 = .ok (.iload_n 1, 1) := by decide +kernel
theorem dX6_comesIn_79 : decode cX6_comesIn 79 = .ok (.iconst 1, 1) := by decide +kernel
theorem dX6_comesIn_80 : decode cX6_comesIn 80 = .ok (.bastore, 1) := by decide +kernel
theorem dX6_comesIn_81 : decode cX6_comesIn 81 = .ok (.aload_n 0, 1) := by decide +kernel
theorem dX6_comesIn_82 : decode cX6_comesIn 82 = .ok (.iload_n 1, 1) := by decide +kernel
theorem dX6_comesIn_83 : decode cX6_comesIn 83 = .ok (.iconst 1, 1) := by decide +kernel
theorem dX6_comesIn_84 : decode cX6_comesIn 84 = .ok (.iload 4, 2) := by decide +kernel
theorem dX6_comesIn_86 : decode cX6_comesIn 86 = .ok (.invokevirtual 150, 3) := by decide +kernel
theorem dX6_comesIn_89 : decode cX6_comesIn 89 = .ok (.iconst 1, 1) := by decide +kernel
theorem dX6_comesIn_90 : decode cX6_comesIn 90 = .ok (.ireturn, 1) := by decide +kernel
theorem dX6_moves_0 : decode cX6_moves 0 = .ok (.aload_n 0, 1) := by decide +kernel
theorem dX6_moves_1 : decode cX6_moves 1 = .ok (.getfield 24, 3) := by decide +kernel
theorem dX6_moves_4 : decode cX6_moves 4 = .ok (.iload_n 2, 1) := by decide +kernel
theorem dX6_moves_5 : decode cX6_moves 5 = .ok (.iaload, 1) := by decide +kernel
theorem dX6_moves_6 : decode cX6_moves 6 = .ok (.iconst 5, 1) := by decide +kernel
theorem dX6_moves_7 : decode cX6_moves 7 = .ok (.if_icmp .ne 7, 3) := by decide +kernel
theorem dX6_moves_10 : decode cX6_moves 10 = .ok (.iconst 1, 1) := by decide +kernel
theorem dX6_moves_11 : decode cX6_moves 11 = .ok (.goto 4, 3) := by decide +kernel
theorem dX6_moves_14 : decode cX6_moves 14 = .ok (.iconst 0, 1) := by decide +kernel
theorem dX6_moves_15 : decode cX6_moves 15 = .ok (.istore 7, 2) := by decide +kernel
theorem dX6_moves_17 : decode cX6_moves 17 = .ok (.aload_n 0, 1) := by decide +kernel
theorem dX6_moves_18 : decode cX6_moves 18 = .ok (.iload_n 3, 1) := by decide +kernel
theorem dX6_moves_19 : decode cX6_moves 19 = .ok (.iload 4, 2) := by decide +kernel
theorem dX6_moves_21 : decode cX6_moves 21 = .ok (.iload 7, 2) := by decide +kernel
theorem dX6_moves_23 : decode cX6_moves 23 = .ok (.invokevirtual 139, 3) := by decide +kernel
theorem dX6_moves_26 : decode cX6_moves 26 = .ok (.istore 8, 2) := by decide +kernel
theorem dX6_moves_28 : decode cX6_moves 28 = .ok (.iload_n 1, 1) := by decide +kernel
theorem dX6_moves_29 : decode cX6_moves 29 = .ok (.tableswitch 242 2 6 #[35, 90, 139, 194, 231], 35) := by decide +kernel
theorem dX6_moves_64 : decode cX6_moves 64 = .ok (.iload 8, 2) := by decide +kernel
theorem dX6_moves_66 : decode cX6_moves 66 = .ok (.ifCond .eq 33, 3) := by decide +kernel
theorem dX6_moves_69 : decode cX6_moves 69 = .ok (.aload_n 0, 1) := by decide +kernel
theorem dX6_moves_70 : decode cX6_moves 70 = .ok (.getfield 45, 3) := by decide +kernel
theorem dX6_moves_73 : decode cX6_moves 73 = .ok (.iload_n 2, 1) := by decide +kernel
theorem dX6_moves_74 : decode cX6_moves 74 = .ok (.iaload, 1) := by decide +kernel
theorem dX6_moves_75 : decode cX6_moves 75 = .ok (.iconst 1, 1) := by decide +kernel
theorem dX6_moves_76 : decode cX6_moves 76 = .ok (.if_icmp .ne 23, 3) := by decide +kernel
theorem dX6_moves_79 : decode cX6_moves 79 = .ok (.aload_n 0, 1) := by decide +kernel
theorem dX6_moves_80 : decode cX6_moves 80 = .ok (.iload 5, 2) := by decide +kernel
theorem dX6_moves_82 : decode cX6_moves 82 = .ok (.invokevirtual 143, 3) := by decide +kernel
theorem dX6_moves_85 : decode cX6_moves 85 = .ok (.ifCond .eq 14, 3) := by decide +kernel
theorem dX6_moves_88 : decode cX6_moves 88 = .ok (.iload 6, 2) := by decide +kernel
theorem dX6_moves_90 : decode cX6_moves 90 = .ok (.iconst 0, 1) := by decide +kernel
theorem dX6_moves_91 : decode cX6_moves 91 = .ok (.ldc 154, 2) := by decide +kernel
theorem dX6_moves_93 : decode cX6_moves 93 = .ok (.invokestatic 96, 3) := by decide +kernel
theorem dX6_moves_96 : decode cX6_moves 96 = .ok (.ifCond .ne 5, 3) := by decide +kernel
theorem dX6_moves_99 : decode cX6_moves 99 = .ok (.iconst 0, 1) := by decide +kernel
theorem dX6_moves_100 : decode cX6_moves 100 = .ok (.ireturn, 1) := by decide +kernel
theorem dX6_moves_101 : decode cX6_moves 101 = .ok (.aload_n 0, 1) := by decide +kernel
theorem dX6_moves_102 : decode cX6_moves 102 = .ok (.iload_n 2, 1) := by decide +kernel
theorem dX6_moves_103 : decode cX6_moves 103 = .ok (.iconst 2, 1) := by decide +kernel
theorem dX6_moves_104 : decode cX6_moves 104 = .ok (.iload 5, 2) := by decide +kernel
theorem dX6_moves_106 : decode cX6_moves 106 = .ok (.invokevirtual 150, 3) := by decide +kernel
theorem dX6_moves_109 : decode cX6_moves 109 = .ok (.aload_n 0, 1) := by decide +kernel
theorem dX6_moves_110 : decode cX6_moves 110 = .ok (.getfield 57, 3) := by decide +kernel
theorem dX6_moves_113 : decode cX6_moves 113 = .ok (.iload_n 2, 1) := by decide +kernel
theorem dX6_moves_114 : decode cX6_moves 114 = .ok (.iload 6, 2) := by decide +kernel
theorem dX6_moves_116 : decode cX6_moves 116 = .ok (.iastore, 1) := by decide +kernel
theorem dX6_moves_117 : decode cX6_moves 117 = .ok (.iconst 1, 1) := by decide +kernel
theorem dX6_moves_118 : decode cX6_moves 118 = .ok (.ireturn, 1) := by decide +kernel
theorem dX6_moves_119 : decode cX6_moves 119 = .ok (.aload_n 0, 1) := by decide +kernel
theorem dX6_moves_120 : decode cX6_moves 120 = .ok (.getfield 45, 3) := by decide +kernel
theorem dX6_moves_123 : decode cX6_moves 123 = .ok (.iload_n 2, 1) := by decide +kernel
theorem dX6_moves_124 : decode cX6_moves 124 = .ok (.iaload, 1) := by decide +kernel
theorem dX6_moves_125 : decode cX6_moves 125 = .ok (.iconst 2, 1) := by decide +kernel
theorem dX6_moves_126 : decode cX6_moves 126 = .ok (.if_icmp .ne 30, 3) := by decide +kernel
theorem dX6_moves_129 : decode cX6_moves 129 = .ok (.aload_n 0, 1) := by decide +kernel
theorem dX6_moves_130 : decode cX6_moves 130 = .ok (.getfield 48, 3) := by decide +kernel
theorem dX6_moves_133 : decode cX6_moves 133 = .ok (.iload_n 2, 1) := by decide +kernel
theorem dX6_moves_134 : decode cX6_moves 134 = .ok (.iaload, 1) := by decide +kernel
theorem dX6_moves_135 : decode cX6_moves 135 = .ok (.iload 5, 2) := by decide +kernel
theorem dX6_moves_137 : decode cX6_moves 137 = .ok (.if_icmp .ne 19, 3) := by decide +kernel
theorem dX6_moves_140 : decode cX6_moves 140 = .ok (.aload_n 0, 1) := by decide +kernel
theorem dX6_moves_141 : decode cX6_moves 141 = .ok (.iload 6, 2) := by decide +kernel
theorem dX6_moves_143 : decode cX6_moves 143 = .ok (.invokevirtual 143, 3) := by decide +kernel
theorem dX6_moves_146 : decode cX6_moves 146 = .ok (.ifCond .eq 10, 3) := by decide +kernel
theorem dX6_moves_149 : decode cX6_moves 149 = .ok (.iload 5, 2) := by decide +kernel
theorem dX6_moves_151 : decode cX6_moves 151 = .ok (.iload 6, 2) := by decide +kernel
theorem dX6_moves_153 : decode cX6_moves 153 = .ok (.if_icmp .ne 5, 3) := by decide +kernel
theorem dX6_moves_156 : decode cX6_moves 156 = .ok (.iconst 0, 1) := by decide +kernel
theorem dX6_moves_157 : decode cX6_moves 157 = .ok (.ireturn, 1) := by decide +kernel
theorem dX6_moves_158 : decode cX6_moves 158 = .ok (.aload_n 0, 1) := by decide +kernel
theorem dX6_moves_159 : decode cX6_moves 159 = .ok (.iload_n 2, 1) := by decide +kernel
theorem dX6_moves_160 : decode cX6_moves 160 = .ok (.iconst 2, 1) := by decide +kernel
theorem dX6_moves_161 : decode cX6_moves 161 = .ok (.iload 6, 2) := by decide +kernel
theorem dX6_moves_163 : decode cX6_moves 163 = .ok (.invokevirtual 150, 3) := by decide +kernel
theorem dX6_moves_166 : decode cX6_moves 166 = .ok (.iconst 1, 1) := by decide +kernel
theorem dX6_moves_167 : decode cX6_moves 167 = .ok (.ireturn, 1) := by decide +kernel
theorem dX6_moves_168 : decode cX6_moves 168 = .ok (.iload 8, 2) := by decide +kernel
theorem dX6_moves_170 : decode cX6_moves 170 = .ok (.ifCond .eq 34, 3) := by decide +kernel
theorem dX6_moves_173 : decode cX6_moves 173 = .ok (.aload_n 0, 1) := by decide +kernel
theorem dX6_moves_174 : decode cX6_moves 174 = .ok (.getfield 45, 3) := by decide +kernel
theorem dX6_moves_177 : decode cX6_moves 177 = .ok (.iload_n 2, 1) := by decide +kernel
theorem dX6_moves_178 : decode cX6_moves 178 = .ok (.iaload, 1) := by decide +kernel
theorem dX6_moves_179 : decode cX6_moves 179 = .ok (.iconst 2, 1) := by decide +kernel
theorem dX6_moves_180 : decode cX6_moves 180 = .ok (.if_icmp .ne 24, 3) := by decide +kernel
theorem dX6_moves_183 : decode cX6_moves 183 = .ok (.aload_n 0, 1) := by decide +kernel
theorem dX6_moves_184 : decode cX6_moves 184 = .ok (.getfield 48, 3) := by decide +kernel
theorem dX6_moves_187 : decode cX6_moves 187 = .ok (.iload_n 2, 1) := by decide +kernel
theorem dX6_moves_188 : decode cX6_moves 188 = .ok (.iaload, 1) := by decide +kernel
theorem dX6_moves_189 : decode cX6_moves 189 = .ok (.iload 6, 2) := by decide +kernel
theorem dX6_moves_191 : decode cX6_moves 191 = .ok (.if_icmp .ne 13, 3) := by decide +kernel
theorem dX6_moves_194 : decode cX6_moves 194 = .ok (.aload_n 0, 1) := by decide +kernel
theorem dX6_moves_195 : decode cX6_moves 195 = .ok (.iload_n 2, 1) := by decide +kernel
theorem dX6_moves_196 : decode cX6_moves 196 = .ok (.iload 5, 2) := by decide +kernel
theorem dX6_moves_198 : decode cX6_moves 198 = .ok (.invokevirtual 146, 3) := by decide +kernel
theorem dX6_moves_201 : decode cX6_moves 201 = .ok (.ifCond .ne 5, 3) := by decide +kernel
theorem dX6_moves_204 : decode cX6_moves 204 = .ok (.iconst 0, 1) := by decide +kernel
theorem dX6_moves_205 : decode cX6_moves 205 = .ok (.ireturn, 1) := by decide +kernel
theorem dX6_moves_206 : decode cX6_moves 206 = .ok (.aload_n 0, 1) := by decide +kernel
theorem dX6_moves_207 : decode cX6_moves 207 = .ok (.iload_n 2, 1) := by decide +kernel
theorem dX6_moves_208 : decode cX6_moves 208 = .ok (.iconst 1, 1) := by decide +kernel
theorem dX6_moves_209 : decode cX6_moves 209 = .ok (.iload 5, 2) := by decide +kernel
theorem dX6_moves_211 : decode cX6_moves 211 = .ok (.invokevirtual 150, 3) := by decide +kernel
theorem dX6_moves_214 : decode cX6_moves 214 = .ok (.aload_n 0, 1) := by decide +kernel
theorem dX6_moves_215 : decode cX6_moves 215 = .ok (.getfield 57, 3) := by decide +kernel
theorem dX6_moves_218 : decode cX6_moves 218 = .ok (.iload_n 2, 1) := by decide +kernel
theorem dX6_moves_219 : decode cX6_moves 219 = .ok (.iconst (-1), 1) := by decide +kernel
theorem dX6_moves_220 : decode cX6_moves 220 = .ok (.iastore, 1) := by decide +kernel
theorem dX6_moves_221 : decode cX6_moves 221 = .ok (.iconst 1, 1) := by decide +kernel
theorem dX6_moves_222 : decode cX6_moves 222 = .ok (.ireturn, 1) := by decide +kernel
theorem dX6_moves_223 : decode cX6_moves 223 = .ok (.iload 8, 2) := by decide +kernel
theorem dX6_moves_225 : decode cX6_moves 225 = .ok (.ifCond .eq 23, 3) := by decide +kernel
theorem dX6_moves_228 : decode cX6_moves 228 = .ok (.aload_n 0, 1) := by decide +kernel
theorem dX6_moves_229 : decode cX6_moves 229 = .ok (.getfield 45, 3) := by decide +kernel
theorem dX6_moves_232 : decode cX6_moves 232 = .ok (.iload_n 2, 1) := by decide +kernel
theorem dX6_moves_233 : decode cX6_moves 233 = .ok (.iaload, 1) := by decide +kernel
theorem dX6_moves_234 : decode cX6_moves 234 = .ok (.iconst 1, 1) := by decide +kernel
theorem dX6_moves_235 : decode cX6_moves 235 = .ok (.if_icmp .ne 13, 3) := by decide +kernel
theorem dX6_moves_238 : decode cX6_moves 238 = .ok (.aload_n 0, 1) := by decide +kernel
theorem dX6_moves_239 : decode cX6_moves 239 = .ok (.iload_n 2, 1) := by decide +kernel
theorem dX6_moves_240 : decode cX6_moves 240 = .ok (.iload 5, 2) := by decide +kernel
theorem dX6_moves_242 : decode cX6_moves 242 = .ok (.invokevirtual 146, 3) := by decide +kernel
theorem dX6_moves_245 : decode cX6_moves 245 = .ok (.ifCond .ne 5, 3) := by decide +kernel
theorem dX6_moves_248 : decode cX6_moves 248 = .ok (.iconst 0, 1) := by decide +kernel
theorem dX6_moves_249 : decode cX6_moves 249 = .ok (.ireturn, 1) := by decide +kernel
theorem dX6_moves_250 : decode cX6_moves 250 = .ok (.aload_n 0, 1) := by decide +kernel
theorem dX6_moves_251 : decode cX6_moves 251 = .ok (.iload_n 2, 1) := by decide +kernel
theorem dX6_moves_252 : decode cX6_moves 252 = .ok (.iconst 1, 1) := by decide +kernel
theorem dX6_moves_253 : decode cX6_moves 253 = .ok (.iload 5, 2) := by decide +kernel
theorem dX6_moves_255 : decode cX6_moves 255 = .ok (.invokevirtual 150, 3) := by decide +kernel
theorem dX6_moves_258 : decode cX6_moves 258 = .ok (.iconst 1, 1) := by decide +kernel
theorem dX6_moves_259 : decode cX6_moves 259 = .ok (.ireturn, 1) := by decide +kernel
theorem dX6_moves_260 : decode cX6_moves 260 = .ok (.aload_n 0, 1) := by decide +kernel
theorem dX6_moves_261 : decode cX6_moves 261 = .ok (.iload_n 2, 1) := by decide +kernel
theorem dX6_moves_262 : decode cX6_moves 262 = .ok (.iload_n 3, 1) := by decide +kernel
theorem dX6_moves_263 : decode cX6_moves 263 = .ok (.iload 4, 2) := by decide +kernel
theorem dX6_moves_265 : decode cX6_moves 265 = .ok (.iload 5, 2) := by decide +kernel
theorem dX6_moves_267 : decode cX6_moves 267 = .ok (.invokevirtual 155, 3) := by decide +kernel
theorem dX6_moves_270 : decode cX6_moves 270 = .ok (.ireturn, 1) := by decide +kernel
theorem dX6_moves_271 : decode cX6_moves 271 = .ok (.aload_n 0, 1) := by decide +kernel
theorem dX6_moves_272 : decode cX6_moves 272 = .ok (.iload_n 2, 1) := by decide +kernel
theorem dX6_moves_273 : decode cX6_moves 273 = .ok (.iload_n 3, 1) := by decide +kernel
theorem dX6_moves_274 : decode cX6_moves 274 = .ok (.iload 4, 2) := by decide +kernel
theorem dX6_moves_276 : decode cX6_moves 276 = .ok (.iload 5, 2) := by decide +kernel
theorem dX6_moves_278 : decode cX6_moves 278 = .ok (.invokevirtual 159, 3) := by decide +kernel
theorem dX6_moves_281 : decode cX6_moves 281 = .ok (.ireturn, 1) := by decide +kernel
theorem dX6_goesInto_0 : decode cX6_goesInto 0 = .ok (.aload_n 0, 1) := by decide +kernel
theorem dX6_goesInto_1 : decode cX6_goesInto 1 = .ok (.iload 4, 2) := by decide +kernel
theorem dX6_goesInto_3 : decode cX6_goesInto 3 = .ok (.invokevirtual 113, 3) := by decide +kernel
theorem dX6_goesInto_6 : decode cX6_goesInto 6 = .ok (.ifCond .eq 33, 3) := by decide +kernel
theorem dX6_goesInto_9 : decode cX6_goesInto 9 = .ok (.aload_n 0, 1) := by decide +kernel
theorem dX6_goesInto_10 : decode cX6_goesInto 10 = .ok (.iload 4, 2) := by decide +kernel
theorem dX6_goesInto_12 : decode cX6_goesInto 12 = .ok (.invokevirtual 162, 3) := by decide +kernel
theorem dX6_goesInto_15 : decode cX6_goesInto 15 = .ok (.ifCond .eq 24, 3) := by decide +kernel
theorem dX6_goesInto_18 : decode cX6_goesInto 18 = .ok (.aload_n 0, 1) := by decide +kernel
theorem dX6_goesInto_19 : decode cX6_goesInto 19 = .ok (.getfield 54, 3) := by decide +kernel
theorem dX6_goesInto_22 : decode cX6_goesInto 22 = .ok (.iload 4, 2) := by decide +kernel
theorem dX6_goesInto_24 : decode cX6_goesInto 24 = .ok (.iaload, 1) := by decide +kernel
theorem dX6_goesInto_25 : decode cX6_goesInto 25 = .ok (.iconst (-1), 1) := by decide +kernel
theorem dX6_goesInto_26 : decode cX6_goesInto 26 = .ok (.if_icmp .ne 13, 3) := by decide +kernel
theorem dX6_goesInto_29 : decode cX6_goesInto 29 = .ok (.aload_n 0, 1) := by decide +kernel
theorem dX6_goesInto_30 : decode cX6_goesInto 30 = .ok (.iload 4, 2) := by decide +kernel
theorem dX6_goesInto_32 : decode cX6_goesInto 32 = .ok (.iload_n 1, 1) := by decide +kernel
theorem dX6_goesInto_33 : decode cX6_goesInto 33 = .ok (.invokevirtual 165, 3) := by decide +kernel
theorem dX6_goesInto_36 : decode cX6_goesInto 36 = .ok (.ifCond .eq 5, 3) := by decide +kernel
theorem dX6_goesInto_39 : decode cX6_goesInto 39 = .ok (.iconst 0, 1) := by decide +kernel
theorem dX6_goesInto_40 : decode cX6_goesInto 40 = .ok (.ireturn, 1) := by decide +kernel
theorem dX6_goesInto_41 : decode cX6_goesInto 41 = .ok (.aload_n 0, 1) := by decide +kernel
theorem dX6_goesInto_42 : decode cX6_goesInto 42 = .ok (.iload_n 2, 1) := by decide +kernel
theorem dX6_goesInto_43 : decode cX6_goesInto 43 = .ok (.iload_n 3, 1) := by decide +kernel
theorem dX6_goesInto_44 : decode cX6_goesInto 44 = .ok (.aload_n 0, 1) := by decide +kernel
theorem dX6_goesInto_45 : decode cX6_goesInto 45 = .ok (.getfield 24, 3) := by decide +kernel
theorem dX6_goesInto_48 : decode cX6_goesInto 48 = .ok (.iload_n 1, 1) := by decide +kernel
theorem dX6_goesInto_49 : decode cX6_goesInto 49 = .ok (.iaload, 1) := by decide +kernel
theorem dX6_goesInto_50 : decode cX6_goesInto 50 = .ok (.iconst 5, 1) := by decide +kernel
theorem dX6_goesInto_51 : decode cX6_goesInto 51 = .ok (.if_icmp .eq 14, 3) := by decide +kernel
theorem dX6_goesInto_54 : decode cX6_goesInto 54 = .ok (.aload_n 0, 1) := by decide +kernel
theorem dX6_goesInto_55 : decode cX6_goesInto 55 = .ok (.getfield 24, 3) := by decide +kernel
theorem dX6_goesInto_58 : decode cX6_goesInto 58 = .ok (.iload 4, 2) := by decide +kernel
theorem dX6_goesInto_60 : decode cX6_goesInto 60 = .ok (.iaload, 1) := by decide +kernel
theorem dX6_goesInto_61 : decode cX6_goesInto 61 = .ok (.iconst 5, 1) := by decide +kernel
theorem dX6_goesInto_62 : decode cX6_goesInto 62 = .ok (.if_icmp .ne 7, 3) := by decide +kernel
theorem dX6_goesInto_65 : decode cX6_goesInto 65 = .ok (.iconst 1, 1) := by decide +kernel
theorem dX6_goesInto_66 : decode cX6_goesInto 66 = .ok (.goto 4, 3) := by decide +kernel
theorem dX6_goesInto_69 : decode cX6_goesInto 69 = .ok (.iconst 0, 1) := by decide +kernel
theorem dX6_goesInto_70 : decode cX6_goesInto 70 = .ok (.invokevirtual 139, 3) := by decide +kernel
theorem dX6_goesInto_73 : decode cX6_goesInto 73 = .ok (.ifCond .ne 5, 3) := by decide +kernel
theorem dX6_goesInto_76 : decode cX6_goesInto 76 = .ok (.iconst 0, 1) := by decide +kernel
theorem dX6_goesInto_77 : decode cX6_goesInto 77 = .ok (.ireturn, 1) := by decide +kernel
theorem dX6_goesInto_78 : decode cX6_goesInto 78 = .ok (.aload_n 0, 1) := by decide +kernel
theorem dX6_goesInto_79 : decode cX6_goesInto 79 = .ok (.getfield 45, 3) := by decide +kernel
theorem dX6_goesInto_82 : decode cX6_goesInto 82 = .ok (.iload_n 1, 1) := by decide +kernel
theorem dX6_goesInto_83 : decode cX6_goesInto 83 = .ok (.iaload, 1) := by decide +kernel
theorem dX6_goesInto_84 : decode cX6_goesInto 84 = .ok (.iconst 1, 1) := by decide +kernel
theorem dX6_goesInto_85 : decode cX6_goesInto 85 = .ok (.if_icmp .ne 14, 3) := by decide +kernel
theorem dX6_goesInto_88 : decode cX6_goesInto 88 = .ok (.aload_n 0, 1) := by decide +kernel
theorem dX6_goesInto_89 : decode cX6_goesInto 89 = .ok (.getfield 45, 3) := by decide +kernel
theorem dX6_goesInto_92 : decode cX6_goesInto 92 = .ok (.iload 4, 2) := by decide +kernel
theorem dX6_goesInto_94 : decode cX6_goesInto 94 = .ok (.iaload, 1) := by decide +kernel
theorem dX6_goesInto_95 : decode cX6_goesInto 95 = .ok (.iconst 1, 1) := by decide +kernel
theorem dX6_goesInto_96 : decode cX6_goesInto 96 = .ok (.if_icmp .eq 40, 3) := by decide +kernel
theorem dX6_goesInto_99 : decode cX6_goesInto 99 = .ok (.aload_n 0, 1) := by decide +kernel
theorem dX6_goesInto_100 : decode cX6_goesInto 100 = .ok (.getfield 45, 3) := by decide +kernel
theorem dX6_goesInto_103 : decode cX6_goesInto 103 = .ok (.iload_n 1, 1) := by decide +kernel
theorem dX6_goesInto_104 : decode cX6_goesInto 104 = .ok (.iaload, 1) := by decide +kernel
theorem dX6_goesInto_105 : decode cX6_goesInto 105 = .ok (.iconst 2, 1) := by decide +kernel
theorem dX6_goesInto_106 : decode cX6_goesInto 106 = .ok (.if_icmp .ne 34, 3) := by decide +kernel
theorem dX6_goesInto_109 : decode cX6_goesInto 109 = .ok (.aload_n 0, 1) := by decide +kernel
theorem dX6_goesInto_110 : decode cX6_goesInto 110 = .ok (.getfield 45, 3) := by decide +kernel
theorem dX6_goesInto_113 : decode cX6_goesInto 113 = .ok (.iload 4, 2) := by decide +kernel
theorem dX6_goesInto_115 : decode cX6_goesInto 115 = .ok (.iaload, 1) := by decide +kernel
theorem dX6_goesInto_116 : decode cX6_goesInto 116 = .ok (.iconst 2, 1) := by decide +kernel
theorem dX6_goesInto_117 : decode cX6_goesInto 117 = .ok (.if_icmp .ne 23, 3) := by decide +kernel
theorem dX6_goesInto_120 : decode cX6_goesInto 120 = .ok (.aload_n 0, 1) := by decide +kernel
theorem dX6_goesInto_121 : decode cX6_goesInto 121 = .ok (.getfield 48, 3) := by decide +kernel
theorem dX6_goesInto_124 : decode cX6_goesInto 124 = .ok (.iload_n 1, 1) := by decide +kernel
theorem dX6_goesInto_125 : decode cX6_goesInto 125 = .ok (.iaload, 1) := by decide +kernel
theorem dX6_goesInto_126 : decode cX6_goesInto 126 = .ok (.aload_n 0, 1) := by decide +kernel
theorem dX6_goesInto_127 : decode cX6_goesInto 127 = .ok (.getfield 48, 3) := by decide +kernel
theorem dX6_goesInto_130 : decode cX6_goesInto 130 = .ok (.iload 4, 2) := by decide +kernel
theorem dX6_goesInto_132 : decode cX6_goesInto 132 = .ok (.iaload, 1) := by decide +kernel
theorem dX6_goesInto_133 : decode cX6_goesInto 133 = .ok (.if_icmp .ne 7, 3) := by decide +kernel
theorem dX6_goesInto_136 : decode cX6_goesInto 136 = .ok (.iconst 1, 1) := by decide +kernel
theorem dX6_goesInto_137 : decode cX6_goesInto 137 = .ok (.goto 4, 3) := by decide +kernel
theorem dX6_goesInto_140 : decode cX6_goesInto 140 = .ok (.iconst 0, 1) := by decide +kernel
theorem dX6_goesInto_141 : decode cX6_goesInto 141 = .ok (.istore 5, 2) := by decide +kernel
theorem dX6_goesInto_143 : decode cX6_goesInto 143 = .ok (.iload 5, 2) := by decide +kernel
theorem dX6_goesInto_145 : decode cX6_goesInto 145 = .ok (.ifCond .eq 14, 3) := by decide +kernel
theorem dX6_goesInto_148 : decode cX6_goesInto 148 = .ok (.aload_n 0, 1) := by decide +kernel
theorem dX6_goesInto_149 : decode cX6_goesInto 149 = .ok (.iload 4, 2) := by decide +kernel
theorem dX6_goesInto_151 : decode cX6_goesInto 151 = .ok (.invokevirtual 168, 3) := by decide +kernel
theorem dX6_goesInto_154 : decode cX6_goesInto 154 = .ok (.bipush 7, 2) := by decide +kernel
theorem dX6_goesInto_156 : decode cX6_goesInto 156 = .ok (.if_icmp .le 5, 3) := by decide +kernel
theorem dX6_goesInto_159 : decode cX6_goesInto 159 = .ok (.iconst 0, 1) := by decide +kernel
theorem dX6_goesInto_160 : decode cX6_goesInto 160 = .ok (.ireturn, 1) := by decide +kernel
theorem dX6_goesInto_161 : decode cX6_goesInto 161 = .ok (.iconst 0, 1) := by decide +kernel
theorem dX6_goesInto_162 : decode cX6_goesInto 162 = .ok (.istore 6, 2) := by decide +kernel
theorem dX6_goesInto_164 : decode cX6_goesInto 164 = .ok (.iconst 0, 1) := by decide +kernel
theorem dX6_goesInto_165 : decode cX6_goesInto 165 = .ok (.istore 7, 2) := by decide +kernel
theorem dX6_goesInto_167 : decode cX6_goesInto 167 = .ok (.iload 7, 2) := by decide +kernel
theorem dX6_goesInto_169 : decode cX6_goesInto 169 = .ok (.aload_n 0, 1) := by decide +kernel
theorem dX6_goesInto_170 : decode cX6_goesInto 170 = .ok (.getfield 93, 3) := by decide +kernel
theorem dX6_goesInto_173 : decode cX6_goesInto 173 = .ok (.if_icmp .ge 47, 3) := by decide +kernel
theorem dX6_goesInto_176 : decode cX6_goesInto 176 = .ok (.aload_n 0, 1) := by decide +kernel
theorem dX6_goesInto_177 : decode cX6_goesInto 177 = .ok (.iload 7, 2) := by decide +kernel
theorem dX6_goesInto_179 : decode cX6_goesInto 179 = .ok (.invokevirtual 113, 3) := by decide +kernel
theorem dX6_goesInto_182 : decode cX6_goesInto 182 = .ok (.ifCond .eq 32, 3) := by decide +kernel
theorem dX6_goesInto_185 : decode cX6_goesInto 185 = .ok (.aload_n 0, 1) := by decide +kernel
theorem dX6_goesInto_186 : decode cX6_goesInto 186 = .ok (.iload 7, 2) := by decide +kernel
theorem dX6_goesInto_188 : decode cX6_goesInto 188 = .ok (.iload_n 1, 1) := by decide +kernel
theorem dX6_goesInto_189 : decode cX6_goesInto 189 = .ok (.invokevirtual 165, 3) := by decide +kernel
theorem dX6_goesInto_192 : decode cX6_goesInto 192 = .ok (.ifCond .eq 22, 3) := by decide +kernel
theorem dX6_goesInto_195 : decode cX6_goesInto 195 = .ok (.aload_n 0, 1) := by decide +kernel
theorem dX6_goesInto_196 : decode cX6_goesInto 196 = .ok (.iload 7, 2) := by decide +kernel
theorem dX6_goesInto_198 : decode cX6_goesInto 198 = .ok (.invokevirtual 172, 3) := by decide +kernel
theorem dX6_goesInto_201 : decode cX6_goesInto 201 = .ok (.iload 6, 2) := by decide +kernel
theorem dX6_goesInto_203 : decode cX6_goesInto 203 = .ok (.if_icmp .le 11, 3) := by decide +kernel
theorem dX6_goesInto_206 : decode cX6_goesInto 206 = .ok (.aload_n 0, 1) := by decide +kernel
theorem dX6_goesInto_207 : decode cX6_goesInto 207 = .ok (.iload 7, 2) := by decide +kernel
theorem dX6_goesInto_209 : decode cX6_goesInto 209 = .ok (.invokevirtual 172, 3) := by decide +kernel
theorem dX6_goesInto_212 : decode cX6_goesInto 212 = .ok (.istore 6, 2) := by decide +kernel
theorem dX6_goesInto_214 : decode cX6_goesInto 214 = .ok (.iinc 7 1, 3) := by decide +kernel
theorem dX6_goesInto_217 : decode cX6_goesInto 217 = .ok (.goto (-50), 3) := by decide +kernel
theorem dX6_goesInto_220 : decode cX6_goesInto 220 = .ok (.iload 6, 2) := by decide +kernel
theorem dX6_goesInto_222 : decode cX6_goesInto 222 = .ok (.aload_n 0, 1) := by decide +kernel
theorem dX6_goesInto_223 : decode cX6_goesInto 223 = .ok (.iload 4, 2) := by decide +kernel
theorem dX6_goesInto_225 : decode cX6_goesInto 225 = .ok (.invokevirtual 172, 3) := by decide +kernel
theorem dX6_goesInto_228 : decode cX6_goesInto 228 = .ok (.iadd, 1) := by decide +kernel
theorem dX6_goesInto_229 : decode cX6_goesInto 229 = .ok (.iconst 1, 1) := by decide +kernel
theorem dX6_goesInto_230 : decode cX6_goesInto 230 = .ok (.iadd, 1) := by decide +kernel
theorem dX6_goesInto_231 : decode cX6_goesInto 231 = .ok (.iconst 4, 1) := by decide +kernel
theorem dX6_goesInto_232 : decode cX6_goesInto 232 = .ok (.if_icmp .le 5, 3) := by decide +kernel
theorem dX6_goesInto_235 : decode cX6_goesInto 235 = .ok (.iconst 0, 1) := by decide +kernel
theorem dX6_goesInto_236 : decode cX6_goesInto 236 = .ok (.ireturn, 1) := by decide +kernel
theorem dX6_goesInto_237 : decode cX6_goesInto 237 = .ok (.aload_n 0, 1) := by decide +kernel
theorem dX6_goesInto_238 : decode cX6_goesInto 238 = .ok (.iload_n 1, 1) := by decide +kernel
theorem dX6_goesInto_239 : decode cX6_goesInto 239 = .ok (.iconst 3, 1) := by decide +kernel
theorem dX6_goesInto_240 : decode cX6_goesInto 240 = .ok (.iload 4, 2) := by decide +kernel
theorem dX6_goesInto_242 : decode cX6_goesInto 242 = .ok (.invokevirtual 150, 3) := by decide +kernel
theorem dX6_goesInto_245 : decode cX6_goesInto 245 = .ok (.iconst 1, 1) := by decide +kernel
theorem dX6_goesInto_246 : decode cX6_goesInto 246 = .ok (.ireturn, 1) := by decide +kernel
theorem dX6_goesFrom_0 : decode cX6_goesFrom 0 = .ok (.aload_n 0, 1) := by decide +kernel
theorem dX6_goesFrom_1 : decode cX6_goesFrom 1 = .ok (.getfield 45, 3) := by decide +kernel
theorem dX6_goesFrom_4 : decode cX6_goesFrom 4 = .ok (.iload_n 1, 1) := by decide +kernel
theorem dX6_goesFrom_5 : decode cX6_goesFrom 5 = .ok (.iaload, 1) := by decide +kernel
theorem dX6_goesFrom_6 : decode cX6_goesFrom 6 = .ok (.iconst 3, 1) := by decide +kernel
theorem dX6_goesFrom_7 : decode cX6_goesFrom 7 = .ok (.if_icmp .eq 5, 3) := by decide +kernel
theorem dX6_goesFrom_10 : decode cX6_goesFrom 10 = .ok (.iconst 0, 1) := by decide +kernel
theorem dX6_goesFrom_11 : decode cX6_goesFrom 11 = .ok (.ireturn, 1) := by decide +kernel
theorem dX6_goesFrom_12 : decode cX6_goesFrom 12 = .ok (.aload_n 0, 1) := by decide +kernel
theorem dX6_goesFrom_13 : decode cX6_goesFrom 13 = .ok (.getfield 48, 3) := by decide +kernel
theorem dX6_goesFrom_16 : decode cX6_goesFrom 16 = .ok (.iload_n 1, 1) := by decide +kernel
theorem dX6_goesFrom_17 : decode cX6_goesFrom 17 = .ok (.iaload, 1) := by decide +kernel
theorem dX6_goesFrom_18 : decode cX6_goesFrom 18 = .ok (.istore 5, 2) := by decide +kernel
theorem dX6_goesFrom_20 : decode cX6_goesFrom 20 = .ok (.aload_n 0, 1) := by decide +kernel
theorem dX6_goesFrom_21 : decode cX6_goesFrom 21 = .ok (.getfield 54, 3) := by decide +kernel
theorem dX6_goesFrom_24 : decode cX6_goesFrom 24 = .ok (.iload 5, 2) := by decide +kernel
theorem dX6_goesFrom_26 : decode cX6_goesFrom 26 = .ok (.iaload, 1) := by decide +kernel
theorem dX6_goesFrom_27 : decode cX6_goesFrom 27 = .ok (.iconst (-1), 1) := by decide +kernel
theorem dX6_goesFrom_28 : decode cX6_goesFrom 28 = .ok (.if_icmp .ne 49, 3) := by decide +kernel
theorem dX6_goesFrom_31 : decode cX6_goesFrom 31 = .ok (.aload_n 0, 1) := by decide +kernel
theorem dX6_goesFrom_32 : decode cX6_goesFrom 32 = .ok (.getfield 45, 3) := by decide +kernel
theorem dX6_goesFrom_35 : decode cX6_goesFrom 35 = .ok (.iload 5, 2) := by decide +kernel
theorem dX6_goesFrom_37 : decode cX6_goesFrom 37 = .ok (.iaload, 1) := by decide +kernel
theorem dX6_goesFrom_38 : decode cX6_goesFrom 38 = .ok (.iconst 3, 1) := by decide +kernel
theorem dX6_goesFrom_39 : decode cX6_goesFrom 39 = .ok (.if_icmp .eq 38, 3) := by decide +kernel
theorem dX6_goesFrom_42 : decode cX6_goesFrom 42 = .ok (.aload_n 0, 1) := by decide +kernel
theorem dX6_goesFrom_43 : decode cX6_goesFrom 43 = .ok (.iload_n 2, 1) := by decide +kernel
theorem dX6_goesFrom_44 : decode cX6_goesFrom 44 = .ok (.iload_n 3, 1) := by decide +kernel
theorem dX6_goesFrom_45 : decode cX6_goesFrom 45 = .ok (.aload_n 0, 1) := by decide +kernel
theorem dX6_goesFrom_46 : decode cX6_goesFrom 46 = .ok (.getfield 24, 3) := by decide +kernel
theorem dX6_goesFrom_49 : decode cX6_goesFrom 49 = .ok (.iload_n 1, 1) := by decide +kernel
theorem dX6_goesFrom_50 : decode cX6_goesFrom 50 = .ok (.iaload, 1) := by decide +kernel
theorem dX6_goesFrom_51 : decode cX6_goesFrom 51 = .ok (.iconst 5, 1) := by decide +kernel
theorem dX6_goesFrom_52 : decode cX6_goesFrom 52 = .ok (.if_icmp .eq 14, 3) := by decide +kernel
theorem dX6_goesFrom_55 : decode cX6_goesFrom 55 = .ok (.aload_n 0, 1) := by decide +kernel
theorem dX6_goesFrom_56 : decode cX6_goesFrom 56 = .ok (.getfield 24, 3) := by decide +kernel
theorem dX6_goesFrom_59 : decode cX6_goesFrom 59 = .ok (.iload 5, 2) := by decide +kernel
theorem dX6_goesFrom_61 : decode cX6_goesFrom 61 = .ok (.iaload, 1) := by decide +kernel
theorem dX6_goesFrom_62 : decode cX6_goesFrom 62 = .ok (.iconst 5, 1) := by decide +kernel
theorem dX6_goesFrom_63 : decode cX6_goesFrom 63 = .ok (.if_icmp .ne 7, 3) := by decide +kernel
theorem dX6_goesFrom_66 : decode cX6_goesFrom 66 = .ok (.iconst 1, 1) := by decide +kernel
theorem dX6_goesFrom_67 : decode cX6_goesFrom 67 = .ok (.goto 4, 3) := by decide +kernel
theorem dX6_goesFrom_70 : decode cX6_goesFrom 70 = .ok (.iconst 0, 1) := by decide +kernel
theorem dX6_goesFrom_71 : decode cX6_goesFrom 71 = .ok (.invokevirtual 139, 3) := by decide +kernel
theorem dX6_goesFrom_74 : decode cX6_goesFrom 74 = .ok (.ifCond .ne 5, 3) := by decide +kernel
theorem dX6_goesFrom_77 : decode cX6_goesFrom 77 = .ok (.iconst 0, 1) := by decide +kernel
theorem dX6_goesFrom_78 : decode cX6_goesFrom 78 = .ok (.ireturn, 1) := by decide +kernel
theorem dX6_goesFrom_79 : decode cX6_goesFrom 79 = .ok (.aload_n 0, 1) := by decide +kernel
theorem dX6_goesFrom_80 : decode cX6_goesFrom 80 = .ok (.getfield 45, 3) := by decide +kernel
theorem dX6_goesFrom_83 : decode cX6_goesFrom 83 = .ok (.iload 5, 2) := by decide +kernel
theorem dX6_goesFrom_85 : decode cX6_goesFrom 85 = .ok (.iaload, 1) := by decide +kernel
theorem dX6_goesFrom_86 : decode cX6_goesFrom 86 = .ok (.iconst 2, 1) := by decide +kernel
theorem dX6_goesFrom_87 : decode cX6_goesFrom 87 = .ok (.if_icmp .ne 18, 3) := by decide +kernel
theorem dX6_goesFrom_90 : decode cX6_goesFrom 90 = .ok (.aload_n 0, 1) := by decide +kernel
theorem dX6_goesFrom_91 : decode cX6_goesFrom 91 = .ok (.iload_n 1, 1) := by decide +kernel
theorem dX6_goesFrom_92 : decode cX6_goesFrom 92 = .ok (.iconst 2, 1) := by decide +kernel
theorem dX6_goesFrom_93 : decode cX6_goesFrom 93 = .ok (.aload_n 0, 1) := by decide +kernel
theorem dX6_goesFrom_94 : decode cX6_goesFrom 94 = .ok (.getfield 48, 3) := by decide +kernel
theorem dX6_goesFrom_97 : decode cX6_goesFrom 97 = .ok (.iload 5, 2) := by decide +kernel
theorem dX6_goesFrom_99 : decode cX6_goesFrom 99 = .ok (.iaload, 1) := by decide +kernel
theorem dX6_goesFrom_100 : decode cX6_goesFrom 100 = .ok (.invokevirtual 150, 3) := by decide +kernel
theorem dX6_goesFrom_103 : decode cX6_goesFrom 103 = .ok (.iconst 1, 1) := by decide +kernel
theorem dX6_goesFrom_104 : decode cX6_goesFrom 104 = .ok (.ireturn, 1) := by decide +kernel
theorem dX6_goesFrom_105 : decode cX6_goesFrom 105 = .ok (.aload_n 0, 1) := by decide +kernel
theorem dX6_goesFrom_106 : decode cX6_goesFrom 106 = .ok (.iload_n 1, 1) := by decide +kernel
theorem dX6_goesFrom_107 : decode cX6_goesFrom 107 = .ok (.iload 4, 2) := by decide +kernel
theorem dX6_goesFrom_109 : decode cX6_goesFrom 109 = .ok (.invokevirtual 146, 3) := by decide +kernel
theorem dX6_goesFrom_112 : decode cX6_goesFrom 112 = .ok (.ifCond .ne 5, 3) := by decide +kernel
theorem dX6_goesFrom_115 : decode cX6_goesFrom 115 = .ok (.iconst 0, 1) := by decide +kernel
theorem dX6_goesFrom_116 : decode cX6_goesFrom 116 = .ok (.ireturn, 1) := by decide +kernel
theorem dX6_goesFrom_117 : decode cX6_goesFrom 117 = .ok (.aload_n 0, 1) := by decide +kernel
theorem dX6_goesFrom_118 : decode cX6_goesFrom 118 = .ok (.iload_n 1, 1) := by decide +kernel
theorem dX6_goesFrom_119 : decode cX6_goesFrom 119 = .ok (.iconst 1, 1) := by decide +kernel
theorem dX6_goesFrom_120 : decode cX6_goesFrom 120 = .ok (.iload 4, 2) := by decide +kernel
theorem dX6_goesFrom_122 : decode cX6_goesFrom 122 = .ok (.invokevirtual 150, 3) := by decide +kernel
theorem dX6_goesFrom_125 : decode cX6_goesFrom 125 = .ok (.iconst 1, 1) := by decide +kernel
theorem dX6_goesFrom_126 : decode cX6_goesFrom 126 = .ok (.ireturn, 1) := by decide +kernel
theorem dX6_isSeal_0 : decode cX6_isSeal 0 = .ok (.iload_n 1, 1) := by decide +kernel
theorem dX6_isSeal_1 : decode cX6_isSeal 1 = .ok (.iconst 0, 1) := by decide +kernel
theorem dX6_isSeal_2 : decode cX6_isSeal 2 = .ok (.sipush 599, 3) := by decide +kernel
theorem dX6_isSeal_5 : decode cX6_isSeal 5 = .ok (.invokestatic 96, 3) := by decide +kernel
theorem dX6_isSeal_8 : decode cX6_isSeal 8 = .ok (.ifCond .eq 23, 3) := by decide +kernel
theorem dX6_isSeal_11 : decode cX6_isSeal 11 = .ok (.iload_n 1, 1) := by decide +kernel
theorem dX6_isSeal_12 : decode cX6_isSeal 12 = .ok (.bipush 100, 2) := by decide +kernel
theorem dX6_isSeal_14 : decode cX6_isSeal 14 = .ok (.irem, 1) := by decide +kernel
theorem dX6_isSeal_15 : decode cX6_isSeal 15 = .ok (.aload_n 0, 1) := by decide +kernel
theorem dX6_isSeal_16 : decode cX6_isSeal 16 = .ok (.getfield 20, 3) := by decide +kernel
theorem dX6_isSeal_19 : decode cX6_isSeal 19 = .ok (.iload_n 1, 1) := by decide +kernel
theorem dX6_isSeal_20 : decode cX6_isSeal 20 = .ok (.bipush 100, 2) := by decide +kernel
theorem dX6_isSeal_22 : decode cX6_isSeal 22 = .ok (.idiv, 1) := by decide +kernel
theorem dX6_isSeal_23 : decode cX6_isSeal 23 = .ok (.iaload, 1) := by decide +kernel
theorem dX6_isSeal_24 : decode cX6_isSeal 24 = .ok (.if_icmp .ge 7, 3) := by decide +kernel
theorem dX6_isSeal_27 : decode cX6_isSeal 27 = .ok (.iconst 1, 1) := by decide +kernel
theorem dX6_isSeal_28 : decode cX6_isSeal 28 = .ok (.goto 4, 3) := by decide +kernel
theorem dX6_isSeal_31 : decode cX6_isSeal 31 = .ok (.iconst 0, 1) := by decide +kernel
theorem dX6_isSeal_32 : decode cX6_isSeal 32 = .ok (.ireturn, 1) := by decide +kernel
theorem dX6_isSealing_0 : decode cX6_isSealing 0 = .ok (.aload_n 0, 1) := by decide +kernel
theorem dX6_isSealing_1 : decode cX6_isSealing 1 = .ok (.iload_n 2, 1) := by decide +kernel
theorem dX6_isSealing_2 : decode cX6_isSealing 2 = .ok (.invokevirtual 162, 3) := by decide +kernel
theorem dX6_isSealing_5 : decode cX6_isSealing 5 = .ok (.ifCond .ne 5, 3) := by decide +kernel
theorem dX6_isSealing_8 : decode cX6_isSealing 8 = .ok (.iconst 0, 1) := by decide +kernel
theorem dX6_isSealing_9 : decode cX6_isSealing 9 = .ok (.ireturn, 1) := by decide +kernel
theorem dX6_isSealing_10 : decode cX6_isSealing 10 = .ok (.iload_n 1, 1) := by decide +kernel
theorem dX6_isSealing_11 : decode cX6_isSealing 11 = .ok (.bipush 10, 2) := by decide +kernel
theorem dX6_isSealing_13 : decode cX6_isSealing 13 = .ok (.if_icmp .ne 13, 3) := by decide +kernel
theorem dX6_isSealing_16 : decode cX6_isSealing 16 = .ok (.iload 5, 2) := by decide +kernel
theorem dX6_isSealing_18 : decode cX6_isSealing 18 = .ok (.iconst (-1), 1) := by decide +kernel
theorem dX6_isSealing_19 : decode cX6_isSealing 19 = .ok (.sipush 999, 3) := by decide +kernel
theorem dX6_isSealing_22 : decode cX6_isSealing 22 = .ok (.invokestatic 96, 3) := by decide +kernel
theorem dX6_isSealing_25 : decode cX6_isSealing 25 = .ok (.ireturn, 1) := by decide +kernel
theorem dX6_isSealing_26 : decode cX6_isSealing 26 = .ok (.aload_n 0, 1) := by decide +kernel
theorem dX6_isSealing_27 : decode cX6_isSealing 27 = .ok (.getfield 24, 3) := by decide +kernel
theorem dX6_isSealing_30 : decode cX6_isSealing 30 = .ok (.iload_n 2, 1) := by decide +kernel
theorem dX6_isSealing_31 : decode cX6_isSealing 31 = .ok (.iaload, 1) := by decide +kernel
theorem dX6_isSealing_32 : decode cX6_isSealing 32 = .ok (.iconst 5, 1) := by decide +kernel
theorem dX6_isSealing_33 : decode cX6_isSealing 33 = .ok (.if_icmp .ne 16, 3) := by decide +kernel
theorem dX6_isSealing_36 : decode cX6_isSealing 36 = .ok (.aload_n 0, 1) := by decide +kernel
theorem dX6_isSealing_37 : decode cX6_isSealing 37 = .ok (.iload_n 3, 1) := by decide +kernel
theorem dX6_isSealing_38 : decode cX6_isSealing 38 = .ok (.iload 4, 2) := by decide +kernel
theorem dX6_isSealing_40 : decode cX6_isSealing 40 = .ok (.iconst 1, 1) := by decide +kernel
theorem dX6_isSealing_41 : decode cX6_isSealing 41 = .ok (.invokevirtual 139, 3) := by decide +kernel
theorem dX6_isSealing_44 : decode cX6_isSealing 44 = .ok (.ifCond .ne 5, 3) := by decide +kernel
theorem dX6_isSealing_47 : decode cX6_isSealing 47 = .ok (.iconst 0, 1) := by decide +kernel
theorem dX6_isSealing_48 : decode cX6_isSealing 48 = .ok (.ireturn, 1) := by decide +kernel
theorem dX6_isSealing_49 : decode cX6_isSealing 49 = .ok (.iload_n 1, 1) := by decide +kernel
theorem dX6_isSealing_50 : decode cX6_isSealing 50 = .ok (.bipush 9, 2) := by decide +kernel
theorem dX6_isSealing_52 : decode cX6_isSealing 52 = .ok (.if_icmp .ne 36, 3) := by decide +kernel
theorem dX6_isSealing_55 : decode cX6_isSealing 55 = .ok (.aload_n 0, 1) := by decide +kernel
theorem dX6_isSealing_56 : decode cX6_isSealing 56 = .ok (.getfield 54, 3) := by decide +kernel
theorem dX6_isSealing_59 : decode cX6_isSealing 59 = .ok (.iload_n 2, 1) := by decide +kernel
theorem dX6_isSealing_60 : decode cX6_isSealing 60 = .ok (.iaload, 1) := by decide +kernel
theorem dX6_isSealing_61 : decode cX6_isSealing 61 = .ok (.iconst (-1), 1) := by decide +kernel
theorem dX6_isSealing_62 : decode cX6_isSealing 62 = .ok (.if_icmp .eq 15, 3) := by decide +kernel
theorem dX6_isSealing_65 : decode cX6_isSealing 65 = .ok (.iload 5, 2) := by decide +kernel
theorem dX6_isSealing_67 : decode cX6_isSealing 67 = .ok (.iconst 0, 1) := by decide +kernel
theorem dX6_isSealing_68 : decode cX6_isSealing 68 = .ok (.sipush 999, 3) := by decide +kernel
theorem dX6_isSealing_71 : decode cX6_isSealing 71 = .ok (.invokestatic 96, 3) := by decide +kernel
theorem dX6_isSealing_74 : decode cX6_isSealing 74 = .ok (.ifCond .ne 5, 3) := by decide +kernel
theorem dX6_isSealing_77 : decode cX6_isSealing 77 = .ok (.iconst 0, 1) := by decide +kernel
theorem dX6_isSealing_78 : decode cX6_isSealing 78 = .ok (.ireturn, 1) := by decide +kernel
theorem dX6_isSealing_79 : decode cX6_isSealing 79 = .ok (.aload_n 0, 1) := by decide +kernel
theorem dX6_isSealing_80 : decode cX6_isSealing 80 = .ok (.getfield 54, 3) := by decide +kernel
theorem dX6_isSealing_83 : decode cX6_isSealing 83 = .ok (.iload_n 2, 1) := by decide +kernel
theorem dX6_isSealing_84 : decode cX6_isSealing 84 = .ok (.iconst (-1), 1) := by decide +kernel
theorem dX6_isSealing_85 : decode cX6_isSealing 85 = .ok (.iastore, 1) := by decide +kernel
theorem dX6_isSealing_86 : decode cX6_isSealing 86 = .ok (.iconst 1, 1) := by decide +kernel
theorem dX6_isSealing_87 : decode cX6_isSealing 87 = .ok (.ireturn, 1) := by decide +kernel
theorem dX6_isSealing_88 : decode cX6_isSealing 88 = .ok (.aload_n 0, 1) := by decide +kernel
theorem dX6_isSealing_89 : decode cX6_isSealing 89 = .ok (.getfield 54, 3) := by decide +kernel
theorem dX6_isSealing_92 : decode cX6_isSealing 92 = .ok (.iload_n 2, 1) := by decide +kernel
theorem dX6_isSealing_93 : decode cX6_isSealing 93 = .ok (.iaload, 1) := by decide +kernel
theorem dX6_isSealing_94 : decode cX6_isSealing 94 = .ok (.iconst (-1), 1) := by decide +kernel
theorem dX6_isSealing_95 : decode cX6_isSealing 95 = .ok (.if_icmp .ne 22, 3) := by decide +kernel
theorem dX6_isSealing_98 : decode cX6_isSealing 98 = .ok (.aload_n 0, 1) := by decide +kernel
theorem dX6_isSealing_99 : decode cX6_isSealing 99 = .ok (.iload 5, 2) := by decide +kernel
theorem dX6_isSealing_101 : decode cX6_isSealing 101 = .ok (.invokevirtual 175, 3) := by decide +kernel
theorem dX6_isSealing_104 : decode cX6_isSealing 104 = .ok (.ifCond .eq 13, 3) := by decide +kernel
theorem dX6_isSealing_107 : decode cX6_isSealing 107 = .ok (.aload_n 0, 1) := by decide +kernel
theorem dX6_isSealing_108 : decode cX6_isSealing 108 = .ok (.getfield 75, 3) := by decide +kernel
theorem dX6_isSealing_111 : decode cX6_isSealing 111 = .ok (.iload 5, 2) := by decide +kernel
theorem dX6_isSealing_113 : decode cX6_isSealing 113 = .ok (.baload, 1) := by decide +kernel
theorem dX6_isSealing_114 : decode cX6_isSealing 114 = .ok (.ifCond .eq 5, 3) := by decide +kernel
theorem dX6_isSealing_117 : decode cX6_isSealing 117 = .ok (.iconst 0, 1) := by decide +kernel
theorem dX6_isSealing_118 : decode cX6_isSealing 118 = .ok (.ireturn, 1) := by decide +kernel
theorem dX6_isSealing_119 : decode cX6_isSealing 119 = .ok (.aload_n 0, 1) := by decide +kernel
theorem dX6_isSealing_120 : decode cX6_isSealing 120 = .ok (.getfield 54, 3) := by decide +kernel
theorem dX6_isSealing_123 : decode cX6_isSealing 123 = .ok (.iload_n 2, 1) := by decide +kernel
theorem dX6_isSealing_124 : decode cX6_isSealing 124 = .ok (.iload 5, 2) := by decide +kernel
theorem dX6_isSealing_126 : decode cX6_isSealing 126 = .ok (.iastore, 1) := by decide +kernel
theorem dX6_isSealing_127 : decode cX6_isSealing 127 = .ok (.aload_n 0, 1) := by decide +kernel
theorem dX6_isSealing_128 : decode cX6_isSealing 128 = .ok (.getfield 75, 3) := by decide +kernel
theorem dX6_isSealing_131 : decode cX6_isSealing 131 = .ok (.iload 5, 2) := by decide +kernel
theorem dX6_isSealing_133 : decode cX6_isSealing 133 = .ok (.iconst 1, 1) := by decide +kernel
theorem dX6_isSealing_134 : decode cX6_isSealing 134 = .ok (.bastore, 1) := by decide +kernel
theorem dX6_isSealing_135 : decode cX6_isSealing 135 = .ok (.iconst 1, 1) := by decide +kernel
theorem dX6_isSealing_136 : decode cX6_isSealing 136 = .ok (.ireturn, 1) := by decide +kernel
theorem dX6_takes_0 : decode cX6_takes 0 = .ok (.aload_n 0, 1) := by decide +kernel
theorem dX6_takes_1 : decode cX6_takes 1 = .ok (.iload_n 2, 1) := by decide +kernel
theorem dX6_takes_2 : decode cX6_takes 2 = .ok (.invokevirtual 178, 3) := by decide +kernel
theorem dX6_takes_5 : decode cX6_takes 5 = .ok (.ifCond .ne 5, 3) := by decide +kernel
theorem dX6_takes_8 : decode cX6_takes 8 = .ok (.iconst 0, 1) := by decide +kernel
theorem dX6_takes_9 : decode cX6_takes 9 = .ok (.ireturn, 1) := by decide +kernel
theorem dX6_takes_10 : decode cX6_takes 10 = .ok (.iload_n 1, 1) := by decide +kernel
theorem dX6_takes_11 : decode cX6_takes 11 = .ok (.bipush 13, 2) := by decide +kernel
theorem dX6_takes_13 : decode cX6_takes 13 = .ok (.if_icmp .ne 33, 3) := by decide +kernel
theorem dX6_takes_16 : decode cX6_takes 16 = .ok (.iload 6, 2) := by decide +kernel
theorem dX6_takes_18 : decode cX6_takes 18 = .ok (.iconst 0, 1) := by decide +kernel
theorem dX6_takes_19 : decode cX6_takes 19 = .ok (.aload_n 0, 1) := by decide +kernel
theorem dX6_takes_20 : decode cX6_takes 20 = .ok (.getfield 51, 3) := by decide +kernel
theorem dX6_takes_23 : decode cX6_takes 23 = .ok (.iload_n 2, 1) := by decide +kernel
theorem dX6_takes_24 : decode cX6_takes 24 = .ok (.iaload, 1) := by decide +kernel
theorem dX6_takes_25 : decode cX6_takes 25 = .ok (.invokestatic 96, 3) := by decide +kernel
theorem dX6_takes_28 : decode cX6_takes 28 = .ok (.ifCond .ne 5, 3) := by decide +kernel
theorem dX6_takes_31 : decode cX6_takes 31 = .ok (.iconst 0, 1) := by decide +kernel
theorem dX6_takes_32 : decode cX6_takes 32 = .ok (.ireturn, 1) := by decide +kernel
theorem dX6_takes_33 : decode cX6_takes 33 = .ok (.aload_n 0, 1) := by decide +kernel
theorem dX6_takes_34 : decode cX6_takes 34 = .ok (.getfield 51, 3) := by decide +kernel
theorem dX6_takes_37 : decode cX6_takes 37 = .ok (.iload_n 2, 1) := by decide +kernel
theorem dX6_takes_38 : decode cX6_takes 38 = .ok (.dup2, 1) := by decide +kernel
theorem dX6_takes_39 : decode cX6_takes 39 = .ok (.iaload, 1) := by decide +kernel
theorem dX6_takes_40 : decode cX6_takes 40 = .ok (.iload 6, 2) := by decide +kernel
theorem dX6_takes_42 : decode cX6_takes 42 = .ok (.isub, 1) := by decide +kernel
theorem dX6_takes_43 : decode cX6_takes 43 = .ok (.iastore, 1) := by decide +kernel
theorem dX6_takes_44 : decode cX6_takes 44 = .ok (.iconst 1, 1) := by decide +kernel
theorem dX6_takes_45 : decode cX6_takes 45 = .ok (.ireturn, 1) := by decide +kernel
theorem dX6_takes_46 : decode cX6_takes 46 = .ok (.aload_n 0, 1) := by decide +kernel
theorem dX6_takes_47 : decode cX6_takes 47 = .ok (.iload_n 3, 1) := by decide +kernel
theorem dX6_takes_48 : decode cX6_takes 48 = .ok (.iload 4, 2) := by decide +kernel
theorem dX6_takes_50 : decode cX6_takes 50 = .ok (.aload_n 0, 1) := by decide +kernel
theorem dX6_takes_51 : decode cX6_takes 51 = .ok (.getfield 24, 3) := by decide +kernel
theorem dX6_takes_54 : decode cX6_takes 54 = .ok (.iload_n 2, 1) := by decide +kernel
theorem dX6_takes_55 : decode cX6_takes 55 = .ok (.iaload, 1) := by decide +kernel
theorem dX6_takes_56 : decode cX6_takes 56 = .ok (.iconst 5, 1) := by decide +kernel
theorem dX6_takes_57 : decode cX6_takes 57 = .ok (.if_icmp .ne 7, 3) := by decide +kernel
theorem dX6_takes_60 : decode cX6_takes 60 = .ok (.iconst 1, 1) := by decide +kernel
theorem dX6_takes_61 : decode cX6_takes 61 = .ok (.goto 4, 3) := by decide +kernel
theorem dX6_takes_64 : decode cX6_takes 64 = .ok (.iconst 0, 1) := by decide +kernel
theorem dX6_takes_65 : decode cX6_takes 65 = .ok (.invokevirtual 139, 3) := by decide +kernel
theorem dX6_takes_68 : decode cX6_takes 68 = .ok (.ifCond .eq 49, 3) := by decide +kernel
theorem dX6_takes_71 : decode cX6_takes 71 = .ok (.iload 5, 2) := by decide +kernel
theorem dX6_takes_73 : decode cX6_takes 73 = .ok (.iconst 0, 1) := by decide +kernel
theorem dX6_takes_74 : decode cX6_takes 74 = .ok (.aload_n 0, 1) := by decide +kernel
theorem dX6_takes_75 : decode cX6_takes 75 = .ok (.getfield 93, 3) := by decide +kernel
theorem dX6_takes_78 : decode cX6_takes 78 = .ok (.iconst 1, 1) := by decide +kernel
theorem dX6_takes_79 : decode cX6_takes 79 = .ok (.isub, 1) := by decide +kernel
theorem dX6_takes_80 : decode cX6_takes 80 = .ok (.invokestatic 96, 3) := by decide +kernel
theorem dX6_takes_83 : decode cX6_takes 83 = .ok (.ifCond .eq 34, 3) := by decide +kernel
theorem dX6_takes_86 : decode cX6_takes 86 = .ok (.aload_n 0, 1) := by decide +kernel
theorem dX6_takes_87 : decode cX6_takes 87 = .ok (.getfield 72, 3) := by decide +kernel
theorem dX6_takes_90 : decode cX6_takes 90 = .ok (.iload 5, 2) := by decide +kernel
theorem dX6_takes_92 : decode cX6_takes 92 = .ok (.baload, 1) := by decide +kernel
theorem dX6_takes_93 : decode cX6_takes 93 = .ok (.ifCond .ne 24, 3) := by decide +kernel
theorem dX6_takes_96 : decode cX6_takes 96 = .ok (.aload_n 0, 1) := by decide +kernel
theorem dX6_takes_97 : decode cX6_takes 97 = .ok (.getfield 24, 3) := by decide +kernel
theorem dX6_takes_100 : decode cX6_takes 100 = .ok (.iload 5, 2) := by decide +kernel
theorem dX6_takes_102 : decode cX6_takes 102 = .ok (.iaload, 1) := by decide +kernel
theorem dX6_takes_103 : decode cX6_takes 103 = .ok (.iload_n 1, 1) := by decide +kernel
theorem dX6_takes_104 : decode cX6_takes 104 = .ok (.bipush 11, 2) := by decide +kernel
theorem dX6_takes_106 : decode cX6_takes 106 = .ok (.if_icmp .ne 7, 3) := by decide +kernel
theorem dX6_takes_109 : decode cX6_takes 109 = .ok (.iconst 2, 1) := by decide +kernel
theorem dX6_takes_110 : decode cX6_takes 110 = .ok (.goto 4, 3) := by decide +kernel
theorem dX6_takes_113 : decode cX6_takes 113 = .ok (.iconst 3, 1) := by decide +kernel
theorem dX6_takes_114 : decode cX6_takes 114 = .ok (.if_icmp .eq 5, 3) := by decide +kernel
theorem dX6_takes_117 : decode cX6_takes 117 = .ok (.iconst 0, 1) := by decide +kernel
theorem dX6_takes_118 : decode cX6_takes 118 = .ok (.ireturn, 1) := by decide +kernel
theorem dX6_takes_119 : decode cX6_takes 119 = .ok (.iload_n 1, 1) := by decide +kernel
theorem dX6_takes_120 : decode cX6_takes 120 = .ok (.bipush 11, 2) := by decide +kernel
theorem dX6_takes_122 : decode cX6_takes 122 = .ok (.if_icmp .ne 20, 3) := by decide +kernel
theorem dX6_takes_125 : decode cX6_takes 125 = .ok (.iload 6, 2) := by decide +kernel
theorem dX6_takes_127 : decode cX6_takes 127 = .ok (.iconst 1, 1) := by decide +kernel
theorem dX6_takes_128 : decode cX6_takes 128 = .ok (.aload_n 0, 1) := by decide +kernel
theorem dX6_takes_129 : decode cX6_takes 129 = .ok (.getfield 51, 3) := by decide +kernel
theorem dX6_takes_132 : decode cX6_takes 132 = .ok (.iload_n 2, 1) := by decide +kernel
theorem dX6_takes_133 : decode cX6_takes 133 = .ok (.iaload, 1) := by decide +kernel
theorem dX6_takes_134 : decode cX6_takes 134 = .ok (.invokestatic 96, 3) := by decide +kernel
theorem dX6_takes_137 : decode cX6_takes 137 = .ok (.ifCond .ne 5, 3) := by decide +kernel
theorem dX6_takes_140 : decode cX6_takes 140 = .ok (.iconst 0, 1) := by decide +kernel
theorem dX6_takes_141 : decode cX6_takes 141 = .ok (.ireturn, 1) := by decide +kernel
theorem dX6_takes_142 : decode cX6_takes 142 = .ok (.aload_n 0, 1) := by decide +kernel
theorem dX6_takes_143 : decode cX6_takes 143 = .ok (.getfield 72, 3) := by decide +kernel
theorem dX6_takes_146 : decode cX6_takes 146 = .ok (.iload 5, 2) := by decide +kernel
theorem dX6_takes_148 : decode cX6_takes 148 = .ok (.iconst 1, 1) := by decide +kernel
theorem dX6_takes_149 : decode cX6_takes 149 = .ok (.bastore, 1) := by decide +kernel
theorem dX6_takes_150 : decode cX6_takes 150 = .ok (.aload_n 0, 1) := by decide +kernel
theorem dX6_takes_151 : decode cX6_takes 151 = .ok (.getfield 69, 3) := by decide +kernel
theorem dX6_takes_154 : decode cX6_takes 154 = .ok (.iload 5, 2) := by decide +kernel
theorem dX6_takes_156 : decode cX6_takes 156 = .ok (.iload_n 2, 1) := by decide +kernel
theorem dX6_takes_157 : decode cX6_takes 157 = .ok (.iastore, 1) := by decide +kernel
theorem dX6_takes_158 : decode cX6_takes 158 = .ok (.aload_n 0, 1) := by decide +kernel
theorem dX6_takes_159 : decode cX6_takes 159 = .ok (.iload 5, 2) := by decide +kernel
theorem dX6_takes_161 : decode cX6_takes 161 = .ok (.iconst 2, 1) := by decide +kernel
theorem dX6_takes_162 : decode cX6_takes 162 = .ok (.iload_n 3, 1) := by decide +kernel
theorem dX6_takes_163 : decode cX6_takes 163 = .ok (.invokevirtual 150, 3) := by decide +kernel
theorem dX6_takes_166 : decode cX6_takes 166 = .ok (.iload_n 1, 1) := by decide +kernel
theorem dX6_takes_167 : decode cX6_takes 167 = .ok (.bipush 11, 2) := by decide +kernel
theorem dX6_takes_169 : decode cX6_takes 169 = .ok (.if_icmp .ne 23, 3) := by decide +kernel
theorem dX6_takes_172 : decode cX6_takes 172 = .ok (.aload_n 0, 1) := by decide +kernel
theorem dX6_takes_173 : decode cX6_takes 173 = .ok (.getfield 51, 3) := by decide +kernel
theorem dX6_takes_176 : decode cX6_takes 176 = .ok (.iload 5, 2) := by decide +kernel
theorem dX6_takes_178 : decode cX6_takes 178 = .ok (.iload 6, 2) := by decide +kernel
theorem dX6_takes_180 : decode cX6_takes 180 = .ok (.iastore, 1) := by decide +kernel
theorem dX6_takes_181 : decode cX6_takes 181 = .ok (.aload_n 0, 1) := by decide +kernel
theorem dX6_takes_182 : decode cX6_takes 182 = .ok (.getfield 51, 3) := by decide +kernel
theorem dX6_takes_185 : decode cX6_takes 185 = .ok (.iload_n 2, 1) := by decide +kernel
theorem dX6_takes_186 : decode cX6_takes 186 = .ok (.dup2, 1) := by decide +kernel
theorem dX6_takes_187 : decode cX6_takes 187 = .ok (.iaload, 1) := by decide +kernel
theorem dX6_takes_188 : decode cX6_takes 188 = .ok (.iload 6, 2) := by decide +kernel
theorem dX6_takes_190 : decode cX6_takes 190 = .ok (.isub, 1) := by decide +kernel
theorem dX6_takes_191 : decode cX6_takes 191 = .ok (.iastore, 1) := by decide +kernel
theorem dX6_takes_192 : decode cX6_takes 192 = .ok (.iconst 1, 1) := by decide +kernel
theorem dX6_takes_193 : decode cX6_takes 193 = .ok (.ireturn, 1) := by decide +kernel
theorem dX6_orders_0 : decode cX6_orders 0 = .ok (.iload_n 1, 1) := by decide +kernel
theorem dX6_orders_1 : decode cX6_orders 1 = .ok (.bipush 14, 2) := by decide +kernel
theorem dX6_orders_3 : decode cX6_orders 3 = .ok (.if_icmp .ne 25, 3) := by decide +kernel
theorem dX6_orders_6 : decode cX6_orders 6 = .ok (.iload_n 3, 1) := by decide +kernel
theorem dX6_orders_7 : decode cX6_orders 7 = .ok (.iconst 0, 1) := by decide +kernel
theorem dX6_orders_8 : decode cX6_orders 8 = .ok (.ldc 154, 2) := by decide +kernel
theorem dX6_orders_10 : decode cX6_orders 10 = .ok (.invokestatic 96, 3) := by decide +kernel
theorem dX6_orders_13 : decode cX6_orders 13 = .ok (.ifCond .ne 5, 3) := by decide +kernel
theorem dX6_orders_16 : decode cX6_orders 16 = .ok (.iconst 0, 1) := by decide +kernel
theorem dX6_orders_17 : decode cX6_orders 17 = .ok (.ireturn, 1) := by decide +kernel
theorem dX6_orders_18 : decode cX6_orders 18 = .ok (.aload_n 0, 1) := by decide +kernel
theorem dX6_orders_19 : decode cX6_orders 19 = .ok (.getfield 60, 3) := by decide +kernel
theorem dX6_orders_22 : decode cX6_orders 22 = .ok (.iload_n 2, 1) := by decide +kernel
theorem dX6_orders_23 : decode cX6_orders 23 = .ok (.iload_n 3, 1) := by decide +kernel
theorem dX6_orders_24 : decode cX6_orders 24 = .ok (.iastore, 1) := by decide +kernel
theorem dX6_orders_25 : decode cX6_orders 25 = .ok (.goto 67, 3) := by decide +kernel
theorem dX6_orders_28 : decode cX6_orders 28 = .ok (.iload_n 1, 1) := by decide +kernel
theorem dX6_orders_29 : decode cX6_orders 29 = .ok (.bipush 15, 2) := by decide +kernel
theorem dX6_orders_31 : decode cX6_orders 31 = .ok (.if_icmp .ne 13, 3) := by decide +kernel
theorem dX6_orders_34 : decode cX6_orders 34 = .ok (.aload_n 0, 1) := by decide +kernel
theorem dX6_orders_35 : decode cX6_orders 35 = .ok (.getfield 63, 3) := by decide +kernel
theorem dX6_orders_38 : decode cX6_orders 38 = .ok (.iload_n 2, 1) := by decide +kernel
theorem dX6_orders_39 : decode cX6_orders 39 = .ok (.iconst 1, 1) := by decide +kernel
theorem dX6_orders_40 : decode cX6_orders 40 = .ok (.bastore, 1) := by decide +kernel
theorem dX6_orders_41 : decode cX6_orders 41 = .ok (.goto 51, 3) := by decide +kernel
theorem dX6_orders_44 : decode cX6_orders 44 = .ok (.iload_n 3, 1) := by decide +kernel
theorem dX6_orders_45 : decode cX6_orders 45 = .ok (.iconst 0, 1) := by decide +kernel
theorem dX6_orders_46 : decode cX6_orders 46 = .ok (.bipush 30, 2) := by decide +kernel
theorem dX6_orders_48 : decode cX6_orders 48 = .ok (.invokestatic 96, 3) := by decide +kernel
theorem dX6_orders_51 : decode cX6_orders 51 = .ok (.ifCond .eq 27, 3) := by decide +kernel
theorem dX6_orders_54 : decode cX6_orders 54 = .ok (.aload_n 0, 1) := by decide +kernel
theorem dX6_orders_55 : decode cX6_orders 55 = .ok (.getfield 66, 3) := by decide +kernel
theorem dX6_orders_58 : decode cX6_orders 58 = .ok (.iload_n 2, 1) := by decide +kernel
theorem dX6_orders_59 : decode cX6_orders 59 = .ok (.iaload, 1) := by decide +kernel
theorem dX6_orders_60 : decode cX6_orders 60 = .ok (.iload_n 3, 1) := by decide +kernel
theorem dX6_orders_61 : decode cX6_orders 61 = .ok (.ishr, 1) := by decide +kernel
theorem dX6_orders_62 : decode cX6_orders 62 = .ok (.iconst 1, 1) := by decide +kernel
theorem dX6_orders_63 : decode cX6_orders 63 = .ok (.iand, 1) := by decide +kernel
theorem dX6_orders_64 : decode cX6_orders 64 = .ok (.iload_n 1, 1) := by decide +kernel
theorem dX6_orders_65 : decode cX6_orders 65 = .ok (.bipush 16, 2) := by decide +kernel
theorem dX6_orders_67 : decode cX6_orders 67 = .ok (.if_icmp .ne 7, 3) := by decide +kernel
theorem dX6_orders_70 : decode cX6_orders 70 = .ok (.iconst 1, 1) := by decide +kernel
theorem dX6_orders_71 : decode cX6_orders 71 = .ok (.goto 4, 3) := by decide +kernel
theorem dX6_orders_74 : decode cX6_orders 74 = .ok (.iconst 0, 1) := by decide +kernel
theorem dX6_orders_75 : decode cX6_orders 75 = .ok (.if_icmp .ne 5, 3) := by decide +kernel
theorem dX6_orders_78 : decode cX6_orders 78 = .ok (.iconst 0, 1) := by decide +kernel
theorem dX6_orders_79 : decode cX6_orders 79 = .ok (.ireturn, 1) := by decide +kernel
theorem dX6_orders_80 : decode cX6_orders 80 = .ok (.aload_n 0, 1) := by decide +kernel
theorem dX6_orders_81 : decode cX6_orders 81 = .ok (.getfield 66, 3) := by decide +kernel
theorem dX6_orders_84 : decode cX6_orders 84 = .ok (.iload_n 2, 1) := by decide +kernel
theorem dX6_orders_85 : decode cX6_orders 85 = .ok (.dup2, 1) := by decide +kernel
theorem dX6_orders_86 : decode cX6_orders 86 = .ok (.iaload, 1) := by decide +kernel
theorem dX6_orders_87 : decode cX6_orders 87 = .ok (.iconst 1, 1) := by decide +kernel
theorem dX6_orders_88 : decode cX6_orders 88 = .ok (.iload_n 3, 1) := by decide +kernel
theorem dX6_orders_89 : decode cX6_orders 89 = .ok (.ishl, 1) := by decide +kernel
theorem dX6_orders_90 : decode cX6_orders 90 = .ok (.ixor, 1) := by decide +kernel
theorem dX6_orders_91 : decode cX6_orders 91 = .ok (.iastore, 1) := by decide +kernel
theorem dX6_orders_92 : decode cX6_orders 92 = .ok (.iconst 1, 1) := by decide +kernel
theorem dX6_orders_93 : decode cX6_orders 93 = .ok (.ireturn, 1) := by decide +kernel
theorem dX6_isOf_0 : decode cX6_isOf 0 = .ok (.iload_n 1, 1) := by decide +kernel
theorem dX6_isOf_1 : decode cX6_isOf 1 = .ok (.istore_n 3, 1) := by decide +kernel
theorem dX6_isOf_2 : decode cX6_isOf 2 = .ok (.iload_n 3, 1) := by decide +kernel
theorem dX6_isOf_3 : decode cX6_isOf 3 = .ok (.ifCond .lt 18, 3) := by decide +kernel
theorem dX6_isOf_6 : decode cX6_isOf 6 = .ok (.iload_n 3, 1) := by decide +kernel
theorem dX6_isOf_7 : decode cX6_isOf 7 = .ok (.iload_n 2, 1) := by decide +kernel
theorem dX6_isOf_8 : decode cX6_isOf 8 = .ok (.if_icmp .eq 13, 3) := by decide +kernel
theorem dX6_isOf_11 : decode cX6_isOf 11 = .ok (.aload_n 0, 1) := by decide +kernel
theorem dX6_isOf_12 : decode cX6_isOf 12 = .ok (.getfield 69, 3) := by decide +kernel
theorem dX6_isOf_15 : decode cX6_isOf 15 = .ok (.iload_n 3, 1) := by decide +kernel
theorem dX6_isOf_16 : decode cX6_isOf 16 = .ok (.iaload, 1) := by decide +kernel
theorem dX6_isOf_17 : decode cX6_isOf 17 = .ok (.istore_n 3, 1) := by decide +kernel
theorem dX6_isOf_18 : decode cX6_isOf 18 = .ok (.goto (-16), 3) := by decide +kernel
theorem dX6_isOf_21 : decode cX6_isOf 21 = .ok (.iload_n 3, 1) := by decide +kernel
theorem dX6_isOf_22 : decode cX6_isOf 22 = .ok (.iload_n 2, 1) := by decide +kernel
theorem dX6_isOf_23 : decode cX6_isOf 23 = .ok (.if_icmp .ne 7, 3) := by decide +kernel
theorem dX6_isOf_26 : decode cX6_isOf 26 = .ok (.iconst 1, 1) := by decide +kernel
theorem dX6_isOf_27 : decode cX6_isOf 27 = .ok (.goto 4, 3) := by decide +kernel
theorem dX6_isOf_30 : decode cX6_isOf 30 = .ok (.iconst 0, 1) := by decide +kernel
theorem dX6_isOf_31 : decode cX6_isOf 31 = .ok (.ireturn, 1) := by decide +kernel
theorem dX6_isDestroyed_0 : decode cX6_isDestroyed 0 = .ok (.aload_n 0, 1) := by decide +kernel
theorem dX6_isDestroyed_1 : decode cX6_isDestroyed 1 = .ok (.iload_n 2, 1) := by decide +kernel
theorem dX6_isDestroyed_2 : decode cX6_isDestroyed 2 = .ok (.iload_n 3, 1) := by decide +kernel
theorem dX6_isDestroyed_3 : decode cX6_isDestroyed 3 = .ok (.iconst 1, 1) := by decide +kernel
theorem dX6_isDestroyed_4 : decode cX6_isDestroyed 4 = .ok (.invokevirtual 139, 3) := by decide +kernel
theorem dX6_isDestroyed_7 : decode cX6_isDestroyed 7 = .ok (.ifCond .eq 24, 3) := by decide +kernel
theorem dX6_isDestroyed_10 : decode cX6_isDestroyed 10 = .ok (.aload_n 0, 1) := by decide +kernel
theorem dX6_isDestroyed_11 : decode cX6_isDestroyed 11 = .ok (.iload 4, 2) := by decide +kernel
theorem dX6_isDestroyed_13 : decode cX6_isDestroyed 13 = .ok (.invokevirtual 143, 3) := by decide +kernel
theorem dX6_isDestroyed_16 : decode cX6_isDestroyed 16 = .ok (.ifCond .eq 15, 3) := by decide +kernel
theorem dX6_isDestroyed_19 : decode cX6_isDestroyed 19 = .ok (.iload 4, 2) := by decide +kernel
theorem dX6_isDestroyed_21 : decode cX6_isDestroyed 21 = .ok (.iload_n 2, 1) := by decide +kernel
theorem dX6_isDestroyed_22 : decode cX6_isDestroyed 22 = .ok (.if_icmp .eq 9, 3) := by decide +kernel
theorem dX6_isDestroyed_25 : decode cX6_isDestroyed 25 = .ok (.iload 4, 2) := by decide +kernel
theorem dX6_isDestroyed_27 : decode cX6_isDestroyed 27 = .ok (.iload_n 3, 1) := by decide +kernel
theorem dX6_isDestroyed_28 : decode cX6_isDestroyed 28 = .ok (.if_icmp .ne 5, 3) := by decide +kernel
theorem dX6_isDestroyed_31 : decode cX6_isDestroyed 31 = .ok (.iconst 0, 1) := by decide +kernel
theorem dX6_isDestroyed_32 : decode cX6_isDestroyed 32 = .ok (.ireturn, 1) := by decide +kernel
theorem dX6_isDestroyed_33 : decode cX6_isDestroyed 33 = .ok (.aload_n 0, 1) := by decide +kernel
theorem dX6_isDestroyed_34 : decode cX6_isDestroyed 34 = .ok (.getfield 45, 3) := by decide +kernel
theorem dX6_isDestroyed_37 : decode cX6_isDestroyed 37 = .ok (.iload_n 1, 1) := by decide +kernel
theorem dX6_isDestroyed_38 : decode cX6_isDestroyed 38 = .ok (.iaload, 1) := by decide +kernel
theorem dX6_isDestroyed_39 : decode cX6_isDestroyed 39 = .ok (.iconst 1, 1) := by decide +kernel
theorem dX6_isDestroyed_40 : decode cX6_isDestroyed 40 = .ok (.if_icmp .ne 40, 3) := by decide +kernel
theorem dX6_isDestroyed_43 : decode cX6_isDestroyed 43 = .ok (.aload_n 0, 1) := by decide +kernel
theorem dX6_isDestroyed_44 : decode cX6_isDestroyed 44 = .ok (.getfield 63, 3) := by decide +kernel
theorem dX6_isDestroyed_47 : decode cX6_isDestroyed 47 = .ok (.iload_n 1, 1) := by decide +kernel
theorem dX6_isDestroyed_48 : decode cX6_isDestroyed 48 = .ok (.baload, 1) := by decide +kernel
theorem dX6_isDestroyed_49 : decode cX6_isDestroyed 49 = .ok (.ifCond .eq 31, 3) := by decide +kernel
theorem dX6_isDestroyed_52 : decode cX6_isDestroyed 52 = .ok (.aload_n 0, 1) := by decide +kernel
theorem dX6_isDestroyed_53 : decode cX6_isDestroyed 53 = .ok (.getfield 60, 3) := by decide +kernel
theorem dX6_isDestroyed_56 : decode cX6_isDestroyed 56 = .ok (.iload_n 1, 1) := by decide +kernel
theorem dX6_isDestroyed_57 : decode cX6_isDestroyed 57 = .ok (.iaload, 1) := by decide +kernel
theorem dX6_isDestroyed_58 : decode cX6_isDestroyed 58 = .ok (.iload 5, 2) := by decide +kernel
theorem dX6_isDestroyed_60 : decode cX6_isDestroyed 60 = .ok (.if_icmp .gt 20, 3) := by decide +kernel
theorem dX6_isDestroyed_63 : decode cX6_isDestroyed 63 = .ok (.aload_n 0, 1) := by decide +kernel
theorem dX6_isDestroyed_64 : decode cX6_isDestroyed 64 = .ok (.getfield 66, 3) := by decide +kernel
theorem dX6_isDestroyed_67 : decode cX6_isDestroyed 67 = .ok (.iload_n 1, 1) := by decide +kernel
theorem dX6_isDestroyed_68 : decode cX6_isDestroyed 68 = .ok (.iaload, 1) := by decide +kernel
theorem dX6_isDestroyed_69 : decode cX6_isDestroyed 69 = .ok (.ifCond .ne 11, 3) := by decide +kernel
theorem dX6_isDestroyed_72 : decode cX6_isDestroyed 72 = .ok (.aload_n 0, 1) := by decide +kernel
theorem dX6_isDestroyed_73 : decode cX6_isDestroyed 73 = .ok (.iload_n 1, 1) := by decide +kernel
theorem dX6_isDestroyed_74 : decode cX6_isDestroyed 74 = .ok (.invokevirtual 168, 3) := by decide +kernel
theorem dX6_isDestroyed_77 : decode cX6_isDestroyed 77 = .ok (.ifCond .le 5, 3) := by decide +kernel
theorem dX6_isDestroyed_80 : decode cX6_isDestroyed 80 = .ok (.iconst 0, 1) := by decide +kernel
theorem dX6_isDestroyed_81 : decode cX6_isDestroyed 81 = .ok (.ireturn, 1) := by decide +kernel
theorem dX6_isDestroyed_82 : decode cX6_isDestroyed 82 = .ok (.iconst 0, 1) := by decide +kernel
theorem dX6_isDestroyed_83 : decode cX6_isDestroyed 83 = .ok (.istore 6, 2) := by decide +kernel
theorem dX6_isDestroyed_85 : decode cX6_isDestroyed 85 = .ok (.iload 6, 2) := by decide +kernel
theorem dX6_isDestroyed_87 : decode cX6_isDestroyed 87 = .ok (.aload_n 0, 1) := by decide +kernel
theorem dX6_isDestroyed_88 : decode cX6_isDestroyed 88 = .ok (.getfield 93, 3) := by decide +kernel
theorem dX6_isDestroyed_91 : decode cX6_isDestroyed 91 = .ok (.if_icmp .ge 38, 3) := by decide +kernel
theorem dX6_isDestroyed_94 : decode cX6_isDestroyed 94 = .ok (.iload 6, 2) := by decide +kernel
theorem dX6_isDestroyed_96 : decode cX6_isDestroyed 96 = .ok (.iload_n 1, 1) := by decide +kernel
theorem dX6_isDestroyed_97 : decode cX6_isDestroyed 97 = .ok (.if_icmp .eq 26, 3) := by decide +kernel
theorem dX6_isDestroyed_100 : decode cX6_isDestroyed 100 = .ok (.aload_n 0, 1) := by decide +kernel
theorem dX6_isDestroyed_101 : decode cX6_isDestroyed 101 = .ok (.getfield 45, 3) := by decide +kernel
theorem dX6_isDestroyed_104 : decode cX6_isDestroyed 104 = .ok (.iload 6, 2) := by decide +kernel
theorem dX6_isDestroyed_106 : decode cX6_isDestroyed 106 = .ok (.iaload, 1) := by decide +kernel
theorem dX6_isDestroyed_107 : decode cX6_isDestroyed 107 = .ok (.iconst 2, 1) := by decide +kernel
theorem dX6_isDestroyed_108 : decode cX6_isDestroyed 108 = .ok (.if_icmp .ne 15, 3) := by decide +kernel
theorem dX6_isDestroyed_111 : decode cX6_isDestroyed 111 = .ok (.aload_n 0, 1) := by decide +kernel
theorem dX6_isDestroyed_112 : decode cX6_isDestroyed 112 = .ok (.iload 6, 2) := by decide +kernel
theorem dX6_isDestroyed_114 : decode cX6_isDestroyed 114 = .ok (.iload_n 1, 1) := by decide +kernel
theorem dX6_isDestroyed_115 : decode cX6_isDestroyed 115 = .ok (.invokevirtual 181, 3) := by decide +kernel
theorem dX6_isDestroyed_118 : decode cX6_isDestroyed 118 = .ok (.ifCond .eq 5, 3) := by decide +kernel
theorem dX6_isDestroyed_121 : decode cX6_isDestroyed 121 = .ok (.iconst 0, 1) := by decide +kernel
theorem dX6_isDestroyed_122 : decode cX6_isDestroyed 122 = .ok (.ireturn, 1) := by decide +kernel
theorem dX6_isDestroyed_123 : decode cX6_isDestroyed 123 = .ok (.iinc 6 1, 3) := by decide +kernel
theorem dX6_isDestroyed_126 : decode cX6_isDestroyed 126 = .ok (.goto (-41), 3) := by decide +kernel
theorem dX6_isDestroyed_129 : decode cX6_isDestroyed 129 = .ok (.aload_n 0, 1) := by decide +kernel
theorem dX6_isDestroyed_130 : decode cX6_isDestroyed 130 = .ok (.iload_n 1, 1) := by decide +kernel
theorem dX6_isDestroyed_131 : decode cX6_isDestroyed 131 = .ok (.iconst 4, 1) := by decide +kernel
theorem dX6_isDestroyed_132 : decode cX6_isDestroyed 132 = .ok (.iconst (-1), 1) := by decide +kernel
theorem dX6_isDestroyed_133 : decode cX6_isDestroyed 133 = .ok (.invokevirtual 150, 3) := by decide +kernel
theorem dX6_isDestroyed_136 : decode cX6_isDestroyed 136 = .ok (.iconst 1, 1) := by decide +kernel
theorem dX6_isDestroyed_137 : decode cX6_isDestroyed 137 = .ok (.ireturn, 1) := by decide +kernel
theorem dX6_isFound_0 : decode cX6_isFound 0 = .ok (.iload_n 2, 1) := by decide +kernel
theorem dX6_isFound_1 : decode cX6_isFound 1 = .ok (.iconst (-1), 1) := by decide +kernel
theorem dX6_isFound_2 : decode cX6_isFound 2 = .ok (.if_icmp .eq 48, 3) := by decide +kernel
theorem dX6_isFound_5 : decode cX6_isFound 5 = .ok (.iload_n 3, 1) := by decide +kernel
theorem dX6_isFound_6 : decode cX6_isFound 6 = .ok (.iconst (-1), 1) := by decide +kernel
theorem dX6_isFound_7 : decode cX6_isFound 7 = .ok (.if_icmp .ne 43, 3) := by decide +kernel
theorem dX6_isFound_10 : decode cX6_isFound 10 = .ok (.aload_n 0, 1) := by decide +kernel
theorem dX6_isFound_11 : decode cX6_isFound 11 = .ok (.getfield 45, 3) := by decide +kernel
theorem dX6_isFound_14 : decode cX6_isFound 14 = .ok (.iload_n 1, 1) := by decide +kernel
theorem dX6_isFound_15 : decode cX6_isFound 15 = .ok (.iaload, 1) := by decide +kernel
theorem dX6_isFound_16 : decode cX6_isFound 16 = .ok (.iconst 1, 1) := by decide +kernel
theorem dX6_isFound_17 : decode cX6_isFound 17 = .ok (.if_icmp .ne 13, 3) := by decide +kernel
theorem dX6_isFound_20 : decode cX6_isFound 20 = .ok (.aload_n 0, 1) := by decide +kernel
theorem dX6_isFound_21 : decode cX6_isFound 21 = .ok (.getfield 48, 3) := by decide +kernel
theorem dX6_isFound_24 : decode cX6_isFound 24 = .ok (.iload_n 1, 1) := by decide +kernel
theorem dX6_isFound_25 : decode cX6_isFound 25 = .ok (.iaload, 1) := by decide +kernel
theorem dX6_isFound_26 : decode cX6_isFound 26 = .ok (.iload_n 2, 1) := by decide +kernel
theorem dX6_isFound_27 : decode cX6_isFound 27 = .ok (.if_icmp .eq 12, 3) := by decide +kernel
theorem dX6_isFound_30 : decode cX6_isFound 30 = .ok (.aload_n 0, 1) := by decide +kernel
theorem dX6_isFound_31 : decode cX6_isFound 31 = .ok (.iload_n 1, 1) := by decide +kernel
theorem dX6_isFound_32 : decode cX6_isFound 32 = .ok (.iload_n 2, 1) := by decide +kernel
theorem dX6_isFound_33 : decode cX6_isFound 33 = .ok (.invokevirtual 146, 3) := by decide +kernel
theorem dX6_isFound_36 : decode cX6_isFound 36 = .ok (.ifCond .ne 5, 3) := by decide +kernel
theorem dX6_isFound_39 : decode cX6_isFound 39 = .ok (.iconst 0, 1) := by decide +kernel
theorem dX6_isFound_40 : decode cX6_isFound 40 = .ok (.ireturn, 1) := by decide +kernel
theorem dX6_isFound_41 : decode cX6_isFound 41 = .ok (.aload_n 0, 1) := by decide +kernel
theorem dX6_isFound_42 : decode cX6_isFound 42 = .ok (.iload_n 1, 1) := by decide +kernel
theorem dX6_isFound_43 : decode cX6_isFound 43 = .ok (.iconst 1, 1) := by decide +kernel
theorem dX6_isFound_44 : decode cX6_isFound 44 = .ok (.iload_n 2, 1) := by decide +kernel
theorem dX6_isFound_45 : decode cX6_isFound 45 = .ok (.invokevirtual 150, 3) := by decide +kernel
theorem dX6_isFound_48 : decode cX6_isFound 48 = .ok (.iconst 1, 1) := by decide +kernel
theorem dX6_isFound_49 : decode cX6_isFound 49 = .ok (.ireturn, 1) := by decide +kernel
theorem dX6_isFound_50 : decode cX6_isFound 50 = .ok (.iload_n 2, 1) := by decide +kernel
theorem dX6_isFound_51 : decode cX6_isFound 51 = .ok (.iconst (-1), 1) := by decide +kernel
theorem dX6_isFound_52 : decode cX6_isFound 52 = .ok (.if_icmp .ne 31, 3) := by decide +kernel
theorem dX6_isFound_55 : decode cX6_isFound 55 = .ok (.aload_n 0, 1) := by decide +kernel
theorem dX6_isFound_56 : decode cX6_isFound 56 = .ok (.iload_n 3, 1) := by decide +kernel
theorem dX6_isFound_57 : decode cX6_isFound 57 = .ok (.invokevirtual 143, 3) := by decide +kernel
theorem dX6_isFound_60 : decode cX6_isFound 60 = .ok (.ifCond .eq 23, 3) := by decide +kernel
theorem dX6_isFound_63 : decode cX6_isFound 63 = .ok (.aload_n 0, 1) := by decide +kernel
theorem dX6_isFound_64 : decode cX6_isFound 64 = .ok (.getfield 45, 3) := by decide +kernel
theorem dX6_isFound_67 : decode cX6_isFound 67 = .ok (.iload_n 1, 1) := by decide +kernel
theorem dX6_isFound_68 : decode cX6_isFound 68 = .ok (.iaload, 1) := by decide +kernel
theorem dX6_isFound_69 : decode cX6_isFound 69 = .ok (.iconst 2, 1) := by decide +kernel
theorem dX6_isFound_70 : decode cX6_isFound 70 = .ok (.if_icmp .ne 15, 3) := by decide +kernel
theorem dX6_isFound_73 : decode cX6_isFound 73 = .ok (.aload_n 0, 1) := by decide +kernel
theorem dX6_isFound_74 : decode cX6_isFound 74 = .ok (.getfield 48, 3) := by decide +kernel
theorem dX6_isFound_77 : decode cX6_isFound 77 = .ok (.iload_n 1, 1) := by decide +kernel
theorem dX6_isFound_78 : decode cX6_isFound 78 = .ok (.iaload, 1) := by decide +kernel
theorem dX6_isFound_79 : decode cX6_isFound 79 = .ok (.iload_n 3, 1) := by decide +kernel
theorem dX6_isFound_80 : decode cX6_isFound 80 = .ok (.if_icmp .ne 5, 3) := by decide +kernel
theorem dX6_isFound_83 : decode cX6_isFound 83 = .ok (.iconst 0, 1) := by decide +kernel
theorem dX6_isFound_84 : decode cX6_isFound 84 = .ok (.ireturn, 1) := by decide +kernel
theorem dX6_isFound_85 : decode cX6_isFound 85 = .ok (.aload_n 0, 1) := by decide +kernel
theorem dX6_isFound_86 : decode cX6_isFound 86 = .ok (.iload_n 1, 1) := by decide +kernel
theorem dX6_isFound_87 : decode cX6_isFound 87 = .ok (.iconst 2, 1) := by decide +kernel
theorem dX6_isFound_88 : decode cX6_isFound 88 = .ok (.iload_n 3, 1) := by decide +kernel
theorem dX6_isFound_89 : decode cX6_isFound 89 = .ok (.invokevirtual 150, 3) := by decide +kernel
theorem dX6_isFound_92 : decode cX6_isFound 92 = .ok (.iconst 1, 1) := by decide +kernel
theorem dX6_isFound_93 : decode cX6_isFound 93 = .ok (.ireturn, 1) := by decide +kernel
theorem dX6_sort_0 : decode cX6_sort 0 = .ok (.iconst 0, 1) := by decide +kernel
theorem dX6_sort_1 : decode cX6_sort 1 = .ok (.istore_n 3, 1) := by decide +kernel
theorem dX6_sort_2 : decode cX6_sort 2 = .ok (.iload_n 3, 1) := by decide +kernel
theorem dX6_sort_3 : decode cX6_sort 3 = .ok (.iload_n 2, 1) := by decide +kernel
theorem dX6_sort_4 : decode cX6_sort 4 = .ok (.if_icmp .ge 76, 3) := by decide +kernel
theorem dX6_sort_7 : decode cX6_sort 7 = .ok (.iload_n 3, 1) := by decide +kernel
theorem dX6_sort_8 : decode cX6_sort 8 = .ok (.istore 4, 2) := by decide +kernel
theorem dX6_sort_10 : decode cX6_sort 10 = .ok (.iload 4, 2) := by decide +kernel
theorem dX6_sort_12 : decode cX6_sort 12 = .ok (.ifCond .le 54, 3) := by decide +kernel
theorem dX6_sort_15 : decode cX6_sort 15 = .ok (.aload_n 1, 1) := by decide +kernel
theorem dX6_sort_16 : decode cX6_sort 16 = .ok (.bipush 8, 2) := by decide +kernel
theorem dX6_sort_18 : decode cX6_sort 18 = .ok (.aload_n 0, 1) := by decide +kernel
theorem dX6_sort_19 : decode cX6_sort 19 = .ok (.getfield 78, 3) := by decide +kernel
theorem dX6_sort_22 : decode cX6_sort 22 = .ok (.iload 4, 2) := by decide +kernel
theorem dX6_sort_24 : decode cX6_sort 24 = .ok (.iconst 1, 1) := by decide +kernel
theorem dX6_sort_25 : decode cX6_sort 25 = .ok (.isub, 1) := by decide +kernel
theorem dX6_sort_26 : decode cX6_sort 26 = .ok (.iaload, 1) := by decide +kernel
theorem dX6_sort_27 : decode cX6_sort 27 = .ok (.imul, 1) := by decide +kernel
theorem dX6_sort_28 : decode cX6_sort 28 = .ok (.bipush 6, 2) := by decide +kernel
theorem dX6_sort_30 : decode cX6_sort 30 = .ok (.iadd, 1) := by decide +kernel
theorem dX6_sort_31 : decode cX6_sort 31 = .ok (.iaload, 1) := by decide +kernel
theorem dX6_sort_32 : decode cX6_sort 32 = .ok (.aload_n 1, 1) := by decide +kernel
theorem dX6_sort_33 : decode cX6_sort 33 = .ok (.bipush 8, 2) := by decide +kernel
theorem dX6_sort_35 : decode cX6_sort 35 = .ok (.iload_n 3, 1) := by decide +kernel
theorem dX6_sort_36 : decode cX6_sort 36 = .ok (.imul, 1) := by decide +kernel
theorem dX6_sort_37 : decode cX6_sort 37 = .ok (.bipush 6, 2) := by decide +kernel
theorem dX6_sort_39 : decode cX6_sort 39 = .ok (.iadd, 1) := by decide +kernel
theorem dX6_sort_40 : decode cX6_sort 40 = .ok (.iaload, 1) := by decide +kernel
theorem dX6_sort_41 : decode cX6_sort 41 = .ok (.if_icmp .le 25, 3) := by decide +kernel
theorem dX6_sort_44 : decode cX6_sort 44 = .ok (.aload_n 0, 1) := by decide +kernel
theorem dX6_sort_45 : decode cX6_sort 45 = .ok (.getfield 78, 3) := by decide +kernel
theorem dX6_sort_48 : decode cX6_sort 48 = .ok (.iload 4, 2) := by decide +kernel
theorem dX6_sort_50 : decode cX6_sort 50 = .ok (.aload_n 0, 1) := by decide +kernel
theorem dX6_sort_51 : decode cX6_sort 51 = .ok (.getfield 78, 3) := by decide +kernel
theorem dX6_sort_54 : decode cX6_sort 54 = .ok (.iload 4, 2) := by decide +kernel
theorem dX6_sort_56 : decode cX6_sort 56 = .ok (.iconst 1, 1) := by decide +kernel
theorem dX6_sort_57 : decode cX6_sort 57 = .ok (.isub, 1) := by decide +kernel
theorem dX6_sort_58 : decode cX6_sort 58 = .ok (.iaload, 1) := by decide +kernel
theorem dX6_sort_59 : decode cX6_sort 59 = .ok (.iastore, 1) := by decide +kernel
theorem dX6_sort_60 : decode cX6_sort 60 = .ok (.iinc 4 (-1), 3) := by decide +kernel
theorem dX6_sort_63 : decode cX6_sort 63 = .ok (.goto (-53), 3) := by decide +kernel
theorem dX6_sort_66 : decode cX6_sort 66 = .ok (.aload_n 0, 1) := by decide +kernel
theorem dX6_sort_67 : decode cX6_sort 67 = .ok (.getfield 78, 3) := by decide +kernel
theorem dX6_sort_70 : decode cX6_sort 70 = .ok (.iload 4, 2) := by decide +kernel
theorem dX6_sort_72 : decode cX6_sort 72 = .ok (.iload_n 3, 1) := by decide +kernel
theorem dX6_sort_73 : decode cX6_sort 73 = .ok (.iastore, 1) := by decide +kernel
theorem dX6_sort_74 : decode cX6_sort 74 = .ok (.iinc 3 1, 3) := by decide +kernel
theorem dX6_sort_77 : decode cX6_sort 77 = .ok (.goto (-75), 3) := by decide +kernel
theorem dX6_sort_80 : decode cX6_sort 80 = .ok (.return_, 1) := by decide +kernel
theorem dX6_isSlip_0 : decode cX6_isSlip 0 = .ok (.aload_n 1, 1) := by decide +kernel
theorem dX6_isSlip_1 : decode cX6_isSlip 1 = .ok (.bipush 8, 2) := by decide +kernel
theorem dX6_isSlip_3 : decode cX6_isSlip 3 = .ok (.iload_n 2, 1) := by decide +kernel
theorem dX6_isSlip_4 : decode cX6_isSlip 4 = .ok (.imul, 1) := by decide +kernel
theorem dX6_isSlip_5 : decode cX6_isSlip 5 = .ok (.iaload, 1) := by decide +kernel
theorem dX6_isSlip_6 : decode cX6_isSlip 6 = .ok (.iconst 1, 1) := by decide +kernel
theorem dX6_isSlip_7 : decode cX6_isSlip 7 = .ok (.bipush 19, 2) := by decide +kernel
theorem dX6_isSlip_9 : decode cX6_isSlip 9 = .ok (.invokestatic 96, 3) := by decide +kernel
theorem dX6_isSlip_12 : decode cX6_isSlip 12 = .ok (.ifCond .eq 53, 3) := by decide +kernel
theorem dX6_isSlip_15 : decode cX6_isSlip 15 = .ok (.aload_n 1, 1) := by decide +kernel
theorem dX6_isSlip_16 : decode cX6_isSlip 16 = .ok (.bipush 8, 2) := by decide +kernel
theorem dX6_isSlip_18 : decode cX6_isSlip 18 = .ok (.iload_n 2, 1) := by decide +kernel
theorem dX6_isSlip_19 : decode cX6_isSlip 19 = .ok (.imul, 1) := by decide +kernel
theorem dX6_isSlip_20 : decode cX6_isSlip 20 = .ok (.iconst 1, 1) := by decide +kernel
theorem dX6_isSlip_21 : decode cX6_isSlip 21 = .ok (.iadd, 1) := by decide +kernel
theorem dX6_isSlip_22 : decode cX6_isSlip 22 = .ok (.iaload, 1) := by decide +kernel
theorem dX6_isSlip_23 : decode cX6_isSlip 23 = .ok (.iconst 0, 1) := by decide +kernel
theorem dX6_isSlip_24 : decode cX6_isSlip 24 = .ok (.aload_n 0, 1) := by decide +kernel
theorem dX6_isSlip_25 : decode cX6_isSlip 25 = .ok (.getfield 93, 3) := by decide +kernel
theorem dX6_isSlip_28 : decode cX6_isSlip 28 = .ok (.iconst 1, 1) := by decide +kernel
theorem dX6_isSlip_29 : decode cX6_isSlip 29 = .ok (.isub, 1) := by decide +kernel
theorem dX6_isSlip_30 : decode cX6_isSlip 30 = .ok (.invokestatic 96, 3) := by decide +kernel
theorem dX6_isSlip_33 : decode cX6_isSlip 33 = .ok (.ifCond .eq 32, 3) := by decide +kernel
theorem dX6_isSlip_36 : decode cX6_isSlip 36 = .ok (.aload_n 1, 1) := by decide +kernel
theorem dX6_isSlip_37 : decode cX6_isSlip 37 = .ok (.bipush 8, 2) := by decide +kernel
theorem dX6_isSlip_39 : decode cX6_isSlip 39 = .ok (.iload_n 2, 1) := by decide +kernel
theorem dX6_isSlip_40 : decode cX6_isSlip 40 = .ok (.imul, 1) := by decide +kernel
theorem dX6_isSlip_41 : decode cX6_isSlip 41 = .ok (.bipush 6, 2) := by decide +kernel
theorem dX6_isSlip_43 : decode cX6_isSlip 43 = .ok (.iadd, 1) := by decide +kernel
theorem dX6_isSlip_44 : decode cX6_isSlip 44 = .ok (.iaload, 1) := by decide +kernel
theorem dX6_isSlip_45 : decode cX6_isSlip 45 = .ok (.iconst 0, 1) := by decide +kernel
theorem dX6_isSlip_46 : decode cX6_isSlip 46 = .ok (.aload_n 1, 1) := by decide +kernel
theorem dX6_isSlip_47 : decode cX6_isSlip 47 = .ok (.bipush 8, 2) := by decide +kernel
theorem dX6_isSlip_49 : decode cX6_isSlip 49 = .ok (.iload_n 2, 1) := by decide +kernel
theorem dX6_isSlip_50 : decode cX6_isSlip 50 = .ok (.imul, 1) := by decide +kernel
theorem dX6_isSlip_51 : decode cX6_isSlip 51 = .ok (.bipush 7, 2) := by decide +kernel
theorem dX6_isSlip_53 : decode cX6_isSlip 53 = .ok (.iadd, 1) := by decide +kernel
theorem dX6_isSlip_54 : decode cX6_isSlip 54 = .ok (.iaload, 1) := by decide +kernel
theorem dX6_isSlip_55 : decode cX6_isSlip 55 = .ok (.invokestatic 96, 3) := by decide +kernel
theorem dX6_isSlip_58 : decode cX6_isSlip 58 = .ok (.ifCond .eq 7, 3) := by decide +kernel
theorem dX6_isSlip_61 : decode cX6_isSlip 61 = .ok (.iconst 1, 1) := by decide +kernel
theorem dX6_isSlip_62 : decode cX6_isSlip 62 = .ok (.goto 4, 3) := by decide +kernel
theorem dX6_isSlip_65 : decode cX6_isSlip 65 = .ok (.iconst 0, 1) := by decide +kernel
theorem dX6_isSlip_66 : decode cX6_isSlip 66 = .ok (.ireturn, 1) := by decide +kernel
theorem dX6_firstWrong_0 : decode cX6_firstWrong 0 = .ok (.aload_n 0, 1) := by decide +kernel
theorem dX6_firstWrong_1 : decode cX6_firstWrong 1 = .ok (.aload_n 1, 1) := by decide +kernel
theorem dX6_firstWrong_2 : decode cX6_firstWrong 2 = .ok (.iload_n 2, 1) := by decide +kernel
theorem dX6_firstWrong_3 : decode cX6_firstWrong 3 = .ok (.invokevirtual 184, 3) := by decide +kernel
theorem dX6_firstWrong_6 : decode cX6_firstWrong 6 = .ok (.aload_n 0, 1) := by decide +kernel
theorem dX6_firstWrong_7 : decode cX6_firstWrong 7 = .ok (.invokevirtual 90, 3) := by decide +kernel
theorem dX6_firstWrong_10 : decode cX6_firstWrong 10 = .ok (.iconst 0, 1) := by decide +kernel
theorem dX6_firstWrong_11 : decode cX6_firstWrong 11 = .ok (.istore_n 3, 1) := by decide +kernel
theorem dX6_firstWrong_12 : decode cX6_firstWrong 12 = .ok (.iload_n 3, 1) := by decide +kernel
theorem dX6_firstWrong_13 : decode cX6_firstWrong 13 = .ok (.iload_n 2, 1) := by decide +kernel
theorem dX6_firstWrong_14 : decode cX6_firstWrong 14 = .ok (.if_icmp .ge 44, 3) := by decide +kernel
theorem dX6_firstWrong_17 : decode cX6_firstWrong 17 = .ok (.aload_n 0, 1) := by decide +kernel
theorem dX6_firstWrong_18 : decode cX6_firstWrong 18 = .ok (.aload_n 1, 1) := by decide +kernel
theorem dX6_firstWrong_19 : decode cX6_firstWrong 19 = .ok (.aload_n 0, 1) := by decide +kernel
theorem dX6_firstWrong_20 : decode cX6_firstWrong 20 = .ok (.getfield 78, 3) := by decide +kernel
theorem dX6_firstWrong_23 : decode cX6_firstWrong 23 = .ok (.iload_n 3, 1) := by decide +kernel
theorem dX6_firstWrong_24 : decode cX6_firstWrong 24 = .ok (.iaload, 1) := by decide +kernel
theorem dX6_firstWrong_25 : decode cX6_firstWrong 25 = .ok (.invokevirtual 188, 3) := by decide +kernel
theorem dX6_firstWrong_28 : decode cX6_firstWrong 28 = .ok (.ifCond .eq 17, 3) := by decide +kernel
theorem dX6_firstWrong_31 : decode cX6_firstWrong 31 = .ok (.aload_n 0, 1) := by decide +kernel
theorem dX6_firstWrong_32 : decode cX6_firstWrong 32 = .ok (.aload_n 1, 1) := by decide +kernel
theorem dX6_firstWrong_33 : decode cX6_firstWrong 33 = .ok (.aload_n 0, 1) := by decide +kernel
theorem dX6_firstWrong_34 : decode cX6_firstWrong 34 = .ok (.getfield 78, 3) := by decide +kernel
theorem dX6_firstWrong_37 : decode cX6_firstWrong 37 = .ok (.iload_n 3, 1) := by decide +kernel
theorem dX6_firstWrong_38 : decode cX6_firstWrong 38 = .ok (.iaload, 1) := by decide +kernel
theorem dX6_firstWrong_39 : decode cX6_firstWrong 39 = .ok (.invokevirtual 192, 3) := by decide +kernel
theorem dX6_firstWrong_42 : decode cX6_firstWrong 42 = .ok (.ifCond .ne 10, 3) := by decide +kernel
theorem dX6_firstWrong_45 : decode cX6_firstWrong 45 = .ok (.aload_n 0, 1) := by decide +kernel
theorem dX6_firstWrong_46 : decode cX6_firstWrong 46 = .ok (.getfield 78, 3) := by decide +kernel
theorem dX6_firstWrong_49 : decode cX6_firstWrong 49 = .ok (.iload_n 3, 1) := by decide +kernel
theorem dX6_firstWrong_50 : decode cX6_firstWrong 50 = .ok (.iaload, 1) := by decide +kernel
theorem dX6_firstWrong_51 : decode cX6_firstWrong 51 = .ok (.ireturn, 1) := by decide +kernel
theorem dX6_firstWrong_52 : decode cX6_firstWrong 52 = .ok (.iinc 3 1, 3) := by decide +kernel
theorem dX6_firstWrong_55 : decode cX6_firstWrong 55 = .ok (.goto (-43), 3) := by decide +kernel
theorem dX6_firstWrong_58 : decode cX6_firstWrong 58 = .ok (.iconst (-1), 1) := by decide +kernel
theorem dX6_firstWrong_59 : decode cX6_firstWrong 59 = .ok (.ireturn, 1) := by decide +kernel
theorem dX6_goOver_0 : decode cX6_goOver 0 = .ok (.aload_n 0, 1) := by decide +kernel
theorem dX6_goOver_1 : decode cX6_goOver 1 = .ok (.aload_n 0, 1) := by decide +kernel
theorem dX6_goOver_2 : decode cX6_goOver 2 = .ok (.getfield 30, 3) := by decide +kernel
theorem dX6_goOver_5 : decode cX6_goOver 5 = .ok (.aload_n 0, 1) := by decide +kernel
theorem dX6_goOver_6 : decode cX6_goOver 6 = .ok (.getfield 195, 3) := by decide +kernel
theorem dX6_goOver_9 : decode cX6_goOver 9 = .ok (.invokevirtual 184, 3) := by decide +kernel
theorem dX6_goOver_12 : decode cX6_goOver 12 = .ok (.aload_n 0, 1) := by decide +kernel
theorem dX6_goOver_13 : decode cX6_goOver 13 = .ok (.invokevirtual 90, 3) := by decide +kernel
theorem dX6_goOver_16 : decode cX6_goOver 16 = .ok (.iconst 0, 1) := by decide +kernel
theorem dX6_goOver_17 : decode cX6_goOver 17 = .ok (.istore_n 3, 1) := by decide +kernel
theorem dX6_goOver_18 : decode cX6_goOver 18 = .ok (.iload_n 3, 1) := by decide +kernel
theorem dX6_goOver_19 : decode cX6_goOver 19 = .ok (.aload_n 0, 1) := by decide +kernel
theorem dX6_goOver_20 : decode cX6_goOver 20 = .ok (.getfield 195, 3) := by decide +kernel
theorem dX6_goOver_23 : decode cX6_goOver 23 = .ok (.if_icmp .ge 66, 3) := by decide +kernel
theorem dX6_goOver_26 : decode cX6_goOver 26 = .ok (.aload_n 0, 1) := by decide +kernel
theorem dX6_goOver_27 : decode cX6_goOver 27 = .ok (.getfield 30, 3) := by decide +kernel
theorem dX6_goOver_30 : decode cX6_goOver 30 = .ok (.bipush 8, 2) := by decide +kernel
theorem dX6_goOver_32 : decode cX6_goOver 32 = .ok (.aload_n 0, 1) := by decide +kernel
theorem dX6_goOver_33 : decode cX6_goOver 33 = .ok (.getfield 78, 3) := by decide +kernel
theorem dX6_goOver_36 : decode cX6_goOver 36 = .ok (.iload_n 3, 1) := by decide +kernel
theorem dX6_goOver_37 : decode cX6_goOver 37 = .ok (.iaload, 1) := by decide +kernel
theorem dX6_goOver_38 : decode cX6_goOver 38 = .ok (.imul, 1) := by decide +kernel
theorem dX6_goOver_39 : decode cX6_goOver 39 = .ok (.bipush 6, 2) := by decide +kernel
theorem dX6_goOver_41 : decode cX6_goOver 41 = .ok (.iadd, 1) := by decide +kernel
theorem dX6_goOver_42 : decode cX6_goOver 42 = .ok (.iaload, 1) := by decide +kernel
theorem dX6_goOver_43 : decode cX6_goOver 43 = .ok (.iload_n 1, 1) := by decide +kernel
theorem dX6_goOver_44 : decode cX6_goOver 44 = .ok (.if_icmp .gt 39, 3) := by decide +kernel
theorem dX6_goOver_47 : decode cX6_goOver 47 = .ok (.aload_n 0, 1) := by decide +kernel
theorem dX6_goOver_48 : decode cX6_goOver 48 = .ok (.getfield 30, 3) := by decide +kernel
theorem dX6_goOver_51 : decode cX6_goOver 51 = .ok (.bipush 8, 2) := by decide +kernel
theorem dX6_goOver_53 : decode cX6_goOver 53 = .ok (.aload_n 0, 1) := by decide +kernel
theorem dX6_goOver_54 : decode cX6_goOver 54 = .ok (.getfield 78, 3) := by decide +kernel
theorem dX6_goOver_57 : decode cX6_goOver 57 = .ok (.iload_n 3, 1) := by decide +kernel
theorem dX6_goOver_58 : decode cX6_goOver 58 = .ok (.iaload, 1) := by decide +kernel
theorem dX6_goOver_59 : decode cX6_goOver 59 = .ok (.imul, 1) := by decide +kernel
theorem dX6_goOver_60 : decode cX6_goOver 60 = .ok (.bipush 7, 2) := by decide +kernel
theorem dX6_goOver_62 : decode cX6_goOver 62 = .ok (.iadd, 1) := by decide +kernel
theorem dX6_goOver_63 : decode cX6_goOver 63 = .ok (.iaload, 1) := by decide +kernel
theorem dX6_goOver_64 : decode cX6_goOver 64 = .ok (.iload_n 2, 1) := by decide +kernel
theorem dX6_goOver_65 : decode cX6_goOver 65 = .ok (.if_icmp .gt 18, 3) := by decide +kernel
theorem dX6_goOver_68 : decode cX6_goOver 68 = .ok (.aload_n 0, 1) := by decide +kernel
theorem dX6_goOver_69 : decode cX6_goOver 69 = .ok (.aload_n 0, 1) := by decide +kernel
theorem dX6_goOver_70 : decode cX6_goOver 70 = .ok (.getfield 30, 3) := by decide +kernel
theorem dX6_goOver_73 : decode cX6_goOver 73 = .ok (.aload_n 0, 1) := by decide +kernel
theorem dX6_goOver_74 : decode cX6_goOver 74 = .ok (.getfield 78, 3) := by decide +kernel
theorem dX6_goOver_77 : decode cX6_goOver 77 = .ok (.iload_n 3, 1) := by decide +kernel
theorem dX6_goOver_78 : decode cX6_goOver 78 = .ok (.iaload, 1) := by decide +kernel
theorem dX6_goOver_79 : decode cX6_goOver 79 = .ok (.invokevirtual 192, 3) := by decide +kernel
theorem dX6_goOver_82 : decode cX6_goOver 82 = .ok (.pop, 1) := by decide +kernel
theorem dX6_goOver_83 : decode cX6_goOver 83 = .ok (.iinc 3 1, 3) := by decide +kernel
theorem dX6_goOver_86 : decode cX6_goOver 86 = .ok (.goto (-68), 3) := by decide +kernel
theorem dX6_goOver_89 : decode cX6_goOver 89 = .ok (.return_, 1) := by decide +kernel
theorem dX6_goOverAll_0 : decode cX6_goOverAll 0 = .ok (.aload_n 0, 1) := by decide +kernel
theorem dX6_goOverAll_1 : decode cX6_goOverAll 1 = .ok (.ldc 198, 2) := by decide +kernel
theorem dX6_goOverAll_3 : decode cX6_goOverAll 3 = .ok (.ldc 198, 2) := by decide +kernel
theorem dX6_goOverAll_5 : decode cX6_goOverAll 5 = .ok (.invokevirtual 199, 3) := by decide +kernel
theorem dX6_goOverAll_8 : decode cX6_goOverAll 8 = .ok (.return_, 1) := by decide +kernel
theorem dX6_hand_0 : decode cX6_hand 0 = .ok (.aload_n 0, 1) := by decide +kernel
theorem dX6_hand_1 : decode cX6_hand 1 = .ok (.getfield 100, 3) := by decide +kernel
theorem dX6_hand_4 : decode cX6_hand 4 = .ok (.bipush 20, 2) := by decide +kernel
theorem dX6_hand_6 : decode cX6_hand 6 = .ok (.if_icmp .ne 5, 3) := by decide +kernel
theorem dX6_hand_9 : decode cX6_hand 9 = .ok (.iconst (-1), 1) := by decide +kernel
theorem dX6_hand_10 : decode cX6_hand 10 = .ok (.ireturn, 1) := by decide +kernel
theorem dX6_hand_11 : decode cX6_hand 11 = .ok (.aload_n 0, 1) := by decide +kernel
theorem dX6_hand_12 : decode cX6_hand 12 = .ok (.getfield 13, 3) := by decide +kernel
theorem dX6_hand_15 : decode cX6_hand 15 = .ok (.aload_n 0, 1) := by decide +kernel
theorem dX6_hand_16 : decode cX6_hand 16 = .ok (.getfield 100, 3) := by decide +kernel
theorem dX6_hand_19 : decode cX6_hand 19 = .ok (.iload_n 1, 1) := by decide +kernel
theorem dX6_hand_20 : decode cX6_hand 20 = .ok (.bastore, 1) := by decide +kernel
theorem dX6_hand_21 : decode cX6_hand 21 = .ok (.aload_n 0, 1) := by decide +kernel
theorem dX6_hand_22 : decode cX6_hand 22 = .ok (.dup, 1) := by decide +kernel
theorem dX6_hand_23 : decode cX6_hand 23 = .ok (.getfield 100, 3) := by decide +kernel
theorem dX6_hand_26 : decode cX6_hand 26 = .ok (.iconst 1, 1) := by decide +kernel
theorem dX6_hand_27 : decode cX6_hand 27 = .ok (.iadd, 1) := by decide +kernel
theorem dX6_hand_28 : decode cX6_hand 28 = .ok (.putfield 100, 3) := by decide +kernel
theorem dX6_hand_31 : decode cX6_hand 31 = .ok (.aload_n 0, 1) := by decide +kernel
theorem dX6_hand_32 : decode cX6_hand 32 = .ok (.getfield 100, 3) := by decide +kernel
theorem dX6_hand_35 : decode cX6_hand 35 = .ok (.iconst 1, 1) := by decide +kernel
theorem dX6_hand_36 : decode cX6_hand 36 = .ok (.isub, 1) := by decide +kernel
theorem dX6_hand_37 : decode cX6_hand 37 = .ok (.ireturn, 1) := by decide +kernel
theorem dX6_shelf_0 : decode cX6_shelf 0 = .ok (.aload_n 0, 1) := by decide +kernel
theorem dX6_shelf_1 : decode cX6_shelf 1 = .ok (.getfield 103, 3) := by decide +kernel
theorem dX6_shelf_4 : decode cX6_shelf 4 = .ok (.bipush 8, 2) := by decide +kernel
theorem dX6_shelf_6 : decode cX6_shelf 6 = .ok (.if_icmp .ne 5, 3) := by decide +kernel
theorem dX6_shelf_9 : decode cX6_shelf 9 = .ok (.iconst (-1), 1) := by decide +kernel
theorem dX6_shelf_10 : decode cX6_shelf 10 = .ok (.ireturn, 1) := by decide +kernel
theorem dX6_shelf_11 : decode cX6_shelf 11 = .ok (.aload_n 0, 1) := by decide +kernel
theorem dX6_shelf_12 : decode cX6_shelf 12 = .ok (.getfield 17, 3) := by decide +kernel
theorem dX6_shelf_15 : decode cX6_shelf 15 = .ok (.aload_n 0, 1) := by decide +kernel
theorem dX6_shelf_16 : decode cX6_shelf 16 = .ok (.getfield 103, 3) := by decide +kernel
theorem dX6_shelf_19 : decode cX6_shelf 19 = .ok (.iload_n 1, 1) := by decide +kernel
theorem dX6_shelf_20 : decode cX6_shelf 20 = .ok (.bastore, 1) := by decide +kernel
theorem dX6_shelf_21 : decode cX6_shelf 21 = .ok (.aload_n 0, 1) := by decide +kernel
theorem dX6_shelf_22 : decode cX6_shelf 22 = .ok (.dup, 1) := by decide +kernel
theorem dX6_shelf_23 : decode cX6_shelf 23 = .ok (.getfield 103, 3) := by decide +kernel
theorem dX6_shelf_26 : decode cX6_shelf 26 = .ok (.iconst 1, 1) := by decide +kernel
theorem dX6_shelf_27 : decode cX6_shelf 27 = .ok (.iadd, 1) := by decide +kernel
theorem dX6_shelf_28 : decode cX6_shelf 28 = .ok (.putfield 103, 3) := by decide +kernel
theorem dX6_shelf_31 : decode cX6_shelf 31 = .ok (.aload_n 0, 1) := by decide +kernel
theorem dX6_shelf_32 : decode cX6_shelf 32 = .ok (.getfield 103, 3) := by decide +kernel
theorem dX6_shelf_35 : decode cX6_shelf 35 = .ok (.iconst 1, 1) := by decide +kernel
theorem dX6_shelf_36 : decode cX6_shelf 36 = .ok (.isub, 1) := by decide +kernel
theorem dX6_shelf_37 : decode cX6_shelf 37 = .ok (.ireturn, 1) := by decide +kernel
theorem dX6_seals_0 : decode cX6_seals 0 = .ok (.iload_n 1, 1) := by decide +kernel
theorem dX6_seals_1 : decode cX6_seals 1 = .ok (.iconst 0, 1) := by decide +kernel
theorem dX6_seals_2 : decode cX6_seals 2 = .ok (.iconst 5, 1) := by decide +kernel
theorem dX6_seals_3 : decode cX6_seals 3 = .ok (.invokestatic 96, 3) := by decide +kernel
theorem dX6_seals_6 : decode cX6_seals 6 = .ok (.ifCond .eq 13, 3) := by decide +kernel
theorem dX6_seals_9 : decode cX6_seals 9 = .ok (.iload_n 2, 1) := by decide +kernel
theorem dX6_seals_10 : decode cX6_seals 10 = .ok (.iconst (-1), 1) := by decide +kernel
theorem dX6_seals_11 : decode cX6_seals 11 = .ok (.bipush 50, 2) := by decide +kernel
theorem dX6_seals_13 : decode cX6_seals 13 = .ok (.invokestatic 96, 3) := by decide +kernel
theorem dX6_seals_16 : decode cX6_seals 16 = .ok (.ifCond .ne 5, 3) := by decide +kernel
theorem dX6_seals_19 : decode cX6_seals 19 = .ok (.iconst 0, 1) := by decide +kernel
theorem dX6_seals_20 : decode cX6_seals 20 = .ok (.ireturn, 1) := by decide +kernel
theorem dX6_seals_21 : decode cX6_seals 21 = .ok (.iconst 0, 1) := by decide +kernel
theorem dX6_seals_22 : decode cX6_seals 22 = .ok (.istore_n 3, 1) := by decide +kernel
theorem dX6_seals_23 : decode cX6_seals 23 = .ok (.iload_n 3, 1) := by decide +kernel
theorem dX6_seals_24 : decode cX6_seals 24 = .ok (.aload_n 0, 1) := by decide +kernel
theorem dX6_seals_25 : decode cX6_seals 25 = .ok (.getfield 195, 3) := by decide +kernel
theorem dX6_seals_28 : decode cX6_seals 28 = .ok (.if_icmp .ge 61, 3) := by decide +kernel
theorem dX6_seals_31 : decode cX6_seals 31 = .ok (.aload_n 0, 1) := by decide +kernel
theorem dX6_seals_32 : decode cX6_seals 32 = .ok (.getfield 30, 3) := by decide +kernel
theorem dX6_seals_35 : decode cX6_seals 35 = .ok (.bipush 8, 2) := by decide +kernel
theorem dX6_seals_37 : decode cX6_seals 37 = .ok (.iload_n 3, 1) := by decide +kernel
theorem dX6_seals_38 : decode cX6_seals 38 = .ok (.imul, 1) := by decide +kernel
theorem dX6_seals_39 : decode cX6_seals 39 = .ok (.iaload, 1) := by decide +kernel
theorem dX6_seals_40 : decode cX6_seals 40 = .ok (.bipush 8, 2) := by decide +kernel
theorem dX6_seals_42 : decode cX6_seals 42 = .ok (.if_icmp .ne 41, 3) := by decide +kernel
theorem dX6_seals_45 : decode cX6_seals 45 = .ok (.aload_n 0, 1) := by decide +kernel
theorem dX6_seals_46 : decode cX6_seals 46 = .ok (.getfield 30, 3) := by decide +kernel
theorem dX6_seals_49 : decode cX6_seals 49 = .ok (.bipush 8, 2) := by decide +kernel
theorem dX6_seals_51 : decode cX6_seals 51 = .ok (.iload_n 3, 1) := by decide +kernel
theorem dX6_seals_52 : decode cX6_seals 52 = .ok (.imul, 1) := by decide +kernel
theorem dX6_seals_53 : decode cX6_seals 53 = .ok (.iconst 4, 1) := by decide +kernel
theorem dX6_seals_54 : decode cX6_seals 54 = .ok (.iadd, 1) := by decide +kernel
theorem dX6_seals_55 : decode cX6_seals 55 = .ok (.iaload, 1) := by decide +kernel
theorem dX6_seals_56 : decode cX6_seals 56 = .ok (.bipush 100, 2) := by decide +kernel
theorem dX6_seals_58 : decode cX6_seals 58 = .ok (.idiv, 1) := by decide +kernel
theorem dX6_seals_59 : decode cX6_seals 59 = .ok (.iload_n 1, 1) := by decide +kernel
theorem dX6_seals_60 : decode cX6_seals 60 = .ok (.if_icmp .ne 23, 3) := by decide +kernel
theorem dX6_seals_63 : decode cX6_seals 63 = .ok (.aload_n 0, 1) := by decide +kernel
theorem dX6_seals_64 : decode cX6_seals 64 = .ok (.getfield 30, 3) := by decide +kernel
theorem dX6_seals_67 : decode cX6_seals 67 = .ok (.bipush 8, 2) := by decide +kernel
theorem dX6_seals_69 : decode cX6_seals 69 = .ok (.iload_n 3, 1) := by decide +kernel
theorem dX6_seals_70 : decode cX6_seals 70 = .ok (.imul, 1) := by decide +kernel
theorem dX6_seals_71 : decode cX6_seals 71 = .ok (.iconst 4, 1) := by decide +kernel
theorem dX6_seals_72 : decode cX6_seals 72 = .ok (.iadd, 1) := by decide +kernel
theorem dX6_seals_73 : decode cX6_seals 73 = .ok (.iaload, 1) := by decide +kernel
theorem dX6_seals_74 : decode cX6_seals 74 = .ok (.bipush 100, 2) := by decide +kernel
theorem dX6_seals_76 : decode cX6_seals 76 = .ok (.irem, 1) := by decide +kernel
theorem dX6_seals_77 : decode cX6_seals 77 = .ok (.iload_n 2, 1) := by decide +kernel
theorem dX6_seals_78 : decode cX6_seals 78 = .ok (.if_icmp .lt 5, 3) := by decide +kernel
theorem dX6_seals_81 : decode cX6_seals 81 = .ok (.iconst 0, 1) := by decide +kernel
theorem dX6_seals_82 : decode cX6_seals 82 = .ok (.ireturn, 1) := by decide +kernel
theorem dX6_seals_83 : decode cX6_seals 83 = .ok (.iinc 3 1, 3) := by decide +kernel
theorem dX6_seals_86 : decode cX6_seals 86 = .ok (.goto (-63), 3) := by decide +kernel
theorem dX6_seals_89 : decode cX6_seals 89 = .ok (.aload_n 0, 1) := by decide +kernel
theorem dX6_seals_90 : decode cX6_seals 90 = .ok (.getfield 20, 3) := by decide +kernel
theorem dX6_seals_93 : decode cX6_seals 93 = .ok (.iload_n 1, 1) := by decide +kernel
theorem dX6_seals_94 : decode cX6_seals 94 = .ok (.iload_n 2, 1) := by decide +kernel
theorem dX6_seals_95 : decode cX6_seals 95 = .ok (.iastore, 1) := by decide +kernel
theorem dX6_seals_96 : decode cX6_seals 96 = .ok (.iconst 1, 1) := by decide +kernel
theorem dX6_seals_97 : decode cX6_seals 97 = .ok (.ireturn, 1) := by decide +kernel
theorem dX6_thing_0 : decode cX6_thing 0 = .ok (.iload_n 1, 1) := by decide +kernel
theorem dX6_thing_1 : decode cX6_thing 1 = .ok (.iconst 0, 1) := by decide +kernel
theorem dX6_thing_2 : decode cX6_thing 2 = .ok (.iconst 5, 1) := by decide +kernel
theorem dX6_thing_3 : decode cX6_thing 3 = .ok (.invokestatic 96, 3) := by decide +kernel
theorem dX6_thing_6 : decode cX6_thing 6 = .ok (.ifCond .eq 36, 3) := by decide +kernel
theorem dX6_thing_9 : decode cX6_thing 9 = .ok (.iload_n 2, 1) := by decide +kernel
theorem dX6_thing_10 : decode cX6_thing 10 = .ok (.iconst 0, 1) := by decide +kernel
theorem dX6_thing_11 : decode cX6_thing 11 = .ok (.iload_n 1, 1) := by decide +kernel
theorem dX6_thing_12 : decode cX6_thing 12 = .ok (.iconst 2, 1) := by decide +kernel
theorem dX6_thing_13 : decode cX6_thing 13 = .ok (.if_icmp .eq 8, 3) := by decide +kernel
theorem dX6_thing_16 : decode cX6_thing 16 = .ok (.iload_n 1, 1) := by decide +kernel
theorem dX6_thing_17 : decode cX6_thing 17 = .ok (.iconst 3, 1) := by decide +kernel
theorem dX6_thing_18 : decode cX6_thing 18 = .ok (.if_icmp .ne 7, 3) := by decide +kernel
theorem dX6_thing_21 : decode cX6_thing 21 = .ok (.iconst 0, 1) := by decide +kernel
theorem dX6_thing_22 : decode cX6_thing 22 = .ok (.goto 5, 3) := by decide +kernel
theorem dX6_thing_25 : decode cX6_thing 25 = .ok (.ldc 203, 2) := by decide +kernel
theorem dX6_thing_27 : decode cX6_thing 27 = .ok (.invokestatic 96, 3) := by decide +kernel
theorem dX6_thing_30 : decode cX6_thing 30 = .ok (.ifCond .eq 12, 3) := by decide +kernel
theorem dX6_thing_33 : decode cX6_thing 33 = .ok (.aload_n 0, 1) := by decide +kernel
theorem dX6_thing_34 : decode cX6_thing 34 = .ok (.getfield 93, 3) := by decide +kernel
theorem dX6_thing_37 : decode cX6_thing 37 = .ok (.bipush 60, 2) := by decide +kernel
theorem dX6_thing_39 : decode cX6_thing 39 = .ok (.if_icmp .ne 5, 3) := by decide +kernel
theorem dX6_thing_42 : decode cX6_thing 42 = .ok (.iconst (-1), 1) := by decide +kernel
theorem dX6_thing_43 : decode cX6_thing 43 = .ok (.ireturn, 1) := by decide +kernel
theorem dX6_thing_44 : decode cX6_thing 44 = .ok (.aload_n 0, 1) := by decide +kernel
theorem dX6_thing_45 : decode cX6_thing 45 = .ok (.getfield 24, 3) := by decide +kernel
theorem dX6_thing_48 : decode cX6_thing 48 = .ok (.aload_n 0, 1) := by decide +kernel
theorem dX6_thing_49 : decode cX6_thing 49 = .ok (.getfield 93, 3) := by decide +kernel
theorem dX6_thing_52 : decode cX6_thing 52 = .ok (.iload_n 1, 1) := by decide +kernel
theorem dX6_thing_53 : decode cX6_thing 53 = .ok (.iastore, 1) := by decide +kernel
theorem dX6_thing_54 : decode cX6_thing 54 = .ok (.aload_n 0, 1) := by decide +kernel
theorem dX6_thing_55 : decode cX6_thing 55 = .ok (.getfield 27, 3) := by decide +kernel
theorem dX6_thing_58 : decode cX6_thing 58 = .ok (.aload_n 0, 1) := by decide +kernel
theorem dX6_thing_59 : decode cX6_thing 59 = .ok (.getfield 93, 3) := by decide +kernel
theorem dX6_thing_62 : decode cX6_thing 62 = .ok (.iload_n 2, 1) := by decide +kernel
theorem dX6_thing_63 : decode cX6_thing 63 = .ok (.iastore, 1) := by decide +kernel
theorem dX6_thing_64 : decode cX6_thing 64 = .ok (.aload_n 0, 1) := by decide +kernel
theorem dX6_thing_65 : decode cX6_thing 65 = .ok (.dup, 1) := by decide +kernel
theorem dX6_thing_66 : decode cX6_thing 66 = .ok (.getfield 93, 3) := by decide +kernel
theorem dX6_thing_69 : decode cX6_thing 69 = .ok (.iconst 1, 1) := by decide +kernel
theorem dX6_thing_70 : decode cX6_thing 70 = .ok (.iadd, 1) := by decide +kernel
theorem dX6_thing_71 : decode cX6_thing 71 = .ok (.putfield 93, 3) := by decide +kernel
theorem dX6_thing_74 : decode cX6_thing 74 = .ok (.aload_n 0, 1) := by decide +kernel
theorem dX6_thing_75 : decode cX6_thing 75 = .ok (.getfield 93, 3) := by decide +kernel
theorem dX6_thing_78 : decode cX6_thing 78 = .ok (.iconst 1, 1) := by decide +kernel
theorem dX6_thing_79 : decode cX6_thing 79 = .ok (.isub, 1) := by decide +kernel
theorem dX6_thing_80 : decode cX6_thing 80 = .ok (.ireturn, 1) := by decide +kernel
theorem dX6_pass_0 : decode cX6_pass 0 = .ok (.iload_n 1, 1) := by decide +kernel
theorem dX6_pass_1 : decode cX6_pass 1 = .ok (.iconst 0, 1) := by decide +kernel
theorem dX6_pass_2 : decode cX6_pass 2 = .ok (.ldc 154, 2) := by decide +kernel
theorem dX6_pass_4 : decode cX6_pass 4 = .ok (.invokestatic 96, 3) := by decide +kernel
theorem dX6_pass_7 : decode cX6_pass 7 = .ok (.ifCond .eq 14, 3) := by decide +kernel
theorem dX6_pass_10 : decode cX6_pass 10 = .ok (.aload_n 0, 1) := by decide +kernel
theorem dX6_pass_11 : decode cX6_pass 11 = .ok (.getfield 204, 3) := by decide +kernel
theorem dX6_pass_14 : decode cX6_pass 14 = .ok (.iload_n 1, 1) := by decide +kernel
theorem dX6_pass_15 : decode cX6_pass 15 = .ok (.iadd, 1) := by decide +kernel
theorem dX6_pass_16 : decode cX6_pass 16 = .ok (.ldc 207, 2) := by decide +kernel
theorem dX6_pass_18 : decode cX6_pass 18 = .ok (.if_icmp .le 5, 3) := by decide +kernel
theorem dX6_pass_21 : decode cX6_pass 21 = .ok (.iconst (-1), 1) := by decide +kernel
theorem dX6_pass_22 : decode cX6_pass 22 = .ok (.ireturn, 1) := by decide +kernel
theorem dX6_pass_23 : decode cX6_pass 23 = .ok (.aload_n 0, 1) := by decide +kernel
theorem dX6_pass_24 : decode cX6_pass 24 = .ok (.dup, 1) := by decide +kernel
theorem dX6_pass_25 : decode cX6_pass 25 = .ok (.getfield 204, 3) := by decide +kernel
theorem dX6_pass_28 : decode cX6_pass 28 = .ok (.iload_n 1, 1) := by decide +kernel
theorem dX6_pass_29 : decode cX6_pass 29 = .ok (.iadd, 1) := by decide +kernel
theorem dX6_pass_30 : decode cX6_pass 30 = .ok (.putfield 204, 3) := by decide +kernel
theorem dX6_pass_33 : decode cX6_pass 33 = .ok (.aload_n 0, 1) := by decide +kernel
theorem dX6_pass_34 : decode cX6_pass 34 = .ok (.getfield 204, 3) := by decide +kernel
theorem dX6_pass_37 : decode cX6_pass 37 = .ok (.ireturn, 1) := by decide +kernel
theorem dX6_written_0 : decode cX6_written 0 = .ok (.bipush 8, 2) := by decide +kernel
theorem dX6_written_2 : decode cX6_written 2 = .ok (.aload_n 0, 1) := by decide +kernel
theorem dX6_written_3 : decode cX6_written 3 = .ok (.getfield 195, 3) := by decide +kernel
theorem dX6_written_6 : decode cX6_written 6 = .ok (.imul, 1) := by decide +kernel
theorem dX6_written_7 : decode cX6_written 7 = .ok (.istore 8, 2) := by decide +kernel
theorem dX6_written_9 : decode cX6_written 9 = .ok (.aload_n 0, 1) := by decide +kernel
theorem dX6_written_10 : decode cX6_written 10 = .ok (.getfield 30, 3) := by decide +kernel
theorem dX6_written_13 : decode cX6_written 13 = .ok (.iload 8, 2) := by decide +kernel
theorem dX6_written_15 : decode cX6_written 15 = .ok (.iload_n 1, 1) := by decide +kernel
theorem dX6_written_16 : decode cX6_written 16 = .ok (.iastore, 1) := by decide +kernel
theorem dX6_written_17 : decode cX6_written 17 = .ok (.aload_n 0, 1) := by decide +kernel
theorem dX6_written_18 : decode cX6_written 18 = .ok (.getfield 30, 3) := by decide +kernel
theorem dX6_written_21 : decode cX6_written 21 = .ok (.iload 8, 2) := by decide +kernel
theorem dX6_written_23 : decode cX6_written 23 = .ok (.iconst 1, 1) := by decide +kernel
theorem dX6_written_24 : decode cX6_written 24 = .ok (.iadd, 1) := by decide +kernel
theorem dX6_written_25 : decode cX6_written 25 = .ok (.iload_n 2, 1) := by decide +kernel
theorem dX6_written_26 : decode cX6_written 26 = .ok (.iastore, 1) := by decide +kernel
theorem dX6_written_27 : decode cX6_written 27 = .ok (.aload_n 0, 1) := by decide +kernel
theorem dX6_written_28 : decode cX6_written 28 = .ok (.getfield 30, 3) := by decide +kernel
theorem dX6_written_31 : decode cX6_written 31 = .ok (.iload 8, 2) := by decide +kernel
theorem dX6_written_33 : decode cX6_written 33 = .ok (.iconst 2, 1) := by decide +kernel
theorem dX6_written_34 : decode cX6_written 34 = .ok (.iadd, 1) := by decide +kernel
theorem dX6_written_35 : decode cX6_written 35 = .ok (.iload_n 3, 1) := by decide +kernel
theorem dX6_written_36 : decode cX6_written 36 = .ok (.iastore, 1) := by decide +kernel
theorem dX6_written_37 : decode cX6_written 37 = .ok (.aload_n 0, 1) := by decide +kernel
theorem dX6_written_38 : decode cX6_written 38 = .ok (.getfield 30, 3) := by decide +kernel
theorem dX6_written_41 : decode cX6_written 41 = .ok (.iload 8, 2) := by decide +kernel
theorem dX6_written_43 : decode cX6_written 43 = .ok (.iconst 3, 1) := by decide +kernel
theorem dX6_written_44 : decode cX6_written 44 = .ok (.iadd, 1) := by decide +kernel
theorem dX6_written_45 : decode cX6_written 45 = .ok (.iload 4, 2) := by decide +kernel
theorem dX6_written_47 : decode cX6_written 47 = .ok (.iastore, 1) := by decide +kernel
theorem dX6_written_48 : decode cX6_written 48 = .ok (.aload_n 0, 1) := by decide +kernel
theorem dX6_written_49 : decode cX6_written 49 = .ok (.getfield 30, 3) := by decide +kernel
theorem dX6_written_52 : decode cX6_written 52 = .ok (.iload 8, 2) := by decide +kernel
theorem dX6_written_54 : decode cX6_written 54 = .ok (.iconst 4, 1) := by decide +kernel
theorem dX6_written_55 : decode cX6_written 55 = .ok (.iadd, 1) := by decide +kernel
theorem dX6_written_56 : decode cX6_written 56 = .ok (.iload 5, 2) := by decide +kernel
theorem dX6_written_58 : decode cX6_written 58 = .ok (.iastore, 1) := by decide +kernel
theorem dX6_written_59 : decode cX6_written 59 = .ok (.aload_n 0, 1) := by decide +kernel
theorem dX6_written_60 : decode cX6_written 60 = .ok (.getfield 30, 3) := by decide +kernel
theorem dX6_written_63 : decode cX6_written 63 = .ok (.iload 8, 2) := by decide +kernel
theorem dX6_written_65 : decode cX6_written 65 = .ok (.iconst 5, 1) := by decide +kernel
theorem dX6_written_66 : decode cX6_written 66 = .ok (.iadd, 1) := by decide +kernel
theorem dX6_written_67 : decode cX6_written 67 = .ok (.iload 6, 2) := by decide +kernel
theorem dX6_written_69 : decode cX6_written 69 = .ok (.iastore, 1) := by decide +kernel
theorem dX6_written_70 : decode cX6_written 70 = .ok (.aload_n 0, 1) := by decide +kernel
theorem dX6_written_71 : decode cX6_written 71 = .ok (.getfield 30, 3) := by decide +kernel
theorem dX6_written_74 : decode cX6_written 74 = .ok (.iload 8, 2) := by decide +kernel
theorem dX6_written_76 : decode cX6_written 76 = .ok (.bipush 6, 2) := by decide +kernel
theorem dX6_written_78 : decode cX6_written 78 = .ok (.iadd, 1) := by decide +kernel
theorem dX6_written_79 : decode cX6_written 79 = .ok (.iload 7, 2) := by decide +kernel
theorem dX6_written_81 : decode cX6_written 81 = .ok (.iastore, 1) := by decide +kernel
theorem dX6_written_82 : decode cX6_written 82 = .ok (.aload_n 0, 1) := by decide +kernel
theorem dX6_written_83 : decode cX6_written 83 = .ok (.getfield 30, 3) := by decide +kernel
theorem dX6_written_86 : decode cX6_written 86 = .ok (.iload 8, 2) := by decide +kernel
theorem dX6_written_88 : decode cX6_written 88 = .ok (.bipush 7, 2) := by decide +kernel
theorem dX6_written_90 : decode cX6_written 90 = .ok (.iadd, 1) := by decide +kernel
theorem dX6_written_91 : decode cX6_written 91 = .ok (.aload_n 0, 1) := by decide +kernel
theorem dX6_written_92 : decode cX6_written 92 = .ok (.getfield 204, 3) := by decide +kernel
theorem dX6_written_95 : decode cX6_written 95 = .ok (.iastore, 1) := by decide +kernel
theorem dX6_written_96 : decode cX6_written 96 = .ok (.aload_n 0, 1) := by decide +kernel
theorem dX6_written_97 : decode cX6_written 97 = .ok (.aload_n 0, 1) := by decide +kernel
theorem dX6_written_98 : decode cX6_written 98 = .ok (.aload_n 0, 1) := by decide +kernel
theorem dX6_written_99 : decode cX6_written 99 = .ok (.getfield 30, 3) := by decide +kernel
theorem dX6_written_102 : decode cX6_written 102 = .ok (.aload_n 0, 1) := by decide +kernel
theorem dX6_written_103 : decode cX6_written 103 = .ok (.getfield 195, 3) := by decide +kernel
theorem dX6_written_106 : decode cX6_written 106 = .ok (.iconst 1, 1) := by decide +kernel
theorem dX6_written_107 : decode cX6_written 107 = .ok (.iadd, 1) := by decide +kernel
theorem dX6_written_108 : decode cX6_written 108 = .ok (.invokevirtual 208, 3) := by decide +kernel
theorem dX6_written_111 : decode cX6_written 111 = .ok (.putfield 42, 3) := by decide +kernel
theorem dX6_written_114 : decode cX6_written 114 = .ok (.aload_n 0, 1) := by decide +kernel
theorem dX6_written_115 : decode cX6_written 115 = .ok (.getfield 42, 3) := by decide +kernel
theorem dX6_written_118 : decode cX6_written 118 = .ok (.iconst (-1), 1) := by decide +kernel
theorem dX6_written_119 : decode cX6_written 119 = .ok (.if_icmp .eq 10, 3) := by decide +kernel
theorem dX6_written_122 : decode cX6_written 122 = .ok (.aload_n 0, 1) := by decide +kernel
theorem dX6_written_123 : decode cX6_written 123 = .ok (.iconst 5, 1) := by decide +kernel
theorem dX6_written_124 : decode cX6_written 124 = .ok (.putfield 39, 3) := by decide +kernel
theorem dX6_written_127 : decode cX6_written 127 = .ok (.iconst (-1), 1) := by decide +kernel
theorem dX6_written_128 : decode cX6_written 128 = .ok (.ireturn, 1) := by decide +kernel
theorem dX6_written_129 : decode cX6_written 129 = .ok (.aload_n 0, 1) := by decide +kernel
theorem dX6_written_130 : decode cX6_written 130 = .ok (.dup, 1) := by decide +kernel
theorem dX6_written_131 : decode cX6_written 131 = .ok (.getfield 195, 3) := by decide +kernel
theorem dX6_written_134 : decode cX6_written 134 = .ok (.iconst 1, 1) := by decide +kernel
theorem dX6_written_135 : decode cX6_written 135 = .ok (.iadd, 1) := by decide +kernel
theorem dX6_written_136 : decode cX6_written 136 = .ok (.putfield 195, 3) := by decide +kernel
theorem dX6_written_139 : decode cX6_written 139 = .ok (.aload_n 0, 1) := by decide +kernel
theorem dX6_written_140 : decode cX6_written 140 = .ok (.getfield 195, 3) := by decide +kernel
theorem dX6_written_143 : decode cX6_written 143 = .ok (.iconst 1, 1) := by decide +kernel
theorem dX6_written_144 : decode cX6_written 144 = .ok (.isub, 1) := by decide +kernel
theorem dX6_written_145 : decode cX6_written 145 = .ok (.ireturn, 1) := by decide +kernel
theorem dX6_slip_0 : decode cX6_slip 0 = .ok (.aload_n 0, 1) := by decide +kernel
theorem dX6_slip_1 : decode cX6_slip 1 = .ok (.iconst (-1), 1) := by decide +kernel
theorem dX6_slip_2 : decode cX6_slip 2 = .ok (.putfield 42, 3) := by decide +kernel
theorem dX6_slip_5 : decode cX6_slip 5 = .ok (.aload_n 0, 1) := by decide +kernel
theorem dX6_slip_6 : decode cX6_slip 6 = .ok (.aload_n 0, 1) := by decide +kernel
theorem dX6_slip_7 : decode cX6_slip 7 = .ok (.getfield 195, 3) := by decide +kernel
theorem dX6_slip_10 : decode cX6_slip 10 = .ok (.sipush 400, 3) := by decide +kernel
theorem dX6_slip_13 : decode cX6_slip 13 = .ok (.if_icmp .ne 7, 3) := by decide +kernel
theorem dX6_slip_16 : decode cX6_slip 16 = .ok (.iconst 1, 1) := by decide +kernel
theorem dX6_slip_17 : decode cX6_slip 17 = .ok (.goto 53, 3) := by decide +kernel
theorem dX6_slip_20 : decode cX6_slip 20 = .ok (.iload_n 1, 1) := by decide +kernel
theorem dX6_slip_21 : decode cX6_slip 21 = .ok (.iconst 1, 1) := by decide +kernel
theorem dX6_slip_22 : decode cX6_slip 22 = .ok (.bipush 19, 2) := by decide +kernel
theorem dX6_slip_24 : decode cX6_slip 24 = .ok (.invokestatic 96, 3) := by decide +kernel
theorem dX6_slip_27 : decode cX6_slip 27 = .ok (.ifCond .ne 7, 3) := by decide +kernel
theorem dX6_slip_30 : decode cX6_slip 30 = .ok (.iconst 2, 1) := by decide +kernel
theorem dX6_slip_31 : decode cX6_slip 31 = .ok (.goto 39, 3) := by decide +kernel
theorem dX6_slip_34 : decode cX6_slip 34 = .ok (.iload_n 2, 1) := by decide +kernel
theorem dX6_slip_35 : decode cX6_slip 35 = .ok (.iconst 0, 1) := by decide +kernel
theorem dX6_slip_36 : decode cX6_slip 36 = .ok (.aload_n 0, 1) := by decide +kernel
theorem dX6_slip_37 : decode cX6_slip 37 = .ok (.getfield 93, 3) := by decide +kernel
theorem dX6_slip_40 : decode cX6_slip 40 = .ok (.iconst 1, 1) := by decide +kernel
theorem dX6_slip_41 : decode cX6_slip 41 = .ok (.isub, 1) := by decide +kernel
theorem dX6_slip_42 : decode cX6_slip 42 = .ok (.invokestatic 96, 3) := by decide +kernel
theorem dX6_slip_45 : decode cX6_slip 45 = .ok (.ifCond .ne 7, 3) := by decide +kernel
theorem dX6_slip_48 : decode cX6_slip 48 = .ok (.iconst 3, 1) := by decide +kernel
theorem dX6_slip_49 : decode cX6_slip 49 = .ok (.goto 21, 3) := by decide +kernel
theorem dX6_slip_52 : decode cX6_slip 52 = .ok (.iload 7, 2) := by decide +kernel
theorem dX6_slip_54 : decode cX6_slip 54 = .ok (.iconst 0, 1) := by decide +kernel
theorem dX6_slip_55 : decode cX6_slip 55 = .ok (.aload_n 0, 1) := by decide +kernel
theorem dX6_slip_56 : decode cX6_slip 56 = .ok (.getfield 204, 3) := by decide +kernel
theorem dX6_slip_59 : decode cX6_slip 59 = .ok (.invokestatic 96, 3) := by decide +kernel
theorem dX6_slip_62 : decode cX6_slip 62 = .ok (.ifCond .ne 7, 3) := by decide +kernel
theorem dX6_slip_65 : decode cX6_slip 65 = .ok (.iconst 4, 1) := by decide +kernel
theorem dX6_slip_66 : decode cX6_slip 66 = .ok (.goto 4, 3) := by decide +kernel
theorem dX6_slip_69 : decode cX6_slip 69 = .ok (.iconst 0, 1) := by decide +kernel
theorem dX6_slip_70 : decode cX6_slip 70 = .ok (.putfield 39, 3) := by decide +kernel
theorem dX6_slip_73 : decode cX6_slip 73 = .ok (.aload_n 0, 1) := by decide +kernel
theorem dX6_slip_74 : decode cX6_slip 74 = .ok (.getfield 39, 3) := by decide +kernel
theorem dX6_slip_77 : decode cX6_slip 77 = .ok (.ifCond .eq 7, 3) := by decide +kernel
theorem dX6_slip_80 : decode cX6_slip 80 = .ok (.iconst (-1), 1) := by decide +kernel
theorem dX6_slip_81 : decode cX6_slip 81 = .ok (.goto 18, 3) := by decide +kernel
theorem dX6_slip_84 : decode cX6_slip 84 = .ok (.aload_n 0, 1) := by decide +kernel
theorem dX6_slip_85 : decode cX6_slip 85 = .ok (.iload_n 1, 1) := by decide +kernel
theorem dX6_slip_86 : decode cX6_slip 86 = .ok (.iload_n 2, 1) := by decide +kernel
theorem dX6_slip_87 : decode cX6_slip 87 = .ok (.iload_n 3, 1) := by decide +kernel
theorem dX6_slip_88 : decode cX6_slip 88 = .ok (.iload 4, 2) := by decide +kernel
theorem dX6_slip_90 : decode cX6_slip 90 = .ok (.iload 5, 2) := by decide +kernel
theorem dX6_slip_92 : decode cX6_slip 92 = .ok (.iload 6, 2) := by decide +kernel
theorem dX6_slip_94 : decode cX6_slip 94 = .ok (.iload 7, 2) := by decide +kernel
theorem dX6_slip_96 : decode cX6_slip 96 = .ok (.invokevirtual 212, 3) := by decide +kernel
theorem dX6_slip_99 : decode cX6_slip 99 = .ok (.ireturn, 1) := by decide +kernel
theorem dX6_fault_0 : decode cX6_fault 0 = .ok (.iload_n 1, 1) := by decide +kernel
theorem dX6_fault_1 : decode cX6_fault 1 = .ok (.ifCond .ne 10, 3) := by decide +kernel
theorem dX6_fault_4 : decode cX6_fault 4 = .ok (.aload_n 0, 1) := by decide +kernel
theorem dX6_fault_5 : decode cX6_fault 5 = .ok (.getfield 39, 3) := by decide +kernel
theorem dX6_fault_8 : decode cX6_fault 8 = .ok (.goto 16, 3) := by decide +kernel
theorem dX6_fault_11 : decode cX6_fault 11 = .ok (.iload_n 1, 1) := by decide +kernel
theorem dX6_fault_12 : decode cX6_fault 12 = .ok (.iconst 1, 1) := by decide +kernel
theorem dX6_fault_13 : decode cX6_fault 13 = .ok (.if_icmp .ne 10, 3) := by decide +kernel
theorem dX6_fault_16 : decode cX6_fault 16 = .ok (.aload_n 0, 1) := by decide +kernel
theorem dX6_fault_17 : decode cX6_fault 17 = .ok (.getfield 42, 3) := by decide +kernel
theorem dX6_fault_20 : decode cX6_fault 20 = .ok (.goto 4, 3) := by decide +kernel
theorem dX6_fault_23 : decode cX6_fault 23 = .ok (.iconst (-1), 1) := by decide +kernel
theorem dX6_fault_24 : decode cX6_fault 24 = .ok (.ireturn, 1) := by decide +kernel
theorem dX6_handing_0 : decode cX6_handing 0 = .ok (.iload_n 1, 1) := by decide +kernel
theorem dX6_handing_1 : decode cX6_handing 1 = .ok (.iconst 0, 1) := by decide +kernel
theorem dX6_handing_2 : decode cX6_handing 2 = .ok (.aload_n 0, 1) := by decide +kernel
theorem dX6_handing_3 : decode cX6_handing 3 = .ok (.getfield 93, 3) := by decide +kernel
theorem dX6_handing_6 : decode cX6_handing 6 = .ok (.iconst 1, 1) := by decide +kernel
theorem dX6_handing_7 : decode cX6_handing 7 = .ok (.isub, 1) := by decide +kernel
theorem dX6_handing_8 : decode cX6_handing 8 = .ok (.invokestatic 96, 3) := by decide +kernel
theorem dX6_handing_11 : decode cX6_handing 11 = .ok (.ifCond .eq 46, 3) := by decide +kernel
theorem dX6_handing_14 : decode cX6_handing 14 = .ok (.aload_n 0, 1) := by decide +kernel
theorem dX6_handing_15 : decode cX6_handing 15 = .ok (.iload_n 2, 1) := by decide +kernel
theorem dX6_handing_16 : decode cX6_handing 16 = .ok (.invokevirtual 143, 3) := by decide +kernel
theorem dX6_handing_19 : decode cX6_handing 19 = .ok (.ifCond .eq 38, 3) := by decide +kernel
theorem dX6_handing_22 : decode cX6_handing 22 = .ok (.aload_n 0, 1) := by decide +kernel
theorem dX6_handing_23 : decode cX6_handing 23 = .ok (.iload_n 3, 1) := by decide +kernel
theorem dX6_handing_24 : decode cX6_handing 24 = .ok (.invokevirtual 143, 3) := by decide +kernel
theorem dX6_handing_27 : decode cX6_handing 27 = .ok (.ifCond .eq 30, 3) := by decide +kernel
theorem dX6_handing_30 : decode cX6_handing 30 = .ok (.iload_n 2, 1) := by decide +kernel
theorem dX6_handing_31 : decode cX6_handing 31 = .ok (.iload_n 3, 1) := by decide +kernel
theorem dX6_handing_32 : decode cX6_handing 32 = .ok (.if_icmp .eq 25, 3) := by decide +kernel
theorem dX6_handing_35 : decode cX6_handing 35 = .ok (.iload 4, 2) := by decide +kernel
theorem dX6_handing_37 : decode cX6_handing 37 = .ok (.iconst 0, 1) := by decide +kernel
theorem dX6_handing_38 : decode cX6_handing 38 = .ok (.aload_n 0, 1) := by decide +kernel
theorem dX6_handing_39 : decode cX6_handing 39 = .ok (.getfield 204, 3) := by decide +kernel
theorem dX6_handing_42 : decode cX6_handing 42 = .ok (.invokestatic 96, 3) := by decide +kernel
theorem dX6_handing_45 : decode cX6_handing 45 = .ok (.ifCond .eq 12, 3) := by decide +kernel
theorem dX6_handing_48 : decode cX6_handing 48 = .ok (.aload_n 0, 1) := by decide +kernel
theorem dX6_handing_49 : decode cX6_handing 49 = .ok (.getfield 216, 3) := by decide +kernel
theorem dX6_handing_52 : decode cX6_handing 52 = .ok (.bipush 60, 2) := by decide +kernel
theorem dX6_handing_54 : decode cX6_handing 54 = .ok (.if_icmp .ne 5, 3) := by decide +kernel
theorem dX6_handing_57 : decode cX6_handing 57 = .ok (.iconst (-1), 1) := by decide +kernel
theorem dX6_handing_58 : decode cX6_handing 58 = .ok (.ireturn, 1) := by decide +kernel
theorem dX6_handing_59 : decode cX6_handing 59 = .ok (.bipush 7, 2) := by decide +kernel
theorem dX6_handing_61 : decode cX6_handing 61 = .ok (.aload_n 0, 1) := by decide +kernel
theorem dX6_handing_62 : decode cX6_handing 62 = .ok (.getfield 216, 3) := by decide +kernel
theorem dX6_handing_65 : decode cX6_handing 65 = .ok (.imul, 1) := by decide +kernel
theorem dX6_handing_66 : decode cX6_handing 66 = .ok (.istore 5, 2) := by decide +kernel
theorem dX6_handing_68 : decode cX6_handing 68 = .ok (.aload_n 0, 1) := by decide +kernel
theorem dX6_handing_69 : decode cX6_handing 69 = .ok (.getfield 36, 3) := by decide +kernel
theorem dX6_handing_72 : decode cX6_handing 72 = .ok (.iload 5, 2) := by decide +kernel
theorem dX6_handing_74 : decode cX6_handing 74 = .ok (.iload_n 1, 1) := by decide +kernel
theorem dX6_handing_75 : decode cX6_handing 75 = .ok (.iastore, 1) := by decide +kernel
theorem dX6_handing_76 : decode cX6_handing 76 = .ok (.aload_n 0, 1) := by decide +kernel
theorem dX6_handing_77 : decode cX6_handing 77 = .ok (.getfield 36, 3) := by decide +kernel
theorem dX6_handing_80 : decode cX6_handing 80 = .ok (.iload 5, 2) := by decide +kernel
theorem dX6_handing_82 : decode cX6_handing 82 = .ok (.iconst 1, 1) := by decide +kernel
theorem dX6_handing_83 : decode cX6_handing 83 = .ok (.iadd, 1) := by decide +kernel
theorem dX6_handing_84 : decode cX6_handing 84 = .ok (.iload_n 2, 1) := by decide +kernel
theorem dX6_handing_85 : decode cX6_handing 85 = .ok (.iastore, 1) := by decide +kernel
theorem dX6_handing_86 : decode cX6_handing 86 = .ok (.aload_n 0, 1) := by decide +kernel
theorem dX6_handing_87 : decode cX6_handing 87 = .ok (.getfield 36, 3) := by decide +kernel
theorem dX6_handing_90 : decode cX6_handing 90 = .ok (.iload 5, 2) := by decide +kernel
theorem dX6_handing_92 : decode cX6_handing 92 = .ok (.iconst 2, 1) := by decide +kernel
theorem dX6_handing_93 : decode cX6_handing 93 = .ok (.iadd, 1) := by decide +kernel
theorem dX6_handing_94 : decode cX6_handing 94 = .ok (.iload_n 3, 1) := by decide +kernel
theorem dX6_handing_95 : decode cX6_handing 95 = .ok (.iastore, 1) := by decide +kernel
theorem dX6_handing_96 : decode cX6_handing 96 = .ok (.aload_n 0, 1) := by decide +kernel
theorem dX6_handing_97 : decode cX6_handing 97 = .ok (.getfield 36, 3) := by decide +kernel
theorem dX6_handing_100 : decode cX6_handing 100 = .ok (.iload 5, 2) := by decide +kernel
theorem dX6_handing_102 : decode cX6_handing 102 = .ok (.iconst 3, 1) := by decide +kernel
theorem dX6_handing_103 : decode cX6_handing 103 = .ok (.iadd, 1) := by decide +kernel
theorem dX6_handing_104 : decode cX6_handing 104 = .ok (.iload 4, 2) := by decide +kernel
theorem dX6_handing_106 : decode cX6_handing 106 = .ok (.iastore, 1) := by decide +kernel
theorem dX6_handing_107 : decode cX6_handing 107 = .ok (.aload_n 0, 1) := by decide +kernel
theorem dX6_handing_108 : decode cX6_handing 108 = .ok (.getfield 36, 3) := by decide +kernel
theorem dX6_handing_111 : decode cX6_handing 111 = .ok (.iload 5, 2) := by decide +kernel
theorem dX6_handing_113 : decode cX6_handing 113 = .ok (.iconst 4, 1) := by decide +kernel
theorem dX6_handing_114 : decode cX6_handing 114 = .ok (.iadd, 1) := by decide +kernel
theorem dX6_handing_115 : decode cX6_handing 115 = .ok (.iconst (-1), 1) := by decide +kernel
theorem dX6_handing_116 : decode cX6_handing 116 = .ok (.iastore, 1) := by decide +kernel
theorem dX6_handing_117 : decode cX6_handing 117 = .ok (.aload_n 0, 1) := by decide +kernel
theorem dX6_handing_118 : decode cX6_handing 118 = .ok (.getfield 36, 3) := by decide +kernel
theorem dX6_handing_121 : decode cX6_handing 121 = .ok (.iload 5, 2) := by decide +kernel
theorem dX6_handing_123 : decode cX6_handing 123 = .ok (.iconst 5, 1) := by decide +kernel
theorem dX6_handing_124 : decode cX6_handing 124 = .ok (.iadd, 1) := by decide +kernel
theorem dX6_handing_125 : decode cX6_handing 125 = .ok (.iconst (-1), 1) := by decide +kernel
theorem dX6_handing_126 : decode cX6_handing 126 = .ok (.iastore, 1) := by decide +kernel
theorem dX6_handing_127 : decode cX6_handing 127 = .ok (.aload_n 0, 1) := by decide +kernel
theorem dX6_handing_128 : decode cX6_handing 128 = .ok (.getfield 36, 3) := by decide +kernel
theorem dX6_handing_131 : decode cX6_handing 131 = .ok (.iload 5, 2) := by decide +kernel
theorem dX6_handing_133 : decode cX6_handing 133 = .ok (.bipush 6, 2) := by decide +kernel
theorem dX6_handing_135 : decode cX6_handing 135 = .ok (.iadd, 1) := by decide +kernel
theorem dX6_handing_136 : decode cX6_handing 136 = .ok (.iconst 0, 1) := by decide +kernel
theorem dX6_handing_137 : decode cX6_handing 137 = .ok (.iastore, 1) := by decide +kernel
theorem dX6_handing_138 : decode cX6_handing 138 = .ok (.aload_n 0, 1) := by decide +kernel
theorem dX6_handing_139 : decode cX6_handing 139 = .ok (.dup, 1) := by decide +kernel
theorem dX6_handing_140 : decode cX6_handing 140 = .ok (.getfield 216, 3) := by decide +kernel
theorem dX6_handing_143 : decode cX6_handing 143 = .ok (.iconst 1, 1) := by decide +kernel
theorem dX6_handing_144 : decode cX6_handing 144 = .ok (.iadd, 1) := by decide +kernel
theorem dX6_handing_145 : decode cX6_handing 145 = .ok (.putfield 216, 3) := by decide +kernel
theorem dX6_handing_148 : decode cX6_handing 148 = .ok (.aload_n 0, 1) := by decide +kernel
theorem dX6_handing_149 : decode cX6_handing 149 = .ok (.getfield 216, 3) := by decide +kernel
theorem dX6_handing_152 : decode cX6_handing 152 = .ok (.iconst 1, 1) := by decide +kernel
theorem dX6_handing_153 : decode cX6_handing 153 = .ok (.isub, 1) := by decide +kernel
theorem dX6_handing_154 : decode cX6_handing 154 = .ok (.ireturn, 1) := by decide +kernel
end
section
theorem dX6_sayer_0 : decode cX6_sayer 0 = .ok (.iload_n 1, 1) := by decide +kernel
theorem dX6_sayer_1 : decode cX6_sayer 1 = .ok (.iconst 0, 1) := by decide +kernel
theorem dX6_sayer_2 : decode cX6_sayer 2 = .ok (.aload_n 0, 1) := by decide +kernel
theorem dX6_sayer_3 : decode cX6_sayer 3 = .ok (.getfield 216, 3) := by decide +kernel
theorem dX6_sayer_6 : decode cX6_sayer 6 = .ok (.iconst 1, 1) := by decide +kernel
theorem dX6_sayer_7 : decode cX6_sayer 7 = .ok (.isub, 1) := by decide +kernel
theorem dX6_sayer_8 : decode cX6_sayer 8 = .ok (.invokestatic 96, 3) := by decide +kernel
theorem dX6_sayer_11 : decode cX6_sayer 11 = .ok (.ifCond .eq 18, 3) := by decide +kernel
theorem dX6_sayer_14 : decode cX6_sayer 14 = .ok (.aload_n 0, 1) := by decide +kernel
theorem dX6_sayer_15 : decode cX6_sayer 15 = .ok (.getfield 36, 3) := by decide +kernel
theorem dX6_sayer_18 : decode cX6_sayer 18 = .ok (.bipush 7, 2) := by decide +kernel
theorem dX6_sayer_20 : decode cX6_sayer 20 = .ok (.iload_n 1, 1) := by decide +kernel
theorem dX6_sayer_21 : decode cX6_sayer 21 = .ok (.imul, 1) := by decide +kernel
theorem dX6_sayer_22 : decode cX6_sayer 22 = .ok (.bipush 6, 2) := by decide +kernel
theorem dX6_sayer_24 : decode cX6_sayer 24 = .ok (.iadd, 1) := by decide +kernel
theorem dX6_sayer_25 : decode cX6_sayer 25 = .ok (.iaload, 1) := by decide +kernel
theorem dX6_sayer_26 : decode cX6_sayer 26 = .ok (.ifCond .eq 5, 3) := by decide +kernel
theorem dX6_sayer_29 : decode cX6_sayer 29 = .ok (.iconst (-1), 1) := by decide +kernel
theorem dX6_sayer_30 : decode cX6_sayer 30 = .ok (.ireturn, 1) := by decide +kernel
theorem dX6_sayer_31 : decode cX6_sayer 31 = .ok (.aload_n 0, 1) := by decide +kernel
theorem dX6_sayer_32 : decode cX6_sayer 32 = .ok (.getfield 36, 3) := by decide +kernel
theorem dX6_sayer_35 : decode cX6_sayer 35 = .ok (.bipush 7, 2) := by decide +kernel
theorem dX6_sayer_37 : decode cX6_sayer 37 = .ok (.iload_n 1, 1) := by decide +kernel
theorem dX6_sayer_38 : decode cX6_sayer 38 = .ok (.imul, 1) := by decide +kernel
theorem dX6_sayer_39 : decode cX6_sayer 39 = .ok (.iconst 1, 1) := by decide +kernel
theorem dX6_sayer_40 : decode cX6_sayer 40 = .ok (.iadd, 1) := by decide +kernel
theorem dX6_sayer_41 : decode cX6_sayer 41 = .ok (.iaload, 1) := by decide +kernel
theorem dX6_sayer_42 : decode cX6_sayer 42 = .ok (.iload_n 2, 1) := by decide +kernel
theorem dX6_sayer_43 : decode cX6_sayer 43 = .ok (.if_icmp .ne 12, 3) := by decide +kernel
theorem dX6_sayer_46 : decode cX6_sayer 46 = .ok (.bipush 7, 2) := by decide +kernel
theorem dX6_sayer_48 : decode cX6_sayer 48 = .ok (.iload_n 1, 1) := by decide +kernel
theorem dX6_sayer_49 : decode cX6_sayer 49 = .ok (.imul, 1) := by decide +kernel
theorem dX6_sayer_50 : decode cX6_sayer 50 = .ok (.iconst 4, 1) := by decide +kernel
theorem dX6_sayer_51 : decode cX6_sayer 51 = .ok (.iadd, 1) := by decide +kernel
theorem dX6_sayer_52 : decode cX6_sayer 52 = .ok (.goto 28, 3) := by decide +kernel
theorem dX6_sayer_55 : decode cX6_sayer 55 = .ok (.aload_n 0, 1) := by decide +kernel
theorem dX6_sayer_56 : decode cX6_sayer 56 = .ok (.getfield 36, 3) := by decide +kernel
theorem dX6_sayer_59 : decode cX6_sayer 59 = .ok (.bipush 7, 2) := by decide +kernel
theorem dX6_sayer_61 : decode cX6_sayer 61 = .ok (.iload_n 1, 1) := by decide +kernel
theorem dX6_sayer_62 : decode cX6_sayer 62 = .ok (.imul, 1) := by decide +kernel
theorem dX6_sayer_63 : decode cX6_sayer 63 = .ok (.iconst 2, 1) := by decide +kernel
theorem dX6_sayer_64 : decode cX6_sayer 64 = .ok (.iadd, 1) := by decide +kernel
theorem dX6_sayer_65 : decode cX6_sayer 65 = .ok (.iaload, 1) := by decide +kernel
theorem dX6_sayer_66 : decode cX6_sayer 66 = .ok (.iload_n 2, 1) := by decide +kernel
theorem dX6_sayer_67 : decode cX6_sayer 67 = .ok (.if_icmp .ne 12, 3) := by decide +kernel
theorem dX6_sayer_70 : decode cX6_sayer 70 = .ok (.bipush 7, 2) := by decide +kernel
theorem dX6_sayer_72 : decode cX6_sayer 72 = .ok (.iload_n 1, 1) := by decide +kernel
theorem dX6_sayer_73 : decode cX6_sayer 73 = .ok (.imul, 1) := by decide +kernel
theorem dX6_sayer_74 : decode cX6_sayer 74 = .ok (.iconst 5, 1) := by decide +kernel
theorem dX6_sayer_75 : decode cX6_sayer 75 = .ok (.iadd, 1) := by decide +kernel
theorem dX6_sayer_76 : decode cX6_sayer 76 = .ok (.goto 4, 3) := by decide +kernel
theorem dX6_sayer_79 : decode cX6_sayer 79 = .ok (.iconst (-1), 1) := by decide +kernel
theorem dX6_sayer_80 : decode cX6_sayer 80 = .ok (.ireturn, 1) := by decide +kernel
theorem dX6_yes_0 : decode cX6_yes 0 = .ok (.aload_n 0, 1) := by decide +kernel
theorem dX6_yes_1 : decode cX6_yes 1 = .ok (.iload_n 1, 1) := by decide +kernel
theorem dX6_yes_2 : decode cX6_yes 2 = .ok (.iload_n 2, 1) := by decide +kernel
theorem dX6_yes_3 : decode cX6_yes 3 = .ok (.invokevirtual 219, 3) := by decide +kernel
theorem dX6_yes_6 : decode cX6_yes 6 = .ok (.istore 4, 2) := by decide +kernel
theorem dX6_yes_8 : decode cX6_yes 8 = .ok (.bipush 7, 2) := by decide +kernel
theorem dX6_yes_10 : decode cX6_yes 10 = .ok (.iload_n 1, 1) := by decide +kernel
theorem dX6_yes_11 : decode cX6_yes 11 = .ok (.imul, 1) := by decide +kernel
theorem dX6_yes_12 : decode cX6_yes 12 = .ok (.istore 5, 2) := by decide +kernel
theorem dX6_yes_14 : decode cX6_yes 14 = .ok (.iload 4, 2) := by decide +kernel
theorem dX6_yes_16 : decode cX6_yes 16 = .ok (.iconst (-1), 1) := by decide +kernel
theorem dX6_yes_17 : decode cX6_yes 17 = .ok (.if_icmp .eq 34, 3) := by decide +kernel
theorem dX6_yes_20 : decode cX6_yes 20 = .ok (.aload_n 0, 1) := by decide +kernel
theorem dX6_yes_21 : decode cX6_yes 21 = .ok (.getfield 36, 3) := by decide +kernel
theorem dX6_yes_24 : decode cX6_yes 24 = .ok (.iload 4, 2) := by decide +kernel
theorem dX6_yes_26 : decode cX6_yes 26 = .ok (.iaload, 1) := by decide +kernel
theorem dX6_yes_27 : decode cX6_yes 27 = .ok (.iconst (-1), 1) := by decide +kernel
theorem dX6_yes_28 : decode cX6_yes 28 = .ok (.if_icmp .ne 23, 3) := by decide +kernel
theorem dX6_yes_31 : decode cX6_yes 31 = .ok (.iload_n 3, 1) := by decide +kernel
theorem dX6_yes_32 : decode cX6_yes 32 = .ok (.aload_n 0, 1) := by decide +kernel
theorem dX6_yes_33 : decode cX6_yes 33 = .ok (.getfield 36, 3) := by decide +kernel
theorem dX6_yes_36 : decode cX6_yes 36 = .ok (.iload 5, 2) := by decide +kernel
theorem dX6_yes_38 : decode cX6_yes 38 = .ok (.iconst 3, 1) := by decide +kernel
theorem dX6_yes_39 : decode cX6_yes 39 = .ok (.iadd, 1) := by decide +kernel
theorem dX6_yes_40 : decode cX6_yes 40 = .ok (.iaload, 1) := by decide +kernel
theorem dX6_yes_41 : decode cX6_yes 41 = .ok (.aload_n 0, 1) := by decide +kernel
theorem dX6_yes_42 : decode cX6_yes 42 = .ok (.getfield 204, 3) := by decide +kernel
theorem dX6_yes_45 : decode cX6_yes 45 = .ok (.invokestatic 96, 3) := by decide +kernel
theorem dX6_yes_48 : decode cX6_yes 48 = .ok (.ifCond .ne 5, 3) := by decide +kernel
theorem dX6_yes_51 : decode cX6_yes 51 = .ok (.iconst (-1), 1) := by decide +kernel
theorem dX6_yes_52 : decode cX6_yes 52 = .ok (.ireturn, 1) := by decide +kernel
theorem dX6_yes_53 : decode cX6_yes 53 = .ok (.aload_n 0, 1) := by decide +kernel
theorem dX6_yes_54 : decode cX6_yes 54 = .ok (.getfield 36, 3) := by decide +kernel
theorem dX6_yes_57 : decode cX6_yes 57 = .ok (.iload 4, 2) := by decide +kernel
theorem dX6_yes_59 : decode cX6_yes 59 = .ok (.iload_n 3, 1) := by decide +kernel
theorem dX6_yes_60 : decode cX6_yes 60 = .ok (.iastore, 1) := by decide +kernel
theorem dX6_yes_61 : decode cX6_yes 61 = .ok (.aload_n 0, 1) := by decide +kernel
theorem dX6_yes_62 : decode cX6_yes 62 = .ok (.getfield 36, 3) := by decide +kernel
theorem dX6_yes_65 : decode cX6_yes 65 = .ok (.iload 4, 2) := by decide +kernel
theorem dX6_yes_67 : decode cX6_yes 67 = .ok (.iload 5, 2) := by decide +kernel
theorem dX6_yes_69 : decode cX6_yes 69 = .ok (.iconst 4, 1) := by decide +kernel
theorem dX6_yes_70 : decode cX6_yes 70 = .ok (.iadd, 1) := by decide +kernel
theorem dX6_yes_71 : decode cX6_yes 71 = .ok (.if_icmp .ne 10, 3) := by decide +kernel
theorem dX6_yes_74 : decode cX6_yes 74 = .ok (.iload 5, 2) := by decide +kernel
theorem dX6_yes_76 : decode cX6_yes 76 = .ok (.iconst 5, 1) := by decide +kernel
theorem dX6_yes_77 : decode cX6_yes 77 = .ok (.iadd, 1) := by decide +kernel
theorem dX6_yes_78 : decode cX6_yes 78 = .ok (.goto 7, 3) := by decide +kernel
theorem dX6_yes_81 : decode cX6_yes 81 = .ok (.iload 5, 2) := by decide +kernel
theorem dX6_yes_83 : decode cX6_yes 83 = .ok (.iconst 4, 1) := by decide +kernel
theorem dX6_yes_84 : decode cX6_yes 84 = .ok (.iadd, 1) := by decide +kernel
theorem dX6_yes_85 : decode cX6_yes 85 = .ok (.iaload, 1) := by decide +kernel
theorem dX6_yes_86 : decode cX6_yes 86 = .ok (.istore 6, 2) := by decide +kernel
theorem dX6_yes_88 : decode cX6_yes 88 = .ok (.iload 6, 2) := by decide +kernel
theorem dX6_yes_90 : decode cX6_yes 90 = .ok (.iconst (-1), 1) := by decide +kernel
theorem dX6_yes_91 : decode cX6_yes 91 = .ok (.if_icmp .ne 5, 3) := by decide +kernel
theorem dX6_yes_94 : decode cX6_yes 94 = .ok (.iconst 0, 1) := by decide +kernel
theorem dX6_yes_95 : decode cX6_yes 95 = .ok (.ireturn, 1) := by decide +kernel
theorem dX6_yes_96 : decode cX6_yes 96 = .ok (.aload_n 0, 1) := by decide +kernel
theorem dX6_yes_97 : decode cX6_yes 97 = .ok (.iconst 0, 1) := by decide +kernel
theorem dX6_yes_98 : decode cX6_yes 98 = .ok (.putfield 39, 3) := by decide +kernel
theorem dX6_yes_101 : decode cX6_yes 101 = .ok (.aload_n 0, 1) := by decide +kernel
theorem dX6_yes_102 : decode cX6_yes 102 = .ok (.iconst (-1), 1) := by decide +kernel
theorem dX6_yes_103 : decode cX6_yes 103 = .ok (.putfield 42, 3) := by decide +kernel
theorem dX6_yes_106 : decode cX6_yes 106 = .ok (.iload 6, 2) := by decide +kernel
theorem dX6_yes_108 : decode cX6_yes 108 = .ok (.iload_n 3, 1) := by decide +kernel
theorem dX6_yes_109 : decode cX6_yes 109 = .ok (.if_icmp .le 8, 3) := by decide +kernel
theorem dX6_yes_112 : decode cX6_yes 112 = .ok (.iload 6, 2) := by decide +kernel
theorem dX6_yes_114 : decode cX6_yes 114 = .ok (.goto 4, 3) := by decide +kernel
theorem dX6_yes_117 : decode cX6_yes 117 = .ok (.iload_n 3, 1) := by decide +kernel
theorem dX6_yes_118 : decode cX6_yes 118 = .ok (.istore 7, 2) := by decide +kernel
theorem dX6_yes_120 : decode cX6_yes 120 = .ok (.iload 7, 2) := by decide +kernel
theorem dX6_yes_122 : decode cX6_yes 122 = .ok (.aload_n 0, 1) := by decide +kernel
theorem dX6_yes_123 : decode cX6_yes 123 = .ok (.getfield 36, 3) := by decide +kernel
theorem dX6_yes_126 : decode cX6_yes 126 = .ok (.iload 5, 2) := by decide +kernel
theorem dX6_yes_128 : decode cX6_yes 128 = .ok (.iconst 3, 1) := by decide +kernel
theorem dX6_yes_129 : decode cX6_yes 129 = .ok (.iadd, 1) := by decide +kernel
theorem dX6_yes_130 : decode cX6_yes 130 = .ok (.iaload, 1) := by decide +kernel
theorem dX6_yes_131 : decode cX6_yes 131 = .ok (.isub, 1) := by decide +kernel
theorem dX6_yes_132 : decode cX6_yes 132 = .ok (.bipush 30, 2) := by decide +kernel
theorem dX6_yes_134 : decode cX6_yes 134 = .ok (.if_icmp .le 7, 3) := by decide +kernel
theorem dX6_yes_137 : decode cX6_yes 137 = .ok (.iconst 1, 1) := by decide +kernel
theorem dX6_yes_138 : decode cX6_yes 138 = .ok (.goto 4, 3) := by decide +kernel
theorem dX6_yes_141 : decode cX6_yes 141 = .ok (.iconst 0, 1) := by decide +kernel
theorem dX6_yes_142 : decode cX6_yes 142 = .ok (.istore 8, 2) := by decide +kernel
theorem dX6_yes_144 : decode cX6_yes 144 = .ok (.aload_n 0, 1) := by decide +kernel
theorem dX6_yes_145 : decode cX6_yes 145 = .ok (.getfield 195, 3) := by decide +kernel
theorem dX6_yes_148 : decode cX6_yes 148 = .ok (.sipush 400, 3) := by decide +kernel
theorem dX6_yes_151 : decode cX6_yes 151 = .ok (.if_icmp .ne 11, 3) := by decide +kernel
theorem dX6_yes_154 : decode cX6_yes 154 = .ok (.aload_n 0, 1) := by decide +kernel
theorem dX6_yes_155 : decode cX6_yes 155 = .ok (.iconst 1, 1) := by decide +kernel
theorem dX6_yes_156 : decode cX6_yes 156 = .ok (.putfield 39, 3) := by decide +kernel
theorem dX6_yes_159 : decode cX6_yes 159 = .ok (.goto 55, 3) := by decide +kernel
theorem dX6_yes_162 : decode cX6_yes 162 = .ok (.aload_n 0, 1) := by decide +kernel
theorem dX6_yes_163 : decode cX6_yes 163 = .ok (.iconst 3, 1) := by decide +kernel
theorem dX6_yes_164 : decode cX6_yes 164 = .ok (.aload_n 0, 1) := by decide +kernel
theorem dX6_yes_165 : decode cX6_yes 165 = .ok (.getfield 36, 3) := by decide +kernel
theorem dX6_yes_168 : decode cX6_yes 168 = .ok (.iload 5, 2) := by decide +kernel
theorem dX6_yes_170 : decode cX6_yes 170 = .ok (.iaload, 1) := by decide +kernel
theorem dX6_yes_171 : decode cX6_yes 171 = .ok (.iconst (-1), 1) := by decide +kernel
theorem dX6_yes_172 : decode cX6_yes 172 = .ok (.iconst (-1), 1) := by decide +kernel
theorem dX6_yes_173 : decode cX6_yes 173 = .ok (.aload_n 0, 1) := by decide +kernel
theorem dX6_yes_174 : decode cX6_yes 174 = .ok (.getfield 36, 3) := by decide +kernel
theorem dX6_yes_177 : decode cX6_yes 177 = .ok (.iload 5, 2) := by decide +kernel
theorem dX6_yes_179 : decode cX6_yes 179 = .ok (.iconst 1, 1) := by decide +kernel
theorem dX6_yes_180 : decode cX6_yes 180 = .ok (.iadd, 1) := by decide +kernel
theorem dX6_yes_181 : decode cX6_yes 181 = .ok (.iaload, 1) := by decide +kernel
theorem dX6_yes_182 : decode cX6_yes 182 = .ok (.aload_n 0, 1) := by decide +kernel
theorem dX6_yes_183 : decode cX6_yes 183 = .ok (.getfield 36, 3) := by decide +kernel
theorem dX6_yes_186 : decode cX6_yes 186 = .ok (.iload 5, 2) := by decide +kernel
theorem dX6_yes_188 : decode cX6_yes 188 = .ok (.iconst 2, 1) := by decide +kernel
theorem dX6_yes_189 : decode cX6_yes 189 = .ok (.iadd, 1) := by decide +kernel
theorem dX6_yes_190 : decode cX6_yes 190 = .ok (.iaload, 1) := by decide +kernel
theorem dX6_yes_191 : decode cX6_yes 191 = .ok (.iload 8, 2) := by decide +kernel
theorem dX6_yes_193 : decode cX6_yes 193 = .ok (.ifCond .eq 8, 3) := by decide +kernel
theorem dX6_yes_196 : decode cX6_yes 196 = .ok (.iload 7, 2) := by decide +kernel
theorem dX6_yes_198 : decode cX6_yes 198 = .ok (.goto 12, 3) := by decide +kernel
theorem dX6_yes_201 : decode cX6_yes 201 = .ok (.aload_n 0, 1) := by decide +kernel
theorem dX6_yes_202 : decode cX6_yes 202 = .ok (.getfield 36, 3) := by decide +kernel
theorem dX6_yes_205 : decode cX6_yes 205 = .ok (.iload 5, 2) := by decide +kernel
theorem dX6_yes_207 : decode cX6_yes 207 = .ok (.iconst 3, 1) := by decide +kernel
theorem dX6_yes_208 : decode cX6_yes 208 = .ok (.iadd, 1) := by decide +kernel
theorem dX6_yes_209 : decode cX6_yes 209 = .ok (.iaload, 1) := by decide +kernel
theorem dX6_yes_210 : decode cX6_yes 210 = .ok (.invokevirtual 212, 3) := by decide +kernel
theorem dX6_yes_213 : decode cX6_yes 213 = .ok (.pop, 1) := by decide +kernel
theorem dX6_yes_214 : decode cX6_yes 214 = .ok (.aload_n 0, 1) := by decide +kernel
theorem dX6_yes_215 : decode cX6_yes 215 = .ok (.getfield 39, 3) := by decide +kernel
theorem dX6_yes_218 : decode cX6_yes 218 = .ok (.ifCond .eq 13, 3) := by decide +kernel
theorem dX6_yes_221 : decode cX6_yes 221 = .ok (.aload_n 0, 1) := by decide +kernel
theorem dX6_yes_222 : decode cX6_yes 222 = .ok (.getfield 36, 3) := by decide +kernel
theorem dX6_yes_225 : decode cX6_yes 225 = .ok (.iload 4, 2) := by decide +kernel
theorem dX6_yes_227 : decode cX6_yes 227 = .ok (.iconst (-1), 1) := by decide +kernel
theorem dX6_yes_228 : decode cX6_yes 228 = .ok (.iastore, 1) := by decide +kernel
theorem dX6_yes_229 : decode cX6_yes 229 = .ok (.iconst 3, 1) := by decide +kernel
theorem dX6_yes_230 : decode cX6_yes 230 = .ok (.ireturn, 1) := by decide +kernel
theorem dX6_yes_231 : decode cX6_yes 231 = .ok (.aload_n 0, 1) := by decide +kernel
theorem dX6_yes_232 : decode cX6_yes 232 = .ok (.getfield 36, 3) := by decide +kernel
theorem dX6_yes_235 : decode cX6_yes 235 = .ok (.iload 5, 2) := by decide +kernel
theorem dX6_yes_237 : decode cX6_yes 237 = .ok (.bipush 6, 2) := by decide +kernel
theorem dX6_yes_239 : decode cX6_yes 239 = .ok (.iadd, 1) := by decide +kernel
theorem dX6_yes_240 : decode cX6_yes 240 = .ok (.iconst 1, 1) := by decide +kernel
theorem dX6_yes_241 : decode cX6_yes 241 = .ok (.iastore, 1) := by decide +kernel
theorem dX6_yes_242 : decode cX6_yes 242 = .ok (.iload 8, 2) := by decide +kernel
theorem dX6_yes_244 : decode cX6_yes 244 = .ok (.ifCond .eq 7, 3) := by decide +kernel
theorem dX6_yes_247 : decode cX6_yes 247 = .ok (.iconst 2, 1) := by decide +kernel
theorem dX6_yes_248 : decode cX6_yes 248 = .ok (.goto 4, 3) := by decide +kernel
theorem dX6_yes_251 : decode cX6_yes 251 = .ok (.iconst 1, 1) := by decide +kernel
theorem dX6_yes_252 : decode cX6_yes 252 = .ok (.ireturn, 1) := by decide +kernel
theorem dX6_no_0 : decode cX6_no 0 = .ok (.aload_n 0, 1) := by decide +kernel
theorem dX6_no_1 : decode cX6_no 1 = .ok (.iload_n 1, 1) := by decide +kernel
theorem dX6_no_2 : decode cX6_no 2 = .ok (.iload_n 2, 1) := by decide +kernel
theorem dX6_no_3 : decode cX6_no 3 = .ok (.invokevirtual 219, 3) := by decide +kernel
theorem dX6_no_6 : decode cX6_no 6 = .ok (.iconst (-1), 1) := by decide +kernel
theorem dX6_no_7 : decode cX6_no 7 = .ok (.if_icmp .ne 5, 3) := by decide +kernel
theorem dX6_no_10 : decode cX6_no 10 = .ok (.iconst 0, 1) := by decide +kernel
theorem dX6_no_11 : decode cX6_no 11 = .ok (.ireturn, 1) := by decide +kernel
theorem dX6_no_12 : decode cX6_no 12 = .ok (.aload_n 0, 1) := by decide +kernel
theorem dX6_no_13 : decode cX6_no 13 = .ok (.getfield 36, 3) := by decide +kernel
theorem dX6_no_16 : decode cX6_no 16 = .ok (.bipush 7, 2) := by decide +kernel
theorem dX6_no_18 : decode cX6_no 18 = .ok (.iload_n 1, 1) := by decide +kernel
theorem dX6_no_19 : decode cX6_no 19 = .ok (.imul, 1) := by decide +kernel
theorem dX6_no_20 : decode cX6_no 20 = .ok (.bipush 6, 2) := by decide +kernel
theorem dX6_no_22 : decode cX6_no 22 = .ok (.iadd, 1) := by decide +kernel
theorem dX6_no_23 : decode cX6_no 23 = .ok (.iconst 1, 1) := by decide +kernel
theorem dX6_no_24 : decode cX6_no 24 = .ok (.iastore, 1) := by decide +kernel
theorem dX6_no_25 : decode cX6_no 25 = .ok (.iconst 1, 1) := by decide +kernel
theorem dX6_no_26 : decode cX6_no 26 = .ok (.ireturn, 1) := by decide +kernel
theorem dX6_about_0 : decode cX6_about 0 = .ok (.iload_n 1, 1) := by decide +kernel
theorem dX6_about_1 : decode cX6_about 1 = .ok (.tableswitch 78 0 6 #[43, 48, 53, 58, 63, 68, 73], 43) := by decide +kernel
theorem dX6_about_44 : decode cX6_about 44 = .ok (.aload_n 0, 1) := by decide +kernel
theorem dX6_about_45 : decode cX6_about 45 = .ok (.getfield 100, 3) := by decide +kernel
theorem dX6_about_48 : decode cX6_about 48 = .ok (.ireturn, 1) := by decide +kernel
theorem dX6_about_49 : decode cX6_about 49 = .ok (.aload_n 0, 1) := by decide +kernel
theorem dX6_about_50 : decode cX6_about 50 = .ok (.getfield 103, 3) := by decide +kernel
theorem dX6_about_53 : decode cX6_about 53 = .ok (.ireturn, 1) := by decide +kernel
theorem dX6_about_54 : decode cX6_about 54 = .ok (.aload_n 0, 1) := by decide +kernel
theorem dX6_about_55 : decode cX6_about 55 = .ok (.getfield 93, 3) := by decide +kernel
theorem dX6_about_58 : decode cX6_about 58 = .ok (.ireturn, 1) := by decide +kernel
theorem dX6_about_59 : decode cX6_about 59 = .ok (.aload_n 0, 1) := by decide +kernel
theorem dX6_about_60 : decode cX6_about 60 = .ok (.getfield 195, 3) := by decide +kernel
theorem dX6_about_63 : decode cX6_about 63 = .ok (.ireturn, 1) := by decide +kernel
theorem dX6_about_64 : decode cX6_about 64 = .ok (.aload_n 0, 1) := by decide +kernel
theorem dX6_about_65 : decode cX6_about 65 = .ok (.getfield 204, 3) := by decide +kernel
theorem dX6_about_68 : decode cX6_about 68 = .ok (.ireturn, 1) := by decide +kernel
theorem dX6_about_69 : decode cX6_about 69 = .ok (.aload_n 0, 1) := by decide +kernel
theorem dX6_about_70 : decode cX6_about 70 = .ok (.getfield 216, 3) := by decide +kernel
theorem dX6_about_73 : decode cX6_about 73 = .ok (.ireturn, 1) := by decide +kernel
theorem dX6_about_74 : decode cX6_about 74 = .ok (.aload_n 0, 1) := by decide +kernel
theorem dX6_about_75 : decode cX6_about 75 = .ok (.getfield 9, 3) := by decide +kernel
theorem dX6_about_78 : decode cX6_about 78 = .ok (.ireturn, 1) := by decide +kernel
theorem dX6_about_79 : decode cX6_about 79 = .ok (.iconst (-1), 1) := by decide +kernel
theorem dX6_about_80 : decode cX6_about 80 = .ok (.ireturn, 1) := by decide +kernel
theorem dX6_slipOf_0 : decode cX6_slipOf 0 = .ok (.iload_n 1, 1) := by decide +kernel
theorem dX6_slipOf_1 : decode cX6_slipOf 1 = .ok (.iconst 0, 1) := by decide +kernel
theorem dX6_slipOf_2 : decode cX6_slipOf 2 = .ok (.aload_n 0, 1) := by decide +kernel
theorem dX6_slipOf_3 : decode cX6_slipOf 3 = .ok (.getfield 195, 3) := by decide +kernel
theorem dX6_slipOf_6 : decode cX6_slipOf 6 = .ok (.iconst 1, 1) := by decide +kernel
theorem dX6_slipOf_7 : decode cX6_slipOf 7 = .ok (.isub, 1) := by decide +kernel
theorem dX6_slipOf_8 : decode cX6_slipOf 8 = .ok (.invokestatic 96, 3) := by decide +kernel
theorem dX6_slipOf_11 : decode cX6_slipOf 11 = .ok (.ifCond .eq 13, 3) := by decide +kernel
theorem dX6_slipOf_14 : decode cX6_slipOf 14 = .ok (.iload_n 2, 1) := by decide +kernel
theorem dX6_slipOf_15 : decode cX6_slipOf 15 = .ok (.iconst 0, 1) := by decide +kernel
theorem dX6_slipOf_16 : decode cX6_slipOf 16 = .ok (.bipush 8, 2) := by decide +kernel
theorem dX6_slipOf_18 : decode cX6_slipOf 18 = .ok (.invokestatic 96, 3) := by decide +kernel
theorem dX6_slipOf_21 : decode cX6_slipOf 21 = .ok (.ifCond .ne 5, 3) := by decide +kernel
theorem dX6_slipOf_24 : decode cX6_slipOf 24 = .ok (.iconst (-1), 1) := by decide +kernel
theorem dX6_slipOf_25 : decode cX6_slipOf 25 = .ok (.ireturn, 1) := by decide +kernel
theorem dX6_slipOf_26 : decode cX6_slipOf 26 = .ok (.iload_n 2, 1) := by decide +kernel
theorem dX6_slipOf_27 : decode cX6_slipOf 27 = .ok (.bipush 8, 2) := by decide +kernel
theorem dX6_slipOf_29 : decode cX6_slipOf 29 = .ok (.if_icmp .ge 15, 3) := by decide +kernel
theorem dX6_slipOf_32 : decode cX6_slipOf 32 = .ok (.aload_n 0, 1) := by decide +kernel
theorem dX6_slipOf_33 : decode cX6_slipOf 33 = .ok (.getfield 30, 3) := by decide +kernel
theorem dX6_slipOf_36 : decode cX6_slipOf 36 = .ok (.bipush 8, 2) := by decide +kernel
theorem dX6_slipOf_38 : decode cX6_slipOf 38 = .ok (.iload_n 1, 1) := by decide +kernel
theorem dX6_slipOf_39 : decode cX6_slipOf 39 = .ok (.imul, 1) := by decide +kernel
theorem dX6_slipOf_40 : decode cX6_slipOf 40 = .ok (.iload_n 2, 1) := by decide +kernel
theorem dX6_slipOf_41 : decode cX6_slipOf 41 = .ok (.iadd, 1) := by decide +kernel
theorem dX6_slipOf_42 : decode cX6_slipOf 42 = .ok (.iaload, 1) := by decide +kernel
theorem dX6_slipOf_43 : decode cX6_slipOf 43 = .ok (.ireturn, 1) := by decide +kernel
theorem dX6_slipOf_44 : decode cX6_slipOf 44 = .ok (.iconst 0, 1) := by decide +kernel
theorem dX6_slipOf_45 : decode cX6_slipOf 45 = .ok (.istore_n 3, 1) := by decide +kernel
theorem dX6_slipOf_46 : decode cX6_slipOf 46 = .ok (.iload_n 3, 1) := by decide +kernel
theorem dX6_slipOf_47 : decode cX6_slipOf 47 = .ok (.iload_n 1, 1) := by decide +kernel
theorem dX6_slipOf_48 : decode cX6_slipOf 48 = .ok (.if_icmp .ge 38, 3) := by decide +kernel
theorem dX6_slipOf_51 : decode cX6_slipOf 51 = .ok (.aload_n 0, 1) := by decide +kernel
theorem dX6_slipOf_52 : decode cX6_slipOf 52 = .ok (.getfield 30, 3) := by decide +kernel
theorem dX6_slipOf_55 : decode cX6_slipOf 55 = .ok (.bipush 8, 2) := by decide +kernel
theorem dX6_slipOf_57 : decode cX6_slipOf 57 = .ok (.iload_n 3, 1) := by decide +kernel
theorem dX6_slipOf_58 : decode cX6_slipOf 58 = .ok (.imul, 1) := by decide +kernel
theorem dX6_slipOf_59 : decode cX6_slipOf 59 = .ok (.bipush 6, 2) := by decide +kernel
theorem dX6_slipOf_61 : decode cX6_slipOf 61 = .ok (.iadd, 1) := by decide +kernel
theorem dX6_slipOf_62 : decode cX6_slipOf 62 = .ok (.iaload, 1) := by decide +kernel
theorem dX6_slipOf_63 : decode cX6_slipOf 63 = .ok (.aload_n 0, 1) := by decide +kernel
theorem dX6_slipOf_64 : decode cX6_slipOf 64 = .ok (.getfield 30, 3) := by decide +kernel
theorem dX6_slipOf_67 : decode cX6_slipOf 67 = .ok (.bipush 8, 2) := by decide +kernel
theorem dX6_slipOf_69 : decode cX6_slipOf 69 = .ok (.iload_n 1, 1) := by decide +kernel
theorem dX6_slipOf_70 : decode cX6_slipOf 70 = .ok (.imul, 1) := by decide +kernel
theorem dX6_slipOf_71 : decode cX6_slipOf 71 = .ok (.bipush 6, 2) := by decide +kernel
theorem dX6_slipOf_73 : decode cX6_slipOf 73 = .ok (.iadd, 1) := by decide +kernel
theorem dX6_slipOf_74 : decode cX6_slipOf 74 = .ok (.iaload, 1) := by decide +kernel
theorem dX6_slipOf_75 : decode cX6_slipOf 75 = .ok (.if_icmp .le 5, 3) := by decide +kernel
theorem dX6_slipOf_78 : decode cX6_slipOf 78 = .ok (.iconst 1, 1) := by decide +kernel
theorem dX6_slipOf_79 : decode cX6_slipOf 79 = .ok (.ireturn, 1) := by decide +kernel
theorem dX6_slipOf_80 : decode cX6_slipOf 80 = .ok (.iinc 3 1, 3) := by decide +kernel
theorem dX6_slipOf_83 : decode cX6_slipOf 83 = .ok (.goto (-37), 3) := by decide +kernel
theorem dX6_slipOf_86 : decode cX6_slipOf 86 = .ok (.iconst 0, 1) := by decide +kernel
theorem dX6_slipOf_87 : decode cX6_slipOf 87 = .ok (.ireturn, 1) := by decide +kernel
theorem dX6_bits_0 : decode cX6_bits 0 = .ok (.iconst 0, 1) := by decide +kernel
theorem dX6_bits_1 : decode cX6_bits 1 = .ok (.istore_n 2, 1) := by decide +kernel
theorem dX6_bits_2 : decode cX6_bits 2 = .ok (.iconst 0, 1) := by decide +kernel
theorem dX6_bits_3 : decode cX6_bits 3 = .ok (.istore_n 3, 1) := by decide +kernel
theorem dX6_bits_4 : decode cX6_bits 4 = .ok (.iload_n 3, 1) := by decide +kernel
theorem dX6_bits_5 : decode cX6_bits 5 = .ok (.bipush 31, 2) := by decide +kernel
theorem dX6_bits_7 : decode cX6_bits 7 = .ok (.if_icmp .ge 17, 3) := by decide +kernel
theorem dX6_bits_10 : decode cX6_bits 10 = .ok (.iload_n 2, 1) := by decide +kernel
theorem dX6_bits_11 : decode cX6_bits 11 = .ok (.iload_n 1, 1) := by decide +kernel
theorem dX6_bits_12 : decode cX6_bits 12 = .ok (.iload_n 3, 1) := by decide +kernel
theorem dX6_bits_13 : decode cX6_bits 13 = .ok (.ishr, 1) := by decide +kernel
theorem dX6_bits_14 : decode cX6_bits 14 = .ok (.iconst 1, 1) := by decide +kernel
theorem dX6_bits_15 : decode cX6_bits 15 = .ok (.iand, 1) := by decide +kernel
theorem dX6_bits_16 : decode cX6_bits 16 = .ok (.iadd, 1) := by decide +kernel
theorem dX6_bits_17 : decode cX6_bits 17 = .ok (.istore_n 2, 1) := by decide +kernel
theorem dX6_bits_18 : decode cX6_bits 18 = .ok (.iinc 3 1, 3) := by decide +kernel
theorem dX6_bits_21 : decode cX6_bits 21 = .ok (.goto (-17), 3) := by decide +kernel
theorem dX6_bits_24 : decode cX6_bits 24 = .ok (.iload_n 2, 1) := by decide +kernel
theorem dX6_bits_25 : decode cX6_bits 25 = .ok (.ireturn, 1) := by decide +kernel
theorem dX6_where_0 : decode cX6_where 0 = .ok (.iload_n 1, 1) := by decide +kernel
theorem dX6_where_1 : decode cX6_where 1 = .ok (.iconst 0, 1) := by decide +kernel
theorem dX6_where_2 : decode cX6_where 2 = .ok (.aload_n 0, 1) := by decide +kernel
theorem dX6_where_3 : decode cX6_where 3 = .ok (.getfield 93, 3) := by decide +kernel
theorem dX6_where_6 : decode cX6_where 6 = .ok (.iconst 1, 1) := by decide +kernel
theorem dX6_where_7 : decode cX6_where 7 = .ok (.isub, 1) := by decide +kernel
theorem dX6_where_8 : decode cX6_where 8 = .ok (.invokestatic 96, 3) := by decide +kernel
theorem dX6_where_11 : decode cX6_where 11 = .ok (.ifCond .eq 14, 3) := by decide +kernel
theorem dX6_where_14 : decode cX6_where 14 = .ok (.iload 4, 2) := by decide +kernel
theorem dX6_where_16 : decode cX6_where 16 = .ok (.iconst 0, 1) := by decide +kernel
theorem dX6_where_17 : decode cX6_where 17 = .ok (.bipush 11, 2) := by decide +kernel
theorem dX6_where_19 : decode cX6_where 19 = .ok (.invokestatic 96, 3) := by decide +kernel
theorem dX6_where_22 : decode cX6_where 22 = .ok (.ifCond .ne 5, 3) := by decide +kernel
theorem dX6_where_25 : decode cX6_where 25 = .ok (.iconst (-1), 1) := by decide +kernel
theorem dX6_where_26 : decode cX6_where 26 = .ok (.ireturn, 1) := by decide +kernel
theorem dX6_where_27 : decode cX6_where 27 = .ok (.aload_n 0, 1) := by decide +kernel
theorem dX6_where_28 : decode cX6_where 28 = .ok (.iload_n 2, 1) := by decide +kernel
theorem dX6_where_29 : decode cX6_where 29 = .ok (.iload_n 3, 1) := by decide +kernel
theorem dX6_where_30 : decode cX6_where 30 = .ok (.invokevirtual 199, 3) := by decide +kernel
theorem dX6_where_33 : decode cX6_where 33 = .ok (.iload 4, 2) := by decide +kernel
theorem dX6_where_35 : decode cX6_where 35 = .ok (.tableswitch 153 0 10 #[57, 64, 71, 78, 85, 96, 107, 114, 121, 136, 147], 57) := by decide +kernel
theorem dX6_where_92 : decode cX6_where 92 = .ok (.aload_n 0, 1) := by decide +kernel
theorem dX6_where_93 : decode cX6_where 93 = .ok (.getfield 45, 3) := by decide +kernel
theorem dX6_where_96 : decode cX6_where 96 = .ok (.iload_n 1, 1) := by decide +kernel
theorem dX6_where_97 : decode cX6_where 97 = .ok (.iaload, 1) := by decide +kernel
theorem dX6_where_98 : decode cX6_where 98 = .ok (.ireturn, 1) := by decide +kernel
theorem dX6_where_99 : decode cX6_where 99 = .ok (.aload_n 0, 1) := by decide +kernel
theorem dX6_where_100 : decode cX6_where 100 = .ok (.getfield 48, 3) := by decide +kernel
theorem dX6_where_103 : decode cX6_where 103 = .ok (.iload_n 1, 1) := by decide +kernel
theorem dX6_where_104 : decode cX6_where 104 = .ok (.iaload, 1) := by decide +kernel
theorem dX6_where_105 : decode cX6_where 105 = .ok (.ireturn, 1) := by decide +kernel
theorem dX6_where_106 : decode cX6_where 106 = .ok (.aload_n 0, 1) := by decide +kernel
theorem dX6_where_107 : decode cX6_where 107 = .ok (.getfield 51, 3) := by decide +kernel
theorem dX6_where_110 : decode cX6_where 110 = .ok (.iload_n 1, 1) := by decide +kernel
theorem dX6_where_111 : decode cX6_where 111 = .ok (.iaload, 1) := by decide +kernel
theorem dX6_where_112 : decode cX6_where 112 = .ok (.ireturn, 1) := by decide +kernel
theorem dX6_where_113 : decode cX6_where 113 = .ok (.aload_n 0, 1) := by decide +kernel
theorem dX6_where_114 : decode cX6_where 114 = .ok (.getfield 54, 3) := by decide +kernel
theorem dX6_where_117 : decode cX6_where 117 = .ok (.iload_n 1, 1) := by decide +kernel
theorem dX6_where_118 : decode cX6_where 118 = .ok (.iaload, 1) := by decide +kernel
theorem dX6_where_119 : decode cX6_where 119 = .ok (.ireturn, 1) := by decide +kernel
theorem dX6_where_120 : decode cX6_where 120 = .ok (.aload_n 0, 1) := by decide +kernel
theorem dX6_where_121 : decode cX6_where 121 = .ok (.getfield 45, 3) := by decide +kernel
theorem dX6_where_124 : decode cX6_where 124 = .ok (.aload_n 0, 1) := by decide +kernel
theorem dX6_where_125 : decode cX6_where 125 = .ok (.iload_n 1, 1) := by decide +kernel
theorem dX6_where_126 : decode cX6_where 126 = .ok (.invokevirtual 223, 3) := by decide +kernel
theorem dX6_where_129 : decode cX6_where 129 = .ok (.iaload, 1) := by decide +kernel
theorem dX6_where_130 : decode cX6_where 130 = .ok (.ireturn, 1) := by decide +kernel
theorem dX6_where_131 : decode cX6_where 131 = .ok (.aload_n 0, 1) := by decide +kernel
theorem dX6_where_132 : decode cX6_where 132 = .ok (.getfield 48, 3) := by decide +kernel
theorem dX6_where_135 : decode cX6_where 135 = .ok (.aload_n 0, 1) := by decide +kernel
theorem dX6_where_136 : decode cX6_where 136 = .ok (.iload_n 1, 1) := by decide +kernel
theorem dX6_where_137 : decode cX6_where 137 = .ok (.invokevirtual 223, 3) := by decide +kernel
theorem dX6_where_140 : decode cX6_where 140 = .ok (.iaload, 1) := by decide +kernel
theorem dX6_where_141 : decode cX6_where 141 = .ok (.ireturn, 1) := by decide +kernel
theorem dX6_where_142 : decode cX6_where 142 = .ok (.aload_n 0, 1) := by decide +kernel
theorem dX6_where_143 : decode cX6_where 143 = .ok (.getfield 57, 3) := by decide +kernel
theorem dX6_where_146 : decode cX6_where 146 = .ok (.iload_n 1, 1) := by decide +kernel
theorem dX6_where_147 : decode cX6_where 147 = .ok (.iaload, 1) := by decide +kernel
theorem dX6_where_148 : decode cX6_where 148 = .ok (.ireturn, 1) := by decide +kernel
theorem dX6_where_149 : decode cX6_where 149 = .ok (.aload_n 0, 1) := by decide +kernel
theorem dX6_where_150 : decode cX6_where 150 = .ok (.getfield 60, 3) := by decide +kernel
theorem dX6_where_153 : decode cX6_where 153 = .ok (.iload_n 1, 1) := by decide +kernel
theorem dX6_where_154 : decode cX6_where 154 = .ok (.iaload, 1) := by decide +kernel
theorem dX6_where_155 : decode cX6_where 155 = .ok (.ireturn, 1) := by decide +kernel
theorem dX6_where_156 : decode cX6_where 156 = .ok (.aload_n 0, 1) := by decide +kernel
theorem dX6_where_157 : decode cX6_where 157 = .ok (.getfield 63, 3) := by decide +kernel
theorem dX6_where_160 : decode cX6_where 160 = .ok (.iload_n 1, 1) := by decide +kernel
theorem dX6_where_161 : decode cX6_where 161 = .ok (.baload, 1) := by decide +kernel
theorem dX6_where_162 : decode cX6_where 162 = .ok (.ifCond .eq 7, 3) := by decide +kernel
theorem dX6_where_165 : decode cX6_where 165 = .ok (.iconst 1, 1) := by decide +kernel
theorem dX6_where_166 : decode cX6_where 166 = .ok (.goto 4, 3) := by decide +kernel
theorem dX6_where_169 : decode cX6_where 169 = .ok (.iconst 0, 1) := by decide +kernel
theorem dX6_where_170 : decode cX6_where 170 = .ok (.ireturn, 1) := by decide +kernel
theorem dX6_where_171 : decode cX6_where 171 = .ok (.aload_n 0, 1) := by decide +kernel
theorem dX6_where_172 : decode cX6_where 172 = .ok (.aload_n 0, 1) := by decide +kernel
theorem dX6_where_173 : decode cX6_where 173 = .ok (.getfield 66, 3) := by decide +kernel
theorem dX6_where_176 : decode cX6_where 176 = .ok (.iload_n 1, 1) := by decide +kernel
theorem dX6_where_177 : decode cX6_where 177 = .ok (.iaload, 1) := by decide +kernel
theorem dX6_where_178 : decode cX6_where 178 = .ok (.invokevirtual 226, 3) := by decide +kernel
theorem dX6_where_181 : decode cX6_where 181 = .ok (.ireturn, 1) := by decide +kernel
theorem dX6_where_182 : decode cX6_where 182 = .ok (.aload_n 0, 1) := by decide +kernel
theorem dX6_where_183 : decode cX6_where 183 = .ok (.iload_n 1, 1) := by decide +kernel
theorem dX6_where_184 : decode cX6_where 184 = .ok (.invokevirtual 168, 3) := by decide +kernel
theorem dX6_where_187 : decode cX6_where 187 = .ok (.ireturn, 1) := by decide +kernel
theorem dX6_where_188 : decode cX6_where 188 = .ok (.aload_n 0, 1) := by decide +kernel
theorem dX6_where_189 : decode cX6_where 189 = .ok (.getfield 69, 3) := by decide +kernel
theorem dX6_where_192 : decode cX6_where 192 = .ok (.iload_n 1, 1) := by decide +kernel
theorem dX6_where_193 : decode cX6_where 193 = .ok (.iaload, 1) := by decide +kernel
theorem dX6_where_194 : decode cX6_where 194 = .ok (.ireturn, 1) := by decide +kernel
theorem dX6_isMove_0 : decode cX6_isMove 0 = .ok (.iload_n 0, 1) := by decide +kernel
theorem dX6_isMove_1 : decode cX6_isMove 1 = .ok (.ifCond .le 9, 3) := by decide +kernel
theorem dX6_isMove_4 : decode cX6_isMove 4 = .ok (.iload_n 0, 1) := by decide +kernel
theorem dX6_isMove_5 : decode cX6_isMove 5 = .ok (.bipush 8, 2) := by decide +kernel
theorem dX6_isMove_7 : decode cX6_isMove 7 = .ok (.if_icmp .lt 9, 3) := by decide +kernel
theorem dX6_isMove_10 : decode cX6_isMove 10 = .ok (.iload_n 0, 1) := by decide +kernel
theorem dX6_isMove_11 : decode cX6_isMove 11 = .ok (.bipush 17, 2) := by decide +kernel
theorem dX6_isMove_13 : decode cX6_isMove 13 = .ok (.if_icmp .le 7, 3) := by decide +kernel
theorem dX6_isMove_16 : decode cX6_isMove 16 = .ok (.iconst 1, 1) := by decide +kernel
theorem dX6_isMove_17 : decode cX6_isMove 17 = .ok (.goto 4, 3) := by decide +kernel
theorem dX6_isMove_20 : decode cX6_isMove 20 = .ok (.iconst 0, 1) := by decide +kernel
theorem dX6_isMove_21 : decode cX6_isMove 21 = .ok (.ireturn, 1) := by decide +kernel
theorem dX6_cameAt_0 : decode cX6_cameAt 0 = .ok (.aload_n 0, 1) := by decide +kernel
theorem dX6_cameAt_1 : decode cX6_cameAt 1 = .ok (.getfield 24, 3) := by decide +kernel
theorem dX6_cameAt_4 : decode cX6_cameAt 4 = .ok (.iload_n 1, 1) := by decide +kernel
theorem dX6_cameAt_5 : decode cX6_cameAt 5 = .ok (.iaload, 1) := by decide +kernel
theorem dX6_cameAt_6 : decode cX6_cameAt 6 = .ok (.iconst 2, 1) := by decide +kernel
theorem dX6_cameAt_7 : decode cX6_cameAt 7 = .ok (.if_icmp .eq 15, 3) := by decide +kernel
theorem dX6_cameAt_10 : decode cX6_cameAt 10 = .ok (.aload_n 0, 1) := by decide +kernel
theorem dX6_cameAt_11 : decode cX6_cameAt 11 = .ok (.getfield 24, 3) := by decide +kernel
theorem dX6_cameAt_14 : decode cX6_cameAt 14 = .ok (.iload_n 1, 1) := by decide +kernel
theorem dX6_cameAt_15 : decode cX6_cameAt 15 = .ok (.iaload, 1) := by decide +kernel
theorem dX6_cameAt_16 : decode cX6_cameAt 16 = .ok (.iconst 3, 1) := by decide +kernel
theorem dX6_cameAt_17 : decode cX6_cameAt 17 = .ok (.if_icmp .eq 5, 3) := by decide +kernel
theorem dX6_cameAt_20 : decode cX6_cameAt 20 = .ok (.iconst (-1), 1) := by decide +kernel
theorem dX6_cameAt_21 : decode cX6_cameAt 21 = .ok (.ireturn, 1) := by decide +kernel
theorem dX6_cameAt_22 : decode cX6_cameAt 22 = .ok (.iconst 0, 1) := by decide +kernel
theorem dX6_cameAt_23 : decode cX6_cameAt 23 = .ok (.istore_n 2, 1) := by decide +kernel
theorem dX6_cameAt_24 : decode cX6_cameAt 24 = .ok (.iload_n 2, 1) := by decide +kernel
theorem dX6_cameAt_25 : decode cX6_cameAt 25 = .ok (.aload_n 0, 1) := by decide +kernel
theorem dX6_cameAt_26 : decode cX6_cameAt 26 = .ok (.getfield 195, 3) := by decide +kernel
theorem dX6_cameAt_29 : decode cX6_cameAt 29 = .ok (.if_icmp .ge 55, 3) := by decide +kernel
theorem dX6_cameAt_32 : decode cX6_cameAt 32 = .ok (.bipush 8, 2) := by decide +kernel
theorem dX6_cameAt_34 : decode cX6_cameAt 34 = .ok (.aload_n 0, 1) := by decide +kernel
theorem dX6_cameAt_35 : decode cX6_cameAt 35 = .ok (.getfield 78, 3) := by decide +kernel
theorem dX6_cameAt_38 : decode cX6_cameAt 38 = .ok (.iload_n 2, 1) := by decide +kernel
theorem dX6_cameAt_39 : decode cX6_cameAt 39 = .ok (.iaload, 1) := by decide +kernel
theorem dX6_cameAt_40 : decode cX6_cameAt 40 = .ok (.imul, 1) := by decide +kernel
theorem dX6_cameAt_41 : decode cX6_cameAt 41 = .ok (.istore_n 3, 1) := by decide +kernel
theorem dX6_cameAt_42 : decode cX6_cameAt 42 = .ok (.aload_n 0, 1) := by decide +kernel
theorem dX6_cameAt_43 : decode cX6_cameAt 43 = .ok (.getfield 30, 3) := by decide +kernel
theorem dX6_cameAt_46 : decode cX6_cameAt 46 = .ok (.iload_n 3, 1) := by decide +kernel
theorem dX6_cameAt_47 : decode cX6_cameAt 47 = .ok (.iaload, 1) := by decide +kernel
theorem dX6_cameAt_48 : decode cX6_cameAt 48 = .ok (.bipush 11, 2) := by decide +kernel
theorem dX6_cameAt_50 : decode cX6_cameAt 50 = .ok (.if_icmp .eq 14, 3) := by decide +kernel
theorem dX6_cameAt_53 : decode cX6_cameAt 53 = .ok (.aload_n 0, 1) := by decide +kernel
theorem dX6_cameAt_54 : decode cX6_cameAt 54 = .ok (.getfield 30, 3) := by decide +kernel
theorem dX6_cameAt_57 : decode cX6_cameAt 57 = .ok (.iload_n 3, 1) := by decide +kernel
theorem dX6_cameAt_58 : decode cX6_cameAt 58 = .ok (.iaload, 1) := by decide +kernel
theorem dX6_cameAt_59 : decode cX6_cameAt 59 = .ok (.bipush 12, 2) := by decide +kernel
theorem dX6_cameAt_61 : decode cX6_cameAt 61 = .ok (.if_icmp .ne 17, 3) := by decide +kernel
theorem dX6_cameAt_64 : decode cX6_cameAt 64 = .ok (.aload_n 0, 1) := by decide +kernel
theorem dX6_cameAt_65 : decode cX6_cameAt 65 = .ok (.getfield 30, 3) := by decide +kernel
theorem dX6_cameAt_68 : decode cX6_cameAt 68 = .ok (.iload_n 3, 1) := by decide +kernel
theorem dX6_cameAt_69 : decode cX6_cameAt 69 = .ok (.iconst 4, 1) := by decide +kernel
theorem dX6_cameAt_70 : decode cX6_cameAt 70 = .ok (.iadd, 1) := by decide +kernel
theorem dX6_cameAt_71 : decode cX6_cameAt 71 = .ok (.iaload, 1) := by decide +kernel
theorem dX6_cameAt_72 : decode cX6_cameAt 72 = .ok (.iload_n 1, 1) := by decide +kernel
theorem dX6_cameAt_73 : decode cX6_cameAt 73 = .ok (.if_icmp .ne 5, 3) := by decide +kernel
theorem dX6_cameAt_76 : decode cX6_cameAt 76 = .ok (.iload_n 2, 1) := by decide +kernel
theorem dX6_cameAt_77 : decode cX6_cameAt 77 = .ok (.ireturn, 1) := by decide +kernel
theorem dX6_cameAt_78 : decode cX6_cameAt 78 = .ok (.iinc 2 1, 3) := by decide +kernel
theorem dX6_cameAt_81 : decode cX6_cameAt 81 = .ok (.goto (-57), 3) := by decide +kernel
theorem dX6_cameAt_84 : decode cX6_cameAt 84 = .ok (.iconst (-1), 1) := by decide +kernel
theorem dX6_cameAt_85 : decode cX6_cameAt 85 = .ok (.ireturn, 1) := by decide +kernel
theorem dX6_makeChain_0 : decode cX6_makeChain 0 = .ok (.aload_n 0, 1) := by decide +kernel
theorem dX6_makeChain_1 : decode cX6_makeChain 1 = .ok (.aload_n 0, 1) := by decide +kernel
theorem dX6_makeChain_2 : decode cX6_makeChain 2 = .ok (.getfield 30, 3) := by decide +kernel
theorem dX6_makeChain_5 : decode cX6_makeChain 5 = .ok (.aload_n 0, 1) := by decide +kernel
theorem dX6_makeChain_6 : decode cX6_makeChain 6 = .ok (.getfield 195, 3) := by decide +kernel
theorem dX6_makeChain_9 : decode cX6_makeChain 9 = .ok (.invokevirtual 184, 3) := by decide +kernel
theorem dX6_makeChain_12 : decode cX6_makeChain 12 = .ok (.aload_n 0, 1) := by decide +kernel
theorem dX6_makeChain_13 : decode cX6_makeChain 13 = .ok (.iconst 0, 1) := by decide +kernel
theorem dX6_makeChain_14 : decode cX6_makeChain 14 = .ok (.putfield 229, 3) := by decide +kernel
theorem dX6_makeChain_17 : decode cX6_makeChain 17 = .ok (.iconst 0, 1) := by decide +kernel
theorem dX6_makeChain_18 : decode cX6_makeChain 18 = .ok (.istore_n 2, 1) := by decide +kernel
theorem dX6_makeChain_19 : decode cX6_makeChain 19 = .ok (.iload_n 1, 1) := by decide +kernel
theorem dX6_makeChain_20 : decode cX6_makeChain 20 = .ok (.istore_n 3, 1) := by decide +kernel
theorem dX6_makeChain_21 : decode cX6_makeChain 21 = .ok (.iload_n 3, 1) := by decide +kernel
theorem dX6_makeChain_22 : decode cX6_makeChain 22 = .ok (.ifCond .lt 62, 3) := by decide +kernel
theorem dX6_makeChain_25 : decode cX6_makeChain 25 = .ok (.aload_n 0, 1) := by decide +kernel
theorem dX6_makeChain_26 : decode cX6_makeChain 26 = .ok (.getfield 84, 3) := by decide +kernel
theorem dX6_makeChain_29 : decode cX6_makeChain 29 = .ok (.iload_n 2, 1) := by decide +kernel
theorem dX6_makeChain_30 : decode cX6_makeChain 30 = .ok (.iload_n 3, 1) := by decide +kernel
theorem dX6_makeChain_31 : decode cX6_makeChain 31 = .ok (.iastore, 1) := by decide +kernel
theorem dX6_makeChain_32 : decode cX6_makeChain 32 = .ok (.aload_n 0, 1) := by decide +kernel
theorem dX6_makeChain_33 : decode cX6_makeChain 33 = .ok (.getfield 87, 3) := by decide +kernel
theorem dX6_makeChain_36 : decode cX6_makeChain 36 = .ok (.iload_n 2, 1) := by decide +kernel
theorem dX6_makeChain_37 : decode cX6_makeChain 37 = .ok (.aload_n 0, 1) := by decide +kernel
theorem dX6_makeChain_38 : decode cX6_makeChain 38 = .ok (.iload_n 3, 1) := by decide +kernel
theorem dX6_makeChain_39 : decode cX6_makeChain 39 = .ok (.invokevirtual 232, 3) := by decide +kernel
theorem dX6_makeChain_42 : decode cX6_makeChain 42 = .ok (.iastore, 1) := by decide +kernel
theorem dX6_makeChain_43 : decode cX6_makeChain 43 = .ok (.aload_n 0, 1) := by decide +kernel
theorem dX6_makeChain_44 : decode cX6_makeChain 44 = .ok (.getfield 87, 3) := by decide +kernel
theorem dX6_makeChain_47 : decode cX6_makeChain 47 = .ok (.iload_n 2, 1) := by decide +kernel
theorem dX6_makeChain_48 : decode cX6_makeChain 48 = .ok (.iaload, 1) := by decide +kernel
theorem dX6_makeChain_49 : decode cX6_makeChain 49 = .ok (.ifCond .ge 7, 3) := by decide +kernel
theorem dX6_makeChain_52 : decode cX6_makeChain 52 = .ok (.iconst (-1), 1) := by decide +kernel
theorem dX6_makeChain_53 : decode cX6_makeChain 53 = .ok (.goto 24, 3) := by decide +kernel
theorem dX6_makeChain_56 : decode cX6_makeChain 56 = .ok (.aload_n 0, 1) := by decide +kernel
theorem dX6_makeChain_57 : decode cX6_makeChain 57 = .ok (.getfield 30, 3) := by decide +kernel
theorem dX6_makeChain_60 : decode cX6_makeChain 60 = .ok (.bipush 8, 2) := by decide +kernel
theorem dX6_makeChain_62 : decode cX6_makeChain 62 = .ok (.aload_n 0, 1) := by decide +kernel
theorem dX6_makeChain_63 : decode cX6_makeChain 63 = .ok (.getfield 78, 3) := by decide +kernel
theorem dX6_makeChain_66 : decode cX6_makeChain 66 = .ok (.aload_n 0, 1) := by decide +kernel
theorem dX6_makeChain_67 : decode cX6_makeChain 67 = .ok (.getfield 87, 3) := by decide +kernel
theorem dX6_makeChain_70 : decode cX6_makeChain 70 = .ok (.iload_n 2, 1) := by decide +kernel
theorem dX6_makeChain_71 : decode cX6_makeChain 71 = .ok (.iaload, 1) := by decide +kernel
theorem dX6_makeChain_72 : decode cX6_makeChain 72 = .ok (.iaload, 1) := by decide +kernel
theorem dX6_makeChain_73 : decode cX6_makeChain 73 = .ok (.imul, 1) := by decide +kernel
theorem dX6_makeChain_74 : decode cX6_makeChain 74 = .ok (.iconst 1, 1) := by decide +kernel
theorem dX6_makeChain_75 : decode cX6_makeChain 75 = .ok (.iadd, 1) := by decide +kernel
theorem dX6_makeChain_76 : decode cX6_makeChain 76 = .ok (.iaload, 1) := by decide +kernel
theorem dX6_makeChain_77 : decode cX6_makeChain 77 = .ok (.istore_n 3, 1) := by decide +kernel
theorem dX6_makeChain_78 : decode cX6_makeChain 78 = .ok (.iinc 2 1, 3) := by decide +kernel
theorem dX6_makeChain_81 : decode cX6_makeChain 81 = .ok (.goto (-60), 3) := by decide +kernel
theorem dX6_makeChain_84 : decode cX6_makeChain 84 = .ok (.iload_n 2, 1) := by decide +kernel
theorem dX6_makeChain_85 : decode cX6_makeChain 85 = .ok (.iconst 1, 1) := by decide +kernel
theorem dX6_makeChain_86 : decode cX6_makeChain 86 = .ok (.isub, 1) := by decide +kernel
theorem dX6_makeChain_87 : decode cX6_makeChain 87 = .ok (.istore 4, 2) := by decide +kernel
theorem dX6_makeChain_89 : decode cX6_makeChain 89 = .ok (.iload 4, 2) := by decide +kernel
theorem dX6_makeChain_91 : decode cX6_makeChain 91 = .ok (.ifCond .lt 129, 3) := by decide +kernel
theorem dX6_makeChain_94 : decode cX6_makeChain 94 = .ok (.aload_n 0, 1) := by decide +kernel
theorem dX6_makeChain_95 : decode cX6_makeChain 95 = .ok (.getfield 87, 3) := by decide +kernel
theorem dX6_makeChain_98 : decode cX6_makeChain 98 = .ok (.iload 4, 2) := by decide +kernel
theorem dX6_makeChain_100 : decode cX6_makeChain 100 = .ok (.iaload, 1) := by decide +kernel
theorem dX6_makeChain_101 : decode cX6_makeChain 101 = .ok (.ifCond .lt 19, 3) := by decide +kernel
theorem dX6_makeChain_104 : decode cX6_makeChain 104 = .ok (.aload_n 0, 1) := by decide +kernel
theorem dX6_makeChain_105 : decode cX6_makeChain 105 = .ok (.aload_n 0, 1) := by decide +kernel
theorem dX6_makeChain_106 : decode cX6_makeChain 106 = .ok (.getfield 78, 3) := by decide +kernel
theorem dX6_makeChain_109 : decode cX6_makeChain 109 = .ok (.aload_n 0, 1) := by decide +kernel
theorem dX6_makeChain_110 : decode cX6_makeChain 110 = .ok (.getfield 87, 3) := by decide +kernel
theorem dX6_makeChain_113 : decode cX6_makeChain 113 = .ok (.iload 4, 2) := by decide +kernel
theorem dX6_makeChain_115 : decode cX6_makeChain 115 = .ok (.iaload, 1) := by decide +kernel
theorem dX6_makeChain_116 : decode cX6_makeChain 116 = .ok (.iaload, 1) := by decide +kernel
theorem dX6_makeChain_117 : decode cX6_makeChain 117 = .ok (.invokevirtual 235, 3) := by decide +kernel
theorem dX6_makeChain_120 : decode cX6_makeChain 120 = .ok (.iload 4, 2) := by decide +kernel
theorem dX6_makeChain_122 : decode cX6_makeChain 122 = .ok (.ifCond .ne 10, 3) := by decide +kernel
theorem dX6_makeChain_125 : decode cX6_makeChain 125 = .ok (.aload_n 0, 1) := by decide +kernel
theorem dX6_makeChain_126 : decode cX6_makeChain 126 = .ok (.getfield 195, 3) := by decide +kernel
theorem dX6_makeChain_129 : decode cX6_makeChain 129 = .ok (.goto 12, 3) := by decide +kernel
theorem dX6_makeChain_132 : decode cX6_makeChain 132 = .ok (.aload_n 0, 1) := by decide +kernel
theorem dX6_makeChain_133 : decode cX6_makeChain 133 = .ok (.getfield 87, 3) := by decide +kernel
theorem dX6_makeChain_136 : decode cX6_makeChain 136 = .ok (.iload 4, 2) := by decide +kernel
theorem dX6_makeChain_138 : decode cX6_makeChain 138 = .ok (.iconst 1, 1) := by decide +kernel
theorem dX6_makeChain_139 : decode cX6_makeChain 139 = .ok (.isub, 1) := by decide +kernel
theorem dX6_makeChain_140 : decode cX6_makeChain 140 = .ok (.iaload, 1) := by decide +kernel
theorem dX6_makeChain_141 : decode cX6_makeChain 141 = .ok (.istore 5, 2) := by decide +kernel
theorem dX6_makeChain_143 : decode cX6_makeChain 143 = .ok (.iconst 0, 1) := by decide +kernel
theorem dX6_makeChain_144 : decode cX6_makeChain 144 = .ok (.istore 6, 2) := by decide +kernel
theorem dX6_makeChain_146 : decode cX6_makeChain 146 = .ok (.iload 6, 2) := by decide +kernel
theorem dX6_makeChain_148 : decode cX6_makeChain 148 = .ok (.iload 5, 2) := by decide +kernel
theorem dX6_makeChain_150 : decode cX6_makeChain 150 = .ok (.if_icmp .ge 64, 3) := by decide +kernel
theorem dX6_makeChain_153 : decode cX6_makeChain 153 = .ok (.bipush 8, 2) := by decide +kernel
theorem dX6_makeChain_155 : decode cX6_makeChain 155 = .ok (.aload_n 0, 1) := by decide +kernel
theorem dX6_makeChain_156 : decode cX6_makeChain 156 = .ok (.getfield 78, 3) := by decide +kernel
theorem dX6_makeChain_159 : decode cX6_makeChain 159 = .ok (.iload 6, 2) := by decide +kernel
theorem dX6_makeChain_161 : decode cX6_makeChain 161 = .ok (.iaload, 1) := by decide +kernel
theorem dX6_makeChain_162 : decode cX6_makeChain 162 = .ok (.imul, 1) := by decide +kernel
theorem dX6_makeChain_163 : decode cX6_makeChain 163 = .ok (.istore 7, 2) := by decide +kernel
theorem dX6_makeChain_165 : decode cX6_makeChain 165 = .ok (.aload_n 0, 1) := by decide +kernel
theorem dX6_makeChain_166 : decode cX6_makeChain 166 = .ok (.getfield 30, 3) := by decide +kernel
theorem dX6_makeChain_169 : decode cX6_makeChain 169 = .ok (.iload 7, 2) := by decide +kernel
theorem dX6_makeChain_171 : decode cX6_makeChain 171 = .ok (.iconst 1, 1) := by decide +kernel
theorem dX6_makeChain_172 : decode cX6_makeChain 172 = .ok (.iadd, 1) := by decide +kernel
theorem dX6_makeChain_173 : decode cX6_makeChain 173 = .ok (.iaload, 1) := by decide +kernel
theorem dX6_makeChain_174 : decode cX6_makeChain 174 = .ok (.aload_n 0, 1) := by decide +kernel
theorem dX6_makeChain_175 : decode cX6_makeChain 175 = .ok (.getfield 84, 3) := by decide +kernel
theorem dX6_makeChain_178 : decode cX6_makeChain 178 = .ok (.iload 4, 2) := by decide +kernel
theorem dX6_makeChain_180 : decode cX6_makeChain 180 = .ok (.iaload, 1) := by decide +kernel
theorem dX6_makeChain_181 : decode cX6_makeChain 181 = .ok (.if_icmp .ne 27, 3) := by decide +kernel
theorem dX6_makeChain_184 : decode cX6_makeChain 184 = .ok (.aload_n 0, 1) := by decide +kernel
theorem dX6_makeChain_185 : decode cX6_makeChain 185 = .ok (.getfield 30, 3) := by decide +kernel
theorem dX6_makeChain_188 : decode cX6_makeChain 188 = .ok (.iload 7, 2) := by decide +kernel
theorem dX6_makeChain_190 : decode cX6_makeChain 190 = .ok (.iaload, 1) := by decide +kernel
theorem dX6_makeChain_191 : decode cX6_makeChain 191 = .ok (.invokestatic 239, 3) := by decide +kernel
theorem dX6_makeChain_194 : decode cX6_makeChain 194 = .ok (.ifCond .eq 14, 3) := by decide +kernel
theorem dX6_makeChain_197 : decode cX6_makeChain 197 = .ok (.aload_n 0, 1) := by decide +kernel
theorem dX6_makeChain_198 : decode cX6_makeChain 198 = .ok (.aload_n 0, 1) := by decide +kernel
theorem dX6_makeChain_199 : decode cX6_makeChain 199 = .ok (.getfield 78, 3) := by decide +kernel
theorem dX6_makeChain_202 : decode cX6_makeChain 202 = .ok (.iload 6, 2) := by decide +kernel
theorem dX6_makeChain_204 : decode cX6_makeChain 204 = .ok (.iaload, 1) := by decide +kernel
theorem dX6_makeChain_205 : decode cX6_makeChain 205 = .ok (.invokevirtual 235, 3) := by decide +kernel
theorem dX6_makeChain_208 : decode cX6_makeChain 208 = .ok (.iinc 6 1, 3) := by decide +kernel
theorem dX6_makeChain_211 : decode cX6_makeChain 211 = .ok (.goto (-65), 3) := by decide +kernel
theorem dX6_makeChain_214 : decode cX6_makeChain 214 = .ok (.iinc 4 (-1), 3) := by decide +kernel
theorem dX6_makeChain_217 : decode cX6_makeChain 217 = .ok (.goto (-128), 3) := by decide +kernel
theorem dX6_makeChain_220 : decode cX6_makeChain 220 = .ok (.return_, 1) := by decide +kernel
theorem dX6_put_0 : decode cX6_put 0 = .ok (.aload_n 0, 1) := by decide +kernel
theorem dX6_put_1 : decode cX6_put 1 = .ok (.getfield 81, 3) := by decide +kernel
theorem dX6_put_4 : decode cX6_put 4 = .ok (.aload_n 0, 1) := by decide +kernel
theorem dX6_put_5 : decode cX6_put 5 = .ok (.getfield 229, 3) := by decide +kernel
theorem dX6_put_8 : decode cX6_put 8 = .ok (.iload_n 1, 1) := by decide +kernel
theorem dX6_put_9 : decode cX6_put 9 = .ok (.iastore, 1) := by decide +kernel
theorem dX6_put_10 : decode cX6_put 10 = .ok (.aload_n 0, 1) := by decide +kernel
theorem dX6_put_11 : decode cX6_put 11 = .ok (.dup, 1) := by decide +kernel
theorem dX6_put_12 : decode cX6_put 12 = .ok (.getfield 229, 3) := by decide +kernel
theorem dX6_put_15 : decode cX6_put 15 = .ok (.iconst 1, 1) := by decide +kernel
theorem dX6_put_16 : decode cX6_put 16 = .ok (.iadd, 1) := by decide +kernel
theorem dX6_put_17 : decode cX6_put 17 = .ok (.putfield 229, 3) := by decide +kernel
theorem dX6_put_20 : decode cX6_put 20 = .ok (.return_, 1) := by decide +kernel
theorem dX6_chain_0 : decode cX6_chain 0 = .ok (.iload_n 1, 1) := by decide +kernel
theorem dX6_chain_1 : decode cX6_chain 1 = .ok (.iconst 0, 1) := by decide +kernel
theorem dX6_chain_2 : decode cX6_chain 2 = .ok (.aload_n 0, 1) := by decide +kernel
theorem dX6_chain_3 : decode cX6_chain 3 = .ok (.getfield 93, 3) := by decide +kernel
theorem dX6_chain_6 : decode cX6_chain 6 = .ok (.iconst 1, 1) := by decide +kernel
theorem dX6_chain_7 : decode cX6_chain 7 = .ok (.isub, 1) := by decide +kernel
theorem dX6_chain_8 : decode cX6_chain 8 = .ok (.invokestatic 96, 3) := by decide +kernel
theorem dX6_chain_11 : decode cX6_chain 11 = .ok (.ifCond .ne 5, 3) := by decide +kernel
theorem dX6_chain_14 : decode cX6_chain 14 = .ok (.iconst (-1), 1) := by decide +kernel
theorem dX6_chain_15 : decode cX6_chain 15 = .ok (.ireturn, 1) := by decide +kernel
theorem dX6_chain_16 : decode cX6_chain 16 = .ok (.aload_n 0, 1) := by decide +kernel
theorem dX6_chain_17 : decode cX6_chain 17 = .ok (.iload_n 1, 1) := by decide +kernel
theorem dX6_chain_18 : decode cX6_chain 18 = .ok (.invokevirtual 242, 3) := by decide +kernel
theorem dX6_chain_21 : decode cX6_chain 21 = .ok (.iload_n 2, 1) := by decide +kernel
theorem dX6_chain_22 : decode cX6_chain 22 = .ok (.iconst 0, 1) := by decide +kernel
theorem dX6_chain_23 : decode cX6_chain 23 = .ok (.aload_n 0, 1) := by decide +kernel
theorem dX6_chain_24 : decode cX6_chain 24 = .ok (.getfield 229, 3) := by decide +kernel
theorem dX6_chain_27 : decode cX6_chain 27 = .ok (.iconst 1, 1) := by decide +kernel
theorem dX6_chain_28 : decode cX6_chain 28 = .ok (.isub, 1) := by decide +kernel
theorem dX6_chain_29 : decode cX6_chain 29 = .ok (.invokestatic 96, 3) := by decide +kernel
theorem dX6_chain_32 : decode cX6_chain 32 = .ok (.ifCond .eq 12, 3) := by decide +kernel
theorem dX6_chain_35 : decode cX6_chain 35 = .ok (.aload_n 0, 1) := by decide +kernel
theorem dX6_chain_36 : decode cX6_chain 36 = .ok (.getfield 81, 3) := by decide +kernel
theorem dX6_chain_39 : decode cX6_chain 39 = .ok (.iload_n 2, 1) := by decide +kernel
theorem dX6_chain_40 : decode cX6_chain 40 = .ok (.iaload, 1) := by decide +kernel
theorem dX6_chain_41 : decode cX6_chain 41 = .ok (.goto 4, 3) := by decide +kernel
theorem dX6_chain_44 : decode cX6_chain 44 = .ok (.iconst (-1), 1) := by decide +kernel
theorem dX6_chain_45 : decode cX6_chain 45 = .ok (.ireturn, 1) := by decide +kernel
theorem dX6_gap_0 : decode cX6_gap 0 = .ok (.iload_n 1, 1) := by decide +kernel
theorem dX6_gap_1 : decode cX6_gap 1 = .ok (.iconst 0, 1) := by decide +kernel
theorem dX6_gap_2 : decode cX6_gap 2 = .ok (.aload_n 0, 1) := by decide +kernel
theorem dX6_gap_3 : decode cX6_gap 3 = .ok (.getfield 93, 3) := by decide +kernel
theorem dX6_gap_6 : decode cX6_gap 6 = .ok (.iconst 1, 1) := by decide +kernel
theorem dX6_gap_7 : decode cX6_gap 7 = .ok (.isub, 1) := by decide +kernel
theorem dX6_gap_8 : decode cX6_gap 8 = .ok (.invokestatic 96, 3) := by decide +kernel
theorem dX6_gap_11 : decode cX6_gap 11 = .ok (.ifCond .eq 16, 3) := by decide +kernel
theorem dX6_gap_14 : decode cX6_gap 14 = .ok (.iload_n 3, 1) := by decide +kernel
theorem dX6_gap_15 : decode cX6_gap 15 = .ok (.iconst 0, 1) := by decide +kernel
theorem dX6_gap_16 : decode cX6_gap 16 = .ok (.iconst 3, 1) := by decide +kernel
theorem dX6_gap_17 : decode cX6_gap 17 = .ok (.invokestatic 96, 3) := by decide +kernel
theorem dX6_gap_20 : decode cX6_gap 20 = .ok (.ifCond .eq 7, 3) := by decide +kernel
theorem dX6_gap_23 : decode cX6_gap 23 = .ok (.iload_n 2, 1) := by decide +kernel
theorem dX6_gap_24 : decode cX6_gap 24 = .ok (.ifCond .ge 5, 3) := by decide +kernel
theorem dX6_gap_27 : decode cX6_gap 27 = .ok (.iconst (-1), 1) := by decide +kernel
theorem dX6_gap_28 : decode cX6_gap 28 = .ok (.ireturn, 1) := by decide +kernel
theorem dX6_gap_29 : decode cX6_gap 29 = .ok (.aload_n 0, 1) := by decide +kernel
theorem dX6_gap_30 : decode cX6_gap 30 = .ok (.iload_n 1, 1) := by decide +kernel
theorem dX6_gap_31 : decode cX6_gap 31 = .ok (.invokevirtual 242, 3) := by decide +kernel
theorem dX6_gap_34 : decode cX6_gap 34 = .ok (.iconst 0, 1) := by decide +kernel
theorem dX6_gap_35 : decode cX6_gap 35 = .ok (.istore 4, 2) := by decide +kernel
theorem dX6_gap_37 : decode cX6_gap 37 = .ok (.iconst 1, 1) := by decide +kernel
theorem dX6_gap_38 : decode cX6_gap 38 = .ok (.istore 5, 2) := by decide +kernel
theorem dX6_gap_40 : decode cX6_gap 40 = .ok (.iload 5, 2) := by decide +kernel
theorem dX6_gap_42 : decode cX6_gap 42 = .ok (.aload_n 0, 1) := by decide +kernel
theorem dX6_gap_43 : decode cX6_gap 43 = .ok (.getfield 229, 3) := by decide +kernel
theorem dX6_gap_46 : decode cX6_gap 46 = .ok (.if_icmp .ge 119, 3) := by decide +kernel
theorem dX6_gap_49 : decode cX6_gap 49 = .ok (.aload_n 0, 1) := by decide +kernel
theorem dX6_gap_50 : decode cX6_gap 50 = .ok (.getfield 30, 3) := by decide +kernel
theorem dX6_gap_53 : decode cX6_gap 53 = .ok (.bipush 8, 2) := by decide +kernel
theorem dX6_gap_55 : decode cX6_gap 55 = .ok (.aload_n 0, 1) := by decide +kernel
theorem dX6_gap_56 : decode cX6_gap 56 = .ok (.getfield 81, 3) := by decide +kernel
theorem dX6_gap_59 : decode cX6_gap 59 = .ok (.iload 5, 2) := by decide +kernel
theorem dX6_gap_61 : decode cX6_gap 61 = .ok (.iaload, 1) := by decide +kernel
theorem dX6_gap_62 : decode cX6_gap 62 = .ok (.imul, 1) := by decide +kernel
theorem dX6_gap_63 : decode cX6_gap 63 = .ok (.iaload, 1) := by decide +kernel
theorem dX6_gap_64 : decode cX6_gap 64 = .ok (.bipush 19, 2) := by decide +kernel
theorem dX6_gap_66 : decode cX6_gap 66 = .ok (.if_icmp .eq 6, 3) := by decide +kernel
theorem dX6_gap_69 : decode cX6_gap 69 = .ok (.goto 90, 3) := by decide +kernel
theorem dX6_gap_72 : decode cX6_gap 72 = .ok (.iload 4, 2) := by decide +kernel
theorem dX6_gap_74 : decode cX6_gap 74 = .ok (.iload_n 2, 1) := by decide +kernel
theorem dX6_gap_75 : decode cX6_gap 75 = .ok (.if_icmp .ne 81, 3) := by decide +kernel
theorem dX6_gap_78 : decode cX6_gap 78 = .ok (.iload_n 3, 1) := by decide +kernel
theorem dX6_gap_79 : decode cX6_gap 79 = .ok (.ifCond .ne 26, 3) := by decide +kernel
theorem dX6_gap_82 : decode cX6_gap 82 = .ok (.aload_n 0, 1) := by decide +kernel
theorem dX6_gap_83 : decode cX6_gap 83 = .ok (.getfield 30, 3) := by decide +kernel
theorem dX6_gap_86 : decode cX6_gap 86 = .ok (.bipush 8, 2) := by decide +kernel
theorem dX6_gap_88 : decode cX6_gap 88 = .ok (.aload_n 0, 1) := by decide +kernel
theorem dX6_gap_89 : decode cX6_gap 89 = .ok (.getfield 81, 3) := by decide +kernel
theorem dX6_gap_92 : decode cX6_gap 92 = .ok (.iload 5, 2) := by decide +kernel
theorem dX6_gap_94 : decode cX6_gap 94 = .ok (.iconst 1, 1) := by decide +kernel
theorem dX6_gap_95 : decode cX6_gap 95 = .ok (.isub, 1) := by decide +kernel
theorem dX6_gap_96 : decode cX6_gap 96 = .ok (.iaload, 1) := by decide +kernel
theorem dX6_gap_97 : decode cX6_gap 97 = .ok (.imul, 1) := by decide +kernel
theorem dX6_gap_98 : decode cX6_gap 98 = .ok (.bipush 6, 2) := by decide +kernel
theorem dX6_gap_100 : decode cX6_gap 100 = .ok (.iadd, 1) := by decide +kernel
theorem dX6_gap_101 : decode cX6_gap 101 = .ok (.iaload, 1) := by decide +kernel
theorem dX6_gap_102 : decode cX6_gap 102 = .ok (.goto 53, 3) := by decide +kernel
theorem dX6_gap_105 : decode cX6_gap 105 = .ok (.iload_n 3, 1) := by decide +kernel
theorem dX6_gap_106 : decode cX6_gap 106 = .ok (.iconst 1, 1) := by decide +kernel
theorem dX6_gap_107 : decode cX6_gap 107 = .ok (.if_icmp .ne 24, 3) := by decide +kernel
theorem dX6_gap_110 : decode cX6_gap 110 = .ok (.aload_n 0, 1) := by decide +kernel
theorem dX6_gap_111 : decode cX6_gap 111 = .ok (.getfield 30, 3) := by decide +kernel
theorem dX6_gap_114 : decode cX6_gap 114 = .ok (.bipush 8, 2) := by decide +kernel
theorem dX6_gap_116 : decode cX6_gap 116 = .ok (.aload_n 0, 1) := by decide +kernel
theorem dX6_gap_117 : decode cX6_gap 117 = .ok (.getfield 81, 3) := by decide +kernel
theorem dX6_gap_120 : decode cX6_gap 120 = .ok (.iload 5, 2) := by decide +kernel
theorem dX6_gap_122 : decode cX6_gap 122 = .ok (.iaload, 1) := by decide +kernel
theorem dX6_gap_123 : decode cX6_gap 123 = .ok (.imul, 1) := by decide +kernel
theorem dX6_gap_124 : decode cX6_gap 124 = .ok (.bipush 6, 2) := by decide +kernel
theorem dX6_gap_126 : decode cX6_gap 126 = .ok (.iadd, 1) := by decide +kernel
theorem dX6_gap_127 : decode cX6_gap 127 = .ok (.iaload, 1) := by decide +kernel
theorem dX6_gap_128 : decode cX6_gap 128 = .ok (.goto 27, 3) := by decide +kernel
theorem dX6_gap_131 : decode cX6_gap 131 = .ok (.iload_n 3, 1) := by decide +kernel
theorem dX6_gap_132 : decode cX6_gap 132 = .ok (.iconst 2, 1) := by decide +kernel
theorem dX6_gap_133 : decode cX6_gap 133 = .ok (.if_icmp .ne 15, 3) := by decide +kernel
theorem dX6_gap_136 : decode cX6_gap 136 = .ok (.aload_n 0, 1) := by decide +kernel
theorem dX6_gap_137 : decode cX6_gap 137 = .ok (.getfield 81, 3) := by decide +kernel
theorem dX6_gap_140 : decode cX6_gap 140 = .ok (.iload 5, 2) := by decide +kernel
theorem dX6_gap_142 : decode cX6_gap 142 = .ok (.iconst 1, 1) := by decide +kernel
theorem dX6_gap_143 : decode cX6_gap 143 = .ok (.isub, 1) := by decide +kernel
theorem dX6_gap_144 : decode cX6_gap 144 = .ok (.iaload, 1) := by decide +kernel
theorem dX6_gap_145 : decode cX6_gap 145 = .ok (.goto 10, 3) := by decide +kernel
theorem dX6_gap_148 : decode cX6_gap 148 = .ok (.aload_n 0, 1) := by decide +kernel
theorem dX6_gap_149 : decode cX6_gap 149 = .ok (.getfield 81, 3) := by decide +kernel
theorem dX6_gap_152 : decode cX6_gap 152 = .ok (.iload 5, 2) := by decide +kernel
theorem dX6_gap_154 : decode cX6_gap 154 = .ok (.iaload, 1) := by decide +kernel
theorem dX6_gap_155 : decode cX6_gap 155 = .ok (.ireturn, 1) := by decide +kernel
theorem dX6_gap_156 : decode cX6_gap 156 = .ok (.iinc 4 1, 3) := by decide +kernel
theorem dX6_gap_159 : decode cX6_gap 159 = .ok (.iinc 5 1, 3) := by decide +kernel
theorem dX6_gap_162 : decode cX6_gap 162 = .ok (.goto (-122), 3) := by decide +kernel
theorem dX6_gap_165 : decode cX6_gap 165 = .ok (.iconst (-1), 1) := by decide +kernel
theorem dX6_gap_166 : decode cX6_gap 166 = .ok (.ireturn, 1) := by decide +kernel
theorem dX6_breaks_0 : decode cX6_breaks 0 = .ok (.iload_n 1, 1) := by decide +kernel
theorem dX6_breaks_1 : decode cX6_breaks 1 = .ok (.iconst 0, 1) := by decide +kernel
theorem dX6_breaks_2 : decode cX6_breaks 2 = .ok (.aload_n 0, 1) := by decide +kernel
theorem dX6_breaks_3 : decode cX6_breaks 3 = .ok (.getfield 93, 3) := by decide +kernel
theorem dX6_breaks_6 : decode cX6_breaks 6 = .ok (.iconst 1, 1) := by decide +kernel
theorem dX6_breaks_7 : decode cX6_breaks 7 = .ok (.isub, 1) := by decide +kernel
theorem dX6_breaks_8 : decode cX6_breaks 8 = .ok (.invokestatic 96, 3) := by decide +kernel
theorem dX6_breaks_11 : decode cX6_breaks 11 = .ok (.ifCond .eq 11, 3) := by decide +kernel
theorem dX6_breaks_14 : decode cX6_breaks 14 = .ok (.aload_n 0, 1) := by decide +kernel
theorem dX6_breaks_15 : decode cX6_breaks 15 = .ok (.iload_n 1, 1) := by decide +kernel
theorem dX6_breaks_16 : decode cX6_breaks 16 = .ok (.invokevirtual 162, 3) := by decide +kernel
theorem dX6_breaks_19 : decode cX6_breaks 19 = .ok (.ifCond .ne 5, 3) := by decide +kernel
theorem dX6_breaks_22 : decode cX6_breaks 22 = .ok (.iconst (-1), 1) := by decide +kernel
theorem dX6_breaks_23 : decode cX6_breaks 23 = .ok (.ireturn, 1) := by decide +kernel
theorem dX6_breaks_24 : decode cX6_breaks 24 = .ok (.aload_n 0, 1) := by decide +kernel
theorem dX6_breaks_25 : decode cX6_breaks 25 = .ok (.aload_n 0, 1) := by decide +kernel
theorem dX6_breaks_26 : decode cX6_breaks 26 = .ok (.getfield 30, 3) := by decide +kernel
theorem dX6_breaks_29 : decode cX6_breaks 29 = .ok (.aload_n 0, 1) := by decide +kernel
theorem dX6_breaks_30 : decode cX6_breaks 30 = .ok (.getfield 195, 3) := by decide +kernel
theorem dX6_breaks_33 : decode cX6_breaks 33 = .ok (.invokevirtual 184, 3) := by decide +kernel
theorem dX6_breaks_36 : decode cX6_breaks 36 = .ok (.aload_n 0, 1) := by decide +kernel
theorem dX6_breaks_37 : decode cX6_breaks 37 = .ok (.invokevirtual 90, 3) := by decide +kernel
theorem dX6_breaks_40 : decode cX6_breaks 40 = .ok (.iconst 0, 1) := by decide +kernel
theorem dX6_breaks_41 : decode cX6_breaks 41 = .ok (.istore_n 2, 1) := by decide +kernel
theorem dX6_breaks_42 : decode cX6_breaks 42 = .ok (.iload_n 2, 1) := by decide +kernel
theorem dX6_breaks_43 : decode cX6_breaks 43 = .ok (.aload_n 0, 1) := by decide +kernel
theorem dX6_breaks_44 : decode cX6_breaks 44 = .ok (.getfield 195, 3) := by decide +kernel
theorem dX6_breaks_47 : decode cX6_breaks 47 = .ok (.if_icmp .ge 92, 3) := by decide +kernel
theorem dX6_breaks_50 : decode cX6_breaks 50 = .ok (.bipush 8, 2) := by decide +kernel
theorem dX6_breaks_52 : decode cX6_breaks 52 = .ok (.aload_n 0, 1) := by decide +kernel
theorem dX6_breaks_53 : decode cX6_breaks 53 = .ok (.getfield 78, 3) := by decide +kernel
theorem dX6_breaks_56 : decode cX6_breaks 56 = .ok (.iload_n 2, 1) := by decide +kernel
theorem dX6_breaks_57 : decode cX6_breaks 57 = .ok (.iaload, 1) := by decide +kernel
theorem dX6_breaks_58 : decode cX6_breaks 58 = .ok (.imul, 1) := by decide +kernel
theorem dX6_breaks_59 : decode cX6_breaks 59 = .ok (.istore_n 3, 1) := by decide +kernel
theorem dX6_breaks_60 : decode cX6_breaks 60 = .ok (.aload_n 0, 1) := by decide +kernel
theorem dX6_breaks_61 : decode cX6_breaks 61 = .ok (.getfield 30, 3) := by decide +kernel
theorem dX6_breaks_64 : decode cX6_breaks 64 = .ok (.iload_n 3, 1) := by decide +kernel
theorem dX6_breaks_65 : decode cX6_breaks 65 = .ok (.iconst 1, 1) := by decide +kernel
theorem dX6_breaks_66 : decode cX6_breaks 66 = .ok (.iadd, 1) := by decide +kernel
theorem dX6_breaks_67 : decode cX6_breaks 67 = .ok (.iaload, 1) := by decide +kernel
theorem dX6_breaks_68 : decode cX6_breaks 68 = .ok (.iload_n 1, 1) := by decide +kernel
theorem dX6_breaks_69 : decode cX6_breaks 69 = .ok (.if_icmp .ne 49, 3) := by decide +kernel
theorem dX6_breaks_72 : decode cX6_breaks 72 = .ok (.aload_n 0, 1) := by decide +kernel
theorem dX6_breaks_73 : decode cX6_breaks 73 = .ok (.getfield 30, 3) := by decide +kernel
theorem dX6_breaks_76 : decode cX6_breaks 76 = .ok (.iload_n 3, 1) := by decide +kernel
theorem dX6_breaks_77 : decode cX6_breaks 77 = .ok (.iaload, 1) := by decide +kernel
theorem dX6_breaks_78 : decode cX6_breaks 78 = .ok (.bipush 9, 2) := by decide +kernel
theorem dX6_breaks_80 : decode cX6_breaks 80 = .ok (.if_icmp .eq 14, 3) := by decide +kernel
theorem dX6_breaks_83 : decode cX6_breaks 83 = .ok (.aload_n 0, 1) := by decide +kernel
theorem dX6_breaks_84 : decode cX6_breaks 84 = .ok (.getfield 30, 3) := by decide +kernel
theorem dX6_breaks_87 : decode cX6_breaks 87 = .ok (.iload_n 3, 1) := by decide +kernel
theorem dX6_breaks_88 : decode cX6_breaks 88 = .ok (.iaload, 1) := by decide +kernel
theorem dX6_breaks_89 : decode cX6_breaks 89 = .ok (.bipush 10, 2) := by decide +kernel
theorem dX6_breaks_91 : decode cX6_breaks 91 = .ok (.if_icmp .ne 27, 3) := by decide +kernel
theorem dX6_breaks_94 : decode cX6_breaks 94 = .ok (.aload_n 0, 1) := by decide +kernel
theorem dX6_breaks_95 : decode cX6_breaks 95 = .ok (.getfield 30, 3) := by decide +kernel
theorem dX6_breaks_98 : decode cX6_breaks 98 = .ok (.iload_n 3, 1) := by decide +kernel
theorem dX6_breaks_99 : decode cX6_breaks 99 = .ok (.iconst 4, 1) := by decide +kernel
theorem dX6_breaks_100 : decode cX6_breaks 100 = .ok (.iadd, 1) := by decide +kernel
theorem dX6_breaks_101 : decode cX6_breaks 101 = .ok (.iaload, 1) := by decide +kernel
theorem dX6_breaks_102 : decode cX6_breaks 102 = .ok (.aload_n 0, 1) := by decide +kernel
theorem dX6_breaks_103 : decode cX6_breaks 103 = .ok (.getfield 54, 3) := by decide +kernel
theorem dX6_breaks_106 : decode cX6_breaks 106 = .ok (.iload_n 1, 1) := by decide +kernel
theorem dX6_breaks_107 : decode cX6_breaks 107 = .ok (.iaload, 1) := by decide +kernel
theorem dX6_breaks_108 : decode cX6_breaks 108 = .ok (.if_icmp .eq 10, 3) := by decide +kernel
theorem dX6_breaks_111 : decode cX6_breaks 111 = .ok (.aload_n 0, 1) := by decide +kernel
theorem dX6_breaks_112 : decode cX6_breaks 112 = .ok (.getfield 78, 3) := by decide +kernel
theorem dX6_breaks_115 : decode cX6_breaks 115 = .ok (.iload_n 2, 1) := by decide +kernel
theorem dX6_breaks_116 : decode cX6_breaks 116 = .ok (.iaload, 1) := by decide +kernel
theorem dX6_breaks_117 : decode cX6_breaks 117 = .ok (.ireturn, 1) := by decide +kernel
theorem dX6_breaks_118 : decode cX6_breaks 118 = .ok (.aload_n 0, 1) := by decide +kernel
theorem dX6_breaks_119 : decode cX6_breaks 119 = .ok (.aload_n 0, 1) := by decide +kernel
theorem dX6_breaks_120 : decode cX6_breaks 120 = .ok (.getfield 30, 3) := by decide +kernel
theorem dX6_breaks_123 : decode cX6_breaks 123 = .ok (.aload_n 0, 1) := by decide +kernel
theorem dX6_breaks_124 : decode cX6_breaks 124 = .ok (.getfield 78, 3) := by decide +kernel
theorem dX6_breaks_127 : decode cX6_breaks 127 = .ok (.iload_n 2, 1) := by decide +kernel
theorem dX6_breaks_128 : decode cX6_breaks 128 = .ok (.iaload, 1) := by decide +kernel
theorem dX6_breaks_129 : decode cX6_breaks 129 = .ok (.invokevirtual 192, 3) := by decide +kernel
theorem dX6_breaks_132 : decode cX6_breaks 132 = .ok (.pop, 1) := by decide +kernel
theorem dX6_breaks_133 : decode cX6_breaks 133 = .ok (.iinc 2 1, 3) := by decide +kernel
theorem dX6_breaks_136 : decode cX6_breaks 136 = .ok (.goto (-94), 3) := by decide +kernel
theorem dX6_breaks_139 : decode cX6_breaks 139 = .ok (.iconst (-1), 1) := by decide +kernel
theorem dX6_breaks_140 : decode cX6_breaks 140 = .ok (.ireturn, 1) := by decide +kernel
theorem dX6_due_0 : decode cX6_due 0 = .ok (.aload_n 0, 1) := by decide +kernel
theorem dX6_due_1 : decode cX6_due 1 = .ok (.invokevirtual 245, 3) := by decide +kernel
theorem dX6_due_4 : decode cX6_due 4 = .ok (.iconst 0, 1) := by decide +kernel
theorem dX6_due_5 : decode cX6_due 5 = .ok (.istore_n 3, 1) := by decide +kernel
theorem dX6_due_6 : decode cX6_due 6 = .ok (.iconst 0, 1) := by decide +kernel
theorem dX6_due_7 : decode cX6_due 7 = .ok (.istore 4, 2) := by decide +kernel
theorem dX6_due_9 : decode cX6_due 9 = .ok (.iload 4, 2) := by decide +kernel
theorem dX6_due_11 : decode cX6_due 11 = .ok (.aload_n 0, 1) := by decide +kernel
theorem dX6_due_12 : decode cX6_due 12 = .ok (.getfield 93, 3) := by decide +kernel
theorem dX6_due_15 : decode cX6_due 15 = .ok (.if_icmp .ge 58, 3) := by decide +kernel
theorem dX6_due_18 : decode cX6_due 18 = .ok (.iload_n 1, 1) := by decide +kernel
theorem dX6_due_19 : decode cX6_due 19 = .ok (.ifCond .lt 54, 3) := by decide +kernel
theorem dX6_due_22 : decode cX6_due 22 = .ok (.aload_n 0, 1) := by decide +kernel
theorem dX6_due_23 : decode cX6_due 23 = .ok (.iload 4, 2) := by decide +kernel
theorem dX6_due_25 : decode cX6_due 25 = .ok (.invokevirtual 113, 3) := by decide +kernel
theorem dX6_due_28 : decode cX6_due 28 = .ok (.ifCond .eq 39, 3) := by decide +kernel
theorem dX6_due_31 : decode cX6_due 31 = .ok (.aload_n 0, 1) := by decide +kernel
theorem dX6_due_32 : decode cX6_due 32 = .ok (.getfield 57, 3) := by decide +kernel
theorem dX6_due_35 : decode cX6_due 35 = .ok (.iload 4, 2) := by decide +kernel
theorem dX6_due_37 : decode cX6_due 37 = .ok (.iaload, 1) := by decide +kernel
theorem dX6_due_38 : decode cX6_due 38 = .ok (.iload_n 1, 1) := by decide +kernel
theorem dX6_due_39 : decode cX6_due 39 = .ok (.if_icmp .eq 17, 3) := by decide +kernel
theorem dX6_due_42 : decode cX6_due 42 = .ok (.aload_n 0, 1) := by decide +kernel
theorem dX6_due_43 : decode cX6_due 43 = .ok (.getfield 60, 3) := by decide +kernel
theorem dX6_due_46 : decode cX6_due 46 = .ok (.iload 4, 2) := by decide +kernel
theorem dX6_due_48 : decode cX6_due 48 = .ok (.iaload, 1) := by decide +kernel
theorem dX6_due_49 : decode cX6_due 49 = .ok (.iload_n 1, 1) := by decide +kernel
theorem dX6_due_50 : decode cX6_due 50 = .ok (.if_icmp .eq 6, 3) := by decide +kernel
theorem dX6_due_53 : decode cX6_due 53 = .ok (.goto 14, 3) := by decide +kernel
theorem dX6_due_56 : decode cX6_due 56 = .ok (.iload_n 3, 1) := by decide +kernel
theorem dX6_due_57 : decode cX6_due 57 = .ok (.iload_n 2, 1) := by decide +kernel
theorem dX6_due_58 : decode cX6_due 58 = .ok (.if_icmp .ne 6, 3) := by decide +kernel
theorem dX6_due_61 : decode cX6_due 61 = .ok (.iload 4, 2) := by decide +kernel
theorem dX6_due_63 : decode cX6_due 63 = .ok (.ireturn, 1) := by decide +kernel
theorem dX6_due_64 : decode cX6_due 64 = .ok (.iinc 3 1, 3) := by decide +kernel
theorem dX6_due_67 : decode cX6_due 67 = .ok (.iinc 4 1, 3) := by decide +kernel
theorem dX6_due_70 : decode cX6_due 70 = .ok (.goto (-61), 3) := by decide +kernel
theorem dX6_due_73 : decode cX6_due 73 = .ok (.iconst (-1), 1) := by decide +kernel
theorem dX6_due_74 : decode cX6_due 74 = .ok (.ireturn, 1) := by decide +kernel
theorem dX6_freeze_0 : decode cX6_freeze 0 = .ok (.iconst 0, 1) := by decide +kernel
theorem dX6_freeze_1 : decode cX6_freeze 1 = .ok (.istore_n 1, 1) := by decide +kernel
theorem dX6_freeze_2 : decode cX6_freeze 2 = .ok (.iload_n 1, 1) := by decide +kernel
theorem dX6_freeze_3 : decode cX6_freeze 3 = .ok (.bipush 8, 2) := by decide +kernel
theorem dX6_freeze_5 : decode cX6_freeze 5 = .ok (.aload_n 0, 1) := by decide +kernel
theorem dX6_freeze_6 : decode cX6_freeze 6 = .ok (.getfield 195, 3) := by decide +kernel
theorem dX6_freeze_9 : decode cX6_freeze 9 = .ok (.imul, 1) := by decide +kernel
theorem dX6_freeze_10 : decode cX6_freeze 10 = .ok (.if_icmp .ge 21, 3) := by decide +kernel
theorem dX6_freeze_13 : decode cX6_freeze 13 = .ok (.aload_n 0, 1) := by decide +kernel
theorem dX6_freeze_14 : decode cX6_freeze 14 = .ok (.getfield 33, 3) := by decide +kernel
theorem dX6_freeze_17 : decode cX6_freeze 17 = .ok (.iload_n 1, 1) := by decide +kernel
theorem dX6_freeze_18 : decode cX6_freeze 18 = .ok (.aload_n 0, 1) := by decide +kernel
theorem dX6_freeze_19 : decode cX6_freeze 19 = .ok (.getfield 30, 3) := by decide +kernel
theorem dX6_freeze_22 : decode cX6_freeze 22 = .ok (.iload_n 1, 1) := by decide +kernel
theorem dX6_freeze_23 : decode cX6_freeze 23 = .ok (.iaload, 1) := by decide +kernel
theorem dX6_freeze_24 : decode cX6_freeze 24 = .ok (.iastore, 1) := by decide +kernel
theorem dX6_freeze_25 : decode cX6_freeze 25 = .ok (.iinc 1 1, 3) := by decide +kernel
theorem dX6_freeze_28 : decode cX6_freeze 28 = .ok (.goto (-26), 3) := by decide +kernel
theorem dX6_freeze_31 : decode cX6_freeze 31 = .ok (.aload_n 0, 1) := by decide +kernel
theorem dX6_freeze_32 : decode cX6_freeze 32 = .ok (.aload_n 0, 1) := by decide +kernel
theorem dX6_freeze_33 : decode cX6_freeze 33 = .ok (.getfield 195, 3) := by decide +kernel
theorem dX6_freeze_36 : decode cX6_freeze 36 = .ok (.putfield 9, 3) := by decide +kernel
theorem dX6_freeze_39 : decode cX6_freeze 39 = .ok (.aload_n 0, 1) := by decide +kernel
theorem dX6_freeze_40 : decode cX6_freeze 40 = .ok (.getfield 9, 3) := by decide +kernel
theorem dX6_freeze_43 : decode cX6_freeze 43 = .ok (.ireturn, 1) := by decide +kernel
theorem dX6_alter_0 : decode cX6_alter 0 = .ok (.iload_n 1, 1) := by decide +kernel
theorem dX6_alter_1 : decode cX6_alter 1 = .ok (.iconst 0, 1) := by decide +kernel
theorem dX6_alter_2 : decode cX6_alter 2 = .ok (.aload_n 0, 1) := by decide +kernel
theorem dX6_alter_3 : decode cX6_alter 3 = .ok (.getfield 9, 3) := by decide +kernel
theorem dX6_alter_6 : decode cX6_alter 6 = .ok (.iconst 1, 1) := by decide +kernel
theorem dX6_alter_7 : decode cX6_alter 7 = .ok (.isub, 1) := by decide +kernel
theorem dX6_alter_8 : decode cX6_alter 8 = .ok (.invokestatic 96, 3) := by decide +kernel
theorem dX6_alter_11 : decode cX6_alter 11 = .ok (.ifCond .eq 13, 3) := by decide +kernel
theorem dX6_alter_14 : decode cX6_alter 14 = .ok (.iload_n 2, 1) := by decide +kernel
theorem dX6_alter_15 : decode cX6_alter 15 = .ok (.iconst 0, 1) := by decide +kernel
theorem dX6_alter_16 : decode cX6_alter 16 = .ok (.bipush 6, 2) := by decide +kernel
theorem dX6_alter_18 : decode cX6_alter 18 = .ok (.invokestatic 96, 3) := by decide +kernel
theorem dX6_alter_21 : decode cX6_alter 21 = .ok (.ifCond .ne 5, 3) := by decide +kernel
theorem dX6_alter_24 : decode cX6_alter 24 = .ok (.iconst 0, 1) := by decide +kernel
theorem dX6_alter_25 : decode cX6_alter 25 = .ok (.ireturn, 1) := by decide +kernel
theorem dX6_alter_26 : decode cX6_alter 26 = .ok (.aload_n 0, 1) := by decide +kernel
theorem dX6_alter_27 : decode cX6_alter 27 = .ok (.getfield 33, 3) := by decide +kernel
theorem dX6_alter_30 : decode cX6_alter 30 = .ok (.bipush 8, 2) := by decide +kernel
theorem dX6_alter_32 : decode cX6_alter 32 = .ok (.iload_n 1, 1) := by decide +kernel
theorem dX6_alter_33 : decode cX6_alter 33 = .ok (.imul, 1) := by decide +kernel
theorem dX6_alter_34 : decode cX6_alter 34 = .ok (.iload_n 2, 1) := by decide +kernel
theorem dX6_alter_35 : decode cX6_alter 35 = .ok (.iadd, 1) := by decide +kernel
theorem dX6_alter_36 : decode cX6_alter 36 = .ok (.iload_n 3, 1) := by decide +kernel
theorem dX6_alter_37 : decode cX6_alter 37 = .ok (.iastore, 1) := by decide +kernel
theorem dX6_alter_38 : decode cX6_alter 38 = .ok (.iconst 1, 1) := by decide +kernel
theorem dX6_alter_39 : decode cX6_alter 39 = .ok (.ireturn, 1) := by decide +kernel
theorem dX6_check_0 : decode cX6_check 0 = .ok (.aload_n 0, 1) := by decide +kernel
theorem dX6_check_1 : decode cX6_check 1 = .ok (.getfield 9, 3) := by decide +kernel
theorem dX6_check_4 : decode cX6_check 4 = .ok (.iconst (-1), 1) := by decide +kernel
theorem dX6_check_5 : decode cX6_check 5 = .ok (.if_icmp .ne 8, 3) := by decide +kernel
theorem dX6_check_8 : decode cX6_check 8 = .ok (.bipush (-2), 2) := by decide +kernel
theorem dX6_check_10 : decode cX6_check 10 = .ok (.goto 15, 3) := by decide +kernel
theorem dX6_check_13 : decode cX6_check 13 = .ok (.aload_n 0, 1) := by decide +kernel
theorem dX6_check_14 : decode cX6_check 14 = .ok (.aload_n 0, 1) := by decide +kernel
theorem dX6_check_15 : decode cX6_check 15 = .ok (.getfield 33, 3) := by decide +kernel
theorem dX6_check_18 : decode cX6_check 18 = .ok (.aload_n 0, 1) := by decide +kernel
theorem dX6_check_19 : decode cX6_check 19 = .ok (.getfield 9, 3) := by decide +kernel
theorem dX6_check_22 : decode cX6_check 22 = .ok (.invokevirtual 208, 3) := by decide +kernel
theorem dX6_check_25 : decode cX6_check 25 = .ok (.ireturn, 1) := by decide +kernel
theorem dX6_thaw_0 : decode cX6_thaw 0 = .ok (.aload_n 0, 1) := by decide +kernel
theorem dX6_thaw_1 : decode cX6_thaw 1 = .ok (.getfield 9, 3) := by decide +kernel
theorem dX6_thaw_4 : decode cX6_thaw 4 = .ok (.iconst (-1), 1) := by decide +kernel
theorem dX6_thaw_5 : decode cX6_thaw 5 = .ok (.if_icmp .eq 19, 3) := by decide +kernel
theorem dX6_thaw_8 : decode cX6_thaw 8 = .ok (.aload_n 0, 1) := by decide +kernel
theorem dX6_thaw_9 : decode cX6_thaw 9 = .ok (.aload_n 0, 1) := by decide +kernel
theorem dX6_thaw_10 : decode cX6_thaw 10 = .ok (.getfield 33, 3) := by decide +kernel
theorem dX6_thaw_13 : decode cX6_thaw 13 = .ok (.aload_n 0, 1) := by decide +kernel
theorem dX6_thaw_14 : decode cX6_thaw 14 = .ok (.getfield 9, 3) := by decide +kernel
theorem dX6_thaw_17 : decode cX6_thaw 17 = .ok (.invokevirtual 208, 3) := by decide +kernel
theorem dX6_thaw_20 : decode cX6_thaw 20 = .ok (.iconst (-1), 1) := by decide +kernel
theorem dX6_thaw_21 : decode cX6_thaw 21 = .ok (.if_icmp .eq 5, 3) := by decide +kernel
theorem dX6_thaw_24 : decode cX6_thaw 24 = .ok (.iconst 0, 1) := by decide +kernel
theorem dX6_thaw_25 : decode cX6_thaw 25 = .ok (.ireturn, 1) := by decide +kernel
theorem dX6_thaw_26 : decode cX6_thaw 26 = .ok (.aload_n 0, 1) := by decide +kernel
theorem dX6_thaw_27 : decode cX6_thaw 27 = .ok (.aload_n 0, 1) := by decide +kernel
theorem dX6_thaw_28 : decode cX6_thaw 28 = .ok (.getfield 9, 3) := by decide +kernel
theorem dX6_thaw_31 : decode cX6_thaw 31 = .ok (.putfield 195, 3) := by decide +kernel
theorem dX6_thaw_34 : decode cX6_thaw 34 = .ok (.iconst 0, 1) := by decide +kernel
theorem dX6_thaw_35 : decode cX6_thaw 35 = .ok (.istore_n 1, 1) := by decide +kernel
theorem dX6_thaw_36 : decode cX6_thaw 36 = .ok (.iload_n 1, 1) := by decide +kernel
theorem dX6_thaw_37 : decode cX6_thaw 37 = .ok (.bipush 8, 2) := by decide +kernel
theorem dX6_thaw_39 : decode cX6_thaw 39 = .ok (.aload_n 0, 1) := by decide +kernel
theorem dX6_thaw_40 : decode cX6_thaw 40 = .ok (.getfield 195, 3) := by decide +kernel
theorem dX6_thaw_43 : decode cX6_thaw 43 = .ok (.imul, 1) := by decide +kernel
theorem dX6_thaw_44 : decode cX6_thaw 44 = .ok (.if_icmp .ge 21, 3) := by decide +kernel
theorem dX6_thaw_47 : decode cX6_thaw 47 = .ok (.aload_n 0, 1) := by decide +kernel
theorem dX6_thaw_48 : decode cX6_thaw 48 = .ok (.getfield 30, 3) := by decide +kernel
theorem dX6_thaw_51 : decode cX6_thaw 51 = .ok (.iload_n 1, 1) := by decide +kernel
theorem dX6_thaw_52 : decode cX6_thaw 52 = .ok (.aload_n 0, 1) := by decide +kernel
theorem dX6_thaw_53 : decode cX6_thaw 53 = .ok (.getfield 33, 3) := by decide +kernel
theorem dX6_thaw_56 : decode cX6_thaw 56 = .ok (.iload_n 1, 1) := by decide +kernel
theorem dX6_thaw_57 : decode cX6_thaw 57 = .ok (.iaload, 1) := by decide +kernel
theorem dX6_thaw_58 : decode cX6_thaw 58 = .ok (.iastore, 1) := by decide +kernel
theorem dX6_thaw_59 : decode cX6_thaw 59 = .ok (.iinc 1 1, 3) := by decide +kernel
theorem dX6_thaw_62 : decode cX6_thaw 62 = .ok (.goto (-26), 3) := by decide +kernel
theorem dX6_thaw_65 : decode cX6_thaw 65 = .ok (.iconst 1, 1) := by decide +kernel
theorem dX6_thaw_66 : decode cX6_thaw 66 = .ok (.ireturn, 1) := by decide +kernel
theorem dJ6_bitCount_0f7a4_0 : decode cJ6_bitCount_0f7a4 0 = .ok (.iload_n 0, 1) := by decide +kernel
theorem dJ6_bitCount_0f7a4_1 : decode cJ6_bitCount_0f7a4 1 = .ok (.iload_n 0, 1) := by decide +kernel
theorem dJ6_bitCount_0f7a4_2 : decode cJ6_bitCount_0f7a4 2 = .ok (.iconst 1, 1) := by decide +kernel
theorem dJ6_bitCount_0f7a4_3 : decode cJ6_bitCount_0f7a4 3 = .ok (.iushr, 1) := by decide +kernel
theorem dJ6_bitCount_0f7a4_4 : decode cJ6_bitCount_0f7a4 4 = .ok (.ldc_w 265, 3) := by decide +kernel
theorem dJ6_bitCount_0f7a4_7 : decode cJ6_bitCount_0f7a4 7 = .ok (.iand, 1) := by decide +kernel
theorem dJ6_bitCount_0f7a4_8 : decode cJ6_bitCount_0f7a4 8 = .ok (.isub, 1) := by decide +kernel
theorem dJ6_bitCount_0f7a4_9 : decode cJ6_bitCount_0f7a4 9 = .ok (.istore_n 0, 1) := by decide +kernel
theorem dJ6_bitCount_0f7a4_10 : decode cJ6_bitCount_0f7a4 10 = .ok (.iload_n 0, 1) := by decide +kernel
theorem dJ6_bitCount_0f7a4_11 : decode cJ6_bitCount_0f7a4 11 = .ok (.ldc_w 266, 3) := by decide +kernel
theorem dJ6_bitCount_0f7a4_14 : decode cJ6_bitCount_0f7a4 14 = .ok (.iand, 1) := by decide +kernel
theorem dJ6_bitCount_0f7a4_15 : decode cJ6_bitCount_0f7a4 15 = .ok (.iload_n 0, 1) := by decide +kernel
theorem dJ6_bitCount_0f7a4_16 : decode cJ6_bitCount_0f7a4 16 = .ok (.iconst 2, 1) := by decide +kernel
theorem dJ6_bitCount_0f7a4_17 : decode cJ6_bitCount_0f7a4 17 = .ok (.iushr, 1) := by decide +kernel
theorem dJ6_bitCount_0f7a4_18 : decode cJ6_bitCount_0f7a4 18 = .ok (.ldc_w 266, 3) := by decide +kernel
theorem dJ6_bitCount_0f7a4_21 : decode cJ6_bitCount_0f7a4 21 = .ok (.iand, 1) := by decide +kernel
theorem dJ6_bitCount_0f7a4_22 : decode cJ6_bitCount_0f7a4 22 = .ok (.iadd, 1) := by decide +kernel
theorem dJ6_bitCount_0f7a4_23 : decode cJ6_bitCount_0f7a4 23 = .ok (.istore_n 0, 1) := by decide +kernel
theorem dJ6_bitCount_0f7a4_24 : decode cJ6_bitCount_0f7a4 24 = .ok (.iload_n 0, 1) := by decide +kernel
theorem dJ6_bitCount_0f7a4_25 : decode cJ6_bitCount_0f7a4 25 = .ok (.iload_n 0, 1) := by decide +kernel
theorem dJ6_bitCount_0f7a4_26 : decode cJ6_bitCount_0f7a4 26 = .ok (.iconst 4, 1) := by decide +kernel
theorem dJ6_bitCount_0f7a4_27 : decode cJ6_bitCount_0f7a4 27 = .ok (.iushr, 1) := by decide +kernel
theorem dJ6_bitCount_0f7a4_28 : decode cJ6_bitCount_0f7a4 28 = .ok (.iadd, 1) := by decide +kernel
theorem dJ6_bitCount_0f7a4_29 : decode cJ6_bitCount_0f7a4 29 = .ok (.ldc_w 267, 3) := by decide +kernel
theorem dJ6_bitCount_0f7a4_32 : decode cJ6_bitCount_0f7a4 32 = .ok (.iand, 1) := by decide +kernel
theorem dJ6_bitCount_0f7a4_33 : decode cJ6_bitCount_0f7a4 33 = .ok (.istore_n 0, 1) := by decide +kernel
theorem dJ6_bitCount_0f7a4_34 : decode cJ6_bitCount_0f7a4 34 = .ok (.iload_n 0, 1) := by decide +kernel
theorem dJ6_bitCount_0f7a4_35 : decode cJ6_bitCount_0f7a4 35 = .ok (.iload_n 0, 1) := by decide +kernel
theorem dJ6_bitCount_0f7a4_36 : decode cJ6_bitCount_0f7a4 36 = .ok (.bipush 8, 2) := by decide +kernel
theorem dJ6_bitCount_0f7a4_38 : decode cJ6_bitCount_0f7a4 38 = .ok (.iushr, 1) := by decide +kernel
theorem dJ6_bitCount_0f7a4_39 : decode cJ6_bitCount_0f7a4 39 = .ok (.iadd, 1) := by decide +kernel
theorem dJ6_bitCount_0f7a4_40 : decode cJ6_bitCount_0f7a4 40 = .ok (.istore_n 0, 1) := by decide +kernel
theorem dJ6_bitCount_0f7a4_41 : decode cJ6_bitCount_0f7a4 41 = .ok (.iload_n 0, 1) := by decide +kernel
theorem dJ6_bitCount_0f7a4_42 : decode cJ6_bitCount_0f7a4 42 = .ok (.iload_n 0, 1) := by decide +kernel
theorem dJ6_bitCount_0f7a4_43 : decode cJ6_bitCount_0f7a4 43 = .ok (.bipush 16, 2) := by decide +kernel
theorem dJ6_bitCount_0f7a4_45 : decode cJ6_bitCount_0f7a4 45 = .ok (.iushr, 1) := by decide +kernel
theorem dJ6_bitCount_0f7a4_46 : decode cJ6_bitCount_0f7a4 46 = .ok (.iadd, 1) := by decide +kernel
theorem dJ6_bitCount_0f7a4_47 : decode cJ6_bitCount_0f7a4 47 = .ok (.istore_n 0, 1) := by decide +kernel
theorem dJ6_bitCount_0f7a4_48 : decode cJ6_bitCount_0f7a4 48 = .ok (.iload_n 0, 1) := by decide +kernel
theorem dJ6_bitCount_0f7a4_49 : decode cJ6_bitCount_0f7a4 49 = .ok (.bipush 63, 2) := by decide +kernel
theorem dJ6_bitCount_0f7a4_51 : decode cJ6_bitCount_0f7a4 51 = .ok (.iand, 1) := by decide +kernel
theorem dJ6_bitCount_0f7a4_52 : decode cJ6_bitCount_0f7a4 52 = .ok (.ireturn, 1) := by decide +kernel
theorem dJ9_max_7cf53_0 : decode cJ9_max_7cf53 0 = .ok (.iload_n 0, 1) := by decide +kernel
theorem dJ9_max_7cf53_1 : decode cJ9_max_7cf53 1 = .ok (.iload_n 1, 1) := by decide +kernel
theorem dJ9_max_7cf53_2 : decode cJ9_max_7cf53 2 = .ok (.if_icmp .lt 7, 3) := by decide +kernel
theorem dJ9_max_7cf53_5 : decode cJ9_max_7cf53 5 = .ok (.iload_n 0, 1) := by decide +kernel
theorem dJ9_max_7cf53_6 : decode cJ9_max_7cf53 6 = .ok (.goto 4, 3) := by decide +kernel
theorem dJ9_max_7cf53_9 : decode cJ9_max_7cf53 9 = .ok (.iload_n 1, 1) := by decide +kernel
theorem dJ9_max_7cf53_10 : decode cJ9_max_7cf53 10 = .ok (.ireturn, 1) := by decide +kernel
theorem dJ7_fill_53178_0 : decode cJ7_fill_53178 0 = .ok (.iconst 0, 1) := by decide +kernel
theorem dJ7_fill_53178_1 : decode cJ7_fill_53178 1 = .ok (.istore_n 2, 1) := by decide +kernel
theorem dJ7_fill_53178_2 : decode cJ7_fill_53178 2 = .ok (.aload_n 0, 1) := by decide +kernel
theorem dJ7_fill_53178_3 : decode cJ7_fill_53178 3 = .ok (.arraylength, 1) := by decide +kernel
theorem dJ7_fill_53178_4 : decode cJ7_fill_53178 4 = .ok (.istore_n 3, 1) := by decide +kernel
theorem dJ7_fill_53178_5 : decode cJ7_fill_53178 5 = .ok (.iload_n 2, 1) := by decide +kernel
theorem dJ7_fill_53178_6 : decode cJ7_fill_53178 6 = .ok (.iload_n 3, 1) := by decide +kernel
theorem dJ7_fill_53178_7 : decode cJ7_fill_53178 7 = .ok (.if_icmp .ge 13, 3) := by decide +kernel
theorem dJ7_fill_53178_10 : decode cJ7_fill_53178 10 = .ok (.aload_n 0, 1) := by decide +kernel
theorem dJ7_fill_53178_11 : decode cJ7_fill_53178 11 = .ok (.iload_n 2, 1) := by decide +kernel
theorem dJ7_fill_53178_12 : decode cJ7_fill_53178 12 = .ok (.iload_n 1, 1) := by decide +kernel
theorem dJ7_fill_53178_13 : decode cJ7_fill_53178 13 = .ok (.iastore, 1) := by decide +kernel
theorem dJ7_fill_53178_14 : decode cJ7_fill_53178 14 = .ok (.iinc 2 1, 3) := by decide +kernel
theorem dJ7_fill_53178_17 : decode cJ7_fill_53178 17 = .ok (.goto (-12), 3) := by decide +kernel
theorem dJ7_fill_53178_20 : decode cJ7_fill_53178 20 = .ok (.return_, 1) := by decide +kernel
theorem dL_law_0 : decode cL_law 0 = .ok (.new 7, 3) := by decide +kernel
theorem dL_law_3 : decode cL_law 3 = .ok (.dup, 1) := by decide +kernel
theorem dL_law_4 : decode cL_law 4 = .ok (.invokespecial 9, 3) := by decide +kernel
theorem dL_law_7 : decode cL_law 7 = .ok (.astore_n 1, 1) := by decide +kernel
theorem dL_law_8 : decode cL_law 8 = .ok (.new 10, 3) := by decide +kernel
theorem dL_law_11 : decode cL_law 11 = .ok (.dup, 1) := by decide +kernel
theorem dL_law_12 : decode cL_law 12 = .ok (.invokespecial 12, 3) := by decide +kernel
theorem dL_law_15 : decode cL_law 15 = .ok (.astore_n 2, 1) := by decide +kernel
theorem dL_law_16 : decode cL_law 16 = .ok (.iconst 0, 1) := by decide +kernel
theorem dL_law_17 : decode cL_law 17 = .ok (.istore_n 3, 1) := by decide +kernel
theorem dL_law_18 : decode cL_law 18 = .ok (.iload_n 3, 1) := by decide +kernel
theorem dL_law_19 : decode cL_law 19 = .ok (.aload_n 0, 1) := by decide +kernel
theorem dL_law_20 : decode cL_law 20 = .ok (.arraylength, 1) := by decide +kernel
theorem dL_law_21 : decode cL_law 21 = .ok (.bipush 8, 2) := by decide +kernel
theorem dL_law_23 : decode cL_law 23 = .ok (.isub, 1) := by decide +kernel
theorem dL_law_24 : decode cL_law 24 = .ok (.if_icmp .gt 843, 3) := by decide +kernel
theorem dL_law_27 : decode cL_law 27 = .ok (.aload_n 0, 1) := by decide +kernel
theorem dL_law_28 : decode cL_law 28 = .ok (.iload_n 3, 1) := by decide +kernel
theorem dL_law_29 : decode cL_law 29 = .ok (.iaload, 1) := by decide +kernel
theorem dL_law_30 : decode cL_law 30 = .ok (.bipush 31, 2) := by decide +kernel
theorem dL_law_32 : decode cL_law 32 = .ok (.iand, 1) := by decide +kernel
theorem dL_law_33 : decode cL_law 33 = .ok (.tableswitch 828 0 20 #[99, 138, 177, 210, 243, 266, 353, 376, 429, 472, 505, 528, 561, 614, 647, 690, 713, 746, 759, 802, 815], 99) := by decide +kernel
theorem dL_law_132 : decode cL_law 132 = .ok (.aload_n 1, 1) := by decide +kernel
theorem dL_law_133 : decode cL_law 133 = .ok (.aload_n 0, 1) := by decide +kernel
theorem dL_law_134 : decode cL_law 134 = .ok (.iload_n 3, 1) := by decide +kernel
theorem dL_law_135 : decode cL_law 135 = .ok (.iconst 1, 1) := by decide +kernel
theorem dL_law_136 : decode cL_law 136 = .ok (.iadd, 1) := by decide +kernel
theorem dL_law_137 : decode cL_law 137 = .ok (.iaload, 1) := by decide +kernel
theorem dL_law_138 : decode cL_law 138 = .ok (.ifCond .eq 7, 3) := by decide +kernel
theorem dL_law_141 : decode cL_law 141 = .ok (.iconst 1, 1) := by decide +kernel
theorem dL_law_142 : decode cL_law 142 = .ok (.goto 4, 3) := by decide +kernel
theorem dL_law_145 : decode cL_law 145 = .ok (.iconst 0, 1) := by decide +kernel
theorem dL_law_146 : decode cL_law 146 = .ok (.invokevirtual 13, 3) := by decide +kernel
theorem dL_law_149 : decode cL_law 149 = .ok (.aload_n 2, 1) := by decide +kernel
theorem dL_law_150 : decode cL_law 150 = .ok (.aload_n 0, 1) := by decide +kernel
theorem dL_law_151 : decode cL_law 151 = .ok (.iload_n 3, 1) := by decide +kernel
theorem dL_law_152 : decode cL_law 152 = .ok (.iconst 1, 1) := by decide +kernel
theorem dL_law_153 : decode cL_law 153 = .ok (.iadd, 1) := by decide +kernel
theorem dL_law_154 : decode cL_law 154 = .ok (.iaload, 1) := by decide +kernel
theorem dL_law_155 : decode cL_law 155 = .ok (.ifCond .eq 7, 3) := by decide +kernel
theorem dL_law_158 : decode cL_law 158 = .ok (.iconst 1, 1) := by decide +kernel
theorem dL_law_159 : decode cL_law 159 = .ok (.goto 4, 3) := by decide +kernel
theorem dL_law_162 : decode cL_law 162 = .ok (.iconst 0, 1) := by decide +kernel
theorem dL_law_163 : decode cL_law 163 = .ok (.invokevirtual 17, 3) := by decide +kernel
theorem dL_law_166 : decode cL_law 166 = .ok (.if_icmp .eq 695, 3) := by decide +kernel
theorem dL_law_169 : decode cL_law 169 = .ok (.iconst 0, 1) := by decide +kernel
theorem dL_law_170 : decode cL_law 170 = .ok (.ireturn, 1) := by decide +kernel
theorem dL_law_171 : decode cL_law 171 = .ok (.aload_n 1, 1) := by decide +kernel
theorem dL_law_172 : decode cL_law 172 = .ok (.aload_n 0, 1) := by decide +kernel
theorem dL_law_173 : decode cL_law 173 = .ok (.iload_n 3, 1) := by decide +kernel
theorem dL_law_174 : decode cL_law 174 = .ok (.iconst 1, 1) := by decide +kernel
theorem dL_law_175 : decode cL_law 175 = .ok (.iadd, 1) := by decide +kernel
theorem dL_law_176 : decode cL_law 176 = .ok (.iaload, 1) := by decide +kernel
theorem dL_law_177 : decode cL_law 177 = .ok (.ifCond .eq 7, 3) := by decide +kernel
theorem dL_law_180 : decode cL_law 180 = .ok (.iconst 1, 1) := by decide +kernel
theorem dL_law_181 : decode cL_law 181 = .ok (.goto 4, 3) := by decide +kernel
theorem dL_law_184 : decode cL_law 184 = .ok (.iconst 0, 1) := by decide +kernel
theorem dL_law_185 : decode cL_law 185 = .ok (.invokevirtual 18, 3) := by decide +kernel
theorem dL_law_188 : decode cL_law 188 = .ok (.aload_n 2, 1) := by decide +kernel
theorem dL_law_189 : decode cL_law 189 = .ok (.aload_n 0, 1) := by decide +kernel
theorem dL_law_190 : decode cL_law 190 = .ok (.iload_n 3, 1) := by decide +kernel
theorem dL_law_191 : decode cL_law 191 = .ok (.iconst 1, 1) := by decide +kernel
theorem dL_law_192 : decode cL_law 192 = .ok (.iadd, 1) := by decide +kernel
theorem dL_law_193 : decode cL_law 193 = .ok (.iaload, 1) := by decide +kernel
theorem dL_law_194 : decode cL_law 194 = .ok (.ifCond .eq 7, 3) := by decide +kernel
theorem dL_law_197 : decode cL_law 197 = .ok (.iconst 1, 1) := by decide +kernel
theorem dL_law_198 : decode cL_law 198 = .ok (.goto 4, 3) := by decide +kernel
theorem dL_law_201 : decode cL_law 201 = .ok (.iconst 0, 1) := by decide +kernel
theorem dL_law_202 : decode cL_law 202 = .ok (.invokevirtual 21, 3) := by decide +kernel
theorem dL_law_205 : decode cL_law 205 = .ok (.if_icmp .eq 656, 3) := by decide +kernel
theorem dL_law_208 : decode cL_law 208 = .ok (.iconst 0, 1) := by decide +kernel
theorem dL_law_209 : decode cL_law 209 = .ok (.ireturn, 1) := by decide +kernel
theorem dL_law_210 : decode cL_law 210 = .ok (.aload_n 1, 1) := by decide +kernel
theorem dL_law_211 : decode cL_law 211 = .ok (.aload_n 0, 1) := by decide +kernel
theorem dL_law_212 : decode cL_law 212 = .ok (.iload_n 3, 1) := by decide +kernel
theorem dL_law_213 : decode cL_law 213 = .ok (.iconst 1, 1) := by decide +kernel
theorem dL_law_214 : decode cL_law 214 = .ok (.iadd, 1) := by decide +kernel
theorem dL_law_215 : decode cL_law 215 = .ok (.iaload, 1) := by decide +kernel
theorem dL_law_216 : decode cL_law 216 = .ok (.aload_n 0, 1) := by decide +kernel
theorem dL_law_217 : decode cL_law 217 = .ok (.iload_n 3, 1) := by decide +kernel
theorem dL_law_218 : decode cL_law 218 = .ok (.iconst 2, 1) := by decide +kernel
theorem dL_law_219 : decode cL_law 219 = .ok (.iadd, 1) := by decide +kernel
theorem dL_law_220 : decode cL_law 220 = .ok (.iaload, 1) := by decide +kernel
theorem dL_law_221 : decode cL_law 221 = .ok (.invokevirtual 22, 3) := by decide +kernel
theorem dL_law_224 : decode cL_law 224 = .ok (.aload_n 2, 1) := by decide +kernel
theorem dL_law_225 : decode cL_law 225 = .ok (.aload_n 0, 1) := by decide +kernel
theorem dL_law_226 : decode cL_law 226 = .ok (.iload_n 3, 1) := by decide +kernel
theorem dL_law_227 : decode cL_law 227 = .ok (.iconst 1, 1) := by decide +kernel
theorem dL_law_228 : decode cL_law 228 = .ok (.iadd, 1) := by decide +kernel
theorem dL_law_229 : decode cL_law 229 = .ok (.iaload, 1) := by decide +kernel
theorem dL_law_230 : decode cL_law 230 = .ok (.aload_n 0, 1) := by decide +kernel
theorem dL_law_231 : decode cL_law 231 = .ok (.iload_n 3, 1) := by decide +kernel
theorem dL_law_232 : decode cL_law 232 = .ok (.iconst 2, 1) := by decide +kernel
theorem dL_law_233 : decode cL_law 233 = .ok (.iadd, 1) := by decide +kernel
theorem dL_law_234 : decode cL_law 234 = .ok (.iaload, 1) := by decide +kernel
theorem dL_law_235 : decode cL_law 235 = .ok (.invokevirtual 26, 3) := by decide +kernel
theorem dL_law_238 : decode cL_law 238 = .ok (.if_icmp .eq 623, 3) := by decide +kernel
theorem dL_law_241 : decode cL_law 241 = .ok (.iconst 0, 1) := by decide +kernel
theorem dL_law_242 : decode cL_law 242 = .ok (.ireturn, 1) := by decide +kernel
theorem dL_law_243 : decode cL_law 243 = .ok (.aload_n 1, 1) := by decide +kernel
theorem dL_law_244 : decode cL_law 244 = .ok (.aload_n 0, 1) := by decide +kernel
theorem dL_law_245 : decode cL_law 245 = .ok (.iload_n 3, 1) := by decide +kernel
theorem dL_law_246 : decode cL_law 246 = .ok (.iconst 1, 1) := by decide +kernel
theorem dL_law_247 : decode cL_law 247 = .ok (.iadd, 1) := by decide +kernel
theorem dL_law_248 : decode cL_law 248 = .ok (.iaload, 1) := by decide +kernel
theorem dL_law_249 : decode cL_law 249 = .ok (.aload_n 0, 1) := by decide +kernel
theorem dL_law_250 : decode cL_law 250 = .ok (.iload_n 3, 1) := by decide +kernel
theorem dL_law_251 : decode cL_law 251 = .ok (.iconst 2, 1) := by decide +kernel
theorem dL_law_252 : decode cL_law 252 = .ok (.iadd, 1) := by decide +kernel
theorem dL_law_253 : decode cL_law 253 = .ok (.iaload, 1) := by decide +kernel
theorem dL_law_254 : decode cL_law 254 = .ok (.invokevirtual 27, 3) := by decide +kernel
theorem dL_law_257 : decode cL_law 257 = .ok (.aload_n 2, 1) := by decide +kernel
theorem dL_law_258 : decode cL_law 258 = .ok (.aload_n 0, 1) := by decide +kernel
theorem dL_law_259 : decode cL_law 259 = .ok (.iload_n 3, 1) := by decide +kernel
theorem dL_law_260 : decode cL_law 260 = .ok (.iconst 1, 1) := by decide +kernel
theorem dL_law_261 : decode cL_law 261 = .ok (.iadd, 1) := by decide +kernel
theorem dL_law_262 : decode cL_law 262 = .ok (.iaload, 1) := by decide +kernel
theorem dL_law_263 : decode cL_law 263 = .ok (.aload_n 0, 1) := by decide +kernel
theorem dL_law_264 : decode cL_law 264 = .ok (.iload_n 3, 1) := by decide +kernel
theorem dL_law_265 : decode cL_law 265 = .ok (.iconst 2, 1) := by decide +kernel
theorem dL_law_266 : decode cL_law 266 = .ok (.iadd, 1) := by decide +kernel
theorem dL_law_267 : decode cL_law 267 = .ok (.iaload, 1) := by decide +kernel
theorem dL_law_268 : decode cL_law 268 = .ok (.invokevirtual 31, 3) := by decide +kernel
theorem dL_law_271 : decode cL_law 271 = .ok (.if_icmp .eq 590, 3) := by decide +kernel
theorem dL_law_274 : decode cL_law 274 = .ok (.iconst 0, 1) := by decide +kernel
theorem dL_law_275 : decode cL_law 275 = .ok (.ireturn, 1) := by decide +kernel
theorem dL_law_276 : decode cL_law 276 = .ok (.aload_n 1, 1) := by decide +kernel
theorem dL_law_277 : decode cL_law 277 = .ok (.aload_n 0, 1) := by decide +kernel
theorem dL_law_278 : decode cL_law 278 = .ok (.iload_n 3, 1) := by decide +kernel
theorem dL_law_279 : decode cL_law 279 = .ok (.iconst 1, 1) := by decide +kernel
theorem dL_law_280 : decode cL_law 280 = .ok (.iadd, 1) := by decide +kernel
theorem dL_law_281 : decode cL_law 281 = .ok (.iaload, 1) := by decide +kernel
theorem dL_law_282 : decode cL_law 282 = .ok (.invokevirtual 32, 3) := by decide +kernel
theorem dL_law_285 : decode cL_law 285 = .ok (.aload_n 2, 1) := by decide +kernel
theorem dL_law_286 : decode cL_law 286 = .ok (.aload_n 0, 1) := by decide +kernel
theorem dL_law_287 : decode cL_law 287 = .ok (.iload_n 3, 1) := by decide +kernel
theorem dL_law_288 : decode cL_law 288 = .ok (.iconst 1, 1) := by decide +kernel
theorem dL_law_289 : decode cL_law 289 = .ok (.iadd, 1) := by decide +kernel
theorem dL_law_290 : decode cL_law 290 = .ok (.iaload, 1) := by decide +kernel
theorem dL_law_291 : decode cL_law 291 = .ok (.invokevirtual 36, 3) := by decide +kernel
theorem dL_law_294 : decode cL_law 294 = .ok (.if_icmp .eq 567, 3) := by decide +kernel
theorem dL_law_297 : decode cL_law 297 = .ok (.iconst 0, 1) := by decide +kernel
theorem dL_law_298 : decode cL_law 298 = .ok (.ireturn, 1) := by decide +kernel
theorem dL_law_299 : decode cL_law 299 = .ok (.aload_n 1, 1) := by decide +kernel
theorem dL_law_300 : decode cL_law 300 = .ok (.aload_n 0, 1) := by decide +kernel
theorem dL_law_301 : decode cL_law 301 = .ok (.iload_n 3, 1) := by decide +kernel
theorem dL_law_302 : decode cL_law 302 = .ok (.iconst 1, 1) := by decide +kernel
theorem dL_law_303 : decode cL_law 303 = .ok (.iadd, 1) := by decide +kernel
theorem dL_law_304 : decode cL_law 304 = .ok (.iaload, 1) := by decide +kernel
theorem dL_law_305 : decode cL_law 305 = .ok (.aload_n 0, 1) := by decide +kernel
theorem dL_law_306 : decode cL_law 306 = .ok (.iload_n 3, 1) := by decide +kernel
theorem dL_law_307 : decode cL_law 307 = .ok (.iconst 2, 1) := by decide +kernel
theorem dL_law_308 : decode cL_law 308 = .ok (.iadd, 1) := by decide +kernel
theorem dL_law_309 : decode cL_law 309 = .ok (.iaload, 1) := by decide +kernel
theorem dL_law_310 : decode cL_law 310 = .ok (.aload_n 0, 1) := by decide +kernel
theorem dL_law_311 : decode cL_law 311 = .ok (.iload_n 3, 1) := by decide +kernel
theorem dL_law_312 : decode cL_law 312 = .ok (.iconst 3, 1) := by decide +kernel
theorem dL_law_313 : decode cL_law 313 = .ok (.iadd, 1) := by decide +kernel
theorem dL_law_314 : decode cL_law 314 = .ok (.iaload, 1) := by decide +kernel
theorem dL_law_315 : decode cL_law 315 = .ok (.aload_n 0, 1) := by decide +kernel
theorem dL_law_316 : decode cL_law 316 = .ok (.iload_n 3, 1) := by decide +kernel
theorem dL_law_317 : decode cL_law 317 = .ok (.iconst 4, 1) := by decide +kernel
theorem dL_law_318 : decode cL_law 318 = .ok (.iadd, 1) := by decide +kernel
theorem dL_law_319 : decode cL_law 319 = .ok (.iaload, 1) := by decide +kernel
theorem dL_law_320 : decode cL_law 320 = .ok (.aload_n 0, 1) := by decide +kernel
theorem dL_law_321 : decode cL_law 321 = .ok (.iload_n 3, 1) := by decide +kernel
theorem dL_law_322 : decode cL_law 322 = .ok (.iconst 5, 1) := by decide +kernel
theorem dL_law_323 : decode cL_law 323 = .ok (.iadd, 1) := by decide +kernel
theorem dL_law_324 : decode cL_law 324 = .ok (.iaload, 1) := by decide +kernel
theorem dL_law_325 : decode cL_law 325 = .ok (.aload_n 0, 1) := by decide +kernel
theorem dL_law_326 : decode cL_law 326 = .ok (.iload_n 3, 1) := by decide +kernel
theorem dL_law_327 : decode cL_law 327 = .ok (.bipush 6, 2) := by decide +kernel
theorem dL_law_329 : decode cL_law 329 = .ok (.iadd, 1) := by decide +kernel
theorem dL_law_330 : decode cL_law 330 = .ok (.iaload, 1) := by decide +kernel
theorem dL_law_331 : decode cL_law 331 = .ok (.aload_n 0, 1) := by decide +kernel
theorem dL_law_332 : decode cL_law 332 = .ok (.iload_n 3, 1) := by decide +kernel
theorem dL_law_333 : decode cL_law 333 = .ok (.bipush 7, 2) := by decide +kernel
theorem dL_law_335 : decode cL_law 335 = .ok (.iadd, 1) := by decide +kernel
theorem dL_law_336 : decode cL_law 336 = .ok (.iaload, 1) := by decide +kernel
theorem dL_law_337 : decode cL_law 337 = .ok (.invokevirtual 37, 3) := by decide +kernel
theorem dL_law_340 : decode cL_law 340 = .ok (.aload_n 2, 1) := by decide +kernel
theorem dL_law_341 : decode cL_law 341 = .ok (.aload_n 0, 1) := by decide +kernel
theorem dL_law_342 : decode cL_law 342 = .ok (.iload_n 3, 1) := by decide +kernel
theorem dL_law_343 : decode cL_law 343 = .ok (.iconst 1, 1) := by decide +kernel
theorem dL_law_344 : decode cL_law 344 = .ok (.iadd, 1) := by decide +kernel
theorem dL_law_345 : decode cL_law 345 = .ok (.iaload, 1) := by decide +kernel
theorem dL_law_346 : decode cL_law 346 = .ok (.aload_n 0, 1) := by decide +kernel
theorem dL_law_347 : decode cL_law 347 = .ok (.iload_n 3, 1) := by decide +kernel
theorem dL_law_348 : decode cL_law 348 = .ok (.iconst 2, 1) := by decide +kernel
theorem dL_law_349 : decode cL_law 349 = .ok (.iadd, 1) := by decide +kernel
theorem dL_law_350 : decode cL_law 350 = .ok (.iaload, 1) := by decide +kernel
theorem dL_law_351 : decode cL_law 351 = .ok (.aload_n 0, 1) := by decide +kernel
theorem dL_law_352 : decode cL_law 352 = .ok (.iload_n 3, 1) := by decide +kernel
theorem dL_law_353 : decode cL_law 353 = .ok (.iconst 3, 1) := by decide +kernel
theorem dL_law_354 : decode cL_law 354 = .ok (.iadd, 1) := by decide +kernel
theorem dL_law_355 : decode cL_law 355 = .ok (.iaload, 1) := by decide +kernel
theorem dL_law_356 : decode cL_law 356 = .ok (.aload_n 0, 1) := by decide +kernel
theorem dL_law_357 : decode cL_law 357 = .ok (.iload_n 3, 1) := by decide +kernel
theorem dL_law_358 : decode cL_law 358 = .ok (.iconst 4, 1) := by decide +kernel
theorem dL_law_359 : decode cL_law 359 = .ok (.iadd, 1) := by decide +kernel
theorem dL_law_360 : decode cL_law 360 = .ok (.iaload, 1) := by decide +kernel
theorem dL_law_361 : decode cL_law 361 = .ok (.aload_n 0, 1) := by decide +kernel
theorem dL_law_362 : decode cL_law 362 = .ok (.iload_n 3, 1) := by decide +kernel
theorem dL_law_363 : decode cL_law 363 = .ok (.iconst 5, 1) := by decide +kernel
theorem dL_law_364 : decode cL_law 364 = .ok (.iadd, 1) := by decide +kernel
theorem dL_law_365 : decode cL_law 365 = .ok (.iaload, 1) := by decide +kernel
theorem dL_law_366 : decode cL_law 366 = .ok (.aload_n 0, 1) := by decide +kernel
theorem dL_law_367 : decode cL_law 367 = .ok (.iload_n 3, 1) := by decide +kernel
theorem dL_law_368 : decode cL_law 368 = .ok (.bipush 6, 2) := by decide +kernel
theorem dL_law_370 : decode cL_law 370 = .ok (.iadd, 1) := by decide +kernel
theorem dL_law_371 : decode cL_law 371 = .ok (.iaload, 1) := by decide +kernel
theorem dL_law_372 : decode cL_law 372 = .ok (.aload_n 0, 1) := by decide +kernel
theorem dL_law_373 : decode cL_law 373 = .ok (.iload_n 3, 1) := by decide +kernel
theorem dL_law_374 : decode cL_law 374 = .ok (.bipush 7, 2) := by decide +kernel
theorem dL_law_376 : decode cL_law 376 = .ok (.iadd, 1) := by decide +kernel
theorem dL_law_377 : decode cL_law 377 = .ok (.iaload, 1) := by decide +kernel
theorem dL_law_378 : decode cL_law 378 = .ok (.invokevirtual 41, 3) := by decide +kernel
theorem dL_law_381 : decode cL_law 381 = .ok (.if_icmp .eq 480, 3) := by decide +kernel
theorem dL_law_384 : decode cL_law 384 = .ok (.iconst 0, 1) := by decide +kernel
theorem dL_law_385 : decode cL_law 385 = .ok (.ireturn, 1) := by decide +kernel
theorem dL_law_386 : decode cL_law 386 = .ok (.aload_n 1, 1) := by decide +kernel
theorem dL_law_387 : decode cL_law 387 = .ok (.aload_n 0, 1) := by decide +kernel
theorem dL_law_388 : decode cL_law 388 = .ok (.iload_n 3, 1) := by decide +kernel
theorem dL_law_389 : decode cL_law 389 = .ok (.iconst 1, 1) := by decide +kernel
theorem dL_law_390 : decode cL_law 390 = .ok (.iadd, 1) := by decide +kernel
theorem dL_law_391 : decode cL_law 391 = .ok (.iaload, 1) := by decide +kernel
theorem dL_law_392 : decode cL_law 392 = .ok (.invokevirtual 42, 3) := by decide +kernel
theorem dL_law_395 : decode cL_law 395 = .ok (.aload_n 2, 1) := by decide +kernel
theorem dL_law_396 : decode cL_law 396 = .ok (.aload_n 0, 1) := by decide +kernel
theorem dL_law_397 : decode cL_law 397 = .ok (.iload_n 3, 1) := by decide +kernel
theorem dL_law_398 : decode cL_law 398 = .ok (.iconst 1, 1) := by decide +kernel
theorem dL_law_399 : decode cL_law 399 = .ok (.iadd, 1) := by decide +kernel
theorem dL_law_400 : decode cL_law 400 = .ok (.iaload, 1) := by decide +kernel
theorem dL_law_401 : decode cL_law 401 = .ok (.invokevirtual 45, 3) := by decide +kernel
theorem dL_law_404 : decode cL_law 404 = .ok (.if_icmp .eq 457, 3) := by decide +kernel
theorem dL_law_407 : decode cL_law 407 = .ok (.iconst 0, 1) := by decide +kernel
theorem dL_law_408 : decode cL_law 408 = .ok (.ireturn, 1) := by decide +kernel
theorem dL_law_409 : decode cL_law 409 = .ok (.aload_n 1, 1) := by decide +kernel
theorem dL_law_410 : decode cL_law 410 = .ok (.aload_n 0, 1) := by decide +kernel
theorem dL_law_411 : decode cL_law 411 = .ok (.iload_n 3, 1) := by decide +kernel
theorem dL_law_412 : decode cL_law 412 = .ok (.iconst 1, 1) := by decide +kernel
theorem dL_law_413 : decode cL_law 413 = .ok (.iadd, 1) := by decide +kernel
theorem dL_law_414 : decode cL_law 414 = .ok (.iaload, 1) := by decide +kernel
theorem dL_law_415 : decode cL_law 415 = .ok (.aload_n 0, 1) := by decide +kernel
theorem dL_law_416 : decode cL_law 416 = .ok (.iload_n 3, 1) := by decide +kernel
theorem dL_law_417 : decode cL_law 417 = .ok (.iconst 2, 1) := by decide +kernel
theorem dL_law_418 : decode cL_law 418 = .ok (.iadd, 1) := by decide +kernel
theorem dL_law_419 : decode cL_law 419 = .ok (.iaload, 1) := by decide +kernel
theorem dL_law_420 : decode cL_law 420 = .ok (.aload_n 0, 1) := by decide +kernel
theorem dL_law_421 : decode cL_law 421 = .ok (.iload_n 3, 1) := by decide +kernel
theorem dL_law_422 : decode cL_law 422 = .ok (.iconst 3, 1) := by decide +kernel
theorem dL_law_423 : decode cL_law 423 = .ok (.iadd, 1) := by decide +kernel
theorem dL_law_424 : decode cL_law 424 = .ok (.iaload, 1) := by decide +kernel
theorem dL_law_425 : decode cL_law 425 = .ok (.aload_n 0, 1) := by decide +kernel
theorem dL_law_426 : decode cL_law 426 = .ok (.iload_n 3, 1) := by decide +kernel
theorem dL_law_427 : decode cL_law 427 = .ok (.iconst 4, 1) := by decide +kernel
theorem dL_law_428 : decode cL_law 428 = .ok (.iadd, 1) := by decide +kernel
theorem dL_law_429 : decode cL_law 429 = .ok (.iaload, 1) := by decide +kernel
theorem dL_law_430 : decode cL_law 430 = .ok (.invokevirtual 46, 3) := by decide +kernel
theorem dL_law_433 : decode cL_law 433 = .ok (.aload_n 2, 1) := by decide +kernel
theorem dL_law_434 : decode cL_law 434 = .ok (.aload_n 0, 1) := by decide +kernel
theorem dL_law_435 : decode cL_law 435 = .ok (.iload_n 3, 1) := by decide +kernel
theorem dL_law_436 : decode cL_law 436 = .ok (.iconst 1, 1) := by decide +kernel
theorem dL_law_437 : decode cL_law 437 = .ok (.iadd, 1) := by decide +kernel
theorem dL_law_438 : decode cL_law 438 = .ok (.iaload, 1) := by decide +kernel
theorem dL_law_439 : decode cL_law 439 = .ok (.aload_n 0, 1) := by decide +kernel
theorem dL_law_440 : decode cL_law 440 = .ok (.iload_n 3, 1) := by decide +kernel
theorem dL_law_441 : decode cL_law 441 = .ok (.iconst 2, 1) := by decide +kernel
theorem dL_law_442 : decode cL_law 442 = .ok (.iadd, 1) := by decide +kernel
theorem dL_law_443 : decode cL_law 443 = .ok (.iaload, 1) := by decide +kernel
theorem dL_law_444 : decode cL_law 444 = .ok (.aload_n 0, 1) := by decide +kernel
theorem dL_law_445 : decode cL_law 445 = .ok (.iload_n 3, 1) := by decide +kernel
theorem dL_law_446 : decode cL_law 446 = .ok (.iconst 3, 1) := by decide +kernel
theorem dL_law_447 : decode cL_law 447 = .ok (.iadd, 1) := by decide +kernel
theorem dL_law_448 : decode cL_law 448 = .ok (.iaload, 1) := by decide +kernel
theorem dL_law_449 : decode cL_law 449 = .ok (.aload_n 0, 1) := by decide +kernel
theorem dL_law_450 : decode cL_law 450 = .ok (.iload_n 3, 1) := by decide +kernel
theorem dL_law_451 : decode cL_law 451 = .ok (.iconst 4, 1) := by decide +kernel
theorem dL_law_452 : decode cL_law 452 = .ok (.iadd, 1) := by decide +kernel
theorem dL_law_453 : decode cL_law 453 = .ok (.iaload, 1) := by decide +kernel
theorem dL_law_454 : decode cL_law 454 = .ok (.invokevirtual 50, 3) := by decide +kernel
theorem dL_law_457 : decode cL_law 457 = .ok (.if_icmp .eq 404, 3) := by decide +kernel
theorem dL_law_460 : decode cL_law 460 = .ok (.iconst 0, 1) := by decide +kernel
theorem dL_law_461 : decode cL_law 461 = .ok (.ireturn, 1) := by decide +kernel
theorem dL_law_462 : decode cL_law 462 = .ok (.aload_n 1, 1) := by decide +kernel
theorem dL_law_463 : decode cL_law 463 = .ok (.aload_n 0, 1) := by decide +kernel
theorem dL_law_464 : decode cL_law 464 = .ok (.iload_n 3, 1) := by decide +kernel
theorem dL_law_465 : decode cL_law 465 = .ok (.iconst 1, 1) := by decide +kernel
theorem dL_law_466 : decode cL_law 466 = .ok (.iadd, 1) := by decide +kernel
theorem dL_law_467 : decode cL_law 467 = .ok (.iaload, 1) := by decide +kernel
theorem dL_law_468 : decode cL_law 468 = .ok (.aload_n 0, 1) := by decide +kernel
theorem dL_law_469 : decode cL_law 469 = .ok (.iload_n 3, 1) := by decide +kernel
theorem dL_law_470 : decode cL_law 470 = .ok (.iconst 2, 1) := by decide +kernel
theorem dL_law_471 : decode cL_law 471 = .ok (.iadd, 1) := by decide +kernel
theorem dL_law_472 : decode cL_law 472 = .ok (.iaload, 1) := by decide +kernel
theorem dL_law_473 : decode cL_law 473 = .ok (.aload_n 0, 1) := by decide +kernel
theorem dL_law_474 : decode cL_law 474 = .ok (.iload_n 3, 1) := by decide +kernel
theorem dL_law_475 : decode cL_law 475 = .ok (.iconst 3, 1) := by decide +kernel
theorem dL_law_476 : decode cL_law 476 = .ok (.iadd, 1) := by decide +kernel
theorem dL_law_477 : decode cL_law 477 = .ok (.iaload, 1) := by decide +kernel
theorem dL_law_478 : decode cL_law 478 = .ok (.invokevirtual 51, 3) := by decide +kernel
theorem dL_law_481 : decode cL_law 481 = .ok (.aload_n 2, 1) := by decide +kernel
theorem dL_law_482 : decode cL_law 482 = .ok (.aload_n 0, 1) := by decide +kernel
theorem dL_law_483 : decode cL_law 483 = .ok (.iload_n 3, 1) := by decide +kernel
theorem dL_law_484 : decode cL_law 484 = .ok (.iconst 1, 1) := by decide +kernel
theorem dL_law_485 : decode cL_law 485 = .ok (.iadd, 1) := by decide +kernel
theorem dL_law_486 : decode cL_law 486 = .ok (.iaload, 1) := by decide +kernel
theorem dL_law_487 : decode cL_law 487 = .ok (.aload_n 0, 1) := by decide +kernel
theorem dL_law_488 : decode cL_law 488 = .ok (.iload_n 3, 1) := by decide +kernel
theorem dL_law_489 : decode cL_law 489 = .ok (.iconst 2, 1) := by decide +kernel
theorem dL_law_490 : decode cL_law 490 = .ok (.iadd, 1) := by decide +kernel
theorem dL_law_491 : decode cL_law 491 = .ok (.iaload, 1) := by decide +kernel
theorem dL_law_492 : decode cL_law 492 = .ok (.aload_n 0, 1) := by decide +kernel
theorem dL_law_493 : decode cL_law 493 = .ok (.iload_n 3, 1) := by decide +kernel
theorem dL_law_494 : decode cL_law 494 = .ok (.iconst 3, 1) := by decide +kernel
theorem dL_law_495 : decode cL_law 495 = .ok (.iadd, 1) := by decide +kernel
theorem dL_law_496 : decode cL_law 496 = .ok (.iaload, 1) := by decide +kernel
theorem dL_law_497 : decode cL_law 497 = .ok (.invokevirtual 55, 3) := by decide +kernel
theorem dL_law_500 : decode cL_law 500 = .ok (.if_icmp .eq 361, 3) := by decide +kernel
theorem dL_law_503 : decode cL_law 503 = .ok (.iconst 0, 1) := by decide +kernel
theorem dL_law_504 : decode cL_law 504 = .ok (.ireturn, 1) := by decide +kernel
theorem dL_law_505 : decode cL_law 505 = .ok (.aload_n 1, 1) := by decide +kernel
theorem dL_law_506 : decode cL_law 506 = .ok (.aload_n 0, 1) := by decide +kernel
theorem dL_law_507 : decode cL_law 507 = .ok (.iload_n 3, 1) := by decide +kernel
theorem dL_law_508 : decode cL_law 508 = .ok (.iconst 1, 1) := by decide +kernel
theorem dL_law_509 : decode cL_law 509 = .ok (.iadd, 1) := by decide +kernel
theorem dL_law_510 : decode cL_law 510 = .ok (.iaload, 1) := by decide +kernel
theorem dL_law_511 : decode cL_law 511 = .ok (.aload_n 0, 1) := by decide +kernel
theorem dL_law_512 : decode cL_law 512 = .ok (.iload_n 3, 1) := by decide +kernel
theorem dL_law_513 : decode cL_law 513 = .ok (.iconst 2, 1) := by decide +kernel
theorem dL_law_514 : decode cL_law 514 = .ok (.iadd, 1) := by decide +kernel
theorem dL_law_515 : decode cL_law 515 = .ok (.iaload, 1) := by decide +kernel
theorem dL_law_516 : decode cL_law 516 = .ok (.invokevirtual 56, 3) := by decide +kernel
theorem dL_law_519 : decode cL_law 519 = .ok (.aload_n 2, 1) := by decide +kernel
theorem dL_law_520 : decode cL_law 520 = .ok (.aload_n 0, 1) := by decide +kernel
theorem dL_law_521 : decode cL_law 521 = .ok (.iload_n 3, 1) := by decide +kernel
theorem dL_law_522 : decode cL_law 522 = .ok (.iconst 1, 1) := by decide +kernel
theorem dL_law_523 : decode cL_law 523 = .ok (.iadd, 1) := by decide +kernel
theorem dL_law_524 : decode cL_law 524 = .ok (.iaload, 1) := by decide +kernel
theorem dL_law_525 : decode cL_law 525 = .ok (.aload_n 0, 1) := by decide +kernel
theorem dL_law_526 : decode cL_law 526 = .ok (.iload_n 3, 1) := by decide +kernel
theorem dL_law_527 : decode cL_law 527 = .ok (.iconst 2, 1) := by decide +kernel
theorem dL_law_528 : decode cL_law 528 = .ok (.iadd, 1) := by decide +kernel
theorem dL_law_529 : decode cL_law 529 = .ok (.iaload, 1) := by decide +kernel
theorem dL_law_530 : decode cL_law 530 = .ok (.invokevirtual 59, 3) := by decide +kernel
theorem dL_law_533 : decode cL_law 533 = .ok (.if_icmp .eq 328, 3) := by decide +kernel
theorem dL_law_536 : decode cL_law 536 = .ok (.iconst 0, 1) := by decide +kernel
theorem dL_law_537 : decode cL_law 537 = .ok (.ireturn, 1) := by decide +kernel
theorem dL_law_538 : decode cL_law 538 = .ok (.aload_n 1, 1) := by decide +kernel
theorem dL_law_539 : decode cL_law 539 = .ok (.aload_n 0, 1) := by decide +kernel
theorem dL_law_540 : decode cL_law 540 = .ok (.iload_n 3, 1) := by decide +kernel
theorem dL_law_541 : decode cL_law 541 = .ok (.iconst 1, 1) := by decide +kernel
theorem dL_law_542 : decode cL_law 542 = .ok (.iadd, 1) := by decide +kernel
theorem dL_law_543 : decode cL_law 543 = .ok (.iaload, 1) := by decide +kernel
theorem dL_law_544 : decode cL_law 544 = .ok (.invokevirtual 60, 3) := by decide +kernel
theorem dL_law_547 : decode cL_law 547 = .ok (.aload_n 2, 1) := by decide +kernel
theorem dL_law_548 : decode cL_law 548 = .ok (.aload_n 0, 1) := by decide +kernel
theorem dL_law_549 : decode cL_law 549 = .ok (.iload_n 3, 1) := by decide +kernel
theorem dL_law_550 : decode cL_law 550 = .ok (.iconst 1, 1) := by decide +kernel
theorem dL_law_551 : decode cL_law 551 = .ok (.iadd, 1) := by decide +kernel
theorem dL_law_552 : decode cL_law 552 = .ok (.iaload, 1) := by decide +kernel
theorem dL_law_553 : decode cL_law 553 = .ok (.invokevirtual 63, 3) := by decide +kernel
theorem dL_law_556 : decode cL_law 556 = .ok (.if_icmp .eq 305, 3) := by decide +kernel
theorem dL_law_559 : decode cL_law 559 = .ok (.iconst 0, 1) := by decide +kernel
theorem dL_law_560 : decode cL_law 560 = .ok (.ireturn, 1) := by decide +kernel
theorem dL_law_561 : decode cL_law 561 = .ok (.aload_n 1, 1) := by decide +kernel
theorem dL_law_562 : decode cL_law 562 = .ok (.aload_n 0, 1) := by decide +kernel
theorem dL_law_563 : decode cL_law 563 = .ok (.iload_n 3, 1) := by decide +kernel
theorem dL_law_564 : decode cL_law 564 = .ok (.iconst 1, 1) := by decide +kernel
theorem dL_law_565 : decode cL_law 565 = .ok (.iadd, 1) := by decide +kernel
theorem dL_law_566 : decode cL_law 566 = .ok (.iaload, 1) := by decide +kernel
theorem dL_law_567 : decode cL_law 567 = .ok (.aload_n 0, 1) := by decide +kernel
theorem dL_law_568 : decode cL_law 568 = .ok (.iload_n 3, 1) := by decide +kernel
theorem dL_law_569 : decode cL_law 569 = .ok (.iconst 2, 1) := by decide +kernel
theorem dL_law_570 : decode cL_law 570 = .ok (.iadd, 1) := by decide +kernel
theorem dL_law_571 : decode cL_law 571 = .ok (.iaload, 1) := by decide +kernel
theorem dL_law_572 : decode cL_law 572 = .ok (.invokevirtual 64, 3) := by decide +kernel
theorem dL_law_575 : decode cL_law 575 = .ok (.aload_n 2, 1) := by decide +kernel
theorem dL_law_576 : decode cL_law 576 = .ok (.aload_n 0, 1) := by decide +kernel
theorem dL_law_577 : decode cL_law 577 = .ok (.iload_n 3, 1) := by decide +kernel
theorem dL_law_578 : decode cL_law 578 = .ok (.iconst 1, 1) := by decide +kernel
theorem dL_law_579 : decode cL_law 579 = .ok (.iadd, 1) := by decide +kernel
theorem dL_law_580 : decode cL_law 580 = .ok (.iaload, 1) := by decide +kernel
theorem dL_law_581 : decode cL_law 581 = .ok (.aload_n 0, 1) := by decide +kernel
theorem dL_law_582 : decode cL_law 582 = .ok (.iload_n 3, 1) := by decide +kernel
theorem dL_law_583 : decode cL_law 583 = .ok (.iconst 2, 1) := by decide +kernel
theorem dL_law_584 : decode cL_law 584 = .ok (.iadd, 1) := by decide +kernel
theorem dL_law_585 : decode cL_law 585 = .ok (.iaload, 1) := by decide +kernel
theorem dL_law_586 : decode cL_law 586 = .ok (.invokevirtual 67, 3) := by decide +kernel
theorem dL_law_589 : decode cL_law 589 = .ok (.if_icmp .eq 272, 3) := by decide +kernel
theorem dL_law_592 : decode cL_law 592 = .ok (.iconst 0, 1) := by decide +kernel
theorem dL_law_593 : decode cL_law 593 = .ok (.ireturn, 1) := by decide +kernel
theorem dL_law_594 : decode cL_law 594 = .ok (.aload_n 1, 1) := by decide +kernel
theorem dL_law_595 : decode cL_law 595 = .ok (.aload_n 0, 1) := by decide +kernel
theorem dL_law_596 : decode cL_law 596 = .ok (.iload_n 3, 1) := by decide +kernel
theorem dL_law_597 : decode cL_law 597 = .ok (.iconst 1, 1) := by decide +kernel
theorem dL_law_598 : decode cL_law 598 = .ok (.iadd, 1) := by decide +kernel
theorem dL_law_599 : decode cL_law 599 = .ok (.iaload, 1) := by decide +kernel
theorem dL_law_600 : decode cL_law 600 = .ok (.aload_n 0, 1) := by decide +kernel
theorem dL_law_601 : decode cL_law 601 = .ok (.iload_n 3, 1) := by decide +kernel
theorem dL_law_602 : decode cL_law 602 = .ok (.iconst 2, 1) := by decide +kernel
theorem dL_law_603 : decode cL_law 603 = .ok (.iadd, 1) := by decide +kernel
theorem dL_law_604 : decode cL_law 604 = .ok (.iaload, 1) := by decide +kernel
theorem dL_law_605 : decode cL_law 605 = .ok (.aload_n 0, 1) := by decide +kernel
theorem dL_law_606 : decode cL_law 606 = .ok (.iload_n 3, 1) := by decide +kernel
theorem dL_law_607 : decode cL_law 607 = .ok (.iconst 3, 1) := by decide +kernel
theorem dL_law_608 : decode cL_law 608 = .ok (.iadd, 1) := by decide +kernel
theorem dL_law_609 : decode cL_law 609 = .ok (.iaload, 1) := by decide +kernel
theorem dL_law_610 : decode cL_law 610 = .ok (.aload_n 0, 1) := by decide +kernel
theorem dL_law_611 : decode cL_law 611 = .ok (.iload_n 3, 1) := by decide +kernel
theorem dL_law_612 : decode cL_law 612 = .ok (.iconst 4, 1) := by decide +kernel
theorem dL_law_613 : decode cL_law 613 = .ok (.iadd, 1) := by decide +kernel
theorem dL_law_614 : decode cL_law 614 = .ok (.iaload, 1) := by decide +kernel
theorem dL_law_615 : decode cL_law 615 = .ok (.invokevirtual 68, 3) := by decide +kernel
theorem dL_law_618 : decode cL_law 618 = .ok (.aload_n 2, 1) := by decide +kernel
theorem dL_law_619 : decode cL_law 619 = .ok (.aload_n 0, 1) := by decide +kernel
theorem dL_law_620 : decode cL_law 620 = .ok (.iload_n 3, 1) := by decide +kernel
theorem dL_law_621 : decode cL_law 621 = .ok (.iconst 1, 1) := by decide +kernel
theorem dL_law_622 : decode cL_law 622 = .ok (.iadd, 1) := by decide +kernel
theorem dL_law_623 : decode cL_law 623 = .ok (.iaload, 1) := by decide +kernel
theorem dL_law_624 : decode cL_law 624 = .ok (.aload_n 0, 1) := by decide +kernel
theorem dL_law_625 : decode cL_law 625 = .ok (.iload_n 3, 1) := by decide +kernel
theorem dL_law_626 : decode cL_law 626 = .ok (.iconst 2, 1) := by decide +kernel
theorem dL_law_627 : decode cL_law 627 = .ok (.iadd, 1) := by decide +kernel
theorem dL_law_628 : decode cL_law 628 = .ok (.iaload, 1) := by decide +kernel
theorem dL_law_629 : decode cL_law 629 = .ok (.aload_n 0, 1) := by decide +kernel
theorem dL_law_630 : decode cL_law 630 = .ok (.iload_n 3, 1) := by decide +kernel
theorem dL_law_631 : decode cL_law 631 = .ok (.iconst 3, 1) := by decide +kernel
theorem dL_law_632 : decode cL_law 632 = .ok (.iadd, 1) := by decide +kernel
theorem dL_law_633 : decode cL_law 633 = .ok (.iaload, 1) := by decide +kernel
theorem dL_law_634 : decode cL_law 634 = .ok (.aload_n 0, 1) := by decide +kernel
theorem dL_law_635 : decode cL_law 635 = .ok (.iload_n 3, 1) := by decide +kernel
theorem dL_law_636 : decode cL_law 636 = .ok (.iconst 4, 1) := by decide +kernel
theorem dL_law_637 : decode cL_law 637 = .ok (.iadd, 1) := by decide +kernel
theorem dL_law_638 : decode cL_law 638 = .ok (.iaload, 1) := by decide +kernel
theorem dL_law_639 : decode cL_law 639 = .ok (.invokevirtual 71, 3) := by decide +kernel
theorem dL_law_642 : decode cL_law 642 = .ok (.if_icmp .eq 219, 3) := by decide +kernel
theorem dL_law_645 : decode cL_law 645 = .ok (.iconst 0, 1) := by decide +kernel
theorem dL_law_646 : decode cL_law 646 = .ok (.ireturn, 1) := by decide +kernel
theorem dL_law_647 : decode cL_law 647 = .ok (.aload_n 1, 1) := by decide +kernel
theorem dL_law_648 : decode cL_law 648 = .ok (.aload_n 0, 1) := by decide +kernel
theorem dL_law_649 : decode cL_law 649 = .ok (.iload_n 3, 1) := by decide +kernel
theorem dL_law_650 : decode cL_law 650 = .ok (.iconst 1, 1) := by decide +kernel
theorem dL_law_651 : decode cL_law 651 = .ok (.iadd, 1) := by decide +kernel
theorem dL_law_652 : decode cL_law 652 = .ok (.iaload, 1) := by decide +kernel
theorem dL_law_653 : decode cL_law 653 = .ok (.aload_n 0, 1) := by decide +kernel
theorem dL_law_654 : decode cL_law 654 = .ok (.iload_n 3, 1) := by decide +kernel
theorem dL_law_655 : decode cL_law 655 = .ok (.iconst 2, 1) := by decide +kernel
theorem dL_law_656 : decode cL_law 656 = .ok (.iadd, 1) := by decide +kernel
theorem dL_law_657 : decode cL_law 657 = .ok (.iaload, 1) := by decide +kernel
theorem dL_law_658 : decode cL_law 658 = .ok (.invokevirtual 72, 3) := by decide +kernel
theorem dL_law_661 : decode cL_law 661 = .ok (.aload_n 2, 1) := by decide +kernel
theorem dL_law_662 : decode cL_law 662 = .ok (.aload_n 0, 1) := by decide +kernel
theorem dL_law_663 : decode cL_law 663 = .ok (.iload_n 3, 1) := by decide +kernel
theorem dL_law_664 : decode cL_law 664 = .ok (.iconst 1, 1) := by decide +kernel
theorem dL_law_665 : decode cL_law 665 = .ok (.iadd, 1) := by decide +kernel
theorem dL_law_666 : decode cL_law 666 = .ok (.iaload, 1) := by decide +kernel
theorem dL_law_667 : decode cL_law 667 = .ok (.aload_n 0, 1) := by decide +kernel
theorem dL_law_668 : decode cL_law 668 = .ok (.iload_n 3, 1) := by decide +kernel
theorem dL_law_669 : decode cL_law 669 = .ok (.iconst 2, 1) := by decide +kernel
theorem dL_law_670 : decode cL_law 670 = .ok (.iadd, 1) := by decide +kernel
theorem dL_law_671 : decode cL_law 671 = .ok (.iaload, 1) := by decide +kernel
theorem dL_law_672 : decode cL_law 672 = .ok (.invokevirtual 75, 3) := by decide +kernel
theorem dL_law_675 : decode cL_law 675 = .ok (.if_icmp .eq 186, 3) := by decide +kernel
theorem dL_law_678 : decode cL_law 678 = .ok (.iconst 0, 1) := by decide +kernel
theorem dL_law_679 : decode cL_law 679 = .ok (.ireturn, 1) := by decide +kernel
theorem dL_law_680 : decode cL_law 680 = .ok (.aload_n 1, 1) := by decide +kernel
theorem dL_law_681 : decode cL_law 681 = .ok (.aload_n 0, 1) := by decide +kernel
theorem dL_law_682 : decode cL_law 682 = .ok (.iload_n 3, 1) := by decide +kernel
theorem dL_law_683 : decode cL_law 683 = .ok (.iconst 1, 1) := by decide +kernel
theorem dL_law_684 : decode cL_law 684 = .ok (.iadd, 1) := by decide +kernel
theorem dL_law_685 : decode cL_law 685 = .ok (.iaload, 1) := by decide +kernel
theorem dL_law_686 : decode cL_law 686 = .ok (.aload_n 0, 1) := by decide +kernel
theorem dL_law_687 : decode cL_law 687 = .ok (.iload_n 3, 1) := by decide +kernel
theorem dL_law_688 : decode cL_law 688 = .ok (.iconst 2, 1) := by decide +kernel
theorem dL_law_689 : decode cL_law 689 = .ok (.iadd, 1) := by decide +kernel
theorem dL_law_690 : decode cL_law 690 = .ok (.iaload, 1) := by decide +kernel
theorem dL_law_691 : decode cL_law 691 = .ok (.aload_n 0, 1) := by decide +kernel
theorem dL_law_692 : decode cL_law 692 = .ok (.iload_n 3, 1) := by decide +kernel
theorem dL_law_693 : decode cL_law 693 = .ok (.iconst 3, 1) := by decide +kernel
theorem dL_law_694 : decode cL_law 694 = .ok (.iadd, 1) := by decide +kernel
theorem dL_law_695 : decode cL_law 695 = .ok (.iaload, 1) := by decide +kernel
theorem dL_law_696 : decode cL_law 696 = .ok (.invokevirtual 76, 3) := by decide +kernel
theorem dL_law_699 : decode cL_law 699 = .ok (.aload_n 2, 1) := by decide +kernel
theorem dL_law_700 : decode cL_law 700 = .ok (.aload_n 0, 1) := by decide +kernel
theorem dL_law_701 : decode cL_law 701 = .ok (.iload_n 3, 1) := by decide +kernel
theorem dL_law_702 : decode cL_law 702 = .ok (.iconst 1, 1) := by decide +kernel
theorem dL_law_703 : decode cL_law 703 = .ok (.iadd, 1) := by decide +kernel
theorem dL_law_704 : decode cL_law 704 = .ok (.iaload, 1) := by decide +kernel
theorem dL_law_705 : decode cL_law 705 = .ok (.aload_n 0, 1) := by decide +kernel
theorem dL_law_706 : decode cL_law 706 = .ok (.iload_n 3, 1) := by decide +kernel
theorem dL_law_707 : decode cL_law 707 = .ok (.iconst 2, 1) := by decide +kernel
theorem dL_law_708 : decode cL_law 708 = .ok (.iadd, 1) := by decide +kernel
theorem dL_law_709 : decode cL_law 709 = .ok (.iaload, 1) := by decide +kernel
theorem dL_law_710 : decode cL_law 710 = .ok (.aload_n 0, 1) := by decide +kernel
theorem dL_law_711 : decode cL_law 711 = .ok (.iload_n 3, 1) := by decide +kernel
theorem dL_law_712 : decode cL_law 712 = .ok (.iconst 3, 1) := by decide +kernel
theorem dL_law_713 : decode cL_law 713 = .ok (.iadd, 1) := by decide +kernel
theorem dL_law_714 : decode cL_law 714 = .ok (.iaload, 1) := by decide +kernel
theorem dL_law_715 : decode cL_law 715 = .ok (.invokevirtual 79, 3) := by decide +kernel
theorem dL_law_718 : decode cL_law 718 = .ok (.if_icmp .eq 143, 3) := by decide +kernel
theorem dL_law_721 : decode cL_law 721 = .ok (.iconst 0, 1) := by decide +kernel
theorem dL_law_722 : decode cL_law 722 = .ok (.ireturn, 1) := by decide +kernel
theorem dL_law_723 : decode cL_law 723 = .ok (.aload_n 1, 1) := by decide +kernel
theorem dL_law_724 : decode cL_law 724 = .ok (.aload_n 0, 1) := by decide +kernel
theorem dL_law_725 : decode cL_law 725 = .ok (.iload_n 3, 1) := by decide +kernel
theorem dL_law_726 : decode cL_law 726 = .ok (.iconst 1, 1) := by decide +kernel
theorem dL_law_727 : decode cL_law 727 = .ok (.iadd, 1) := by decide +kernel
theorem dL_law_728 : decode cL_law 728 = .ok (.iaload, 1) := by decide +kernel
theorem dL_law_729 : decode cL_law 729 = .ok (.invokevirtual 80, 3) := by decide +kernel
theorem dL_law_732 : decode cL_law 732 = .ok (.aload_n 2, 1) := by decide +kernel
theorem dL_law_733 : decode cL_law 733 = .ok (.aload_n 0, 1) := by decide +kernel
theorem dL_law_734 : decode cL_law 734 = .ok (.iload_n 3, 1) := by decide +kernel
theorem dL_law_735 : decode cL_law 735 = .ok (.iconst 1, 1) := by decide +kernel
theorem dL_law_736 : decode cL_law 736 = .ok (.iadd, 1) := by decide +kernel
theorem dL_law_737 : decode cL_law 737 = .ok (.iaload, 1) := by decide +kernel
theorem dL_law_738 : decode cL_law 738 = .ok (.invokevirtual 83, 3) := by decide +kernel
theorem dL_law_741 : decode cL_law 741 = .ok (.if_icmp .eq 120, 3) := by decide +kernel
theorem dL_law_744 : decode cL_law 744 = .ok (.iconst 0, 1) := by decide +kernel
theorem dL_law_745 : decode cL_law 745 = .ok (.ireturn, 1) := by decide +kernel
theorem dL_law_746 : decode cL_law 746 = .ok (.aload_n 1, 1) := by decide +kernel
theorem dL_law_747 : decode cL_law 747 = .ok (.aload_n 0, 1) := by decide +kernel
theorem dL_law_748 : decode cL_law 748 = .ok (.iload_n 3, 1) := by decide +kernel
theorem dL_law_749 : decode cL_law 749 = .ok (.iconst 1, 1) := by decide +kernel
theorem dL_law_750 : decode cL_law 750 = .ok (.iadd, 1) := by decide +kernel
theorem dL_law_751 : decode cL_law 751 = .ok (.iaload, 1) := by decide +kernel
theorem dL_law_752 : decode cL_law 752 = .ok (.aload_n 0, 1) := by decide +kernel
theorem dL_law_753 : decode cL_law 753 = .ok (.iload_n 3, 1) := by decide +kernel
theorem dL_law_754 : decode cL_law 754 = .ok (.iconst 2, 1) := by decide +kernel
theorem dL_law_755 : decode cL_law 755 = .ok (.iadd, 1) := by decide +kernel
theorem dL_law_756 : decode cL_law 756 = .ok (.iaload, 1) := by decide +kernel
theorem dL_law_757 : decode cL_law 757 = .ok (.invokevirtual 84, 3) := by decide +kernel
theorem dL_law_760 : decode cL_law 760 = .ok (.aload_n 2, 1) := by decide +kernel
theorem dL_law_761 : decode cL_law 761 = .ok (.aload_n 0, 1) := by decide +kernel
theorem dL_law_762 : decode cL_law 762 = .ok (.iload_n 3, 1) := by decide +kernel
theorem dL_law_763 : decode cL_law 763 = .ok (.iconst 1, 1) := by decide +kernel
theorem dL_law_764 : decode cL_law 764 = .ok (.iadd, 1) := by decide +kernel
theorem dL_law_765 : decode cL_law 765 = .ok (.iaload, 1) := by decide +kernel
theorem dL_law_766 : decode cL_law 766 = .ok (.aload_n 0, 1) := by decide +kernel
theorem dL_law_767 : decode cL_law 767 = .ok (.iload_n 3, 1) := by decide +kernel
theorem dL_law_768 : decode cL_law 768 = .ok (.iconst 2, 1) := by decide +kernel
theorem dL_law_769 : decode cL_law 769 = .ok (.iadd, 1) := by decide +kernel
theorem dL_law_770 : decode cL_law 770 = .ok (.iaload, 1) := by decide +kernel
theorem dL_law_771 : decode cL_law 771 = .ok (.invokevirtual 87, 3) := by decide +kernel
theorem dL_law_774 : decode cL_law 774 = .ok (.if_icmp .eq 87, 3) := by decide +kernel
theorem dL_law_777 : decode cL_law 777 = .ok (.iconst 0, 1) := by decide +kernel
theorem dL_law_778 : decode cL_law 778 = .ok (.ireturn, 1) := by decide +kernel
theorem dL_law_779 : decode cL_law 779 = .ok (.aload_n 1, 1) := by decide +kernel
theorem dL_law_780 : decode cL_law 780 = .ok (.invokevirtual 88, 3) := by decide +kernel
theorem dL_law_783 : decode cL_law 783 = .ok (.aload_n 2, 1) := by decide +kernel
theorem dL_law_784 : decode cL_law 784 = .ok (.invokevirtual 92, 3) := by decide +kernel
theorem dL_law_787 : decode cL_law 787 = .ok (.if_icmp .eq 74, 3) := by decide +kernel
theorem dL_law_790 : decode cL_law 790 = .ok (.iconst 0, 1) := by decide +kernel
theorem dL_law_791 : decode cL_law 791 = .ok (.ireturn, 1) := by decide +kernel
theorem dL_law_792 : decode cL_law 792 = .ok (.aload_n 1, 1) := by decide +kernel
theorem dL_law_793 : decode cL_law 793 = .ok (.aload_n 0, 1) := by decide +kernel
theorem dL_law_794 : decode cL_law 794 = .ok (.iload_n 3, 1) := by decide +kernel
theorem dL_law_795 : decode cL_law 795 = .ok (.iconst 1, 1) := by decide +kernel
theorem dL_law_796 : decode cL_law 796 = .ok (.iadd, 1) := by decide +kernel
theorem dL_law_797 : decode cL_law 797 = .ok (.iaload, 1) := by decide +kernel
theorem dL_law_798 : decode cL_law 798 = .ok (.aload_n 0, 1) := by decide +kernel
theorem dL_law_799 : decode cL_law 799 = .ok (.iload_n 3, 1) := by decide +kernel
theorem dL_law_800 : decode cL_law 800 = .ok (.iconst 2, 1) := by decide +kernel
theorem dL_law_801 : decode cL_law 801 = .ok (.iadd, 1) := by decide +kernel
theorem dL_law_802 : decode cL_law 802 = .ok (.iaload, 1) := by decide +kernel
theorem dL_law_803 : decode cL_law 803 = .ok (.aload_n 0, 1) := by decide +kernel
theorem dL_law_804 : decode cL_law 804 = .ok (.iload_n 3, 1) := by decide +kernel
theorem dL_law_805 : decode cL_law 805 = .ok (.iconst 3, 1) := by decide +kernel
theorem dL_law_806 : decode cL_law 806 = .ok (.iadd, 1) := by decide +kernel
theorem dL_law_807 : decode cL_law 807 = .ok (.iaload, 1) := by decide +kernel
theorem dL_law_808 : decode cL_law 808 = .ok (.invokevirtual 93, 3) := by decide +kernel
theorem dL_law_811 : decode cL_law 811 = .ok (.aload_n 2, 1) := by decide +kernel
theorem dL_law_812 : decode cL_law 812 = .ok (.aload_n 0, 1) := by decide +kernel
theorem dL_law_813 : decode cL_law 813 = .ok (.iload_n 3, 1) := by decide +kernel
theorem dL_law_814 : decode cL_law 814 = .ok (.iconst 1, 1) := by decide +kernel
theorem dL_law_815 : decode cL_law 815 = .ok (.iadd, 1) := by decide +kernel
theorem dL_law_816 : decode cL_law 816 = .ok (.iaload, 1) := by decide +kernel
theorem dL_law_817 : decode cL_law 817 = .ok (.aload_n 0, 1) := by decide +kernel
theorem dL_law_818 : decode cL_law 818 = .ok (.iload_n 3, 1) := by decide +kernel
theorem dL_law_819 : decode cL_law 819 = .ok (.iconst 2, 1) := by decide +kernel
theorem dL_law_820 : decode cL_law 820 = .ok (.iadd, 1) := by decide +kernel
theorem dL_law_821 : decode cL_law 821 = .ok (.iaload, 1) := by decide +kernel
theorem dL_law_822 : decode cL_law 822 = .ok (.aload_n 0, 1) := by decide +kernel
theorem dL_law_823 : decode cL_law 823 = .ok (.iload_n 3, 1) := by decide +kernel
theorem dL_law_824 : decode cL_law 824 = .ok (.iconst 3, 1) := by decide +kernel
theorem dL_law_825 : decode cL_law 825 = .ok (.iadd, 1) := by decide +kernel
theorem dL_law_826 : decode cL_law 826 = .ok (.iaload, 1) := by decide +kernel
theorem dL_law_827 : decode cL_law 827 = .ok (.invokevirtual 97, 3) := by decide +kernel
theorem dL_law_830 : decode cL_law 830 = .ok (.if_icmp .eq 31, 3) := by decide +kernel
theorem dL_law_833 : decode cL_law 833 = .ok (.iconst 0, 1) := by decide +kernel
theorem dL_law_834 : decode cL_law 834 = .ok (.ireturn, 1) := by decide +kernel
theorem dL_law_835 : decode cL_law 835 = .ok (.aload_n 1, 1) := by decide +kernel
theorem dL_law_836 : decode cL_law 836 = .ok (.invokevirtual 98, 3) := by decide +kernel
theorem dL_law_839 : decode cL_law 839 = .ok (.aload_n 2, 1) := by decide +kernel
theorem dL_law_840 : decode cL_law 840 = .ok (.invokevirtual 101, 3) := by decide +kernel
theorem dL_law_843 : decode cL_law 843 = .ok (.if_icmp .eq 18, 3) := by decide +kernel
theorem dL_law_846 : decode cL_law 846 = .ok (.iconst 0, 1) := by decide +kernel
theorem dL_law_847 : decode cL_law 847 = .ok (.ireturn, 1) := by decide +kernel
theorem dL_law_848 : decode cL_law 848 = .ok (.aload_n 1, 1) := by decide +kernel
theorem dL_law_849 : decode cL_law 849 = .ok (.invokevirtual 102, 3) := by decide +kernel
theorem dL_law_852 : decode cL_law 852 = .ok (.aload_n 2, 1) := by decide +kernel
theorem dL_law_853 : decode cL_law 853 = .ok (.invokevirtual 106, 3) := by decide +kernel
theorem dL_law_856 : decode cL_law 856 = .ok (.if_icmp .eq 5, 3) := by decide +kernel
theorem dL_law_859 : decode cL_law 859 = .ok (.iconst 0, 1) := by decide +kernel
theorem dL_law_860 : decode cL_law 860 = .ok (.ireturn, 1) := by decide +kernel
theorem dL_law_861 : decode cL_law 861 = .ok (.iinc 3 8, 3) := by decide +kernel
theorem dL_law_864 : decode cL_law 864 = .ok (.goto (-846), 3) := by decide +kernel
theorem dL_law_867 : decode cL_law 867 = .ok (.iconst 1, 1) := by decide +kernel
theorem dL_law_868 : decode cL_law 868 = .ok (.ireturn, 1) := by decide +kernel
end
