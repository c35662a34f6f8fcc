section
-- ===== PART A: goes FIRST, ahead of the names: the tables' words, and 'selects' of the private methods out of them =====
/-- a private method of a class that the tables say can be made, by its rows of tables_1 -/
def lw_okq (q : MethodName × Nat) : Prop := (q.1.cls ≠ "java/lang/invoke/MethodHandle" ∧ q.1.cls ≠ "java/lang/invoke/VarHandle") ∧ Cond.instantiable q.1.cls q.2 ∈ tables_1 ∧ Cond.privateMethod q.1 ∈ tables_1 ∧ Cond.instanceMethod q.1 ∈ tables_1
theorem lw_p0 : lw_okq (⟨"CellTrays", "dropTray", "(I)V"⟩, 16) := ⟨⟨by decide +kernel, by decide +kernel⟩, List.mem_of_getElem? (i := 10) (by decide +kernel), List.mem_of_getElem? (i := 72) (by decide +kernel), List.mem_of_getElem? (i := 73) (by decide +kernel)⟩
theorem lw_p1 : lw_okq (⟨"CellTrays", "wastedBy", "(I)I"⟩, 16) := ⟨⟨by decide +kernel, by decide +kernel⟩, List.mem_of_getElem? (i := 10) (by decide +kernel), List.mem_of_getElem? (i := 80) (by decide +kernel), List.mem_of_getElem? (i := 81) (by decide +kernel)⟩
theorem lw_p2 : lw_okq (⟨"CellTrays", "traysOf", "(I)I"⟩, 16) := ⟨⟨by decide +kernel, by decide +kernel⟩, List.mem_of_getElem? (i := 10) (by decide +kernel), List.mem_of_getElem? (i := 84) (by decide +kernel), List.mem_of_getElem? (i := 85) (by decide +kernel)⟩
theorem lw_p3 : lw_okq (⟨"CellTrays", "thingsOf", "(I)I"⟩, 16) := ⟨⟨by decide +kernel, by decide +kernel⟩, List.mem_of_getElem? (i := 10) (by decide +kernel), List.mem_of_getElem? (i := 88) (by decide +kernel), List.mem_of_getElem? (i := 89) (by decide +kernel)⟩
theorem lw_p4 : lw_okq (⟨"CellTrays", "thingsThere", "()I"⟩, 16) := ⟨⟨by decide +kernel, by decide +kernel⟩, List.mem_of_getElem? (i := 10) (by decide +kernel), List.mem_of_getElem? (i := 96) (by decide +kernel), List.mem_of_getElem? (i := 97) (by decide +kernel)⟩
theorem lw_p5 : lw_okq (⟨"CellTrays", "requireWhat", "(II)V"⟩, 16) := ⟨⟨by decide +kernel, by decide +kernel⟩, List.mem_of_getElem? (i := 10) (by decide +kernel), List.mem_of_getElem? (i := 110) (by decide +kernel), List.mem_of_getElem? (i := 111) (by decide +kernel)⟩
theorem lw_p6 : lw_okq (⟨"java/lang/Throwable", "fillInStackTrace", "(I)Ljava/lang/Throwable;"⟩, 6) := ⟨⟨by decide +kernel, by decide +kernel⟩, List.mem_of_getElem? (i := 152) (by decide +kernel), List.mem_of_getElem? (i := 150) (by decide +kernel), List.mem_of_getElem? (i := 151) (by decide +kernel)⟩
theorem lw_p7 : lw_okq (⟨"CellTrays", "wastedInAll", "()I"⟩, 16) := ⟨⟨by decide +kernel, by decide +kernel⟩, List.mem_of_getElem? (i := 10) (by decide +kernel), List.mem_of_getElem? (i := 182) (by decide +kernel), List.mem_of_getElem? (i := 183) (by decide +kernel)⟩
theorem lw_p8 : lw_okq (⟨"CellTrays", "requireKind", "(I)V"⟩, 16) := ⟨⟨by decide +kernel, by decide +kernel⟩, List.mem_of_getElem? (i := 10) (by decide +kernel), List.mem_of_getElem? (i := 190) (by decide +kernel), List.mem_of_getElem? (i := 191) (by decide +kernel)⟩
theorem lw_p9 : lw_okq (⟨"CellTrays", "traysHolding", "(II)I"⟩, 16) := ⟨⟨by decide +kernel, by decide +kernel⟩, List.mem_of_getElem? (i := 10) (by decide +kernel), List.mem_of_getElem? (i := 195) (by decide +kernel), List.mem_of_getElem? (i := 196) (by decide +kernel)⟩
theorem lw_p10 : lw_okq (⟨"CellTrays", "freeCellsOf", "(I)I"⟩, 16) := ⟨⟨by decide +kernel, by decide +kernel⟩, List.mem_of_getElem? (i := 10) (by decide +kernel), List.mem_of_getElem? (i := 199) (by decide +kernel), List.mem_of_getElem? (i := 200) (by decide +kernel)⟩
theorem lw_p11 : lw_okq (⟨"CellTrays", "digestPlace", "(JI)J"⟩, 16) := ⟨⟨by decide +kernel, by decide +kernel⟩, List.mem_of_getElem? (i := 10) (by decide +kernel), List.mem_of_getElem? (i := 203) (by decide +kernel), List.mem_of_getElem? (i := 204) (by decide +kernel)⟩
theorem lw_p12 : lw_okq (⟨"CellTrays", "requirePlace", "(I)V"⟩, 16) := ⟨⟨by decide +kernel, by decide +kernel⟩, List.mem_of_getElem? (i := 10) (by decide +kernel), List.mem_of_getElem? (i := 211) (by decide +kernel), List.mem_of_getElem? (i := 212) (by decide +kernel)⟩
theorem lw_p13 : lw_okq (⟨"CellTrays", "cellsAt", "(I)I"⟩, 16) := ⟨⟨by decide +kernel, by decide +kernel⟩, List.mem_of_getElem? (i := 10) (by decide +kernel), List.mem_of_getElem? (i := 216) (by decide +kernel), List.mem_of_getElem? (i := 217) (by decide +kernel)⟩
theorem lw_p14 : lw_okq (⟨"CellTrays", "placeFor", "(I)I"⟩, 16) := ⟨⟨by decide +kernel, by decide +kernel⟩, List.mem_of_getElem? (i := 10) (by decide +kernel), List.mem_of_getElem? (i := 271) (by decide +kernel), List.mem_of_getElem? (i := 272) (by decide +kernel)⟩
theorem lw_p15 : lw_okq (⟨"CellTrays", "mostPartly", "(I)I"⟩, 16) := ⟨⟨by decide +kernel, by decide +kernel⟩, List.mem_of_getElem? (i := 10) (by decide +kernel), List.mem_of_getElem? (i := 275) (by decide +kernel), List.mem_of_getElem? (i := 276) (by decide +kernel)⟩
def lw_privs_1 : List (MethodName × Nat) := [(⟨"CellTrays", "dropTray", "(I)V"⟩, 16), (⟨"CellTrays", "wastedBy", "(I)I"⟩, 16), (⟨"CellTrays", "traysOf", "(I)I"⟩, 16), (⟨"CellTrays", "thingsOf", "(I)I"⟩, 16), (⟨"CellTrays", "thingsThere", "()I"⟩, 16), (⟨"CellTrays", "requireWhat", "(II)V"⟩, 16), (⟨"java/lang/Throwable", "fillInStackTrace", "(I)Ljava/lang/Throwable;"⟩, 6), (⟨"CellTrays", "wastedInAll", "()I"⟩, 16), (⟨"CellTrays", "requireKind", "(I)V"⟩, 16), (⟨"CellTrays", "traysHolding", "(II)I"⟩, 16), (⟨"CellTrays", "freeCellsOf", "(I)I"⟩, 16), (⟨"CellTrays", "digestPlace", "(JI)J"⟩, 16), (⟨"CellTrays", "requirePlace", "(I)V"⟩, 16), (⟨"CellTrays", "cellsAt", "(I)I"⟩, 16), (⟨"CellTrays", "placeFor", "(I)I"⟩, 16), (⟨"CellTrays", "mostPartly", "(I)I"⟩, 16)]
theorem lw_r1 : ∀ q ∈ lw_privs_1, lw_okq q := List.forall_mem_cons.mpr ⟨lw_p0, List.forall_mem_cons.mpr ⟨lw_p1, List.forall_mem_cons.mpr ⟨lw_p2, List.forall_mem_cons.mpr ⟨lw_p3, List.forall_mem_cons.mpr ⟨lw_p4, List.forall_mem_cons.mpr ⟨lw_p5, List.forall_mem_cons.mpr ⟨lw_p6, List.forall_mem_cons.mpr ⟨lw_p7, List.forall_mem_cons.mpr ⟨lw_p8, List.forall_mem_cons.mpr ⟨lw_p9, List.forall_mem_cons.mpr ⟨lw_p10, List.forall_mem_cons.mpr ⟨lw_p11, List.forall_mem_cons.mpr ⟨lw_p12, List.forall_mem_cons.mpr ⟨lw_p13, List.forall_mem_cons.mpr ⟨lw_p14, List.forall_mem_cons.mpr ⟨lw_p15, fun _ h => absurd h List.not_mem_nil⟩⟩⟩⟩⟩⟩⟩⟩⟩⟩⟩⟩⟩⟩⟩⟩
theorem lw_p16 : lw_okq (⟨"CellTrays", "isPartly", "(II)Z"⟩, 16) := ⟨⟨by decide +kernel, by decide +kernel⟩, List.mem_of_getElem? (i := 10) (by decide +kernel), List.mem_of_getElem? (i := 279) (by decide +kernel), List.mem_of_getElem? (i := 280) (by decide +kernel)⟩
theorem lw_p17 : lw_okq (⟨"CellTrays", "firstEmpty", "(I)I"⟩, 16) := ⟨⟨by decide +kernel, by decide +kernel⟩, List.mem_of_getElem? (i := 10) (by decide +kernel), List.mem_of_getElem? (i := 283) (by decide +kernel), List.mem_of_getElem? (i := 284) (by decide +kernel)⟩
theorem lw_p18 : lw_okq (⟨"CellTrays", "firstBare", "()I"⟩, 16) := ⟨⟨by decide +kernel, by decide +kernel⟩, List.mem_of_getElem? (i := 10) (by decide +kernel), List.mem_of_getElem? (i := 287) (by decide +kernel), List.mem_of_getElem? (i := 288) (by decide +kernel)⟩
theorem lw_p19 : lw_okq (⟨"CellTrays", "addTray", "(II)V"⟩, 16) := ⟨⟨by decide +kernel, by decide +kernel⟩, List.mem_of_getElem? (i := 10) (by decide +kernel), List.mem_of_getElem? (i := 292) (by decide +kernel), List.mem_of_getElem? (i := 293) (by decide +kernel)⟩
theorem lw_p20 : lw_okq (⟨"CellTrays", "layIn", "(II)V"⟩, 16) := ⟨⟨by decide +kernel, by decide +kernel⟩, List.mem_of_getElem? (i := 10) (by decide +kernel), List.mem_of_getElem? (i := 296) (by decide +kernel), List.mem_of_getElem? (i := 297) (by decide +kernel)⟩
theorem lw_p21 : lw_okq (⟨"CellTrays", "requireThing", "(I)V"⟩, 16) := ⟨⟨by decide +kernel, by decide +kernel⟩, List.mem_of_getElem? (i := 10) (by decide +kernel), List.mem_of_getElem? (i := 307) (by decide +kernel), List.mem_of_getElem? (i := 308) (by decide +kernel)⟩
theorem lw_p22 : lw_okq (⟨"CellTrays", "liftOut", "(I)V"⟩, 16) := ⟨⟨by decide +kernel, by decide +kernel⟩, List.mem_of_getElem? (i := 10) (by decide +kernel), List.mem_of_getElem? (i := 313) (by decide +kernel), List.mem_of_getElem? (i := 314) (by decide +kernel)⟩
theorem lw_p23 : lw_okq (⟨"CellTrays", "leastPartly", "(I)I"⟩, 16) := ⟨⟨by decide +kernel, by decide +kernel⟩, List.mem_of_getElem? (i := 10) (by decide +kernel), List.mem_of_getElem? (i := 324) (by decide +kernel), List.mem_of_getElem? (i := 325) (by decide +kernel)⟩
theorem lw_p24 : lw_okq (⟨"CellTrays", "moveLast", "(II)V"⟩, 16) := ⟨⟨by decide +kernel, by decide +kernel⟩, List.mem_of_getElem? (i := 10) (by decide +kernel), List.mem_of_getElem? (i := 328) (by decide +kernel), List.mem_of_getElem? (i := 329) (by decide +kernel)⟩
theorem lw_p25 : lw_okq (⟨"CellTraysModel", "no", "(I)I"⟩, 15) := ⟨⟨by decide +kernel, by decide +kernel⟩, List.mem_of_getElem? (i := 380) (by decide +kernel), List.mem_of_getElem? (i := 443) (by decide +kernel), List.mem_of_getElem? (i := 444) (by decide +kernel)⟩
theorem lw_p26 : lw_okq (⟨"CellTraysModel", "isKind", "(I)Z"⟩, 15) := ⟨⟨by decide +kernel, by decide +kernel⟩, List.mem_of_getElem? (i := 380) (by decide +kernel), List.mem_of_getElem? (i := 451) (by decide +kernel), List.mem_of_getElem? (i := 452) (by decide +kernel)⟩
theorem lw_p27 : lw_okq (⟨"CellTraysModel", "goesTo", "(I)I"⟩, 15) := ⟨⟨by decide +kernel, by decide +kernel⟩, List.mem_of_getElem? (i := 380) (by decide +kernel), List.mem_of_getElem? (i := 455) (by decide +kernel), List.mem_of_getElem? (i := 456) (by decide +kernel)⟩
theorem lw_p28 : lw_okq (⟨"CellTraysModel", "fullest", "(I)I"⟩, 15) := ⟨⟨by decide +kernel, by decide +kernel⟩, List.mem_of_getElem? (i := 380) (by decide +kernel), List.mem_of_getElem? (i := 459) (by decide +kernel), List.mem_of_getElem? (i := 460) (by decide +kernel)⟩
theorem lw_p29 : lw_okq (⟨"CellTraysModel", "isPartly", "(II)Z"⟩, 15) := ⟨⟨by decide +kernel, by decide +kernel⟩, List.mem_of_getElem? (i := 380) (by decide +kernel), List.mem_of_getElem? (i := 463) (by decide +kernel), List.mem_of_getElem? (i := 464) (by decide +kernel)⟩
theorem lw_p30 : lw_okq (⟨"CellTraysModel", "cells", "(I)I"⟩, 15) := ⟨⟨by decide +kernel, by decide +kernel⟩, List.mem_of_getElem? (i := 380) (by decide +kernel), List.mem_of_getElem? (i := 467) (by decide +kernel), List.mem_of_getElem? (i := 468) (by decide +kernel)⟩
theorem lw_p31 : lw_okq (⟨"CellTraysModel", "firstEmpty", "(I)I"⟩, 15) := ⟨⟨by decide +kernel, by decide +kernel⟩, List.mem_of_getElem? (i := 380) (by decide +kernel), List.mem_of_getElem? (i := 471) (by decide +kernel), List.mem_of_getElem? (i := 472) (by decide +kernel)⟩
def lw_privs_2 : List (MethodName × Nat) := [(⟨"CellTrays", "isPartly", "(II)Z"⟩, 16), (⟨"CellTrays", "firstEmpty", "(I)I"⟩, 16), (⟨"CellTrays", "firstBare", "()I"⟩, 16), (⟨"CellTrays", "addTray", "(II)V"⟩, 16), (⟨"CellTrays", "layIn", "(II)V"⟩, 16), (⟨"CellTrays", "requireThing", "(I)V"⟩, 16), (⟨"CellTrays", "liftOut", "(I)V"⟩, 16), (⟨"CellTrays", "leastPartly", "(I)I"⟩, 16), (⟨"CellTrays", "moveLast", "(II)V"⟩, 16), (⟨"CellTraysModel", "no", "(I)I"⟩, 15), (⟨"CellTraysModel", "isKind", "(I)Z"⟩, 15), (⟨"CellTraysModel", "goesTo", "(I)I"⟩, 15), (⟨"CellTraysModel", "fullest", "(I)I"⟩, 15), (⟨"CellTraysModel", "isPartly", "(II)Z"⟩, 15), (⟨"CellTraysModel", "cells", "(I)I"⟩, 15), (⟨"CellTraysModel", "firstEmpty", "(I)I"⟩, 15)]
theorem lw_r2 : ∀ q ∈ lw_privs_2, lw_okq q := List.forall_mem_cons.mpr ⟨lw_p16, List.forall_mem_cons.mpr ⟨lw_p17, List.forall_mem_cons.mpr ⟨lw_p18, List.forall_mem_cons.mpr ⟨lw_p19, List.forall_mem_cons.mpr ⟨lw_p20, List.forall_mem_cons.mpr ⟨lw_p21, List.forall_mem_cons.mpr ⟨lw_p22, List.forall_mem_cons.mpr ⟨lw_p23, List.forall_mem_cons.mpr ⟨lw_p24, List.forall_mem_cons.mpr ⟨lw_p25, List.forall_mem_cons.mpr ⟨lw_p26, List.forall_mem_cons.mpr ⟨lw_p27, List.forall_mem_cons.mpr ⟨lw_p28, List.forall_mem_cons.mpr ⟨lw_p29, List.forall_mem_cons.mpr ⟨lw_p30, List.forall_mem_cons.mpr ⟨lw_p31, fun _ h => absurd h List.not_mem_nil⟩⟩⟩⟩⟩⟩⟩⟩⟩⟩⟩⟩⟩⟩⟩⟩
theorem lw_p32 : lw_okq (⟨"CellTraysModel", "isEmpty", "(II)Z"⟩, 15) := ⟨⟨by decide +kernel, by decide +kernel⟩, List.mem_of_getElem? (i := 380) (by decide +kernel), List.mem_of_getElem? (i := 475) (by decide +kernel), List.mem_of_getElem? (i := 476) (by decide +kernel)⟩
theorem lw_p33 : lw_okq (⟨"CellTraysModel", "firstFree", "()I"⟩, 15) := ⟨⟨by decide +kernel, by decide +kernel⟩, List.mem_of_getElem? (i := 380) (by decide +kernel), List.mem_of_getElem? (i := 479) (by decide +kernel), List.mem_of_getElem? (i := 480) (by decide +kernel)⟩
theorem lw_p34 : lw_okq (⟨"CellTraysModel", "open", "(II)V"⟩, 15) := ⟨⟨by decide +kernel, by decide +kernel⟩, List.mem_of_getElem? (i := 380) (by decide +kernel), List.mem_of_getElem? (i := 483) (by decide +kernel), List.mem_of_getElem? (i := 484) (by decide +kernel)⟩
theorem lw_p35 : lw_okq (⟨"CellTraysModel", "freeCell", "(I)I"⟩, 15) := ⟨⟨by decide +kernel, by decide +kernel⟩, List.mem_of_getElem? (i := 380) (by decide +kernel), List.mem_of_getElem? (i := 487) (by decide +kernel), List.mem_of_getElem? (i := 488) (by decide +kernel)⟩
theorem lw_p36 : lw_okq (⟨"CellTraysModel", "lay", "(III)V"⟩, 15) := ⟨⟨by decide +kernel, by decide +kernel⟩, List.mem_of_getElem? (i := 380) (by decide +kernel), List.mem_of_getElem? (i := 491) (by decide +kernel), List.mem_of_getElem? (i := 492) (by decide +kernel)⟩
theorem lw_p37 : lw_okq (⟨"CellTraysModel", "isThing", "(I)Z"⟩, 15) := ⟨⟨by decide +kernel, by decide +kernel⟩, List.mem_of_getElem? (i := 380) (by decide +kernel), List.mem_of_getElem? (i := 499) (by decide +kernel), List.mem_of_getElem? (i := 500) (by decide +kernel)⟩
theorem lw_p38 : lw_okq (⟨"CellTraysModel", "lift", "(I)V"⟩, 15) := ⟨⟨by decide +kernel, by decide +kernel⟩, List.mem_of_getElem? (i := 380) (by decide +kernel), List.mem_of_getElem? (i := 503) (by decide +kernel), List.mem_of_getElem? (i := 504) (by decide +kernel)⟩
theorem lw_p39 : lw_okq (⟨"CellTraysModel", "empties", "(I)I"⟩, 15) := ⟨⟨by decide +kernel, by decide +kernel⟩, List.mem_of_getElem? (i := 380) (by decide +kernel), List.mem_of_getElem? (i := 507) (by decide +kernel), List.mem_of_getElem? (i := 508) (by decide +kernel)⟩
theorem lw_p40 : lw_okq (⟨"CellTraysModel", "close", "(I)V"⟩, 15) := ⟨⟨by decide +kernel, by decide +kernel⟩, List.mem_of_getElem? (i := 380) (by decide +kernel), List.mem_of_getElem? (i := 511) (by decide +kernel), List.mem_of_getElem? (i := 512) (by decide +kernel)⟩
theorem lw_p41 : lw_okq (⟨"CellTraysModel", "leanest", "(I)I"⟩, 15) := ⟨⟨by decide +kernel, by decide +kernel⟩, List.mem_of_getElem? (i := 380) (by decide +kernel), List.mem_of_getElem? (i := 523) (by decide +kernel), List.mem_of_getElem? (i := 524) (by decide +kernel)⟩
theorem lw_p42 : lw_okq (⟨"CellTraysModel", "lastThing", "(I)I"⟩, 15) := ⟨⟨by decide +kernel, by decide +kernel⟩, List.mem_of_getElem? (i := 380) (by decide +kernel), List.mem_of_getElem? (i := 527) (by decide +kernel), List.mem_of_getElem? (i := 528) (by decide +kernel)⟩
theorem lw_p43 : lw_okq (⟨"CellTraysModel", "thingTold", "(II)I"⟩, 15) := ⟨⟨by decide +kernel, by decide +kernel⟩, List.mem_of_getElem? (i := 380) (by decide +kernel), List.mem_of_getElem? (i := 535) (by decide +kernel), List.mem_of_getElem? (i := 536) (by decide +kernel)⟩
theorem lw_p44 : lw_okq (⟨"CellTraysModel", "trayTold", "(II)I"⟩, 15) := ⟨⟨by decide +kernel, by decide +kernel⟩, List.mem_of_getElem? (i := 380) (by decide +kernel), List.mem_of_getElem? (i := 543) (by decide +kernel), List.mem_of_getElem? (i := 544) (by decide +kernel)⟩
theorem lw_p45 : lw_okq (⟨"CellTraysModel", "wasted", "(I)I"⟩, 15) := ⟨⟨by decide +kernel, by decide +kernel⟩, List.mem_of_getElem? (i := 380) (by decide +kernel), List.mem_of_getElem? (i := 547) (by decide +kernel), List.mem_of_getElem? (i := 548) (by decide +kernel)⟩
theorem lw_p46 : lw_okq (⟨"CellTraysModel", "kindTold", "(II)I"⟩, 15) := ⟨⟨by decide +kernel, by decide +kernel⟩, List.mem_of_getElem? (i := 380) (by decide +kernel), List.mem_of_getElem? (i := 559) (by decide +kernel), List.mem_of_getElem? (i := 560) (by decide +kernel)⟩
theorem lw_p47 : lw_okq (⟨"CellTraysModel", "trays", "(I)I"⟩, 15) := ⟨⟨by decide +kernel, by decide +kernel⟩, List.mem_of_getElem? (i := 380) (by decide +kernel), List.mem_of_getElem? (i := 563) (by decide +kernel), List.mem_of_getElem? (i := 564) (by decide +kernel)⟩
def lw_privs_3 : List (MethodName × Nat) := [(⟨"CellTraysModel", "isEmpty", "(II)Z"⟩, 15), (⟨"CellTraysModel", "firstFree", "()I"⟩, 15), (⟨"CellTraysModel", "open", "(II)V"⟩, 15), (⟨"CellTraysModel", "freeCell", "(I)I"⟩, 15), (⟨"CellTraysModel", "lay", "(III)V"⟩, 15), (⟨"CellTraysModel", "isThing", "(I)Z"⟩, 15), (⟨"CellTraysModel", "lift", "(I)V"⟩, 15), (⟨"CellTraysModel", "empties", "(I)I"⟩, 15), (⟨"CellTraysModel", "close", "(I)V"⟩, 15), (⟨"CellTraysModel", "leanest", "(I)I"⟩, 15), (⟨"CellTraysModel", "lastThing", "(I)I"⟩, 15), (⟨"CellTraysModel", "thingTold", "(II)I"⟩, 15), (⟨"CellTraysModel", "trayTold", "(II)I"⟩, 15), (⟨"CellTraysModel", "wasted", "(I)I"⟩, 15), (⟨"CellTraysModel", "kindTold", "(II)I"⟩, 15), (⟨"CellTraysModel", "trays", "(I)I"⟩, 15)]
theorem lw_r3 : ∀ q ∈ lw_privs_3, lw_okq q := List.forall_mem_cons.mpr ⟨lw_p32, List.forall_mem_cons.mpr ⟨lw_p33, List.forall_mem_cons.mpr ⟨lw_p34, List.forall_mem_cons.mpr ⟨lw_p35, List.forall_mem_cons.mpr ⟨lw_p36, List.forall_mem_cons.mpr ⟨lw_p37, List.forall_mem_cons.mpr ⟨lw_p38, List.forall_mem_cons.mpr ⟨lw_p39, List.forall_mem_cons.mpr ⟨lw_p40, List.forall_mem_cons.mpr ⟨lw_p41, List.forall_mem_cons.mpr ⟨lw_p42, List.forall_mem_cons.mpr ⟨lw_p43, List.forall_mem_cons.mpr ⟨lw_p44, List.forall_mem_cons.mpr ⟨lw_p45, List.forall_mem_cons.mpr ⟨lw_p46, List.forall_mem_cons.mpr ⟨lw_p47, fun _ h => absurd h List.not_mem_nil⟩⟩⟩⟩⟩⟩⟩⟩⟩⟩⟩⟩⟩⟩⟩⟩
theorem lw_p48 : lw_okq (⟨"CellTraysModel", "full", "(I)I"⟩, 15) := ⟨⟨by decide +kernel, by decide +kernel⟩, List.mem_of_getElem? (i := 380) (by decide +kernel), List.mem_of_getElem? (i := 567) (by decide +kernel), List.mem_of_getElem? (i := 568) (by decide +kernel)⟩
theorem lw_p49 : lw_okq (⟨"CellTraysModel", "lying", "(I)I"⟩, 15) := ⟨⟨by decide +kernel, by decide +kernel⟩, List.mem_of_getElem? (i := 380) (by decide +kernel), List.mem_of_getElem? (i := 571) (by decide +kernel), List.mem_of_getElem? (i := 572) (by decide +kernel)⟩
theorem lw_p50 : lw_okq (⟨"CellTraysModel", "counted", "(I)I"⟩, 15) := ⟨⟨by decide +kernel, by decide +kernel⟩, List.mem_of_getElem? (i := 380) (by decide +kernel), List.mem_of_getElem? (i := 579) (by decide +kernel), List.mem_of_getElem? (i := 580) (by decide +kernel)⟩
def lw_privs_4 : List (MethodName × Nat) := [(⟨"CellTraysModel", "full", "(I)I"⟩, 15), (⟨"CellTraysModel", "lying", "(I)I"⟩, 15), (⟨"CellTraysModel", "counted", "(I)I"⟩, 15)]
theorem lw_r4 : ∀ q ∈ lw_privs_4, lw_okq q := List.forall_mem_cons.mpr ⟨lw_p48, List.forall_mem_cons.mpr ⟨lw_p49, List.forall_mem_cons.mpr ⟨lw_p50, fun _ h => absurd h List.not_mem_nil⟩⟩⟩
def lw_privs : List (MethodName × Nat) := lw_privs_1 ++ (lw_privs_2 ++ (lw_privs_3 ++ (lw_privs_4)))
def lw_tbl : List Cond := k2_sels lw_privs ++ tables_1
theorem lw_privs_ok : ∀ q ∈ lw_privs, lw_okq q := by
  show ∀ q ∈ lw_privs_1 ++ (lw_privs_2 ++ (lw_privs_3 ++ (lw_privs_4))), lw_okq q
  exact List.forall_mem_append.mpr ⟨lw_r1, List.forall_mem_append.mpr ⟨lw_r2, List.forall_mem_append.mpr ⟨lw_r3, lw_r4⟩⟩⟩
/-- the streams that the claim lets the run draw from -/
abbrev lw_cs : List Choice := [Jvm.Choice.named "NaN.bits"]
theorem lw_bits : nanBits ∈ lw_cs := by first | decide | exact List.mem_cons_self | simp [lw_cs, nanBits]
end
section
/-! ===== BEGIN words of one list among another's, by their places ===== -/
theorem goodIn_r {big : List Cond} (ws : List Cond) (ps : List Nat) (hp : ws = ps.filterMap (fun i => big[i]?)) (h : ws.all goodWord = true) : GoodIn big ws := by
  intro w hw
  have h1 := List.all_eq_true.mp h w hw
  rw [hp] at hw
  obtain ⟨i, -, hi⟩ := List.mem_filterMap.mp hw
  have hm : w ∈ big := by first | exact List.mem_of_getElem? hi | exact List.getElem?_mem hi
  exact ⟨hm, good_of_word h1⟩
theorem goodIn_app {big a b : List Cond} (ha : GoodIn big a) (hb : GoodIn big b) : GoodIn big (a ++ b) := fun w h => (List.mem_append.mp h).elim (ha w) (hb w)
theorem goodIn_ca {big a b : List Cond} {c : Cond} (ha : GoodIn big (c :: a)) (hb : GoodIn big b) : GoodIn big (c :: (a ++ b)) := fun w h => (List.mem_cons.mp h).elim (fun e => ha w (List.mem_cons.mpr (Or.inl e))) (fun h => (List.mem_append.mp h).elim (fun h => ha w (List.mem_cons.mpr (Or.inr h))) (hb w))
theorem goodIn_sub {big ws : List Cond} (hm : ∀ w ∈ ws, w ∈ big) (h : ws.all goodWord = true) : GoodIn big ws := fun w hw => ⟨hm w hw, good_of_word (List.all_eq_true.mp h w hw)⟩
/-! ===== END ===== -/

/-! ===== BEGIN exceptions that leave a method, and their catching by the caller (launches without stack traces) ===== -/
section VXA
/-! The laws vx_back, vx_callV, vx_callS, vx_callSW, vx_throw0, vx_throwS follow proofs of the library, with one case more: JvmDerived/Free/Laws.lean (Back.of_free), Shelf42/LK1.lean (callV, callS), Shelf/KitTraced.lean (throwNew0V, throwNewS). -/
/-- where a method has thrown q: the class by its name, the cell, what was written, the world -/
def vx_T (XC : String → State → State → Prop) (st : State) (q : Addr) (t : State) (mc ms : Nat) (free : Addr → Prop) : Prop :=
  ∃ (E : String) (ce : Cell) (L : List Loc), XC E st t ∧ t.heap[q]? = some ce ∧ ce.vm = .none ∧ st.vm.findClass E = some ce.cls ∧ st.WarmedH t.vm ∧ st.sameButNew ({ t with vm := st.vm } : State) L mc ms ∧ ∀ z ∈ L, free z.base
def vx_Q (Qc : Array Value → State → Outcome → State → Prop) (XC : String → State → State → Prop) (mc ms : Nat) (free : Addr → Prop) : Array Value → State → Outcome → State → Prop := fun a st o t =>
  (Qc a st o t ∧ ∃ L, FrameEnd st o t L mc ms ∧ ∀ q ∈ L, free q.base) ∨ ∃ q, o = .threw q ∧ vx_T XC st q t mc ms free
/-- a callee that returns or throws -/
def vx_Met (l : Launch) (y : MethodName) (ws : List Cond) (rm : Room) (Pc : Array Value → State → Prop) (Qc : Array Value → State → Outcome → State → Prop) (XC : String → State → State → Prop) (mc ms : Nat) (free : Addr → Prop) : Prop :=
  MetFree l y (headSpec ws rm) Pc (fun _ _ _ _ _ => True) (vx_Q Qc XC mc ms free)
def vx_Post (XC : String → State → State → Prop) (mc ms : Nat) (free : Addr → Prop) : Pt → Array Value → Addr → Pt → Prop := fun A a q B =>
  ∃ (g : JFrame) (mk : MethodId) (t : State) (L : List Loc) (E : String) (ce : Cell), B.U.heap = t.heap ∧ B.U.vm = t.vm ∧ XC E (A.U.calling g mk a) t ∧ t.heap[q]? = some ce ∧ ce.vm = .none ∧ A.U.vm.findClass E = some ce.cls ∧ B.locs = A.locs ++ L ∧ (∀ z ∈ L, free z.base) ∧ B.cells = A.cells + mc ∧ B.slots = A.slots + ms
def vx_Back (l : Launch) (R : Room) (p : Program) (e : Env) (below : List Frame) (s : State) (sargs : Array Value) (y : MethodName) (len W9 : Nat)
    (Pre : Pt → Array Value → Prop) (Post : Pt → Array Value → Option Value → Pt → Prop) (PostX : Pt → Array Value → Addr → Pt → Prop) : Prop :=
  ∀ (m : MethodId) (meth : Method) (c : Code) (A : Pt) (g : JFrame) (ig : Instr) (mk : MethodId) (a : Array Value),
    Stand p l e R s m sargs below meth c A.U A.locs A.cells A.slots → g.method = m → g.locals.size = c.maxLocals → decode c.code g.pc = .ok (ig, len) →
    2 * g.monitorRoom + (g.stack.map fun v => v.category).sum ≤ W9 → A.U.methodNamed? y = some mk → Pre A a →
    (∃ (v : Option Value) (B : Pt), Stand p l e R s m sargs below meth c B.U B.locs B.cells B.slots ∧ Post A a v B ∧
      Steps p.tables e below (doInvoke e (A.U.setTop g) [] mk a).1 (B.U.setTop { g with pc := g.pc + len, stack := v.toList ++ g.stack })) ∨
    (∃ (q : Addr) (B : Pt), Stand p l e R s m sargs below meth c B.U B.locs B.cells B.slots ∧ PostX A a q B ∧
      Steps p.tables e below (doInvoke e (A.U.setTop g) [] mk a).1 ((B.U.setTop g).pushFrame (.throwing q)))
section Payer
variable {l : Launch} {R : Room} {p : Program} {e : Env} {below : List Frame} {s : State} {sargs : Array Value} {y : MethodName} {len W9 : Nat}
theorem vx_back {ws : List Cond} {rm : Room} {Pc : Array Value → State → Prop} {Qc : Array Value → State → Outcome → State → Prop} {XC : String → State → State → Prop} {mc ms : Nat} {free : Addr → Prop} {bytes : ByteArray} {maxL : Nat} {ret : Option FieldType}
    (hM : vx_Met l y ws rm Pc Qc XC mc ms free) (hblind : FrameBlind Pc) (hrc : rm.cells = mc) (hrs : rm.slots = ms)
    (hframes : rm.frames + 1 ≤ R.frames) (hlocals : W9 + (maxL + 11) + rm.locals ≤ R.locals)
    (hws : ∀ w ∈ ws, ∀ a' U, s.WarmedH U.vm → w.before a' U = true) (hcode : Cond.code y bytes maxL ret ∈ ws) (hinit : ∀ a' U, s.WarmedH U.vm → (Cond.initialized y.cls).before a' U = true) :
    vx_Back l R p e below s sargs y len W9 (PreOf R mc ms Pc) (PostOf Qc mc ms free) (vx_Post XC mc ms free) := by
  intro m meth c A g ig mk a X hg hsize hdg hW hn hp
  have h1 : (headSpec ws rm).pre.before a A.U = true := atoms_intro fun w hw => hws w hw _ _ X.warmed
  have h2 : (Cond.code y bytes maxL ret).before a A.U = true := hws _ hcode _ _ X.warmed
  have h3 : (Cond.initialized y.cls).before a A.U = true := hinit _ _ X.warmed
  have h4 : A.cells + (headSpec ws rm).room.cells ≤ R.cells := by rw [show (headSpec ws rm).room.cells = mc from hrc]; exact hp.1
  have h5 : A.slots + (headSpec ws rm).room.slots ≤ R.slots := by rw [show (headSpec ws rm).room.slots = ms from hrs]; exact hp.2.1
  have hPc : Pc a (A.U.calling g mk a) := hblind _ _ _ _ hp.2.2
  obtain ⟨U, Ls, c0, s0⟩ := A
  dsimp only [Pt.U, Pt.locs, Pt.cells, Pt.slots] at h1 h2 h3 h4 h5 X hn hPc ⊢
  obtain ⟨methY, cY, hmY, hcY, -, hlY, -, -, -, -⟩ := Cond.code_spec hn h2
  obtain ⟨kY, hkY, -⟩ := className_of_methodNamed hn
  have hinitY : kY.init = .initialized := Cond.initialized_spec (findClass_of_methodNamed hn) hkY h3
  have h : At U g.method c below := by rw [hg]; exact X.here
  have hlocals9 : W9 + (maxL + 11) + (headSpec ws rm).room.locals ≤ R.locals := hlocals
  have happ : (headSpec ws rm).appliesLoose y e.platform (U.calling g mk a) = true :=
    Spec.appliesLoose_calling (g := g) h hdg hn hkY hinitY
      (X.room_calling (g := g) (R' := (headSpec ws rm).room) hsize hmY hcY hframes (by rw [hlY]; omega) h4 h5) h1
  obtain ⟨mid, hmid⟩ := h.above
  have hfr : (U.setTop g).frames = (.java g :: mid) ++ below := by rw [State.frames_setTop' g h.top, hmid]; rfl
  obtain ⟨o, s₂, hsteps, -, hend, hq⟩ := Steps.callFree hM p X.admits X.cas X.clock (acts := []) hfr happ hPc trivial
  have hq' : vx_Q Qc XC mc ms free a (U.calling g mk a) o s₂ := hq
  rw [State.frames_setTop' g h.top] at hend
  obtain ⟨g₀, hg0⟩ := Option.isSome_iff_exists.mp h.top
  obtain ⟨r, hr⟩ := State.topJava?_eq_some.mp hg0
  have hr' : (({ U with heap := s₂.heap, slotsUsed := s₂.slotsUsed } : State).setVm s₂.vm).frames = .java g₀ :: r := hr
  rcases hq' with ⟨hqc, L, hfe, hL⟩ | ⟨q, rfl, E, ce, L, hx, hce, hcv, hcl, hW₂, hsm, hL⟩
  · obtain ⟨⟨v, rfl⟩, hW₂, e2, q2, q3, q4, q5, q6⟩ := id hfe
    have e3 : s₂ = ({ (U.calling g mk a).setFrames s₂.frames with heap := s₂.heap, slotsUsed := s₂.slotsUsed } : State).setVm s₂.vm := by
      have : s₂ = ({ s₂ with vm := (U.calling g mk a).vm } : State).setVm s₂.vm := rfl
      rw [e2] at this
      exact this
    obtain ⟨c₂, i₂, len₂, hc₂, hd₂, hf₂⟩ := hend
    have hW' : U.WarmedH s₂.vm := hW₂
    have hcc : c₂ = c := by
      have h1 : s₂.code? g.method = U.code? g.method := by
        rw [State.code?_eq, State.code?_eq, hW'.alike.method?]
      exact Option.some.inj (hc₂.symm.trans (h1.trans h.code))
    subst hcc
    have hlen : len₂ = len := by rw [hdg] at hd₂; cases hd₂; rfl
    subst hlen
    have hs₂ : s₂ = (({ U with heap := s₂.heap, slotsUsed := s₂.slotsUsed } : State).setVm s₂.vm).setTop { g with pc := g.pc + len₂, stack := v.toList ++ g.stack } := by
      refine e3.trans ?_
      rw [hf₂, State.calling_eq h.top, State.setFrames_setFrames, State.setTop_of_frames _ hr', hr]
      rfl
    have hsame : U.sameButNew ({ U with heap := s₂.heap, slotsUsed := s₂.slotsUsed } : State) L mc ms := by
      refine ⟨?_, q2, q3, q4, q5, q6⟩
      obtain ⟨t, ht, -⟩ := State.frames_cons hr
      show ({ U with heap := s₂.heap, slotsUsed := s₂.slotsUsed } : State) = { U.setFrames U.frames with heap := s₂.heap, slotsUsed := s₂.slotsUsed }
      rw [State.setFrames_self ht]
    subst hg
    refine Or.inl ⟨v, ⟨(({ U with heap := s₂.heap, slotsUsed := s₂.slotsUsed } : State).setVm s₂.vm), Ls ++ L, c0 + mc, s0 + ms⟩,
      ⟨X.admits, X.cas, X.clock, X.frames, X.room, X.hears, X.method, X.code, (X.here.setHeapUsed s₂.heap s₂.slotsUsed).setVm hW'.alike, X.tail, State.WarmedH.trans X.warmed hW', X.limits, X.bytes, X.same.trans (hsame.setVm s.vm)⟩,
      ⟨g, mk, s₂, L, rfl, rfl, hqc, rfl, hL, rfl, rfl⟩, ?_⟩
    show Steps p.tables e below _ ((({ U with heap := s₂.heap, slotsUsed := s₂.slotsUsed } : State).setVm s₂.vm).setTop { g with pc := g.pc + len₂, stack := v.toList ++ g.stack })
    rw [← hs₂]
    exact hsteps
  · obtain ⟨e2, q2, q3, q4, q5, q6⟩ := id hsm
    have e3 : s₂ = ({ (U.calling g mk a).setFrames s₂.frames with heap := s₂.heap, slotsUsed := s₂.slotsUsed } : State).setVm s₂.vm := by
      have : s₂ = ({ s₂ with vm := (U.calling g mk a).vm } : State).setVm s₂.vm := rfl
      rw [e2] at this
      exact this
    have hf₂ : s₂.frames = .throwing q :: .java g :: U.frames.tail := hend
    have hW' : U.WarmedH s₂.vm := hW₂
    have hs₂ : s₂ = ((({ U with heap := s₂.heap, slotsUsed := s₂.slotsUsed } : State).setVm s₂.vm).setTop g).pushFrame (.throwing q) := by
      refine e3.trans ?_
      rw [hf₂, State.calling_eq h.top, State.setFrames_setFrames, State.pushFrame, State.frames_setTop _ hr', State.setTop_of_frames _ hr', State.setFrames_setFrames, hr]
      rfl
    have hsame : U.sameButNew ({ U with heap := s₂.heap, slotsUsed := s₂.slotsUsed } : State) L mc ms := by
      refine ⟨?_, q2, q3, q4, q5, q6⟩
      obtain ⟨t, ht, -⟩ := State.frames_cons hr
      show ({ U with heap := s₂.heap, slotsUsed := s₂.slotsUsed } : State) = { U.setFrames U.frames with heap := s₂.heap, slotsUsed := s₂.slotsUsed }
      rw [State.setFrames_self ht]
    subst hg
    refine Or.inr ⟨q, ⟨(({ U with heap := s₂.heap, slotsUsed := s₂.slotsUsed } : State).setVm s₂.vm), Ls ++ L, c0 + mc, s0 + ms⟩,
      ⟨X.admits, X.cas, X.clock, X.frames, X.room, X.hears, X.method, X.code, (X.here.setHeapUsed s₂.heap s₂.slotsUsed).setVm hW'.alike, X.tail, State.WarmedH.trans X.warmed hW', X.limits, X.bytes, X.same.trans (hsame.setVm s.vm)⟩,
      ⟨g, mk, s₂, L, E, ce, rfl, rfl, hx, hce, hcv, hcl, rfl, hL, rfl, rfl⟩, ?_⟩
    show Steps p.tables e below _ (((({ U with heap := s₂.heap, slotsUsed := s₂.slotsUsed } : State).setVm s₂.vm).setTop g).pushFrame (.throwing q))
    rw [← hs₂]
    exact hsteps
end Payer
section Calls
variable {p : Program} {l : Launch} {e : Env} {R : Room} {s : State} {m : MethodId} {args : Array Value} {below : List Frame} {meth : Method} {c : Code} {T : State} {locs : List Loc} {cells slots : Nat}
theorem vx_callV (X : Stand p l e R s m args below meth c T locs cells slots) (hexec : p.tables.exec = Jvm.exec) {own C : String} {index : Nat} {y : MethodName} {bytes : ByteArray} {maxL : Nat} {ret : Option FieldType}
    (hown : s.vm.findClass own = some m.cls) (hlink : (Cond.methodLink own index y).before args s = true) (hinst : (Cond.instanceMethod y).before args s = true) (hsel : (Cond.selects C y y).before args s = true)
    (hcode : (Cond.code y bytes maxL ret).before args s = true) (hy : y.cls ≠ "java/lang/invoke/MethodHandle" ∧ y.cls ≠ "java/lang/invoke/VarHandle")
    {W9 : Nat} {Pre : Pt → Array Value → Prop} {Post : Pt → Array Value → Option Value → Pt → Prop} {PostX : Pt → Array Value → Addr → Pt → Prop} (hK : vx_Back l R p e below s args y 3 W9 Pre Post PostX)
    {b : Addr} {cellB : Cell} (hcell : T.heap[b]? = some cellB) (hobj : cellB.vm.isStatics = false) (hcls : s.vm.findClass C = some cellB.cls)
    {g : JFrame} (hg : g.method = m) (hsize : g.locals.size = c.maxLocals) {argsL rest : List Value} (hlen : ∀ sig, parseMethodDescriptor y.desc = some sig → argsL.length = sig.parameters.length)
    (hstack : g.stack = argsL.reverse ++ .ref b :: rest) (hW : 2 * g.monitorRoom + (rest.map fun v => v.category).sum ≤ W9) (hdg : decode c.code g.pc = .ok (.invokevirtual index, 3))
    (hpre : ∀ vm₁, s.WarmedH vm₁ → Pre ⟨T.setVm vm₁, locs, cells, slots⟩ (Value.ref b :: argsL).toArray) :
    (∃ (v : Option Value) (vm₁ : Vm) (B : Pt), s.WarmedH vm₁ ∧ Stand p l e R s m args below meth c B.U B.locs B.cells B.slots ∧ Post ⟨T.setVm vm₁, locs, cells, slots⟩ (Value.ref b :: argsL).toArray v B ∧
      ∀ target, Steps p.tables e below (B.U.setTop { g with pc := g.pc + 3, stack := v.toList ++ rest }) target → Steps p.tables e below (T.setTop g) target) ∨
    (∃ (q : Addr) (vm₁ : Vm) (B : Pt), s.WarmedH vm₁ ∧ Stand p l e R s m args below meth c B.U B.locs B.cells B.slots ∧ PostX ⟨T.setVm vm₁, locs, cells, slots⟩ (Value.ref b :: argsL).toArray q B ∧
      Steps p.tables e below (T.setTop g) ((B.U.setTop { g with stack := rest }).pushFrame (.throwing q))) := by
  obtain ⟨mk, methM, hnamed, hmethM, hstM, habM⟩ := Cond.instanceMethod_spec hinst
  obtain ⟨methM', cM, hmethM', -, -, -, -, -, -, hsigM⟩ := Cond.code_spec hnamed hcode
  cases hmethM.symm.trans hmethM'
  obtain ⟨c2, r2, m2, q1, q2, q3, q4, kP, hkP, hkPi⟩ := Cond.selects_spec hsel
  cases hcls.symm.trans q1
  cases (State.methodFound?_of_named hnamed hy).symm.trans q2
  cases hnamed.symm.trans q3
  have hselP : selectMethod e.platform s.vm cellB.cls mk = .method mk := by rw [Launch.admits_selectMethod X.admits]; exact q4
  obtain ⟨vm₁, X₁, hstep₁⟩ := X.invokevirtual hexec hown hlink hnamed hmethM hstM hkP hkPi hy (a := b) (cell := cellB) hcell
    (fun z h => by rw [h] at hobj; cases hobj) hselP hmethM habM hkP hkPi (g := g) hg (argsL := argsL) (rest := rest) (hlen _ hsigM) hstack hdg
  rcases hK m meth c ⟨T.setVm vm₁, locs, cells, slots⟩ { g with stack := rest } (.invokevirtual index) mk (Value.ref b :: argsL).toArray X₁ hg hsize hdg hW (X₁.named hnamed) (hpre vm₁ X₁.warmed) with ⟨v, B, X', hpost, hsteps⟩ | ⟨q, B, X', hpost, hsteps⟩
  · exact Or.inl ⟨v, vm₁, B, X₁.warmed, X', hpost, fun target h => hstep₁ _ fun acts => by rw [doInvoke_state]; exact hsteps.trans h⟩
  · exact Or.inr ⟨q, vm₁, B, X₁.warmed, X', hpost, hstep₁ _ fun acts => by rw [doInvoke_state]; exact hsteps⟩
theorem vx_callS (X : Stand p l e R s m args below meth c T locs cells slots) (hexec : p.tables.exec = Jvm.exec) {own : String} {index : Nat} {y : MethodName} {bytes : ByteArray} {maxL : Nat} {ret : Option FieldType}
    (hown : s.vm.findClass own = some m.cls) (hlink : (Cond.methodLink own index y).before args s = true) (hstat : (Cond.static y).before args s = true) (hinit : (Cond.initialized y.cls).before args s = true)
    (hcode : (Cond.code y bytes maxL ret).before args s = true) (hy : y.cls ≠ "java/lang/invoke/MethodHandle" ∧ y.cls ≠ "java/lang/invoke/VarHandle")
    {W9 : Nat} {Pre : Pt → Array Value → Prop} {Post : Pt → Array Value → Option Value → Pt → Prop} {PostX : Pt → Array Value → Addr → Pt → Prop} (hK : vx_Back l R p e below s args y 3 W9 Pre Post PostX)
    {g : JFrame} (hg : g.method = m) (hsize : g.locals.size = c.maxLocals) {argsL rest : List Value} (hlen : ∀ sig, parseMethodDescriptor y.desc = some sig → argsL.length = sig.parameters.length)
    (hstack : g.stack = argsL.reverse ++ rest) (hW : 2 * g.monitorRoom + (rest.map fun v => v.category).sum ≤ W9) (hdg : decode c.code g.pc = .ok (.invokestatic index, 3))
    (hpre : ∀ vm₁, s.WarmedH vm₁ → Pre ⟨T.setVm vm₁, locs, cells, slots⟩ argsL.toArray) :
    (∃ (v : Option Value) (vm₁ : Vm) (B : Pt), s.WarmedH vm₁ ∧ Stand p l e R s m args below meth c B.U B.locs B.cells B.slots ∧ Post ⟨T.setVm vm₁, locs, cells, slots⟩ argsL.toArray v B ∧
      ∀ target, Steps p.tables e below (B.U.setTop { g with pc := g.pc + 3, stack := v.toList ++ rest }) target → Steps p.tables e below (T.setTop g) target) ∨
    (∃ (q : Addr) (vm₁ : Vm) (B : Pt), s.WarmedH vm₁ ∧ Stand p l e R s m args below meth c B.U B.locs B.cells B.slots ∧ PostX ⟨T.setVm vm₁, locs, cells, slots⟩ argsL.toArray q B ∧
      Steps p.tables e below (T.setTop g) ((B.U.setTop { g with stack := rest }).pushFrame (.throwing q))) := by
  obtain ⟨mk, hnamed⟩ := Cond.code_named hcode
  obtain ⟨methM, cM, hmethM, -, -, -, -, -, -, hsigM⟩ := Cond.code_spec hnamed hcode
  have hstatic : methM.isStatic = true := Cond.static_spec hnamed hmethM hstat
  obtain ⟨kP, hkP, -⟩ := className_of_methodNamed hnamed
  have hinitP : kP.init = .initialized := Cond.initialized_spec (findClass_of_methodNamed hnamed) hkP hinit
  obtain ⟨vm₁, X₁, hstep₁⟩ := X.invokestatic hexec hown hlink hnamed hmethM hstatic hkP hinitP hy (g := g) hg (argsL := argsL) (rest := rest) (hlen _ hsigM) hstack hdg
  rcases hK m meth c ⟨T.setVm vm₁, locs, cells, slots⟩ { g with stack := rest } (.invokestatic index) mk argsL.toArray X₁ hg hsize hdg hW (X₁.named hnamed) (hpre vm₁ X₁.warmed) with ⟨v, B, X', hpost, hsteps⟩ | ⟨q, B, X', hpost, hsteps⟩
  · exact Or.inl ⟨v, vm₁, B, X₁.warmed, X', hpost, fun target h => hstep₁ _ fun acts => by rw [doInvoke_state]; exact hsteps.trans h⟩
  · exact Or.inr ⟨q, vm₁, B, X₁.warmed, X', hpost, hstep₁ _ fun acts => by rw [doInvoke_state]; exact hsteps⟩
end Calls
theorem vx_cls {s : State} {T : State} {vm₁ : Vm} {E : String} {k : ClassId} (hW : s.WarmedH vm₁) (h : (T.setVm vm₁).vm.findClass E = some k) : s.vm.findClass E = some k := by
  have h1 : vm₁.findClass E = some k := h
  rw [hW.alike.findClass] at h1
  exact h1
/-- the method's frame g, with q thrown over it -/
def vx_W (p : Program) (l : Launch) (e : Env) (R : Room) (s : State) (m : MethodId) (args : Array Value) (below : List Frame) (meth : Method) (c : Code) (H : Heap) (locs : List Loc) (cells slots : Nat) (Q : State → Prop) (g : JFrame) (q : Addr) : Prop :=
  ∀ T : State, T.heap = H → Stand p l e R s m args below meth c T locs cells slots → ∃ t, Steps p.tables e below ((T.setTop g).pushFrame (.throwing q)) t ∧ Q t
def vx_Run (p : Program) (l : Launch) (e : Env) (R : Room) (s : State) (m : MethodId) (args : Array Value) (below : List Frame) (meth : Method) (c : Code) (H : Heap) (locs : List Loc) (cells slots mc ms : Nat) (g : JFrame) (rest : List Value) (Qa : State → Outcome → State → Prop) (XC : String → State → State → Prop) (free : Addr → Prop) : Prop :=
  ∀ T : State, T.heap = H → Stand p l e R s m args below meth c T locs cells slots →
    (∃ (v : Option Value) (st₀ t T' : State) (L : List Loc), st₀.heap = H ∧ Stand p l e R s m args below meth c T' (locs ++ L) (cells + mc) (slots + ms) ∧ (∀ q ∈ L, free q.base) ∧ T'.heap = t.heap ∧ T'.vm = t.vm ∧ Qa st₀ (.returned v) t ∧
      Goes p e below T g T' { g with pc := g.pc + 3, stack := v.toList ++ rest }) ∨
    (∃ (q : Addr) (st₀ t T' : State) (L : List Loc) (E : String) (ce : Cell), st₀.heap = H ∧ Stand p l e R s m args below meth c T' (locs ++ L) (cells + mc) (slots + ms) ∧ (∀ z ∈ L, free z.base) ∧ T'.heap = t.heap ∧ T'.vm = t.vm ∧ XC E st₀ t ∧ t.heap[q]? = some ce ∧ ce.vm = .none ∧ s.vm.findClass E = some ce.cls ∧
      Steps p.tables e below (T.setTop g) ((T'.setTop { g with stack := rest }).pushFrame (.throwing q)))
def vx_X {S : Type} (px : S → Prop) (B : String → S → State → Prop) (A : Nat → Prop) : String → State → State → Prop := fun E st t => ∃ u : S, px u ∧ B E u t ∧ va_F A st t
section Runs
variable {p : Program} {l : Launch} {e : Env} {R : Room} {s : State} {m : MethodId} {args : Array Value} {below : List Frame} {meth : Method} {c : Code} {H : Heap} {locs : List Loc} {cells slots : Nat}
variable {y : MethodName} {bytes cc : ByteArray} {maxL nL mc ms n index : Nat} {ret : Option FieldType} {ws : List Cond} {rm : Room} {Pc : Array Value → State → Prop} {Qc : Array Value → State → Outcome → State → Prop} {XC : String → State → State → Prop} {free : Addr → Prop} {Ts : List Cond} {own C : String} {b : Addr} {As rest : List Value} {g : JFrame}
theorem vx_callBack (cb : CallB R s args own index y bytes maxL ret ws rm mc ms n) (hM : vx_Met l y ws rm Pc Qc XC mc ms free) (hbl : FrameBlind Pc) : vx_Back l R p e below s args y 3 8 (PreOf R mc ms Pc) (PostOf Qc mc ms free) (vx_Post XC mc ms free) := by
  obtain ⟨hrc, hrs, hfr, hlo, hws, hcw, -, hini, -⟩ := cb
  exact vx_back (bytes := bytes) (maxL := maxL) (ret := ret) hM hbl hrc hrs hfr hlo hws hcw (fun a' U hW => word_at hW (Or.inl (by first | rfl | simp [Cond.onTables, Cond.keeps, Cond.steady])) hini)
theorem vx_runV (S : CallFix p m c cc nL s args Ts own) (hM : vx_Met l y ws rm Pc Qc XC mc ms free) (cw : CallW R s args own C index y bytes maxL ret ws rm mc ms n) (hp : PreV s H C b Pc As)
    (hg : g.method = m) (hn : As.length = n) (hsize : g.locals.size = nL) (hstack : g.stack = As.reverse ++ .ref b :: rest) (hW : 2 * g.monitorRoom + (rest.map fun v => v.category).sum ≤ 8) (hdg : decode cc g.pc = .ok (.invokevirtual index, 3)) (hf : cells + mc ≤ R.cells ∧ slots + ms ≤ R.slots) :
    vx_Run p l e R s m args below meth c H locs cells slots mc ms g rest (Qc (Value.ref b :: As).toArray) XC free := by
  have hK : vx_Back l R p e below s args y 3 8 (PreOf R mc ms Pc) (PostOf Qc mc ms free) (vx_Post XC mc ms free) := vx_callBack cw.1 hM hp.1
  obtain ⟨⟨-, -, -, -, -, -, hcode, -, hy, hlen, hl⟩, hin, hse⟩ := cw
  obtain ⟨hx, hb, hml, ho, -⟩ := S
  obtain ⟨-, ⟨cellB, hcB, hoB, hclB⟩, hPc⟩ := hp
  intro T hT X
  rcases vx_callV X hx (C := C) (bytes := bytes) (maxL := maxL) (ret := ret) ho hl hin hse hcode hy hK (by rw [hT]; exact hcB) hoB hclB hg (hsize.trans hml.symm) (argsL := As) (rest := rest) (fun sig h => hn.trans (hlen sig h)) hstack hW (by rw [hb]; exact hdg)
    (fun vm₁ hW₁ => ⟨hf.1, hf.2, hPc (T.setVm vm₁) hT hW₁⟩) with ⟨v, vm₁, ⟨U', l2, c2, s2⟩, hW₁, X', ⟨g', mk, t, L, e1, e2, hq, h1, hL, h2, h3⟩, st⟩ | ⟨q, vm₁, ⟨U', l2, c2, s2⟩, hW₁, X', ⟨g', mk, t, L, E, ce, e1, e2, hq, hce, hcv, hcl, h1, hL, h2, h3⟩, st⟩
  · dsimp only [Pt.U, Pt.locs, Pt.cells, Pt.slots] at X' e1 e2 h1 h2 h3 st
    subst h1; subst h2; subst h3
    exact Or.inl ⟨v, (T.setVm vm₁).calling g' mk (Value.ref b :: As).toArray, t, U', L, hT, X', hL, e1, e2, hq, st⟩
  · dsimp only [Pt.U, Pt.locs, Pt.cells, Pt.slots] at X' e1 e2 h1 h2 h3 st hcl
    subst h1; subst h2; subst h3
    exact Or.inr ⟨q, (T.setVm vm₁).calling g' mk (Value.ref b :: As).toArray, t, U', L, E, ce, hT, X', hL, e1, e2, hq, hce, hcv, vx_cls hW₁ hcl, st⟩
theorem vx_runS (S : CallFix p m c cc nL s args Ts own) (hM : vx_Met l y ws rm Pc Qc XC mc ms free) (cw : CallB R s args own index y bytes maxL ret ws rm mc ms n ∧ (Cond.static y).before args s = true) (hp : PreS s H Pc As)
    (hg : g.method = m) (hn : As.length = n) (hsize : g.locals.size = nL) (hstack : g.stack = As.reverse ++ rest) (hW : 2 * g.monitorRoom + (rest.map fun v => v.category).sum ≤ 8) (hdg : decode cc g.pc = .ok (.invokestatic index, 3)) (hf : cells + mc ≤ R.cells ∧ slots + ms ≤ R.slots) :
    vx_Run p l e R s m args below meth c H locs cells slots mc ms g rest (Qc As.toArray) XC free := by
  have hK : vx_Back l R p e below s args y 3 8 (PreOf R mc ms Pc) (PostOf Qc mc ms free) (vx_Post XC mc ms free) := vx_callBack cw.1 hM hp.1
  obtain ⟨⟨-, -, -, -, -, -, hcode, hini, hy, hlen, hl⟩, hstt⟩ := cw
  obtain ⟨hx, hb, hml, ho, -⟩ := S
  intro T hT X
  rcases vx_callS X hx (bytes := bytes) (maxL := maxL) (ret := ret) ho hl hstt hini hcode hy hK hg (hsize.trans hml.symm) (argsL := As) (rest := rest) (fun sig h => hn.trans (hlen sig h)) hstack hW (by rw [hb]; exact hdg)
    (fun vm₁ hW₁ => ⟨hf.1, hf.2, hp.2 (T.setVm vm₁) hT hW₁⟩) with ⟨v, vm₁, ⟨U', l2, c2, s2⟩, hW₁, X', ⟨g', mk, t, L, e1, e2, hq, h1, hL, h2, h3⟩, st⟩ | ⟨q, vm₁, ⟨U', l2, c2, s2⟩, hW₁, X', ⟨g', mk, t, L, E, ce, e1, e2, hq, hce, hcv, hcl, h1, hL, h2, h3⟩, st⟩
  · dsimp only [Pt.U, Pt.locs, Pt.cells, Pt.slots] at X' e1 e2 h1 h2 h3 st
    subst h1; subst h2; subst h3
    exact Or.inl ⟨v, (T.setVm vm₁).calling g' mk As.toArray, t, U', L, hT, X', hL, e1, e2, hq, st⟩
  · dsimp only [Pt.U, Pt.locs, Pt.cells, Pt.slots] at X' e1 e2 h1 h2 h3 st hcl
    subst h1; subst h2; subst h3
    exact Or.inr ⟨q, (T.setVm vm₁).calling g' mk As.toArray, t, U', L, E, ce, hT, X', hL, e1, e2, hq, hce, hcv, vx_cls hW₁ hcl, st⟩
end Runs
section Rows
variable {p : Program} {l : Launch} {e : Env} {R : Room} {s : State} {m : MethodId} {args : Array Value} {below : List Frame} {meth : Method} {c : Code} {H : Heap} {locs : List Loc} {cells slots : Nat} {Q : State → Prop}
variable {mc ms : Nat} {free : Addr → Prop} {A0 A1 : Nat → Prop} {H0 : Heap} {a : Array Value} {pc : Nat} {ls : Array Slot} {st0 rest : List Value}
theorem vx_keep {st₀ t T' : State} {L : List Loc} (h0 : st₀.heap = H) (e1 : T'.heap = t.heap) (hS : va_S A0 H0 H locs) (hA : ∀ q, q < H.size → A1 q → A0 q) (hf : ∀ q, free q → A0 q) (hL : ∀ q ∈ L, free q.base) (hF : va_F A1 st₀ t) :
    H.size ≤ T'.heap.size ∧ (∀ q : Nat, q < H.size → ¬ A1 q → T'.heap[q]? = H[q]?) ∧ va_S A0 H0 T'.heap (locs ++ L) := by
  obtain ⟨hz, hk⟩ := hF
  rw [h0] at hz hk
  exact ⟨by rw [e1]; exact hz, fun q h1 h2 => by rw [e1]; exact hk q h1 h2,
    ⟨Nat.le_trans hS.1 (by rw [e1]; exact hz), fun q h1 h2 => by rw [e1, hk q (Nat.lt_of_lt_of_le h1 hS.1) (fun z => h2 (hA q (Nat.lt_of_lt_of_le h1 hS.1) z))]; exact hS.2.1 q h1 h2, fun q hq => by
      rcases List.mem_append.mp hq with h | h
      · exact hS.2.2 q h
      · exact hf _ (hL q h)⟩⟩
theorem vx_calli {S SX : Type} {post : Int32 → S → Prop} {px : SX → Prop} {B : S → State → Prop} {BX : String → SX → State → Prop} {AX : Nat → Prop} (hr : vx_Run p l e R s m args below meth c H locs cells slots mc ms (F0 m pc ls st0) rest (va_Qi post B A1 a) (vx_X px BX AX) free) (hS : va_S A0 H0 H locs) (hA : ∀ q, q < H.size → A1 q → A0 q) (hf : ∀ q, free q → A0 q) (hAX : ∀ q, q < H.size → AX q → A0 q)
    (kx : ∀ (E : String) (ce : Cell) (q9 : Addr) (u : SX) (t : State) (H1 : Heap) (locs1 : List Loc), t.heap = H1 → s.vm.Alike t.vm → px u → BX E u t → H.size ≤ H1.size → (∀ q : Nat, q < H.size → ¬ AX q → H1[q]? = H[q]?) → va_S A0 H0 H1 locs1 → H1[q9]? = some ce → ce.vm = .none → s.vm.findClass E = some ce.cls → vx_W p l e R s m args below meth c H1 locs1 (cells + mc) (slots + ms) Q (F0 m pc ls rest) q9)
    (kk : ∀ (r : Int32) (u : S) (t : State) (H1 : Heap) (locs1 : List Loc), t.heap = H1 → s.vm.Alike t.vm → post r u → B u t → H.size ≤ H1.size → (∀ q : Nat, q < H.size → ¬ A1 q → H1[q]? = H[q]?) → va_S A0 H0 H1 locs1 → W p l e R s m args below meth c H1 locs1 (cells + mc) (slots + ms) Q (F0 m (pc + 3) ls (.int r :: rest))) : W p l e R s m args below meth c H locs cells slots Q (F0 m pc ls st0) := by
  intro T hT X
  rcases hr T hT X with ⟨v, st₀, t, T', L, h0, X', hL, e1, e2, ⟨⟨r, u, hv, hp, hb⟩, hF⟩, st⟩ | ⟨q, st₀, t, T', L, E, ce, h0, X', hL, e1, e2, ⟨u, hp, hb, hF⟩, hce, hcv, hcl, st⟩
  · cases hv
    obtain ⟨k1, k2, k3⟩ := vx_keep h0 e1 hS hA hf hL hF
    obtain ⟨t2, a1, b1⟩ := kk r u t T'.heap (locs ++ L) e1.symm (by rw [← e2]; exact X'.warmed.alike) hp hb k1 k2 k3 T' rfl X'
    exact ⟨t2, st t2 a1, b1⟩
  · obtain ⟨k1, k2, k3⟩ := vx_keep h0 e1 hS hAX hf hL hF
    obtain ⟨t2, a1, b1⟩ := kx E ce q u t T'.heap (locs ++ L) e1.symm (by rw [← e2]; exact X'.warmed.alike) hp hb k1 k2 k3 (by rw [e1]; exact hce) hcv hcl T' rfl X'
    exact ⟨t2, st.trans a1, b1⟩
theorem vx_calll {S SX : Type} {post : Int64 → S → Prop} {px : SX → Prop} {B : S → State → Prop} {BX : String → SX → State → Prop} {AX : Nat → Prop} (hr : vx_Run p l e R s m args below meth c H locs cells slots mc ms (F0 m pc ls st0) rest (va_Ql post B A1 a) (vx_X px BX AX) free) (hS : va_S A0 H0 H locs) (hA : ∀ q, q < H.size → A1 q → A0 q) (hf : ∀ q, free q → A0 q) (hAX : ∀ q, q < H.size → AX q → A0 q)
    (kx : ∀ (E : String) (ce : Cell) (q9 : Addr) (u : SX) (t : State) (H1 : Heap) (locs1 : List Loc), t.heap = H1 → s.vm.Alike t.vm → px u → BX E u t → H.size ≤ H1.size → (∀ q : Nat, q < H.size → ¬ AX q → H1[q]? = H[q]?) → va_S A0 H0 H1 locs1 → H1[q9]? = some ce → ce.vm = .none → s.vm.findClass E = some ce.cls → vx_W p l e R s m args below meth c H1 locs1 (cells + mc) (slots + ms) Q (F0 m pc ls rest) q9)
    (kk : ∀ (r : Int64) (u : S) (t : State) (H1 : Heap) (locs1 : List Loc), t.heap = H1 → s.vm.Alike t.vm → post r u → B u t → H.size ≤ H1.size → (∀ q : Nat, q < H.size → ¬ A1 q → H1[q]? = H[q]?) → va_S A0 H0 H1 locs1 → W p l e R s m args below meth c H1 locs1 (cells + mc) (slots + ms) Q (F0 m (pc + 3) ls (.long r :: rest))) : W p l e R s m args below meth c H locs cells slots Q (F0 m pc ls st0) := by
  intro T hT X
  rcases hr T hT X with ⟨v, st₀, t, T', L, h0, X', hL, e1, e2, ⟨⟨r, u, hv, hp, hb⟩, hF⟩, st⟩ | ⟨q, st₀, t, T', L, E, ce, h0, X', hL, e1, e2, ⟨u, hp, hb, hF⟩, hce, hcv, hcl, st⟩
  · cases hv
    obtain ⟨k1, k2, k3⟩ := vx_keep h0 e1 hS hA hf hL hF
    obtain ⟨t2, a1, b1⟩ := kk r u t T'.heap (locs ++ L) e1.symm (by rw [← e2]; exact X'.warmed.alike) hp hb k1 k2 k3 T' rfl X'
    exact ⟨t2, st t2 a1, b1⟩
  · obtain ⟨k1, k2, k3⟩ := vx_keep h0 e1 hS hAX hf hL hF
    obtain ⟨t2, a1, b1⟩ := kx E ce q u t T'.heap (locs ++ L) e1.symm (by rw [← e2]; exact X'.warmed.alike) hp hb k1 k2 k3 (by rw [e1]; exact hce) hcv hcl T' rfl X'
    exact ⟨t2, st.trans a1, b1⟩
theorem vx_callf {S SX : Type} {post : UInt32 → S → Prop} {px : SX → Prop} {B : S → State → Prop} {BX : String → SX → State → Prop} {AX : Nat → Prop} (hr : vx_Run p l e R s m args below meth c H locs cells slots mc ms (F0 m pc ls st0) rest (va_Qf post B A1 a) (vx_X px BX AX) free) (hS : va_S A0 H0 H locs) (hA : ∀ q, q < H.size → A1 q → A0 q) (hf : ∀ q, free q → A0 q) (hAX : ∀ q, q < H.size → AX q → A0 q)
    (kx : ∀ (E : String) (ce : Cell) (q9 : Addr) (u : SX) (t : State) (H1 : Heap) (locs1 : List Loc), t.heap = H1 → s.vm.Alike t.vm → px u → BX E u t → H.size ≤ H1.size → (∀ q : Nat, q < H.size → ¬ AX q → H1[q]? = H[q]?) → va_S A0 H0 H1 locs1 → H1[q9]? = some ce → ce.vm = .none → s.vm.findClass E = some ce.cls → vx_W p l e R s m args below meth c H1 locs1 (cells + mc) (slots + ms) Q (F0 m pc ls rest) q9)
    (kk : ∀ (r : UInt32) (u : S) (t : State) (H1 : Heap) (locs1 : List Loc), t.heap = H1 → s.vm.Alike t.vm → post r u → B u t → H.size ≤ H1.size → (∀ q : Nat, q < H.size → ¬ A1 q → H1[q]? = H[q]?) → va_S A0 H0 H1 locs1 → W p l e R s m args below meth c H1 locs1 (cells + mc) (slots + ms) Q (F0 m (pc + 3) ls (.float r :: rest))) : W p l e R s m args below meth c H locs cells slots Q (F0 m pc ls st0) := by
  intro T hT X
  rcases hr T hT X with ⟨v, st₀, t, T', L, h0, X', hL, e1, e2, ⟨⟨r, u, hv, hp, hb⟩, hF⟩, st⟩ | ⟨q, st₀, t, T', L, E, ce, h0, X', hL, e1, e2, ⟨u, hp, hb, hF⟩, hce, hcv, hcl, st⟩
  · cases hv
    obtain ⟨k1, k2, k3⟩ := vx_keep h0 e1 hS hA hf hL hF
    obtain ⟨t2, a1, b1⟩ := kk r u t T'.heap (locs ++ L) e1.symm (by rw [← e2]; exact X'.warmed.alike) hp hb k1 k2 k3 T' rfl X'
    exact ⟨t2, st t2 a1, b1⟩
  · obtain ⟨k1, k2, k3⟩ := vx_keep h0 e1 hS hAX hf hL hF
    obtain ⟨t2, a1, b1⟩ := kx E ce q u t T'.heap (locs ++ L) e1.symm (by rw [← e2]; exact X'.warmed.alike) hp hb k1 k2 k3 (by rw [e1]; exact hce) hcv hcl T' rfl X'
    exact ⟨t2, st.trans a1, b1⟩
theorem vx_calld {S SX : Type} {post : UInt64 → S → Prop} {px : SX → Prop} {B : S → State → Prop} {BX : String → SX → State → Prop} {AX : Nat → Prop} (hr : vx_Run p l e R s m args below meth c H locs cells slots mc ms (F0 m pc ls st0) rest (va_Qd post B A1 a) (vx_X px BX AX) free) (hS : va_S A0 H0 H locs) (hA : ∀ q, q < H.size → A1 q → A0 q) (hf : ∀ q, free q → A0 q) (hAX : ∀ q, q < H.size → AX q → A0 q)
    (kx : ∀ (E : String) (ce : Cell) (q9 : Addr) (u : SX) (t : State) (H1 : Heap) (locs1 : List Loc), t.heap = H1 → s.vm.Alike t.vm → px u → BX E u t → H.size ≤ H1.size → (∀ q : Nat, q < H.size → ¬ AX q → H1[q]? = H[q]?) → va_S A0 H0 H1 locs1 → H1[q9]? = some ce → ce.vm = .none → s.vm.findClass E = some ce.cls → vx_W p l e R s m args below meth c H1 locs1 (cells + mc) (slots + ms) Q (F0 m pc ls rest) q9)
    (kk : ∀ (r : UInt64) (u : S) (t : State) (H1 : Heap) (locs1 : List Loc), t.heap = H1 → s.vm.Alike t.vm → post r u → B u t → H.size ≤ H1.size → (∀ q : Nat, q < H.size → ¬ A1 q → H1[q]? = H[q]?) → va_S A0 H0 H1 locs1 → W p l e R s m args below meth c H1 locs1 (cells + mc) (slots + ms) Q (F0 m (pc + 3) ls (.double r :: rest))) : W p l e R s m args below meth c H locs cells slots Q (F0 m pc ls st0) := by
  intro T hT X
  rcases hr T hT X with ⟨v, st₀, t, T', L, h0, X', hL, e1, e2, ⟨⟨r, u, hv, hp, hb⟩, hF⟩, st⟩ | ⟨q, st₀, t, T', L, E, ce, h0, X', hL, e1, e2, ⟨u, hp, hb, hF⟩, hce, hcv, hcl, st⟩
  · cases hv
    obtain ⟨k1, k2, k3⟩ := vx_keep h0 e1 hS hA hf hL hF
    obtain ⟨t2, a1, b1⟩ := kk r u t T'.heap (locs ++ L) e1.symm (by rw [← e2]; exact X'.warmed.alike) hp hb k1 k2 k3 T' rfl X'
    exact ⟨t2, st t2 a1, b1⟩
  · obtain ⟨k1, k2, k3⟩ := vx_keep h0 e1 hS hAX hf hL hF
    obtain ⟨t2, a1, b1⟩ := kx E ce q u t T'.heap (locs ++ L) e1.symm (by rw [← e2]; exact X'.warmed.alike) hp hb k1 k2 k3 (by rw [e1]; exact hce) hcv hcl T' rfl X'
    exact ⟨t2, st.trans a1, b1⟩
theorem vx_callv {S SX : Type} {post : S → Prop} {px : SX → Prop} {B : S → State → Prop} {BX : String → SX → State → Prop} {AX : Nat → Prop} (hr : vx_Run p l e R s m args below meth c H locs cells slots mc ms (F0 m pc ls st0) rest (va_Qv post B A1 a) (vx_X px BX AX) free) (hS : va_S A0 H0 H locs) (hA : ∀ q, q < H.size → A1 q → A0 q) (hf : ∀ q, free q → A0 q) (hAX : ∀ q, q < H.size → AX q → A0 q)
    (kx : ∀ (E : String) (ce : Cell) (q9 : Addr) (u : SX) (t : State) (H1 : Heap) (locs1 : List Loc), t.heap = H1 → s.vm.Alike t.vm → px u → BX E u t → H.size ≤ H1.size → (∀ q : Nat, q < H.size → ¬ AX q → H1[q]? = H[q]?) → va_S A0 H0 H1 locs1 → H1[q9]? = some ce → ce.vm = .none → s.vm.findClass E = some ce.cls → vx_W p l e R s m args below meth c H1 locs1 (cells + mc) (slots + ms) Q (F0 m pc ls rest) q9)
    (kk : ∀ (u : S) (t : State) (H1 : Heap) (locs1 : List Loc), t.heap = H1 → s.vm.Alike t.vm → post u → B u t → H.size ≤ H1.size → (∀ q : Nat, q < H.size → ¬ A1 q → H1[q]? = H[q]?) → va_S A0 H0 H1 locs1 → W p l e R s m args below meth c H1 locs1 (cells + mc) (slots + ms) Q (F0 m (pc + 3) ls (rest))) : W p l e R s m args below meth c H locs cells slots Q (F0 m pc ls st0) := by
  intro T hT X
  rcases hr T hT X with ⟨v, st₀, t, T', L, h0, X', hL, e1, e2, ⟨⟨u, hv, hp, hb⟩, hF⟩, st⟩ | ⟨q, st₀, t, T', L, E, ce, h0, X', hL, e1, e2, ⟨u, hp, hb, hF⟩, hce, hcv, hcl, st⟩
  · cases hv
    obtain ⟨k1, k2, k3⟩ := vx_keep h0 e1 hS hA hf hL hF
    obtain ⟨t2, a1, b1⟩ := kk u t T'.heap (locs ++ L) e1.symm (by rw [← e2]; exact X'.warmed.alike) hp hb k1 k2 k3 T' rfl X'
    exact ⟨t2, st t2 a1, b1⟩
  · obtain ⟨k1, k2, k3⟩ := vx_keep h0 e1 hS hAX hf hL hF
    obtain ⟨t2, a1, b1⟩ := kx E ce q u t T'.heap (locs ++ L) e1.symm (by rw [← e2]; exact X'.warmed.alike) hp hb k1 k2 k3 (by rw [e1]; exact hce) hcv hcl T' rfl X'
    exact ⟨t2, st.trans a1, b1⟩
/-- caught by the row x of this method's table; the rows ahead don't take it -/
theorem vx_catch {own name : String} {E : String} {ce : Cell} {q : Addr} (hown : s.vm.findClass own = some m.cls) (pre : List ExceptionTableEntry) (x : ExceptionTableEntry) (suf : List ExceptionTableEntry) (hsplit : c.exceptionTable.toList = pre ++ x :: suf)
    (hpass : ∀ z ∈ pre, covers z pc = false ∨ (z.catchType ≠ 0 ∧ ∃ nm : String, (Cond.classLink own z.catchType nm).before args s = true ∧ va_Nc E nm s)) (hx : covers x pc = true) (h0 : x.catchType ≠ 0)
    (hlink : (Cond.classLink own x.catchType name).before args s = true) (hcast : (Cond.castable E name).before args s = true) (hcell : H[q]? = some ce) (hv : ce.vm = .none) (hcl : s.vm.findClass E = some ce.cls)
    (kk : W p l e R s m args below meth c H locs cells slots Q (F0 m x.handlerPc ls [.ref q])) : vx_W p l e R s m args below meth c H locs cells slots Q (F0 m pc ls rest) q := by
  intro T hT X
  have hpl : e.platform.magicAccessors = ({} : Platform).magicAccessors := by rw [X.admits.platform]
  obtain ⟨c3, c4, hc3, hc4, hasg⟩ := Cond.castable_spec hcast
  cases Option.some.inj (hc3.symm.trans hcl)
  obtain ⟨c5, hc5, hcl5⟩ := Cond.classLink_spec hown hlink e.platform hpl
  cases Option.some.inj (hc4.symm.trans hc5)
  obtain ⟨vm', X', st⟩ := X.thenCaughtThrough q (g := F0 m pc ls rest) rfl (Steps.refl _) (by rw [hT]; exact hcell) (by rw [hv]; rfl) (by obtain ⟨k9, h9, -⟩ := Vm.findClass_spec hcl; exact ⟨k9, h9⟩) pre x suf hsplit
    (fun z hz => by
      rcases hpass z hz with h | ⟨hz0, nm, hl1, hn1⟩
      · exact Or.inl h
      · obtain ⟨c6, hc6, hcl6⟩ := Cond.classLink_spec hown hl1 e.platform hpl
        obtain ⟨a8, b8, h1, h2, h3⟩ := hn1
        cases Option.some.inj (h1.symm.trans hcl)
        cases Option.some.inj (h2.symm.trans hc6)
        exact Or.inr ⟨hz0, _, hcl6, h3⟩) hx (Or.inr ⟨h0, c4, hcl5, hasg⟩)
  obtain ⟨t, a1, b1⟩ := kk (T.setVm vm') hT X'
  exact ⟨t, st.trans a1, b1⟩
end Rows
section Ends
variable {p : Program} {l : Launch} {e : Env} {R : Room} {s : State} {m : MethodId} {args : Array Value} {below : List Frame} {meth : Method} {c : Code} {H : Heap} {locs : List Loc} {cells slots : Nat} {Q : State → Prop}
variable {mc ms : Nat} {free : Addr → Prop} {A0 A1 : Nat → Prop} {H0 : Heap} {a : Array Value} {ls : Array Slot} {st0 rest : List Value}
variable {Qc : Array Value → State → Outcome → State → Prop} {XC : String → State → State → Prop}
/-- what a body that may throw owes at its end -/
def vx_MQ (below : List Frame) (Qc : Array Value → State → Outcome → State → Prop) (XC : String → State → State → Prop) (a : Array Value) (s : State) (mc ms : Nat) (free : Addr → Prop) : State → Prop := fun t =>
  ∃ o, t.status = .running ∧ Ended t below o ∧ vx_Q Qc XC mc ms free a s o t
theorem vx_ret {g : JFrame} {mc ms : Nat} (k : W p l e R s m args below meth c H locs cells slots (MQ below Qc args s mc ms free) g) : W p l e R s m args below meth c H locs cells slots (vx_MQ below Qc XC args s mc ms free) g := by
  intro T hT X
  obtain ⟨t, a1, o, b1, b2, b3, b4⟩ := k T hT X
  exact ⟨t, a1, o, b1, b2, Or.inl ⟨b3, b4⟩⟩
/-- not caught here: it goes on to the caller -/
theorem vx_widen {g : JFrame} {q : Addr} {k n : Nat} (h1 : cells ≤ k) (h2 : slots ≤ n) (kk : vx_W p l e R s m args below meth c H locs k n Q g q) : vx_W p l e R s m args below meth c H locs cells slots Q g q := fun T hT X => kk T hT (stand_widen X h1 h2)
theorem vx_out {pc : Nat} {E : String} {ce : Cell} {q : Addr} {mc ms : Nat} (hout : ∀ x ∈ c.exceptionTable.toList, covers x pc = false) (hlocks : meth.locks = false) (hcell : H[q]? = some ce) (hv : ce.vm = .none) (hcl : s.vm.findClass E = some ce.cls)
    (hx : ∀ t : State, t.heap = H → s.vm.Alike t.vm → XC E s t) (hf : ∀ z ∈ locs, free z.base) (hc : cells ≤ mc) (hs : slots ≤ ms) :
    vx_W p l e R s m args below meth c H locs cells slots (vx_MQ below Qc XC args s mc ms free) (F0 m pc ls rest) q := by
  intro T hT X
  obtain ⟨st1, hrun, hend, hW, hsm⟩ := X.leaveThrown q (g := F0 m pc ls rest) rfl rfl rfl hout hlocks
  have hcell9 : (T.setFrames (.throwing q :: below)).heap[q]? = some ce := by
    show T.heap[q]? = some ce
    rw [hT]; exact hcell
  exact ⟨_, st1, .threw q, hrun, hend, Or.inr ⟨q, rfl, E, ce, locs, hx _ hT hW.alike, hcell9, hv, hcl, hW, hsm.mono hc hs, hf⟩⟩
theorem vx_frame {U : State} {k n : Nat} (h : s.sameButNew ({ U with vm := s.vm } : State) locs k n) : s.heap.size ≤ U.heap.size ∧ ∀ q : Nat, q < s.heap.size → (∀ z ∈ locs, z.base ≠ q) → U.heap[q]? = s.heap[q]? := by
  obtain ⟨-, h2, -, -, -, h6⟩ := h
  refine ⟨h2, fun q hq hz => ?_⟩
  obtain ⟨c9, e1, e2, e3, e4⟩ := h6 q _ (Array.getElem?_eq_getElem hq)
  have hs : c9.slots = (s.heap[q]).slots := Array.ext_getElem? fun i => e4 i fun hm => hz _ hm rfl
  have h9 : c9 = s.heap[q] := by
    rw [hs] at e2
    exact e2
  have e5 : U.heap[q]? = some c9 := e1
  rw [e5, h9, Array.getElem?_eq_getElem hq]
/-- the words of a throw but the four that speak of the heap -/
def vx_no (w : Cond) : Bool := decide (w ≠ .isRef (.static Bundle.tN "UNASSIGNED_STACK" Bundle.steD)) && decide (w ≠ .isRef (.static Bundle.tN "SUPPRESSED_SENTINEL" Bundle.listD)) && decide (w ≠ .laysStatic Bundle.tN "UNASSIGNED_STACK" Bundle.steD) && decide (w ≠ .laysStatic Bundle.tN "SUPPRESSED_SENTINEL" Bundle.listD)
def vx_at0 (own : String) (ic : Nat) (X : String) (names : List String) : List Cond := (Bundle.ownAtoms0 own ic X names).filter vx_no
def vx_atS (own : String) (ic : Nat) (X : String) (names : List String) : List Cond := (Bundle.ownAtoms own ic X names).filter vx_no
/-- a word that the tables alone decide, or a good one -/
def vx_ot (w : Cond) : Bool := w.onTables || goodWord w
theorem vx_ot_at {args a' : Array Value} {s U : State} {w : Cond} (hW : s.WarmedH U.vm) (hvm : s.vm = U.vm) (hg : vx_ot w = true) (h : w.before args s = true) : w.before a' U = true := by
  simp only [vx_ot, Bool.or_eq_true] at hg
  rcases hg with hg | hg
  · exact va_tabs hg hvm h
  · exact word_at hW (good_of_word hg) h
/-- a list's words: the good ones out of the method's own list, the others by premises of their own -/
theorem vx_hat {args : Array Value} {s : State} {L B : List Cond} (h1 : ∀ w ∈ L.filter goodWord, w.before args s = true) (h2 : ∀ w ∈ L.filter (fun w => !goodWord w), w ∈ B) (h3 : ∀ w ∈ B, w.before args s = true) : ∀ w ∈ L, w.before args s = true := by
  intro w hw
  by_cases g : goodWord w = true
  · exact h1 w (List.mem_filter.mpr ⟨hw, g⟩)
  · refine h3 w (h2 w (List.mem_filter.mpr ⟨hw, ?_⟩))
    show (!goodWord w) = true
    cases hgw : goodWord w
    · rfl
    · exact absurd hgw g
theorem vx_c {args : Array Value} {s : State} {w : Cond} {B : List Cond} (h : w.before args s = true) (t : ∀ w ∈ B, w.before args s = true) : ∀ w' ∈ w :: B, w'.before args s = true := fun w' h' => (List.mem_cons.mp h').elim (fun e => by rw [e]; exact h) (t w')
theorem vx_n {args : Array Value} {s : State} : ∀ w ∈ ([] : List Cond), w.before args s = true := fun _ h => nomatch h
theorem vx_own {args : Array Value} {s : State} {L : List Cond} (h1 : ∀ w ∈ L.filter vx_no, w.before args s = true)
    (hU : (Cond.isRef (.static Bundle.tN "UNASSIGNED_STACK" Bundle.steD)).before args s = true) (hN : (Cond.isRef (.static Bundle.tN "SUPPRESSED_SENTINEL" Bundle.listD)).before args s = true)
    (lU : (Cond.laysStatic Bundle.tN "UNASSIGNED_STACK" Bundle.steD).before args s = true) (lN : (Cond.laysStatic Bundle.tN "SUPPRESSED_SENTINEL" Bundle.listD).before args s = true) : ∀ w ∈ L, w.before args s = true := by
  intro w hw
  by_cases e1 : w = .isRef (.static Bundle.tN "UNASSIGNED_STACK" Bundle.steD)
  · rw [e1]; exact hU
  · by_cases e2 : w = .isRef (.static Bundle.tN "SUPPRESSED_SENTINEL" Bundle.listD)
    · rw [e2]; exact hN
    · by_cases e3 : w = .laysStatic Bundle.tN "UNASSIGNED_STACK" Bundle.steD
      · rw [e3]; exact lU
      · by_cases e4 : w = .laysStatic Bundle.tN "SUPPRESSED_SENTINEL" Bundle.listD
        · rw [e4]; exact lN
        · exact h1 w (List.mem_filter.mpr ⟨hw, by unfold vx_no; rw [decide_eq_true e1, decide_eq_true e2, decide_eq_true e3, decide_eq_true e4]; rfl⟩)
/-- where a static field lies, its class's statics cell in H -/
def vx_L (C n d : String) (A : Nat → Prop) (U : State) (H : Heap) : Prop := ∃ (c : ClassId) (k : Class) (i : Nat) (f : Field) (a : Nat) (cell : Cell), U.vm.findClass C = some c ∧ U.fieldFound? C n d = some (c, k, i, f) ∧ f.isStatic = true ∧ k.statics = some a ∧ H[a]? = some cell ∧ cell.vm.isStatics = true ∧ cell.cls = c ∧ f.slot < cell.slots.size ∧ k.staticTypes[f.slot]? = some f.type ∧ ¬ A a
theorem vx_L.moved {C n d : String} {A : Nat → Prop} {u U : State} {H : Heap} (hvm : u.vm.Alike U.vm) (h : vx_L C n d A u H) : vx_L C n d A U H := by
  obtain ⟨c, k, i, f, a, cell, h1, h2, h3, h4, h5, h6, h7, h8, h9, h10⟩ := h
  obtain ⟨k', hi', he⟩ := State.fieldFound?_setVm hvm h2
  exact ⟨c, k', i, f, a, cell, by rw [hvm.findClass]; exact h1, hi', h3, by rw [he]; exact h4, h5, h6, h7, h8, by rw [he]; exact h9, h10⟩
theorem vx_L.kept {C n d : String} {A : Nat → Prop} {U : State} {H H1 : Heap} (h : vx_L C n d A U H) (hq : ∀ a : Nat, a < H.size → ¬ A a → H1[a]? = H[a]?) : vx_L C n d A U H1 := by
  obtain ⟨c, k, i, f, a, cell, h1, h2, h3, h4, h5, h6, h7, h8, h9, h10⟩ := h
  exact ⟨c, k, i, f, a, cell, h1, h2, h3, h4, by rw [hq a (Array.getElem?_eq_some_iff.mp h5).1 h10]; exact h5, h6, h7, h8, h9, h10⟩
theorem vx_L.narrow {C n d : String} {A B : Nat → Prop} {U : State} {H : Heap} (h : vx_L C n d A U H) (hAB : ∀ q, B q → A q) : vx_L C n d B U H := by
  obtain ⟨c, k, i, f, a, cell, h1, h2, h3, h4, h5, h6, h7, h8, h9, h10⟩ := h
  exact ⟨c, k, i, f, a, cell, h1, h2, h3, h4, h5, h6, h7, h8, h9, fun z => h10 (hAB _ z)⟩
theorem vx_L.word {C n d : String} {A : Nat → Prop} {s : State} {args : Array Value} (h : vx_L C n d A s s.heap) : (Cond.laysStatic C n d).before args s = true := by
  obtain ⟨c, k, i, f, a, cell, h1, h2, h3, h4, h5, h6, h7, h8, h9, -⟩ := h
  show (Cond.laysStatic C n d).holds args s none s [] = true
  exact Cond.laysStatic_of h1 h2 h3 h4 h5 h6 h7 h8 h9
/-- .. and what it holds: null or some reference -/
def vx_Zq (C n d : String) (A : Nat → Prop) (U : State) (H : Heap) : Prop := va_Zq C n d A U H ∧ vx_L C n d A U H
theorem vx_Zq.moved {C n d : String} {A : Nat → Prop} {u U : State} {H : Heap} (hvm : u.vm.Alike U.vm) (h : vx_Zq C n d A u H) : vx_Zq C n d A U H := ⟨va_Zq.moved hvm h.1, vx_L.moved hvm h.2⟩
theorem vx_Zq.kept {C n d : String} {A : Nat → Prop} {U : State} {H H1 : Heap} (h : vx_Zq C n d A U H) (hq : ∀ a : Nat, a < H.size → ¬ A a → H1[a]? = H[a]?) : vx_Zq C n d A U H1 := ⟨va_Zq.kept h.1 hq, vx_L.kept h.2 hq⟩
theorem vx_Zq.narrow {C n d : String} {A B : Nat → Prop} {U : State} {H : Heap} (h : vx_Zq C n d A U H) (hAB : ∀ q, B q → A q) : vx_Zq C n d B U H := ⟨va_Zq.narrow h.1 hAB, vx_L.narrow h.2 hAB⟩
theorem vx_Zqof {args : Array Value} {s : State} {C n d : String} {A : Nat → Prop} (hl : (Cond.laysStatic C n d).before args s = true) (hini : (Cond.initialized C).before args s = true) (h : (Cond.isRef (.static C n d)).before args s = true) (hA : ∀ a : Nat, a < s.heap.size → ¬ A a) : vx_Zq C n d A s s.heap := by
  refine ⟨va_Zqof hl hini h hA, ?_⟩
  obtain ⟨c, k, i, f, a, cell, h1, h2, h3, h4, h5, h6, h7, h8, h9⟩ := Cond.laysStatic_spec hl
  exact ⟨c, k, i, f, a, cell, h1, h2, h3, h4, h5, h6, h7, h8, h9, hA a (Array.getElem?_eq_some_iff.mp h5).1⟩
theorem vx_isRef {C n d : String} {v : Value} {A : Nat → Prop} {s : State} {args : Array Value} (h : va_Z C n d v A s s.heap) (hv : v.isRef = true) : (Cond.isRef (.static C n d)).before args s = true := by
  obtain ⟨cf, kf, fi, f, a, cell, h1, h2, h3, h4, h5, h6, h7, -⟩ := h
  have he : (Term.static C n d).eval args s none [] s = some v := by
    simp [Term.eval, State.fieldNamed?, h1, h2, h4, h5, h6, h7]
  simp only [Cond.before, Cond.holds, Cond.value, he]
  cases v <;> simp_all [Value.isRef]
theorem vx_isRefq {C n d : String} {A : Nat → Prop} {s : State} {args : Array Value} (h : va_Zq C n d A s s.heap) : (Cond.isRef (.static C n d)).before args s = true := by
  rcases h with h | ⟨t, h⟩
  · exact vx_isRef h rfl
  · exact vx_isRef h rfl
/-- the same frame, seen from here: as if the method were called anew in this heap -/
theorem vx_rebase {T : State} (X : Stand p l e R s m args below meth c T locs cells slots) {R' : Room} (hf : R'.frames ≤ R.frames) (hl : R'.locals ≤ R.locals) (hc : cells + R'.cells ≤ R.cells) (hs : slots + R'.slots ≤ R.slots) :
    Stand p l e R' ((T.setVm s.vm).setFrames (.invoking m args :: below)) m args below meth c T [] 0 0 := by
  have htop : (T.setVm s.vm).topJava?.isSome := X.here.top
  have hF : ((T.setVm s.vm).setFrames (.invoking m args :: below)).frames = .invoking m args :: below := State.frames_setFrames _ (State.cur_lt_of_top htop)
  obtain ⟨g₀, hg0⟩ := Option.isSome_iff_exists.mp htop
  obtain ⟨r, hr⟩ := State.topJava?_eq_some.mp hg0
  have hl9 : e.platform.stackLimits (T.setVm s.vm).me = e.platform.stackLimits s.me := X.limits
  have hb9 : (T.setVm s.vm).me.stackBytes = s.me.stackBytes := X.bytes
  refine ⟨X.admits, X.cas, X.clock, hF, ?_, X.hears, X.method, X.code, X.here, X.tail, X.warmed, ?_, ?_, ?_⟩
  · have h := X.room
    have hU : ((T.setVm s.vm).setFrames (.invoking m args :: below)).localsInUse = s.localsInUse := by
      rw [State.localsInUse_invoking hF (meth := meth) (c := c) X.method X.code, State.localsInUse_invoking X.frames X.method X.code]
    simp only [State.hasRoom, Bool.and_eq_true, decide_eq_true_eq] at h ⊢
    obtain ⟨⟨⟨⟨h1, h2, h3, h4, h5, h6⟩, h7⟩, h8⟩, h9⟩ := h
    rw [X.frames, List.length_cons] at h2 h3
    have q1 := X.heapSize
    have q2 := X.used
    simp only [hF, hU, List.length_cons, State.stackLimits_setFrames, State.stackBytes_setFrames, hl9, hb9]
    refine ⟨⟨⟨⟨by omega, by omega, by omega, by omega, by omega, h6⟩, ?_⟩, ?_⟩, X.book⟩
    · show T.heap.size + R'.cells ≤ e.platform.maxCells
      omega
    · show T.slotsUsed + R'.slots ≤ e.platform.maxSlots
      omega
  · rw [State.stackLimits_setFrames]; rfl
  · rw [State.stackBytes_setFrames]; rfl
  · refine ⟨?_, Nat.le_refl _, Nat.le_refl _, ?_, ?_, fun a c9 h9 => ⟨c9, h9, rfl, rfl, fun _ _ => rfl⟩⟩
    · obtain ⟨t, ht, -⟩ := State.frames_cons hr
      show T.setVm s.vm = { ((T.setVm s.vm).setFrames (.invoking m args :: below)).setFrames (T.setVm s.vm).frames with heap := T.heap, slotsUsed := T.slotsUsed }
      rw [State.setFrames_setFrames, State.setFrames_self ht]
      rfl
    · show T.slotsUsed = T.slotsUsed + ((T.heap.toList.drop T.heap.size).map (·.slots.size)).sum
      rw [List.drop_eq_nil_of_le (Nat.le_of_eq Array.length_toList)]
      rfl
    · show ((T.heap.toList.drop T.heap.size).map (·.slots.size)).sum ≤ 0
      rw [List.drop_eq_nil_of_le (Nat.le_of_eq Array.length_toList)]
      exact Nat.le_refl _
/-- 'throw new E()': new; dup; invokespecial; athrow -/
theorem vx_throw0 {cc : ByteArray} {pc : Nat} (hexec : p.tables.exec = Jvm.exec) (hb : c.code = cc) (hl : l.stackTraces = false) {own cls : String} {names : List String} {ik ic mc ms : Nat} {A : Nat → Prop}
    (hown : s.vm.findClass own = some m.cls) (hcls : Bundle.fit cls = true) (hnames : ∀ n ∈ names, Bundle.fit n = true)
    (hk : (Cond.classLink own ik cls).before args s = true) (hini : (Cond.initialized cls).before args s = true) (hat : ∀ w ∈ vx_at0 own ic cls names, w.before args s = true)
    (hgood : ∀ w ∈ Cond.classLink own ik cls :: Cond.initialized cls :: vx_at0 own ic cls names, vx_ot w = true)
    (hU : vx_Zq Bundle.tN "UNASSIGNED_STACK" Bundle.steD A s s.heap) (hN : vx_Zq Bundle.tN "SUPPRESSED_SENTINEL" Bundle.listD A s s.heap) (hS : va_S A s.heap H locs) (hsize : ls.size = c.maxLocals)
    (d0 : decode cc pc = .ok (.new ik, 3)) (d3 : decode cc (pc + 3) = .ok (.dup, 1)) (d4 : decode cc (pc + 4) = .ok (.invokespecial ic, 3)) (d7 : decode cc (pc + 7) = .ok (.athrow, 1))
    (hout : ∀ x ∈ c.exceptionTable.toList, covers x (pc + 7) = false)
    (hRframes : names.length + 3 < R.frames) (hRlocals : (rest.map fun v => v.category).sum + (13 * (names.length + 1) + 42) ≤ R.locals) (hRcells : cells + 1 ≤ R.cells) (hRslots : slots + 6 ≤ R.slots) (hlocks : meth.locks = false)
    (hx : ∀ t : State, s.vm.Alike t.vm → H.size ≤ t.heap.size → (∀ q : Nat, q < H.size → t.heap[q]? = H[q]?) → XC cls s t)
    (hf : ∀ z ∈ locs, free z.base) (hc : cells + 1 ≤ mc) (hs : slots + 6 ≤ ms) :
    W p l e R s m args below meth c H locs cells slots (vx_MQ below Qc XC args s mc ms free) (F0 m pc ls rest) := by
  intro T hT X
  have htr : e.platform.stackTraces = false := (show e.platform.stackTraces = l.stackTraces by rw [X.admits.platform]).trans hl
  have Y := vx_rebase X (R' := { frames := R.frames, locals := R.locals, cells := 1, slots := 6 }) (Nat.le_refl _) (Nat.le_refl _) hRcells hRslots
  obtain ⟨s', hA⟩ : ∃ z, z = (T.setVm s.vm).setFrames (.invoking m args :: below) := ⟨_, rfl⟩
  rw [← hA] at Y
  have hvm : s'.vm = s.vm := by rw [hA]; rfl
  have hhp : s'.heap = H := by rw [hA]; exact hT
  have hW0 : s.WarmedH s'.vm := by rw [hvm]; exact State.WarmedH.refl s
  have hat' : ∀ w ∈ vx_at0 own ic cls names, w.before args s' = true := fun w hw => vx_ot_at hW0 hvm.symm (hgood w (List.mem_cons_of_mem _ (List.mem_cons_of_mem _ hw))) (hat w hw)
  have hk' : (Cond.classLink own ik cls).before args s' = true := vx_ot_at hW0 hvm.symm (hgood _ List.mem_cons_self) hk
  have hini' : (Cond.initialized cls).before args s' = true := vx_ot_at hW0 hvm.symm (hgood _ (List.mem_cons_of_mem _ List.mem_cons_self)) hini
  have hU' : vx_Zq Bundle.tN "UNASSIGNED_STACK" Bundle.steD A s' s'.heap := by rw [hhp]; exact vx_Zq.moved hW0.alike (hU.kept hS.2.1)
  have hN' : vx_Zq Bundle.tN "SUPPRESSED_SENTINEL" Bundle.listD A s' s'.heap := by rw [hhp]; exact vx_Zq.moved hW0.alike (hN.kept hS.2.1)
  have h : ∀ w ∈ Bundle.ownAtoms0 own ic cls names, w.before args s' = true := vx_own hat' (vx_isRefq hU'.1) (vx_isRefq hN'.1) hU'.2.word hN'.2.word
  have hown' : s'.vm.findClass own = some m.cls := by rw [hvm]; exact hown
  have hins : (Cond.instantiable cls 6).before args s' = true := h _ (by simp [Bundle.ownAtoms0])
  obtain ⟨vm₁, cX, kX, hfX, hkX, -, -, X₁, st1⟩ := Y.newCold hexec (own := own) (C := cls) (index := ik) (n := 6) hown' hk' hins hini'
    (g := F0 m pc ls rest) rfl (by rw [hb]; exact d0) (Nat.le_refl _) (Nat.le_refl _)
  generalize hT1 : (T.setVm vm₁).pushCell { cls := cX, slots := kX.instanceTypes.map defaultValue, vm := .none } = T1 at X₁ st1
  have hcat : (Value.ref T.heap.size).category = 1 := rfl
  have hcellA : T1.heap[T.heap.size]? = some (freshCell cX kX) := by rw [← hT1]; exact State.heap_pushCell_size _ _
  have d3' : decode c.code (pc + 3) = .ok (.dup, 1) := by rw [hb]; exact d3
  obtain ⟨U, hsteps, hrun, hend, hW, hsame, ce, hce, hO⟩ := X₁.ctorThrow0 hexec htr (own := own) (cls := cls) (names := names) (ic := ic) hown' hcls hnames h (fun x hx => nomatch hx) hfX hkX hcellA (by rw [hhp, hT]; exact Nat.le_refl _)
    (g := { method := m, pc := pc + 4, locals := ls, stack := .ref T.heap.size :: .ref T.heap.size :: rest, locked := none }) rfl hsize rfl rfl (rest := rest) rfl
    (by rw [hb]; exact d4) (by rw [hb]; exact d7) hout hRframes (by simp only [List.map_cons, List.sum_cons, hcat]; omega) hlocks
  obtain ⟨f1, f2⟩ := vx_frame hsame
  rw [hhp] at f1 f2
  have hWs : s.WarmedH U.vm := State.WarmedH.trans hW0 hW
  have hcl : s.vm.findClass cls = some ce.cls := by
    have h9 := hO.cls
    rw [hvm] at h9
    exact h9
  have hall : s.sameButNew ({ U with vm := s.vm } : State) locs mc ms := by
    subst hA
    obtain ⟨e1, e2⟩ := hsame
    rw [State.setFrames_setFrames] at e1
    have h2 : (T.setVm s.vm).sameButNew ({ U with vm := s.vm } : State) [] (0 + 1) (0 + 6) := ⟨e1, e2⟩
    have h3 := X.same.trans h2
    rw [List.append_nil] at h3
    exact h3.mono hc hs
  refine ⟨U, ?_, .threw T.heap.size, hrun, hend, Or.inr ⟨T.heap.size, rfl, cls, ce, locs, hx U hWs.alike f1 (fun q hq => f2 q hq (fun z hz => nomatch hz)), hce, hO.vm, hcl, hWs, hall, hf⟩⟩
  refine st1 _ ?_
  show Steps p.tables e below (T1.setTop { method := m, pc := pc + 3, locals := ls, stack := .ref T.heap.size :: rest, locked := none }) _
  jvm_step X₁.here [X₁.here.top, hexec, d3', Value.category]
  exact hsteps
/-- 'throw new E("text")': new; dup; ldc; invokespecial; athrow -/
theorem vx_throwS {cc : ByteArray} {pc : Nat} (hexec : p.tables.exec = Jvm.exec) (hb : c.code = cc) (hl : l.stackTraces = false) {own cls text : String} {names : List String} {ik is ic mc ms sa : Nat} {A : Nat → Prop}
    (hown : s.vm.findClass own = some m.cls) (hcls : Bundle.fit cls = true) (hnames : ∀ n ∈ names, Bundle.fit n = true)
    (hk : (Cond.classLink own ik cls).before args s = true) (hini : (Cond.initialized cls).before args s = true) (hstr : vk_R own is text sa s) (hat : ∀ w ∈ vx_atS own ic cls names, w.before args s = true)
    (hgood : ∀ w ∈ Cond.classLink own ik cls :: Cond.initialized cls :: vx_atS own ic cls names, vx_ot w = true)
    (hU : vx_Zq Bundle.tN "UNASSIGNED_STACK" Bundle.steD A s s.heap) (hN : vx_Zq Bundle.tN "SUPPRESSED_SENTINEL" Bundle.listD A s s.heap) (hS : va_S A s.heap H locs) (hsize : ls.size = c.maxLocals)
    (d0 : decode cc pc = .ok (.new ik, 3)) (d3 : decode cc (pc + 3) = .ok (.dup, 1)) (d4 : decode cc (pc + 4) = .ok (.ldc is, 2)) (d6 : decode cc (pc + 6) = .ok (.invokespecial ic, 3)) (d9 : decode cc (pc + 9) = .ok (.athrow, 1))
    (hout : ∀ x ∈ c.exceptionTable.toList, covers x (pc + 9) = false)
    (hRframes : names.length + 3 < R.frames) (hRlocals : (rest.map fun v => v.category).sum + (13 * (names.length + 1) + 43) ≤ R.locals) (hRcells : cells + 1 ≤ R.cells) (hRslots : slots + 6 ≤ R.slots) (hlocks : meth.locks = false)
    (hx : ∀ t : State, s.vm.Alike t.vm → H.size ≤ t.heap.size → (∀ q : Nat, q < H.size → t.heap[q]? = H[q]?) → XC cls s t)
    (hf : ∀ z ∈ locs, free z.base) (hc : cells + 1 ≤ mc) (hs : slots + 6 ≤ ms) :
    W p l e R s m args below meth c H locs cells slots (vx_MQ below Qc XC args s mc ms free) (F0 m pc ls rest) := by
  intro T hT X
  have htr : e.platform.stackTraces = false := (show e.platform.stackTraces = l.stackTraces by rw [X.admits.platform]).trans hl
  have Y := vx_rebase X (R' := { frames := R.frames, locals := R.locals, cells := 1, slots := 6 }) (Nat.le_refl _) (Nat.le_refl _) hRcells hRslots
  obtain ⟨s', hA⟩ : ∃ z, z = (T.setVm s.vm).setFrames (.invoking m args :: below) := ⟨_, rfl⟩
  rw [← hA] at Y
  have hvm : s'.vm = s.vm := by rw [hA]; rfl
  have hhp : s'.heap = H := by rw [hA]; exact hT
  have hW0 : s.WarmedH s'.vm := by rw [hvm]; exact State.WarmedH.refl s
  have hat' : ∀ w ∈ vx_atS own ic cls names, w.before args s' = true := fun w hw => vx_ot_at hW0 hvm.symm (hgood w (List.mem_cons_of_mem _ (List.mem_cons_of_mem _ hw))) (hat w hw)
  have hk' : (Cond.classLink own ik cls).before args s' = true := vx_ot_at hW0 hvm.symm (hgood _ List.mem_cons_self) hk
  have hini' : (Cond.initialized cls).before args s' = true := vx_ot_at hW0 hvm.symm (hgood _ (List.mem_cons_of_mem _ List.mem_cons_self)) hini
  have hU' : vx_Zq Bundle.tN "UNASSIGNED_STACK" Bundle.steD A s' s'.heap := by rw [hhp]; exact vx_Zq.moved hW0.alike (hU.kept hS.2.1)
  have hN' : vx_Zq Bundle.tN "SUPPRESSED_SENTINEL" Bundle.listD A s' s'.heap := by rw [hhp]; exact vx_Zq.moved hW0.alike (hN.kept hS.2.1)
  have h : ∀ w ∈ Bundle.ownAtoms own ic cls names, w.before args s' = true := vx_own hat' (vx_isRefq hU'.1) (vx_isRefq hN'.1) hU'.2.word hN'.2.word
  have hown' : s'.vm.findClass own = some m.cls := by rw [hvm]; exact hown
  have hins : (Cond.instantiable cls 6).before args s' = true := h _ (by simp [Bundle.ownAtoms])
  obtain ⟨vm₁, cX, kX, hfX, hkX, -, -, X₁, st1⟩ := Y.newCold hexec (own := own) (C := cls) (index := ik) (n := 6) hown' hk' hins hini'
    (g := F0 m pc ls rest) rfl (by rw [hb]; exact d0) (Nat.le_refl _) (Nat.le_refl _)
  generalize hT1 : (T.setVm vm₁).pushCell { cls := cX, slots := kX.instanceTypes.map defaultValue, vm := .none } = T1 at X₁ st1
  have hcat : (Value.ref T.heap.size).category = 1 := rfl
  have hcellA : T1.heap[T.heap.size]? = some (freshCell cX kX) := by rw [← hT1]; exact State.heap_pushCell_size _ _
  have d3' : decode c.code (pc + 3) = .ok (.dup, 1) := by rw [hb]; exact d3
  have d4' : decode c.code (pc + 4) = .ok (.ldc is, 2) := by rw [hb]; exact d4
  have hstr' : vk_R own is text sa s' := vk_R.warm hW0 hstr
  obtain ⟨U, hsteps, hrun, hend, hW, hsame, ce, hce, hO⟩ := X₁.ctorThrowS hexec htr (own := own) (cls := cls) (names := names) (ic := ic) hown' hcls hnames h (fun x hx => nomatch hx) hfX hkX hcellA (by rw [hhp, hT]; exact Nat.le_refl _) (msg := .ref sa) rfl
    (g := { method := m, pc := pc + 6, locals := ls, stack := .ref sa :: .ref T.heap.size :: .ref T.heap.size :: rest, locked := none }) rfl hsize rfl rfl (rest := rest) rfl
    (by rw [hb]; exact d6) (by rw [hb]; exact d9) hout hRframes (by simp only [List.map_cons, List.sum_cons, hcat]; omega) hlocks
  obtain ⟨f1, f2⟩ := vx_frame hsame
  rw [hhp] at f1 f2
  have hWs : s.WarmedH U.vm := State.WarmedH.trans hW0 hW
  have hcl : s.vm.findClass cls = some ce.cls := by
    have h9 := hO.cls
    rw [hvm] at h9
    exact h9
  have hall : s.sameButNew ({ U with vm := s.vm } : State) locs mc ms := by
    subst hA
    obtain ⟨e1, e2⟩ := hsame
    rw [State.setFrames_setFrames] at e1
    have h2 : (T.setVm s.vm).sameButNew ({ U with vm := s.vm } : State) [] (0 + 1) (0 + 6) := ⟨e1, e2⟩
    have h3 := X.same.trans h2
    rw [List.append_nil] at h3
    exact h3.mono hc hs
  refine ⟨U, ?_, .threw T.heap.size, hrun, hend, Or.inr ⟨T.heap.size, rfl, cls, ce, locs, hx U hWs.alike f1 (fun q hq => f2 q hq (fun z hz => nomatch hz)), hce, hO.vm, hcl, hWs, hall, hf⟩⟩
  refine st1 _ ?_
  show Steps p.tables e below (T1.setTop { method := m, pc := pc + 3, locals := ls, stack := .ref T.heap.size :: rest, locked := none }) _
  jvm_step X₁.here [X₁.here.top, hexec, d3', Value.category]
  exact X₁.ldcString hexec (own := own) (text := text) (index := is) (a := sa) hown' hstr'.1 hstr'.2
    (g := { method := m, pc := pc + 4, locals := ls, stack := .ref T.heap.size :: .ref T.heap.size :: rest, locked := none }) rfl d4' _ hsteps
/-- 'throw new E("text")', the text by a wide index -/
theorem vx_throwSW {cc : ByteArray} {pc : Nat} (hexec : p.tables.exec = Jvm.exec) (hb : c.code = cc) (hl : l.stackTraces = false) {own cls text : String} {names : List String} {ik is ic mc ms sa : Nat} {A : Nat → Prop}
    (hown : s.vm.findClass own = some m.cls) (hcls : Bundle.fit cls = true) (hnames : ∀ n ∈ names, Bundle.fit n = true)
    (hk : (Cond.classLink own ik cls).before args s = true) (hini : (Cond.initialized cls).before args s = true) (hstr : vk_R own is text sa s) (hat : ∀ w ∈ vx_atS own ic cls names, w.before args s = true)
    (hgood : ∀ w ∈ Cond.classLink own ik cls :: Cond.initialized cls :: vx_atS own ic cls names, vx_ot w = true)
    (hU : vx_Zq Bundle.tN "UNASSIGNED_STACK" Bundle.steD A s s.heap) (hN : vx_Zq Bundle.tN "SUPPRESSED_SENTINEL" Bundle.listD A s s.heap) (hS : va_S A s.heap H locs) (hsize : ls.size = c.maxLocals)
    (d0 : decode cc pc = .ok (.new ik, 3)) (d3 : decode cc (pc + 3) = .ok (.dup, 1)) (d4 : decode cc (pc + 4) = .ok (.ldc_w is, 3)) (d7 : decode cc (pc + 7) = .ok (.invokespecial ic, 3)) (d10 : decode cc (pc + 10) = .ok (.athrow, 1))
    (hout : ∀ x ∈ c.exceptionTable.toList, covers x (pc + 10) = false)
    (hRframes : names.length + 3 < R.frames) (hRlocals : (rest.map fun v => v.category).sum + (13 * (names.length + 1) + 43) ≤ R.locals) (hRcells : cells + 1 ≤ R.cells) (hRslots : slots + 6 ≤ R.slots) (hlocks : meth.locks = false)
    (hx : ∀ t : State, s.vm.Alike t.vm → H.size ≤ t.heap.size → (∀ q : Nat, q < H.size → t.heap[q]? = H[q]?) → XC cls s t)
    (hf : ∀ z ∈ locs, free z.base) (hc : cells + 1 ≤ mc) (hs : slots + 6 ≤ ms) :
    W p l e R s m args below meth c H locs cells slots (vx_MQ below Qc XC args s mc ms free) (F0 m pc ls rest) := by
  intro T hT X
  have htr : e.platform.stackTraces = false := (show e.platform.stackTraces = l.stackTraces by rw [X.admits.platform]).trans hl
  have Y := vx_rebase X (R' := { frames := R.frames, locals := R.locals, cells := 1, slots := 6 }) (Nat.le_refl _) (Nat.le_refl _) hRcells hRslots
  obtain ⟨s', hA⟩ : ∃ z, z = (T.setVm s.vm).setFrames (.invoking m args :: below) := ⟨_, rfl⟩
  rw [← hA] at Y
  have hvm : s'.vm = s.vm := by rw [hA]; rfl
  have hhp : s'.heap = H := by rw [hA]; exact hT
  have hW0 : s.WarmedH s'.vm := by rw [hvm]; exact State.WarmedH.refl s
  have hat' : ∀ w ∈ vx_atS own ic cls names, w.before args s' = true := fun w hw => vx_ot_at hW0 hvm.symm (hgood w (List.mem_cons_of_mem _ (List.mem_cons_of_mem _ hw))) (hat w hw)
  have hk' : (Cond.classLink own ik cls).before args s' = true := vx_ot_at hW0 hvm.symm (hgood _ List.mem_cons_self) hk
  have hini' : (Cond.initialized cls).before args s' = true := vx_ot_at hW0 hvm.symm (hgood _ (List.mem_cons_of_mem _ List.mem_cons_self)) hini
  have hU' : vx_Zq Bundle.tN "UNASSIGNED_STACK" Bundle.steD A s' s'.heap := by rw [hhp]; exact vx_Zq.moved hW0.alike (hU.kept hS.2.1)
  have hN' : vx_Zq Bundle.tN "SUPPRESSED_SENTINEL" Bundle.listD A s' s'.heap := by rw [hhp]; exact vx_Zq.moved hW0.alike (hN.kept hS.2.1)
  have h : ∀ w ∈ Bundle.ownAtoms own ic cls names, w.before args s' = true := vx_own hat' (vx_isRefq hU'.1) (vx_isRefq hN'.1) hU'.2.word hN'.2.word
  have hown' : s'.vm.findClass own = some m.cls := by rw [hvm]; exact hown
  have hins : (Cond.instantiable cls 6).before args s' = true := h _ (by simp [Bundle.ownAtoms])
  obtain ⟨vm₁, cX, kX, hfX, hkX, -, -, X₁, st1⟩ := Y.newCold hexec (own := own) (C := cls) (index := ik) (n := 6) hown' hk' hins hini'
    (g := F0 m pc ls rest) rfl (by rw [hb]; exact d0) (Nat.le_refl _) (Nat.le_refl _)
  generalize hT1 : (T.setVm vm₁).pushCell { cls := cX, slots := kX.instanceTypes.map defaultValue, vm := .none } = T1 at X₁ st1
  have hcat : (Value.ref T.heap.size).category = 1 := rfl
  have hcellA : T1.heap[T.heap.size]? = some (freshCell cX kX) := by rw [← hT1]; exact State.heap_pushCell_size _ _
  have d3' : decode c.code (pc + 3) = .ok (.dup, 1) := by rw [hb]; exact d3
  have d4' : decode c.code (pc + 4) = .ok (.ldc_w is, 3) := by rw [hb]; exact d4
  have hstr' : vk_R own is text sa s' := vk_R.warm hW0 hstr
  obtain ⟨U, hsteps, hrun, hend, hW, hsame, ce, hce, hO⟩ := X₁.ctorThrowS hexec htr (own := own) (cls := cls) (names := names) (ic := ic) hown' hcls hnames h (fun x hx => nomatch hx) hfX hkX hcellA (by rw [hhp, hT]; exact Nat.le_refl _) (msg := .ref sa) rfl
    (g := { method := m, pc := pc + 7, locals := ls, stack := .ref sa :: .ref T.heap.size :: .ref T.heap.size :: rest, locked := none }) rfl hsize rfl rfl (rest := rest) rfl
    (by rw [hb]; exact d7) (by rw [hb]; exact d10) hout hRframes (by simp only [List.map_cons, List.sum_cons, hcat]; omega) hlocks
  obtain ⟨f1, f2⟩ := vx_frame hsame
  rw [hhp] at f1 f2
  have hWs : s.WarmedH U.vm := State.WarmedH.trans hW0 hW
  have hcl : s.vm.findClass cls = some ce.cls := by
    have h9 := hO.cls
    rw [hvm] at h9
    exact h9
  have hall : s.sameButNew ({ U with vm := s.vm } : State) locs mc ms := by
    subst hA
    obtain ⟨e1, e2⟩ := hsame
    rw [State.setFrames_setFrames] at e1
    have h2 : (T.setVm s.vm).sameButNew ({ U with vm := s.vm } : State) [] (0 + 1) (0 + 6) := ⟨e1, e2⟩
    have h3 := X.same.trans h2
    rw [List.append_nil] at h3
    exact h3.mono hc hs
  refine ⟨U, ?_, .threw T.heap.size, hrun, hend, Or.inr ⟨T.heap.size, rfl, cls, ce, locs, hx U hWs.alike f1 (fun q hq => f2 q hq (fun z hz => nomatch hz)), hce, hO.vm, hcl, hWs, hall, hf⟩⟩
  refine st1 _ ?_
  show Steps p.tables e below (T1.setTop { method := m, pc := pc + 3, locals := ls, stack := .ref T.heap.size :: rest, locked := none }) _
  jvm_step X₁.here [X₁.here.top, hexec, d3', Value.category]
  exact X₁.ldcStringW hexec (own := own) (text := text) (index := is) (a := sa) hown' hstr'.1 hstr'.2
    (g := { method := m, pc := pc + 4, locals := ls, stack := .ref T.heap.size :: .ref T.heap.size :: rest, locked := none }) rfl d4' _ hsteps
end Ends
section Bodies
variable {l : Launch}
theorem vx_ofW {y : MethodName} {ws ws' : List Cond} {rm : Room} {Pc : Array Value → State → Prop} {Qc : Array Value → State → Outcome → State → Prop} {XC : String → State → State → Prop} {mc ms : Nat} {free : Addr → Prop} {cc : ByteArray} {maxL : Nat} {ret : Option FieldType}
    (hy : plainName y.cls = true) (hw : ws = Cond.code y cc maxL ret :: ws')
    (body : ∀ p e s m args below meth c s₁, BodyLoose p l y (headSpec ws rm) cc maxL ret e s m args below meth c s₁ → c.maxLocals = maxL → (∀ x ∈ c.exceptionTable.toList, False) → Pc args s →
      W p l e (headSpec ws rm).room s m args below meth c s.heap [] 0 0 (vx_MQ below Qc XC args s mc ms free) (entryFrame m args maxL)) : vx_Met l y ws rm Pc Qc XC mc ms free := by
  refine MetFree.of_bodyS (code := cc) (maxLocals := maxL) (ret := ret) hy ?_ ?_
  · intro args s m h hn
    obtain ⟨meth, c, h1, h2, h3, h4, h5, h6, -, -⟩ := Cond.code_spec hn (atoms_spec (ws := ws) h _ (by rw [hw]; exact List.mem_cons_self))
    exact ⟨meth, c, h1, h2, h3, h4, h5, h6⟩
  · intro p e s m args below meth c s₁ B hml hP _
    have hh0 : s₁.heap = s.heap := by rw [B.state]; rfl
    have ht : ∀ x ∈ c.exceptionTable.toList, False := by
      obtain ⟨meth9, c9, h1, h2, -, -, -, -, h7, -⟩ := Cond.code_spec B.named (atoms_spec (ws := ws) B.pre _ (by rw [hw]; exact List.mem_cons_self))
      cases Option.some.inj (h1.symm.trans B.method)
      cases Option.some.inj (h2.symm.trans (Stand.of_body B).code)
      intro x hx
      rw [Array.isEmpty_iff.mp h7] at hx
      cases hx
    obtain ⟨t, a1, o, b1, b2, b3⟩ := body p e s m args below meth c s₁ B hml ht hP s₁ hh0 (Stand.of_body B)
    exact ⟨t, o, a1, b1, b2, b3⟩
/-- the table of a body with handlers -/
theorem vx_table {p : Program} {x y : MethodName} {S : Spec} {cc bytes : ByteArray} {maxL maxL' : Nat} {ret ret' : Option FieldType} {e : Env} {s s₁ : State} {m : MethodId} {args : Array Value} {below : List Frame} {meth : Method} {c : Code} {hh : List (Nat × Nat × Nat × Nat)}
    (B : BodyLoose p l y S cc maxL ret e s m args below meth c s₁) (h : (Cond.codeWith y bytes maxL' ret' hh).before args s = true) : c.exceptionTable.toList = tableOf hh := by
  obtain ⟨m9, meth9, c9, hn9, h1, h2, -, -, h6, -⟩ := Cond.codeWith_spec h
  cases Option.some.inj (hn9.symm.trans B.named)
  cases Option.some.inj (h1.symm.trans B.method)
  cases Option.some.inj (h2.symm.trans (Stand.of_body B).code)
  rw [← h6, table_eq]
end Bodies
end VXA
/-! ===== END ===== -/
/-! ===== BEGIN a static call of a method with an exception table ===== -/
section VXS
variable {p : Program} {l : Launch} {e : Env} {R : Room} {s : State} {m : MethodId} {args : Array Value} {below : List Frame} {meth : Method} {c : Code} {T : State} {H : Heap} {locs : List Loc} {cells slots : Nat}
abbrev vx_CSW (R : Room) (s : State) (args : Array Value) (own : String) (index : Nat) (y : MethodName) (bytes : ByteArray) (maxL : Nat) (ret : Option FieldType) (hh : List (Nat × Nat × Nat × Nat)) (ws : List Cond) (rm : Room) (mc ms n : Nat) : Prop :=
  (rm.cells = mc ∧ rm.slots = ms ∧ rm.frames + 1 ≤ R.frames ∧ 8 + (maxL + 11) + rm.locals ≤ R.locals ∧ (∀ w ∈ ws, ∀ (a' : Array Value) (U : State), s.WarmedH U.vm → w.before a' U = true) ∧ Cond.codeWith y bytes maxL ret hh ∈ ws) ∧
  (Cond.codeWith y bytes maxL ret hh).before args s = true ∧ (Cond.initialized y.cls).before args s = true ∧ (y.cls ≠ "java/lang/invoke/MethodHandle" ∧ y.cls ≠ "java/lang/invoke/VarHandle") ∧
  (∀ sig, parseMethodDescriptor y.desc = some sig → n = sig.parameters.length) ∧ (Cond.methodLink own index y).before args s = true ∧ (Cond.static y).before args s = true
theorem vx_cwSW {own : String} {index maxL mc ms : Nat} {y : MethodName} {bytes : ByteArray} {ret : Option FieldType} {hh : List (Nat × Nat × Nat × Nat)} {Ts ws ws' : List Cond} {rm : Room} (n : Nat) (ht : ∀ w ∈ Ts, w.before args s = true) (hT : GoodIn Ts (va_wsS own index y ws)) (hw : ws = Cond.codeWith y bytes maxL ret hh :: ws') (hrc : rm.cells = mc) (hrs : rm.slots = ms)
    (hd : y.cls ≠ "java/lang/invoke/MethodHandle" ∧ y.cls ≠ "java/lang/invoke/VarHandle" ∧ (parseMethodDescriptor y.desc).map (fun d => d.parameters.length) = some n) (hR : rm.frames + 1 ≤ R.frames ∧ 8 + (maxL + 11) + rm.locals ≤ R.locals) :
    vx_CSW R s args own index y bytes maxL ret hh ws rm mc ms n := by
  have ok : ∀ w ∈ va_wsS own index y ws, w.before args s = true := fun w h => ht w (hT w h).1
  have hG : GoodIn Ts ws := fun w h => hT w (by unfold va_wsS; exact List.mem_append_right _ h)
  have hc : Cond.codeWith y bytes maxL ret hh ∈ ws := by rw [hw]; exact List.mem_cons_self
  refine ⟨⟨hrc, hrs, hR.1, hR.2, pay_in ht hG, hc⟩, ht _ (hG _ hc).1, ok _ (by simp [va_wsS]), ⟨hd.1, hd.2.1⟩, fun sig h => ?_, ok _ (by simp [va_wsS]), ok _ (by simp [va_wsS])⟩
  have h2 := hd.2.2
  rw [h] at h2
  exact (Option.some.inj h2).symm
theorem vx_callSW (X : Stand p l e R s m args below meth c T locs cells slots) (hexec : p.tables.exec = Jvm.exec) {own : String} {index : Nat} {y : MethodName} {bytes : ByteArray} {maxL : Nat} {ret : Option FieldType} {hh : List (Nat × Nat × Nat × Nat)}
    (hown : s.vm.findClass own = some m.cls) (hlink : (Cond.methodLink own index y).before args s = true) (hstat : (Cond.static y).before args s = true) (hinit : (Cond.initialized y.cls).before args s = true)
    (hcode : (Cond.codeWith y bytes maxL ret hh).before args s = true) (hy : y.cls ≠ "java/lang/invoke/MethodHandle" ∧ y.cls ≠ "java/lang/invoke/VarHandle")
    {W9 : Nat} {Pre : Pt → Array Value → Prop} {Post : Pt → Array Value → Option Value → Pt → Prop} (hK : Back l R p e below s args y 3 W9 Pre Post)
    {g : JFrame} (hg : g.method = m) (hsize : g.locals.size = c.maxLocals) {argsL rest : List Value} (hlen : ∀ sig, parseMethodDescriptor y.desc = some sig → argsL.length = sig.parameters.length)
    (hstack : g.stack = argsL.reverse ++ rest) (hW : 2 * g.monitorRoom + (rest.map fun v => v.category).sum ≤ W9) (hdg : decode c.code g.pc = .ok (.invokestatic index, 3))
    (hpre : ∀ vm₁, s.WarmedH vm₁ → Pre ⟨T.setVm vm₁, locs, cells, slots⟩ argsL.toArray) :
    ∃ (v : Option Value) (vm₁ : Vm) (B : Pt), s.WarmedH vm₁ ∧ Stand p l e R s m args below meth c B.U B.locs B.cells B.slots ∧ Post ⟨T.setVm vm₁, locs, cells, slots⟩ argsL.toArray v B ∧
      ∀ target, Steps p.tables e below (B.U.setTop { g with pc := g.pc + 3, stack := v.toList ++ rest }) target → Steps p.tables e below (T.setTop g) target := by
  obtain ⟨mk, methM, cM, hnamed, hmethM, -, -, -, -, -, -, hsigM⟩ := Cond.codeWith_spec hcode
  have hstatic : methM.isStatic = true := Cond.static_spec hnamed hmethM hstat
  obtain ⟨kP, hkP, -⟩ := className_of_methodNamed hnamed
  have hinitP : kP.init = .initialized := Cond.initialized_spec (findClass_of_methodNamed hnamed) hkP hinit
  obtain ⟨vm₁, X₁, hstep₁⟩ := X.invokestatic hexec hown hlink hnamed hmethM hstatic hkP hinitP hy (g := g) hg (argsL := argsL) (rest := rest) (hlen _ hsigM) hstack hdg
  obtain ⟨v, B, X', hpost, hsteps⟩ := hK m meth c ⟨T.setVm vm₁, locs, cells, slots⟩ { g with stack := rest } (.invokestatic index) mk argsL.toArray X₁ hg hsize hdg hW (X₁.named hnamed) (hpre vm₁ X₁.warmed)
  exact ⟨v, vm₁, B, X₁.warmed, X', hpost, fun target h => hstep₁ _ fun acts => by rw [doInvoke_state]; exact hsteps.trans h⟩
theorem vx_runSW {y : MethodName} {bytes cc : ByteArray} {maxL nL mc ms n index : Nat} {ret : Option FieldType} {hh : List (Nat × Nat × Nat × Nat)} {ws : List Cond} {rm : Room} {Pc : Array Value → State → Prop} {Qc : Array Value → State → Outcome → State → Prop} {free : Addr → Prop} {Ts : List Cond} {own : String} {As rest : List Value} {g : JFrame}
    (S : CallFix p m c cc nL s args Ts own) (hM : Met l y ws rm Pc Qc mc ms free) (cw : vx_CSW R s args own index y bytes maxL ret hh ws rm mc ms n) (hp : PreS s H Pc As)
    (hg : g.method = m) (hn : As.length = n) (hsize : g.locals.size = nL) (hstack : g.stack = As.reverse ++ rest) (hW : 2 * g.monitorRoom + (rest.map fun v => v.category).sum ≤ 8) (hdg : decode cc g.pc = .ok (.invokestatic index, 3)) (hf : cells + mc ≤ R.cells ∧ slots + ms ≤ R.slots) :
    va_Run p l e R s m args below meth c H locs cells slots mc ms g rest (Qc As.toArray) (free) := by
  obtain ⟨⟨hrc, hrs, hfr, hlo, hws, hcw⟩, hcode, hini, hy, hlen, hl, hstt⟩ := cw
  have hK : Back l R p e below s args y 3 8 (PreOf R mc ms Pc) (PostOf Qc mc ms free) := va_backW (hh := hh) (bytes := bytes) (maxL := maxL) (ret := ret) hM hp.1 hrc hrs hfr hlo hws hcw (fun a' U hW => word_at hW (Or.inl (by first | rfl | simp [Cond.onTables, Cond.keeps, Cond.steady])) hini)
  obtain ⟨hx, hb, hml, ho, -⟩ := S
  intro T hT X
  obtain ⟨v, vm₁, ⟨U', l2, c2, s2⟩, hW₁, X', ⟨g', mk, t, L, e1, e2, hq, h1, hL, h2, h3⟩, st⟩ := vx_callSW X hx (hh := hh) (bytes := bytes) (maxL := maxL) (ret := ret) ho hl hstt hini hcode hy hK hg (hsize.trans hml.symm) (argsL := As) (rest := rest) (fun sig h => hn.trans (hlen sig h)) hstack hW (by rw [hb]; exact hdg)
    (fun vm₁ hW₁ => ⟨hf.1, hf.2, hp.2 (T.setVm vm₁) hT hW₁⟩)
  dsimp only [Pt.U, Pt.locs, Pt.cells, Pt.slots] at X' e1 e2 h1 h2 h3 st
  subst h1; subst h2; subst h3
  exact ⟨v, (T.setVm vm₁).calling g' mk As.toArray, t, U', L, hT, X', hL, e1, e2, hq, st⟩
/-- not caught here, past rows that name other classes: it goes on to the caller -/
theorem vx_outP {p : Program} {l : Launch} {e : Env} {R : Room} {s : State} {m : MethodId} {args : Array Value} {below : List Frame} {meth : Method} {c : Code} {H : Heap} {locs : List Loc} {cells slots : Nat} {free : Addr → Prop} {ls : Array Slot} {rest : List Value} {Qc : Array Value → State → Outcome → State → Prop} {XC : String → State → State → Prop}
    {pc : Nat} {own E : String} {ce : Cell} {q : Addr} {mc ms : Nat} (hown : s.vm.findClass own = some m.cls) (hlocks : meth.locks = false)
    (hpass : ∀ z ∈ c.exceptionTable.toList, covers z pc = false ∨ (z.catchType ≠ 0 ∧ ∃ nm : String, (Cond.classLink own z.catchType nm).before args s = true ∧ va_Nc E nm s)) (hcell : H[q]? = some ce) (hv : ce.vm = .none) (hcl : s.vm.findClass E = some ce.cls)
    (hx : ∀ t : State, t.heap = H → s.vm.Alike t.vm → XC E s t) (hf : ∀ z ∈ locs, free z.base) (hc : cells ≤ mc) (hs : slots ≤ ms) :
    vx_W p l e R s m args below meth c H locs cells slots (vx_MQ below Qc XC args s mc ms free) (F0 m pc ls rest) q := by
  intro T hT X
  have hpl : e.platform.magicAccessors = ({} : Platform).magicAccessors := by rw [X.admits.platform]
  obtain ⟨vm', hW', X', st⟩ := X.outThrough hlocks q (g := F0 m pc ls rest) rfl rfl rfl (cell := ce) (by rw [hT]; exact hcell) (by rw [hv]; rfl)
    (by obtain ⟨k9, h9, -⟩ := Vm.findClass_spec hcl; exact ⟨k9, h9⟩) (fun z hz => by
      rcases hpass z hz with h | ⟨hz0, nm, hl1, hn1⟩
      · exact Or.inl h
      · obtain ⟨c6, hc6, hcl6⟩ := Cond.classLink_spec hown hl1 e.platform hpl
        obtain ⟨a8, b8, h1, h2, h3⟩ := hn1
        cases Option.some.inj (h1.symm.trans hcl)
        cases Option.some.inj (h2.symm.trans hc6)
        exact Or.inr ⟨hz0, _, hcl6, h3⟩)
  obtain ⟨g₀, hfr⟩ := X'.frames_eq
  have hcell9 : ((T.setVm vm').setFrames (.throwing q :: below)).heap[q]? = some ce := by
    show T.heap[q]? = some ce
    rw [hT]; exact hcell
  have hend : Ended ((T.setVm vm').setFrames (.throwing q :: below)) below (.threw q) := State.frames_setFrames _ (State.cur_lt_of_frames hfr)
  refine ⟨(T.setVm vm').setFrames (.throwing q :: below), ?_, .threw q, X'.here.running, hend, Or.inr ⟨q, rfl, E, ce, locs, hx _ hT (X'.ends _).1.alike, hcell9, hv, hcl, (X'.ends _).1, (X'.ends _).2.mono hc hs, hf⟩⟩
  rw [X.pushThrowing_eq]
  exact st
/-- a thing of a world lies in the heap -/
theorem vx_lt {D : va_G} {cl : List vw_C} {ws : va_W} {H1 : Heap} (h : va_P D cl ws H1) {k : Nat} {q : Nat × va_E} (hk : ws[k]? = some q) : q.1 < H1.size := (h k q hk).lt
end VXS
/-! ===== END ===== -/
/-! ===== BEGIN methods with a table of their own: called by a name, returning or throwing ===== -/
section VXH
/-! vx_backW, vx_callVX, vx_callSX, vx_callVW, vx_runVW, vx_runVX, vx_runSX, vx_ofWH follow the same proofs as their sisters above (Free/Laws.lean, Shelf42/LK1.lean); vx_outP calls Shelf42/NT130.lean (outThrough). -/
section
variable {l : Launch} {R : Room} {p : Program} {e : Env} {below : List Frame} {s : State} {sargs : Array Value} {y : MethodName} {len W9 : Nat}
theorem vx_backW {ws : List Cond} {rm : Room} {Pc : Array Value → State → Prop} {Qc : Array Value → State → Outcome → State → Prop} {XC : String → State → State → Prop} {mc ms : Nat} {free : Addr → Prop} {bytes : ByteArray} {maxL : Nat} {ret : Option FieldType} {hh : List (Nat × Nat × Nat × Nat)}
    (hM : vx_Met l y ws rm Pc Qc XC mc ms free) (hblind : FrameBlind Pc) (hrc : rm.cells = mc) (hrs : rm.slots = ms)
    (hframes : rm.frames + 1 ≤ R.frames) (hlocals : W9 + (maxL + 11) + rm.locals ≤ R.locals)
    (hws : ∀ w ∈ ws, ∀ a' U, s.WarmedH U.vm → w.before a' U = true) (hcode : Cond.codeWith y bytes maxL ret hh ∈ ws) (hinit : ∀ a' U, s.WarmedH U.vm → (Cond.initialized y.cls).before a' U = true) :
    vx_Back l R p e below s sargs y len W9 (PreOf R mc ms Pc) (PostOf Qc mc ms free) (vx_Post XC mc ms free) := by
  intro m meth c A g ig mk a X hg hsize hdg hW hn hp
  have h1 : (headSpec ws rm).pre.before a A.U = true := atoms_intro fun w hw => hws w hw _ _ X.warmed
  have h2 : (Cond.codeWith y bytes maxL ret hh).before a A.U = true := hws _ hcode _ _ X.warmed
  have h3 : (Cond.initialized y.cls).before a A.U = true := hinit _ _ X.warmed
  have h4 : A.cells + (headSpec ws rm).room.cells ≤ R.cells := by rw [show (headSpec ws rm).room.cells = mc from hrc]; exact hp.1
  have h5 : A.slots + (headSpec ws rm).room.slots ≤ R.slots := by rw [show (headSpec ws rm).room.slots = ms from hrs]; exact hp.2.1
  have hPc : Pc a (A.U.calling g mk a) := hblind _ _ _ _ hp.2.2
  obtain ⟨U, Ls, c0, s0⟩ := A
  dsimp only [Pt.U, Pt.locs, Pt.cells, Pt.slots] at h1 h2 h3 h4 h5 X hn hPc ⊢
  obtain ⟨m9, methY, cY, hn9, hmY, hcY, -, hlY, -⟩ := Cond.codeWith_spec h2
  cases Option.some.inj (hn9.symm.trans hn)
  obtain ⟨kY, hkY, -⟩ := className_of_methodNamed hn
  have hinitY : kY.init = .initialized := Cond.initialized_spec (findClass_of_methodNamed hn) hkY h3
  have h : At U g.method c below := by rw [hg]; exact X.here
  have hlocals9 : W9 + (maxL + 11) + (headSpec ws rm).room.locals ≤ R.locals := hlocals
  have happ : (headSpec ws rm).appliesLoose y e.platform (U.calling g mk a) = true :=
    Spec.appliesLoose_calling (g := g) h hdg hn hkY hinitY
      (X.room_calling (g := g) (R' := (headSpec ws rm).room) hsize hmY hcY hframes (by rw [hlY]; omega) h4 h5) h1
  obtain ⟨mid, hmid⟩ := h.above
  have hfr : (U.setTop g).frames = (.java g :: mid) ++ below := by rw [State.frames_setTop' g h.top, hmid]; rfl
  obtain ⟨o, s₂, hsteps, -, hend, hq⟩ := Steps.callFree hM p X.admits X.cas X.clock (acts := []) hfr happ hPc trivial
  have hq' : vx_Q Qc XC mc ms free a (U.calling g mk a) o s₂ := hq
  rw [State.frames_setTop' g h.top] at hend
  obtain ⟨g₀, hg0⟩ := Option.isSome_iff_exists.mp h.top
  obtain ⟨r, hr⟩ := State.topJava?_eq_some.mp hg0
  have hr' : (({ U with heap := s₂.heap, slotsUsed := s₂.slotsUsed } : State).setVm s₂.vm).frames = .java g₀ :: r := hr
  rcases hq' with ⟨hqc, L, hfe, hL⟩ | ⟨q, rfl, E, ce, L, hx, hce, hcv, hcl, hW₂, hsm, hL⟩
  · obtain ⟨⟨v, rfl⟩, hW₂, e2, q2, q3, q4, q5, q6⟩ := id hfe
    have e3 : s₂ = ({ (U.calling g mk a).setFrames s₂.frames with heap := s₂.heap, slotsUsed := s₂.slotsUsed } : State).setVm s₂.vm := by
      have : s₂ = ({ s₂ with vm := (U.calling g mk a).vm } : State).setVm s₂.vm := rfl
      rw [e2] at this
      exact this
    obtain ⟨c₂, i₂, len₂, hc₂, hd₂, hf₂⟩ := hend
    have hW' : U.WarmedH s₂.vm := hW₂
    have hcc : c₂ = c := by
      have h1 : s₂.code? g.method = U.code? g.method := by
        rw [State.code?_eq, State.code?_eq, hW'.alike.method?]
      exact Option.some.inj (hc₂.symm.trans (h1.trans h.code))
    subst hcc
    have hlen : len₂ = len := by rw [hdg] at hd₂; cases hd₂; rfl
    subst hlen
    have hs₂ : s₂ = (({ U with heap := s₂.heap, slotsUsed := s₂.slotsUsed } : State).setVm s₂.vm).setTop { g with pc := g.pc + len₂, stack := v.toList ++ g.stack } := by
      refine e3.trans ?_
      rw [hf₂, State.calling_eq h.top, State.setFrames_setFrames, State.setTop_of_frames _ hr', hr]
      rfl
    have hsame : U.sameButNew ({ U with heap := s₂.heap, slotsUsed := s₂.slotsUsed } : State) L mc ms := by
      refine ⟨?_, q2, q3, q4, q5, q6⟩
      obtain ⟨t, ht, -⟩ := State.frames_cons hr
      show ({ U with heap := s₂.heap, slotsUsed := s₂.slotsUsed } : State) = { U.setFrames U.frames with heap := s₂.heap, slotsUsed := s₂.slotsUsed }
      rw [State.setFrames_self ht]
    subst hg
    refine Or.inl ⟨v, ⟨(({ U with heap := s₂.heap, slotsUsed := s₂.slotsUsed } : State).setVm s₂.vm), Ls ++ L, c0 + mc, s0 + ms⟩,
      ⟨X.admits, X.cas, X.clock, X.frames, X.room, X.hears, X.method, X.code, (X.here.setHeapUsed s₂.heap s₂.slotsUsed).setVm hW'.alike, X.tail, State.WarmedH.trans X.warmed hW', X.limits, X.bytes, X.same.trans (hsame.setVm s.vm)⟩,
      ⟨g, mk, s₂, L, rfl, rfl, hqc, rfl, hL, rfl, rfl⟩, ?_⟩
    show Steps p.tables e below _ ((({ U with heap := s₂.heap, slotsUsed := s₂.slotsUsed } : State).setVm s₂.vm).setTop { g with pc := g.pc + len₂, stack := v.toList ++ g.stack })
    rw [← hs₂]
    exact hsteps
  · obtain ⟨e2, q2, q3, q4, q5, q6⟩ := id hsm
    have e3 : s₂ = ({ (U.calling g mk a).setFrames s₂.frames with heap := s₂.heap, slotsUsed := s₂.slotsUsed } : State).setVm s₂.vm := by
      have : s₂ = ({ s₂ with vm := (U.calling g mk a).vm } : State).setVm s₂.vm := rfl
      rw [e2] at this
      exact this
    have hf₂ : s₂.frames = .throwing q :: .java g :: U.frames.tail := hend
    have hW' : U.WarmedH s₂.vm := hW₂
    have hs₂ : s₂ = ((({ U with heap := s₂.heap, slotsUsed := s₂.slotsUsed } : State).setVm s₂.vm).setTop g).pushFrame (.throwing q) := by
      refine e3.trans ?_
      rw [hf₂, State.calling_eq h.top, State.setFrames_setFrames, State.pushFrame, State.frames_setTop _ hr', State.setTop_of_frames _ hr', State.setFrames_setFrames, hr]
      rfl
    have hsame : U.sameButNew ({ U with heap := s₂.heap, slotsUsed := s₂.slotsUsed } : State) L mc ms := by
      refine ⟨?_, q2, q3, q4, q5, q6⟩
      obtain ⟨t, ht, -⟩ := State.frames_cons hr
      show ({ U with heap := s₂.heap, slotsUsed := s₂.slotsUsed } : State) = { U.setFrames U.frames with heap := s₂.heap, slotsUsed := s₂.slotsUsed }
      rw [State.setFrames_self ht]
    subst hg
    refine Or.inr ⟨q, ⟨(({ U with heap := s₂.heap, slotsUsed := s₂.slotsUsed } : State).setVm s₂.vm), Ls ++ L, c0 + mc, s0 + ms⟩,
      ⟨X.admits, X.cas, X.clock, X.frames, X.room, X.hears, X.method, X.code, (X.here.setHeapUsed s₂.heap s₂.slotsUsed).setVm hW'.alike, X.tail, State.WarmedH.trans X.warmed hW', X.limits, X.bytes, X.same.trans (hsame.setVm s.vm)⟩,
      ⟨g, mk, s₂, L, E, ce, rfl, rfl, hx, hce, hcv, hcl, rfl, hL, rfl, rfl⟩, ?_⟩
    show Steps p.tables e below _ (((({ U with heap := s₂.heap, slotsUsed := s₂.slotsUsed } : State).setVm s₂.vm).setTop g).pushFrame (.throwing q))
    rw [← hs₂]
    exact hsteps
end
variable {p : Program} {l : Launch} {e : Env} {R : Room} {s : State} {m : MethodId} {args : Array Value} {below : List Frame} {meth : Method} {c : Code} {T : State} {H : Heap} {locs : List Loc} {cells slots : Nat}
theorem vx_callVX (X : Stand p l e R s m args below meth c T locs cells slots) (hexec : p.tables.exec = Jvm.exec) {own C : String} {index : Nat} {y : MethodName} {bytes : ByteArray} {maxL : Nat} {ret : Option FieldType} {hh : List (Nat × Nat × Nat × Nat)}
    (hown : s.vm.findClass own = some m.cls) (hlink : (Cond.methodLink own index y).before args s = true) (hinst : (Cond.instanceMethod y).before args s = true) (hsel : (Cond.selects C y y).before args s = true)
    (hcode : (Cond.codeWith y bytes maxL ret hh).before args s = true) (hy : y.cls ≠ "java/lang/invoke/MethodHandle" ∧ y.cls ≠ "java/lang/invoke/VarHandle")
    {W9 : Nat} {Pre : Pt → Array Value → Prop} {Post : Pt → Array Value → Option Value → Pt → Prop} {PostX : Pt → Array Value → Addr → Pt → Prop} (hK : vx_Back l R p e below s args y 3 W9 Pre Post PostX)
    {b : Addr} {cellB : Cell} (hcell : T.heap[b]? = some cellB) (hobj : cellB.vm.isStatics = false) (hcls : s.vm.findClass C = some cellB.cls)
    {g : JFrame} (hg : g.method = m) (hsize : g.locals.size = c.maxLocals) {argsL rest : List Value} (hlen : ∀ sig, parseMethodDescriptor y.desc = some sig → argsL.length = sig.parameters.length)
    (hstack : g.stack = argsL.reverse ++ .ref b :: rest) (hW : 2 * g.monitorRoom + (rest.map fun v => v.category).sum ≤ W9) (hdg : decode c.code g.pc = .ok (.invokevirtual index, 3))
    (hpre : ∀ vm₁, s.WarmedH vm₁ → Pre ⟨T.setVm vm₁, locs, cells, slots⟩ (Value.ref b :: argsL).toArray) :
    (∃ (v : Option Value) (vm₁ : Vm) (B : Pt), s.WarmedH vm₁ ∧ Stand p l e R s m args below meth c B.U B.locs B.cells B.slots ∧ Post ⟨T.setVm vm₁, locs, cells, slots⟩ (Value.ref b :: argsL).toArray v B ∧
      ∀ target, Steps p.tables e below (B.U.setTop { g with pc := g.pc + 3, stack := v.toList ++ rest }) target → Steps p.tables e below (T.setTop g) target) ∨
    (∃ (q : Addr) (vm₁ : Vm) (B : Pt), s.WarmedH vm₁ ∧ Stand p l e R s m args below meth c B.U B.locs B.cells B.slots ∧ PostX ⟨T.setVm vm₁, locs, cells, slots⟩ (Value.ref b :: argsL).toArray q B ∧
      Steps p.tables e below (T.setTop g) ((B.U.setTop { g with stack := rest }).pushFrame (.throwing q))) := by
  obtain ⟨mk, methM, hnamed, hmethM, hstM, habM⟩ := Cond.instanceMethod_spec hinst
  obtain ⟨m8, methM', cM, hn8, hmethM', -, -, -, -, -, -, hsigM⟩ := Cond.codeWith_spec hcode
  cases Option.some.inj (hn8.symm.trans hnamed)
  cases hmethM.symm.trans hmethM'
  obtain ⟨c2, r2, m2, q1, q2, q3, q4, kP, hkP, hkPi⟩ := Cond.selects_spec hsel
  cases hcls.symm.trans q1
  cases (State.methodFound?_of_named hnamed hy).symm.trans q2
  cases hnamed.symm.trans q3
  have hselP : selectMethod e.platform s.vm cellB.cls mk = .method mk := by rw [Launch.admits_selectMethod X.admits]; exact q4
  obtain ⟨vm₁, X₁, hstep₁⟩ := X.invokevirtual hexec hown hlink hnamed hmethM hstM hkP hkPi hy (a := b) (cell := cellB) hcell
    (fun z h => by rw [h] at hobj; cases hobj) hselP hmethM habM hkP hkPi (g := g) hg (argsL := argsL) (rest := rest) (hlen _ hsigM) hstack hdg
  rcases hK m meth c ⟨T.setVm vm₁, locs, cells, slots⟩ { g with stack := rest } (.invokevirtual index) mk (Value.ref b :: argsL).toArray X₁ hg hsize hdg hW (X₁.named hnamed) (hpre vm₁ X₁.warmed) with ⟨v, B, X', hpost, hsteps⟩ | ⟨q, B, X', hpost, hsteps⟩
  · exact Or.inl ⟨v, vm₁, B, X₁.warmed, X', hpost, fun target h => hstep₁ _ fun acts => by rw [doInvoke_state]; exact hsteps.trans h⟩
  · exact Or.inr ⟨q, vm₁, B, X₁.warmed, X', hpost, hstep₁ _ fun acts => by rw [doInvoke_state]; exact hsteps⟩
theorem vx_callSX (X : Stand p l e R s m args below meth c T locs cells slots) (hexec : p.tables.exec = Jvm.exec) {own : String} {index : Nat} {y : MethodName} {bytes : ByteArray} {maxL : Nat} {ret : Option FieldType} {hh : List (Nat × Nat × Nat × Nat)}
    (hown : s.vm.findClass own = some m.cls) (hlink : (Cond.methodLink own index y).before args s = true) (hstat : (Cond.static y).before args s = true) (hinit : (Cond.initialized y.cls).before args s = true)
    (hcode : (Cond.codeWith y bytes maxL ret hh).before args s = true) (hy : y.cls ≠ "java/lang/invoke/MethodHandle" ∧ y.cls ≠ "java/lang/invoke/VarHandle")
    {W9 : Nat} {Pre : Pt → Array Value → Prop} {Post : Pt → Array Value → Option Value → Pt → Prop} {PostX : Pt → Array Value → Addr → Pt → Prop} (hK : vx_Back l R p e below s args y 3 W9 Pre Post PostX)
    {g : JFrame} (hg : g.method = m) (hsize : g.locals.size = c.maxLocals) {argsL rest : List Value} (hlen : ∀ sig, parseMethodDescriptor y.desc = some sig → argsL.length = sig.parameters.length)
    (hstack : g.stack = argsL.reverse ++ rest) (hW : 2 * g.monitorRoom + (rest.map fun v => v.category).sum ≤ W9) (hdg : decode c.code g.pc = .ok (.invokestatic index, 3))
    (hpre : ∀ vm₁, s.WarmedH vm₁ → Pre ⟨T.setVm vm₁, locs, cells, slots⟩ argsL.toArray) :
    (∃ (v : Option Value) (vm₁ : Vm) (B : Pt), s.WarmedH vm₁ ∧ Stand p l e R s m args below meth c B.U B.locs B.cells B.slots ∧ Post ⟨T.setVm vm₁, locs, cells, slots⟩ argsL.toArray v B ∧
      ∀ target, Steps p.tables e below (B.U.setTop { g with pc := g.pc + 3, stack := v.toList ++ rest }) target → Steps p.tables e below (T.setTop g) target) ∨
    (∃ (q : Addr) (vm₁ : Vm) (B : Pt), s.WarmedH vm₁ ∧ Stand p l e R s m args below meth c B.U B.locs B.cells B.slots ∧ PostX ⟨T.setVm vm₁, locs, cells, slots⟩ argsL.toArray q B ∧
      Steps p.tables e below (T.setTop g) ((B.U.setTop { g with stack := rest }).pushFrame (.throwing q))) := by
  obtain ⟨mk, methM, cM, hnamed, hmethM, -, -, -, -, -, -, hsigM⟩ := Cond.codeWith_spec hcode
  have hstatic : methM.isStatic = true := Cond.static_spec hnamed hmethM hstat
  obtain ⟨kP, hkP, -⟩ := className_of_methodNamed hnamed
  have hinitP : kP.init = .initialized := Cond.initialized_spec (findClass_of_methodNamed hnamed) hkP hinit
  obtain ⟨vm₁, X₁, hstep₁⟩ := X.invokestatic hexec hown hlink hnamed hmethM hstatic hkP hinitP hy (g := g) hg (argsL := argsL) (rest := rest) (hlen _ hsigM) hstack hdg
  rcases hK m meth c ⟨T.setVm vm₁, locs, cells, slots⟩ { g with stack := rest } (.invokestatic index) mk argsL.toArray X₁ hg hsize hdg hW (X₁.named hnamed) (hpre vm₁ X₁.warmed) with ⟨v, B, X', hpost, hsteps⟩ | ⟨q, B, X', hpost, hsteps⟩
  · exact Or.inl ⟨v, vm₁, B, X₁.warmed, X', hpost, fun target h => hstep₁ _ fun acts => by rw [doInvoke_state]; exact hsteps.trans h⟩
  · exact Or.inr ⟨q, vm₁, B, X₁.warmed, X', hpost, hstep₁ _ fun acts => by rw [doInvoke_state]; exact hsteps⟩
theorem vx_callVW (X : Stand p l e R s m args below meth c T locs cells slots) (hexec : p.tables.exec = Jvm.exec) {own C : String} {index : Nat} {y : MethodName} {bytes : ByteArray} {maxL : Nat} {ret : Option FieldType} {hh : List (Nat × Nat × Nat × Nat)}
    (hown : s.vm.findClass own = some m.cls) (hlink : (Cond.methodLink own index y).before args s = true) (hinst : (Cond.instanceMethod y).before args s = true) (hsel : (Cond.selects C y y).before args s = true)
    (hcode : (Cond.codeWith y bytes maxL ret hh).before args s = true) (hy : y.cls ≠ "java/lang/invoke/MethodHandle" ∧ y.cls ≠ "java/lang/invoke/VarHandle")
    {W9 : Nat} {Pre : Pt → Array Value → Prop} {Post : Pt → Array Value → Option Value → Pt → Prop} (hK : Back l R p e below s args y 3 W9 Pre Post)
    {b : Addr} {cellB : Cell} (hcell : T.heap[b]? = some cellB) (hobj : cellB.vm.isStatics = false) (hcls : s.vm.findClass C = some cellB.cls)
    {g : JFrame} (hg : g.method = m) (hsize : g.locals.size = c.maxLocals) {argsL rest : List Value} (hlen : ∀ sig, parseMethodDescriptor y.desc = some sig → argsL.length = sig.parameters.length)
    (hstack : g.stack = argsL.reverse ++ .ref b :: rest) (hW : 2 * g.monitorRoom + (rest.map fun v => v.category).sum ≤ W9) (hdg : decode c.code g.pc = .ok (.invokevirtual index, 3))
    (hpre : ∀ vm₁, s.WarmedH vm₁ → Pre ⟨T.setVm vm₁, locs, cells, slots⟩ (Value.ref b :: argsL).toArray) :
    ∃ (v : Option Value) (vm₁ : Vm) (B : Pt), s.WarmedH vm₁ ∧ Stand p l e R s m args below meth c B.U B.locs B.cells B.slots ∧ Post ⟨T.setVm vm₁, locs, cells, slots⟩ (Value.ref b :: argsL).toArray v B ∧
      ∀ target, Steps p.tables e below (B.U.setTop { g with pc := g.pc + 3, stack := v.toList ++ rest }) target → Steps p.tables e below (T.setTop g) target := by
  obtain ⟨mk, methM, hnamed, hmethM, hstM, habM⟩ := Cond.instanceMethod_spec hinst
  obtain ⟨m8, methM', cM, hn8, hmethM', -, -, -, -, -, -, hsigM⟩ := Cond.codeWith_spec hcode
  cases Option.some.inj (hn8.symm.trans hnamed)
  cases hmethM.symm.trans hmethM'
  obtain ⟨c2, r2, m2, q1, q2, q3, q4, kP, hkP, hkPi⟩ := Cond.selects_spec hsel
  cases hcls.symm.trans q1
  cases (State.methodFound?_of_named hnamed hy).symm.trans q2
  cases hnamed.symm.trans q3
  have hselP : selectMethod e.platform s.vm cellB.cls mk = .method mk := by rw [Launch.admits_selectMethod X.admits]; exact q4
  obtain ⟨vm₁, X₁, hstep₁⟩ := X.invokevirtual hexec hown hlink hnamed hmethM hstM hkP hkPi hy (a := b) (cell := cellB) hcell
    (fun z h => by rw [h] at hobj; cases hobj) hselP hmethM habM hkP hkPi (g := g) hg (argsL := argsL) (rest := rest) (hlen _ hsigM) hstack hdg
  obtain ⟨v, B, X', hpost, hsteps⟩ := hK m meth c ⟨T.setVm vm₁, locs, cells, slots⟩ { g with stack := rest } (.invokevirtual index) mk (Value.ref b :: argsL).toArray X₁ hg hsize hdg hW (X₁.named hnamed) (hpre vm₁ X₁.warmed)
  exact ⟨v, vm₁, B, X₁.warmed, X', hpost, fun target h => hstep₁ _ fun acts => by rw [doInvoke_state]; exact hsteps.trans h⟩
abbrev vx_CVW (R : Room) (s : State) (args : Array Value) (own C : String) (index : Nat) (y : MethodName) (bytes : ByteArray) (maxL : Nat) (ret : Option FieldType) (hh : List (Nat × Nat × Nat × Nat)) (ws : List Cond) (rm : Room) (mc ms n : Nat) : Prop :=
  (rm.cells = mc ∧ rm.slots = ms ∧ rm.frames + 1 ≤ R.frames ∧ 8 + (maxL + 11) + rm.locals ≤ R.locals ∧ (∀ w ∈ ws, ∀ (a' : Array Value) (U : State), s.WarmedH U.vm → w.before a' U = true) ∧ Cond.codeWith y bytes maxL ret hh ∈ ws) ∧
  (Cond.codeWith y bytes maxL ret hh).before args s = true ∧ (Cond.initialized y.cls).before args s = true ∧ (y.cls ≠ "java/lang/invoke/MethodHandle" ∧ y.cls ≠ "java/lang/invoke/VarHandle") ∧
  (∀ sig, parseMethodDescriptor y.desc = some sig → n = sig.parameters.length) ∧ (Cond.methodLink own index y).before args s = true ∧ (Cond.instanceMethod y).before args s = true ∧ (Cond.selects C y y).before args s = true
theorem vx_cwVW {own C : String} {index maxL mc ms : Nat} {y : MethodName} {bytes : ByteArray} {ret : Option FieldType} {hh : List (Nat × Nat × Nat × Nat)} {Ts ws ws' : List Cond} {rm : Room} (n : Nat) (ht : ∀ w ∈ Ts, w.before args s = true) (hT : GoodIn Ts (wsV own index C y ws)) (hw : ws = Cond.codeWith y bytes maxL ret hh :: ws') (hrc : rm.cells = mc) (hrs : rm.slots = ms)
    (hd : y.cls = C ∧ y.cls ≠ "java/lang/invoke/MethodHandle" ∧ y.cls ≠ "java/lang/invoke/VarHandle" ∧ (parseMethodDescriptor y.desc).map (fun d => d.parameters.length) = some n) (hR : rm.frames + 1 ≤ R.frames ∧ 8 + (maxL + 11) + rm.locals ≤ R.locals) :
    vx_CVW R s args own C index y bytes maxL ret hh ws rm mc ms n := by
  obtain ⟨hC, hd⟩ := hd
  subst hC
  have ok : ∀ w ∈ wsV own index y.cls y ws, w.before args s = true := fun w h => ht w (hT w h).1
  have hG : GoodIn Ts ws := fun w h => hT w (by unfold wsV; exact List.mem_append_right _ h)
  have hc : Cond.codeWith y bytes maxL ret hh ∈ ws := by rw [hw]; exact List.mem_cons_self
  refine ⟨⟨hrc, hrs, hR.1, hR.2, pay_in ht hG, hc⟩, ht _ (hG _ hc).1, ok _ (by simp [wsV]), ⟨hd.1, hd.2.1⟩, fun sig h => ?_, ok _ (by simp [wsV]), ok _ (by simp [wsV]), ok _ (by simp [wsV])⟩
  have h2 := hd.2.2
  rw [h] at h2
  exact (Option.some.inj h2).symm
theorem vx_runVW {y : MethodName} {bytes cc : ByteArray} {maxL nL mc ms n index : Nat} {ret : Option FieldType} {hh : List (Nat × Nat × Nat × Nat)} {ws : List Cond} {rm : Room} {Pc : Array Value → State → Prop} {Qc : Array Value → State → Outcome → State → Prop} {free : Addr → Prop} {Ts : List Cond} {own C : String} {b : Addr} {As rest : List Value} {g : JFrame}
    (S : CallFix p m c cc nL s args Ts own) (hM : Met l y ws rm Pc Qc mc ms free) (cw : vx_CVW R s args own C index y bytes maxL ret hh ws rm mc ms n) (hp : PreV s H C b Pc As)
    (hg : g.method = m) (hn : As.length = n) (hsize : g.locals.size = nL) (hstack : g.stack = As.reverse ++ .ref b :: rest) (hW : 2 * g.monitorRoom + (rest.map fun v => v.category).sum ≤ 8) (hdg : decode cc g.pc = .ok (.invokevirtual index, 3)) (hf : cells + mc ≤ R.cells ∧ slots + ms ≤ R.slots) :
    va_Run p l e R s m args below meth c H locs cells slots mc ms g rest (Qc (Value.ref b :: As).toArray) free := by
  obtain ⟨⟨hrc, hrs, hfr, hlo, hws, hcw⟩, hcode, hini, hy, hlen, hl, hin, hse⟩ := cw
  have hK : Back l R p e below s args y 3 8 (PreOf R mc ms Pc) (PostOf Qc mc ms free) := va_backW (hh := hh) (bytes := bytes) (maxL := maxL) (ret := ret) hM hp.1 hrc hrs hfr hlo hws hcw (fun a' U hW => word_at hW (Or.inl (by first | rfl | simp [Cond.onTables, Cond.keeps, Cond.steady])) hini)
  obtain ⟨hx, hb, hml, ho, -⟩ := S
  obtain ⟨-, ⟨cellB, hcB, hoB, hclB⟩, hPc⟩ := hp
  intro T hT X
  obtain ⟨v, vm₁, ⟨U', l2, c2, s2⟩, hW₁, X', ⟨g', mk, t, L, e1, e2, hq, h1, hL, h2, h3⟩, st⟩ := vx_callVW X hx (C := C) (hh := hh) (bytes := bytes) (maxL := maxL) (ret := ret) ho hl hin hse hcode hy hK (by rw [hT]; exact hcB) hoB hclB hg (hsize.trans hml.symm) (argsL := As) (rest := rest) (fun sig h => hn.trans (hlen sig h)) hstack hW (by rw [hb]; exact hdg)
    (fun vm₁ hW₁ => ⟨hf.1, hf.2, hPc (T.setVm vm₁) hT hW₁⟩)
  dsimp only [Pt.U, Pt.locs, Pt.cells, Pt.slots] at X' e1 e2 h1 h2 h3 st
  subst h1; subst h2; subst h3
  exact ⟨v, (T.setVm vm₁).calling g' mk (Value.ref b :: As).toArray, t, U', L, hT, X', hL, e1, e2, hq, st⟩
section
variable {y : MethodName} {bytes cc : ByteArray} {maxL nL mc ms n index : Nat} {ret : Option FieldType} {ws : List Cond} {rm : Room} {Pc : Array Value → State → Prop} {Qc : Array Value → State → Outcome → State → Prop} {XC : String → State → State → Prop} {free : Addr → Prop} {Ts : List Cond} {own C : String} {b : Addr} {As rest : List Value} {g : JFrame}
theorem vx_runVX {hh : List (Nat × Nat × Nat × Nat)} (S : CallFix p m c cc nL s args Ts own) (hM : vx_Met l y ws rm Pc Qc XC mc ms free) (cw : vx_CVW R s args own C index y bytes maxL ret hh ws rm mc ms n) (hp : PreV s H C b Pc As)
    (hg : g.method = m) (hn : As.length = n) (hsize : g.locals.size = nL) (hstack : g.stack = As.reverse ++ .ref b :: rest) (hW : 2 * g.monitorRoom + (rest.map fun v => v.category).sum ≤ 8) (hdg : decode cc g.pc = .ok (.invokevirtual index, 3)) (hf : cells + mc ≤ R.cells ∧ slots + ms ≤ R.slots) :
    vx_Run p l e R s m args below meth c H locs cells slots mc ms g rest (Qc (Value.ref b :: As).toArray) XC free := by
  obtain ⟨⟨hrc, hrs, hfr, hlo, hws, hcw⟩, hcode, hini, hy, hlen, hl, hin, hse⟩ := cw
  have hK : vx_Back l R p e below s args y 3 8 (PreOf R mc ms Pc) (PostOf Qc mc ms free) (vx_Post XC mc ms free) := vx_backW (hh := hh) (bytes := bytes) (maxL := maxL) (ret := ret) hM hp.1 hrc hrs hfr hlo hws hcw (fun a' U hW => word_at hW (Or.inl (by first | rfl | simp [Cond.onTables, Cond.keeps, Cond.steady])) hini)
  obtain ⟨hx, hb, hml, ho, -⟩ := S
  obtain ⟨-, ⟨cellB, hcB, hoB, hclB⟩, hPc⟩ := hp
  intro T hT X
  rcases vx_callVX X hx (C := C) (hh := hh) (bytes := bytes) (maxL := maxL) (ret := ret) ho hl hin hse hcode hy hK (by rw [hT]; exact hcB) hoB hclB hg (hsize.trans hml.symm) (argsL := As) (rest := rest) (fun sig h => hn.trans (hlen sig h)) hstack hW (by rw [hb]; exact hdg)
    (fun vm₁ hW₁ => ⟨hf.1, hf.2, hPc (T.setVm vm₁) hT hW₁⟩) with ⟨v, vm₁, ⟨U', l2, c2, s2⟩, hW₁, X', ⟨g', mk, t, L, e1, e2, hq, h1, hL, h2, h3⟩, st⟩ | ⟨q, vm₁, ⟨U', l2, c2, s2⟩, hW₁, X', ⟨g', mk, t, L, E, ce, e1, e2, hq, hce, hcv, hcl, h1, hL, h2, h3⟩, st⟩
  · dsimp only [Pt.U, Pt.locs, Pt.cells, Pt.slots] at X' e1 e2 h1 h2 h3 st
    subst h1; subst h2; subst h3
    exact Or.inl ⟨v, (T.setVm vm₁).calling g' mk (Value.ref b :: As).toArray, t, U', L, hT, X', hL, e1, e2, hq, st⟩
  · dsimp only [Pt.U, Pt.locs, Pt.cells, Pt.slots] at X' e1 e2 h1 h2 h3 st hcl
    subst h1; subst h2; subst h3
    exact Or.inr ⟨q, (T.setVm vm₁).calling g' mk (Value.ref b :: As).toArray, t, U', L, E, ce, hT, X', hL, e1, e2, hq, hce, hcv, vx_cls hW₁ hcl, st⟩
theorem vx_runSX {hh : List (Nat × Nat × Nat × Nat)} (S : CallFix p m c cc nL s args Ts own) (hM : vx_Met l y ws rm Pc Qc XC mc ms free) (cw : vx_CSW R s args own index y bytes maxL ret hh ws rm mc ms n) (hp : PreS s H Pc As)
    (hg : g.method = m) (hn : As.length = n) (hsize : g.locals.size = nL) (hstack : g.stack = As.reverse ++ rest) (hW : 2 * g.monitorRoom + (rest.map fun v => v.category).sum ≤ 8) (hdg : decode cc g.pc = .ok (.invokestatic index, 3)) (hf : cells + mc ≤ R.cells ∧ slots + ms ≤ R.slots) :
    vx_Run p l e R s m args below meth c H locs cells slots mc ms g rest (Qc As.toArray) XC free := by
  obtain ⟨⟨hrc, hrs, hfr, hlo, hws, hcw⟩, hcode, hini, hy, hlen, hl, hstt⟩ := cw
  have hK : vx_Back l R p e below s args y 3 8 (PreOf R mc ms Pc) (PostOf Qc mc ms free) (vx_Post XC mc ms free) := vx_backW (hh := hh) (bytes := bytes) (maxL := maxL) (ret := ret) hM hp.1 hrc hrs hfr hlo hws hcw (fun a' U hW => word_at hW (Or.inl (by first | rfl | simp [Cond.onTables, Cond.keeps, Cond.steady])) hini)
  obtain ⟨hx, hb, hml, ho, -⟩ := S
  intro T hT X
  rcases vx_callSX X hx (hh := hh) (bytes := bytes) (maxL := maxL) (ret := ret) ho hl hstt hini hcode hy hK hg (hsize.trans hml.symm) (argsL := As) (rest := rest) (fun sig h => hn.trans (hlen sig h)) hstack hW (by rw [hb]; exact hdg)
    (fun vm₁ hW₁ => ⟨hf.1, hf.2, hp.2 (T.setVm vm₁) hT hW₁⟩) with ⟨v, vm₁, ⟨U', l2, c2, s2⟩, hW₁, X', ⟨g', mk, t, L, e1, e2, hq, h1, hL, h2, h3⟩, st⟩ | ⟨q, vm₁, ⟨U', l2, c2, s2⟩, hW₁, X', ⟨g', mk, t, L, E, ce, e1, e2, hq, hce, hcv, hcl, h1, hL, h2, h3⟩, st⟩
  · dsimp only [Pt.U, Pt.locs, Pt.cells, Pt.slots] at X' e1 e2 h1 h2 h3 st
    subst h1; subst h2; subst h3
    exact Or.inl ⟨v, (T.setVm vm₁).calling g' mk As.toArray, t, U', L, hT, X', hL, e1, e2, hq, st⟩
  · dsimp only [Pt.U, Pt.locs, Pt.cells, Pt.slots] at X' e1 e2 h1 h2 h3 st hcl
    subst h1; subst h2; subst h3
    exact Or.inr ⟨q, (T.setVm vm₁).calling g' mk As.toArray, t, U', L, E, ce, hT, X', hL, e1, e2, hq, hce, hcv, vx_cls hW₁ hcl, st⟩
end
end VXH
theorem vx_ofWH {l : Launch} {y : MethodName} {ws ws' : List Cond} {rm : Room} {Pc : Array Value → State → Prop} {Qc : Array Value → State → Outcome → State → Prop} {XC : String → State → State → Prop} {mc ms : Nat} {free : Addr → Prop} {cc : ByteArray} {maxL : Nat} {ret : Option FieldType} {hh : List (Nat × Nat × Nat × Nat)}
    (hy : plainName y.cls = true) (hw : ws = Cond.codeWith y cc maxL ret hh :: ws')
    (body : ∀ p e s m args below meth c s₁, BodyLoose p l y (headSpec ws rm) cc maxL ret e s m args below meth c s₁ → c.maxLocals = maxL → Pc args s →
      W p l e (headSpec ws rm).room s m args below meth c s.heap [] 0 0 (vx_MQ below Qc XC args s mc ms free) (entryFrame m args maxL)) : vx_Met l y ws rm Pc Qc XC mc ms free := by
  refine MetFree.of_bodyS (code := cc) (maxLocals := maxL) (ret := ret) hy ?_ ?_
  · intro args s m h hn
    obtain ⟨m9, meth, c, hn9, h1, h2, h3, h4, -, h5, h6, -⟩ := Cond.codeWith_spec (atoms_spec (ws := ws) h _ (by rw [hw]; exact List.mem_cons_self))
    cases hn.symm.trans hn9
    exact ⟨meth, c, h1, h2, h3, h4, h5, h6⟩
  · intro p e s m args below meth c s₁ B hml hP _
    have hh0 : s₁.heap = s.heap := by rw [B.state]; rfl
    obtain ⟨t, a1, o, b1, b2, b3⟩ := body p e s m args below meth c s₁ B hml hP s₁ hh0 (Stand.of_body B)
    exact ⟨t, o, a1, b1, b2, b3⟩
/-! ===== END ===== -/
end
section
def RX0 : String := "CellTrays"
def TX0 : u_T := fun k => match k with
  | 0 => ("CellTrays", "kindCount", "I", false)
  | 1 => ("CellTrays", "kindSize", "[I", true)
  | 2 => ("CellTrays", "kindStep", "[I", true)
  | 3 => ("CellTrays", "kindCells", "[I", true)
  | 4 => ("CellTrays", "kindRest", "[I", true)
  | 5 => ("CellTrays", "kindNextOffset", "[I", true)
  | 6 => ("CellTrays", "trayKind", "[I", true)
  | 7 => ("CellTrays", "trayOffset", "[I", true)
  | 8 => ("CellTrays", "trayThings", "[I", true)
  | 9 => ("CellTrays", "cellThing", "[I", true)
  | 10 => ("CellTrays", "thingCount", "I", false)
  | 11 => ("CellTrays", "thingKind", "[I", true)
  | 12 => ("CellTrays", "thingPlace", "[I", true)
  | 13 => ("CellTrays", "thingCell", "[I", true)
  | 14 => ("CellTrays", "goneCount", "I", false)
  | _ => ("CellTrays", "movedCount", "I", false)
def tyX0 : Nat → FieldType := fun k => match k with
  | 0 => .int
  | 1 => .array .int
  | 2 => .array .int
  | 3 => .array .int
  | 4 => .array .int
  | 5 => .array .int
  | 6 => .array .int
  | 7 => .array .int
  | 8 => .array .int
  | 9 => .array .int
  | 10 => .int
  | 11 => .array .int
  | 12 => .array .int
  | 13 => .array .int
  | 14 => .int
  | _ => .int
abbrev wsX00 : List Cond := u_ws RX0 TX0 16
theorem nmX0 : ∀ a, a < 16 → ∀ b, b < 16 → a ≠ b → (TX0 a).2.1 ≠ (TX0 b).2.1 := by decide +kernel
theorem tyX0_ok : ∀ k, k < 16 → parseFieldDescriptor (TX0 k).2.2.1 = some (tyX0 k) := by decide +kernel
abbrev cX0_init : ByteArray := prog_1_method_1_code
def yX0_init : MethodName := ⟨RX0, "<init>", "()V"⟩
abbrev cX0_kind : ByteArray := prog_1_method_2_code
def yX0_kind : MethodName := ⟨RX0, "kind", "(II)I"⟩
abbrev cX0_put : ByteArray := prog_1_method_3_code
def yX0_put : MethodName := ⟨RX0, "put", "(I)I"⟩
abbrev cX0_take : ByteArray := prog_1_method_4_code
def yX0_take : MethodName := ⟨RX0, "take", "(I)Z"⟩
abbrev cX0_sweep : ByteArray := prog_1_method_5_code
def yX0_sweep : MethodName := ⟨RX0, "sweep", "()I"⟩
abbrev cX0_pack : ByteArray := prog_1_method_6_code
def yX0_pack : MethodName := ⟨RX0, "pack", "(I)I"⟩
abbrev cX0_told : ByteArray := prog_1_method_7_code
def yX0_told : MethodName := ⟨RX0, "told", "(II)I"⟩
abbrev cX0_tray : ByteArray := prog_1_method_8_code
def yX0_tray : MethodName := ⟨RX0, "tray", "(II)I"⟩
abbrev cX0_cell : ByteArray := prog_1_method_9_code
def yX0_cell : MethodName := ⟨RX0, "cell", "(II)I"⟩
abbrev cX0_about : ByteArray := prog_1_method_10_code
def yX0_about : MethodName := ⟨RX0, "about", "(II)I"⟩
abbrev cX0_count : ByteArray := prog_1_method_11_code
def yX0_count : MethodName := ⟨RX0, "count", "(I)I"⟩
abbrev cX0_would : ByteArray := prog_1_method_12_code
def yX0_would : MethodName := ⟨RX0, "would", "(I)I"⟩
abbrev cX0_spares : ByteArray := prog_1_method_13_code
def yX0_spares : MethodName := ⟨RX0, "spares", "(I)I"⟩
abbrev cX0_room : ByteArray := prog_1_method_14_code
def yX0_room : MethodName := ⟨RX0, "room", "(I)I"⟩
abbrev cX0_worst : ByteArray := prog_1_method_15_code
def yX0_worst : MethodName := ⟨RX0, "worst", "()I"⟩
abbrev cX0_mean : ByteArray := prog_1_method_16_code
def yX0_mean : MethodName := ⟨RX0, "mean", "()D"⟩
abbrev cX0_digest : ByteArray := prog_1_method_17_code
def yX0_digest : MethodName := ⟨RX0, "digest", "()J"⟩
abbrev cX0_digestPlace : ByteArray := prog_1_method_18_code
def yX0_digestPlace : MethodName := ⟨RX0, "digestPlace", "(JI)J"⟩
abbrev cX0_requireKind : ByteArray := prog_1_method_19_code
def yX0_requireKind : MethodName := ⟨RX0, "requireKind", "(I)V"⟩
abbrev cX0_requireThing : ByteArray := prog_1_method_20_code
def yX0_requireThing : MethodName := ⟨RX0, "requireThing", "(I)V"⟩
abbrev cX0_requirePlace : ByteArray := prog_1_method_21_code
def yX0_requirePlace : MethodName := ⟨RX0, "requirePlace", "(I)V"⟩
abbrev cX0_requireWhat : ByteArray := prog_1_method_22_code
def yX0_requireWhat : MethodName := ⟨RX0, "requireWhat", "(II)V"⟩
abbrev cX0_placeFor : ByteArray := prog_1_method_23_code
def yX0_placeFor : MethodName := ⟨RX0, "placeFor", "(I)I"⟩
abbrev cX0_mostPartly : ByteArray := prog_1_method_24_code
def yX0_mostPartly : MethodName := ⟨RX0, "mostPartly", "(I)I"⟩
abbrev cX0_leastPartly : ByteArray := prog_1_method_25_code
def yX0_leastPartly : MethodName := ⟨RX0, "leastPartly", "(I)I"⟩
abbrev cX0_isPartly : ByteArray := prog_1_method_26_code
def yX0_isPartly : MethodName := ⟨RX0, "isPartly", "(II)Z"⟩
abbrev cX0_firstEmpty : ByteArray := prog_1_method_27_code
def yX0_firstEmpty : MethodName := ⟨RX0, "firstEmpty", "(I)I"⟩
abbrev cX0_firstBare : ByteArray := prog_1_method_28_code
def yX0_firstBare : MethodName := ⟨RX0, "firstBare", "()I"⟩
abbrev cX0_addTray : ByteArray := prog_1_method_29_code
def yX0_addTray : MethodName := ⟨RX0, "addTray", "(II)V"⟩
abbrev cX0_dropTray : ByteArray := prog_1_method_30_code
def yX0_dropTray : MethodName := ⟨RX0, "dropTray", "(I)V"⟩
abbrev cX0_layIn : ByteArray := prog_1_method_31_code
def yX0_layIn : MethodName := ⟨RX0, "layIn", "(II)V"⟩
abbrev cX0_liftOut : ByteArray := prog_1_method_32_code
def yX0_liftOut : MethodName := ⟨RX0, "liftOut", "(I)V"⟩
abbrev cX0_moveLast : ByteArray := prog_1_method_33_code
def yX0_moveLast : MethodName := ⟨RX0, "moveLast", "(II)V"⟩
abbrev cX0_cellsAt : ByteArray := prog_1_method_34_code
def yX0_cellsAt : MethodName := ⟨RX0, "cellsAt", "(I)I"⟩
abbrev cX0_traysOf : ByteArray := prog_1_method_35_code
def yX0_traysOf : MethodName := ⟨RX0, "traysOf", "(I)I"⟩
abbrev cX0_traysHolding : ByteArray := prog_1_method_36_code
def yX0_traysHolding : MethodName := ⟨RX0, "traysHolding", "(II)I"⟩
abbrev cX0_thingsOf : ByteArray := prog_1_method_37_code
def yX0_thingsOf : MethodName := ⟨RX0, "thingsOf", "(I)I"⟩
abbrev cX0_freeCellsOf : ByteArray := prog_1_method_38_code
def yX0_freeCellsOf : MethodName := ⟨RX0, "freeCellsOf", "(I)I"⟩
abbrev cX0_wastedBy : ByteArray := prog_1_method_39_code
def yX0_wastedBy : MethodName := ⟨RX0, "wastedBy", "(I)I"⟩
abbrev cX0_thingsThere : ByteArray := prog_1_method_40_code
def yX0_thingsThere : MethodName := ⟨RX0, "thingsThere", "()I"⟩
abbrev cX0_wastedInAll : ByteArray := prog_1_method_41_code
def yX0_wastedInAll : MethodName := ⟨RX0, "wastedInAll", "()I"⟩
def RX1 : String := "CellTraysModel"
def TX1 : u_T := fun k => match k with
  | 0 => ("CellTraysModel", "thrown", "I", false)
  | 1 => ("CellTraysModel", "kinds", "I", false)
  | 2 => ("CellTraysModel", "size", "[I", true)
  | 3 => ("CellTraysModel", "step", "[I", true)
  | 4 => ("CellTraysModel", "next", "[I", true)
  | 5 => ("CellTraysModel", "of", "[I", true)
  | 6 => ("CellTraysModel", "offset", "[I", true)
  | 7 => ("CellTraysModel", "many", "[I", true)
  | 8 => ("CellTraysModel", "inside", "[I", true)
  | 9 => ("CellTraysModel", "things", "I", false)
  | 10 => ("CellTraysModel", "kindOf", "[I", true)
  | 11 => ("CellTraysModel", "place", "[I", true)
  | 12 => ("CellTraysModel", "cell", "[I", true)
  | 13 => ("CellTraysModel", "gone", "I", false)
  | _ => ("CellTraysModel", "moved", "I", false)
def tyX1 : Nat → FieldType := fun k => match k with
  | 0 => .int
  | 1 => .int
  | 2 => .array .int
  | 3 => .array .int
  | 4 => .array .int
  | 5 => .array .int
  | 6 => .array .int
  | 7 => .array .int
  | 8 => .array .int
  | 9 => .int
  | 10 => .array .int
  | 11 => .array .int
  | 12 => .array .int
  | 13 => .int
  | _ => .int
abbrev wsX10 : List Cond := u_ws RX1 TX1 15
theorem nmX1 : ∀ a, a < 15 → ∀ b, b < 15 → a ≠ b → (TX1 a).2.1 ≠ (TX1 b).2.1 := by decide +kernel
theorem tyX1_ok : ∀ k, k < 15 → parseFieldDescriptor (TX1 k).2.2.1 = some (tyX1 k) := by decide +kernel
abbrev cX1_init : ByteArray := prog_3_method_1_code
def yX1_init : MethodName := ⟨RX1, "<init>", "()V"⟩
abbrev cX1_thrown : ByteArray := prog_3_method_2_code
def yX1_thrown : MethodName := ⟨RX1, "thrown", "()I"⟩
abbrev cX1_no : ByteArray := prog_3_method_3_code
def yX1_no : MethodName := ⟨RX1, "no", "(I)I"⟩
abbrev cX1_isIn : ByteArray := prog_3_method_4_code
def yX1_isIn : MethodName := ⟨RX1, "isIn", "(III)Z"⟩
abbrev cX1_isKind : ByteArray := prog_3_method_5_code
def yX1_isKind : MethodName := ⟨RX1, "isKind", "(I)Z"⟩
abbrev cX1_isThing : ByteArray := prog_3_method_6_code
def yX1_isThing : MethodName := ⟨RX1, "isThing", "(I)Z"⟩
abbrev cX1_cells : ByteArray := prog_3_method_7_code
def yX1_cells : MethodName := ⟨RX1, "cells", "(I)I"⟩
abbrev cX1_isEmpty : ByteArray := prog_3_method_8_code
def yX1_isEmpty : MethodName := ⟨RX1, "isEmpty", "(II)Z"⟩
abbrev cX1_isPartly : ByteArray := prog_3_method_9_code
def yX1_isPartly : MethodName := ⟨RX1, "isPartly", "(II)Z"⟩
abbrev cX1_fullest : ByteArray := prog_3_method_10_code
def yX1_fullest : MethodName := ⟨RX1, "fullest", "(I)I"⟩
abbrev cX1_leanest : ByteArray := prog_3_method_11_code
def yX1_leanest : MethodName := ⟨RX1, "leanest", "(I)I"⟩
abbrev cX1_firstEmpty : ByteArray := prog_3_method_12_code
def yX1_firstEmpty : MethodName := ⟨RX1, "firstEmpty", "(I)I"⟩
abbrev cX1_firstFree : ByteArray := prog_3_method_13_code
def yX1_firstFree : MethodName := ⟨RX1, "firstFree", "()I"⟩
abbrev cX1_goesTo : ByteArray := prog_3_method_14_code
def yX1_goesTo : MethodName := ⟨RX1, "goesTo", "(I)I"⟩
abbrev cX1_open : ByteArray := prog_3_method_15_code
def yX1_open : MethodName := ⟨RX1, "open", "(II)V"⟩
abbrev cX1_lay : ByteArray := prog_3_method_16_code
def yX1_lay : MethodName := ⟨RX1, "lay", "(III)V"⟩
abbrev cX1_lift : ByteArray := prog_3_method_17_code
def yX1_lift : MethodName := ⟨RX1, "lift", "(I)V"⟩
abbrev cX1_freeCell : ByteArray := prog_3_method_18_code
def yX1_freeCell : MethodName := ⟨RX1, "freeCell", "(I)I"⟩
abbrev cX1_lastThing : ByteArray := prog_3_method_19_code
def yX1_lastThing : MethodName := ⟨RX1, "lastThing", "(I)I"⟩
abbrev cX1_close : ByteArray := prog_3_method_20_code
def yX1_close : MethodName := ⟨RX1, "close", "(I)V"⟩
abbrev cX1_empties : ByteArray := prog_3_method_21_code
def yX1_empties : MethodName := ⟨RX1, "empties", "(I)I"⟩
abbrev cX1_kind : ByteArray := prog_3_method_22_code
def yX1_kind : MethodName := ⟨RX1, "kind", "(II)I"⟩
abbrev cX1_put : ByteArray := prog_3_method_23_code
def yX1_put : MethodName := ⟨RX1, "put", "(I)I"⟩
abbrev cX1_take : ByteArray := prog_3_method_24_code
def yX1_take : MethodName := ⟨RX1, "take", "(I)Z"⟩
abbrev cX1_sweep : ByteArray := prog_3_method_25_code
def yX1_sweep : MethodName := ⟨RX1, "sweep", "()I"⟩
abbrev cX1_pack : ByteArray := prog_3_method_26_code
def yX1_pack : MethodName := ⟨RX1, "pack", "(I)I"⟩
abbrev cX1_thingTold : ByteArray := prog_3_method_27_code
def yX1_thingTold : MethodName := ⟨RX1, "thingTold", "(II)I"⟩
abbrev cX1_told : ByteArray := prog_3_method_28_code
def yX1_told : MethodName := ⟨RX1, "told", "(II)I"⟩
abbrev cX1_wasted : ByteArray := prog_3_method_29_code
def yX1_wasted : MethodName := ⟨RX1, "wasted", "(I)I"⟩
abbrev cX1_trayTold : ByteArray := prog_3_method_30_code
def yX1_trayTold : MethodName := ⟨RX1, "trayTold", "(II)I"⟩
abbrev cX1_tray : ByteArray := prog_3_method_31_code
def yX1_tray : MethodName := ⟨RX1, "tray", "(II)I"⟩
abbrev cX1_cell : ByteArray := prog_3_method_32_code
def yX1_cell : MethodName := ⟨RX1, "cell", "(II)I"⟩
abbrev cX1_trays : ByteArray := prog_3_method_33_code
def yX1_trays : MethodName := ⟨RX1, "trays", "(I)I"⟩
abbrev cX1_full : ByteArray := prog_3_method_34_code
def yX1_full : MethodName := ⟨RX1, "full", "(I)I"⟩
abbrev cX1_lying : ByteArray := prog_3_method_35_code
def yX1_lying : MethodName := ⟨RX1, "lying", "(I)I"⟩
abbrev cX1_kindTold : ByteArray := prog_3_method_36_code
def yX1_kindTold : MethodName := ⟨RX1, "kindTold", "(II)I"⟩
abbrev cX1_about : ByteArray := prog_3_method_37_code
def yX1_about : MethodName := ⟨RX1, "about", "(II)I"⟩
abbrev cX1_counted : ByteArray := prog_3_method_38_code
def yX1_counted : MethodName := ⟨RX1, "counted", "(I)I"⟩
abbrev cX1_count : ByteArray := prog_3_method_39_code
def yX1_count : MethodName := ⟨RX1, "count", "(I)I"⟩
abbrev cX1_would : ByteArray := prog_3_method_40_code
def yX1_would : MethodName := ⟨RX1, "would", "(I)I"⟩
abbrev cX1_spares : ByteArray := prog_3_method_41_code
def yX1_spares : MethodName := ⟨RX1, "spares", "(I)I"⟩
abbrev cX1_room : ByteArray := prog_3_method_42_code
def yX1_room : MethodName := ⟨RX1, "room", "(I)I"⟩
abbrev cX1_worst : ByteArray := prog_3_method_43_code
def yX1_worst : MethodName := ⟨RX1, "worst", "()I"⟩
abbrev cX1_mean : ByteArray := prog_3_method_44_code
def yX1_mean : MethodName := ⟨RX1, "mean", "()D"⟩
abbrev cX1_digest : ByteArray := prog_3_method_45_code
def yX1_digest : MethodName := ⟨RX1, "digest", "()J"⟩
def RJ0 : String := "java/lang/String"
def TJ0 : u_T := fun k => match k with
  | _ => ("", "", "", false)
def tyJ0 : Nat → FieldType := fun k => match k with
  | _ => .int
abbrev wsJ00 : List Cond := u_ws RJ0 TJ0 0
theorem nmJ0 : ∀ a, a < 0 → ∀ b, b < 0 → a ≠ b → (TJ0 a).2.1 ≠ (TJ0 b).2.1 := by decide +kernel
theorem tyJ0_ok : ∀ k, k < 0 → parseFieldDescriptor (TJ0 k).2.2.1 = some (tyJ0 k) := by decide +kernel
def RL : String := "CellTraysLaw"
abbrev cL_kind : ByteArray := method_3_code
def yL_kind : MethodName := ⟨RL, "kind", "(LCellTrays;II[J)I"⟩
abbrev cL_put : ByteArray := method_4_code
def yL_put : MethodName := ⟨RL, "put", "(LCellTrays;I[J)I"⟩
abbrev cL_take : ByteArray := method_5_code
def yL_take : MethodName := ⟨RL, "take", "(LCellTrays;I[J)I"⟩
abbrev cL_pack : ByteArray := method_6_code
def yL_pack : MethodName := ⟨RL, "pack", "(LCellTrays;I[J)I"⟩
abbrev cL_told : ByteArray := method_7_code
def yL_told : MethodName := ⟨RL, "told", "(LCellTrays;II[J)I"⟩
abbrev cL_tray : ByteArray := method_8_code
def yL_tray : MethodName := ⟨RL, "tray", "(LCellTrays;II[J)I"⟩
abbrev cL_cell : ByteArray := method_9_code
def yL_cell : MethodName := ⟨RL, "cell", "(LCellTrays;II[J)I"⟩
abbrev cL_about : ByteArray := method_10_code
def yL_about : MethodName := ⟨RL, "about", "(LCellTrays;II[J)I"⟩
abbrev cL_count : ByteArray := method_11_code
def yL_count : MethodName := ⟨RL, "count", "(LCellTrays;I[J)I"⟩
abbrev cL_would : ByteArray := method_12_code
def yL_would : MethodName := ⟨RL, "would", "(LCellTrays;I[J)I"⟩
abbrev cL_spares : ByteArray := method_13_code
def yL_spares : MethodName := ⟨RL, "spares", "(LCellTrays;I[J)I"⟩
abbrev cL_room : ByteArray := method_14_code
def yL_room : MethodName := ⟨RL, "room", "(LCellTrays;I[J)I"⟩
abbrev cL_law : ByteArray := code
def yL_law : MethodName := ⟨RL, "law", "([I)Z"⟩
def wsX0_init : List Cond := .code yX0_init cX0_init 2 none :: ([.methodLink RX0 1 objectInit, .instanceMethod objectInit, .code objectInit ⟨#[0xb1]⟩ 1 none, .arrayClass .int, .fieldLink RX0 9 "CellTrays" "kindSize" "[I", .fieldLink RX0 13 "CellTrays" "kindStep" "[I", .fieldLink RX0 16 "CellTrays" "kindCells" "[I", .fieldLink RX0 19 "CellTrays" "kindRest" "[I", .fieldLink RX0 22 "CellTrays" "kindNextOffset" "[I", .fieldLink RX0 25 "CellTrays" "trayKind" "[I", .fieldLink RX0 28 "CellTrays" "trayOffset" "[I", .fieldLink RX0 31 "CellTrays" "trayThings" "[I", .fieldLink RX0 34 "CellTrays" "cellThing" "[I", .fieldLink RX0 37 "CellTrays" "thingKind" "[I", .fieldLink RX0 40 "CellTrays" "thingPlace" "[I", .fieldLink RX0 43 "CellTrays" "thingCell" "[I"] ++ wsX00)
def wsX0_kind : List Cond := .code yX0_kind cX0_kind 4 (some .int) :: ([.classLink RX0 46 "java/lang/IllegalArgumentException", .initialized "java/lang/IllegalArgumentException", .classLink RX0 59 "java/lang/IllegalStateException", .initialized "java/lang/IllegalStateException", .fieldLink RX0 55 "CellTrays" "kindCount" "I", .fieldLink RX0 9 "CellTrays" "kindSize" "[I", .fieldLink RX0 13 "CellTrays" "kindStep" "[I", .fieldLink RX0 16 "CellTrays" "kindCells" "[I", .fieldLink RX0 19 "CellTrays" "kindRest" "[I"] ++ wsX00 ++ (vx_atS RX0 50 "java/lang/IllegalArgumentException" ["java/lang/RuntimeException", "java/lang/Exception"]).filter goodWord ++ (vx_atS RX0 63 "java/lang/IllegalStateException" ["java/lang/RuntimeException", "java/lang/Exception"]).filter goodWord)
def wsX0_requireKind : List Cond := .code yX0_requireKind cX0_requireKind 2 none :: ([.classLink RX0 121 "java/lang/IndexOutOfBoundsException", .initialized "java/lang/IndexOutOfBoundsException", .fieldLink RX0 55 "CellTrays" "kindCount" "I"] ++ wsX00 ++ (vx_atS RX0 125 "java/lang/IndexOutOfBoundsException" ["java/lang/RuntimeException", "java/lang/Exception"]).filter goodWord)
def wsX0_isPartly : List Cond := .code yX0_isPartly cX0_isPartly 3 (some .boolean) :: ([.fieldLink RX0 25 "CellTrays" "trayKind" "[I", .fieldLink RX0 31 "CellTrays" "trayThings" "[I", .fieldLink RX0 16 "CellTrays" "kindCells" "[I"] ++ wsX00)
def wsX0_mostPartly : List Cond := .code yX0_mostPartly cX0_mostPartly 5 (some .int) :: ([.fieldLink RX0 31 "CellTrays" "trayThings" "[I", .methodLink RX0 180 yX0_isPartly, .instanceMethod yX0_isPartly, .selects RX0 yX0_isPartly yX0_isPartly, .initialized RX0, .code yX0_isPartly cX0_isPartly 3 (some .boolean), .fieldLink RX0 25 "CellTrays" "trayKind" "[I", .fieldLink RX0 16 "CellTrays" "kindCells" "[I"] ++ wsX00)
def wsX0_firstEmpty : List Cond := .code yX0_firstEmpty cX0_firstEmpty 3 (some .int) :: ([.fieldLink RX0 25 "CellTrays" "trayKind" "[I", .fieldLink RX0 31 "CellTrays" "trayThings" "[I"] ++ wsX00)
def wsX0_firstBare : List Cond := .code yX0_firstBare cX0_firstBare 2 (some .int) :: ([.fieldLink RX0 25 "CellTrays" "trayKind" "[I"] ++ wsX00)
def wsX0_placeFor : List Cond := .code yX0_placeFor cX0_placeFor 3 (some .int) :: ([.methodLink RX0 103 yX0_mostPartly, .instanceMethod yX0_mostPartly, .selects RX0 yX0_mostPartly yX0_mostPartly, .initialized RX0, .code yX0_mostPartly cX0_mostPartly 5 (some .int), .fieldLink RX0 31 "CellTrays" "trayThings" "[I", .methodLink RX0 180 yX0_isPartly, .instanceMethod yX0_isPartly, .selects RX0 yX0_isPartly yX0_isPartly, .code yX0_isPartly cX0_isPartly 3 (some .boolean), .fieldLink RX0 25 "CellTrays" "trayKind" "[I", .fieldLink RX0 16 "CellTrays" "kindCells" "[I", .methodLink RX0 91 yX0_firstEmpty, .instanceMethod yX0_firstEmpty, .selects RX0 yX0_firstEmpty yX0_firstEmpty, .code yX0_firstEmpty cX0_firstEmpty 3 (some .int), .methodLink RX0 177 yX0_firstBare, .instanceMethod yX0_firstBare, .selects RX0 yX0_firstBare yX0_firstBare, .code yX0_firstBare cX0_firstBare 2 (some .int)] ++ wsX00)
def wsX0_addTray : List Cond := .code yX0_addTray cX0_addTray 4 none :: ([.fieldLink RX0 25 "CellTrays" "trayKind" "[I", .fieldLink RX0 28 "CellTrays" "trayOffset" "[I", .fieldLink RX0 22 "CellTrays" "kindNextOffset" "[I", .fieldLink RX0 13 "CellTrays" "kindStep" "[I", .fieldLink RX0 19 "CellTrays" "kindRest" "[I"] ++ wsX00)
def wsX0_cellsAt : List Cond := .code yX0_cellsAt cX0_cellsAt 3 (some .int) :: ([.fieldLink RX0 25 "CellTrays" "trayKind" "[I", .fieldLink RX0 16 "CellTrays" "kindCells" "[I"] ++ wsX00)
def wsX0_layIn : List Cond := .code yX0_layIn cX0_layIn 5 none :: ([.fieldLink RX0 34 "CellTrays" "cellThing" "[I", .fieldLink RX0 31 "CellTrays" "trayThings" "[I", .fieldLink RX0 40 "CellTrays" "thingPlace" "[I", .fieldLink RX0 43 "CellTrays" "thingCell" "[I", .methodLink RX0 118 yX0_cellsAt, .instanceMethod yX0_cellsAt, .selects RX0 yX0_cellsAt yX0_cellsAt, .initialized RX0, .code yX0_cellsAt cX0_cellsAt 3 (some .int), .fieldLink RX0 25 "CellTrays" "trayKind" "[I", .fieldLink RX0 16 "CellTrays" "kindCells" "[I"] ++ wsX00)
def wsX0_put_r1 : List Cond := [Cond.classLink RX0 59 "java/lang/IllegalStateException", Cond.initialized "java/lang/IllegalStateException", Cond.fieldLink RX0 68 "CellTrays" "thingCount" "I", Cond.fieldLink RX0 25 "CellTrays" "trayKind" "[I", Cond.fieldLink RX0 37 "CellTrays" "thingKind" "[I", Cond.methodLink RX0 64 yX0_requireKind, Cond.instanceMethod yX0_requireKind, Cond.selects RX0 yX0_requireKind yX0_requireKind, Cond.initialized RX0, Cond.code yX0_requireKind cX0_requireKind 2 none, Cond.classLink RX0 121 "java/lang/IndexOutOfBoundsException", Cond.initialized "java/lang/IndexOutOfBoundsException", Cond.fieldLink RX0 55 "CellTrays" "kindCount" "I", Cond.methodLink RX0 73 yX0_placeFor, Cond.instanceMethod yX0_placeFor, Cond.selects RX0 yX0_placeFor yX0_placeFor, Cond.code yX0_placeFor cX0_placeFor 3 (some .int), Cond.methodLink RX0 103 yX0_mostPartly, Cond.instanceMethod yX0_mostPartly, Cond.selects RX0 yX0_mostPartly yX0_mostPartly, Cond.code yX0_mostPartly cX0_mostPartly 5 (some .int), Cond.fieldLink RX0 31 "CellTrays" "trayThings" "[I", Cond.methodLink RX0 180 yX0_isPartly, Cond.instanceMethod yX0_isPartly]
def wsX0_put_r2 : List Cond := [Cond.selects RX0 yX0_isPartly yX0_isPartly, Cond.code yX0_isPartly cX0_isPartly 3 (some .boolean), Cond.fieldLink RX0 16 "CellTrays" "kindCells" "[I", Cond.methodLink RX0 91 yX0_firstEmpty, Cond.instanceMethod yX0_firstEmpty, Cond.selects RX0 yX0_firstEmpty yX0_firstEmpty, Cond.code yX0_firstEmpty cX0_firstEmpty 3 (some .int), Cond.methodLink RX0 177 yX0_firstBare, Cond.instanceMethod yX0_firstBare, Cond.selects RX0 yX0_firstBare yX0_firstBare, Cond.code yX0_firstBare cX0_firstBare 2 (some .int), Cond.methodLink RX0 79 yX0_addTray, Cond.instanceMethod yX0_addTray, Cond.selects RX0 yX0_addTray yX0_addTray, Cond.code yX0_addTray cX0_addTray 4 none, Cond.fieldLink RX0 28 "CellTrays" "trayOffset" "[I", Cond.fieldLink RX0 22 "CellTrays" "kindNextOffset" "[I", Cond.fieldLink RX0 13 "CellTrays" "kindStep" "[I", Cond.fieldLink RX0 19 "CellTrays" "kindRest" "[I", Cond.methodLink RX0 83 yX0_layIn, Cond.instanceMethod yX0_layIn, Cond.selects RX0 yX0_layIn yX0_layIn, Cond.code yX0_layIn cX0_layIn 5 none, Cond.fieldLink RX0 34 "CellTrays" "cellThing" "[I"]
def wsX0_put_r3 : List Cond := [Cond.fieldLink RX0 40 "CellTrays" "thingPlace" "[I", Cond.fieldLink RX0 43 "CellTrays" "thingCell" "[I", Cond.methodLink RX0 118 yX0_cellsAt, Cond.instanceMethod yX0_cellsAt, Cond.selects RX0 yX0_cellsAt yX0_cellsAt, Cond.code yX0_cellsAt cX0_cellsAt 3 (some .int)]
def wsX0_put : List Cond := .code yX0_put cX0_put 4 (some .int) :: ((wsX0_put_r1 ++ (wsX0_put_r2 ++ wsX0_put_r3)) ++ wsX00 ++ (vx_atS RX0 63 "java/lang/IllegalStateException" ["java/lang/RuntimeException", "java/lang/Exception"]).filter goodWord ++ (vx_atS RX0 125 "java/lang/IndexOutOfBoundsException" ["java/lang/RuntimeException", "java/lang/Exception"]).filter goodWord)
def wsX0_requireThing : List Cond := .code yX0_requireThing cX0_requireThing 2 none :: ([.classLink RX0 121 "java/lang/IndexOutOfBoundsException", .initialized "java/lang/IndexOutOfBoundsException", .fieldLink RX0 68 "CellTrays" "thingCount" "I"] ++ wsX00 ++ (vx_atS RX0 125 "java/lang/IndexOutOfBoundsException" ["java/lang/RuntimeException", "java/lang/Exception"]).filter goodWord)
def wsX0_liftOut : List Cond := .code yX0_liftOut cX0_liftOut 3 none :: ([.fieldLink RX0 40 "CellTrays" "thingPlace" "[I", .fieldLink RX0 34 "CellTrays" "cellThing" "[I", .fieldLink RX0 43 "CellTrays" "thingCell" "[I", .fieldLink RX0 31 "CellTrays" "trayThings" "[I"] ++ wsX00)
def wsX0_dropTray : List Cond := .code yX0_dropTray cX0_dropTray 2 none :: ([.fieldLink RX0 25 "CellTrays" "trayKind" "[I", .fieldLink RX0 146 "CellTrays" "goneCount" "I"] ++ wsX00)
def wsX0_take_r1 : List Cond := [Cond.classLink RX0 59 "java/lang/IllegalStateException", Cond.initialized "java/lang/IllegalStateException", Cond.fieldLink RX0 40 "CellTrays" "thingPlace" "[I", Cond.fieldLink RX0 37 "CellTrays" "thingKind" "[I", Cond.fieldLink RX0 31 "CellTrays" "trayThings" "[I", Cond.methodLink RX0 86 yX0_requireThing, Cond.instanceMethod yX0_requireThing, Cond.selects RX0 yX0_requireThing yX0_requireThing, Cond.initialized RX0, Cond.code yX0_requireThing cX0_requireThing 2 none, Cond.classLink RX0 121 "java/lang/IndexOutOfBoundsException", Cond.initialized "java/lang/IndexOutOfBoundsException", Cond.fieldLink RX0 68 "CellTrays" "thingCount" "I", Cond.methodLink RX0 91 yX0_firstEmpty, Cond.instanceMethod yX0_firstEmpty, Cond.selects RX0 yX0_firstEmpty yX0_firstEmpty, Cond.code yX0_firstEmpty cX0_firstEmpty 3 (some .int), Cond.fieldLink RX0 25 "CellTrays" "trayKind" "[I", Cond.methodLink RX0 94 yX0_liftOut, Cond.instanceMethod yX0_liftOut, Cond.selects RX0 yX0_liftOut yX0_liftOut, Cond.code yX0_liftOut cX0_liftOut 3 none, Cond.fieldLink RX0 34 "CellTrays" "cellThing" "[I", Cond.fieldLink RX0 43 "CellTrays" "thingCell" "[I"]
def wsX0_take_r2 : List Cond := [Cond.methodLink RX0 97 yX0_dropTray, Cond.instanceMethod yX0_dropTray, Cond.selects RX0 yX0_dropTray yX0_dropTray, Cond.code yX0_dropTray cX0_dropTray 2 none, Cond.fieldLink RX0 146 "CellTrays" "goneCount" "I"]
def wsX0_take : List Cond := .code yX0_take cX0_take 5 (some .boolean) :: ((wsX0_take_r1 ++ wsX0_take_r2) ++ wsX00 ++ (vx_atS RX0 63 "java/lang/IllegalStateException" ["java/lang/RuntimeException", "java/lang/Exception"]).filter goodWord ++ (vx_atS RX0 125 "java/lang/IndexOutOfBoundsException" ["java/lang/RuntimeException", "java/lang/Exception"]).filter goodWord)
def wsX0_sweep : List Cond := .code yX0_sweep cX0_sweep 3 (some .int) :: ([.fieldLink RX0 25 "CellTrays" "trayKind" "[I", .fieldLink RX0 31 "CellTrays" "trayThings" "[I", .methodLink RX0 97 yX0_dropTray, .instanceMethod yX0_dropTray, .selects RX0 yX0_dropTray yX0_dropTray, .initialized RX0, .code yX0_dropTray cX0_dropTray 2 none, .fieldLink RX0 146 "CellTrays" "goneCount" "I"] ++ wsX00)
def wsX0_leastPartly : List Cond := .code yX0_leastPartly cX0_leastPartly 5 (some .int) :: ([.fieldLink RX0 31 "CellTrays" "trayThings" "[I", .methodLink RX0 180 yX0_isPartly, .instanceMethod yX0_isPartly, .selects RX0 yX0_isPartly yX0_isPartly, .initialized RX0, .code yX0_isPartly cX0_isPartly 3 (some .boolean), .fieldLink RX0 25 "CellTrays" "trayKind" "[I", .fieldLink RX0 16 "CellTrays" "kindCells" "[I"] ++ wsX00)
def wsX0_moveLast : List Cond := .code yX0_moveLast cX0_moveLast 5 none :: ([.fieldLink RX0 34 "CellTrays" "cellThing" "[I", .methodLink RX0 118 yX0_cellsAt, .instanceMethod yX0_cellsAt, .selects RX0 yX0_cellsAt yX0_cellsAt, .initialized RX0, .code yX0_cellsAt cX0_cellsAt 3 (some .int), .fieldLink RX0 25 "CellTrays" "trayKind" "[I", .fieldLink RX0 16 "CellTrays" "kindCells" "[I", .methodLink RX0 94 yX0_liftOut, .instanceMethod yX0_liftOut, .selects RX0 yX0_liftOut yX0_liftOut, .code yX0_liftOut cX0_liftOut 3 none, .fieldLink RX0 40 "CellTrays" "thingPlace" "[I", .fieldLink RX0 43 "CellTrays" "thingCell" "[I", .fieldLink RX0 31 "CellTrays" "trayThings" "[I", .methodLink RX0 83 yX0_layIn, .instanceMethod yX0_layIn, .selects RX0 yX0_layIn yX0_layIn, .code yX0_layIn cX0_layIn 5 none] ++ wsX00)
def wsX0_pack_r1 : List Cond := [Cond.fieldLink RX0 109 "CellTrays" "movedCount" "I", Cond.methodLink RX0 64 yX0_requireKind, Cond.instanceMethod yX0_requireKind, Cond.selects RX0 yX0_requireKind yX0_requireKind, Cond.initialized RX0, Cond.code yX0_requireKind cX0_requireKind 2 none, Cond.classLink RX0 121 "java/lang/IndexOutOfBoundsException", Cond.initialized "java/lang/IndexOutOfBoundsException", Cond.fieldLink RX0 55 "CellTrays" "kindCount" "I", Cond.methodLink RX0 100 yX0_leastPartly, Cond.instanceMethod yX0_leastPartly, Cond.selects RX0 yX0_leastPartly yX0_leastPartly, Cond.code yX0_leastPartly cX0_leastPartly 5 (some .int), Cond.fieldLink RX0 31 "CellTrays" "trayThings" "[I", Cond.methodLink RX0 180 yX0_isPartly, Cond.instanceMethod yX0_isPartly, Cond.selects RX0 yX0_isPartly yX0_isPartly, Cond.code yX0_isPartly cX0_isPartly 3 (some .boolean), Cond.fieldLink RX0 25 "CellTrays" "trayKind" "[I", Cond.fieldLink RX0 16 "CellTrays" "kindCells" "[I", Cond.methodLink RX0 103 yX0_mostPartly, Cond.instanceMethod yX0_mostPartly, Cond.selects RX0 yX0_mostPartly yX0_mostPartly, Cond.code yX0_mostPartly cX0_mostPartly 5 (some .int)]
def wsX0_pack_r2 : List Cond := [Cond.methodLink RX0 106 yX0_moveLast, Cond.instanceMethod yX0_moveLast, Cond.selects RX0 yX0_moveLast yX0_moveLast, Cond.code yX0_moveLast cX0_moveLast 5 none, Cond.fieldLink RX0 34 "CellTrays" "cellThing" "[I", Cond.methodLink RX0 118 yX0_cellsAt, Cond.instanceMethod yX0_cellsAt, Cond.selects RX0 yX0_cellsAt yX0_cellsAt, Cond.code yX0_cellsAt cX0_cellsAt 3 (some .int), Cond.methodLink RX0 94 yX0_liftOut, Cond.instanceMethod yX0_liftOut, Cond.selects RX0 yX0_liftOut yX0_liftOut, Cond.code yX0_liftOut cX0_liftOut 3 none, Cond.fieldLink RX0 40 "CellTrays" "thingPlace" "[I", Cond.fieldLink RX0 43 "CellTrays" "thingCell" "[I", Cond.methodLink RX0 83 yX0_layIn, Cond.instanceMethod yX0_layIn, Cond.selects RX0 yX0_layIn yX0_layIn, Cond.code yX0_layIn cX0_layIn 5 none]
def wsX0_pack : List Cond := .code yX0_pack cX0_pack 5 (some .int) :: ((wsX0_pack_r1 ++ wsX0_pack_r2) ++ wsX00 ++ (vx_atS RX0 125 "java/lang/IndexOutOfBoundsException" ["java/lang/RuntimeException", "java/lang/Exception"]).filter goodWord)
def wsX0_requireWhat : List Cond := .code yX0_requireWhat cX0_requireWhat 3 none :: ([.classLink RX0 121 "java/lang/IndexOutOfBoundsException", .initialized "java/lang/IndexOutOfBoundsException"] ++ (vx_atS RX0 125 "java/lang/IndexOutOfBoundsException" ["java/lang/RuntimeException", "java/lang/Exception"]).filter goodWord)
def wsX0_told : List Cond := .code yX0_told cX0_told 6 (some .int) :: ([.fieldLink RX0 37 "CellTrays" "thingKind" "[I", .fieldLink RX0 40 "CellTrays" "thingPlace" "[I", .fieldLink RX0 43 "CellTrays" "thingCell" "[I", .fieldLink RX0 28 "CellTrays" "trayOffset" "[I", .fieldLink RX0 9 "CellTrays" "kindSize" "[I", .methodLink RX0 86 yX0_requireThing, .instanceMethod yX0_requireThing, .selects RX0 yX0_requireThing yX0_requireThing, .initialized RX0, .code yX0_requireThing cX0_requireThing 2 none, .classLink RX0 121 "java/lang/IndexOutOfBoundsException", .initialized "java/lang/IndexOutOfBoundsException", .fieldLink RX0 68 "CellTrays" "thingCount" "I", .methodLink RX0 112 yX0_requireWhat, .instanceMethod yX0_requireWhat, .selects RX0 yX0_requireWhat yX0_requireWhat, .code yX0_requireWhat cX0_requireWhat 3 none] ++ wsX00 ++ (vx_atS RX0 125 "java/lang/IndexOutOfBoundsException" ["java/lang/RuntimeException", "java/lang/Exception"]).filter goodWord)
def wsX0_requirePlace : List Cond := .code yX0_requirePlace cX0_requirePlace 2 none :: ([.classLink RX0 121 "java/lang/IndexOutOfBoundsException", .initialized "java/lang/IndexOutOfBoundsException"] ++ (vx_atS RX0 125 "java/lang/IndexOutOfBoundsException" ["java/lang/RuntimeException", "java/lang/Exception"]).filter goodWord)
def wsX0_tray : List Cond := .code yX0_tray cX0_tray 4 (some .int) :: ([.fieldLink RX0 25 "CellTrays" "trayKind" "[I", .fieldLink RX0 28 "CellTrays" "trayOffset" "[I", .fieldLink RX0 16 "CellTrays" "kindCells" "[I", .fieldLink RX0 31 "CellTrays" "trayThings" "[I", .fieldLink RX0 9 "CellTrays" "kindSize" "[I", .methodLink RX0 115 yX0_requirePlace, .instanceMethod yX0_requirePlace, .selects RX0 yX0_requirePlace yX0_requirePlace, .initialized RX0, .code yX0_requirePlace cX0_requirePlace 2 none, .classLink RX0 121 "java/lang/IndexOutOfBoundsException", .initialized "java/lang/IndexOutOfBoundsException", .methodLink RX0 112 yX0_requireWhat, .instanceMethod yX0_requireWhat, .selects RX0 yX0_requireWhat yX0_requireWhat, .code yX0_requireWhat cX0_requireWhat 3 none] ++ wsX00 ++ (vx_atS RX0 125 "java/lang/IndexOutOfBoundsException" ["java/lang/RuntimeException", "java/lang/Exception"]).filter goodWord)
def wsX0_cell : List Cond := .code yX0_cell cX0_cell 3 (some .int) :: ([.classLink RX0 121 "java/lang/IndexOutOfBoundsException", .initialized "java/lang/IndexOutOfBoundsException", .fieldLink RX0 34 "CellTrays" "cellThing" "[I", .methodLink RX0 115 yX0_requirePlace, .instanceMethod yX0_requirePlace, .selects RX0 yX0_requirePlace yX0_requirePlace, .initialized RX0, .code yX0_requirePlace cX0_requirePlace 2 none, .methodLink RX0 118 yX0_cellsAt, .instanceMethod yX0_cellsAt, .selects RX0 yX0_cellsAt yX0_cellsAt, .code yX0_cellsAt cX0_cellsAt 3 (some .int), .fieldLink RX0 25 "CellTrays" "trayKind" "[I", .fieldLink RX0 16 "CellTrays" "kindCells" "[I"] ++ wsX00 ++ (vx_atS RX0 125 "java/lang/IndexOutOfBoundsException" ["java/lang/RuntimeException", "java/lang/Exception"]).filter goodWord)
def wsX0_traysOf : List Cond := .code yX0_traysOf cX0_traysOf 4 (some .int) :: ([.fieldLink RX0 25 "CellTrays" "trayKind" "[I"] ++ wsX00)
def wsX0_traysHolding : List Cond := .code yX0_traysHolding cX0_traysHolding 5 (some .int) :: ([.fieldLink RX0 25 "CellTrays" "trayKind" "[I", .fieldLink RX0 31 "CellTrays" "trayThings" "[I"] ++ wsX00)
def wsX0_thingsOf : List Cond := .code yX0_thingsOf cX0_thingsOf 4 (some .int) :: ([.fieldLink RX0 25 "CellTrays" "trayKind" "[I", .fieldLink RX0 31 "CellTrays" "trayThings" "[I"] ++ wsX00)
def wsX0_freeCellsOf : List Cond := .code yX0_freeCellsOf cX0_freeCellsOf 2 (some .int) :: ([.fieldLink RX0 16 "CellTrays" "kindCells" "[I", .methodLink RX0 126 yX0_traysOf, .instanceMethod yX0_traysOf, .selects RX0 yX0_traysOf yX0_traysOf, .initialized RX0, .code yX0_traysOf cX0_traysOf 4 (some .int), .fieldLink RX0 25 "CellTrays" "trayKind" "[I", .methodLink RX0 133 yX0_thingsOf, .instanceMethod yX0_thingsOf, .selects RX0 yX0_thingsOf yX0_thingsOf, .code yX0_thingsOf cX0_thingsOf 4 (some .int), .fieldLink RX0 31 "CellTrays" "trayThings" "[I"] ++ wsX00)
def wsX0_about_r1 : List Cond := [Cond.fieldLink RX0 9 "CellTrays" "kindSize" "[I", Cond.fieldLink RX0 13 "CellTrays" "kindStep" "[I", Cond.fieldLink RX0 16 "CellTrays" "kindCells" "[I", Cond.fieldLink RX0 22 "CellTrays" "kindNextOffset" "[I", Cond.methodLink RX0 64 yX0_requireKind, Cond.instanceMethod yX0_requireKind, Cond.selects RX0 yX0_requireKind yX0_requireKind, Cond.initialized RX0, Cond.code yX0_requireKind cX0_requireKind 2 none, Cond.classLink RX0 121 "java/lang/IndexOutOfBoundsException", Cond.initialized "java/lang/IndexOutOfBoundsException", Cond.fieldLink RX0 55 "CellTrays" "kindCount" "I", Cond.methodLink RX0 112 yX0_requireWhat, Cond.instanceMethod yX0_requireWhat, Cond.selects RX0 yX0_requireWhat yX0_requireWhat, Cond.code yX0_requireWhat cX0_requireWhat 3 none, Cond.methodLink RX0 126 yX0_traysOf, Cond.instanceMethod yX0_traysOf, Cond.selects RX0 yX0_traysOf yX0_traysOf, Cond.code yX0_traysOf cX0_traysOf 4 (some .int), Cond.fieldLink RX0 25 "CellTrays" "trayKind" "[I", Cond.methodLink RX0 129 yX0_traysHolding, Cond.instanceMethod yX0_traysHolding, Cond.selects RX0 yX0_traysHolding yX0_traysHolding]
def wsX0_about_r2 : List Cond := [Cond.code yX0_traysHolding cX0_traysHolding 5 (some .int), Cond.fieldLink RX0 31 "CellTrays" "trayThings" "[I", Cond.methodLink RX0 133 yX0_thingsOf, Cond.instanceMethod yX0_thingsOf, Cond.selects RX0 yX0_thingsOf yX0_thingsOf, Cond.code yX0_thingsOf cX0_thingsOf 4 (some .int), Cond.methodLink RX0 136 yX0_freeCellsOf, Cond.instanceMethod yX0_freeCellsOf, Cond.selects RX0 yX0_freeCellsOf yX0_freeCellsOf, Cond.code yX0_freeCellsOf cX0_freeCellsOf 2 (some .int)]
def wsX0_about : List Cond := .code yX0_about cX0_about 3 (some .int) :: ((wsX0_about_r1 ++ wsX0_about_r2) ++ wsX00 ++ (vx_atS RX0 125 "java/lang/IndexOutOfBoundsException" ["java/lang/RuntimeException", "java/lang/Exception"]).filter goodWord)
def wsX0_thingsThere : List Cond := .code yX0_thingsThere cX0_thingsThere 3 (some .int) :: ([.fieldLink RX0 55 "CellTrays" "kindCount" "I", .methodLink RX0 133 yX0_thingsOf, .instanceMethod yX0_thingsOf, .selects RX0 yX0_thingsOf yX0_thingsOf, .initialized RX0, .code yX0_thingsOf cX0_thingsOf 4 (some .int), .fieldLink RX0 25 "CellTrays" "trayKind" "[I", .fieldLink RX0 31 "CellTrays" "trayThings" "[I"] ++ wsX00)
def wsX0_wastedBy : List Cond := .code yX0_wastedBy cX0_wastedBy 2 (some .int) :: ([.fieldLink RX0 9 "CellTrays" "kindSize" "[I", .methodLink RX0 126 yX0_traysOf, .instanceMethod yX0_traysOf, .selects RX0 yX0_traysOf yX0_traysOf, .initialized RX0, .code yX0_traysOf cX0_traysOf 4 (some .int), .fieldLink RX0 25 "CellTrays" "trayKind" "[I", .methodLink RX0 133 yX0_thingsOf, .instanceMethod yX0_thingsOf, .selects RX0 yX0_thingsOf yX0_thingsOf, .code yX0_thingsOf cX0_thingsOf 4 (some .int), .fieldLink RX0 31 "CellTrays" "trayThings" "[I"] ++ wsX00)
def wsX0_wastedInAll : List Cond := .code yX0_wastedInAll cX0_wastedInAll 3 (some .int) :: ([.fieldLink RX0 55 "CellTrays" "kindCount" "I", .methodLink RX0 149 yX0_wastedBy, .instanceMethod yX0_wastedBy, .selects RX0 yX0_wastedBy yX0_wastedBy, .initialized RX0, .code yX0_wastedBy cX0_wastedBy 2 (some .int), .fieldLink RX0 9 "CellTrays" "kindSize" "[I", .methodLink RX0 126 yX0_traysOf, .instanceMethod yX0_traysOf, .selects RX0 yX0_traysOf yX0_traysOf, .code yX0_traysOf cX0_traysOf 4 (some .int), .fieldLink RX0 25 "CellTrays" "trayKind" "[I", .methodLink RX0 133 yX0_thingsOf, .instanceMethod yX0_thingsOf, .selects RX0 yX0_thingsOf yX0_thingsOf, .code yX0_thingsOf cX0_thingsOf 4 (some .int), .fieldLink RX0 31 "CellTrays" "trayThings" "[I"] ++ wsX00)
def wsX0_count_r1 : List Cond := [Cond.fieldLink RX0 55 "CellTrays" "kindCount" "I", Cond.fieldLink RX0 68 "CellTrays" "thingCount" "I", Cond.fieldLink RX0 146 "CellTrays" "goneCount" "I", Cond.fieldLink RX0 109 "CellTrays" "movedCount" "I", Cond.methodLink RX0 112 yX0_requireWhat, Cond.instanceMethod yX0_requireWhat, Cond.selects RX0 yX0_requireWhat yX0_requireWhat, Cond.initialized RX0, Cond.code yX0_requireWhat cX0_requireWhat 3 none, Cond.classLink RX0 121 "java/lang/IndexOutOfBoundsException", Cond.initialized "java/lang/IndexOutOfBoundsException", Cond.methodLink RX0 126 yX0_traysOf, Cond.instanceMethod yX0_traysOf, Cond.selects RX0 yX0_traysOf yX0_traysOf, Cond.code yX0_traysOf cX0_traysOf 4 (some .int), Cond.fieldLink RX0 25 "CellTrays" "trayKind" "[I", Cond.methodLink RX0 139 yX0_thingsThere, Cond.instanceMethod yX0_thingsThere, Cond.selects RX0 yX0_thingsThere yX0_thingsThere, Cond.code yX0_thingsThere cX0_thingsThere 3 (some .int), Cond.methodLink RX0 133 yX0_thingsOf, Cond.instanceMethod yX0_thingsOf, Cond.selects RX0 yX0_thingsOf yX0_thingsOf, Cond.code yX0_thingsOf cX0_thingsOf 4 (some .int)]
def wsX0_count_r2 : List Cond := [Cond.fieldLink RX0 31 "CellTrays" "trayThings" "[I", Cond.methodLink RX0 143 yX0_wastedInAll, Cond.instanceMethod yX0_wastedInAll, Cond.selects RX0 yX0_wastedInAll yX0_wastedInAll, Cond.code yX0_wastedInAll cX0_wastedInAll 3 (some .int), Cond.methodLink RX0 149 yX0_wastedBy, Cond.instanceMethod yX0_wastedBy, Cond.selects RX0 yX0_wastedBy yX0_wastedBy, Cond.code yX0_wastedBy cX0_wastedBy 2 (some .int), Cond.fieldLink RX0 9 "CellTrays" "kindSize" "[I"]
def wsX0_count : List Cond := .code yX0_count cX0_count 2 (some .int) :: ((wsX0_count_r1 ++ wsX0_count_r2) ++ wsX00 ++ (vx_atS RX0 125 "java/lang/IndexOutOfBoundsException" ["java/lang/RuntimeException", "java/lang/Exception"]).filter goodWord)
def wsX0_would_r1 : List Cond := [Cond.methodLink RX0 64 yX0_requireKind, Cond.instanceMethod yX0_requireKind, Cond.selects RX0 yX0_requireKind yX0_requireKind, Cond.initialized RX0, Cond.code yX0_requireKind cX0_requireKind 2 none, Cond.classLink RX0 121 "java/lang/IndexOutOfBoundsException", Cond.initialized "java/lang/IndexOutOfBoundsException", Cond.fieldLink RX0 55 "CellTrays" "kindCount" "I", Cond.methodLink RX0 73 yX0_placeFor, Cond.instanceMethod yX0_placeFor, Cond.selects RX0 yX0_placeFor yX0_placeFor, Cond.code yX0_placeFor cX0_placeFor 3 (some .int), Cond.methodLink RX0 103 yX0_mostPartly, Cond.instanceMethod yX0_mostPartly, Cond.selects RX0 yX0_mostPartly yX0_mostPartly, Cond.code yX0_mostPartly cX0_mostPartly 5 (some .int), Cond.fieldLink RX0 31 "CellTrays" "trayThings" "[I", Cond.methodLink RX0 180 yX0_isPartly, Cond.instanceMethod yX0_isPartly, Cond.selects RX0 yX0_isPartly yX0_isPartly, Cond.code yX0_isPartly cX0_isPartly 3 (some .boolean), Cond.fieldLink RX0 25 "CellTrays" "trayKind" "[I", Cond.fieldLink RX0 16 "CellTrays" "kindCells" "[I", Cond.methodLink RX0 91 yX0_firstEmpty]
def wsX0_would_r2 : List Cond := [Cond.instanceMethod yX0_firstEmpty, Cond.selects RX0 yX0_firstEmpty yX0_firstEmpty, Cond.code yX0_firstEmpty cX0_firstEmpty 3 (some .int), Cond.methodLink RX0 177 yX0_firstBare, Cond.instanceMethod yX0_firstBare, Cond.selects RX0 yX0_firstBare yX0_firstBare, Cond.code yX0_firstBare cX0_firstBare 2 (some .int)]
def wsX0_would : List Cond := .code yX0_would cX0_would 2 (some .int) :: ((wsX0_would_r1 ++ wsX0_would_r2) ++ wsX00 ++ (vx_atS RX0 125 "java/lang/IndexOutOfBoundsException" ["java/lang/RuntimeException", "java/lang/Exception"]).filter goodWord)
def wsX0_spares : List Cond := .code yX0_spares cX0_spares 5 (some .int) :: ([.fieldLink RX0 25 "CellTrays" "trayKind" "[I", .fieldLink RX0 16 "CellTrays" "kindCells" "[I", .methodLink RX0 64 yX0_requireKind, .instanceMethod yX0_requireKind, .selects RX0 yX0_requireKind yX0_requireKind, .initialized RX0, .code yX0_requireKind cX0_requireKind 2 none, .classLink RX0 121 "java/lang/IndexOutOfBoundsException", .initialized "java/lang/IndexOutOfBoundsException", .fieldLink RX0 55 "CellTrays" "kindCount" "I", .methodLink RX0 133 yX0_thingsOf, .instanceMethod yX0_thingsOf, .selects RX0 yX0_thingsOf yX0_thingsOf, .code yX0_thingsOf cX0_thingsOf 4 (some .int), .fieldLink RX0 31 "CellTrays" "trayThings" "[I"] ++ wsX00 ++ (vx_atS RX0 125 "java/lang/IndexOutOfBoundsException" ["java/lang/RuntimeException", "java/lang/Exception"]).filter goodWord)
def wsX0_room : List Cond := .code yX0_room cX0_room 2 (some .int) :: ([.fieldLink RX0 16 "CellTrays" "kindCells" "[I", .methodLink RX0 64 yX0_requireKind, .instanceMethod yX0_requireKind, .selects RX0 yX0_requireKind yX0_requireKind, .initialized RX0, .code yX0_requireKind cX0_requireKind 2 none, .classLink RX0 121 "java/lang/IndexOutOfBoundsException", .initialized "java/lang/IndexOutOfBoundsException", .fieldLink RX0 55 "CellTrays" "kindCount" "I", .methodLink RX0 136 yX0_freeCellsOf, .instanceMethod yX0_freeCellsOf, .selects RX0 yX0_freeCellsOf yX0_freeCellsOf, .code yX0_freeCellsOf cX0_freeCellsOf 2 (some .int), .methodLink RX0 126 yX0_traysOf, .instanceMethod yX0_traysOf, .selects RX0 yX0_traysOf yX0_traysOf, .code yX0_traysOf cX0_traysOf 4 (some .int), .fieldLink RX0 25 "CellTrays" "trayKind" "[I", .methodLink RX0 133 yX0_thingsOf, .instanceMethod yX0_thingsOf, .selects RX0 yX0_thingsOf yX0_thingsOf, .code yX0_thingsOf cX0_thingsOf 4 (some .int), .fieldLink RX0 31 "CellTrays" "trayThings" "[I"] ++ wsX00 ++ (vx_atS RX0 125 "java/lang/IndexOutOfBoundsException" ["java/lang/RuntimeException", "java/lang/Exception"]).filter goodWord)
def wsX0_worst : List Cond := .code yX0_worst cX0_worst 5 (some .int) :: ([.fieldLink RX0 55 "CellTrays" "kindCount" "I", .methodLink RX0 149 yX0_wastedBy, .instanceMethod yX0_wastedBy, .selects RX0 yX0_wastedBy yX0_wastedBy, .initialized RX0, .code yX0_wastedBy cX0_wastedBy 2 (some .int), .fieldLink RX0 9 "CellTrays" "kindSize" "[I", .methodLink RX0 126 yX0_traysOf, .instanceMethod yX0_traysOf, .selects RX0 yX0_traysOf yX0_traysOf, .code yX0_traysOf cX0_traysOf 4 (some .int), .fieldLink RX0 25 "CellTrays" "trayKind" "[I", .methodLink RX0 133 yX0_thingsOf, .instanceMethod yX0_thingsOf, .selects RX0 yX0_thingsOf yX0_thingsOf, .code yX0_thingsOf cX0_thingsOf 4 (some .int), .fieldLink RX0 31 "CellTrays" "trayThings" "[I"] ++ wsX00)
def wsX0_mean : List Cond := .code yX0_mean cX0_mean 2 (some .double) :: ([.methodLink RX0 126 yX0_traysOf, .instanceMethod yX0_traysOf, .selects RX0 yX0_traysOf yX0_traysOf, .initialized RX0, .code yX0_traysOf cX0_traysOf 4 (some .int), .fieldLink RX0 25 "CellTrays" "trayKind" "[I", .methodLink RX0 139 yX0_thingsThere, .instanceMethod yX0_thingsThere, .selects RX0 yX0_thingsThere yX0_thingsThere, .code yX0_thingsThere cX0_thingsThere 3 (some .int), .fieldLink RX0 55 "CellTrays" "kindCount" "I", .methodLink RX0 133 yX0_thingsOf, .instanceMethod yX0_thingsOf, .selects RX0 yX0_thingsOf yX0_thingsOf, .code yX0_thingsOf cX0_thingsOf 4 (some .int), .fieldLink RX0 31 "CellTrays" "trayThings" "[I"] ++ wsX00)
def wsX0_digestPlace_r1 : List Cond := [Cond.constantLong RX0 154 (31), Cond.fieldLink RX0 34 "CellTrays" "cellThing" "[I", Cond.methodLink RX0 166 yX0_tray, Cond.instanceMethod yX0_tray, Cond.selects RX0 yX0_tray yX0_tray, Cond.initialized RX0, Cond.code yX0_tray cX0_tray 4 (some .int), Cond.fieldLink RX0 25 "CellTrays" "trayKind" "[I", Cond.fieldLink RX0 28 "CellTrays" "trayOffset" "[I", Cond.fieldLink RX0 16 "CellTrays" "kindCells" "[I", Cond.fieldLink RX0 31 "CellTrays" "trayThings" "[I", Cond.fieldLink RX0 9 "CellTrays" "kindSize" "[I", Cond.methodLink RX0 115 yX0_requirePlace, Cond.instanceMethod yX0_requirePlace, Cond.selects RX0 yX0_requirePlace yX0_requirePlace, Cond.code yX0_requirePlace cX0_requirePlace 2 none, Cond.classLink RX0 121 "java/lang/IndexOutOfBoundsException", Cond.initialized "java/lang/IndexOutOfBoundsException", Cond.methodLink RX0 112 yX0_requireWhat, Cond.instanceMethod yX0_requireWhat, Cond.selects RX0 yX0_requireWhat yX0_requireWhat, Cond.code yX0_requireWhat cX0_requireWhat 3 none, Cond.methodLink RX0 118 yX0_cellsAt, Cond.instanceMethod yX0_cellsAt]
def wsX0_digestPlace_r2 : List Cond := [Cond.selects RX0 yX0_cellsAt yX0_cellsAt, Cond.code yX0_cellsAt cX0_cellsAt 3 (some .int)]
def wsX0_digestPlace : List Cond := .code yX0_digestPlace cX0_digestPlace 8 (some .long) :: ((wsX0_digestPlace_r1 ++ wsX0_digestPlace_r2) ++ wsX00 ++ (vx_atS RX0 125 "java/lang/IndexOutOfBoundsException" ["java/lang/RuntimeException", "java/lang/Exception"]).filter goodWord)
def wsX0_digest_r1 : List Cond := [Cond.constantLong RX0 152 (1381), Cond.constantLong RX0 154 (31), Cond.fieldLink RX0 55 "CellTrays" "kindCount" "I", Cond.methodLink RX0 156 yX0_count, Cond.instanceMethod yX0_count, Cond.selects RX0 yX0_count yX0_count, Cond.initialized RX0, Cond.code yX0_count cX0_count 2 (some .int), Cond.fieldLink RX0 68 "CellTrays" "thingCount" "I", Cond.fieldLink RX0 146 "CellTrays" "goneCount" "I", Cond.fieldLink RX0 109 "CellTrays" "movedCount" "I", Cond.methodLink RX0 112 yX0_requireWhat, Cond.instanceMethod yX0_requireWhat, Cond.selects RX0 yX0_requireWhat yX0_requireWhat, Cond.code yX0_requireWhat cX0_requireWhat 3 none, Cond.classLink RX0 121 "java/lang/IndexOutOfBoundsException", Cond.initialized "java/lang/IndexOutOfBoundsException", Cond.methodLink RX0 126 yX0_traysOf, Cond.instanceMethod yX0_traysOf, Cond.selects RX0 yX0_traysOf yX0_traysOf, Cond.code yX0_traysOf cX0_traysOf 4 (some .int), Cond.fieldLink RX0 25 "CellTrays" "trayKind" "[I", Cond.methodLink RX0 139 yX0_thingsThere, Cond.instanceMethod yX0_thingsThere]
def wsX0_digest_r2 : List Cond := [Cond.selects RX0 yX0_thingsThere yX0_thingsThere, Cond.code yX0_thingsThere cX0_thingsThere 3 (some .int), Cond.methodLink RX0 133 yX0_thingsOf, Cond.instanceMethod yX0_thingsOf, Cond.selects RX0 yX0_thingsOf yX0_thingsOf, Cond.code yX0_thingsOf cX0_thingsOf 4 (some .int), Cond.fieldLink RX0 31 "CellTrays" "trayThings" "[I", Cond.methodLink RX0 143 yX0_wastedInAll, Cond.instanceMethod yX0_wastedInAll, Cond.selects RX0 yX0_wastedInAll yX0_wastedInAll, Cond.code yX0_wastedInAll cX0_wastedInAll 3 (some .int), Cond.methodLink RX0 149 yX0_wastedBy, Cond.instanceMethod yX0_wastedBy, Cond.selects RX0 yX0_wastedBy yX0_wastedBy, Cond.code yX0_wastedBy cX0_wastedBy 2 (some .int), Cond.fieldLink RX0 9 "CellTrays" "kindSize" "[I", Cond.methodLink RX0 159 yX0_about, Cond.instanceMethod yX0_about, Cond.selects RX0 yX0_about yX0_about, Cond.code yX0_about cX0_about 3 (some .int), Cond.fieldLink RX0 13 "CellTrays" "kindStep" "[I", Cond.fieldLink RX0 16 "CellTrays" "kindCells" "[I", Cond.fieldLink RX0 22 "CellTrays" "kindNextOffset" "[I", Cond.methodLink RX0 64 yX0_requireKind]
def wsX0_digest_r3 : List Cond := [Cond.instanceMethod yX0_requireKind, Cond.selects RX0 yX0_requireKind yX0_requireKind, Cond.code yX0_requireKind cX0_requireKind 2 none, Cond.methodLink RX0 129 yX0_traysHolding, Cond.instanceMethod yX0_traysHolding, Cond.selects RX0 yX0_traysHolding yX0_traysHolding, Cond.code yX0_traysHolding cX0_traysHolding 5 (some .int), Cond.methodLink RX0 136 yX0_freeCellsOf, Cond.instanceMethod yX0_freeCellsOf, Cond.selects RX0 yX0_freeCellsOf yX0_freeCellsOf, Cond.code yX0_freeCellsOf cX0_freeCellsOf 2 (some .int), Cond.methodLink RX0 162 yX0_digestPlace, Cond.instanceMethod yX0_digestPlace, Cond.selects RX0 yX0_digestPlace yX0_digestPlace, Cond.code yX0_digestPlace cX0_digestPlace 8 (some .long), Cond.fieldLink RX0 34 "CellTrays" "cellThing" "[I", Cond.methodLink RX0 166 yX0_tray, Cond.instanceMethod yX0_tray, Cond.selects RX0 yX0_tray yX0_tray, Cond.code yX0_tray cX0_tray 4 (some .int), Cond.fieldLink RX0 28 "CellTrays" "trayOffset" "[I", Cond.methodLink RX0 115 yX0_requirePlace, Cond.instanceMethod yX0_requirePlace, Cond.selects RX0 yX0_requirePlace yX0_requirePlace]
def wsX0_digest_r4 : List Cond := [Cond.code yX0_requirePlace cX0_requirePlace 2 none, Cond.methodLink RX0 118 yX0_cellsAt, Cond.instanceMethod yX0_cellsAt, Cond.selects RX0 yX0_cellsAt yX0_cellsAt, Cond.code yX0_cellsAt cX0_cellsAt 3 (some .int)]
def wsX0_digest : List Cond := .code yX0_digest cX0_digest 5 (some .long) :: ((wsX0_digest_r1 ++ (wsX0_digest_r2 ++ (wsX0_digest_r3 ++ wsX0_digest_r4))) ++ wsX00 ++ (vx_atS RX0 125 "java/lang/IndexOutOfBoundsException" ["java/lang/RuntimeException", "java/lang/Exception"]).filter goodWord)
def wsX1_init : List Cond := .code yX1_init cX1_init 2 none :: ([.methodLink RX1 1 objectInit, .instanceMethod objectInit, .code objectInit ⟨#[0xb1]⟩ 1 none, .arrayClass .int, .fieldLink RX1 9 "CellTraysModel" "size" "[I", .fieldLink RX1 13 "CellTraysModel" "step" "[I", .fieldLink RX1 16 "CellTraysModel" "next" "[I", .fieldLink RX1 19 "CellTraysModel" "of" "[I", .fieldLink RX1 22 "CellTraysModel" "offset" "[I", .fieldLink RX1 25 "CellTraysModel" "many" "[I", .fieldLink RX1 28 "CellTraysModel" "inside" "[I", .fieldLink RX1 31 "CellTraysModel" "kindOf" "[I", .fieldLink RX1 34 "CellTraysModel" "place" "[I", .fieldLink RX1 37 "CellTraysModel" "cell" "[I"] ++ wsX10)
def wsX1_thrown : List Cond := .code yX1_thrown cX1_thrown 1 (some .int) :: ([.fieldLink RX1 40 "CellTraysModel" "thrown" "I"] ++ wsX10)
def wsX1_no : List Cond := .code yX1_no cX1_no 2 (some .int) :: ([.fieldLink RX1 40 "CellTraysModel" "thrown" "I"] ++ wsX10)
def wsX1_isIn : List Cond := .code yX1_isIn cX1_isIn 3 (some .boolean) :: ([])
def wsX1_isKind : List Cond := .code yX1_isKind cX1_isKind 2 (some .boolean) :: ([.fieldLink RX1 44 "CellTraysModel" "kinds" "I", .methodLink RX1 47 yX1_isIn, .static yX1_isIn, .initialized RX1, .code yX1_isIn cX1_isIn 3 (some .boolean)] ++ wsX10)
def wsX1_isThing : List Cond := .code yX1_isThing cX1_isThing 2 (some .boolean) :: ([.fieldLink RX1 51 "CellTraysModel" "things" "I", .methodLink RX1 47 yX1_isIn, .static yX1_isIn, .initialized RX1, .code yX1_isIn cX1_isIn 3 (some .boolean)] ++ wsX10)
def wsX1_cells : List Cond := .code yX1_cells cX1_cells 2 (some .int) :: ([.fieldLink RX1 9 "CellTraysModel" "size" "[I"] ++ wsX10)
def wsX1_isEmpty : List Cond := .code yX1_isEmpty cX1_isEmpty 3 (some .boolean) :: ([.fieldLink RX1 19 "CellTraysModel" "of" "[I", .fieldLink RX1 25 "CellTraysModel" "many" "[I"] ++ wsX10)
def wsX1_isPartly : List Cond := .code yX1_isPartly cX1_isPartly 3 (some .boolean) :: ([.fieldLink RX1 19 "CellTraysModel" "of" "[I", .fieldLink RX1 25 "CellTraysModel" "many" "[I", .methodLink RX1 54 yX1_cells, .instanceMethod yX1_cells, .selects RX1 yX1_cells yX1_cells, .initialized RX1, .code yX1_cells cX1_cells 2 (some .int), .fieldLink RX1 9 "CellTraysModel" "size" "[I"] ++ wsX10)
def wsX1_fullest : List Cond := .code yX1_fullest cX1_fullest 4 (some .int) :: ([.fieldLink RX1 25 "CellTraysModel" "many" "[I", .methodLink RX1 58 yX1_isPartly, .instanceMethod yX1_isPartly, .selects RX1 yX1_isPartly yX1_isPartly, .initialized RX1, .code yX1_isPartly cX1_isPartly 3 (some .boolean), .fieldLink RX1 19 "CellTraysModel" "of" "[I", .methodLink RX1 54 yX1_cells, .instanceMethod yX1_cells, .selects RX1 yX1_cells yX1_cells, .code yX1_cells cX1_cells 2 (some .int), .fieldLink RX1 9 "CellTraysModel" "size" "[I"] ++ wsX10)
def wsX1_leanest : List Cond := .code yX1_leanest cX1_leanest 4 (some .int) :: ([.fieldLink RX1 25 "CellTraysModel" "many" "[I", .methodLink RX1 58 yX1_isPartly, .instanceMethod yX1_isPartly, .selects RX1 yX1_isPartly yX1_isPartly, .initialized RX1, .code yX1_isPartly cX1_isPartly 3 (some .boolean), .fieldLink RX1 19 "CellTraysModel" "of" "[I", .methodLink RX1 54 yX1_cells, .instanceMethod yX1_cells, .selects RX1 yX1_cells yX1_cells, .code yX1_cells cX1_cells 2 (some .int), .fieldLink RX1 9 "CellTraysModel" "size" "[I"] ++ wsX10)
def wsX1_firstEmpty : List Cond := .code yX1_firstEmpty cX1_firstEmpty 3 (some .int) :: ([.methodLink RX1 62 yX1_isEmpty, .instanceMethod yX1_isEmpty, .selects RX1 yX1_isEmpty yX1_isEmpty, .initialized RX1, .code yX1_isEmpty cX1_isEmpty 3 (some .boolean), .fieldLink RX1 19 "CellTraysModel" "of" "[I", .fieldLink RX1 25 "CellTraysModel" "many" "[I"] ++ wsX10)
def wsX1_firstFree : List Cond := .code yX1_firstFree cX1_firstFree 2 (some .int) :: ([.fieldLink RX1 19 "CellTraysModel" "of" "[I"] ++ wsX10)
def wsX1_goesTo_r1 : List Cond := [Cond.methodLink RX1 65 yX1_fullest, Cond.instanceMethod yX1_fullest, Cond.selects RX1 yX1_fullest yX1_fullest, Cond.initialized RX1, Cond.code yX1_fullest cX1_fullest 4 (some .int), Cond.fieldLink RX1 25 "CellTraysModel" "many" "[I", Cond.methodLink RX1 58 yX1_isPartly, Cond.instanceMethod yX1_isPartly, Cond.selects RX1 yX1_isPartly yX1_isPartly, Cond.code yX1_isPartly cX1_isPartly 3 (some .boolean), Cond.fieldLink RX1 19 "CellTraysModel" "of" "[I", Cond.methodLink RX1 54 yX1_cells, Cond.instanceMethod yX1_cells, Cond.selects RX1 yX1_cells yX1_cells, Cond.code yX1_cells cX1_cells 2 (some .int), Cond.fieldLink RX1 9 "CellTraysModel" "size" "[I", Cond.methodLink RX1 68 yX1_firstEmpty, Cond.instanceMethod yX1_firstEmpty, Cond.selects RX1 yX1_firstEmpty yX1_firstEmpty, Cond.code yX1_firstEmpty cX1_firstEmpty 3 (some .int), Cond.methodLink RX1 62 yX1_isEmpty, Cond.instanceMethod yX1_isEmpty, Cond.selects RX1 yX1_isEmpty yX1_isEmpty, Cond.code yX1_isEmpty cX1_isEmpty 3 (some .boolean)]
def wsX1_goesTo_r2 : List Cond := [Cond.methodLink RX1 71 yX1_firstFree, Cond.instanceMethod yX1_firstFree, Cond.selects RX1 yX1_firstFree yX1_firstFree, Cond.code yX1_firstFree cX1_firstFree 2 (some .int)]
def wsX1_goesTo : List Cond := .code yX1_goesTo cX1_goesTo 4 (some .int) :: ((wsX1_goesTo_r1 ++ wsX1_goesTo_r2) ++ wsX10)
def wsX1_open : List Cond := .code yX1_open cX1_open 4 none :: ([.fieldLink RX1 19 "CellTraysModel" "of" "[I", .fieldLink RX1 22 "CellTraysModel" "offset" "[I", .fieldLink RX1 16 "CellTraysModel" "next" "[I", .fieldLink RX1 25 "CellTraysModel" "many" "[I", .fieldLink RX1 28 "CellTraysModel" "inside" "[I", .fieldLink RX1 13 "CellTraysModel" "step" "[I", .fieldLink RX1 9 "CellTraysModel" "size" "[I"] ++ wsX10)
def wsX1_lay : List Cond := .code yX1_lay cX1_lay 4 none :: ([.fieldLink RX1 34 "CellTraysModel" "place" "[I", .fieldLink RX1 37 "CellTraysModel" "cell" "[I", .fieldLink RX1 28 "CellTraysModel" "inside" "[I", .fieldLink RX1 25 "CellTraysModel" "many" "[I"] ++ wsX10)
def wsX1_lift : List Cond := .code yX1_lift cX1_lift 2 none :: ([.fieldLink RX1 28 "CellTraysModel" "inside" "[I", .fieldLink RX1 34 "CellTraysModel" "place" "[I", .fieldLink RX1 37 "CellTraysModel" "cell" "[I", .fieldLink RX1 25 "CellTraysModel" "many" "[I"] ++ wsX10)
def wsX1_freeCell : List Cond := .code yX1_freeCell cX1_freeCell 3 (some .int) :: ([.fieldLink RX1 28 "CellTraysModel" "inside" "[I"] ++ wsX10)
def wsX1_lastThing : List Cond := .code yX1_lastThing cX1_lastThing 3 (some .int) :: ([.fieldLink RX1 28 "CellTraysModel" "inside" "[I"] ++ wsX10)
def wsX1_close : List Cond := .code yX1_close cX1_close 2 none :: ([.fieldLink RX1 19 "CellTraysModel" "of" "[I", .fieldLink RX1 75 "CellTraysModel" "gone" "I"] ++ wsX10)
def wsX1_empties : List Cond := .code yX1_empties cX1_empties 4 (some .int) :: ([.methodLink RX1 62 yX1_isEmpty, .instanceMethod yX1_isEmpty, .selects RX1 yX1_isEmpty yX1_isEmpty, .initialized RX1, .code yX1_isEmpty cX1_isEmpty 3 (some .boolean), .fieldLink RX1 19 "CellTraysModel" "of" "[I", .fieldLink RX1 25 "CellTraysModel" "many" "[I"] ++ wsX10)
def wsX1_kind : List Cond := .code yX1_kind cX1_kind 3 (some .int) :: ([.fieldLink RX1 40 "CellTraysModel" "thrown" "I", .fieldLink RX1 44 "CellTraysModel" "kinds" "I", .fieldLink RX1 9 "CellTraysModel" "size" "[I", .fieldLink RX1 13 "CellTraysModel" "step" "[I", .methodLink RX1 47 yX1_isIn, .static yX1_isIn, .initialized RX1, .code yX1_isIn cX1_isIn 3 (some .boolean), .methodLink RX1 78 yX1_no, .instanceMethod yX1_no, .selects RX1 yX1_no yX1_no, .code yX1_no cX1_no 2 (some .int)] ++ wsX10)
def wsX1_put_r1 : List Cond := [Cond.fieldLink RX1 40 "CellTraysModel" "thrown" "I", Cond.fieldLink RX1 51 "CellTraysModel" "things" "I", Cond.fieldLink RX1 19 "CellTraysModel" "of" "[I", Cond.fieldLink RX1 31 "CellTraysModel" "kindOf" "[I", Cond.methodLink RX1 81 yX1_isKind, Cond.instanceMethod yX1_isKind, Cond.selects RX1 yX1_isKind yX1_isKind, Cond.initialized RX1, Cond.code yX1_isKind cX1_isKind 2 (some .boolean), Cond.fieldLink RX1 44 "CellTraysModel" "kinds" "I", Cond.methodLink RX1 47 yX1_isIn, Cond.static yX1_isIn, Cond.code yX1_isIn cX1_isIn 3 (some .boolean), Cond.methodLink RX1 78 yX1_no, Cond.instanceMethod yX1_no, Cond.selects RX1 yX1_no yX1_no, Cond.code yX1_no cX1_no 2 (some .int), Cond.methodLink RX1 85 yX1_goesTo, Cond.instanceMethod yX1_goesTo, Cond.selects RX1 yX1_goesTo yX1_goesTo, Cond.code yX1_goesTo cX1_goesTo 4 (some .int), Cond.methodLink RX1 65 yX1_fullest, Cond.instanceMethod yX1_fullest, Cond.selects RX1 yX1_fullest yX1_fullest]
def wsX1_put_r2 : List Cond := [Cond.code yX1_fullest cX1_fullest 4 (some .int), Cond.fieldLink RX1 25 "CellTraysModel" "many" "[I", Cond.methodLink RX1 58 yX1_isPartly, Cond.instanceMethod yX1_isPartly, Cond.selects RX1 yX1_isPartly yX1_isPartly, Cond.code yX1_isPartly cX1_isPartly 3 (some .boolean), Cond.methodLink RX1 54 yX1_cells, Cond.instanceMethod yX1_cells, Cond.selects RX1 yX1_cells yX1_cells, Cond.code yX1_cells cX1_cells 2 (some .int), Cond.fieldLink RX1 9 "CellTraysModel" "size" "[I", Cond.methodLink RX1 68 yX1_firstEmpty, Cond.instanceMethod yX1_firstEmpty, Cond.selects RX1 yX1_firstEmpty yX1_firstEmpty, Cond.code yX1_firstEmpty cX1_firstEmpty 3 (some .int), Cond.methodLink RX1 62 yX1_isEmpty, Cond.instanceMethod yX1_isEmpty, Cond.selects RX1 yX1_isEmpty yX1_isEmpty, Cond.code yX1_isEmpty cX1_isEmpty 3 (some .boolean), Cond.methodLink RX1 71 yX1_firstFree, Cond.instanceMethod yX1_firstFree, Cond.selects RX1 yX1_firstFree yX1_firstFree, Cond.code yX1_firstFree cX1_firstFree 2 (some .int), Cond.methodLink RX1 88 yX1_open]
def wsX1_put_r3 : List Cond := [Cond.instanceMethod yX1_open, Cond.selects RX1 yX1_open yX1_open, Cond.code yX1_open cX1_open 4 none, Cond.fieldLink RX1 22 "CellTraysModel" "offset" "[I", Cond.fieldLink RX1 16 "CellTraysModel" "next" "[I", Cond.fieldLink RX1 28 "CellTraysModel" "inside" "[I", Cond.fieldLink RX1 13 "CellTraysModel" "step" "[I", Cond.methodLink RX1 92 yX1_freeCell, Cond.instanceMethod yX1_freeCell, Cond.selects RX1 yX1_freeCell yX1_freeCell, Cond.code yX1_freeCell cX1_freeCell 3 (some .int), Cond.methodLink RX1 95 yX1_lay, Cond.instanceMethod yX1_lay, Cond.selects RX1 yX1_lay yX1_lay, Cond.code yX1_lay cX1_lay 4 none, Cond.fieldLink RX1 34 "CellTraysModel" "place" "[I", Cond.fieldLink RX1 37 "CellTraysModel" "cell" "[I"]
def wsX1_put : List Cond := .code yX1_put cX1_put 3 (some .int) :: ((wsX1_put_r1 ++ (wsX1_put_r2 ++ wsX1_put_r3)) ++ wsX10)
def wsX1_take_r1 : List Cond := [Cond.fieldLink RX1 34 "CellTraysModel" "place" "[I", Cond.fieldLink RX1 40 "CellTraysModel" "thrown" "I", Cond.fieldLink RX1 25 "CellTraysModel" "many" "[I", Cond.fieldLink RX1 19 "CellTraysModel" "of" "[I", Cond.methodLink RX1 99 yX1_isThing, Cond.instanceMethod yX1_isThing, Cond.selects RX1 yX1_isThing yX1_isThing, Cond.initialized RX1, Cond.code yX1_isThing cX1_isThing 2 (some .boolean), Cond.fieldLink RX1 51 "CellTraysModel" "things" "I", Cond.methodLink RX1 47 yX1_isIn, Cond.static yX1_isIn, Cond.code yX1_isIn cX1_isIn 3 (some .boolean), Cond.methodLink RX1 102 yX1_lift, Cond.instanceMethod yX1_lift, Cond.selects RX1 yX1_lift yX1_lift, Cond.code yX1_lift cX1_lift 2 none, Cond.fieldLink RX1 28 "CellTraysModel" "inside" "[I", Cond.fieldLink RX1 37 "CellTraysModel" "cell" "[I", Cond.methodLink RX1 106 yX1_empties, Cond.instanceMethod yX1_empties, Cond.selects RX1 yX1_empties yX1_empties, Cond.code yX1_empties cX1_empties 4 (some .int), Cond.methodLink RX1 62 yX1_isEmpty]
def wsX1_take_r2 : List Cond := [Cond.instanceMethod yX1_isEmpty, Cond.selects RX1 yX1_isEmpty yX1_isEmpty, Cond.code yX1_isEmpty cX1_isEmpty 3 (some .boolean), Cond.methodLink RX1 109 yX1_close, Cond.instanceMethod yX1_close, Cond.selects RX1 yX1_close yX1_close, Cond.code yX1_close cX1_close 2 none, Cond.fieldLink RX1 75 "CellTraysModel" "gone" "I"]
def wsX1_take : List Cond := .code yX1_take cX1_take 3 (some .boolean) :: ((wsX1_take_r1 ++ wsX1_take_r2) ++ wsX10)
def wsX1_sweep : List Cond := .code yX1_sweep cX1_sweep 3 (some .int) :: ([.fieldLink RX1 40 "CellTraysModel" "thrown" "I", .fieldLink RX1 75 "CellTraysModel" "gone" "I", .fieldLink RX1 19 "CellTraysModel" "of" "[I", .fieldLink RX1 25 "CellTraysModel" "many" "[I", .methodLink RX1 109 yX1_close, .instanceMethod yX1_close, .selects RX1 yX1_close yX1_close, .initialized RX1, .code yX1_close cX1_close 2 none] ++ wsX10)
def wsX1_pack_r1 : List Cond := [Cond.fieldLink RX1 40 "CellTraysModel" "thrown" "I", Cond.fieldLink RX1 112 "CellTraysModel" "moved" "I", Cond.methodLink RX1 81 yX1_isKind, Cond.instanceMethod yX1_isKind, Cond.selects RX1 yX1_isKind yX1_isKind, Cond.initialized RX1, Cond.code yX1_isKind cX1_isKind 2 (some .boolean), Cond.fieldLink RX1 44 "CellTraysModel" "kinds" "I", Cond.methodLink RX1 47 yX1_isIn, Cond.static yX1_isIn, Cond.code yX1_isIn cX1_isIn 3 (some .boolean), Cond.methodLink RX1 78 yX1_no, Cond.instanceMethod yX1_no, Cond.selects RX1 yX1_no yX1_no, Cond.code yX1_no cX1_no 2 (some .int), Cond.methodLink RX1 65 yX1_fullest, Cond.instanceMethod yX1_fullest, Cond.selects RX1 yX1_fullest yX1_fullest, Cond.code yX1_fullest cX1_fullest 4 (some .int), Cond.fieldLink RX1 25 "CellTraysModel" "many" "[I", Cond.methodLink RX1 58 yX1_isPartly, Cond.instanceMethod yX1_isPartly, Cond.selects RX1 yX1_isPartly yX1_isPartly, Cond.code yX1_isPartly cX1_isPartly 3 (some .boolean)]
def wsX1_pack_r2 : List Cond := [Cond.fieldLink RX1 19 "CellTraysModel" "of" "[I", Cond.methodLink RX1 54 yX1_cells, Cond.instanceMethod yX1_cells, Cond.selects RX1 yX1_cells yX1_cells, Cond.code yX1_cells cX1_cells 2 (some .int), Cond.fieldLink RX1 9 "CellTraysModel" "size" "[I", Cond.methodLink RX1 115 yX1_leanest, Cond.instanceMethod yX1_leanest, Cond.selects RX1 yX1_leanest yX1_leanest, Cond.code yX1_leanest cX1_leanest 4 (some .int), Cond.methodLink RX1 118 yX1_lastThing, Cond.instanceMethod yX1_lastThing, Cond.selects RX1 yX1_lastThing yX1_lastThing, Cond.code yX1_lastThing cX1_lastThing 3 (some .int), Cond.fieldLink RX1 28 "CellTraysModel" "inside" "[I", Cond.methodLink RX1 102 yX1_lift, Cond.instanceMethod yX1_lift, Cond.selects RX1 yX1_lift yX1_lift, Cond.code yX1_lift cX1_lift 2 none, Cond.fieldLink RX1 34 "CellTraysModel" "place" "[I", Cond.fieldLink RX1 37 "CellTraysModel" "cell" "[I", Cond.methodLink RX1 92 yX1_freeCell, Cond.instanceMethod yX1_freeCell, Cond.selects RX1 yX1_freeCell yX1_freeCell]
def wsX1_pack_r3 : List Cond := [Cond.code yX1_freeCell cX1_freeCell 3 (some .int), Cond.methodLink RX1 95 yX1_lay, Cond.instanceMethod yX1_lay, Cond.selects RX1 yX1_lay yX1_lay, Cond.code yX1_lay cX1_lay 4 none]
def wsX1_pack : List Cond := .code yX1_pack cX1_pack 5 (some .int) :: ((wsX1_pack_r1 ++ (wsX1_pack_r2 ++ wsX1_pack_r3)) ++ wsX10)
def wsX1_thingTold : List Cond := .code yX1_thingTold cX1_thingTold 4 (some .int) :: ([.fieldLink RX1 31 "CellTraysModel" "kindOf" "[I", .fieldLink RX1 34 "CellTraysModel" "place" "[I", .fieldLink RX1 22 "CellTraysModel" "offset" "[I", .fieldLink RX1 37 "CellTraysModel" "cell" "[I", .fieldLink RX1 9 "CellTraysModel" "size" "[I"] ++ wsX10)
def wsX1_told : List Cond := .code yX1_told cX1_told 3 (some .int) :: ([.fieldLink RX1 40 "CellTraysModel" "thrown" "I", .methodLink RX1 99 yX1_isThing, .instanceMethod yX1_isThing, .selects RX1 yX1_isThing yX1_isThing, .initialized RX1, .code yX1_isThing cX1_isThing 2 (some .boolean), .fieldLink RX1 51 "CellTraysModel" "things" "I", .methodLink RX1 47 yX1_isIn, .static yX1_isIn, .code yX1_isIn cX1_isIn 3 (some .boolean), .methodLink RX1 121 yX1_thingTold, .instanceMethod yX1_thingTold, .selects RX1 yX1_thingTold yX1_thingTold, .code yX1_thingTold cX1_thingTold 4 (some .int), .fieldLink RX1 31 "CellTraysModel" "kindOf" "[I", .fieldLink RX1 34 "CellTraysModel" "place" "[I", .fieldLink RX1 22 "CellTraysModel" "offset" "[I", .fieldLink RX1 37 "CellTraysModel" "cell" "[I", .fieldLink RX1 9 "CellTraysModel" "size" "[I", .methodLink RX1 78 yX1_no, .instanceMethod yX1_no, .selects RX1 yX1_no yX1_no, .code yX1_no cX1_no 2 (some .int)] ++ wsX10)
def wsX1_wasted : List Cond := .code yX1_wasted cX1_wasted 2 (some .int) :: ([.fieldLink RX1 19 "CellTraysModel" "of" "[I", .fieldLink RX1 9 "CellTraysModel" "size" "[I", .fieldLink RX1 25 "CellTraysModel" "many" "[I"] ++ wsX10)
def wsX1_trayTold : List Cond := .code yX1_trayTold cX1_trayTold 3 (some .int) :: ([.fieldLink RX1 19 "CellTraysModel" "of" "[I", .fieldLink RX1 22 "CellTraysModel" "offset" "[I", .fieldLink RX1 25 "CellTraysModel" "many" "[I", .methodLink RX1 54 yX1_cells, .instanceMethod yX1_cells, .selects RX1 yX1_cells yX1_cells, .initialized RX1, .code yX1_cells cX1_cells 2 (some .int), .fieldLink RX1 9 "CellTraysModel" "size" "[I", .methodLink RX1 125 yX1_wasted, .instanceMethod yX1_wasted, .selects RX1 yX1_wasted yX1_wasted, .code yX1_wasted cX1_wasted 2 (some .int)] ++ wsX10)
def wsX1_tray_r1 : List Cond := [Cond.fieldLink RX1 40 "CellTraysModel" "thrown" "I", Cond.methodLink RX1 47 yX1_isIn, Cond.static yX1_isIn, Cond.initialized RX1, Cond.code yX1_isIn cX1_isIn 3 (some .boolean), Cond.methodLink RX1 128 yX1_trayTold, Cond.instanceMethod yX1_trayTold, Cond.selects RX1 yX1_trayTold yX1_trayTold, Cond.code yX1_trayTold cX1_trayTold 3 (some .int), Cond.fieldLink RX1 19 "CellTraysModel" "of" "[I", Cond.fieldLink RX1 22 "CellTraysModel" "offset" "[I", Cond.fieldLink RX1 25 "CellTraysModel" "many" "[I", Cond.methodLink RX1 54 yX1_cells, Cond.instanceMethod yX1_cells, Cond.selects RX1 yX1_cells yX1_cells, Cond.code yX1_cells cX1_cells 2 (some .int), Cond.fieldLink RX1 9 "CellTraysModel" "size" "[I", Cond.methodLink RX1 125 yX1_wasted, Cond.instanceMethod yX1_wasted, Cond.selects RX1 yX1_wasted yX1_wasted, Cond.code yX1_wasted cX1_wasted 2 (some .int), Cond.methodLink RX1 78 yX1_no, Cond.instanceMethod yX1_no, Cond.selects RX1 yX1_no yX1_no]
def wsX1_tray_r2 : List Cond := [Cond.code yX1_no cX1_no 2 (some .int)]
def wsX1_tray : List Cond := .code yX1_tray cX1_tray 3 (some .int) :: ((wsX1_tray_r1 ++ wsX1_tray_r2) ++ wsX10)
def wsX1_cell : List Cond := .code yX1_cell cX1_cell 3 (some .int) :: ([.fieldLink RX1 40 "CellTraysModel" "thrown" "I", .fieldLink RX1 19 "CellTraysModel" "of" "[I", .fieldLink RX1 28 "CellTraysModel" "inside" "[I", .methodLink RX1 47 yX1_isIn, .static yX1_isIn, .initialized RX1, .code yX1_isIn cX1_isIn 3 (some .boolean), .methodLink RX1 54 yX1_cells, .instanceMethod yX1_cells, .selects RX1 yX1_cells yX1_cells, .code yX1_cells cX1_cells 2 (some .int), .fieldLink RX1 9 "CellTraysModel" "size" "[I", .methodLink RX1 78 yX1_no, .instanceMethod yX1_no, .selects RX1 yX1_no yX1_no, .code yX1_no cX1_no 2 (some .int)] ++ wsX10)
def wsX1_trays : List Cond := .code yX1_trays cX1_trays 4 (some .int) :: ([.fieldLink RX1 19 "CellTraysModel" "of" "[I"] ++ wsX10)
def wsX1_full : List Cond := .code yX1_full cX1_full 4 (some .int) :: ([.fieldLink RX1 19 "CellTraysModel" "of" "[I", .fieldLink RX1 25 "CellTraysModel" "many" "[I", .methodLink RX1 54 yX1_cells, .instanceMethod yX1_cells, .selects RX1 yX1_cells yX1_cells, .initialized RX1, .code yX1_cells cX1_cells 2 (some .int), .fieldLink RX1 9 "CellTraysModel" "size" "[I"] ++ wsX10)
def wsX1_lying : List Cond := .code yX1_lying cX1_lying 4 (some .int) :: ([.fieldLink RX1 19 "CellTraysModel" "of" "[I", .fieldLink RX1 25 "CellTraysModel" "many" "[I"] ++ wsX10)
def wsX1_kindTold_r1 : List Cond := [Cond.arrayClass .int, Cond.fieldLink RX1 9 "CellTraysModel" "size" "[I", Cond.fieldLink RX1 13 "CellTraysModel" "step" "[I", Cond.fieldLink RX1 16 "CellTraysModel" "next" "[I", Cond.methodLink RX1 131 yX1_trays, Cond.instanceMethod yX1_trays, Cond.selects RX1 yX1_trays yX1_trays, Cond.initialized RX1, Cond.code yX1_trays cX1_trays 4 (some .int), Cond.fieldLink RX1 19 "CellTraysModel" "of" "[I", Cond.methodLink RX1 106 yX1_empties, Cond.instanceMethod yX1_empties, Cond.selects RX1 yX1_empties yX1_empties, Cond.code yX1_empties cX1_empties 4 (some .int), Cond.methodLink RX1 62 yX1_isEmpty, Cond.instanceMethod yX1_isEmpty, Cond.selects RX1 yX1_isEmpty yX1_isEmpty, Cond.code yX1_isEmpty cX1_isEmpty 3 (some .boolean), Cond.fieldLink RX1 25 "CellTraysModel" "many" "[I", Cond.methodLink RX1 134 yX1_full, Cond.instanceMethod yX1_full, Cond.selects RX1 yX1_full yX1_full, Cond.code yX1_full cX1_full 4 (some .int), Cond.methodLink RX1 54 yX1_cells]
def wsX1_kindTold_r2 : List Cond := [Cond.instanceMethod yX1_cells, Cond.selects RX1 yX1_cells yX1_cells, Cond.code yX1_cells cX1_cells 2 (some .int), Cond.methodLink RX1 137 yX1_lying, Cond.instanceMethod yX1_lying, Cond.selects RX1 yX1_lying yX1_lying, Cond.code yX1_lying cX1_lying 4 (some .int)]
def wsX1_kindTold : List Cond := .code yX1_kindTold cX1_kindTold 4 (some .int) :: ((wsX1_kindTold_r1 ++ wsX1_kindTold_r2) ++ wsX10)
def wsX1_about_r1 : List Cond := [Cond.fieldLink RX1 40 "CellTraysModel" "thrown" "I", Cond.methodLink RX1 81 yX1_isKind, Cond.instanceMethod yX1_isKind, Cond.selects RX1 yX1_isKind yX1_isKind, Cond.initialized RX1, Cond.code yX1_isKind cX1_isKind 2 (some .boolean), Cond.fieldLink RX1 44 "CellTraysModel" "kinds" "I", Cond.methodLink RX1 47 yX1_isIn, Cond.static yX1_isIn, Cond.code yX1_isIn cX1_isIn 3 (some .boolean), Cond.methodLink RX1 140 yX1_kindTold, Cond.instanceMethod yX1_kindTold, Cond.selects RX1 yX1_kindTold yX1_kindTold, Cond.code yX1_kindTold cX1_kindTold 4 (some .int), Cond.arrayClass .int, Cond.fieldLink RX1 9 "CellTraysModel" "size" "[I", Cond.fieldLink RX1 13 "CellTraysModel" "step" "[I", Cond.fieldLink RX1 16 "CellTraysModel" "next" "[I", Cond.methodLink RX1 131 yX1_trays, Cond.instanceMethod yX1_trays, Cond.selects RX1 yX1_trays yX1_trays, Cond.code yX1_trays cX1_trays 4 (some .int), Cond.fieldLink RX1 19 "CellTraysModel" "of" "[I", Cond.methodLink RX1 106 yX1_empties]
def wsX1_about_r2 : List Cond := [Cond.instanceMethod yX1_empties, Cond.selects RX1 yX1_empties yX1_empties, Cond.code yX1_empties cX1_empties 4 (some .int), Cond.methodLink RX1 62 yX1_isEmpty, Cond.instanceMethod yX1_isEmpty, Cond.selects RX1 yX1_isEmpty yX1_isEmpty, Cond.code yX1_isEmpty cX1_isEmpty 3 (some .boolean), Cond.fieldLink RX1 25 "CellTraysModel" "many" "[I", Cond.methodLink RX1 134 yX1_full, Cond.instanceMethod yX1_full, Cond.selects RX1 yX1_full yX1_full, Cond.code yX1_full cX1_full 4 (some .int), Cond.methodLink RX1 54 yX1_cells, Cond.instanceMethod yX1_cells, Cond.selects RX1 yX1_cells yX1_cells, Cond.code yX1_cells cX1_cells 2 (some .int), Cond.methodLink RX1 137 yX1_lying, Cond.instanceMethod yX1_lying, Cond.selects RX1 yX1_lying yX1_lying, Cond.code yX1_lying cX1_lying 4 (some .int), Cond.methodLink RX1 78 yX1_no, Cond.instanceMethod yX1_no, Cond.selects RX1 yX1_no yX1_no, Cond.code yX1_no cX1_no 2 (some .int)]
def wsX1_about : List Cond := .code yX1_about cX1_about 3 (some .int) :: ((wsX1_about_r1 ++ wsX1_about_r2) ++ wsX10)
def wsX1_counted : List Cond := .code yX1_counted cX1_counted 6 (some .int) :: ([.fieldLink RX1 19 "CellTraysModel" "of" "[I", .fieldLink RX1 25 "CellTraysModel" "many" "[I", .arrayClass .int, .fieldLink RX1 44 "CellTraysModel" "kinds" "I", .fieldLink RX1 51 "CellTraysModel" "things" "I", .fieldLink RX1 75 "CellTraysModel" "gone" "I", .fieldLink RX1 112 "CellTraysModel" "moved" "I", .methodLink RX1 125 yX1_wasted, .instanceMethod yX1_wasted, .selects RX1 yX1_wasted yX1_wasted, .initialized RX1, .code yX1_wasted cX1_wasted 2 (some .int), .fieldLink RX1 9 "CellTraysModel" "size" "[I"] ++ wsX10)
def wsX1_count_r1 : List Cond := [Cond.fieldLink RX1 40 "CellTraysModel" "thrown" "I", Cond.methodLink RX1 47 yX1_isIn, Cond.static yX1_isIn, Cond.initialized RX1, Cond.code yX1_isIn cX1_isIn 3 (some .boolean), Cond.methodLink RX1 143 yX1_counted, Cond.instanceMethod yX1_counted, Cond.selects RX1 yX1_counted yX1_counted, Cond.code yX1_counted cX1_counted 6 (some .int), Cond.fieldLink RX1 19 "CellTraysModel" "of" "[I", Cond.fieldLink RX1 25 "CellTraysModel" "many" "[I", Cond.arrayClass .int, Cond.fieldLink RX1 44 "CellTraysModel" "kinds" "I", Cond.fieldLink RX1 51 "CellTraysModel" "things" "I", Cond.fieldLink RX1 75 "CellTraysModel" "gone" "I", Cond.fieldLink RX1 112 "CellTraysModel" "moved" "I", Cond.methodLink RX1 125 yX1_wasted, Cond.instanceMethod yX1_wasted, Cond.selects RX1 yX1_wasted yX1_wasted, Cond.code yX1_wasted cX1_wasted 2 (some .int), Cond.fieldLink RX1 9 "CellTraysModel" "size" "[I", Cond.methodLink RX1 78 yX1_no, Cond.instanceMethod yX1_no, Cond.selects RX1 yX1_no yX1_no]
def wsX1_count_r2 : List Cond := [Cond.code yX1_no cX1_no 2 (some .int)]
def wsX1_count : List Cond := .code yX1_count cX1_count 2 (some .int) :: ((wsX1_count_r1 ++ wsX1_count_r2) ++ wsX10)
def wsX1_would_r1 : List Cond := [Cond.fieldLink RX1 40 "CellTraysModel" "thrown" "I", Cond.methodLink RX1 81 yX1_isKind, Cond.instanceMethod yX1_isKind, Cond.selects RX1 yX1_isKind yX1_isKind, Cond.initialized RX1, Cond.code yX1_isKind cX1_isKind 2 (some .boolean), Cond.fieldLink RX1 44 "CellTraysModel" "kinds" "I", Cond.methodLink RX1 47 yX1_isIn, Cond.static yX1_isIn, Cond.code yX1_isIn cX1_isIn 3 (some .boolean), Cond.methodLink RX1 85 yX1_goesTo, Cond.instanceMethod yX1_goesTo, Cond.selects RX1 yX1_goesTo yX1_goesTo, Cond.code yX1_goesTo cX1_goesTo 4 (some .int), Cond.methodLink RX1 65 yX1_fullest, Cond.instanceMethod yX1_fullest, Cond.selects RX1 yX1_fullest yX1_fullest, Cond.code yX1_fullest cX1_fullest 4 (some .int), Cond.fieldLink RX1 25 "CellTraysModel" "many" "[I", Cond.methodLink RX1 58 yX1_isPartly, Cond.instanceMethod yX1_isPartly, Cond.selects RX1 yX1_isPartly yX1_isPartly, Cond.code yX1_isPartly cX1_isPartly 3 (some .boolean), Cond.fieldLink RX1 19 "CellTraysModel" "of" "[I"]
def wsX1_would_r2 : List Cond := [Cond.methodLink RX1 54 yX1_cells, Cond.instanceMethod yX1_cells, Cond.selects RX1 yX1_cells yX1_cells, Cond.code yX1_cells cX1_cells 2 (some .int), Cond.fieldLink RX1 9 "CellTraysModel" "size" "[I", Cond.methodLink RX1 68 yX1_firstEmpty, Cond.instanceMethod yX1_firstEmpty, Cond.selects RX1 yX1_firstEmpty yX1_firstEmpty, Cond.code yX1_firstEmpty cX1_firstEmpty 3 (some .int), Cond.methodLink RX1 62 yX1_isEmpty, Cond.instanceMethod yX1_isEmpty, Cond.selects RX1 yX1_isEmpty yX1_isEmpty, Cond.code yX1_isEmpty cX1_isEmpty 3 (some .boolean), Cond.methodLink RX1 71 yX1_firstFree, Cond.instanceMethod yX1_firstFree, Cond.selects RX1 yX1_firstFree yX1_firstFree, Cond.code yX1_firstFree cX1_firstFree 2 (some .int), Cond.methodLink RX1 78 yX1_no, Cond.instanceMethod yX1_no, Cond.selects RX1 yX1_no yX1_no, Cond.code yX1_no cX1_no 2 (some .int)]
def wsX1_would : List Cond := .code yX1_would cX1_would 2 (some .int) :: ((wsX1_would_r1 ++ wsX1_would_r2) ++ wsX10)
def wsX1_spares_r1 : List Cond := [Cond.fieldLink RX1 40 "CellTraysModel" "thrown" "I", Cond.methodLink RX1 81 yX1_isKind, Cond.instanceMethod yX1_isKind, Cond.selects RX1 yX1_isKind yX1_isKind, Cond.initialized RX1, Cond.code yX1_isKind cX1_isKind 2 (some .boolean), Cond.fieldLink RX1 44 "CellTraysModel" "kinds" "I", Cond.methodLink RX1 47 yX1_isIn, Cond.static yX1_isIn, Cond.code yX1_isIn cX1_isIn 3 (some .boolean), Cond.methodLink RX1 78 yX1_no, Cond.instanceMethod yX1_no, Cond.selects RX1 yX1_no yX1_no, Cond.code yX1_no cX1_no 2 (some .int), Cond.methodLink RX1 131 yX1_trays, Cond.instanceMethod yX1_trays, Cond.selects RX1 yX1_trays yX1_trays, Cond.code yX1_trays cX1_trays 4 (some .int), Cond.fieldLink RX1 19 "CellTraysModel" "of" "[I", Cond.methodLink RX1 137 yX1_lying, Cond.instanceMethod yX1_lying, Cond.selects RX1 yX1_lying yX1_lying, Cond.code yX1_lying cX1_lying 4 (some .int), Cond.fieldLink RX1 25 "CellTraysModel" "many" "[I"]
def wsX1_spares_r2 : List Cond := [Cond.methodLink RX1 54 yX1_cells, Cond.instanceMethod yX1_cells, Cond.selects RX1 yX1_cells yX1_cells, Cond.code yX1_cells cX1_cells 2 (some .int), Cond.fieldLink RX1 9 "CellTraysModel" "size" "[I"]
def wsX1_spares : List Cond := .code yX1_spares cX1_spares 2 (some .int) :: ((wsX1_spares_r1 ++ wsX1_spares_r2) ++ wsX10)
def wsX1_room_r1 : List Cond := [Cond.fieldLink RX1 40 "CellTraysModel" "thrown" "I", Cond.methodLink RX1 81 yX1_isKind, Cond.instanceMethod yX1_isKind, Cond.selects RX1 yX1_isKind yX1_isKind, Cond.initialized RX1, Cond.code yX1_isKind cX1_isKind 2 (some .boolean), Cond.fieldLink RX1 44 "CellTraysModel" "kinds" "I", Cond.methodLink RX1 47 yX1_isIn, Cond.static yX1_isIn, Cond.code yX1_isIn cX1_isIn 3 (some .boolean), Cond.methodLink RX1 131 yX1_trays, Cond.instanceMethod yX1_trays, Cond.selects RX1 yX1_trays yX1_trays, Cond.code yX1_trays cX1_trays 4 (some .int), Cond.fieldLink RX1 19 "CellTraysModel" "of" "[I", Cond.methodLink RX1 54 yX1_cells, Cond.instanceMethod yX1_cells, Cond.selects RX1 yX1_cells yX1_cells, Cond.code yX1_cells cX1_cells 2 (some .int), Cond.fieldLink RX1 9 "CellTraysModel" "size" "[I", Cond.methodLink RX1 137 yX1_lying, Cond.instanceMethod yX1_lying, Cond.selects RX1 yX1_lying yX1_lying, Cond.code yX1_lying cX1_lying 4 (some .int)]
def wsX1_room_r2 : List Cond := [Cond.fieldLink RX1 25 "CellTraysModel" "many" "[I", Cond.methodLink RX1 78 yX1_no, Cond.instanceMethod yX1_no, Cond.selects RX1 yX1_no yX1_no, Cond.code yX1_no cX1_no 2 (some .int)]
def wsX1_room : List Cond := .code yX1_room cX1_room 2 (some .int) :: ((wsX1_room_r1 ++ wsX1_room_r2) ++ wsX10)
def wsX1_worst : List Cond := .code yX1_worst cX1_worst 5 (some .int) :: ([.fieldLink RX1 40 "CellTraysModel" "thrown" "I", .fieldLink RX1 44 "CellTraysModel" "kinds" "I", .fieldLink RX1 9 "CellTraysModel" "size" "[I", .methodLink RX1 131 yX1_trays, .instanceMethod yX1_trays, .selects RX1 yX1_trays yX1_trays, .initialized RX1, .code yX1_trays cX1_trays 4 (some .int), .fieldLink RX1 19 "CellTraysModel" "of" "[I", .methodLink RX1 137 yX1_lying, .instanceMethod yX1_lying, .selects RX1 yX1_lying yX1_lying, .code yX1_lying cX1_lying 4 (some .int), .fieldLink RX1 25 "CellTraysModel" "many" "[I"] ++ wsX10)
def wsX1_mean : List Cond := .code yX1_mean cX1_mean 1 (some .double) :: ([.fieldLink RX1 40 "CellTraysModel" "thrown" "I", .methodLink RX1 143 yX1_counted, .instanceMethod yX1_counted, .selects RX1 yX1_counted yX1_counted, .initialized RX1, .code yX1_counted cX1_counted 6 (some .int), .fieldLink RX1 19 "CellTraysModel" "of" "[I", .fieldLink RX1 25 "CellTraysModel" "many" "[I", .arrayClass .int, .fieldLink RX1 44 "CellTraysModel" "kinds" "I", .fieldLink RX1 51 "CellTraysModel" "things" "I", .fieldLink RX1 75 "CellTraysModel" "gone" "I", .fieldLink RX1 112 "CellTraysModel" "moved" "I", .methodLink RX1 125 yX1_wasted, .instanceMethod yX1_wasted, .selects RX1 yX1_wasted yX1_wasted, .code yX1_wasted cX1_wasted 2 (some .int), .fieldLink RX1 9 "CellTraysModel" "size" "[I"] ++ wsX10)
def wsX1_digest_r1 : List Cond := [Cond.fieldLink RX1 40 "CellTraysModel" "thrown" "I", Cond.constantLong RX1 146 (1381), Cond.constantLong RX1 148 (31), Cond.fieldLink RX1 44 "CellTraysModel" "kinds" "I", Cond.fieldLink RX1 19 "CellTraysModel" "of" "[I", Cond.fieldLink RX1 28 "CellTraysModel" "inside" "[I", Cond.methodLink RX1 143 yX1_counted, Cond.instanceMethod yX1_counted, Cond.selects RX1 yX1_counted yX1_counted, Cond.initialized RX1, Cond.code yX1_counted cX1_counted 6 (some .int), Cond.fieldLink RX1 25 "CellTraysModel" "many" "[I", Cond.arrayClass .int, Cond.fieldLink RX1 51 "CellTraysModel" "things" "I", Cond.fieldLink RX1 75 "CellTraysModel" "gone" "I", Cond.fieldLink RX1 112 "CellTraysModel" "moved" "I", Cond.methodLink RX1 125 yX1_wasted, Cond.instanceMethod yX1_wasted, Cond.selects RX1 yX1_wasted yX1_wasted, Cond.code yX1_wasted cX1_wasted 2 (some .int), Cond.fieldLink RX1 9 "CellTraysModel" "size" "[I", Cond.methodLink RX1 140 yX1_kindTold, Cond.instanceMethod yX1_kindTold, Cond.selects RX1 yX1_kindTold yX1_kindTold]
def wsX1_digest_r2 : List Cond := [Cond.code yX1_kindTold cX1_kindTold 4 (some .int), Cond.fieldLink RX1 13 "CellTraysModel" "step" "[I", Cond.fieldLink RX1 16 "CellTraysModel" "next" "[I", Cond.methodLink RX1 131 yX1_trays, Cond.instanceMethod yX1_trays, Cond.selects RX1 yX1_trays yX1_trays, Cond.code yX1_trays cX1_trays 4 (some .int), Cond.methodLink RX1 106 yX1_empties, Cond.instanceMethod yX1_empties, Cond.selects RX1 yX1_empties yX1_empties, Cond.code yX1_empties cX1_empties 4 (some .int), Cond.methodLink RX1 62 yX1_isEmpty, Cond.instanceMethod yX1_isEmpty, Cond.selects RX1 yX1_isEmpty yX1_isEmpty, Cond.code yX1_isEmpty cX1_isEmpty 3 (some .boolean), Cond.methodLink RX1 134 yX1_full, Cond.instanceMethod yX1_full, Cond.selects RX1 yX1_full yX1_full, Cond.code yX1_full cX1_full 4 (some .int), Cond.methodLink RX1 54 yX1_cells, Cond.instanceMethod yX1_cells, Cond.selects RX1 yX1_cells yX1_cells, Cond.code yX1_cells cX1_cells 2 (some .int), Cond.methodLink RX1 137 yX1_lying]
def wsX1_digest_r3 : List Cond := [Cond.instanceMethod yX1_lying, Cond.selects RX1 yX1_lying yX1_lying, Cond.code yX1_lying cX1_lying 4 (some .int), Cond.methodLink RX1 128 yX1_trayTold, Cond.instanceMethod yX1_trayTold, Cond.selects RX1 yX1_trayTold yX1_trayTold, Cond.code yX1_trayTold cX1_trayTold 3 (some .int), Cond.fieldLink RX1 22 "CellTraysModel" "offset" "[I"]
def wsX1_digest : List Cond := .code yX1_digest cX1_digest 5 (some .long) :: ((wsX1_digest_r1 ++ (wsX1_digest_r2 ++ wsX1_digest_r3)) ++ wsX10)
def wsL_kind : List Cond := .codeWith yL_kind cL_kind 5 (some .int) [(0, 10, 13, 13), (0, 10, 17, 15)] :: ([.classLink RL 13 "java/lang/IllegalArgumentException", .classLink RL 15 "java/lang/IllegalStateException", .methodLink RL 7 yX0_kind, .instanceMethod yX0_kind, .selects RX0 yX0_kind yX0_kind, .initialized RX0, .code yX0_kind cX0_kind 4 (some .int), .classLink RX0 46 "java/lang/IllegalArgumentException", .initialized "java/lang/IllegalArgumentException", .classLink RX0 59 "java/lang/IllegalStateException", .initialized "java/lang/IllegalStateException", .fieldLink RX0 55 "CellTrays" "kindCount" "I", .fieldLink RX0 9 "CellTrays" "kindSize" "[I", .fieldLink RX0 13 "CellTrays" "kindStep" "[I", .fieldLink RX0 16 "CellTrays" "kindCells" "[I", .fieldLink RX0 19 "CellTrays" "kindRest" "[I"] ++ wsX00 ++ (vx_atS RX0 50 "java/lang/IllegalArgumentException" ["java/lang/RuntimeException", "java/lang/Exception"]).filter goodWord ++ (vx_atS RX0 63 "java/lang/IllegalStateException" ["java/lang/RuntimeException", "java/lang/Exception"]).filter goodWord)
def wsL_put_r1 : List Cond := [Cond.classLink RL 21 "java/lang/IndexOutOfBoundsException", Cond.classLink RL 15 "java/lang/IllegalStateException", Cond.methodLink RL 17 yX0_put, Cond.instanceMethod yX0_put, Cond.selects RX0 yX0_put yX0_put, Cond.initialized RX0, Cond.code yX0_put cX0_put 4 (some .int), Cond.classLink RX0 59 "java/lang/IllegalStateException", Cond.initialized "java/lang/IllegalStateException", Cond.fieldLink RX0 68 "CellTrays" "thingCount" "I", Cond.fieldLink RX0 25 "CellTrays" "trayKind" "[I", Cond.fieldLink RX0 37 "CellTrays" "thingKind" "[I", Cond.methodLink RX0 64 yX0_requireKind, Cond.instanceMethod yX0_requireKind, Cond.selects RX0 yX0_requireKind yX0_requireKind, Cond.code yX0_requireKind cX0_requireKind 2 none, Cond.classLink RX0 121 "java/lang/IndexOutOfBoundsException", Cond.initialized "java/lang/IndexOutOfBoundsException", Cond.fieldLink RX0 55 "CellTrays" "kindCount" "I", Cond.methodLink RX0 73 yX0_placeFor, Cond.instanceMethod yX0_placeFor, Cond.selects RX0 yX0_placeFor yX0_placeFor, Cond.code yX0_placeFor cX0_placeFor 3 (some .int), Cond.methodLink RX0 103 yX0_mostPartly]
def wsL_put_r2 : List Cond := [Cond.instanceMethod yX0_mostPartly, Cond.selects RX0 yX0_mostPartly yX0_mostPartly, Cond.code yX0_mostPartly cX0_mostPartly 5 (some .int), Cond.fieldLink RX0 31 "CellTrays" "trayThings" "[I", Cond.methodLink RX0 180 yX0_isPartly, Cond.instanceMethod yX0_isPartly, Cond.selects RX0 yX0_isPartly yX0_isPartly, Cond.code yX0_isPartly cX0_isPartly 3 (some .boolean), Cond.fieldLink RX0 16 "CellTrays" "kindCells" "[I", Cond.methodLink RX0 91 yX0_firstEmpty, Cond.instanceMethod yX0_firstEmpty, Cond.selects RX0 yX0_firstEmpty yX0_firstEmpty, Cond.code yX0_firstEmpty cX0_firstEmpty 3 (some .int), Cond.methodLink RX0 177 yX0_firstBare, Cond.instanceMethod yX0_firstBare, Cond.selects RX0 yX0_firstBare yX0_firstBare, Cond.code yX0_firstBare cX0_firstBare 2 (some .int), Cond.methodLink RX0 79 yX0_addTray, Cond.instanceMethod yX0_addTray, Cond.selects RX0 yX0_addTray yX0_addTray, Cond.code yX0_addTray cX0_addTray 4 none, Cond.fieldLink RX0 28 "CellTrays" "trayOffset" "[I", Cond.fieldLink RX0 22 "CellTrays" "kindNextOffset" "[I", Cond.fieldLink RX0 13 "CellTrays" "kindStep" "[I"]
def wsL_put_r3 : List Cond := [Cond.fieldLink RX0 19 "CellTrays" "kindRest" "[I", Cond.methodLink RX0 83 yX0_layIn, Cond.instanceMethod yX0_layIn, Cond.selects RX0 yX0_layIn yX0_layIn, Cond.code yX0_layIn cX0_layIn 5 none, Cond.fieldLink RX0 34 "CellTrays" "cellThing" "[I", Cond.fieldLink RX0 40 "CellTrays" "thingPlace" "[I", Cond.fieldLink RX0 43 "CellTrays" "thingCell" "[I", Cond.methodLink RX0 118 yX0_cellsAt, Cond.instanceMethod yX0_cellsAt, Cond.selects RX0 yX0_cellsAt yX0_cellsAt, Cond.code yX0_cellsAt cX0_cellsAt 3 (some .int)]
def wsL_put : List Cond := .codeWith yL_put cL_put 4 (some .int) [(0, 9, 12, 21), (0, 9, 15, 15)] :: ((wsL_put_r1 ++ (wsL_put_r2 ++ wsL_put_r3)) ++ wsX00 ++ (vx_atS RX0 63 "java/lang/IllegalStateException" ["java/lang/RuntimeException", "java/lang/Exception"]).filter goodWord ++ (vx_atS RX0 125 "java/lang/IndexOutOfBoundsException" ["java/lang/RuntimeException", "java/lang/Exception"]).filter goodWord)
def wsL_take_r1 : List Cond := [Cond.classLink RL 21 "java/lang/IndexOutOfBoundsException", Cond.classLink RL 15 "java/lang/IllegalStateException", Cond.methodLink RL 23 yX0_take, Cond.instanceMethod yX0_take, Cond.selects RX0 yX0_take yX0_take, Cond.initialized RX0, Cond.code yX0_take cX0_take 5 (some .boolean), Cond.classLink RX0 59 "java/lang/IllegalStateException", Cond.initialized "java/lang/IllegalStateException", Cond.fieldLink RX0 40 "CellTrays" "thingPlace" "[I", Cond.fieldLink RX0 37 "CellTrays" "thingKind" "[I", Cond.fieldLink RX0 31 "CellTrays" "trayThings" "[I", Cond.methodLink RX0 86 yX0_requireThing, Cond.instanceMethod yX0_requireThing, Cond.selects RX0 yX0_requireThing yX0_requireThing, Cond.code yX0_requireThing cX0_requireThing 2 none, Cond.classLink RX0 121 "java/lang/IndexOutOfBoundsException", Cond.initialized "java/lang/IndexOutOfBoundsException", Cond.fieldLink RX0 68 "CellTrays" "thingCount" "I", Cond.methodLink RX0 91 yX0_firstEmpty, Cond.instanceMethod yX0_firstEmpty, Cond.selects RX0 yX0_firstEmpty yX0_firstEmpty, Cond.code yX0_firstEmpty cX0_firstEmpty 3 (some .int), Cond.fieldLink RX0 25 "CellTrays" "trayKind" "[I"]
def wsL_take_r2 : List Cond := [Cond.methodLink RX0 94 yX0_liftOut, Cond.instanceMethod yX0_liftOut, Cond.selects RX0 yX0_liftOut yX0_liftOut, Cond.code yX0_liftOut cX0_liftOut 3 none, Cond.fieldLink RX0 34 "CellTrays" "cellThing" "[I", Cond.fieldLink RX0 43 "CellTrays" "thingCell" "[I", Cond.methodLink RX0 97 yX0_dropTray, Cond.instanceMethod yX0_dropTray, Cond.selects RX0 yX0_dropTray yX0_dropTray, Cond.code yX0_dropTray cX0_dropTray 2 none, Cond.fieldLink RX0 146 "CellTrays" "goneCount" "I"]
def wsL_take : List Cond := .codeWith yL_take cL_take 4 (some .int) [(0, 16, 19, 21), (0, 16, 22, 15)] :: ((wsL_take_r1 ++ wsL_take_r2) ++ wsX00 ++ (vx_atS RX0 63 "java/lang/IllegalStateException" ["java/lang/RuntimeException", "java/lang/Exception"]).filter goodWord ++ (vx_atS RX0 125 "java/lang/IndexOutOfBoundsException" ["java/lang/RuntimeException", "java/lang/Exception"]).filter goodWord)
def wsL_pack_r1 : List Cond := [Cond.classLink RL 21 "java/lang/IndexOutOfBoundsException", Cond.methodLink RL 27 yX0_pack, Cond.instanceMethod yX0_pack, Cond.selects RX0 yX0_pack yX0_pack, Cond.initialized RX0, Cond.code yX0_pack cX0_pack 5 (some .int), Cond.fieldLink RX0 109 "CellTrays" "movedCount" "I", Cond.methodLink RX0 64 yX0_requireKind, Cond.instanceMethod yX0_requireKind, Cond.selects RX0 yX0_requireKind yX0_requireKind, Cond.code yX0_requireKind cX0_requireKind 2 none, Cond.classLink RX0 121 "java/lang/IndexOutOfBoundsException", Cond.initialized "java/lang/IndexOutOfBoundsException", Cond.fieldLink RX0 55 "CellTrays" "kindCount" "I", Cond.methodLink RX0 100 yX0_leastPartly, Cond.instanceMethod yX0_leastPartly, Cond.selects RX0 yX0_leastPartly yX0_leastPartly, Cond.code yX0_leastPartly cX0_leastPartly 5 (some .int), Cond.fieldLink RX0 31 "CellTrays" "trayThings" "[I", Cond.methodLink RX0 180 yX0_isPartly, Cond.instanceMethod yX0_isPartly, Cond.selects RX0 yX0_isPartly yX0_isPartly, Cond.code yX0_isPartly cX0_isPartly 3 (some .boolean), Cond.fieldLink RX0 25 "CellTrays" "trayKind" "[I"]
def wsL_pack_r2 : List Cond := [Cond.fieldLink RX0 16 "CellTrays" "kindCells" "[I", Cond.methodLink RX0 103 yX0_mostPartly, Cond.instanceMethod yX0_mostPartly, Cond.selects RX0 yX0_mostPartly yX0_mostPartly, Cond.code yX0_mostPartly cX0_mostPartly 5 (some .int), Cond.methodLink RX0 106 yX0_moveLast, Cond.instanceMethod yX0_moveLast, Cond.selects RX0 yX0_moveLast yX0_moveLast, Cond.code yX0_moveLast cX0_moveLast 5 none, Cond.fieldLink RX0 34 "CellTrays" "cellThing" "[I", Cond.methodLink RX0 118 yX0_cellsAt, Cond.instanceMethod yX0_cellsAt, Cond.selects RX0 yX0_cellsAt yX0_cellsAt, Cond.code yX0_cellsAt cX0_cellsAt 3 (some .int), Cond.methodLink RX0 94 yX0_liftOut, Cond.instanceMethod yX0_liftOut, Cond.selects RX0 yX0_liftOut yX0_liftOut, Cond.code yX0_liftOut cX0_liftOut 3 none, Cond.fieldLink RX0 40 "CellTrays" "thingPlace" "[I", Cond.fieldLink RX0 43 "CellTrays" "thingCell" "[I", Cond.methodLink RX0 83 yX0_layIn, Cond.instanceMethod yX0_layIn, Cond.selects RX0 yX0_layIn yX0_layIn, Cond.code yX0_layIn cX0_layIn 5 none]
def wsL_pack : List Cond := .codeWith yL_pack cL_pack 4 (some .int) [(0, 9, 12, 21)] :: ((wsL_pack_r1 ++ wsL_pack_r2) ++ wsX00 ++ (vx_atS RX0 125 "java/lang/IndexOutOfBoundsException" ["java/lang/RuntimeException", "java/lang/Exception"]).filter goodWord)
def wsL_told : List Cond := .codeWith yL_told cL_told 5 (some .int) [(0, 10, 13, 21)] :: ([.classLink RL 21 "java/lang/IndexOutOfBoundsException", .methodLink RL 30 yX0_told, .instanceMethod yX0_told, .selects RX0 yX0_told yX0_told, .initialized RX0, .code yX0_told cX0_told 6 (some .int), .fieldLink RX0 37 "CellTrays" "thingKind" "[I", .fieldLink RX0 40 "CellTrays" "thingPlace" "[I", .fieldLink RX0 43 "CellTrays" "thingCell" "[I", .fieldLink RX0 28 "CellTrays" "trayOffset" "[I", .fieldLink RX0 9 "CellTrays" "kindSize" "[I", .methodLink RX0 86 yX0_requireThing, .instanceMethod yX0_requireThing, .selects RX0 yX0_requireThing yX0_requireThing, .code yX0_requireThing cX0_requireThing 2 none, .classLink RX0 121 "java/lang/IndexOutOfBoundsException", .initialized "java/lang/IndexOutOfBoundsException", .fieldLink RX0 68 "CellTrays" "thingCount" "I", .methodLink RX0 112 yX0_requireWhat, .instanceMethod yX0_requireWhat, .selects RX0 yX0_requireWhat yX0_requireWhat, .code yX0_requireWhat cX0_requireWhat 3 none] ++ wsX00 ++ (vx_atS RX0 125 "java/lang/IndexOutOfBoundsException" ["java/lang/RuntimeException", "java/lang/Exception"]).filter goodWord)
def wsL_tray : List Cond := .codeWith yL_tray cL_tray 5 (some .int) [(0, 10, 13, 21)] :: ([.classLink RL 21 "java/lang/IndexOutOfBoundsException", .methodLink RL 33 yX0_tray, .instanceMethod yX0_tray, .selects RX0 yX0_tray yX0_tray, .initialized RX0, .code yX0_tray cX0_tray 4 (some .int), .fieldLink RX0 25 "CellTrays" "trayKind" "[I", .fieldLink RX0 28 "CellTrays" "trayOffset" "[I", .fieldLink RX0 16 "CellTrays" "kindCells" "[I", .fieldLink RX0 31 "CellTrays" "trayThings" "[I", .fieldLink RX0 9 "CellTrays" "kindSize" "[I", .methodLink RX0 115 yX0_requirePlace, .instanceMethod yX0_requirePlace, .selects RX0 yX0_requirePlace yX0_requirePlace, .code yX0_requirePlace cX0_requirePlace 2 none, .classLink RX0 121 "java/lang/IndexOutOfBoundsException", .initialized "java/lang/IndexOutOfBoundsException", .methodLink RX0 112 yX0_requireWhat, .instanceMethod yX0_requireWhat, .selects RX0 yX0_requireWhat yX0_requireWhat, .code yX0_requireWhat cX0_requireWhat 3 none] ++ wsX00 ++ (vx_atS RX0 125 "java/lang/IndexOutOfBoundsException" ["java/lang/RuntimeException", "java/lang/Exception"]).filter goodWord)
def wsL_cell : List Cond := .codeWith yL_cell cL_cell 5 (some .int) [(0, 10, 13, 21)] :: ([.classLink RL 21 "java/lang/IndexOutOfBoundsException", .methodLink RL 36 yX0_cell, .instanceMethod yX0_cell, .selects RX0 yX0_cell yX0_cell, .initialized RX0, .code yX0_cell cX0_cell 3 (some .int), .classLink RX0 121 "java/lang/IndexOutOfBoundsException", .initialized "java/lang/IndexOutOfBoundsException", .fieldLink RX0 34 "CellTrays" "cellThing" "[I", .methodLink RX0 115 yX0_requirePlace, .instanceMethod yX0_requirePlace, .selects RX0 yX0_requirePlace yX0_requirePlace, .code yX0_requirePlace cX0_requirePlace 2 none, .methodLink RX0 118 yX0_cellsAt, .instanceMethod yX0_cellsAt, .selects RX0 yX0_cellsAt yX0_cellsAt, .code yX0_cellsAt cX0_cellsAt 3 (some .int), .fieldLink RX0 25 "CellTrays" "trayKind" "[I", .fieldLink RX0 16 "CellTrays" "kindCells" "[I"] ++ wsX00 ++ (vx_atS RX0 125 "java/lang/IndexOutOfBoundsException" ["java/lang/RuntimeException", "java/lang/Exception"]).filter goodWord)
def wsL_about_r1 : List Cond := [Cond.classLink RL 21 "java/lang/IndexOutOfBoundsException", Cond.methodLink RL 39 yX0_about, Cond.instanceMethod yX0_about, Cond.selects RX0 yX0_about yX0_about, Cond.initialized RX0, Cond.code yX0_about cX0_about 3 (some .int), Cond.fieldLink RX0 9 "CellTrays" "kindSize" "[I", Cond.fieldLink RX0 13 "CellTrays" "kindStep" "[I", Cond.fieldLink RX0 16 "CellTrays" "kindCells" "[I", Cond.fieldLink RX0 22 "CellTrays" "kindNextOffset" "[I", Cond.methodLink RX0 64 yX0_requireKind, Cond.instanceMethod yX0_requireKind, Cond.selects RX0 yX0_requireKind yX0_requireKind, Cond.code yX0_requireKind cX0_requireKind 2 none, Cond.classLink RX0 121 "java/lang/IndexOutOfBoundsException", Cond.initialized "java/lang/IndexOutOfBoundsException", Cond.fieldLink RX0 55 "CellTrays" "kindCount" "I", Cond.methodLink RX0 112 yX0_requireWhat, Cond.instanceMethod yX0_requireWhat, Cond.selects RX0 yX0_requireWhat yX0_requireWhat, Cond.code yX0_requireWhat cX0_requireWhat 3 none, Cond.methodLink RX0 126 yX0_traysOf, Cond.instanceMethod yX0_traysOf, Cond.selects RX0 yX0_traysOf yX0_traysOf]
def wsL_about_r2 : List Cond := [Cond.code yX0_traysOf cX0_traysOf 4 (some .int), Cond.fieldLink RX0 25 "CellTrays" "trayKind" "[I", Cond.methodLink RX0 129 yX0_traysHolding, Cond.instanceMethod yX0_traysHolding, Cond.selects RX0 yX0_traysHolding yX0_traysHolding, Cond.code yX0_traysHolding cX0_traysHolding 5 (some .int), Cond.fieldLink RX0 31 "CellTrays" "trayThings" "[I", Cond.methodLink RX0 133 yX0_thingsOf, Cond.instanceMethod yX0_thingsOf, Cond.selects RX0 yX0_thingsOf yX0_thingsOf, Cond.code yX0_thingsOf cX0_thingsOf 4 (some .int), Cond.methodLink RX0 136 yX0_freeCellsOf, Cond.instanceMethod yX0_freeCellsOf, Cond.selects RX0 yX0_freeCellsOf yX0_freeCellsOf, Cond.code yX0_freeCellsOf cX0_freeCellsOf 2 (some .int)]
def wsL_about : List Cond := .codeWith yL_about cL_about 5 (some .int) [(0, 10, 13, 21)] :: ((wsL_about_r1 ++ wsL_about_r2) ++ wsX00 ++ (vx_atS RX0 125 "java/lang/IndexOutOfBoundsException" ["java/lang/RuntimeException", "java/lang/Exception"]).filter goodWord)
def wsL_count_r1 : List Cond := [Cond.classLink RL 21 "java/lang/IndexOutOfBoundsException", Cond.methodLink RL 42 yX0_count, Cond.instanceMethod yX0_count, Cond.selects RX0 yX0_count yX0_count, Cond.initialized RX0, Cond.code yX0_count cX0_count 2 (some .int), Cond.fieldLink RX0 55 "CellTrays" "kindCount" "I", Cond.fieldLink RX0 68 "CellTrays" "thingCount" "I", Cond.fieldLink RX0 146 "CellTrays" "goneCount" "I", Cond.fieldLink RX0 109 "CellTrays" "movedCount" "I", Cond.methodLink RX0 112 yX0_requireWhat, Cond.instanceMethod yX0_requireWhat, Cond.selects RX0 yX0_requireWhat yX0_requireWhat, Cond.code yX0_requireWhat cX0_requireWhat 3 none, Cond.classLink RX0 121 "java/lang/IndexOutOfBoundsException", Cond.initialized "java/lang/IndexOutOfBoundsException", Cond.methodLink RX0 126 yX0_traysOf, Cond.instanceMethod yX0_traysOf, Cond.selects RX0 yX0_traysOf yX0_traysOf, Cond.code yX0_traysOf cX0_traysOf 4 (some .int), Cond.fieldLink RX0 25 "CellTrays" "trayKind" "[I", Cond.methodLink RX0 139 yX0_thingsThere, Cond.instanceMethod yX0_thingsThere, Cond.selects RX0 yX0_thingsThere yX0_thingsThere]
def wsL_count_r2 : List Cond := [Cond.code yX0_thingsThere cX0_thingsThere 3 (some .int), Cond.methodLink RX0 133 yX0_thingsOf, Cond.instanceMethod yX0_thingsOf, Cond.selects RX0 yX0_thingsOf yX0_thingsOf, Cond.code yX0_thingsOf cX0_thingsOf 4 (some .int), Cond.fieldLink RX0 31 "CellTrays" "trayThings" "[I", Cond.methodLink RX0 143 yX0_wastedInAll, Cond.instanceMethod yX0_wastedInAll, Cond.selects RX0 yX0_wastedInAll yX0_wastedInAll, Cond.code yX0_wastedInAll cX0_wastedInAll 3 (some .int), Cond.methodLink RX0 149 yX0_wastedBy, Cond.instanceMethod yX0_wastedBy, Cond.selects RX0 yX0_wastedBy yX0_wastedBy, Cond.code yX0_wastedBy cX0_wastedBy 2 (some .int), Cond.fieldLink RX0 9 "CellTrays" "kindSize" "[I"]
def wsL_count : List Cond := .codeWith yL_count cL_count 4 (some .int) [(0, 9, 12, 21)] :: ((wsL_count_r1 ++ wsL_count_r2) ++ wsX00 ++ (vx_atS RX0 125 "java/lang/IndexOutOfBoundsException" ["java/lang/RuntimeException", "java/lang/Exception"]).filter goodWord)
def wsL_would_r1 : List Cond := [Cond.classLink RL 21 "java/lang/IndexOutOfBoundsException", Cond.methodLink RL 45 yX0_would, Cond.instanceMethod yX0_would, Cond.selects RX0 yX0_would yX0_would, Cond.initialized RX0, Cond.code yX0_would cX0_would 2 (some .int), Cond.methodLink RX0 64 yX0_requireKind, Cond.instanceMethod yX0_requireKind, Cond.selects RX0 yX0_requireKind yX0_requireKind, Cond.code yX0_requireKind cX0_requireKind 2 none, Cond.classLink RX0 121 "java/lang/IndexOutOfBoundsException", Cond.initialized "java/lang/IndexOutOfBoundsException", Cond.fieldLink RX0 55 "CellTrays" "kindCount" "I", Cond.methodLink RX0 73 yX0_placeFor, Cond.instanceMethod yX0_placeFor, Cond.selects RX0 yX0_placeFor yX0_placeFor, Cond.code yX0_placeFor cX0_placeFor 3 (some .int), Cond.methodLink RX0 103 yX0_mostPartly, Cond.instanceMethod yX0_mostPartly, Cond.selects RX0 yX0_mostPartly yX0_mostPartly, Cond.code yX0_mostPartly cX0_mostPartly 5 (some .int), Cond.fieldLink RX0 31 "CellTrays" "trayThings" "[I", Cond.methodLink RX0 180 yX0_isPartly, Cond.instanceMethod yX0_isPartly]
def wsL_would_r2 : List Cond := [Cond.selects RX0 yX0_isPartly yX0_isPartly, Cond.code yX0_isPartly cX0_isPartly 3 (some .boolean), Cond.fieldLink RX0 25 "CellTrays" "trayKind" "[I", Cond.fieldLink RX0 16 "CellTrays" "kindCells" "[I", Cond.methodLink RX0 91 yX0_firstEmpty, Cond.instanceMethod yX0_firstEmpty, Cond.selects RX0 yX0_firstEmpty yX0_firstEmpty, Cond.code yX0_firstEmpty cX0_firstEmpty 3 (some .int), Cond.methodLink RX0 177 yX0_firstBare, Cond.instanceMethod yX0_firstBare, Cond.selects RX0 yX0_firstBare yX0_firstBare, Cond.code yX0_firstBare cX0_firstBare 2 (some .int)]
def wsL_would : List Cond := .codeWith yL_would cL_would 4 (some .int) [(0, 9, 12, 21)] :: ((wsL_would_r1 ++ wsL_would_r2) ++ wsX00 ++ (vx_atS RX0 125 "java/lang/IndexOutOfBoundsException" ["java/lang/RuntimeException", "java/lang/Exception"]).filter goodWord)
def wsL_spares : List Cond := .codeWith yL_spares cL_spares 4 (some .int) [(0, 9, 12, 21)] :: ([.classLink RL 21 "java/lang/IndexOutOfBoundsException", .methodLink RL 48 yX0_spares, .instanceMethod yX0_spares, .selects RX0 yX0_spares yX0_spares, .initialized RX0, .code yX0_spares cX0_spares 5 (some .int), .fieldLink RX0 25 "CellTrays" "trayKind" "[I", .fieldLink RX0 16 "CellTrays" "kindCells" "[I", .methodLink RX0 64 yX0_requireKind, .instanceMethod yX0_requireKind, .selects RX0 yX0_requireKind yX0_requireKind, .code yX0_requireKind cX0_requireKind 2 none, .classLink RX0 121 "java/lang/IndexOutOfBoundsException", .initialized "java/lang/IndexOutOfBoundsException", .fieldLink RX0 55 "CellTrays" "kindCount" "I", .methodLink RX0 133 yX0_thingsOf, .instanceMethod yX0_thingsOf, .selects RX0 yX0_thingsOf yX0_thingsOf, .code yX0_thingsOf cX0_thingsOf 4 (some .int), .fieldLink RX0 31 "CellTrays" "trayThings" "[I"] ++ wsX00 ++ (vx_atS RX0 125 "java/lang/IndexOutOfBoundsException" ["java/lang/RuntimeException", "java/lang/Exception"]).filter goodWord)
def wsL_room_r1 : List Cond := [Cond.classLink RL 21 "java/lang/IndexOutOfBoundsException", Cond.methodLink RL 51 yX0_room, Cond.instanceMethod yX0_room, Cond.selects RX0 yX0_room yX0_room, Cond.initialized RX0, Cond.code yX0_room cX0_room 2 (some .int), Cond.fieldLink RX0 16 "CellTrays" "kindCells" "[I", Cond.methodLink RX0 64 yX0_requireKind, Cond.instanceMethod yX0_requireKind, Cond.selects RX0 yX0_requireKind yX0_requireKind, Cond.code yX0_requireKind cX0_requireKind 2 none, Cond.classLink RX0 121 "java/lang/IndexOutOfBoundsException", Cond.initialized "java/lang/IndexOutOfBoundsException", Cond.fieldLink RX0 55 "CellTrays" "kindCount" "I", Cond.methodLink RX0 136 yX0_freeCellsOf, Cond.instanceMethod yX0_freeCellsOf, Cond.selects RX0 yX0_freeCellsOf yX0_freeCellsOf, Cond.code yX0_freeCellsOf cX0_freeCellsOf 2 (some .int), Cond.methodLink RX0 126 yX0_traysOf, Cond.instanceMethod yX0_traysOf, Cond.selects RX0 yX0_traysOf yX0_traysOf, Cond.code yX0_traysOf cX0_traysOf 4 (some .int), Cond.fieldLink RX0 25 "CellTrays" "trayKind" "[I", Cond.methodLink RX0 133 yX0_thingsOf]
def wsL_room_r2 : List Cond := [Cond.instanceMethod yX0_thingsOf, Cond.selects RX0 yX0_thingsOf yX0_thingsOf, Cond.code yX0_thingsOf cX0_thingsOf 4 (some .int), Cond.fieldLink RX0 31 "CellTrays" "trayThings" "[I"]
def wsL_room : List Cond := .codeWith yL_room cL_room 4 (some .int) [(0, 9, 12, 21)] :: ((wsL_room_r1 ++ wsL_room_r2) ++ wsX00 ++ (vx_atS RX0 125 "java/lang/IndexOutOfBoundsException" ["java/lang/RuntimeException", "java/lang/Exception"]).filter goodWord)
def wsL_law0_r1 : List Cond := [Cond.classLink RL 8 RX0, Cond.instantiable RX0 16, Cond.initialized RX0, Cond.classLink RL 55 RX1, Cond.instantiable RX1 15, Cond.initialized RX1, Cond.arrayClass .long, Cond.methodLink RL 54 yX0_init, Cond.instanceMethod yX0_init, Cond.code yX0_init cX0_init 2 none, Cond.methodLink RX0 1 objectInit, Cond.instanceMethod objectInit, Cond.code objectInit ⟨#[0xb1]⟩ 1 none, Cond.arrayClass .int, Cond.fieldLink RX0 9 "CellTrays" "kindSize" "[I", Cond.fieldLink RX0 13 "CellTrays" "kindStep" "[I", Cond.fieldLink RX0 16 "CellTrays" "kindCells" "[I", Cond.fieldLink RX0 19 "CellTrays" "kindRest" "[I", Cond.fieldLink RX0 22 "CellTrays" "kindNextOffset" "[I", Cond.fieldLink RX0 25 "CellTrays" "trayKind" "[I", Cond.fieldLink RX0 28 "CellTrays" "trayOffset" "[I", Cond.fieldLink RX0 31 "CellTrays" "trayThings" "[I", Cond.fieldLink RX0 34 "CellTrays" "cellThing" "[I", Cond.fieldLink RX0 37 "CellTrays" "thingKind" "[I"]
def wsL_law0_r2 : List Cond := [Cond.fieldLink RX0 40 "CellTrays" "thingPlace" "[I", Cond.fieldLink RX0 43 "CellTrays" "thingCell" "[I", Cond.methodLink RL 57 yX1_init, Cond.instanceMethod yX1_init, Cond.code yX1_init cX1_init 2 none, Cond.methodLink RX1 1 objectInit, Cond.fieldLink RX1 9 "CellTraysModel" "size" "[I", Cond.fieldLink RX1 13 "CellTraysModel" "step" "[I", Cond.fieldLink RX1 16 "CellTraysModel" "next" "[I", Cond.fieldLink RX1 19 "CellTraysModel" "of" "[I", Cond.fieldLink RX1 22 "CellTraysModel" "offset" "[I", Cond.fieldLink RX1 25 "CellTraysModel" "many" "[I", Cond.fieldLink RX1 28 "CellTraysModel" "inside" "[I", Cond.fieldLink RX1 31 "CellTraysModel" "kindOf" "[I", Cond.fieldLink RX1 34 "CellTraysModel" "place" "[I", Cond.fieldLink RX1 37 "CellTraysModel" "cell" "[I", Cond.methodLink RL 58 yL_kind, Cond.static yL_kind, Cond.initialized RL, Cond.codeWith yL_kind cL_kind 5 (some .int) [(0, 10, 13, 13), (0, 10, 17, 15)], Cond.classLink RL 13 "java/lang/IllegalArgumentException", Cond.classLink RL 15 "java/lang/IllegalStateException", Cond.methodLink RL 7 yX0_kind, Cond.instanceMethod yX0_kind]
def wsL_law0_r3 : List Cond := [Cond.selects RX0 yX0_kind yX0_kind, Cond.code yX0_kind cX0_kind 4 (some .int), Cond.classLink RX0 46 "java/lang/IllegalArgumentException", Cond.initialized "java/lang/IllegalArgumentException", Cond.classLink RX0 59 "java/lang/IllegalStateException", Cond.initialized "java/lang/IllegalStateException", Cond.fieldLink RX0 55 "CellTrays" "kindCount" "I", Cond.methodLink RL 63 yX1_kind, Cond.instanceMethod yX1_kind, Cond.selects RX1 yX1_kind yX1_kind, Cond.code yX1_kind cX1_kind 3 (some .int), Cond.fieldLink RX1 40 "CellTraysModel" "thrown" "I", Cond.fieldLink RX1 44 "CellTraysModel" "kinds" "I", Cond.methodLink RX1 47 yX1_isIn, Cond.static yX1_isIn, Cond.code yX1_isIn cX1_isIn 3 (some .boolean), Cond.methodLink RX1 78 yX1_no, Cond.instanceMethod yX1_no, Cond.selects RX1 yX1_no yX1_no, Cond.code yX1_no cX1_no 2 (some .int), Cond.methodLink RL 64 yX1_thrown, Cond.instanceMethod yX1_thrown, Cond.selects RX1 yX1_thrown yX1_thrown, Cond.code yX1_thrown cX1_thrown 1 (some .int)]
def wsL_law0_r4 : List Cond := [Cond.methodLink RL 68 yL_put, Cond.static yL_put, Cond.codeWith yL_put cL_put 4 (some .int) [(0, 9, 12, 21), (0, 9, 15, 15)], Cond.classLink RL 21 "java/lang/IndexOutOfBoundsException", Cond.methodLink RL 17 yX0_put, Cond.instanceMethod yX0_put, Cond.selects RX0 yX0_put yX0_put, Cond.code yX0_put cX0_put 4 (some .int), Cond.fieldLink RX0 68 "CellTrays" "thingCount" "I", Cond.methodLink RX0 64 yX0_requireKind, Cond.instanceMethod yX0_requireKind, Cond.selects RX0 yX0_requireKind yX0_requireKind, Cond.code yX0_requireKind cX0_requireKind 2 none, Cond.classLink RX0 121 "java/lang/IndexOutOfBoundsException", Cond.initialized "java/lang/IndexOutOfBoundsException", Cond.methodLink RX0 73 yX0_placeFor, Cond.instanceMethod yX0_placeFor, Cond.selects RX0 yX0_placeFor yX0_placeFor, Cond.code yX0_placeFor cX0_placeFor 3 (some .int), Cond.methodLink RX0 103 yX0_mostPartly, Cond.instanceMethod yX0_mostPartly, Cond.selects RX0 yX0_mostPartly yX0_mostPartly, Cond.code yX0_mostPartly cX0_mostPartly 5 (some .int), Cond.methodLink RX0 180 yX0_isPartly]
def wsL_law0_r5 : List Cond := [Cond.instanceMethod yX0_isPartly, Cond.selects RX0 yX0_isPartly yX0_isPartly, Cond.code yX0_isPartly cX0_isPartly 3 (some .boolean), Cond.methodLink RX0 91 yX0_firstEmpty, Cond.instanceMethod yX0_firstEmpty, Cond.selects RX0 yX0_firstEmpty yX0_firstEmpty, Cond.code yX0_firstEmpty cX0_firstEmpty 3 (some .int), Cond.methodLink RX0 177 yX0_firstBare, Cond.instanceMethod yX0_firstBare, Cond.selects RX0 yX0_firstBare yX0_firstBare, Cond.code yX0_firstBare cX0_firstBare 2 (some .int), Cond.methodLink RX0 79 yX0_addTray, Cond.instanceMethod yX0_addTray, Cond.selects RX0 yX0_addTray yX0_addTray, Cond.code yX0_addTray cX0_addTray 4 none, Cond.methodLink RX0 83 yX0_layIn, Cond.instanceMethod yX0_layIn, Cond.selects RX0 yX0_layIn yX0_layIn, Cond.code yX0_layIn cX0_layIn 5 none, Cond.methodLink RX0 118 yX0_cellsAt, Cond.instanceMethod yX0_cellsAt, Cond.selects RX0 yX0_cellsAt yX0_cellsAt, Cond.code yX0_cellsAt cX0_cellsAt 3 (some .int), Cond.methodLink RL 71 yX1_put]
def wsL_law0_r6 : List Cond := [Cond.instanceMethod yX1_put, Cond.selects RX1 yX1_put yX1_put, Cond.code yX1_put cX1_put 3 (some .int), Cond.fieldLink RX1 51 "CellTraysModel" "things" "I", Cond.methodLink RX1 81 yX1_isKind, Cond.instanceMethod yX1_isKind, Cond.selects RX1 yX1_isKind yX1_isKind, Cond.code yX1_isKind cX1_isKind 2 (some .boolean), Cond.methodLink RX1 85 yX1_goesTo, Cond.instanceMethod yX1_goesTo, Cond.selects RX1 yX1_goesTo yX1_goesTo, Cond.code yX1_goesTo cX1_goesTo 4 (some .int), Cond.methodLink RX1 65 yX1_fullest, Cond.instanceMethod yX1_fullest, Cond.selects RX1 yX1_fullest yX1_fullest, Cond.code yX1_fullest cX1_fullest 4 (some .int), Cond.methodLink RX1 58 yX1_isPartly, Cond.instanceMethod yX1_isPartly, Cond.selects RX1 yX1_isPartly yX1_isPartly, Cond.code yX1_isPartly cX1_isPartly 3 (some .boolean), Cond.methodLink RX1 54 yX1_cells, Cond.instanceMethod yX1_cells, Cond.selects RX1 yX1_cells yX1_cells, Cond.code yX1_cells cX1_cells 2 (some .int)]
def wsL_law0_r7 : List Cond := [Cond.methodLink RX1 68 yX1_firstEmpty, Cond.instanceMethod yX1_firstEmpty, Cond.selects RX1 yX1_firstEmpty yX1_firstEmpty, Cond.code yX1_firstEmpty cX1_firstEmpty 3 (some .int), Cond.methodLink RX1 62 yX1_isEmpty, Cond.instanceMethod yX1_isEmpty, Cond.selects RX1 yX1_isEmpty yX1_isEmpty, Cond.code yX1_isEmpty cX1_isEmpty 3 (some .boolean), Cond.methodLink RX1 71 yX1_firstFree, Cond.instanceMethod yX1_firstFree, Cond.selects RX1 yX1_firstFree yX1_firstFree, Cond.code yX1_firstFree cX1_firstFree 2 (some .int), Cond.methodLink RX1 88 yX1_open, Cond.instanceMethod yX1_open, Cond.selects RX1 yX1_open yX1_open, Cond.code yX1_open cX1_open 4 none, Cond.methodLink RX1 92 yX1_freeCell, Cond.instanceMethod yX1_freeCell, Cond.selects RX1 yX1_freeCell yX1_freeCell, Cond.code yX1_freeCell cX1_freeCell 3 (some .int), Cond.methodLink RX1 95 yX1_lay, Cond.instanceMethod yX1_lay, Cond.selects RX1 yX1_lay yX1_lay, Cond.code yX1_lay cX1_lay 4 none]
def wsL_law0_r8 : List Cond := [Cond.methodLink RL 72 yL_take, Cond.static yL_take, Cond.codeWith yL_take cL_take 4 (some .int) [(0, 16, 19, 21), (0, 16, 22, 15)], Cond.methodLink RL 23 yX0_take, Cond.instanceMethod yX0_take, Cond.selects RX0 yX0_take yX0_take, Cond.code yX0_take cX0_take 5 (some .boolean), Cond.methodLink RX0 86 yX0_requireThing, Cond.instanceMethod yX0_requireThing, Cond.selects RX0 yX0_requireThing yX0_requireThing, Cond.code yX0_requireThing cX0_requireThing 2 none, Cond.methodLink RX0 94 yX0_liftOut, Cond.instanceMethod yX0_liftOut, Cond.selects RX0 yX0_liftOut yX0_liftOut, Cond.code yX0_liftOut cX0_liftOut 3 none, Cond.methodLink RX0 97 yX0_dropTray, Cond.instanceMethod yX0_dropTray, Cond.selects RX0 yX0_dropTray yX0_dropTray, Cond.code yX0_dropTray cX0_dropTray 2 none, Cond.fieldLink RX0 146 "CellTrays" "goneCount" "I", Cond.methodLink RL 74 yX1_take, Cond.instanceMethod yX1_take, Cond.selects RX1 yX1_take yX1_take, Cond.code yX1_take cX1_take 3 (some .boolean)]
def wsL_law0_r9 : List Cond := [Cond.methodLink RX1 99 yX1_isThing, Cond.instanceMethod yX1_isThing, Cond.selects RX1 yX1_isThing yX1_isThing, Cond.code yX1_isThing cX1_isThing 2 (some .boolean), Cond.methodLink RX1 102 yX1_lift, Cond.instanceMethod yX1_lift, Cond.selects RX1 yX1_lift yX1_lift, Cond.code yX1_lift cX1_lift 2 none, Cond.methodLink RX1 106 yX1_empties, Cond.instanceMethod yX1_empties, Cond.selects RX1 yX1_empties yX1_empties, Cond.code yX1_empties cX1_empties 4 (some .int), Cond.methodLink RX1 109 yX1_close, Cond.instanceMethod yX1_close, Cond.selects RX1 yX1_close yX1_close, Cond.code yX1_close cX1_close 2 none, Cond.fieldLink RX1 75 "CellTraysModel" "gone" "I", Cond.methodLink RL 75 yX0_sweep, Cond.instanceMethod yX0_sweep, Cond.selects RX0 yX0_sweep yX0_sweep, Cond.code yX0_sweep cX0_sweep 3 (some .int), Cond.methodLink RL 78 yX1_sweep, Cond.instanceMethod yX1_sweep, Cond.selects RX1 yX1_sweep yX1_sweep]
def wsL_law0_r10 : List Cond := [Cond.code yX1_sweep cX1_sweep 3 (some .int), Cond.methodLink RL 79 yL_pack, Cond.static yL_pack, Cond.codeWith yL_pack cL_pack 4 (some .int) [(0, 9, 12, 21)], Cond.methodLink RL 27 yX0_pack, Cond.instanceMethod yX0_pack, Cond.selects RX0 yX0_pack yX0_pack, Cond.code yX0_pack cX0_pack 5 (some .int), Cond.fieldLink RX0 109 "CellTrays" "movedCount" "I", Cond.methodLink RX0 100 yX0_leastPartly, Cond.instanceMethod yX0_leastPartly, Cond.selects RX0 yX0_leastPartly yX0_leastPartly, Cond.code yX0_leastPartly cX0_leastPartly 5 (some .int), Cond.methodLink RX0 106 yX0_moveLast, Cond.instanceMethod yX0_moveLast, Cond.selects RX0 yX0_moveLast yX0_moveLast, Cond.code yX0_moveLast cX0_moveLast 5 none, Cond.methodLink RL 81 yX1_pack, Cond.instanceMethod yX1_pack, Cond.selects RX1 yX1_pack yX1_pack, Cond.code yX1_pack cX1_pack 5 (some .int), Cond.fieldLink RX1 112 "CellTraysModel" "moved" "I", Cond.methodLink RX1 115 yX1_leanest, Cond.instanceMethod yX1_leanest]
def wsL_law0_r11 : List Cond := [Cond.selects RX1 yX1_leanest yX1_leanest, Cond.code yX1_leanest cX1_leanest 4 (some .int), Cond.methodLink RX1 118 yX1_lastThing, Cond.instanceMethod yX1_lastThing, Cond.selects RX1 yX1_lastThing yX1_lastThing, Cond.code yX1_lastThing cX1_lastThing 3 (some .int), Cond.methodLink RL 82 yL_told, Cond.static yL_told, Cond.codeWith yL_told cL_told 5 (some .int) [(0, 10, 13, 21)], Cond.methodLink RL 30 yX0_told, Cond.instanceMethod yX0_told, Cond.selects RX0 yX0_told yX0_told, Cond.code yX0_told cX0_told 6 (some .int), Cond.methodLink RX0 112 yX0_requireWhat, Cond.instanceMethod yX0_requireWhat, Cond.selects RX0 yX0_requireWhat yX0_requireWhat, Cond.code yX0_requireWhat cX0_requireWhat 3 none, Cond.methodLink RL 84 yX1_told, Cond.instanceMethod yX1_told, Cond.selects RX1 yX1_told yX1_told, Cond.code yX1_told cX1_told 3 (some .int), Cond.methodLink RX1 121 yX1_thingTold, Cond.instanceMethod yX1_thingTold, Cond.selects RX1 yX1_thingTold yX1_thingTold]
def wsL_law0_r12 : List Cond := [Cond.code yX1_thingTold cX1_thingTold 4 (some .int), Cond.methodLink RL 85 yL_tray, Cond.static yL_tray, Cond.codeWith yL_tray cL_tray 5 (some .int) [(0, 10, 13, 21)], Cond.methodLink RL 33 yX0_tray, Cond.instanceMethod yX0_tray, Cond.selects RX0 yX0_tray yX0_tray, Cond.code yX0_tray cX0_tray 4 (some .int), Cond.methodLink RX0 115 yX0_requirePlace, Cond.instanceMethod yX0_requirePlace, Cond.selects RX0 yX0_requirePlace yX0_requirePlace, Cond.code yX0_requirePlace cX0_requirePlace 2 none, Cond.methodLink RL 87 yX1_tray, Cond.instanceMethod yX1_tray, Cond.selects RX1 yX1_tray yX1_tray, Cond.code yX1_tray cX1_tray 3 (some .int), Cond.methodLink RX1 128 yX1_trayTold, Cond.instanceMethod yX1_trayTold, Cond.selects RX1 yX1_trayTold yX1_trayTold, Cond.code yX1_trayTold cX1_trayTold 3 (some .int), Cond.methodLink RX1 125 yX1_wasted, Cond.instanceMethod yX1_wasted, Cond.selects RX1 yX1_wasted yX1_wasted, Cond.code yX1_wasted cX1_wasted 2 (some .int)]
def wsL_law0_r13 : List Cond := [Cond.methodLink RL 88 yL_cell, Cond.static yL_cell, Cond.codeWith yL_cell cL_cell 5 (some .int) [(0, 10, 13, 21)], Cond.methodLink RL 36 yX0_cell, Cond.instanceMethod yX0_cell, Cond.selects RX0 yX0_cell yX0_cell, Cond.code yX0_cell cX0_cell 3 (some .int), Cond.methodLink RL 90 yX1_cell, Cond.instanceMethod yX1_cell, Cond.selects RX1 yX1_cell yX1_cell, Cond.code yX1_cell cX1_cell 3 (some .int), Cond.methodLink RL 91 yL_about, Cond.static yL_about, Cond.codeWith yL_about cL_about 5 (some .int) [(0, 10, 13, 21)], Cond.methodLink RL 39 yX0_about, Cond.instanceMethod yX0_about, Cond.selects RX0 yX0_about yX0_about, Cond.code yX0_about cX0_about 3 (some .int), Cond.methodLink RX0 126 yX0_traysOf, Cond.instanceMethod yX0_traysOf, Cond.selects RX0 yX0_traysOf yX0_traysOf, Cond.code yX0_traysOf cX0_traysOf 4 (some .int), Cond.methodLink RX0 129 yX0_traysHolding, Cond.instanceMethod yX0_traysHolding]
def wsL_law0_r14 : List Cond := [Cond.selects RX0 yX0_traysHolding yX0_traysHolding, Cond.code yX0_traysHolding cX0_traysHolding 5 (some .int), Cond.methodLink RX0 133 yX0_thingsOf, Cond.instanceMethod yX0_thingsOf, Cond.selects RX0 yX0_thingsOf yX0_thingsOf, Cond.code yX0_thingsOf cX0_thingsOf 4 (some .int), Cond.methodLink RX0 136 yX0_freeCellsOf, Cond.instanceMethod yX0_freeCellsOf, Cond.selects RX0 yX0_freeCellsOf yX0_freeCellsOf, Cond.code yX0_freeCellsOf cX0_freeCellsOf 2 (some .int), Cond.methodLink RL 93 yX1_about, Cond.instanceMethod yX1_about, Cond.selects RX1 yX1_about yX1_about, Cond.code yX1_about cX1_about 3 (some .int), Cond.methodLink RX1 140 yX1_kindTold, Cond.instanceMethod yX1_kindTold, Cond.selects RX1 yX1_kindTold yX1_kindTold, Cond.code yX1_kindTold cX1_kindTold 4 (some .int), Cond.methodLink RX1 131 yX1_trays, Cond.instanceMethod yX1_trays, Cond.selects RX1 yX1_trays yX1_trays, Cond.code yX1_trays cX1_trays 4 (some .int), Cond.methodLink RX1 134 yX1_full, Cond.instanceMethod yX1_full]
def wsL_law0_r15 : List Cond := [Cond.selects RX1 yX1_full yX1_full, Cond.code yX1_full cX1_full 4 (some .int), Cond.methodLink RX1 137 yX1_lying, Cond.instanceMethod yX1_lying, Cond.selects RX1 yX1_lying yX1_lying, Cond.code yX1_lying cX1_lying 4 (some .int), Cond.methodLink RL 94 yL_count, Cond.static yL_count, Cond.codeWith yL_count cL_count 4 (some .int) [(0, 9, 12, 21)], Cond.methodLink RL 42 yX0_count, Cond.instanceMethod yX0_count, Cond.selects RX0 yX0_count yX0_count, Cond.code yX0_count cX0_count 2 (some .int), Cond.methodLink RX0 139 yX0_thingsThere, Cond.instanceMethod yX0_thingsThere, Cond.selects RX0 yX0_thingsThere yX0_thingsThere, Cond.code yX0_thingsThere cX0_thingsThere 3 (some .int), Cond.methodLink RX0 143 yX0_wastedInAll, Cond.instanceMethod yX0_wastedInAll, Cond.selects RX0 yX0_wastedInAll yX0_wastedInAll, Cond.code yX0_wastedInAll cX0_wastedInAll 3 (some .int), Cond.methodLink RX0 149 yX0_wastedBy, Cond.instanceMethod yX0_wastedBy, Cond.selects RX0 yX0_wastedBy yX0_wastedBy]
def wsL_law0_r16 : List Cond := [Cond.code yX0_wastedBy cX0_wastedBy 2 (some .int), Cond.methodLink RL 96 yX1_count, Cond.instanceMethod yX1_count, Cond.selects RX1 yX1_count yX1_count, Cond.code yX1_count cX1_count 2 (some .int), Cond.methodLink RX1 143 yX1_counted, Cond.instanceMethod yX1_counted, Cond.selects RX1 yX1_counted yX1_counted, Cond.code yX1_counted cX1_counted 6 (some .int), Cond.methodLink RL 97 yL_would, Cond.static yL_would, Cond.codeWith yL_would cL_would 4 (some .int) [(0, 9, 12, 21)], Cond.methodLink RL 45 yX0_would, Cond.instanceMethod yX0_would, Cond.selects RX0 yX0_would yX0_would, Cond.code yX0_would cX0_would 2 (some .int), Cond.methodLink RL 99 yX1_would, Cond.instanceMethod yX1_would, Cond.selects RX1 yX1_would yX1_would, Cond.code yX1_would cX1_would 2 (some .int), Cond.methodLink RL 100 yL_spares, Cond.static yL_spares, Cond.codeWith yL_spares cL_spares 4 (some .int) [(0, 9, 12, 21)], Cond.methodLink RL 48 yX0_spares]
def wsL_law0_r17 : List Cond := [Cond.instanceMethod yX0_spares, Cond.selects RX0 yX0_spares yX0_spares, Cond.code yX0_spares cX0_spares 5 (some .int), Cond.methodLink RL 102 yX1_spares, Cond.instanceMethod yX1_spares, Cond.selects RX1 yX1_spares yX1_spares, Cond.code yX1_spares cX1_spares 2 (some .int), Cond.methodLink RL 103 yL_room, Cond.static yL_room, Cond.codeWith yL_room cL_room 4 (some .int) [(0, 9, 12, 21)], Cond.methodLink RL 51 yX0_room, Cond.instanceMethod yX0_room, Cond.selects RX0 yX0_room yX0_room, Cond.code yX0_room cX0_room 2 (some .int), Cond.methodLink RL 105 yX1_room, Cond.instanceMethod yX1_room, Cond.selects RX1 yX1_room yX1_room, Cond.code yX1_room cX1_room 2 (some .int), Cond.methodLink RL 106 yX0_worst, Cond.instanceMethod yX0_worst, Cond.selects RX0 yX0_worst yX0_worst, Cond.code yX0_worst cX0_worst 5 (some .int), Cond.methodLink RL 109 yX1_worst, Cond.instanceMethod yX1_worst]
def wsL_law0_r18 : List Cond := [Cond.selects RX1 yX1_worst yX1_worst, Cond.code yX1_worst cX1_worst 5 (some .int), Cond.methodLink RL 110 yX0_mean, Cond.instanceMethod yX0_mean, Cond.selects RX0 yX0_mean yX0_mean, Cond.code yX0_mean cX0_mean 2 (some .double), Cond.methodLink RL 114 yX1_mean, Cond.instanceMethod yX1_mean, Cond.selects RX1 yX1_mean yX1_mean, Cond.code yX1_mean cX1_mean 1 (some .double), Cond.methodLink RL 115 yX0_digest, Cond.instanceMethod yX0_digest, Cond.selects RX0 yX0_digest yX0_digest, Cond.code yX0_digest cX0_digest 5 (some .long), Cond.constantLong RX0 152 (1381), Cond.constantLong RX0 154 (31), Cond.methodLink RX0 156 yX0_count, Cond.methodLink RX0 159 yX0_about, Cond.methodLink RX0 162 yX0_digestPlace, Cond.instanceMethod yX0_digestPlace, Cond.selects RX0 yX0_digestPlace yX0_digestPlace, Cond.code yX0_digestPlace cX0_digestPlace 8 (some .long), Cond.methodLink RX0 166 yX0_tray, Cond.methodLink RL 119 yX1_digest]
def wsL_law0_r19 : List Cond := [Cond.instanceMethod yX1_digest, Cond.selects RX1 yX1_digest yX1_digest, Cond.code yX1_digest cX1_digest 5 (some .long), Cond.constantLong RX1 146 (1381), Cond.constantLong RX1 148 (31)]
def wsL_law0 : List Cond := (wsL_law0_r1 ++ (wsL_law0_r2 ++ (wsL_law0_r3 ++ (wsL_law0_r4 ++ (wsL_law0_r5 ++ (wsL_law0_r6 ++ (wsL_law0_r7 ++ (wsL_law0_r8 ++ (wsL_law0_r9 ++ (wsL_law0_r10 ++ (wsL_law0_r11 ++ (wsL_law0_r12 ++ (wsL_law0_r13 ++ (wsL_law0_r14 ++ (wsL_law0_r15 ++ (wsL_law0_r16 ++ (wsL_law0_r17 ++ (wsL_law0_r18 ++ wsL_law0_r19)))))))))))))))))) ++ wsX00 ++ wsX10 ++ ([] : List Cond)
def wsL_law : List Cond := wsL_law0 ++ (vx_atS RX0 50 "java/lang/IllegalArgumentException" ["java/lang/RuntimeException", "java/lang/Exception"]).filter goodWord ++ (vx_atS RX0 63 "java/lang/IllegalStateException" ["java/lang/RuntimeException", "java/lang/Exception"]).filter goodWord ++ (vx_atS RX0 125 "java/lang/IndexOutOfBoundsException" ["java/lang/RuntimeException", "java/lang/Exception"]).filter goodWord
abbrev vwCl : List vw_C := [(RX0, TX0, 16), (RX1, TX1, 15)]
end
section
/-! ABSTRACT OPERATIONS: numbers are whole (Int), an object is its int fields and its int arrays by field number; an operation says what must hold so that P holds of what follows. -/
abbrev AV : Type := Int ⊕ (Int64 ⊕ (UInt64 ⊕ Nat))
def vI (a : Int) : AV := .inl a
def vL (x : Int64) : AV := .inr (.inl x)
def vD (x : UInt64) : AV := .inr (.inr (.inl x))
def vR (k : Nat) : AV := .inr (.inr (.inr k))
abbrev ST : Type := (Nat → Int) × (Nat → Nat → Int) × Option (Nat × (Nat → Int)) × Nat × Nat
def fF (S : ST) (k : Nat) : Int := S.1 k
def gA (S : ST) (k i : Nat) : Int := S.2.1 k i
def pF (S : ST) (k : Nat) (v : Int) : ST := (fun j => if j = k then v else S.1 j, S.2)
def pA (S : ST) (k i : Nat) (v : Int) : ST := (S.1, fun k' i' => if k' = k ∧ i' = i then v else S.2.1 k' i', S.2.2)
abbrev LV : Type := List (Option AV)
abbrev PT : Type := Nat → LV → List AV → ST → Prop
abbrev AI : Type := LV → List AV → ST → PT → Prop
abbrev rng (a : Int) : Prop := -2147483648 ≤ a ∧ a < 2147483648
def lget (lv : LV) (i : Nat) : Option AV := (lv[i]?).getD none
def lset (lv : LV) (i : Nat) (v : AV) : LV := lv.set i (some v)
def bot1 {α : Type} : α → ST → Prop := fun _ _ => False
/-! the table of a method, and what it runs to: the least P that its operations keep -/
def Mono (a : AI) : Prop := ∀ (P P' : PT), (∀ pc lv st S, P pc lv st S → P' pc lv st S) → ∀ lv st S, a lv st S P → a lv st S P'
def fls : AI := fun _ _ _ _ => False
def tab : List (Nat × AI) → Nat → AI
  | [], _ => fls
  | (k, a) :: r, pc => if pc = k then a else tab r pc
def RR (T : List (Nat × AI)) : PT := fun pc lv st S => ∀ P : PT, (∀ pc lv st S, tab T pc lv st S P → P pc lv st S) → P pc lv st S
theorem m_fls : Mono fls := fun _ _ _ _ _ _ h => h
theorem al {α : Type} {p : α → Prop} {e : α} {l : List α} (h : p e) (t : ∀ x ∈ l, p x) : ∀ x ∈ e :: l, p x := by
  intro x hx
  rcases List.mem_cons.mp hx with rfl | hx
  · exact h
  · exact t x hx
theorem an {α : Type} {p : α → Prop} : ∀ x ∈ ([] : List α), p x := fun _ h => by cases h
theorem tab_mono {T : List (Nat × AI)} (h : ∀ e ∈ T, Mono e.2) (pc : Nat) : Mono (tab T pc) := by
  induction T with
  | nil => exact m_fls
  | cons e r ih =>
    obtain ⟨k, a⟩ := e
    unfold tab
    by_cases hk : pc = k
    · rw [if_pos hk]; exact h (k, a) List.mem_cons_self
    · rw [if_neg hk]; exact ih (fun e he => h e (List.mem_cons_of_mem _ he))
theorem tab_closed {T : List (Nat × AI)} {P : PT} (h : ∀ e ∈ T, ∀ lv st S, e.2 lv st S P → P e.1 lv st S) : ∀ pc lv st S, tab T pc lv st S P → P pc lv st S := by
  induction T with
  | nil => intro pc lv st S q; exact q.elim
  | cons e r ih =>
    obtain ⟨k, a⟩ := e
    intro pc lv st S q
    unfold tab at q
    by_cases hk : pc = k
    · rw [if_pos hk] at q; subst hk; exact h (pc, a) List.mem_cons_self lv st S q
    · rw [if_neg hk] at q; exact ih (fun e he => h e (List.mem_cons_of_mem _ he)) pc lv st S q
theorem RR_closed {T : List (Nat × AI)} (h : ∀ e ∈ T, Mono e.2) : ∀ pc lv st S, tab T pc lv st S (RR T) → RR T pc lv st S :=
  fun pc lv st S q P hP => hP pc lv st S (tab_mono h pc _ _ (fun _ _ _ _ r => r P hP) lv st S q)
theorem RR_fix {T : List (Nat × AI)} (h : ∀ e ∈ T, Mono e.2) (pc : Nat) (lv : LV) (st : List AV) (S : ST) : RR T pc lv st S = tab T pc lv st S (RR T) := by
  refine propext ⟨fun q => q (fun pc lv st S => tab T pc lv st S (RR T)) (fun pc lv st S r => ?_), RR_closed h pc lv st S⟩
  exact tab_mono h pc _ _ (fun _ _ _ _ z => RR_closed h _ _ _ _ z) lv st S r
/-- one row of a table, as an equation -/
theorem RR_at {T : List (Nat × AI)} (h : ∀ e ∈ T, Mono e.2) {pc : Nat} {a : AI} (ha : tab T pc = a) (lv : LV) (st : List AV) (S : ST) : RR T pc lv st S = a lv st S (RR T) := by
  rw [RR_fix h, ha]
/-! operations -/
def i_const (v : Int) (n : Nat) : AI := fun lv st S P => P n lv (vI v :: st) S
def i_lconst (v : Int64) (n : Nat) : AI := fun lv st S P => P n lv (vL v :: st) S
def i_dconst (v : UInt64) (n : Nat) : AI := fun lv st S P => P n lv (vD v :: st) S
def k_iload (n : Nat) (lv : LV) (st : List AV) (S : ST) (P : PT) : Option AV → Prop
  | some (.inl a) => P n lv (vI a :: st) S
  | _ => False
def i_iload (i n : Nat) : AI := fun lv st S P => k_iload n lv st S P (lget lv i)
def k_aload (n : Nat) (lv : LV) (st : List AV) (S : ST) (P : PT) : Option AV → Prop
  | some (.inr (.inr (.inr k))) => P n lv (vR k :: st) S
  | _ => False
def i_aload (i n : Nat) : AI := fun lv st S P => k_aload n lv st S P (lget lv i)
def k_lload (n : Nat) (lv : LV) (st : List AV) (S : ST) (P : PT) : Option AV → Prop
  | some (.inr (.inl x)) => P n lv (vL x :: st) S
  | _ => False
def i_lload (i n : Nat) : AI := fun lv st S P => k_lload n lv st S P (lget lv i)
def k_iinc (i : Nat) (d : Int) (n : Nat) (lv : LV) (st : List AV) (S : ST) (P : PT) : Option AV → Prop
  | some (.inl a) => P n (lset lv i (vI (a + d))) st S
  | _ => False
/-- no long or double stands just below the place i -/
def ok1 : Option AV → Prop
  | some (.inr (.inl _)) => False
  | some (.inr (.inr (.inl _))) => False
  | _ => True
def lok (lv : LV) : Nat → Prop
  | 0 => True
  | i + 1 => ok1 (lget lv i)
def lset2 (lv : LV) (i : Nat) (v : AV) : LV := (lv.set i (some v)).set (i + 1) none
def i_iinc (i : Nat) (d : Int) (n : Nat) : AI := fun lv st S P => k_iinc i d n lv st S P (lget lv i)
def i_istore (i n : Nat) : AI := fun lv st S P => match st with
  | .inl a :: r => lok lv i ∧ P n (lset lv i (vI a)) r S
  | _ => False
def i_astore (i n : Nat) : AI := fun lv st S P => match st with
  | .inr (.inr (.inr k)) :: r => lok lv i ∧ P n (lset lv i (vR k)) r S
  | _ => False
def i_lstore (i n : Nat) : AI := fun lv st S P => match st with
  | .inr (.inl x) :: r => lok lv i ∧ P n (lset2 lv i (vL x)) r S
  | _ => False
def i_dup (n : Nat) : AI := fun lv st S P => match st with
  | .inl a :: r => P n lv (vI a :: vI a :: r) S
  | .inr (.inr (.inr k)) :: r => P n lv (vR k :: vR k :: r) S
  | _ => False
def i_dup2 (n : Nat) : AI := fun lv st S P => match st with
  | .inl a :: .inr (.inr (.inr k)) :: r => P n lv (vI a :: vR k :: vI a :: vR k :: r) S
  | _ => False
def i_iadd (n : Nat) : AI := fun lv st S P => match st with
  | .inl b :: .inl a :: r => P n lv (vI (a + b) :: r) S
  | _ => False
def i_isub (n : Nat) : AI := fun lv st S P => match st with
  | .inl b :: .inl a :: r => P n lv (vI (a - b) :: r) S
  | _ => False
def i_imul (n : Nat) : AI := fun lv st S P => match st with
  | .inl b :: .inl a :: r => P n lv (vI (a * b) :: r) S
  | _ => False
def i_idiv (n : Nat) : AI := fun lv st S P => match st with
  | .inl b :: .inl a :: r => ((0 ≤ a ∧ a < 2147483648) ∧ 0 < b ∧ b < 2147483648) ∧ P n lv (vI (a / b) :: r) S
  | _ => False
def i_irem (n : Nat) : AI := fun lv st S P => match st with
  | .inl b :: .inl a :: r => ((0 ≤ a ∧ a < 2147483648) ∧ 0 < b ∧ b < 2147483648) ∧ P n lv (vI (a % b) :: r) S
  | _ => False
def i_ladd (n : Nat) : AI := fun lv st S P => match st with
  | .inr (.inl b) :: .inr (.inl a) :: r => P n lv (vL (a + b) :: r) S
  | _ => False
def i_lmul (n : Nat) : AI := fun lv st S P => match st with
  | .inr (.inl b) :: .inr (.inl a) :: r => P n lv (vL (a * b) :: r) S
  | _ => False
def iI (a : Int) : Int32 := Int32.ofInt a
def i_i2l (n : Nat) : AI := fun lv st S P => match st with
  | .inl a :: r => P n lv (vL (iI a).toInt64 :: r) S
  | _ => False
def i_i2d (n : Nat) : AI := fun lv st S P => match st with
  | .inl a :: r => P n lv (vD (FP.i2d (iI a)) :: r) S
  | _ => False
def i_ddiv (n : Nat) : AI := fun lv st S P => match st with
  | .inr (.inr (.inl b)) :: .inr (.inr (.inl a)) :: r => vf_n64 (FP.ddiv a b) ∧ P n lv (vD (FP.ddiv a b) :: r) S
  | _ => False
/-- compare two ints: what is asked of them, where it goes on if so, if not -/
def i_icmp (f : Int → Int → Prop) (t n : Nat) : AI := fun lv st S P => match st with
  | .inl b :: .inl a :: r => (rng a ∧ rng b) ∧ (f a b → P t lv r S) ∧ (¬ f a b → P n lv r S)
  | _ => False
def i_if (f : Int → Prop) (t n : Nat) : AI := fun lv st S P => match st with
  | .inl a :: r => rng a ∧ (f a → P t lv r S) ∧ (¬ f a → P n lv r S)
  | _ => False
def i_goto (t : Nat) : AI := fun lv st S P => P t lv st S
def tsw (P : PT) (lv : LV) (r : List AV) (S : ST) (a : Int) (d : Nat) : List (Int × Nat) → Prop
  | [] => P d lv r S
  | (k, t) :: q => (a = k → P t lv r S) ∧ (a ≠ k → tsw P lv r S a d q)
def i_switch (ts : List (Int × Nat)) (d : Nat) : AI := fun lv st S P => match st with
  | .inl a :: r => rng a ∧ tsw P lv r S a d ts
  | _ => False
def i_getI (k n : Nat) : AI := fun lv st S P => match st with
  | .inr (.inr (.inr 0)) :: r => P n lv (vI (fF S k) :: r) S
  | _ => False
def i_getA (k n : Nat) : AI := fun lv st S P => match st with
  | .inr (.inr (.inr 0)) :: r => P n lv (vR k :: r) S
  | _ => False
def i_putI (k n : Nat) : AI := fun lv st S P => match st with
  | .inl v :: .inr (.inr (.inr 0)) :: r => P n lv r (pF S k v)
  | _ => False
def i_iald (ln : Nat → Nat) (n : Nat) : AI := fun lv st S P => match st with
  | .inl i :: .inr (.inr (.inr k)) :: r => (0 ≤ i ∧ i < ln k) ∧ P n lv (vI (gA S k i.toNat) :: r) S
  | _ => False
def i_iast (ln : Nat → Nat) (n : Nat) : AI := fun lv st S P => match st with
  | .inl v :: .inl i :: .inr (.inr (.inr k)) :: r => (0 ≤ i ∧ i < ln k) ∧ P n lv r (pA S k i.toNat v)
  | _ => False
/-- a row of its own, made by the method (one at most): number 99 -/
def tput (S : ST) (i : Nat) (v : Int) : ST := (S.1, S.2.1, S.2.2.1.map (fun q => (q.1, fun j => if j = i then v else q.2 j)), S.2.2.2)
def tnew (S : ST) (n : Nat) : ST := (S.1, S.2.1, some (n, fun _ => 0), S.2.2.2.1 + 1, S.2.2.2.2 + n)
def tget (S : ST) (i : Nat) : Int := match S.2.2.1 with
  | some q => q.2 i
  | none => 0
def tlen (S : ST) : Nat := match S.2.2.1 with
  | some q => q.1
  | none => 0
def i_tnew (w K M n : Nat) : AI := fun lv st S P => match st with
  | [.inl a] => (a = (w : Int) ∧ S.2.2.1 = none ∧ w ≤ 100 ∧ (∀ v ∈ lv, v ≠ some (vR 99)) ∧ S.2.2.2.1 + 1 ≤ K ∧ S.2.2.2.2 + w ≤ M) ∧ P n lv [vR 99] (tnew S w)
  | _ => False
def i_tald (n : Nat) : AI := fun lv st S P => match st with
  | .inl i :: .inr (.inr (.inr 99)) :: r => (0 ≤ i ∧ i < tlen S ∧ tlen S ≤ 100) ∧ P n lv (vI (tget S i.toNat) :: r) S
  | _ => False
def i_tast (n : Nat) : AI := fun lv st S P => match st with
  | .inl v :: .inl i :: .inr (.inr (.inr 99)) :: r => (0 ≤ i ∧ i < tlen S ∧ tlen S ≤ 100) ∧ P n lv r (tput S i.toNat v)
  | _ => False
/-! ends -/
def i_iret (Q : Int → ST → Prop) : AI := fun _ st S _ => match st with
  | [.inl v] => Q v S
  | _ => False
def i_zret (Q : Int → ST → Prop) : AI := fun _ st S _ => match st with
  | [.inl v] => (v = 0 ∨ v = 1) ∧ Q v S
  | _ => False
def i_lret (Q : Int64 → ST → Prop) : AI := fun _ st S _ => match st with
  | [.inr (.inl v)] => Q v S
  | _ => False
def i_dret (Q : UInt64 → ST → Prop) : AI := fun _ st S _ => match st with
  | [.inr (.inr (.inl v))] => Q v S
  | _ => False
def i_vret (Q : ST → Prop) : AI := fun _ st S _ => match st with
  | [] => Q S
  | _ => False
def i_throw (Qx : String → ST → Prop) (E : String) : AI := fun _ st S _ => match st with
  | [] => Qx E S
  | _ => False
/-! calls: n arguments above the receiver (w of them all, the receiver too, taken off the stack); what the callee runs to stands in X -/
abbrev RI : Type := List AV → ST → (Int → ST → Prop) → (String → ST → Prop) → Prop
abbrev RJ : Type := List AV → ST → (Int64 → ST → Prop) → (String → ST → Prop) → Prop
abbrev RD : Type := List AV → ST → (UInt64 → ST → Prop) → (String → ST → Prop) → Prop
abbrev RV : Type := List AV → ST → (ST → Prop) → (String → ST → Prop) → Prop
def nox : String → ST → Prop := fun _ _ => False
/-- the receiver is the object; not much stands below -/
def isR0 : List AV → Prop
  | .inr (.inr (.inr 0)) :: _ => True
  | _ => False
def sh4 : List AV → Prop
  | [] => True
  | [_] => True
  | [_, _] => True
  | [_, _, _] => True
  | [_, _, _, _] => True
  | _ => False
def i_calli (X : RI) (w n : Nat) : AI := fun lv st S P => (isR0 (st.take w).reverse ∧ w ≤ st.length) ∧ sh4 (st.drop w) ∧ ∃ Q, X (st.take w).reverse S Q nox ∧ ∀ r S', Q r S' → P n lv (vI r :: st.drop w) S'
def i_calll (X : RJ) (w n : Nat) : AI := fun lv st S P => (isR0 (st.take w).reverse ∧ w ≤ st.length) ∧ sh4 (st.drop w) ∧ ∃ Q, X (st.take w).reverse S Q nox ∧ ∀ r S', Q r S' → P n lv (vL r :: st.drop w) S'
def i_callv (X : RV) (w n : Nat) : AI := fun lv st S P => (isR0 (st.take w).reverse ∧ w ≤ st.length) ∧ sh4 (st.drop w) ∧ ∃ Q, X (st.take w).reverse S Q nox ∧ ∀ S', Q S' → P n lv (st.drop w) S'
/-- .. of a static one -/
def i_scalli (X : RI) (w n : Nat) : AI := fun lv st S P => w ≤ st.length ∧ sh4 (st.drop w) ∧ ∃ Q, X (st.take w).reverse S Q nox ∧ ∀ r S', Q r S' → P n lv (vI r :: st.drop w) S'
/-- .. of a method that may throw: it either returns, or throws -/
def i_xcalli (X : RI) (Qx : String → ST → Prop) (w n : Nat) : AI := fun lv st S P => (isR0 (st.take w).reverse ∧ w ≤ st.length) ∧ sh4 (st.drop w) ∧ ((∃ Q, X (st.take w).reverse S Q nox ∧ ∀ r S', Q r S' → P n lv (vI r :: st.drop w) S') ∨ (∃ Q, X (st.take w).reverse S (fun _ _ => False) Q ∧ ∀ E S', Q E S' → Qx E S'))
def i_xcallv (X : RV) (Qx : String → ST → Prop) (w n : Nat) : AI := fun lv st S P => (isR0 (st.take w).reverse ∧ w ≤ st.length) ∧ sh4 (st.drop w) ∧ ((∃ Q, X (st.take w).reverse S Q nox ∧ ∀ S', Q S' → P n lv (st.drop w) S') ∨ (∃ Q, X (st.take w).reverse S (fun _ => False) Q ∧ ∀ E S', Q E S' → Qx E S'))
/-- .. of a method that makes rows: k of them, of m places -/
def cut0 (S : ST) : ST := (S.1, S.2.1, none, 0, 0)
def glue (S S' : ST) (k m : Nat) : ST := (S'.1, S'.2.1, none, S.2.2.2.1 + k, S.2.2.2.2 + m)
def i_acalli (X : RI) (k m K M w n : Nat) : AI := fun lv st S P => (isR0 (st.take w).reverse ∧ w ≤ st.length) ∧ sh4 (st.drop w) ∧ (S.2.2.1 = none ∧ S.2.2.2.1 + k ≤ K ∧ S.2.2.2.2 + m ≤ M) ∧ ∃ Q, X (st.take w).reverse (cut0 S) Q nox ∧ ∀ r S', Q r S' → P n lv (vI r :: st.drop w) (glue S S' k m)
/-! every operation keeps the order of P -/
theorem m_const (v : Int) (n : Nat) : Mono (i_const v n) := fun _ _ h _ _ _ q => h _ _ _ _ q
theorem m_lconst (v : Int64) (n : Nat) : Mono (i_lconst v n) := fun _ _ h _ _ _ q => h _ _ _ _ q
theorem m_dconst (v : UInt64) (n : Nat) : Mono (i_dconst v n) := fun _ _ h _ _ _ q => h _ _ _ _ q
theorem m_goto (t : Nat) : Mono (i_goto t) := fun _ _ h _ _ _ q => h _ _ _ _ q
theorem m_iload (i n : Nat) : Mono (i_iload i n) := by
  intro P P' h lv st S q
  unfold i_iload at q ⊢
  generalize lget lv i = o at q ⊢
  unfold k_iload at q ⊢
  split at q
  · exact h _ _ _ _ q
  · exact q.elim
theorem m_aload (i n : Nat) : Mono (i_aload i n) := by
  intro P P' h lv st S q
  unfold i_aload at q ⊢
  generalize lget lv i = o at q ⊢
  unfold k_aload at q ⊢
  split at q
  · exact h _ _ _ _ q
  · exact q.elim
theorem m_lload (i n : Nat) : Mono (i_lload i n) := by
  intro P P' h lv st S q
  unfold i_lload at q ⊢
  generalize lget lv i = o at q ⊢
  unfold k_lload at q ⊢
  split at q
  · exact h _ _ _ _ q
  · exact q.elim
theorem m_iinc (i : Nat) (d : Int) (n : Nat) : Mono (i_iinc i d n) := by
  intro P P' h lv st S q
  unfold i_iinc at q ⊢
  generalize lget lv i = o at q ⊢
  unfold k_iinc at q ⊢
  split at q
  · exact h _ _ _ _ q
  · exact q.elim
theorem m_istore (i n : Nat) : Mono (i_istore i n) := by
  intro P P' h lv st S q
  unfold i_istore at q ⊢
  split at q <;> first | exact h _ _ _ _ q | exact ⟨q.1, h _ _ _ _ q.2⟩ | exact ⟨q.1, fun z => h _ _ _ _ (q.2.1 z), fun z => h _ _ _ _ (q.2.2 z)⟩ | exact q | exact q.elim
theorem m_astore (i n : Nat) : Mono (i_astore i n) := by
  intro P P' h lv st S q
  unfold i_astore at q ⊢
  split at q <;> first | exact h _ _ _ _ q | exact ⟨q.1, h _ _ _ _ q.2⟩ | exact ⟨q.1, fun z => h _ _ _ _ (q.2.1 z), fun z => h _ _ _ _ (q.2.2 z)⟩ | exact q | exact q.elim
theorem m_lstore (i n : Nat) : Mono (i_lstore i n) := by
  intro P P' h lv st S q
  unfold i_lstore at q ⊢
  split at q <;> first | exact h _ _ _ _ q | exact ⟨q.1, h _ _ _ _ q.2⟩ | exact ⟨q.1, fun z => h _ _ _ _ (q.2.1 z), fun z => h _ _ _ _ (q.2.2 z)⟩ | exact q | exact q.elim
theorem m_dup (n : Nat) : Mono (i_dup n) := by
  intro P P' h lv st S q
  unfold i_dup at q ⊢
  split at q <;> first | exact h _ _ _ _ q | exact ⟨q.1, h _ _ _ _ q.2⟩ | exact ⟨q.1, fun z => h _ _ _ _ (q.2.1 z), fun z => h _ _ _ _ (q.2.2 z)⟩ | exact q | exact q.elim
theorem m_dup2 (n : Nat) : Mono (i_dup2 n) := by
  intro P P' h lv st S q
  unfold i_dup2 at q ⊢
  split at q <;> first | exact h _ _ _ _ q | exact ⟨q.1, h _ _ _ _ q.2⟩ | exact ⟨q.1, fun z => h _ _ _ _ (q.2.1 z), fun z => h _ _ _ _ (q.2.2 z)⟩ | exact q | exact q.elim
theorem m_iadd (n : Nat) : Mono (i_iadd n) := by
  intro P P' h lv st S q
  unfold i_iadd at q ⊢
  split at q <;> first | exact h _ _ _ _ q | exact ⟨q.1, h _ _ _ _ q.2⟩ | exact ⟨q.1, fun z => h _ _ _ _ (q.2.1 z), fun z => h _ _ _ _ (q.2.2 z)⟩ | exact q | exact q.elim
theorem m_isub (n : Nat) : Mono (i_isub n) := by
  intro P P' h lv st S q
  unfold i_isub at q ⊢
  split at q <;> first | exact h _ _ _ _ q | exact ⟨q.1, h _ _ _ _ q.2⟩ | exact ⟨q.1, fun z => h _ _ _ _ (q.2.1 z), fun z => h _ _ _ _ (q.2.2 z)⟩ | exact q | exact q.elim
theorem m_imul (n : Nat) : Mono (i_imul n) := by
  intro P P' h lv st S q
  unfold i_imul at q ⊢
  split at q <;> first | exact h _ _ _ _ q | exact ⟨q.1, h _ _ _ _ q.2⟩ | exact ⟨q.1, fun z => h _ _ _ _ (q.2.1 z), fun z => h _ _ _ _ (q.2.2 z)⟩ | exact q | exact q.elim
theorem m_idiv (n : Nat) : Mono (i_idiv n) := by
  intro P P' h lv st S q
  unfold i_idiv at q ⊢
  split at q <;> first | exact h _ _ _ _ q | exact ⟨q.1, h _ _ _ _ q.2⟩ | exact ⟨q.1, fun z => h _ _ _ _ (q.2.1 z), fun z => h _ _ _ _ (q.2.2 z)⟩ | exact q | exact q.elim
theorem m_irem (n : Nat) : Mono (i_irem n) := by
  intro P P' h lv st S q
  unfold i_irem at q ⊢
  split at q <;> first | exact h _ _ _ _ q | exact ⟨q.1, h _ _ _ _ q.2⟩ | exact ⟨q.1, fun z => h _ _ _ _ (q.2.1 z), fun z => h _ _ _ _ (q.2.2 z)⟩ | exact q | exact q.elim
theorem m_ladd (n : Nat) : Mono (i_ladd n) := by
  intro P P' h lv st S q
  unfold i_ladd at q ⊢
  split at q <;> first | exact h _ _ _ _ q | exact ⟨q.1, h _ _ _ _ q.2⟩ | exact ⟨q.1, fun z => h _ _ _ _ (q.2.1 z), fun z => h _ _ _ _ (q.2.2 z)⟩ | exact q | exact q.elim
theorem m_lmul (n : Nat) : Mono (i_lmul n) := by
  intro P P' h lv st S q
  unfold i_lmul at q ⊢
  split at q <;> first | exact h _ _ _ _ q | exact ⟨q.1, h _ _ _ _ q.2⟩ | exact ⟨q.1, fun z => h _ _ _ _ (q.2.1 z), fun z => h _ _ _ _ (q.2.2 z)⟩ | exact q | exact q.elim
theorem m_i2l (n : Nat) : Mono (i_i2l n) := by
  intro P P' h lv st S q
  unfold i_i2l at q ⊢
  split at q <;> first | exact h _ _ _ _ q | exact ⟨q.1, h _ _ _ _ q.2⟩ | exact ⟨q.1, fun z => h _ _ _ _ (q.2.1 z), fun z => h _ _ _ _ (q.2.2 z)⟩ | exact q | exact q.elim
theorem m_i2d (n : Nat) : Mono (i_i2d n) := by
  intro P P' h lv st S q
  unfold i_i2d at q ⊢
  split at q <;> first | exact h _ _ _ _ q | exact ⟨q.1, h _ _ _ _ q.2⟩ | exact ⟨q.1, fun z => h _ _ _ _ (q.2.1 z), fun z => h _ _ _ _ (q.2.2 z)⟩ | exact q | exact q.elim
theorem m_ddiv (n : Nat) : Mono (i_ddiv n) := by
  intro P P' h lv st S q
  unfold i_ddiv at q ⊢
  split at q <;> first | exact h _ _ _ _ q | exact ⟨q.1, h _ _ _ _ q.2⟩ | exact ⟨q.1, fun z => h _ _ _ _ (q.2.1 z), fun z => h _ _ _ _ (q.2.2 z)⟩ | exact q | exact q.elim
theorem m_tald (n : Nat) : Mono (i_tald n) := by
  intro P P' h lv st S q
  unfold i_tald at q ⊢
  split at q <;> first | exact h _ _ _ _ q | exact ⟨q.1, h _ _ _ _ q.2⟩ | exact ⟨q.1, fun z => h _ _ _ _ (q.2.1 z), fun z => h _ _ _ _ (q.2.2 z)⟩ | exact q | exact q.elim
theorem m_tast (n : Nat) : Mono (i_tast n) := by
  intro P P' h lv st S q
  unfold i_tast at q ⊢
  split at q <;> first | exact h _ _ _ _ q | exact ⟨q.1, h _ _ _ _ q.2⟩ | exact ⟨q.1, fun z => h _ _ _ _ (q.2.1 z), fun z => h _ _ _ _ (q.2.2 z)⟩ | exact q | exact q.elim
theorem m_icmp (f : Int → Int → Prop) (t n : Nat) : Mono (i_icmp f t n) := by
  intro P P' h lv st S q
  unfold i_icmp at q ⊢
  split at q <;> first | exact h _ _ _ _ q | exact ⟨q.1, h _ _ _ _ q.2⟩ | exact ⟨q.1, fun z => h _ _ _ _ (q.2.1 z), fun z => h _ _ _ _ (q.2.2 z)⟩ | exact q | exact q.elim
theorem m_if (f : Int → Prop) (t n : Nat) : Mono (i_if f t n) := by
  intro P P' h lv st S q
  unfold i_if at q ⊢
  split at q <;> first | exact h _ _ _ _ q | exact ⟨q.1, h _ _ _ _ q.2⟩ | exact ⟨q.1, fun z => h _ _ _ _ (q.2.1 z), fun z => h _ _ _ _ (q.2.2 z)⟩ | exact q | exact q.elim
theorem m_getI (k n : Nat) : Mono (i_getI k n) := by
  intro P P' h lv st S q
  unfold i_getI at q ⊢
  split at q <;> first | exact h _ _ _ _ q | exact ⟨q.1, h _ _ _ _ q.2⟩ | exact ⟨q.1, fun z => h _ _ _ _ (q.2.1 z), fun z => h _ _ _ _ (q.2.2 z)⟩ | exact q | exact q.elim
theorem m_getA (k n : Nat) : Mono (i_getA k n) := by
  intro P P' h lv st S q
  unfold i_getA at q ⊢
  split at q <;> first | exact h _ _ _ _ q | exact ⟨q.1, h _ _ _ _ q.2⟩ | exact ⟨q.1, fun z => h _ _ _ _ (q.2.1 z), fun z => h _ _ _ _ (q.2.2 z)⟩ | exact q | exact q.elim
theorem m_putI (k n : Nat) : Mono (i_putI k n) := by
  intro P P' h lv st S q
  unfold i_putI at q ⊢
  split at q <;> first | exact h _ _ _ _ q | exact ⟨q.1, h _ _ _ _ q.2⟩ | exact ⟨q.1, fun z => h _ _ _ _ (q.2.1 z), fun z => h _ _ _ _ (q.2.2 z)⟩ | exact q | exact q.elim
theorem m_iald (ln : Nat → Nat) (n : Nat) : Mono (i_iald ln n) := by
  intro P P' h lv st S q
  unfold i_iald at q ⊢
  split at q <;> first | exact h _ _ _ _ q | exact ⟨q.1, h _ _ _ _ q.2⟩ | exact ⟨q.1, fun z => h _ _ _ _ (q.2.1 z), fun z => h _ _ _ _ (q.2.2 z)⟩ | exact q | exact q.elim
theorem m_iast (ln : Nat → Nat) (n : Nat) : Mono (i_iast ln n) := by
  intro P P' h lv st S q
  unfold i_iast at q ⊢
  split at q <;> first | exact h _ _ _ _ q | exact ⟨q.1, h _ _ _ _ q.2⟩ | exact ⟨q.1, fun z => h _ _ _ _ (q.2.1 z), fun z => h _ _ _ _ (q.2.2 z)⟩ | exact q | exact q.elim
theorem m_tnew (w K M n : Nat) : Mono (i_tnew w K M n) := by
  intro P P' h lv st S q
  unfold i_tnew at q ⊢
  split at q <;> first | exact h _ _ _ _ q | exact ⟨q.1, h _ _ _ _ q.2⟩ | exact ⟨q.1, fun z => h _ _ _ _ (q.2.1 z), fun z => h _ _ _ _ (q.2.2 z)⟩ | exact q | exact q.elim
theorem m_iret (Q : Int → ST → Prop) : Mono (i_iret Q) := by
  intro P P' h lv st S q
  unfold i_iret at q ⊢
  split at q <;> first | exact h _ _ _ _ q | exact ⟨q.1, h _ _ _ _ q.2⟩ | exact ⟨q.1, fun z => h _ _ _ _ (q.2.1 z), fun z => h _ _ _ _ (q.2.2 z)⟩ | exact q | exact q.elim
theorem m_zret (Q : Int → ST → Prop) : Mono (i_zret Q) := by
  intro P P' h lv st S q
  unfold i_zret at q ⊢
  split at q <;> first | exact h _ _ _ _ q | exact ⟨q.1, h _ _ _ _ q.2⟩ | exact ⟨q.1, fun z => h _ _ _ _ (q.2.1 z), fun z => h _ _ _ _ (q.2.2 z)⟩ | exact q | exact q.elim
theorem m_lret (Q : Int64 → ST → Prop) : Mono (i_lret Q) := by
  intro P P' h lv st S q
  unfold i_lret at q ⊢
  split at q <;> first | exact h _ _ _ _ q | exact ⟨q.1, h _ _ _ _ q.2⟩ | exact ⟨q.1, fun z => h _ _ _ _ (q.2.1 z), fun z => h _ _ _ _ (q.2.2 z)⟩ | exact q | exact q.elim
theorem m_dret (Q : UInt64 → ST → Prop) : Mono (i_dret Q) := by
  intro P P' h lv st S q
  unfold i_dret at q ⊢
  split at q <;> first | exact h _ _ _ _ q | exact ⟨q.1, h _ _ _ _ q.2⟩ | exact ⟨q.1, fun z => h _ _ _ _ (q.2.1 z), fun z => h _ _ _ _ (q.2.2 z)⟩ | exact q | exact q.elim
theorem m_vret (Q : ST → Prop) : Mono (i_vret Q) := by
  intro P P' h lv st S q
  unfold i_vret at q ⊢
  split at q <;> first | exact h _ _ _ _ q | exact ⟨q.1, h _ _ _ _ q.2⟩ | exact ⟨q.1, fun z => h _ _ _ _ (q.2.1 z), fun z => h _ _ _ _ (q.2.2 z)⟩ | exact q | exact q.elim
theorem tsw_mono {P P' : PT} (h : ∀ pc lv st S, P pc lv st S → P' pc lv st S) (lv : LV) (r : List AV) (S : ST) (a : Int) (d : Nat) : ∀ ts, tsw P lv r S a d ts → tsw P' lv r S a d ts
  | [], q => h _ _ _ _ q
  | (_, _) :: ts, q => ⟨fun z => h _ _ _ _ (q.1 z), fun z => tsw_mono h lv r S a d ts (q.2 z)⟩
theorem m_switch (ts : List (Int × Nat)) (d : Nat) : Mono (i_switch ts d) := by
  intro P P' h lv st S q
  unfold i_switch at q ⊢
  split at q
  · exact ⟨q.1, tsw_mono h _ _ _ _ _ _ q.2⟩
  · exact q.elim
theorem m_throw (Qx : String → ST → Prop) (E : String) : Mono (i_throw Qx E) := fun _ _ _ _ _ _ q => q
theorem m_calli (X : RI) (w n : Nat) : Mono (i_calli X w n) := fun _ _ h _ _ _ ⟨g1, g2, Q, a, b⟩ => ⟨g1, g2, Q, a, fun r S' z => h _ _ _ _ (b r S' z)⟩
theorem m_scalli (X : RI) (w n : Nat) : Mono (i_scalli X w n) := fun _ _ h _ _ _ ⟨g1, g2, Q, a, b⟩ => ⟨g1, g2, Q, a, fun r S' z => h _ _ _ _ (b r S' z)⟩
theorem m_calll (X : RJ) (w n : Nat) : Mono (i_calll X w n) := fun _ _ h _ _ _ ⟨g1, g2, Q, a, b⟩ => ⟨g1, g2, Q, a, fun r S' z => h _ _ _ _ (b r S' z)⟩
theorem m_callv (X : RV) (w n : Nat) : Mono (i_callv X w n) := fun _ _ h _ _ _ ⟨g1, g2, Q, a, b⟩ => ⟨g1, g2, Q, a, fun S' z => h _ _ _ _ (b S' z)⟩
theorem m_xcalli (X : RI) (Qx : String → ST → Prop) (w n : Nat) : Mono (i_xcalli X Qx w n) := fun _ _ h _ _ _ ⟨g1, g2, q⟩ => ⟨g1, g2, q.elim (fun ⟨Q, a, b⟩ => Or.inl ⟨Q, a, fun r S' z => h _ _ _ _ (b r S' z)⟩) (fun z => Or.inr z)⟩
theorem m_xcallv (X : RV) (Qx : String → ST → Prop) (w n : Nat) : Mono (i_xcallv X Qx w n) := fun _ _ h _ _ _ ⟨g1, g2, q⟩ => ⟨g1, g2, q.elim (fun ⟨Q, a, b⟩ => Or.inl ⟨Q, a, fun S' z => h _ _ _ _ (b S' z)⟩) (fun z => Or.inr z)⟩
theorem m_acalli (X : RI) (k m K M w n : Nat) : Mono (i_acalli X k m K M w n) := fun _ _ h _ _ _ ⟨g1, g2, g, Q, a, b⟩ => ⟨g1, g2, g, Q, a, fun r S' z => h _ _ _ _ (b r S' z)⟩
/-! the operations as equations, for the evaluator -/
theorem e_const {v : Int} {n : Nat} {lv : LV} {st : List AV} {S : ST} {P : PT} : i_const v n lv st S P = (P n lv (vI v :: st) S) := rfl
theorem e_lconst {v : Int64} {n : Nat} {lv : LV} {st : List AV} {S : ST} {P : PT} : i_lconst v n lv st S P = (P n lv (vL v :: st) S) := rfl
theorem e_dconst {v : UInt64} {n : Nat} {lv : LV} {st : List AV} {S : ST} {P : PT} : i_dconst v n lv st S P = (P n lv (vD v :: st) S) := rfl
theorem e_iload {i n : Nat} {lv : LV} {st : List AV} {S : ST} {P : PT} : i_iload i n lv st S P = (k_iload n lv st S P (lget lv i)) := rfl
theorem e_kiload {n : Nat} {a : Int} {lv : LV} {st : List AV} {S : ST} {P : PT} : k_iload n lv st S P (some (vI a)) = (P n lv (vI a :: st) S) := rfl
theorem e_aload {i n : Nat} {lv : LV} {st : List AV} {S : ST} {P : PT} : i_aload i n lv st S P = (k_aload n lv st S P (lget lv i)) := rfl
theorem e_kaload {n : Nat} {a : Nat} {lv : LV} {st : List AV} {S : ST} {P : PT} : k_aload n lv st S P (some (vR a)) = (P n lv (vR a :: st) S) := rfl
theorem e_lload {i n : Nat} {lv : LV} {st : List AV} {S : ST} {P : PT} : i_lload i n lv st S P = (k_lload n lv st S P (lget lv i)) := rfl
theorem e_klload {n : Nat} {a : Int64} {lv : LV} {st : List AV} {S : ST} {P : PT} : k_lload n lv st S P (some (vL a)) = (P n lv (vL a :: st) S) := rfl
theorem e_iinc {i n : Nat} {d : Int} {lv : LV} {st : List AV} {S : ST} {P : PT} : i_iinc i d n lv st S P = (k_iinc i d n lv st S P (lget lv i)) := rfl
theorem e_kiinc {i n : Nat} {a d : Int} {lv : LV} {st : List AV} {S : ST} {P : PT} : k_iinc i d n lv st S P (some (vI a)) = (P n (lset lv i (vI (a + d))) st S) := rfl
theorem e_istore {i n : Nat} {a : Int} {lv : LV} {st : List AV} {S : ST} {P : PT} : i_istore i n lv (vI a :: st) S P = (lok lv i ∧ P n (lset lv i (vI a)) st S) := rfl
theorem e_astore {i n : Nat} {a : Nat} {lv : LV} {st : List AV} {S : ST} {P : PT} : i_astore i n lv (vR a :: st) S P = (lok lv i ∧ P n (lset lv i (vR a)) st S) := rfl
theorem e_lstore {i n : Nat} {a : Int64} {lv : LV} {st : List AV} {S : ST} {P : PT} : i_lstore i n lv (vL a :: st) S P = (lok lv i ∧ P n (lset2 lv i (vL a)) st S) := rfl
theorem e_dupI {n : Nat} {a : Int} {lv : LV} {st : List AV} {S : ST} {P : PT} : i_dup n lv (vI a :: st) S P = (P n lv (vI a :: vI a :: st) S) := rfl
theorem e_dupR {n : Nat} {a : Nat} {lv : LV} {st : List AV} {S : ST} {P : PT} : i_dup n lv (vR a :: st) S P = (P n lv (vR a :: vR a :: st) S) := rfl
theorem e_dup2 {n k : Nat} {a : Int} {lv : LV} {st : List AV} {S : ST} {P : PT} : i_dup2 n lv (vI a :: vR k :: st) S P = (P n lv (vI a :: vR k :: vI a :: vR k :: st) S) := rfl
theorem e_iadd {n : Nat} {a b : Int} {lv : LV} {st : List AV} {S : ST} {P : PT} : i_iadd n lv (vI b :: vI a :: st) S P = (P n lv (vI (a + b) :: st) S) := rfl
theorem e_isub {n : Nat} {a b : Int} {lv : LV} {st : List AV} {S : ST} {P : PT} : i_isub n lv (vI b :: vI a :: st) S P = (P n lv (vI (a - b) :: st) S) := rfl
theorem e_imul {n : Nat} {a b : Int} {lv : LV} {st : List AV} {S : ST} {P : PT} : i_imul n lv (vI b :: vI a :: st) S P = (P n lv (vI (a * b) :: st) S) := rfl
theorem e_idiv {n : Nat} {a b : Int} {lv : LV} {st : List AV} {S : ST} {P : PT} : i_idiv n lv (vI b :: vI a :: st) S P = (((0 ≤ a ∧ a < 2147483648) ∧ 0 < b ∧ b < 2147483648) ∧ P n lv (vI (a / b) :: st) S) := rfl
theorem e_irem {n : Nat} {a b : Int} {lv : LV} {st : List AV} {S : ST} {P : PT} : i_irem n lv (vI b :: vI a :: st) S P = (((0 ≤ a ∧ a < 2147483648) ∧ 0 < b ∧ b < 2147483648) ∧ P n lv (vI (a % b) :: st) S) := rfl
theorem e_ladd {n : Nat} {a b : Int64} {lv : LV} {st : List AV} {S : ST} {P : PT} : i_ladd n lv (vL b :: vL a :: st) S P = (P n lv (vL (a + b) :: st) S) := rfl
theorem e_lmul {n : Nat} {a b : Int64} {lv : LV} {st : List AV} {S : ST} {P : PT} : i_lmul n lv (vL b :: vL a :: st) S P = (P n lv (vL (a * b) :: st) S) := rfl
theorem e_i2l {n : Nat} {a : Int} {lv : LV} {st : List AV} {S : ST} {P : PT} : i_i2l n lv (vI a :: st) S P = (P n lv (vL (iI a).toInt64 :: st) S) := rfl
theorem e_i2d {n : Nat} {a : Int} {lv : LV} {st : List AV} {S : ST} {P : PT} : i_i2d n lv (vI a :: st) S P = (P n lv (vD (FP.i2d (iI a)) :: st) S) := rfl
theorem e_ddiv {n : Nat} {a b : UInt64} {lv : LV} {st : List AV} {S : ST} {P : PT} : i_ddiv n lv (vD b :: vD a :: st) S P = (vf_n64 (FP.ddiv a b) ∧ P n lv (vD (FP.ddiv a b) :: st) S) := rfl
theorem e_icmp {f : Int → Int → Prop} {t n : Nat} {a b : Int} {lv : LV} {st : List AV} {S : ST} {P : PT} : i_icmp f t n lv (vI b :: vI a :: st) S P = ((rng a ∧ rng b) ∧ (f a b → P t lv st S) ∧ (¬ f a b → P n lv st S)) := rfl
theorem e_if {f : Int → Prop} {t n : Nat} {a : Int} {lv : LV} {st : List AV} {S : ST} {P : PT} : i_if f t n lv (vI a :: st) S P = (rng a ∧ (f a → P t lv st S) ∧ (¬ f a → P n lv st S)) := rfl
theorem e_goto {t : Nat} {lv : LV} {st : List AV} {S : ST} {P : PT} : i_goto t lv st S P = (P t lv st S) := rfl
theorem e_switch {ts : List (Int × Nat)} {d : Nat} {a : Int} {lv : LV} {st : List AV} {S : ST} {P : PT} : i_switch ts d lv (vI a :: st) S P = (rng a ∧ tsw P lv st S a d ts) := rfl
theorem e_tsw0 {d : Nat} {a : Int} {lv : LV} {st : List AV} {S : ST} {P : PT} : tsw P lv st S a d [] = (P d lv st S) := rfl
theorem e_tsw1 {ts : List (Int × Nat)} {d t : Nat} {a k : Int} {lv : LV} {st : List AV} {S : ST} {P : PT} : tsw P lv st S a d ((k, t) :: ts) = ((a = k → P t lv st S) ∧ (a ≠ k → tsw P lv st S a d ts)) := rfl
theorem e_getI {k n : Nat} {lv : LV} {st : List AV} {S : ST} {P : PT} : i_getI k n lv (vR 0 :: st) S P = (P n lv (vI (fF S k) :: st) S) := rfl
theorem e_getA {k n : Nat} {lv : LV} {st : List AV} {S : ST} {P : PT} : i_getA k n lv (vR 0 :: st) S P = (P n lv (vR k :: st) S) := rfl
theorem e_putI {k n : Nat} {v : Int} {lv : LV} {st : List AV} {S : ST} {P : PT} : i_putI k n lv (vI v :: vR 0 :: st) S P = (P n lv st (pF S k v)) := rfl
theorem e_iald {ln : Nat → Nat} {k n : Nat} {i : Int} {lv : LV} {st : List AV} {S : ST} {P : PT} : i_iald ln n lv (vI i :: vR k :: st) S P = ((0 ≤ i ∧ i < ln k) ∧ P n lv (vI (gA S k i.toNat) :: st) S) := rfl
theorem e_iast {ln : Nat → Nat} {k n : Nat} {i v : Int} {lv : LV} {st : List AV} {S : ST} {P : PT} : i_iast ln n lv (vI v :: vI i :: vR k :: st) S P = ((0 ≤ i ∧ i < ln k) ∧ P n lv st (pA S k i.toNat v)) := rfl
theorem e_tnew {w K M n : Nat} {a : Int} {lv : LV} {S : ST} {P : PT} : i_tnew w K M n lv [vI a] S P = ((a = (w : Int) ∧ S.2.2.1 = none ∧ w ≤ 100 ∧ (∀ v ∈ lv, v ≠ some (vR 99)) ∧ S.2.2.2.1 + 1 ≤ K ∧ S.2.2.2.2 + w ≤ M) ∧ P n lv [vR 99] (tnew S w)) := rfl
theorem e_tald {n : Nat} {i : Int} {lv : LV} {st : List AV} {S : ST} {P : PT} : i_tald n lv (vI i :: vR 99 :: st) S P = ((0 ≤ i ∧ i < tlen S ∧ tlen S ≤ 100) ∧ P n lv (vI (tget S i.toNat) :: st) S) := rfl
theorem e_tast {n : Nat} {i v : Int} {lv : LV} {st : List AV} {S : ST} {P : PT} : i_tast n lv (vI v :: vI i :: vR 99 :: st) S P = ((0 ≤ i ∧ i < tlen S ∧ tlen S ≤ 100) ∧ P n lv st (tput S i.toNat v)) := rfl
theorem e_iret {Q : Int → ST → Prop} {v : Int} {lv : LV} {S : ST} {P : PT} : i_iret Q lv [vI v] S P = (Q v S) := rfl
theorem e_zret {Q : Int → ST → Prop} {v : Int} {lv : LV} {S : ST} {P : PT} : i_zret Q lv [vI v] S P = ((v = 0 ∨ v = 1) ∧ Q v S) := rfl
theorem e_lret {Q : Int64 → ST → Prop} {v : Int64} {lv : LV} {S : ST} {P : PT} : i_lret Q lv [vL v] S P = (Q v S) := rfl
theorem e_dret {Q : UInt64 → ST → Prop} {v : UInt64} {lv : LV} {S : ST} {P : PT} : i_dret Q lv [vD v] S P = (Q v S) := rfl
theorem e_vret {Q : ST → Prop} {lv : LV} {S : ST} {P : PT} : i_vret Q lv [] S P = (Q S) := rfl
theorem e_throw {Qx : String → ST → Prop} {E : String} {lv : LV} {S : ST} {P : PT} : i_throw Qx E lv [] S P = (Qx E S) := rfl
theorem lg0 {a0 : Option AV} {l : LV} : lget (a0 :: l) 0 = (a0) := rfl
theorem ls0 {v : AV} {a0 : Option AV} {l : LV} : lset (a0 :: l) 0 v = (some v :: l) := rfl
theorem lt0 {v : AV} {a0 a1 : Option AV} {l : LV} : lset2 (a0 :: a1 :: l) 0 v = (some v :: none :: l) := rfl
theorem lg1 {a0 a1 : Option AV} {l : LV} : lget (a0 :: a1 :: l) 1 = (a1) := rfl
theorem ls1 {v : AV} {a0 a1 : Option AV} {l : LV} : lset (a0 :: a1 :: l) 1 v = (a0 :: some v :: l) := rfl
theorem lo1 {a0 a1 : Option AV} {l : LV} : lok (a0 :: a1 :: l) 1 = (ok1 a0) := rfl
theorem lt1 {v : AV} {a0 a1 a2 : Option AV} {l : LV} : lset2 (a0 :: a1 :: a2 :: l) 1 v = (a0 :: some v :: none :: l) := rfl
theorem lg2 {a0 a1 a2 : Option AV} {l : LV} : lget (a0 :: a1 :: a2 :: l) 2 = (a2) := rfl
theorem ls2 {v : AV} {a0 a1 a2 : Option AV} {l : LV} : lset (a0 :: a1 :: a2 :: l) 2 v = (a0 :: a1 :: some v :: l) := rfl
theorem lo2 {a0 a1 a2 : Option AV} {l : LV} : lok (a0 :: a1 :: a2 :: l) 2 = (ok1 a1) := rfl
theorem lt2 {v : AV} {a0 a1 a2 a3 : Option AV} {l : LV} : lset2 (a0 :: a1 :: a2 :: a3 :: l) 2 v = (a0 :: a1 :: some v :: none :: l) := rfl
theorem lg3 {a0 a1 a2 a3 : Option AV} {l : LV} : lget (a0 :: a1 :: a2 :: a3 :: l) 3 = (a3) := rfl
theorem ls3 {v : AV} {a0 a1 a2 a3 : Option AV} {l : LV} : lset (a0 :: a1 :: a2 :: a3 :: l) 3 v = (a0 :: a1 :: a2 :: some v :: l) := rfl
theorem lo3 {a0 a1 a2 a3 : Option AV} {l : LV} : lok (a0 :: a1 :: a2 :: a3 :: l) 3 = (ok1 a2) := rfl
theorem lt3 {v : AV} {a0 a1 a2 a3 a4 : Option AV} {l : LV} : lset2 (a0 :: a1 :: a2 :: a3 :: a4 :: l) 3 v = (a0 :: a1 :: a2 :: some v :: none :: l) := rfl
theorem lg4 {a0 a1 a2 a3 a4 : Option AV} {l : LV} : lget (a0 :: a1 :: a2 :: a3 :: a4 :: l) 4 = (a4) := rfl
theorem ls4 {v : AV} {a0 a1 a2 a3 a4 : Option AV} {l : LV} : lset (a0 :: a1 :: a2 :: a3 :: a4 :: l) 4 v = (a0 :: a1 :: a2 :: a3 :: some v :: l) := rfl
theorem lo4 {a0 a1 a2 a3 a4 : Option AV} {l : LV} : lok (a0 :: a1 :: a2 :: a3 :: a4 :: l) 4 = (ok1 a3) := rfl
theorem lt4 {v : AV} {a0 a1 a2 a3 a4 a5 : Option AV} {l : LV} : lset2 (a0 :: a1 :: a2 :: a3 :: a4 :: a5 :: l) 4 v = (a0 :: a1 :: a2 :: a3 :: some v :: none :: l) := rfl
theorem lg5 {a0 a1 a2 a3 a4 a5 : Option AV} {l : LV} : lget (a0 :: a1 :: a2 :: a3 :: a4 :: a5 :: l) 5 = (a5) := rfl
theorem ls5 {v : AV} {a0 a1 a2 a3 a4 a5 : Option AV} {l : LV} : lset (a0 :: a1 :: a2 :: a3 :: a4 :: a5 :: l) 5 v = (a0 :: a1 :: a2 :: a3 :: a4 :: some v :: l) := rfl
theorem lo5 {a0 a1 a2 a3 a4 a5 : Option AV} {l : LV} : lok (a0 :: a1 :: a2 :: a3 :: a4 :: a5 :: l) 5 = (ok1 a4) := rfl
theorem lt5 {v : AV} {a0 a1 a2 a3 a4 a5 a6 : Option AV} {l : LV} : lset2 (a0 :: a1 :: a2 :: a3 :: a4 :: a5 :: a6 :: l) 5 v = (a0 :: a1 :: a2 :: a3 :: a4 :: some v :: none :: l) := rfl
theorem lg6 {a0 a1 a2 a3 a4 a5 a6 : Option AV} {l : LV} : lget (a0 :: a1 :: a2 :: a3 :: a4 :: a5 :: a6 :: l) 6 = (a6) := rfl
theorem ls6 {v : AV} {a0 a1 a2 a3 a4 a5 a6 : Option AV} {l : LV} : lset (a0 :: a1 :: a2 :: a3 :: a4 :: a5 :: a6 :: l) 6 v = (a0 :: a1 :: a2 :: a3 :: a4 :: a5 :: some v :: l) := rfl
theorem lo6 {a0 a1 a2 a3 a4 a5 a6 : Option AV} {l : LV} : lok (a0 :: a1 :: a2 :: a3 :: a4 :: a5 :: a6 :: l) 6 = (ok1 a5) := rfl
theorem lt6 {v : AV} {a0 a1 a2 a3 a4 a5 a6 a7 : Option AV} {l : LV} : lset2 (a0 :: a1 :: a2 :: a3 :: a4 :: a5 :: a6 :: a7 :: l) 6 v = (a0 :: a1 :: a2 :: a3 :: a4 :: a5 :: some v :: none :: l) := rfl
theorem lg7 {a0 a1 a2 a3 a4 a5 a6 a7 : Option AV} {l : LV} : lget (a0 :: a1 :: a2 :: a3 :: a4 :: a5 :: a6 :: a7 :: l) 7 = (a7) := rfl
theorem ls7 {v : AV} {a0 a1 a2 a3 a4 a5 a6 a7 : Option AV} {l : LV} : lset (a0 :: a1 :: a2 :: a3 :: a4 :: a5 :: a6 :: a7 :: l) 7 v = (a0 :: a1 :: a2 :: a3 :: a4 :: a5 :: a6 :: some v :: l) := rfl
theorem lo7 {a0 a1 a2 a3 a4 a5 a6 a7 : Option AV} {l : LV} : lok (a0 :: a1 :: a2 :: a3 :: a4 :: a5 :: a6 :: a7 :: l) 7 = (ok1 a6) := rfl
theorem lt7 {v : AV} {a0 a1 a2 a3 a4 a5 a6 a7 a8 : Option AV} {l : LV} : lset2 (a0 :: a1 :: a2 :: a3 :: a4 :: a5 :: a6 :: a7 :: a8 :: l) 7 v = (a0 :: a1 :: a2 :: a3 :: a4 :: a5 :: a6 :: some v :: none :: l) := rfl
theorem lg8 {a0 a1 a2 a3 a4 a5 a6 a7 a8 : Option AV} {l : LV} : lget (a0 :: a1 :: a2 :: a3 :: a4 :: a5 :: a6 :: a7 :: a8 :: l) 8 = (a8) := rfl
theorem ls8 {v : AV} {a0 a1 a2 a3 a4 a5 a6 a7 a8 : Option AV} {l : LV} : lset (a0 :: a1 :: a2 :: a3 :: a4 :: a5 :: a6 :: a7 :: a8 :: l) 8 v = (a0 :: a1 :: a2 :: a3 :: a4 :: a5 :: a6 :: a7 :: some v :: l) := rfl
theorem lo8 {a0 a1 a2 a3 a4 a5 a6 a7 a8 : Option AV} {l : LV} : lok (a0 :: a1 :: a2 :: a3 :: a4 :: a5 :: a6 :: a7 :: a8 :: l) 8 = (ok1 a7) := rfl
theorem lo0 {lv : LV} : lok lv 0 = (True) := rfl
theorem okI {a : Int} : ok1 (some (vI a)) = (True) := rfl
theorem okR {a : Nat} : ok1 (some (vR a)) = (True) := rfl
theorem okN  : ok1 none = (True) := rfl
theorem e_calli1 {X : RI} {n : Nat} {lv : LV} {st : List AV} {S : ST} {P : PT} : i_calli X 1 n lv (vR 0 :: st) S P = (sh4 st ∧ ∃ Q, X [vR 0] S Q nox ∧ ∀ r S', Q r S' → P n lv (vI r :: st) S') := propext (and_iff_right ⟨trivial, by simp⟩)
theorem e_calll1 {X : RJ} {n : Nat} {lv : LV} {st : List AV} {S : ST} {P : PT} : i_calll X 1 n lv (vR 0 :: st) S P = (sh4 st ∧ ∃ Q, X [vR 0] S Q nox ∧ ∀ r S', Q r S' → P n lv (vL r :: st) S') := propext (and_iff_right ⟨trivial, by simp⟩)
theorem e_callv1 {X : RV} {n : Nat} {lv : LV} {st : List AV} {S : ST} {P : PT} : i_callv X 1 n lv (vR 0 :: st) S P = (sh4 st ∧ ∃ Q, X [vR 0] S Q nox ∧ ∀ S', Q S' → P n lv st S') := propext (and_iff_right ⟨trivial, by simp⟩)
theorem e_xcalli1 {X : RI} {Qx : String → ST → Prop} {n : Nat} {lv : LV} {st : List AV} {S : ST} {P : PT} : i_xcalli X Qx 1 n lv (vR 0 :: st) S P = (sh4 st ∧ ((∃ Q, X [vR 0] S Q nox ∧ ∀ r S', Q r S' → P n lv (vI r :: st) S') ∨ (∃ Q, X [vR 0] S (fun _ _ => False) Q ∧ ∀ E S', Q E S' → Qx E S'))) := propext (and_iff_right ⟨trivial, by simp⟩)
theorem e_xcallv1 {X : RV} {Qx : String → ST → Prop} {n : Nat} {lv : LV} {st : List AV} {S : ST} {P : PT} : i_xcallv X Qx 1 n lv (vR 0 :: st) S P = (sh4 st ∧ ((∃ Q, X [vR 0] S Q nox ∧ ∀ S', Q S' → P n lv st S') ∨ (∃ Q, X [vR 0] S (fun _ => False) Q ∧ ∀ E S', Q E S' → Qx E S'))) := propext (and_iff_right ⟨trivial, by simp⟩)
theorem e_acalli1 {X : RI} {k m K M : Nat} {n : Nat} {lv : LV} {st : List AV} {S : ST} {P : PT} : i_acalli X k m K M 1 n lv (vR 0 :: st) S P = (sh4 st ∧ ((S.2.2.1 = none ∧ S.2.2.2.1 + k ≤ K ∧ S.2.2.2.2 + m ≤ M) ∧ ∃ Q, X [vR 0] (cut0 S) Q nox ∧ ∀ r S', Q r S' → P n lv (vI r :: st) (glue S S' k m))) := propext (and_iff_right ⟨trivial, by simp⟩)
theorem e_calli2 {X : RI} {a : AV} {n : Nat} {lv : LV} {st : List AV} {S : ST} {P : PT} : i_calli X 2 n lv (a :: vR 0 :: st) S P = (sh4 st ∧ ∃ Q, X [vR 0, a] S Q nox ∧ ∀ r S', Q r S' → P n lv (vI r :: st) S') := propext (and_iff_right ⟨trivial, by simp⟩)
theorem e_calll2 {X : RJ} {a : AV} {n : Nat} {lv : LV} {st : List AV} {S : ST} {P : PT} : i_calll X 2 n lv (a :: vR 0 :: st) S P = (sh4 st ∧ ∃ Q, X [vR 0, a] S Q nox ∧ ∀ r S', Q r S' → P n lv (vL r :: st) S') := propext (and_iff_right ⟨trivial, by simp⟩)
theorem e_callv2 {X : RV} {a : AV} {n : Nat} {lv : LV} {st : List AV} {S : ST} {P : PT} : i_callv X 2 n lv (a :: vR 0 :: st) S P = (sh4 st ∧ ∃ Q, X [vR 0, a] S Q nox ∧ ∀ S', Q S' → P n lv st S') := propext (and_iff_right ⟨trivial, by simp⟩)
theorem e_xcalli2 {X : RI} {Qx : String → ST → Prop} {a : AV} {n : Nat} {lv : LV} {st : List AV} {S : ST} {P : PT} : i_xcalli X Qx 2 n lv (a :: vR 0 :: st) S P = (sh4 st ∧ ((∃ Q, X [vR 0, a] S Q nox ∧ ∀ r S', Q r S' → P n lv (vI r :: st) S') ∨ (∃ Q, X [vR 0, a] S (fun _ _ => False) Q ∧ ∀ E S', Q E S' → Qx E S'))) := propext (and_iff_right ⟨trivial, by simp⟩)
theorem e_xcallv2 {X : RV} {Qx : String → ST → Prop} {a : AV} {n : Nat} {lv : LV} {st : List AV} {S : ST} {P : PT} : i_xcallv X Qx 2 n lv (a :: vR 0 :: st) S P = (sh4 st ∧ ((∃ Q, X [vR 0, a] S Q nox ∧ ∀ S', Q S' → P n lv st S') ∨ (∃ Q, X [vR 0, a] S (fun _ => False) Q ∧ ∀ E S', Q E S' → Qx E S'))) := propext (and_iff_right ⟨trivial, by simp⟩)
theorem e_acalli2 {X : RI} {k m K M : Nat} {a : AV} {n : Nat} {lv : LV} {st : List AV} {S : ST} {P : PT} : i_acalli X k m K M 2 n lv (a :: vR 0 :: st) S P = (sh4 st ∧ ((S.2.2.1 = none ∧ S.2.2.2.1 + k ≤ K ∧ S.2.2.2.2 + m ≤ M) ∧ ∃ Q, X [vR 0, a] (cut0 S) Q nox ∧ ∀ r S', Q r S' → P n lv (vI r :: st) (glue S S' k m))) := propext (and_iff_right ⟨trivial, by simp⟩)
theorem e_calli3 {X : RI} {a b : AV} {n : Nat} {lv : LV} {st : List AV} {S : ST} {P : PT} : i_calli X 3 n lv (a :: b :: vR 0 :: st) S P = (sh4 st ∧ ∃ Q, X [vR 0, b, a] S Q nox ∧ ∀ r S', Q r S' → P n lv (vI r :: st) S') := propext (and_iff_right ⟨trivial, by simp⟩)
theorem e_calll3 {X : RJ} {a b : AV} {n : Nat} {lv : LV} {st : List AV} {S : ST} {P : PT} : i_calll X 3 n lv (a :: b :: vR 0 :: st) S P = (sh4 st ∧ ∃ Q, X [vR 0, b, a] S Q nox ∧ ∀ r S', Q r S' → P n lv (vL r :: st) S') := propext (and_iff_right ⟨trivial, by simp⟩)
theorem e_callv3 {X : RV} {a b : AV} {n : Nat} {lv : LV} {st : List AV} {S : ST} {P : PT} : i_callv X 3 n lv (a :: b :: vR 0 :: st) S P = (sh4 st ∧ ∃ Q, X [vR 0, b, a] S Q nox ∧ ∀ S', Q S' → P n lv st S') := propext (and_iff_right ⟨trivial, by simp⟩)
theorem e_xcalli3 {X : RI} {Qx : String → ST → Prop} {a b : AV} {n : Nat} {lv : LV} {st : List AV} {S : ST} {P : PT} : i_xcalli X Qx 3 n lv (a :: b :: vR 0 :: st) S P = (sh4 st ∧ ((∃ Q, X [vR 0, b, a] S Q nox ∧ ∀ r S', Q r S' → P n lv (vI r :: st) S') ∨ (∃ Q, X [vR 0, b, a] S (fun _ _ => False) Q ∧ ∀ E S', Q E S' → Qx E S'))) := propext (and_iff_right ⟨trivial, by simp⟩)
theorem e_xcallv3 {X : RV} {Qx : String → ST → Prop} {a b : AV} {n : Nat} {lv : LV} {st : List AV} {S : ST} {P : PT} : i_xcallv X Qx 3 n lv (a :: b :: vR 0 :: st) S P = (sh4 st ∧ ((∃ Q, X [vR 0, b, a] S Q nox ∧ ∀ S', Q S' → P n lv st S') ∨ (∃ Q, X [vR 0, b, a] S (fun _ => False) Q ∧ ∀ E S', Q E S' → Qx E S'))) := propext (and_iff_right ⟨trivial, by simp⟩)
theorem e_acalli3 {X : RI} {k m K M : Nat} {a b : AV} {n : Nat} {lv : LV} {st : List AV} {S : ST} {P : PT} : i_acalli X k m K M 3 n lv (a :: b :: vR 0 :: st) S P = (sh4 st ∧ ((S.2.2.1 = none ∧ S.2.2.2.1 + k ≤ K ∧ S.2.2.2.2 + m ≤ M) ∧ ∃ Q, X [vR 0, b, a] (cut0 S) Q nox ∧ ∀ r S', Q r S' → P n lv (vI r :: st) (glue S S' k m))) := propext (and_iff_right ⟨trivial, by simp⟩)
theorem e_calli4 {X : RI} {a b d : AV} {n : Nat} {lv : LV} {st : List AV} {S : ST} {P : PT} : i_calli X 4 n lv (a :: b :: d :: vR 0 :: st) S P = (sh4 st ∧ ∃ Q, X [vR 0, d, b, a] S Q nox ∧ ∀ r S', Q r S' → P n lv (vI r :: st) S') := propext (and_iff_right ⟨trivial, by simp⟩)
theorem e_calll4 {X : RJ} {a b d : AV} {n : Nat} {lv : LV} {st : List AV} {S : ST} {P : PT} : i_calll X 4 n lv (a :: b :: d :: vR 0 :: st) S P = (sh4 st ∧ ∃ Q, X [vR 0, d, b, a] S Q nox ∧ ∀ r S', Q r S' → P n lv (vL r :: st) S') := propext (and_iff_right ⟨trivial, by simp⟩)
theorem e_callv4 {X : RV} {a b d : AV} {n : Nat} {lv : LV} {st : List AV} {S : ST} {P : PT} : i_callv X 4 n lv (a :: b :: d :: vR 0 :: st) S P = (sh4 st ∧ ∃ Q, X [vR 0, d, b, a] S Q nox ∧ ∀ S', Q S' → P n lv st S') := propext (and_iff_right ⟨trivial, by simp⟩)
theorem e_xcalli4 {X : RI} {Qx : String → ST → Prop} {a b d : AV} {n : Nat} {lv : LV} {st : List AV} {S : ST} {P : PT} : i_xcalli X Qx 4 n lv (a :: b :: d :: vR 0 :: st) S P = (sh4 st ∧ ((∃ Q, X [vR 0, d, b, a] S Q nox ∧ ∀ r S', Q r S' → P n lv (vI r :: st) S') ∨ (∃ Q, X [vR 0, d, b, a] S (fun _ _ => False) Q ∧ ∀ E S', Q E S' → Qx E S'))) := propext (and_iff_right ⟨trivial, by simp⟩)
theorem e_xcallv4 {X : RV} {Qx : String → ST → Prop} {a b d : AV} {n : Nat} {lv : LV} {st : List AV} {S : ST} {P : PT} : i_xcallv X Qx 4 n lv (a :: b :: d :: vR 0 :: st) S P = (sh4 st ∧ ((∃ Q, X [vR 0, d, b, a] S Q nox ∧ ∀ S', Q S' → P n lv st S') ∨ (∃ Q, X [vR 0, d, b, a] S (fun _ => False) Q ∧ ∀ E S', Q E S' → Qx E S'))) := propext (and_iff_right ⟨trivial, by simp⟩)
theorem e_acalli4 {X : RI} {k m K M : Nat} {a b d : AV} {n : Nat} {lv : LV} {st : List AV} {S : ST} {P : PT} : i_acalli X k m K M 4 n lv (a :: b :: d :: vR 0 :: st) S P = (sh4 st ∧ ((S.2.2.1 = none ∧ S.2.2.2.1 + k ≤ K ∧ S.2.2.2.2 + m ≤ M) ∧ ∃ Q, X [vR 0, d, b, a] (cut0 S) Q nox ∧ ∀ r S', Q r S' → P n lv (vI r :: st) (glue S S' k m))) := propext (and_iff_right ⟨trivial, by simp⟩)
theorem e_scalli3 {X : RI} {a b d : AV} {n : Nat} {lv : LV} {st : List AV} {S : ST} {P : PT} : i_scalli X 3 n lv (a :: b :: d :: st) S P = (sh4 st ∧ ∃ Q, X [d, b, a] S Q nox ∧ ∀ r S', Q r S' → P n lv (vI r :: st) S') := propext (and_iff_right (by simp))
theorem sh4_0  : sh4 [] = True := rfl
theorem sh4_1 {a : AV} : sh4 [a] = True := rfl
theorem sh4_2 {a b : AV} : sh4 [a, b] = True := rfl
theorem sh4_3 {a b d : AV} : sh4 [a, b, d] = True := rfl
theorem sh4_4 {a b d g : AV} : sh4 [a, b, d, g] = True := rfl
end
section
/-! THE OPERATIONS OVER THE MACHINE: what the heap holds for an abstract state, and each operation's law -/
theorem iI_add (a b : Int) : iI a + iI b = iI (a + b) := (Int32.ofInt_add a b).symm
theorem iI_sub (a b : Int) : iI a - iI b = iI (a - b) := (Int32.ofInt_sub a b).symm
theorem iI_mul (a b : Int) : iI a * iI b = iI (a * b) := (Int32.ofInt_mul a b).symm
theorem iI_toInt {a : Int} (h : rng a) : (iI a).toInt = a := Int32.toInt_ofInt_of_le (by have := h.1; omega) (by have := h.2; omega)
theorem iI_lt {a b : Int} (ha : rng a) (hb : rng b) : iI a < iI b ↔ a < b := by rw [Int32.lt_iff_toInt_lt, iI_toInt ha, iI_toInt hb]
theorem iI_le {a b : Int} (ha : rng a) (hb : rng b) : iI a ≤ iI b ↔ a ≤ b := by rw [Int32.le_iff_toInt_le, iI_toInt ha, iI_toInt hb]
theorem iI_eq {a b : Int} (ha : rng a) (hb : rng b) : iI a = iI b ↔ a = b := by
  refine ⟨fun h => ?_, fun h => by rw [h]⟩
  rw [← iI_toInt ha, ← iI_toInt hb, h]
theorem rng0 : rng 0 := ⟨by decide, by decide⟩
theorem iI_0 : iI 0 = 0 := by decide
theorem iI_in {a : Int} {n : Nat} (h0 : 0 ≤ a) (h1 : a < n) (hn : n ≤ 2000) : vp_in (iI a) n := vp_in_iff.mpr (by rw [iI_toInt ⟨by omega, by omega⟩]; exact ⟨h0, h1⟩)
theorem iI_cl {a : Int} (h0 : 0 ≤ a) (h1 : a < 2147483648) : (iI a).toNatClampNeg = a.toNat := by
  have h : (iI a).toInt = a := iI_toInt ⟨by omega, by omega⟩
  show (iI a).toInt.toNat = a.toNat
  rw [h]
theorem iI_div {a b : Int} (ha : 0 ≤ a ∧ a < 2147483648) (hb : 0 < b ∧ b < 2147483648) : iI a / iI b = iI (a / b) := by
  have h2 : a / b ≤ a := Int.ediv_le_self b ha.1
  have h3 : 0 ≤ a / b := Int.ediv_nonneg ha.1 (by omega)
  have e1 : (iI a).toInt = a := iI_toInt ⟨by omega, by omega⟩
  have e2 : (iI b).toInt = b := iI_toInt ⟨by omega, by omega⟩
  have e3 : (iI (a / b)).toInt = a / b := iI_toInt ⟨by omega, by omega⟩
  have h9 : (-1 : Int32).toInt = -1 := by decide
  have hne : iI b ≠ -1 := by
    intro h
    have := congrArg Int32.toInt h
    rw [e2, h9] at this
    omega
  rw [← Int32.toInt_inj, Int32.toInt_div_of_ne_right _ _ hne, e1, e2, e3, Int.tdiv_eq_ediv_of_nonneg ha.1]
theorem iI_ne0 {b : Int} (hb : 0 < b ∧ b < 2147483648) : ¬ iI b = 0 := by
  intro h
  rw [← iI_0] at h
  have := (iI_eq (a := b) (b := 0) ⟨by omega, by omega⟩ rng0).mp h
  omega
theorem iI_rem {a b : Int} (ha : 0 ≤ a ∧ a < 2147483648) (hb : 0 < b ∧ b < 2147483648) : iI a - iI a / iI b * iI b = iI (a % b) := by
  rw [iI_div ha hb, iI_mul, iI_sub]
  congr 1
  have := Int.emod_add_mul_ediv a b
  rw [Int.mul_comm] at this
  omega
/-- what an abstract value is: an object or row by its number's address -/
def conc (ad : Nat → Nat) : AV → Value
  | .inl a => .int (iI a)
  | .inr (.inl x) => .long x
  | .inr (.inr (.inl d)) => .double d
  | .inr (.inr (.inr k)) => .ref (ad k)
theorem lget_lt {lv : LV} {i : Nat} {v : AV} (h : lget lv i = some v) : i < lv.length := by
  rcases Nat.lt_or_ge i lv.length with q | q
  · exact q
  · unfold lget at h
    rw [List.getElem?_eq_none q] at h
    cases h
def LR (ad : Nat → Nat) (nL : Nat) (lv : LV) (ls : Array Slot) : Prop := ls.size = nL ∧ lv_wf ls ∧ ∀ (i : Nat) (v : AV), lget lv i = some v → ls[i]? = some (.val (conc ad v))
def prs (ad : Nat → Nat) (lv : LV) : List (Nat × Value) := (List.range lv.length).filterMap (fun i => (lget lv i).map (fun v => (i, conc ad v)))
theorem mem_prs {ad : Nat → Nat} {lv : LV} {q : Nat × Value} : q ∈ prs ad lv ↔ ∃ v, lget lv q.1 = some v ∧ q.2 = conc ad v := by
  unfold prs
  rw [List.mem_filterMap]
  constructor
  · rintro ⟨i, -, h⟩
    cases hv : lget lv i with
    | none => rw [hv] at h; cases h
    | some v =>
      rw [hv] at h
      cases h
      exact ⟨v, hv, rfl⟩
  · rintro ⟨v, h1, h2⟩
    refine ⟨q.1, List.mem_range.mpr (lget_lt h1), ?_⟩
    rw [h1, Option.map_some, ← h2]
theorem LR.has {ad : Nat → Nat} {nL : Nat} {lv : LV} {ls : Array Slot} (h : LR ad nL lv ls) : lv_has ls nL (prs ad lv) := by
  refine ⟨h.1, h.2.1, fun q hq => ?_⟩
  obtain ⟨v, h1, h2⟩ := mem_prs.mp hq
  rw [h2]
  exact h.2.2 _ _ h1
theorem lget_lset {lv : LV} {i : Nat} {v w : AV} {j : Nat} (h : lget (lset lv i v) j = some w) : (j = i ∧ w = v) ∨ (j ≠ i ∧ lget lv j = some w) := by
  unfold lset lget at h
  rw [List.getElem?_set] at h
  by_cases hj : i = j
  · subst hj
    rw [if_pos rfl] at h
    by_cases hl : i < lv.length
    · rw [if_pos hl] at h
      exact Or.inl ⟨rfl, (Option.some.inj h).symm⟩
    · rw [if_neg hl] at h
      cases h
  · rw [if_neg hj] at h
    exact Or.inr ⟨fun q => hj q.symm, h⟩
theorem lget_lset2 {lv : LV} {i : Nat} {v w : AV} {j : Nat} (h : lget (lset2 lv i v) j = some w) : (j = i ∧ w = v) ∨ (j ≠ i ∧ j ≠ i + 1 ∧ lget lv j = some w) := by
  unfold lset2 at h
  have h1 : j ≠ i + 1 := by
    intro q
    subst q
    unfold lget at h
    rw [List.getElem?_set] at h
    by_cases hl : i + 1 < (lv.set i (some v)).length
    · rw [if_pos rfl, if_pos hl] at h; cases h
    · rw [if_pos rfl, if_neg hl] at h; cases h
  have h2 : lget (lset lv i v) j = some w := by
    unfold lset
    unfold lget at h ⊢
    rw [List.getElem?_set_ne (fun q => h1 q.symm)] at h
    exact h
  rcases lget_lset h2 with q | q
  · exact Or.inl q
  · exact Or.inr ⟨q.1, h1, q.2⟩
theorem cat_ok {ad : Nat → Nat} {v : AV} (h : ok1 (some v)) : (conc ad v).category = 1 := by
  rcases v with a | x | d | k
  · rfl
  · exact h.elim
  · exact h.elim
  · rfl
theorem LR.st1 {ad : Nat → Nat} {nL : Nat} {lv : LV} {ls' : Array Slot} {i : Nat} {v : AV} (hok : lok lv i) (h : lv_has ls' nL ((i, conc ad v) :: (prs ad lv).filter (fun q => !(q.1 == i) && !(q.1 + 1 == i && q.2.category == 2)))) : LR ad nL (lset lv i v) ls' := by
  refine ⟨h.1, h.2.1, fun j w hj => ?_⟩
  rcases lget_lset hj with ⟨rfl, rfl⟩ | ⟨hne, hg⟩
  · exact h.2.2 _ List.mem_cons_self
  · refine h.2.2 (j, conc ad w) (List.mem_cons_of_mem _ (List.mem_filter.mpr ⟨mem_prs.mpr ⟨w, hg, rfl⟩, ?_⟩))
    have h1 : (j == i) = false := by simpa using hne
    by_cases hji : j + 1 = i
    · subst hji
      have hc := cat_ok (ad := ad) (v := w) (by rw [← hg]; exact hok)
      simp [h1, hc]
    · simp [h1, hji]
theorem LR.st2 {ad : Nat → Nat} {nL : Nat} {lv : LV} {ls' : Array Slot} {i : Nat} {v : AV} (hok : lok lv i) (h : lv_has ls' nL ((i, conc ad v) :: (prs ad lv).filter (fun q => !(q.1 == i) && (!(q.1 == i + 1) && !(q.1 + 1 == i && q.2.category == 2))))) : LR ad nL (lset2 lv i v) ls' := by
  refine ⟨h.1, h.2.1, fun j w hj => ?_⟩
  rcases lget_lset2 hj with ⟨rfl, rfl⟩ | ⟨hne, hne2, hg⟩
  · exact h.2.2 _ List.mem_cons_self
  · refine h.2.2 (j, conc ad w) (List.mem_cons_of_mem _ (List.mem_filter.mpr ⟨mem_prs.mpr ⟨w, hg, rfl⟩, ?_⟩))
    have h1 : (j == i) = false := by simpa using hne
    have h2 : (j == i + 1) = false := by simpa using hne2
    by_cases hji : j + 1 = i
    · subst hji
      have hc := cat_ok (ad := ad) (v := w) (by rw [← hg]; exact hok)
      simp [hc]
      omega
    · simp [h1, h2, hji]
/-- an int where it stands: nothing of two words just below -/
theorem LR.lok {ad : Nat → Nat} {nL : Nat} {lv : LV} {ls : Array Slot} (h : LR ad nL lv ls) {i : Nat} {u : AV} (hu : lget lv i = some u) : lok lv i := by
  cases i with
  | zero => trivial
  | succ i =>
    show ok1 (lget lv i)
    cases hg : lget lv i with
    | none => trivial
    | some w =>
      have h1 := h.2.2 _ _ hu
      have h2 := h.2.2 _ _ hg
      rcases w with a | x | d | k
      · trivial
      · have h3 := h.2.1.1 i _ h2 rfl
        rw [h1] at h3; cases h3
      · have h3 := h.2.1.1 i _ h2 rfl
        rw [h1] at h3; cases h3
      · trivial
/-! the world: the object, its rows, the row made meanwhile -/
def tw (cA : ClassId) (ad : Nat → Nat) (S : ST) : va_W := match S.2.2.1 with
  | none => []
  | some q => [(ad 99, .inl (cA, q.1, .inl (fun i => iI (q.2 i))))]
def o_f (ad : Nat → Nat) (S : ST) (ly : List Bool) : List Value := ly.mapIdx (fun j b => bif b then .ref (ad j) else .int (iI (fF S j)))
def o_r (cA : ClassId) (ad : Nat → Nat) (S : ST) (q : Nat × Nat) : Nat × va_E := (ad q.1, .inl (cA, q.2, .inl (fun i => iI (gA S q.1 i))))
def wdO (cA : ClassId) (ci : Nat) (ly : List Bool) (ja : List (Nat × Nat)) (ad : Nat → Nat) (S : ST) : va_W := (ad 0, .inr (ci, o_f ad S ly)) :: (ja.map (o_r cA ad S) ++ tw cA ad S)
theorem o_f_get {ad : Nat → Nat} {S : ST} {ly : List Bool} {k : Nat} {b : Bool} (h : ly[k]? = some b) : (o_f ad S ly)[k]? = some (bif b then .ref (ad k) else .int (iI (fF S k))) := by
  unfold o_f
  rw [List.getElem?_mapIdx, h]
  rfl
theorem o_f_set {ad : Nat → Nat} {S : ST} {ly : List Bool} {k : Nat} {v : Int} (h : ly[k]? = some false) : (o_f ad S ly).set k (.int (iI v)) = o_f ad (pF S k v) ly := by
  unfold o_f
  apply List.ext_getElem?
  intro i
  rw [List.getElem?_set]
  simp only [List.getElem?_mapIdx]
  by_cases hi : k = i
  · subst hi
    rw [if_pos rfl, h, if_pos (by rw [List.length_mapIdx]; exact (List.getElem?_eq_some_iff.mp h).1)]
    simp [fF, pF]
  · rw [if_neg hi]
    cases ly[i]? with
    | none => rfl
    | some b => cases b <;> simp [fF, pF, Ne.symm hi]
theorem o_r_keep {cA : ClassId} {ad : Nat → Nat} {S : ST} {k i : Nat} {v : Int} {q : Nat × Nat} (h : q.1 ≠ k) : o_r cA ad (pA S k i v) q = o_r cA ad S q := by
  unfold o_r
  have : (fun i' => iI (gA (pA S k i v) q.1 i')) = fun i' => iI (gA S q.1 i') := by
    funext i'
    simp [gA, pA, h]
  rw [this]
theorem o_r_set {cA : ClassId} {ad : Nat → Nat} {S : ST} {i : Nat} {v : Int} {q : Nat × Nat} : o_r cA ad (pA S q.1 i v) q = (ad q.1, .inl (cA, q.2, .inl (upd (fun i => iI (gA S q.1 i)) i (iI v)))) := by
  unfold o_r
  have : (fun i' => iI (gA (pA S q.1 i v) q.1 i')) = upd (fun i => iI (gA S q.1 i)) i (iI v) := by
    funext i'
    by_cases h : i' = i <;> simp [gA, pA, upd, h]
  rw [this]
theorem wd_set {cA : ClassId} {ci : Nat} {ly : List Bool} {ja : List (Nat × Nat)} {ad : Nat → Nat} {S : ST} {t k n i : Nat} {v : Int} (ht : ja[t]? = some (k, n)) (hu : ∀ (a b : Nat) (q q' : Nat × Nat), ja[a]? = some q → ja[b]? = some q' → q.1 = q'.1 → a = b) :
    (wdO cA ci ly ja ad S).set (t + 1) (ad k, .inl (cA, n, .inl (upd (fun i => iI (gA S k i)) i (iI v)))) = wdO cA ci ly ja ad (pA S k i v) := by
  unfold wdO
  rw [List.set_cons_succ, List.set_append_left _ _ (by rw [List.length_map]; exact (List.getElem?_eq_some_iff.mp ht).1)]
  congr 2
  apply List.ext_getElem?
  intro j
  rw [List.getElem?_set]
  simp only [List.getElem?_map]
  by_cases hj : t = j
  · subst hj
    rw [if_pos rfl, if_pos (by rw [List.length_map]; exact (List.getElem?_eq_some_iff.mp ht).1), ht]
    exact congrArg some (o_r_set (q := (k, n))).symm
  · rw [if_neg hj]
    cases hq : ja[j]? with
    | none => rfl
    | some q => exact congrArg some (o_r_keep (fun e => hj (hu t j (k, n) q ht hq e.symm))).symm
theorem wd_get {cA : ClassId} {ci : Nat} {ly : List Bool} {ja : List (Nat × Nat)} {ad : Nat → Nat} {S : ST} {t k n : Nat} (ht : ja[t]? = some (k, n)) : (wdO cA ci ly ja ad S)[t + 1]? = some (ad k, .inl (cA, n, .inl (fun i => iI (gA S k i)))) := by
  unfold wdO
  rw [List.getElem?_cons_succ, List.getElem?_append_left (by rw [List.length_map]; exact (List.getElem?_eq_some_iff.mp ht).1), List.getElem?_map, ht]
  rfl
theorem wd_tget {cA : ClassId} {ci : Nat} {ly : List Bool} {ja : List (Nat × Nat)} {ad : Nat → Nat} {S : ST} {q : Nat × (Nat → Int)} (ht : S.2.2.1 = some q) : (wdO cA ci ly ja ad S)[ja.length + 1]? = some (ad 99, .inl (cA, q.1, .inl (fun i => iI (q.2 i)))) := by
  unfold wdO tw
  rw [List.getElem?_cons_succ, List.getElem?_append_right (by rw [List.length_map]; exact Nat.le_refl _), List.length_map, Nat.sub_self, ht]
  rfl
theorem wd_tset {cA : ClassId} {ci : Nat} {ly : List Bool} {ja : List (Nat × Nat)} {ad : Nat → Nat} {S : ST} {q : Nat × (Nat → Int)} {i : Nat} {v : Int} (ht : S.2.2.1 = some q) : (wdO cA ci ly ja ad S).set (ja.length + 1) (ad 99, .inl (cA, q.1, .inl (upd (fun i => iI (q.2 i)) i (iI v)))) = wdO cA ci ly ja ad (tput S i v) := by
  have h1 : (tput S i v).2.2.1 = some (q.1, fun j => if j = i then v else q.2 j) := by
    show S.2.2.1.map _ = _
    rw [ht]; rfl
  have h2 : (fun j => iI (if j = i then v else q.2 j)) = upd (fun i => iI (q.2 i)) i (iI v) := by
    funext j
    by_cases h : j = i <;> simp [upd, h]
  unfold wdO tw
  rw [h1, ht, List.set_cons_succ, List.set_append_right _ _ (by rw [List.length_map]; exact Nat.le_refl _), List.length_map, Nat.sub_self]
  show _ = (ad 0, _) :: (ja.map (o_r cA ad (tput S i v)) ++ [(ad 99, .inl (cA, q.1, .inl (fun j => iI (if j = i then v else q.2 j))))])
  rw [h2]
  rfl
/-! what P is over the machine -/
theorem lget_mem {lv : LV} {i : Nat} {v : AV} (h : lget lv i = some v) : some v ∈ lv := by
  unfold lget at h
  cases hg : lv[i]? with
  | none => rw [hg] at h; cases h
  | some o =>
    rw [hg] at h
    have h2 : o = some v := h
    subst h2
    exact List.mem_of_getElem? hg
/-- the count of what the method has made: none, or as the abstract state has it -/
def rel0 (k0 : Nat × Nat) : Nat × Nat → Nat → Nat → Prop := fun k c n => k = k0 ∧ c = 0 ∧ n = 0
def relA (K M : Nat) : Nat × Nat → Nat → Nat → Prop := fun k c n => c = k.1 ∧ n = k.2 ∧ c ≤ K ∧ n ≤ M
def OK (p : Program) (l : Launch) (e : Env) (R : Room) (s : State) (m : MethodId) (args : Array Value) (below : List Frame) (meth : Method) (c : Code) (Q : State → Prop) (D : va_G) (cA : ClassId) (A : Nat → Prop) (ci : Nat) (ly : List Bool) (ja : List (Nat × Nat)) (AD : (Nat → Nat) → Prop) (rel : Nat × Nat → Nat → Nat → Prop) (nL : Nat) : PT := fun pc lv st S =>
  ∀ (ad : Nat → Nat), AD ad → ∀ (H : Heap) (locs : List Loc) (ls : Array Slot) (cells slots : Nat), rel S.2.2.2 cells slots → va_P D vwCl (wdO cA ci ly ja ad S) H → va_D A (wdO cA ci ly ja ad S) → va_S A s.heap H locs → LR ad nL lv ls →
    W p l e R s m args below meth c H locs cells slots Q (F0 m pc ls (st.map (conc ad)))
section SND
variable {p : Program} {l : Launch} {e : Env} {R : Room} {s : State} {m : MethodId} {args : Array Value} {below : List Frame} {meth : Method} {c : Code} {Q : State → Prop}
variable {D : va_G} {cA : ClassId} {A : Nat → Prop} {ci : Nat} {ly : List Bool} {ja : List (Nat × Nat)} {AD : (Nat → Nat) → Prop} {rel : Nat × Nat → Nat → Nat → Prop} {nL : Nat}
variable {cc : ByteArray} {pc n : Nat}
theorem s_iconst (hx : p.tables.exec = Jvm.exec) (hb : c.code = cc) {v : Int} (hd : decode cc pc = .ok (.iconst v, 1)) (hn : n = pc + 1) : ∀ lv st S, i_const v n lv st S (OK p l e R s m args below meth c Q D cA A ci ly ja AD rel nL) → (OK p l e R s m args below meth c Q D cA A ci ly ja AD rel nL) pc lv st S := by
  intro lv st S h
  subst hn
  intro ad ha H locs ls cells slots hr hP hD hS hL
  exact lv_iconst hx hb hd rfl (h ad ha H locs ls cells slots hr hP hD hS hL)
theorem s_bipush (hx : p.tables.exec = Jvm.exec) (hb : c.code = cc) {v : Int} (hd : decode cc pc = .ok (.bipush v, 2)) (hn : n = pc + 2) (hv : (Int8.ofInt v).toInt32 = iI v) : ∀ lv st S, i_const v n lv st S (OK p l e R s m args below meth c Q D cA A ci ly ja AD rel nL) → (OK p l e R s m args below meth c Q D cA A ci ly ja AD rel nL) pc lv st S := by
  intro lv st S h
  subst hn
  intro ad ha H locs ls cells slots hr hP hD hS hL
  exact lv_bipush hx hb hd hv (h ad ha H locs ls cells slots hr hP hD hS hL)
theorem s_sipush (hx : p.tables.exec = Jvm.exec) (hb : c.code = cc) {v : Int} (hd : decode cc pc = .ok (.sipush v, 3)) (hn : n = pc + 3) (hv : (Int16.ofInt v).toInt32 = iI v) : ∀ lv st S, i_const v n lv st S (OK p l e R s m args below meth c Q D cA A ci ly ja AD rel nL) → (OK p l e R s m args below meth c Q D cA A ci ly ja AD rel nL) pc lv st S := by
  intro lv st S h
  subst hn
  intro ad ha H locs ls cells slots hr hP hD hS hL
  exact lv_sipush hx hb hd hv (h ad ha H locs ls cells slots hr hP hD hS hL)
theorem s_dconst0 (hx : p.tables.exec = Jvm.exec) (hb : c.code = cc) (hd : decode cc pc = .ok (.dconst 0, 1)) (hn : n = pc + 1) : ∀ lv st S, i_dconst FP.dconst0 n lv st S (OK p l e R s m args below meth c Q D cA A ci ly ja AD rel nL) → (OK p l e R s m args below meth c Q D cA A ci ly ja AD rel nL) pc lv st S := by
  intro lv st S h
  subst hn
  intro ad ha H locs ls cells slots hr hP hD hS hL
  exact lv_dconst0 hx hb hd (h ad ha H locs ls cells slots hr hP hD hS hL)
theorem s_ldc2 (hx : p.tables.exec = Jvm.exec) (hb : c.code = cc) {own : String} {index : Nat} {v : Int64} (hown : s.vm.findClass own = some m.cls) (hc : (Jvm.Cond.constantLong own index v).before args s = true) (hd : decode cc pc = .ok (.ldc2_w index, 3)) (hn : n = pc + 3) : ∀ lv st S, i_lconst v n lv st S (OK p l e R s m args below meth c Q D cA A ci ly ja AD rel nL) → (OK p l e R s m args below meth c Q D cA A ci ly ja AD rel nL) pc lv st S := by
  intro lv st S h
  subst hn
  intro ad ha H locs ls cells slots hr hP hD hS hL
  exact lv_ldc2 hx hb hown hc hd (h ad ha H locs ls cells slots hr hP hD hS hL)
theorem s_iload_n (hx : p.tables.exec = Jvm.exec) (hb : c.code = cc) {i : Nat} {k : Fin 4} (hk : (k : Nat) = i) (hd : decode cc pc = .ok (.iload_n k, 1)) (hn : n = pc + 1) : ∀ lv st S, i_iload i n lv st S (OK p l e R s m args below meth c Q D cA A ci ly ja AD rel nL) → (OK p l e R s m args below meth c Q D cA A ci ly ja AD rel nL) pc lv st S := by
  intro lv st S h
  subst hn
  change k_iload _ lv st S _ (lget lv i) at h
  rcases hg : lget lv i with _ | (a | x | d | k9)
  all_goals rw [hg] at h
  · exact h.elim
  · intro ad ha H locs ls cells slots hr hP hD hS hL
    exact lv_iload_n hx hb hd hk (hL.2.2 _ _ hg) (h ad ha H locs ls cells slots hr hP hD hS hL)
  · exact h.elim
  · exact h.elim
  · exact h.elim
theorem s_iload (hx : p.tables.exec = Jvm.exec) (hb : c.code = cc) {i : Nat} (hd : decode cc pc = .ok (.iload i, 2)) (hn : n = pc + 2) : ∀ lv st S, i_iload i n lv st S (OK p l e R s m args below meth c Q D cA A ci ly ja AD rel nL) → (OK p l e R s m args below meth c Q D cA A ci ly ja AD rel nL) pc lv st S := by
  intro lv st S h
  subst hn
  change k_iload _ lv st S _ (lget lv i) at h
  rcases hg : lget lv i with _ | (a | x | d | k9)
  all_goals rw [hg] at h
  · exact h.elim
  · intro ad ha H locs ls cells slots hr hP hD hS hL
    exact lv_iload hx hb hd (hL.2.2 _ _ hg) (h ad ha H locs ls cells slots hr hP hD hS hL)
  · exact h.elim
  · exact h.elim
  · exact h.elim
theorem s_aload_n (hx : p.tables.exec = Jvm.exec) (hb : c.code = cc) {i : Nat} {k : Fin 4} (hk : (k : Nat) = i) (hd : decode cc pc = .ok (.aload_n k, 1)) (hn : n = pc + 1) : ∀ lv st S, i_aload i n lv st S (OK p l e R s m args below meth c Q D cA A ci ly ja AD rel nL) → (OK p l e R s m args below meth c Q D cA A ci ly ja AD rel nL) pc lv st S := by
  intro lv st S h
  subst hn
  change k_aload _ lv st S _ (lget lv i) at h
  rcases hg : lget lv i with _ | (a | x | d | k9)
  all_goals rw [hg] at h
  · exact h.elim
  · exact h.elim
  · exact h.elim
  · exact h.elim
  · intro ad ha H locs ls cells slots hr hP hD hS hL
    exact lv_aload_n hx hb hd hk (hL.2.2 _ _ hg) (h ad ha H locs ls cells slots hr hP hD hS hL)
theorem s_aload (hx : p.tables.exec = Jvm.exec) (hb : c.code = cc) {i : Nat} (hd : decode cc pc = .ok (.aload i, 2)) (hn : n = pc + 2) : ∀ lv st S, i_aload i n lv st S (OK p l e R s m args below meth c Q D cA A ci ly ja AD rel nL) → (OK p l e R s m args below meth c Q D cA A ci ly ja AD rel nL) pc lv st S := by
  intro lv st S h
  subst hn
  change k_aload _ lv st S _ (lget lv i) at h
  rcases hg : lget lv i with _ | (a | x | d | k9)
  all_goals rw [hg] at h
  · exact h.elim
  · exact h.elim
  · exact h.elim
  · exact h.elim
  · intro ad ha H locs ls cells slots hr hP hD hS hL
    exact lv_aload hx hb hd (hL.2.2 _ _ hg) (h ad ha H locs ls cells slots hr hP hD hS hL)
theorem s_lload_n (hx : p.tables.exec = Jvm.exec) (hb : c.code = cc) {i : Nat} {k : Fin 4} (hk : (k : Nat) = i) (hd : decode cc pc = .ok (.lload_n k, 1)) (hn : n = pc + 1) : ∀ lv st S, i_lload i n lv st S (OK p l e R s m args below meth c Q D cA A ci ly ja AD rel nL) → (OK p l e R s m args below meth c Q D cA A ci ly ja AD rel nL) pc lv st S := by
  intro lv st S h
  subst hn
  change k_lload _ lv st S _ (lget lv i) at h
  rcases hg : lget lv i with _ | (a | x | d | k9)
  all_goals rw [hg] at h
  · exact h.elim
  · exact h.elim
  · intro ad ha H locs ls cells slots hr hP hD hS hL
    exact lv_lload_n hx hb hd hk (hL.2.2 _ _ hg) (h ad ha H locs ls cells slots hr hP hD hS hL)
  · exact h.elim
  · exact h.elim
theorem s_lload (hx : p.tables.exec = Jvm.exec) (hb : c.code = cc) {i : Nat} (hd : decode cc pc = .ok (.lload i, 2)) (hn : n = pc + 2) : ∀ lv st S, i_lload i n lv st S (OK p l e R s m args below meth c Q D cA A ci ly ja AD rel nL) → (OK p l e R s m args below meth c Q D cA A ci ly ja AD rel nL) pc lv st S := by
  intro lv st S h
  subst hn
  change k_lload _ lv st S _ (lget lv i) at h
  rcases hg : lget lv i with _ | (a | x | d | k9)
  all_goals rw [hg] at h
  · exact h.elim
  · exact h.elim
  · intro ad ha H locs ls cells slots hr hP hD hS hL
    exact lv_lload hx hb hd (hL.2.2 _ _ hg) (h ad ha H locs ls cells slots hr hP hD hS hL)
  · exact h.elim
  · exact h.elim
theorem s_istore_n (hx : p.tables.exec = Jvm.exec) (hb : c.code = cc) {i : Nat} {k : Fin 4} (hk : (k : Nat) = i) (hd : decode cc pc = .ok (.istore_n k, 1)) (hn : n = pc + 1) (hi : i < nL) : ∀ lv st S, i_istore i n lv st S (OK p l e R s m args below meth c Q D cA A ci ly ja AD rel nL) → (OK p l e R s m args below meth c Q D cA A ci ly ja AD rel nL) pc lv st S := by
  intro lv st S h
  subst hn
  rcases st with _ | ⟨a | x | d | k9, r⟩
  · exact h.elim
  · obtain ⟨hok, h⟩ := h
    intro ad ha H locs ls cells slots hr hP hD hS hL
    exact lv_istore_n hx hb hd hk hL.has (by omega) rfl (fun ls' hl' => h ad ha H locs ls' cells slots hr hP hD hS (LR.st1 hok hl'))
  · exact h.elim
  · exact h.elim
  · exact h.elim
theorem s_istore (hx : p.tables.exec = Jvm.exec) (hb : c.code = cc) {i : Nat} (hd : decode cc pc = .ok (.istore i, 2)) (hn : n = pc + 2) (hi : i < nL) : ∀ lv st S, i_istore i n lv st S (OK p l e R s m args below meth c Q D cA A ci ly ja AD rel nL) → (OK p l e R s m args below meth c Q D cA A ci ly ja AD rel nL) pc lv st S := by
  intro lv st S h
  subst hn
  rcases st with _ | ⟨a | x | d | k9, r⟩
  · exact h.elim
  · obtain ⟨hok, h⟩ := h
    intro ad ha H locs ls cells slots hr hP hD hS hL
    exact lv_istore hx hb hd hL.has (by omega) rfl (fun ls' hl' => h ad ha H locs ls' cells slots hr hP hD hS (LR.st1 hok hl'))
  · exact h.elim
  · exact h.elim
  · exact h.elim
theorem s_astore_n (hx : p.tables.exec = Jvm.exec) (hb : c.code = cc) {i : Nat} {k : Fin 4} (hk : (k : Nat) = i) (hd : decode cc pc = .ok (.astore_n k, 1)) (hn : n = pc + 1) (hi : i < nL) : ∀ lv st S, i_astore i n lv st S (OK p l e R s m args below meth c Q D cA A ci ly ja AD rel nL) → (OK p l e R s m args below meth c Q D cA A ci ly ja AD rel nL) pc lv st S := by
  intro lv st S h
  subst hn
  rcases st with _ | ⟨a | x | d | k9, r⟩
  · exact h.elim
  · exact h.elim
  · exact h.elim
  · exact h.elim
  · obtain ⟨hok, h⟩ := h
    intro ad ha H locs ls cells slots hr hP hD hS hL
    exact lv_astore_n hx hb hd hk hL.has (by omega) rfl (fun ls' hl' => h ad ha H locs ls' cells slots hr hP hD hS (LR.st1 hok hl'))
theorem s_astore (hx : p.tables.exec = Jvm.exec) (hb : c.code = cc) {i : Nat} (hd : decode cc pc = .ok (.astore i, 2)) (hn : n = pc + 2) (hi : i < nL) : ∀ lv st S, i_astore i n lv st S (OK p l e R s m args below meth c Q D cA A ci ly ja AD rel nL) → (OK p l e R s m args below meth c Q D cA A ci ly ja AD rel nL) pc lv st S := by
  intro lv st S h
  subst hn
  rcases st with _ | ⟨a | x | d | k9, r⟩
  · exact h.elim
  · exact h.elim
  · exact h.elim
  · exact h.elim
  · obtain ⟨hok, h⟩ := h
    intro ad ha H locs ls cells slots hr hP hD hS hL
    exact lv_astore hx hb hd hL.has (by omega) rfl (fun ls' hl' => h ad ha H locs ls' cells slots hr hP hD hS (LR.st1 hok hl'))
theorem s_lstore_n (hx : p.tables.exec = Jvm.exec) (hb : c.code = cc) {i : Nat} {k : Fin 4} (hk : (k : Nat) = i) (hd : decode cc pc = .ok (.lstore_n k, 1)) (hn : n = pc + 1) (hi : i + 1 < nL) : ∀ lv st S, i_lstore i n lv st S (OK p l e R s m args below meth c Q D cA A ci ly ja AD rel nL) → (OK p l e R s m args below meth c Q D cA A ci ly ja AD rel nL) pc lv st S := by
  intro lv st S h
  subst hn
  rcases st with _ | ⟨a | x | d | k9, r⟩
  · exact h.elim
  · exact h.elim
  · obtain ⟨hok, h⟩ := h
    intro ad ha H locs ls cells slots hr hP hD hS hL
    exact lv_lstore_n hx hb hd hk hL.has (by omega) rfl (fun ls' hl' => h ad ha H locs ls' cells slots hr hP hD hS (LR.st2 hok hl'))
  · exact h.elim
  · exact h.elim
theorem s_lstore (hx : p.tables.exec = Jvm.exec) (hb : c.code = cc) {i : Nat} (hd : decode cc pc = .ok (.lstore i, 2)) (hn : n = pc + 2) (hi : i + 1 < nL) : ∀ lv st S, i_lstore i n lv st S (OK p l e R s m args below meth c Q D cA A ci ly ja AD rel nL) → (OK p l e R s m args below meth c Q D cA A ci ly ja AD rel nL) pc lv st S := by
  intro lv st S h
  subst hn
  rcases st with _ | ⟨a | x | d | k9, r⟩
  · exact h.elim
  · exact h.elim
  · obtain ⟨hok, h⟩ := h
    intro ad ha H locs ls cells slots hr hP hD hS hL
    exact lv_lstore hx hb hd hL.has (by omega) rfl (fun ls' hl' => h ad ha H locs ls' cells slots hr hP hD hS (LR.st2 hok hl'))
  · exact h.elim
  · exact h.elim
theorem s_iinc (hx : p.tables.exec = Jvm.exec) (hb : c.code = cc) {i : Nat} {d : Int} (hd : decode cc pc = .ok (.iinc i d, 3)) (hn : n = pc + 3) (hi : i < nL) : ∀ lv st S, i_iinc i d n lv st S (OK p l e R s m args below meth c Q D cA A ci ly ja AD rel nL) → (OK p l e R s m args below meth c Q D cA A ci ly ja AD rel nL) pc lv st S := by
  intro lv st S h
  subst hn
  change k_iinc i d _ lv st S _ (lget lv i) at h
  rcases hg : lget lv i with _ | (a | x | d9 | k9)
  all_goals rw [hg] at h
  · exact h.elim
  · intro ad ha H locs ls cells slots hr hP hD hS hL
    have hL2 := hL.has
    obtain ⟨k, hk⟩ : ∃ k, (prs ad lv)[k]? = some (i, Value.int (iI a)) := List.getElem?_of_mem (mem_prs.mpr ⟨_, hg, rfl⟩)
    exact lv_iinc (v := iI (a + d)) hx hb hd hL2 hk (iI_add a d) hi rfl (fun ls' hl' => h ad ha H locs ls' cells slots hr hP hD hS (LR.st1 (v := vI (a + d)) (hL.lok hg) hl'))
  · exact h.elim
  · exact h.elim
  · exact h.elim
theorem s_dup (hx : p.tables.exec = Jvm.exec) (hb : c.code = cc) (hd : decode cc pc = .ok (.dup, 1)) (hn : n = pc + 1) : ∀ lv st S, i_dup n lv st S (OK p l e R s m args below meth c Q D cA A ci ly ja AD rel nL) → (OK p l e R s m args below meth c Q D cA A ci ly ja AD rel nL) pc lv st S := by
  intro lv st S h
  subst hn
  rcases st with _ | ⟨a | x | d | k9, r⟩
  · exact h.elim
  · intro ad ha H locs ls cells slots hr hP hD hS hL
    exact lv_dup hx hb hd rfl (h ad ha H locs ls cells slots hr hP hD hS hL)
  · exact h.elim
  · exact h.elim
  · intro ad ha H locs ls cells slots hr hP hD hS hL
    exact lv_dup hx hb hd rfl (h ad ha H locs ls cells slots hr hP hD hS hL)
theorem s_iadd (hx : p.tables.exec = Jvm.exec) (hb : c.code = cc) (hd : decode cc pc = .ok (.iadd, 1)) (hn : n = pc + 1) : ∀ lv st S, i_iadd n lv st S (OK p l e R s m args below meth c Q D cA A ci ly ja AD rel nL) → (OK p l e R s m args below meth c Q D cA A ci ly ja AD rel nL) pc lv st S := by
  intro lv st S h
  subst hn
  rcases st with _ | ⟨b | b | b | b, st⟩
  · exact h.elim
  · rcases st with _ | ⟨a | a | a | a, r⟩
    · exact h.elim
    · intro ad ha H locs ls cells slots hr hP hD hS hL
      refine lv_iadd hx hb hd ?_
      rw [iI_add]
      exact h ad ha H locs ls cells slots hr hP hD hS hL
    · exact h.elim
    · exact h.elim
    · exact h.elim
  · exact h.elim
  · exact h.elim
  · exact h.elim
theorem s_isub (hx : p.tables.exec = Jvm.exec) (hb : c.code = cc) (hd : decode cc pc = .ok (.isub, 1)) (hn : n = pc + 1) : ∀ lv st S, i_isub n lv st S (OK p l e R s m args below meth c Q D cA A ci ly ja AD rel nL) → (OK p l e R s m args below meth c Q D cA A ci ly ja AD rel nL) pc lv st S := by
  intro lv st S h
  subst hn
  rcases st with _ | ⟨b | b | b | b, st⟩
  · exact h.elim
  · rcases st with _ | ⟨a | a | a | a, r⟩
    · exact h.elim
    · intro ad ha H locs ls cells slots hr hP hD hS hL
      refine lv_isub hx hb hd ?_
      rw [iI_sub]
      exact h ad ha H locs ls cells slots hr hP hD hS hL
    · exact h.elim
    · exact h.elim
    · exact h.elim
  · exact h.elim
  · exact h.elim
  · exact h.elim
theorem s_imul (hx : p.tables.exec = Jvm.exec) (hb : c.code = cc) (hd : decode cc pc = .ok (.imul, 1)) (hn : n = pc + 1) : ∀ lv st S, i_imul n lv st S (OK p l e R s m args below meth c Q D cA A ci ly ja AD rel nL) → (OK p l e R s m args below meth c Q D cA A ci ly ja AD rel nL) pc lv st S := by
  intro lv st S h
  subst hn
  rcases st with _ | ⟨b | b | b | b, st⟩
  · exact h.elim
  · rcases st with _ | ⟨a | a | a | a, r⟩
    · exact h.elim
    · intro ad ha H locs ls cells slots hr hP hD hS hL
      refine lv_imul hx hb hd ?_
      rw [iI_mul]
      exact h ad ha H locs ls cells slots hr hP hD hS hL
    · exact h.elim
    · exact h.elim
    · exact h.elim
  · exact h.elim
  · exact h.elim
  · exact h.elim
theorem s_idiv (hx : p.tables.exec = Jvm.exec) (hb : c.code = cc) (hd : decode cc pc = .ok (.idiv, 1)) (hn : n = pc + 1) : ∀ lv st S, i_idiv n lv st S (OK p l e R s m args below meth c Q D cA A ci ly ja AD rel nL) → (OK p l e R s m args below meth c Q D cA A ci ly ja AD rel nL) pc lv st S := by
  intro lv st S h
  subst hn
  rcases st with _ | ⟨b | b | b | b, st⟩
  · exact h.elim
  · rcases st with _ | ⟨a | a | a | a, r⟩
    · exact h.elim
    · obtain ⟨⟨ha', hb'⟩, h⟩ := h
      intro ad ha H locs ls cells slots hr hP hD hS hL
      refine lv_idiv hx hb hd (iI_ne0 hb') ?_
      rw [iI_div ha' hb']
      exact h ad ha H locs ls cells slots hr hP hD hS hL
    · exact h.elim
    · exact h.elim
    · exact h.elim
  · exact h.elim
  · exact h.elim
  · exact h.elim
theorem s_irem (hx : p.tables.exec = Jvm.exec) (hb : c.code = cc) (hd : decode cc pc = .ok (.irem, 1)) (hn : n = pc + 1) : ∀ lv st S, i_irem n lv st S (OK p l e R s m args below meth c Q D cA A ci ly ja AD rel nL) → (OK p l e R s m args below meth c Q D cA A ci ly ja AD rel nL) pc lv st S := by
  intro lv st S h
  subst hn
  rcases st with _ | ⟨b | b | b | b, st⟩
  · exact h.elim
  · rcases st with _ | ⟨a | a | a | a, r⟩
    · exact h.elim
    · obtain ⟨⟨ha', hb'⟩, h⟩ := h
      intro ad ha H locs ls cells slots hr hP hD hS hL
      refine lv_irem hx hb hd (iI_ne0 hb') ?_
      rw [iI_rem ha' hb']
      exact h ad ha H locs ls cells slots hr hP hD hS hL
    · exact h.elim
    · exact h.elim
    · exact h.elim
  · exact h.elim
  · exact h.elim
  · exact h.elim
theorem s_ladd (hx : p.tables.exec = Jvm.exec) (hb : c.code = cc) (hd : decode cc pc = .ok (.ladd, 1)) (hn : n = pc + 1) : ∀ lv st S, i_ladd n lv st S (OK p l e R s m args below meth c Q D cA A ci ly ja AD rel nL) → (OK p l e R s m args below meth c Q D cA A ci ly ja AD rel nL) pc lv st S := by
  intro lv st S h
  subst hn
  rcases st with _ | ⟨b | b | b | b, st⟩
  · exact h.elim
  · exact h.elim
  · rcases st with _ | ⟨a | a | a | a, r⟩
    · exact h.elim
    · exact h.elim
    · intro ad ha H locs ls cells slots hr hP hD hS hL
      exact lv_ladd hx hb hd (h ad ha H locs ls cells slots hr hP hD hS hL)
    · exact h.elim
    · exact h.elim
  · exact h.elim
  · exact h.elim
theorem s_lmul (hx : p.tables.exec = Jvm.exec) (hb : c.code = cc) (hd : decode cc pc = .ok (.lmul, 1)) (hn : n = pc + 1) : ∀ lv st S, i_lmul n lv st S (OK p l e R s m args below meth c Q D cA A ci ly ja AD rel nL) → (OK p l e R s m args below meth c Q D cA A ci ly ja AD rel nL) pc lv st S := by
  intro lv st S h
  subst hn
  rcases st with _ | ⟨b | b | b | b, st⟩
  · exact h.elim
  · exact h.elim
  · rcases st with _ | ⟨a | a | a | a, r⟩
    · exact h.elim
    · exact h.elim
    · intro ad ha H locs ls cells slots hr hP hD hS hL
      exact lv_lmul hx hb hd (h ad ha H locs ls cells slots hr hP hD hS hL)
    · exact h.elim
    · exact h.elim
  · exact h.elim
  · exact h.elim
theorem s_ddiv (hx : p.tables.exec = Jvm.exec) (hb : c.code = cc) (hd : decode cc pc = .ok (.ddiv, 1)) (hn : n = pc + 1) : ∀ lv st S, i_ddiv n lv st S (OK p l e R s m args below meth c Q D cA A ci ly ja AD rel nL) → (OK p l e R s m args below meth c Q D cA A ci ly ja AD rel nL) pc lv st S := by
  intro lv st S h
  subst hn
  rcases st with _ | ⟨b | b | b | b, st⟩
  · exact h.elim
  · exact h.elim
  · exact h.elim
  · rcases st with _ | ⟨a | a | a | a, r⟩
    · exact h.elim
    · exact h.elim
    · exact h.elim
    · obtain ⟨hne, h⟩ := h
      intro ad ha H locs ls cells slots hr hP hD hS hL
      exact lv_ddiv hx hb hd hne (h ad ha H locs ls cells slots hr hP hD hS hL)
    · exact h.elim
  · exact h.elim
theorem s_i2l (hx : p.tables.exec = Jvm.exec) (hb : c.code = cc) (hd : decode cc pc = .ok (.i2l, 1)) (hn : n = pc + 1) : ∀ lv st S, i_i2l n lv st S (OK p l e R s m args below meth c Q D cA A ci ly ja AD rel nL) → (OK p l e R s m args below meth c Q D cA A ci ly ja AD rel nL) pc lv st S := by
  intro lv st S h
  subst hn
  rcases st with _ | ⟨a | x | d | k9, r⟩
  · exact h.elim
  · intro ad ha H locs ls cells slots hr hP hD hS hL
    exact lv_i2l hx hb hd rfl (h ad ha H locs ls cells slots hr hP hD hS hL)
  · exact h.elim
  · exact h.elim
  · exact h.elim
theorem s_i2d (hx : p.tables.exec = Jvm.exec) (hb : c.code = cc) (hd : decode cc pc = .ok (.i2d, 1)) (hn : n = pc + 1) : ∀ lv st S, i_i2d n lv st S (OK p l e R s m args below meth c Q D cA A ci ly ja AD rel nL) → (OK p l e R s m args below meth c Q D cA A ci ly ja AD rel nL) pc lv st S := by
  intro lv st S h
  subst hn
  rcases st with _ | ⟨a | x | d | k9, r⟩
  · exact h.elim
  · intro ad ha H locs ls cells slots hr hP hD hS hL
    exact lv_i2d hx hb hd (h ad ha H locs ls cells slots hr hP hD hS hL)
  · exact h.elim
  · exact h.elim
  · exact h.elim
theorem s_dup2 (hx : p.tables.exec = Jvm.exec) (hb : c.code = cc) (hd : decode cc pc = .ok (.dup2, 1)) (hn : n = pc + 1) : ∀ lv st S, i_dup2 n lv st S (OK p l e R s m args below meth c Q D cA A ci ly ja AD rel nL) → (OK p l e R s m args below meth c Q D cA A ci ly ja AD rel nL) pc lv st S := by
  intro lv st S h
  subst hn
  rcases st with _ | ⟨b | b | b | b, st⟩
  · exact h.elim
  · rcases st with _ | ⟨a | a | a | a, r⟩
    · exact h.elim
    · exact h.elim
    · exact h.elim
    · exact h.elim
    · intro ad ha H locs ls cells slots hr hP hD hS hL
      exact lv_dup2_11 hx hb hd rfl rfl (h ad ha H locs ls cells slots hr hP hD hS hL)
  · exact h.elim
  · exact h.elim
  · exact h.elim
theorem s_icmp_eq (hx : p.tables.exec = Jvm.exec) (hb : c.code = cc) {off : Int} {t : Nat} (htg : (pc : Int) + off = (t : Int)) (hd : decode cc pc = .ok (.if_icmp .eq off, 3)) (hn : n = pc + 3) : ∀ lv st S, i_icmp (fun a b => a = b) t n lv st S (OK p l e R s m args below meth c Q D cA A ci ly ja AD rel nL) → (OK p l e R s m args below meth c Q D cA A ci ly ja AD rel nL) pc lv st S := by
  intro lv st S h
  subst hn
  rcases st with _ | ⟨b | b | b | b, st⟩
  · exact h.elim
  · rcases st with _ | ⟨a | a | a | a, r⟩
    · exact h.elim
    · obtain ⟨⟨hr1, hr2⟩, ht, hf⟩ := h
      intro ad ha H locs ls cells slots hr hP hD hS hL
      exact lv_icmp_eq hx hb hd htg (fun z => ht ((iI_eq hr1 hr2).mp z) ad ha H locs ls cells slots hr hP hD hS hL) (fun z => hf (fun y => z ((iI_eq hr1 hr2).mpr y)) ad ha H locs ls cells slots hr hP hD hS hL)
    · exact h.elim
    · exact h.elim
    · exact h.elim
  · exact h.elim
  · exact h.elim
  · exact h.elim
theorem s_if_eq (hx : p.tables.exec = Jvm.exec) (hb : c.code = cc) {off : Int} {t : Nat} (htg : (pc : Int) + off = (t : Int)) (hd : decode cc pc = .ok (.ifCond .eq off, 3)) (hn : n = pc + 3) : ∀ lv st S, i_if (fun a => a = 0) t n lv st S (OK p l e R s m args below meth c Q D cA A ci ly ja AD rel nL) → (OK p l e R s m args below meth c Q D cA A ci ly ja AD rel nL) pc lv st S := by
  intro lv st S h
  subst hn
  rcases st with _ | ⟨a | x | d | k9, r⟩
  · exact h.elim
  · obtain ⟨hr1, ht, hf⟩ := h
    intro ad ha H locs ls cells slots hr hP hD hS hL
    refine lv_if_eq hx hb hd htg (fun z => ?_) (fun z => ?_)
    · rw [← iI_0] at z
      exact ht ((iI_eq hr1 rng0).mp z) ad ha H locs ls cells slots hr hP hD hS hL
    · rw [← iI_0] at z
      exact hf (fun y => z ((iI_eq hr1 rng0).mpr y)) ad ha H locs ls cells slots hr hP hD hS hL
  · exact h.elim
  · exact h.elim
  · exact h.elim
theorem s_icmp_ne (hx : p.tables.exec = Jvm.exec) (hb : c.code = cc) {off : Int} {t : Nat} (htg : (pc : Int) + off = (t : Int)) (hd : decode cc pc = .ok (.if_icmp .ne off, 3)) (hn : n = pc + 3) : ∀ lv st S, i_icmp (fun a b => a ≠ b) t n lv st S (OK p l e R s m args below meth c Q D cA A ci ly ja AD rel nL) → (OK p l e R s m args below meth c Q D cA A ci ly ja AD rel nL) pc lv st S := by
  intro lv st S h
  subst hn
  rcases st with _ | ⟨b | b | b | b, st⟩
  · exact h.elim
  · rcases st with _ | ⟨a | a | a | a, r⟩
    · exact h.elim
    · obtain ⟨⟨hr1, hr2⟩, ht, hf⟩ := h
      intro ad ha H locs ls cells slots hr hP hD hS hL
      exact lv_icmp_ne hx hb hd htg (fun z => ht ((not_congr (iI_eq hr1 hr2)).mp z) ad ha H locs ls cells slots hr hP hD hS hL) (fun z => hf (fun y => y ((iI_eq hr1 hr2).mp z)) ad ha H locs ls cells slots hr hP hD hS hL)
    · exact h.elim
    · exact h.elim
    · exact h.elim
  · exact h.elim
  · exact h.elim
  · exact h.elim
theorem s_if_ne (hx : p.tables.exec = Jvm.exec) (hb : c.code = cc) {off : Int} {t : Nat} (htg : (pc : Int) + off = (t : Int)) (hd : decode cc pc = .ok (.ifCond .ne off, 3)) (hn : n = pc + 3) : ∀ lv st S, i_if (fun a => a ≠ 0) t n lv st S (OK p l e R s m args below meth c Q D cA A ci ly ja AD rel nL) → (OK p l e R s m args below meth c Q D cA A ci ly ja AD rel nL) pc lv st S := by
  intro lv st S h
  subst hn
  rcases st with _ | ⟨a | x | d | k9, r⟩
  · exact h.elim
  · obtain ⟨hr1, ht, hf⟩ := h
    intro ad ha H locs ls cells slots hr hP hD hS hL
    refine lv_if_ne hx hb hd htg (fun z => ?_) (fun z => ?_)
    · rw [← iI_0] at z
      exact ht ((not_congr (iI_eq hr1 rng0)).mp z) ad ha H locs ls cells slots hr hP hD hS hL
    · rw [← iI_0] at z
      exact hf (fun y => y ((iI_eq hr1 rng0).mp z)) ad ha H locs ls cells slots hr hP hD hS hL
  · exact h.elim
  · exact h.elim
  · exact h.elim
theorem s_icmp_lt (hx : p.tables.exec = Jvm.exec) (hb : c.code = cc) {off : Int} {t : Nat} (htg : (pc : Int) + off = (t : Int)) (hd : decode cc pc = .ok (.if_icmp .lt off, 3)) (hn : n = pc + 3) : ∀ lv st S, i_icmp (fun a b => a < b) t n lv st S (OK p l e R s m args below meth c Q D cA A ci ly ja AD rel nL) → (OK p l e R s m args below meth c Q D cA A ci ly ja AD rel nL) pc lv st S := by
  intro lv st S h
  subst hn
  rcases st with _ | ⟨b | b | b | b, st⟩
  · exact h.elim
  · rcases st with _ | ⟨a | a | a | a, r⟩
    · exact h.elim
    · obtain ⟨⟨hr1, hr2⟩, ht, hf⟩ := h
      intro ad ha H locs ls cells slots hr hP hD hS hL
      exact lv_icmp_lt hx hb hd htg (fun z => ht ((iI_lt hr1 hr2).mp z) ad ha H locs ls cells slots hr hP hD hS hL) (fun z => hf (fun y => z ((iI_lt hr1 hr2).mpr y)) ad ha H locs ls cells slots hr hP hD hS hL)
    · exact h.elim
    · exact h.elim
    · exact h.elim
  · exact h.elim
  · exact h.elim
  · exact h.elim
theorem s_if_lt (hx : p.tables.exec = Jvm.exec) (hb : c.code = cc) {off : Int} {t : Nat} (htg : (pc : Int) + off = (t : Int)) (hd : decode cc pc = .ok (.ifCond .lt off, 3)) (hn : n = pc + 3) : ∀ lv st S, i_if (fun a => a < 0) t n lv st S (OK p l e R s m args below meth c Q D cA A ci ly ja AD rel nL) → (OK p l e R s m args below meth c Q D cA A ci ly ja AD rel nL) pc lv st S := by
  intro lv st S h
  subst hn
  rcases st with _ | ⟨a | x | d | k9, r⟩
  · exact h.elim
  · obtain ⟨hr1, ht, hf⟩ := h
    intro ad ha H locs ls cells slots hr hP hD hS hL
    refine lv_if_lt hx hb hd htg (fun z => ?_) (fun z => ?_)
    · rw [← iI_0] at z
      exact ht ((iI_lt hr1 rng0).mp z) ad ha H locs ls cells slots hr hP hD hS hL
    · rw [← iI_0] at z
      exact hf (fun y => z ((iI_lt hr1 rng0).mpr y)) ad ha H locs ls cells slots hr hP hD hS hL
  · exact h.elim
  · exact h.elim
  · exact h.elim
theorem s_icmp_ge (hx : p.tables.exec = Jvm.exec) (hb : c.code = cc) {off : Int} {t : Nat} (htg : (pc : Int) + off = (t : Int)) (hd : decode cc pc = .ok (.if_icmp .ge off, 3)) (hn : n = pc + 3) : ∀ lv st S, i_icmp (fun a b => a ≥ b) t n lv st S (OK p l e R s m args below meth c Q D cA A ci ly ja AD rel nL) → (OK p l e R s m args below meth c Q D cA A ci ly ja AD rel nL) pc lv st S := by
  intro lv st S h
  subst hn
  rcases st with _ | ⟨b | b | b | b, st⟩
  · exact h.elim
  · rcases st with _ | ⟨a | a | a | a, r⟩
    · exact h.elim
    · obtain ⟨⟨hr1, hr2⟩, ht, hf⟩ := h
      intro ad ha H locs ls cells slots hr hP hD hS hL
      exact lv_icmp_ge hx hb hd htg (fun z => ht ((iI_le hr2 hr1).mp z) ad ha H locs ls cells slots hr hP hD hS hL) (fun z => hf (fun y => z ((iI_le hr2 hr1).mpr y)) ad ha H locs ls cells slots hr hP hD hS hL)
    · exact h.elim
    · exact h.elim
    · exact h.elim
  · exact h.elim
  · exact h.elim
  · exact h.elim
theorem s_if_ge (hx : p.tables.exec = Jvm.exec) (hb : c.code = cc) {off : Int} {t : Nat} (htg : (pc : Int) + off = (t : Int)) (hd : decode cc pc = .ok (.ifCond .ge off, 3)) (hn : n = pc + 3) : ∀ lv st S, i_if (fun a => a ≥ 0) t n lv st S (OK p l e R s m args below meth c Q D cA A ci ly ja AD rel nL) → (OK p l e R s m args below meth c Q D cA A ci ly ja AD rel nL) pc lv st S := by
  intro lv st S h
  subst hn
  rcases st with _ | ⟨a | x | d | k9, r⟩
  · exact h.elim
  · obtain ⟨hr1, ht, hf⟩ := h
    intro ad ha H locs ls cells slots hr hP hD hS hL
    refine lv_if_ge hx hb hd htg (fun z => ?_) (fun z => ?_)
    · rw [← iI_0] at z
      exact ht ((iI_le rng0 hr1).mp z) ad ha H locs ls cells slots hr hP hD hS hL
    · rw [← iI_0] at z
      exact hf (fun y => z ((iI_le rng0 hr1).mpr y)) ad ha H locs ls cells slots hr hP hD hS hL
  · exact h.elim
  · exact h.elim
  · exact h.elim
theorem s_icmp_gt (hx : p.tables.exec = Jvm.exec) (hb : c.code = cc) {off : Int} {t : Nat} (htg : (pc : Int) + off = (t : Int)) (hd : decode cc pc = .ok (.if_icmp .gt off, 3)) (hn : n = pc + 3) : ∀ lv st S, i_icmp (fun a b => a > b) t n lv st S (OK p l e R s m args below meth c Q D cA A ci ly ja AD rel nL) → (OK p l e R s m args below meth c Q D cA A ci ly ja AD rel nL) pc lv st S := by
  intro lv st S h
  subst hn
  rcases st with _ | ⟨b | b | b | b, st⟩
  · exact h.elim
  · rcases st with _ | ⟨a | a | a | a, r⟩
    · exact h.elim
    · obtain ⟨⟨hr1, hr2⟩, ht, hf⟩ := h
      intro ad ha H locs ls cells slots hr hP hD hS hL
      exact lv_icmp_gt hx hb hd htg (fun z => ht ((iI_lt hr2 hr1).mp z) ad ha H locs ls cells slots hr hP hD hS hL) (fun z => hf (fun y => z ((iI_lt hr2 hr1).mpr y)) ad ha H locs ls cells slots hr hP hD hS hL)
    · exact h.elim
    · exact h.elim
    · exact h.elim
  · exact h.elim
  · exact h.elim
  · exact h.elim
theorem s_if_gt (hx : p.tables.exec = Jvm.exec) (hb : c.code = cc) {off : Int} {t : Nat} (htg : (pc : Int) + off = (t : Int)) (hd : decode cc pc = .ok (.ifCond .gt off, 3)) (hn : n = pc + 3) : ∀ lv st S, i_if (fun a => a > 0) t n lv st S (OK p l e R s m args below meth c Q D cA A ci ly ja AD rel nL) → (OK p l e R s m args below meth c Q D cA A ci ly ja AD rel nL) pc lv st S := by
  intro lv st S h
  subst hn
  rcases st with _ | ⟨a | x | d | k9, r⟩
  · exact h.elim
  · obtain ⟨hr1, ht, hf⟩ := h
    intro ad ha H locs ls cells slots hr hP hD hS hL
    refine lv_if_gt hx hb hd htg (fun z => ?_) (fun z => ?_)
    · rw [← iI_0] at z
      exact ht ((iI_lt rng0 hr1).mp z) ad ha H locs ls cells slots hr hP hD hS hL
    · rw [← iI_0] at z
      exact hf (fun y => z ((iI_lt rng0 hr1).mpr y)) ad ha H locs ls cells slots hr hP hD hS hL
  · exact h.elim
  · exact h.elim
  · exact h.elim
theorem s_icmp_le (hx : p.tables.exec = Jvm.exec) (hb : c.code = cc) {off : Int} {t : Nat} (htg : (pc : Int) + off = (t : Int)) (hd : decode cc pc = .ok (.if_icmp .le off, 3)) (hn : n = pc + 3) : ∀ lv st S, i_icmp (fun a b => a ≤ b) t n lv st S (OK p l e R s m args below meth c Q D cA A ci ly ja AD rel nL) → (OK p l e R s m args below meth c Q D cA A ci ly ja AD rel nL) pc lv st S := by
  intro lv st S h
  subst hn
  rcases st with _ | ⟨b | b | b | b, st⟩
  · exact h.elim
  · rcases st with _ | ⟨a | a | a | a, r⟩
    · exact h.elim
    · obtain ⟨⟨hr1, hr2⟩, ht, hf⟩ := h
      intro ad ha H locs ls cells slots hr hP hD hS hL
      exact lv_icmp_le hx hb hd htg (fun z => ht ((iI_le hr1 hr2).mp z) ad ha H locs ls cells slots hr hP hD hS hL) (fun z => hf (fun y => z ((iI_le hr1 hr2).mpr y)) ad ha H locs ls cells slots hr hP hD hS hL)
    · exact h.elim
    · exact h.elim
    · exact h.elim
  · exact h.elim
  · exact h.elim
  · exact h.elim
theorem s_if_le (hx : p.tables.exec = Jvm.exec) (hb : c.code = cc) {off : Int} {t : Nat} (htg : (pc : Int) + off = (t : Int)) (hd : decode cc pc = .ok (.ifCond .le off, 3)) (hn : n = pc + 3) : ∀ lv st S, i_if (fun a => a ≤ 0) t n lv st S (OK p l e R s m args below meth c Q D cA A ci ly ja AD rel nL) → (OK p l e R s m args below meth c Q D cA A ci ly ja AD rel nL) pc lv st S := by
  intro lv st S h
  subst hn
  rcases st with _ | ⟨a | x | d | k9, r⟩
  · exact h.elim
  · obtain ⟨hr1, ht, hf⟩ := h
    intro ad ha H locs ls cells slots hr hP hD hS hL
    refine lv_if_le hx hb hd htg (fun z => ?_) (fun z => ?_)
    · rw [← iI_0] at z
      exact ht ((iI_le hr1 rng0).mp z) ad ha H locs ls cells slots hr hP hD hS hL
    · rw [← iI_0] at z
      exact hf (fun y => z ((iI_le hr1 rng0).mpr y)) ad ha H locs ls cells slots hr hP hD hS hL
  · exact h.elim
  · exact h.elim
  · exact h.elim
theorem s_goto (hx : p.tables.exec = Jvm.exec) (hb : c.code = cc) {off : Int} {t : Nat} (htg : (pc : Int) + off = (t : Int)) (hd : decode cc pc = .ok (.goto off, 3)) : ∀ lv st S, i_goto t lv st S (OK p l e R s m args below meth c Q D cA A ci ly ja AD rel nL) → (OK p l e R s m args below meth c Q D cA A ci ly ja AD rel nL) pc lv st S := by
  intro lv st S h
  intro ad ha H locs ls cells slots hr hP hD hS hL
  exact lv_goto hx hb hd htg (h ad ha H locs ls cells slots hr hP hD hS hL)
theorem s_switch (hx : p.tables.exec = Jvm.exec) (hb : c.code = cc) {dflt lo hi : Int} {offs : Array Int} {len d : Nat} {ts : List (Int × Nat)} (hd : decode cc pc = .ok (.tableswitch dflt lo hi offs, len)) (hdf : (pc : Int) + dflt = (d : Int)) (hts : ∀ q ∈ ts, lo ≤ q.1 ∧ q.1 ≤ hi ∧ ∃ off, offs[(q.1 - lo).toNat]? = some off ∧ (pc : Int) + off = (q.2 : Int)) (hall : ∀ a : Int, lo ≤ a → a ≤ hi → ∃ q ∈ ts, q.1 = a) : ∀ lv st S, i_switch ts d lv st S (OK p l e R s m args below meth c Q D cA A ci ly ja AD rel nL) → (OK p l e R s m args below meth c Q D cA A ci ly ja AD rel nL) pc lv st S := by
  intro lv st S h
  rcases st with _ | ⟨a | x | d | k9, r⟩
  · exact h.elim
  · obtain ⟨hr1, h⟩ := h
    intro ad ha H locs ls cells slots hr hP hD hS hL
    have key : ∀ ts' : List (Int × Nat), (∀ q ∈ ts', q ∈ ts) → tsw (OK p l e R s m args below meth c Q D cA A ci ly ja AD rel nL) lv r S a d ts' → (∃ q ∈ ts', q.1 = a ∧ (OK p l e R s m args below meth c Q D cA A ci ly ja AD rel nL) q.2 lv r S) ∨ ((∀ q ∈ ts', q.1 ≠ a) ∧ (OK p l e R s m args below meth c Q D cA A ci ly ja AD rel nL) d lv r S) := by
      intro ts'
      induction ts' with
      | nil => intro _ z; exact Or.inr ⟨fun q hq => (by cases hq), z⟩
      | cons q qs ih =>
        intro hm z
        obtain ⟨k, t⟩ := q
        by_cases hk : a = k
        · exact Or.inl ⟨(k, t), List.mem_cons_self, hk.symm, z.1 hk⟩
        · rcases ih (fun q hq => hm q (List.mem_cons_of_mem _ hq)) (z.2 hk) with ⟨q, h1, h2⟩ | ⟨h1, h2⟩
          · exact Or.inl ⟨q, List.mem_cons_of_mem _ h1, h2⟩
          · refine Or.inr ⟨fun q hq => ?_, h2⟩
            rcases List.mem_cons.mp hq with rfl | hq
            · exact fun e => hk e.symm
            · exact h1 q hq
    have hai : (iI a).toInt = a := iI_toInt hr1
    rcases key ts (fun q hq => hq) h with ⟨q, hq, hqa, hw⟩ | ⟨hno, hw⟩
    · obtain ⟨h1, h2, off, h3, h4⟩ := hts q hq
      subst hqa
      exact lv_tableIn hx hb hd (by rw [hai]; omega) (by rw [hai]; omega) (by rw [hai]; exact h3) h4 (hw ad ha H locs ls cells slots hr hP hD hS hL)
    · refine lv_tableOut hx hb hd ?_ hdf (hw ad ha H locs ls cells slots hr hP hD hS hL)
      rw [hai]
      rcases Int.lt_or_le a lo with q | q
      · exact Or.inl q
      · rcases Int.lt_or_le hi a with q2 | q2
        · exact Or.inr q2
        · obtain ⟨z, hz, hza⟩ := hall a q q2
          exact absurd hza (hno z hz)
  · exact h.elim
  · exact h.elim
  · exact h.elim
theorem s_getI (hx : p.tables.exec = Jvm.exec) (hb : c.code = cc) {C : String} {T : u_T} {N index k : Nat} {Ts : List Cond} (hts : ∀ w ∈ Ts, w.before args s = true) (hin : ∀ w ∈ u_ws C T N, w ∈ Ts) (hown : s.vm.findClass C = some m.cls) (hK : va_K D vwCl [(cA, .int)] s) (hc : vwCl[ci]? = some (C, T, N)) (hk : k < N) (hlink : (Cond.fieldLink C index C (T k).2.1 (T k).2.2.1).before args s = true) (hsame : (T k).1 = C) (hd : decode cc pc = .ok (.getfield index, 3)) (hn : n = pc + 3) (hly : ly[k]? = some false) : ∀ lv st S, i_getI k n lv st S (OK p l e R s m args below meth c Q D cA A ci ly ja AD rel nL) → (OK p l e R s m args below meth c Q D cA A ci ly ja AD rel nL) pc lv st S := by
  intro lv st S h
  subst hn
  rcases st with _ | ⟨a | x | d | k9, r⟩
  · exact h.elim
  · exact h.elim
  · exact h.elim
  · exact h.elim
  · cases k9 with
    | succ k8 => exact h.elim
    | zero =>
      intro ad ha H locs ls cells slots hr hP hD hS hL
      exact va_get hx hb hts hin hown hK hP 0 rfl hc k hk hlink (fun _ h9 => by rw [hsame] at h9; exact h9) (o_f_get hly) hd (h ad ha H locs ls cells slots hr hP hD hS hL)
theorem s_getA (hx : p.tables.exec = Jvm.exec) (hb : c.code = cc) {C : String} {T : u_T} {N index k : Nat} {Ts : List Cond} (hts : ∀ w ∈ Ts, w.before args s = true) (hin : ∀ w ∈ u_ws C T N, w ∈ Ts) (hown : s.vm.findClass C = some m.cls) (hK : va_K D vwCl [(cA, .int)] s) (hc : vwCl[ci]? = some (C, T, N)) (hk : k < N) (hlink : (Cond.fieldLink C index C (T k).2.1 (T k).2.2.1).before args s = true) (hsame : (T k).1 = C) (hd : decode cc pc = .ok (.getfield index, 3)) (hn : n = pc + 3) (hly : ly[k]? = some true) (hk9 : k < 99) : ∀ lv st S, i_getA k n lv st S (OK p l e R s m args below meth c Q D cA A ci ly ja AD rel nL) → (OK p l e R s m args below meth c Q D cA A ci ly ja AD rel nL) pc lv st S := by
  intro lv st S h
  subst hn
  rcases st with _ | ⟨a | x | d | k9, r⟩
  · exact h.elim
  · exact h.elim
  · exact h.elim
  · exact h.elim
  · cases k9 with
    | succ k8 => exact h.elim
    | zero =>
      intro ad ha H locs ls cells slots hr hP hD hS hL
      exact va_get hx hb hts hin hown hK hP 0 rfl hc k hk hlink (fun _ h9 => by rw [hsame] at h9; exact h9) (o_f_get hly) hd (h ad ha H locs ls cells slots hr hP hD hS hL)
theorem s_putI (hx : p.tables.exec = Jvm.exec) (hb : c.code = cc) {C : String} {T : u_T} {N index k : Nat} {Ts : List Cond} (hts : ∀ w ∈ Ts, w.before args s = true) (hin : ∀ w ∈ u_ws C T N, w ∈ Ts) (hown : s.vm.findClass C = some m.cls) (hK : va_K D vwCl [(cA, .int)] s) (hc : vwCl[ci]? = some (C, T, N)) (hk : k < N) (hlink : (Cond.fieldLink C index C (T k).2.1 (T k).2.2.1).before args s = true) (hsame : (T k).1 = C) (ty0 : Nat → FieldType) (hty : ∀ k, k < N → parseFieldDescriptor (T k).2.2.1 = some (ty0 k)) (hnm : ∀ a, a < N → ∀ b, b < N → a ≠ b → (T a).2.1 ≠ (T b).2.1) (hfin : (T k).2.2.2 = false) (hdsc : parseFieldDescriptor (T k).2.2.1 = some .int) (hd : decode cc pc = .ok (.putfield index, 3)) (hn : n = pc + 3) (hly : ly[k]? = some false) : ∀ lv st S, i_putI k n lv st S (OK p l e R s m args below meth c Q D cA A ci ly ja AD rel nL) → (OK p l e R s m args below meth c Q D cA A ci ly ja AD rel nL) pc lv st S := by
  intro lv st S h
  subst hn
  rcases st with _ | ⟨v | x | d | k9, st⟩
  · exact h.elim
  · rcases st with _ | ⟨a | x | d | k9, r⟩
    · exact h.elim
    · exact h.elim
    · exact h.elim
    · exact h.elim
    · cases k9 with
      | succ k8 => exact h.elim
      | zero =>
        intro ad ha H locs ls cells slots hr hP hD hS hL
        refine va_put hx hb hts hin ty0 hty hnm hown hK hP hD hS 0 rfl hc k hk hlink (fun _ h9 => by rw [hsame] at h9; exact h9) hfin (ty := .int) (v := .int (iI v)) hdsc rfl rfl (by unfold o_f; rw [List.length_mapIdx]; exact (List.getElem?_eq_some_iff.mp hly).1) hd (fun H1 locs1 hP1 hD1 hS1 => ?_)
        have hw : (wdO cA ci ly ja ad S).set 0 (ad 0, .inr (ci, (o_f ad S ly).set k (.int (iI v)))) = wdO cA ci ly ja ad (pF S k v) := by
          rw [o_f_set hly]; rfl
        rw [hw] at hP1 hD1
        exact h ad ha H1 locs1 ls cells slots hr hP1 hD1 hS1 hL
  · exact h.elim
  · exact h.elim
  · exact h.elim
theorem s_iald (hx : p.tables.exec = Jvm.exec) (hb : c.code = cc) {ln : Nat → Nat} (hK : va_K D vwCl [(cA, .int)] s) (hln : ∀ k : Nat, 0 < ln k → ln k ≤ 2000 ∧ ∃ t : Nat, ja[t]? = some (k, ln k)) (hd : decode cc pc = .ok (.iaload, 1)) (hn : n = pc + 1) : ∀ lv st S, i_iald ln n lv st S (OK p l e R s m args below meth c Q D cA A ci ly ja AD rel nL) → (OK p l e R s m args below meth c Q D cA A ci ly ja AD rel nL) pc lv st S := by
  intro lv st S h
  subst hn
  rcases st with _ | ⟨i | x | d | k9, st⟩
  · exact h.elim
  · skip
    rcases st with _ | ⟨a | x | d | k, r⟩
    · exact h.elim
    · exact h.elim
    · exact h.elim
    · exact h.elim
    · obtain ⟨⟨h0, h1⟩, h⟩ := h
      intro ad ha H locs ls cells slots hr hP hD hS hL
      obtain ⟨h2, t, ht⟩ := hln k (by omega)
      refine va_iald hx hb hK hP (t + 1) 0 (wd_get ht) rfl (iI_in h0 h1 h2) hd ?_
      rw [iI_cl h0 (by omega)]
      exact h ad ha H locs ls cells slots hr hP hD hS hL
  · exact h.elim
  · exact h.elim
  · exact h.elim
theorem s_iast (hx : p.tables.exec = Jvm.exec) (hb : c.code = cc) {ln : Nat → Nat} (hK : va_K D vwCl [(cA, .int)] s) (hln : ∀ k : Nat, 0 < ln k → ln k ≤ 2000 ∧ ∃ t : Nat, ja[t]? = some (k, ln k)) (hu : ∀ (a b : Nat) (q q' : Nat × Nat), ja[a]? = some q → ja[b]? = some q' → q.1 = q'.1 → a = b) (hd : decode cc pc = .ok (.iastore, 1)) (hn : n = pc + 1) : ∀ lv st S, i_iast ln n lv st S (OK p l e R s m args below meth c Q D cA A ci ly ja AD rel nL) → (OK p l e R s m args below meth c Q D cA A ci ly ja AD rel nL) pc lv st S := by
  intro lv st S h
  subst hn
  rcases st with _ | ⟨v | x | d | k9, st⟩
  · exact h.elim
  · skip
    rcases st with _ | ⟨i | x | d | k9, st⟩
    · exact h.elim
    · skip
      rcases st with _ | ⟨a | x | d | k, r⟩
      · exact h.elim
      · exact h.elim
      · exact h.elim
      · exact h.elim
      · obtain ⟨⟨h0, h1⟩, h⟩ := h
        intro ad ha H locs ls cells slots hr hP hD hS hL
        obtain ⟨h2, t, ht⟩ := hln k (by omega)
        refine va_iast hx hb hK hP hD hS (t + 1) 0 (wd_get ht) rfl (iI_in h0 h1 h2) hd (fun H1 locs1 hP1 hD1 hS1 => ?_)
        rw [iI_cl h0 (by omega), wd_set ht hu] at hP1 hD1
        exact h ad ha H1 locs1 ls cells slots hr hP1 hD1 hS1 hL
    · exact h.elim
    · exact h.elim
    · exact h.elim
  · exact h.elim
  · exact h.elim
  · exact h.elim
theorem s_tald (hx : p.tables.exec = Jvm.exec) (hb : c.code = cc) (hK : va_K D vwCl [(cA, .int)] s) (hd : decode cc pc = .ok (.iaload, 1)) (hn : n = pc + 1) : ∀ lv st S, i_tald n lv st S (OK p l e R s m args below meth c Q D cA A ci ly ja AD rel nL) → (OK p l e R s m args below meth c Q D cA A ci ly ja AD rel nL) pc lv st S := by
  intro lv st S h
  subst hn
  unfold i_tald at h
  split at h
  · rename_i i r
    obtain ⟨⟨h0, h1⟩, h⟩ := h
    intro ad ha H locs ls cells slots hr hP hD hS hL
    have hlt : ∃ q, S.2.2.1 = some q ∧ i < (q.1 : Int) ∧ q.1 ≤ 2000 ∧ tget S i.toNat = q.2 i.toNat := by
      unfold tlen at h1
      cases hq : S.2.2.1 with
      | none => rw [hq] at h1; have h3 := h1.1; simp only at h3; omega
      | some q => rw [hq] at h1; exact ⟨q, rfl, h1.1, by have h3 : (q.1 : Nat) ≤ 100 := h1.2; omega, by unfold tget; rw [hq]⟩
    obtain ⟨q, hq, hi, hsz, hg⟩ := hlt
    refine va_iald hx hb hK hP (ja.length + 1) 0 (wd_tget hq) rfl (iI_in h0 hi hsz) hd ?_
    rw [iI_cl h0 (by omega), ← hg]
    exact h ad ha H locs ls cells slots hr hP hD hS hL
  · exact h.elim
theorem s_tast (hx : p.tables.exec = Jvm.exec) (hb : c.code = cc) (hK : va_K D vwCl [(cA, .int)] s) (hd : decode cc pc = .ok (.iastore, 1)) (hn : n = pc + 1) : ∀ lv st S, i_tast n lv st S (OK p l e R s m args below meth c Q D cA A ci ly ja AD rel nL) → (OK p l e R s m args below meth c Q D cA A ci ly ja AD rel nL) pc lv st S := by
  intro lv st S h
  subst hn
  unfold i_tast at h
  split at h
  · rename_i v i r
    obtain ⟨⟨h0, h1⟩, h⟩ := h
    intro ad ha H locs ls cells slots hr hP hD hS hL
    have hlt : ∃ q, S.2.2.1 = some q ∧ i < (q.1 : Int) ∧ q.1 ≤ 2000 ∧ tget S i.toNat = q.2 i.toNat := by
      unfold tlen at h1
      cases hq : S.2.2.1 with
      | none => rw [hq] at h1; have h3 := h1.1; simp only at h3; omega
      | some q => rw [hq] at h1; exact ⟨q, rfl, h1.1, by have h3 : (q.1 : Nat) ≤ 100 := h1.2; omega, by unfold tget; rw [hq]⟩
    obtain ⟨q, hq, hi, hsz, hg⟩ := hlt
    refine va_iast hx hb hK hP hD hS (ja.length + 1) 0 (wd_tget hq) rfl (iI_in h0 hi hsz) hd (fun H1 locs1 hP1 hD1 hS1 => ?_)
    rw [iI_cl h0 (by omega), wd_tset hq] at hP1 hD1
    exact h ad ha H1 locs1 ls cells slots hr hP1 hD1 hS1 hL
  · exact h.elim
theorem s_tnew (hx : p.tables.exec = Jvm.exec) (hb : c.code = cc) {w K M : Nat} (hAD : ∀ ad q, AD ad → AD (va_up ad 99 q)) (hK : va_K D vwCl [(cA, .int)] s) (hA : ∀ q, s.heap.size ≤ q → A q) (hRc : K ≤ R.cells) (hRs : M ≤ R.slots) (hrel : rel = relA K M) (harr : (Cond.arrayClass .int).before args s = true) (hly9 : ly.length ≤ 99) (hja : ∀ z ∈ ja, z.1 ≠ 99) (hd : decode cc pc = .ok (.newarray .int, 2)) (hn : n = pc + 2) : ∀ lv st S, i_tnew w K M n lv st S (OK p l e R s m args below meth c Q D cA A ci ly ja AD rel nL) → (OK p l e R s m args below meth c Q D cA A ci ly ja AD rel nL) pc lv st S := by
  intro lv st S h
  subst hn
  unfold i_tnew at h
  split at h
  · rename_i a
    obtain ⟨⟨rfl, hT, hw, hlv, hc1, hc2⟩, h⟩ := h
    intro ad ha H locs ls cells slots hr hP hD hS hL
    subst hrel
    obtain ⟨rfl, rfl, hc3, hc4⟩ := hr
    refine va_newa hx hb (atype := .int) (ty := .int) (a0 := (w, .inl (fun _ => iI 0))) harr rfl hK hP hD hS hA (fun _ => by rw [iI_0]; rfl) (N' := w) (by rw [← iI_0, iI_lt ⟨by omega, by omega⟩ rng0]; omega) (by rw [iI_cl (by omega) (by omega)]; omega) (by show w * 4 ≤ _; omega) (by omega) (by omega) hd (fun q cA' H1 hK1 hP1 hD1 hS1 => ?_)
    have hcA : cA' = cA := by
      have h1 : s.vm.findClass ("[" ++ FieldType.int.toString) = some cA' := (hK1.2 1 (cA', .int) rfl).2
      have h2 : s.vm.findClass ("[" ++ FieldType.int.toString) = some cA := (hK.2 0 (cA, .int) rfl).2
      exact Option.some.inj (h1.symm.trans h2)
    subst hcA
    have hcc : ∀ v : AV, v ≠ vR 99 → conc (va_up ad 99 q) v = conc ad v := by
      intro v hv
      rcases v with a | x | d | k9
      · rfl
      · rfl
      · rfl
      · have hk : k9 ≠ 99 := fun e => hv (by subst e; rfl)
        show Value.ref (va_up ad 99 q k9) = Value.ref (ad k9)
        simp [va_up, hk]
    have hw2 : wdO cA' ci ly ja ad S ++ [(q, .inl (cA', (w, .inl (fun _ => iI 0))))] = wdO cA' ci ly ja (va_up ad 99 q) (tnew S w) := by
      unfold wdO tw
      rw [hT]
      have e1 : o_f (va_up ad 99 q) (tnew S w) ly = o_f ad S ly := by
        unfold o_f
        apply List.ext_getElem?
        intro i
        simp only [List.getElem?_mapIdx]
        cases hb9 : ly[i]? with
        | none => rfl
        | some b =>
          cases b with
          | false => rfl
          | true =>
            have hi : i ≠ 99 := fun e => by
              subst e
              have := (List.getElem?_eq_some_iff.mp hb9).1
              omega
            simp [va_up, hi]
      have e2 : ja.map (o_r cA' (va_up ad 99 q) (tnew S w)) = ja.map (o_r cA' ad S) := by
        apply List.map_congr_left
        intro z hz
        have hi := hja z hz
        unfold o_r
        simp [va_up, hi, gA, tnew]
      rw [e1, e2]
      have e3 : va_up ad 99 q 0 = ad 0 := by simp [va_up]
      have e4 : va_up ad 99 q 99 = q := by simp [va_up]
      simp only [tnew, e3, e4, List.append_nil, List.cons_append, List.append_assoc]
    rw [hw2] at hP1 hD1
    have hk99 : va_up ad 99 q 99 = q := by simp [va_up]
    have h9 := h (va_up ad 99 q) (hAD ad q ha) H1 locs ls _ _ ⟨rfl, rfl, hc1, hc2⟩ hP1 hD1 hS1 ⟨hL.1, hL.2.1, fun i v hv => by
      have h5 := hL.2.2 i v hv
      rw [hcc v (fun e => hlv (some v) (by
        have h6 := lget_mem hv
        exact h6) (by rw [e]))]
      exact h5⟩
    have h10 : List.map (conc (va_up ad 99 q)) [vR 99] = [Value.ref q] := by
      show [Value.ref (va_up ad 99 q 99)] = _
      rw [hk99]
    rw [h10] at h9
    exact h9
  · exact h.elim
end SND
end
section
/-! CONTRACTS over the abstract states, calls, ends, throws -/
def AtW (D : va_G) (cA : ClassId) (ci : Nat) (ly : List Bool) (ja : List (Nat × Nat)) (ad : Nat → Nat) (A : Nat → Prop) (u : ST) (t : State) : Prop := va_P D vwCl (wdO cA ci ly ja ad u) t.heap ∧ va_K D vwCl [(cA, .int)] t ∧ va_D A (wdO cA ci ly ja ad u)
def Pre0 (D : va_G) (cA : ClassId) (ci : Nat) (ly : List Bool) (ja : List (Nat × Nat)) (ad : Nat → Nat) (S : ST) (sz : Nat) (U : State) : Prop := U.heap.size = sz ∧ va_P D vwCl (wdO cA ci ly ja ad S) U.heap ∧ va_K D vwCl [(cA, .int)] U ∧ va_D (fun _ => True) (wdO cA ci ly ja ad S)
/-- the texts of the class's throws -/
def xstrs : List (Nat × String) := [(48, "the size is not 1 to 32"), (53, "the step is not 1 to 16"), (61, "there are 6 kinds"), (71, "there were 150 things"), (77, "there is no room"), (89, "the thing was taken out"), (123, "there is no such kind")]
/-- what a throw wants of the start: Throwable's two statics, the texts' own objects -/
def XEv (own : String) (strs : List (Nat × String)) (A : Nat → Prop) (U : State) : Prop := vx_Zq Bundle.tN "UNASSIGNED_STACK" Bundle.steD A U U.heap ∧ vx_Zq Bundle.tN "SUPPRESSED_SENTINEL" Bundle.listD A U U.heap ∧ ∀ q ∈ strs, ∃ a, vk_R own q.1 q.2 a U
theorem XEv.calling {own : String} {strs : List (Nat × String)} {A : Nat → Prop} {U : State} {g : JFrame} {mk : MethodId} {a : Array Value} (h : XEv own strs A U) : XEv own strs A (U.calling g mk a) :=
  ⟨vx_Zq.moved (u := U) (U := U.calling g mk a) (Vm.Alike.refl U.vm) h.1, vx_Zq.moved (u := U) (U := U.calling g mk a) (Vm.Alike.refl U.vm) h.2.1, fun q hq => by obtain ⟨z, hz⟩ := h.2.2 q hq; exact ⟨z, vk_R.same (u := U) (U := U.calling g mk a) rfl hz⟩⟩
theorem XEv.at {own : String} {strs : List (Nat × String)} {A B : Nat → Prop} {s U : State} {H : Heap} {locs : List Loc} (h : XEv own strs A s) (hS : va_S A s.heap H locs) (hU : U.heap = H) (hW : s.WarmedH U.vm) (hB : ∀ q, B q → A q) : XEv own strs B U := by
  refine ⟨?_, ?_, fun q hq => by obtain ⟨z, hz⟩ := h.2.2 q hq; exact ⟨z, vk_R.warm hW hz⟩⟩
  · rw [hU]; exact (vx_Zq.moved hW.alike (vx_Zq.kept h.1 hS.2.1)).narrow hB
  · rw [hU]; exact (vx_Zq.moved hW.alike (vx_Zq.kept h.2.1 hS.2.1)).narrow hB
/-- a method that returns an int, a long, a double, nothing: whatever its table runs to -/
def CtI (ci : Nat) (ly : List Bool) (ja : List (Nat × Nat)) (y : MethodName) (ws : List Cond) (rm : Room) (X : RI) : Prop := ∀ (l : Launch) (D : va_G) (cA : ClassId) (ad : Nat → Nat) (av : List AV) (S : ST) (Q : Int → ST → Prop) (sz : Nat), X av S Q nox →
  Met l y ws rm (va_Pc (av.map (conc ad)) (Pre0 D cA ci ly ja ad S sz)) (va_Qi (fun (r : Int32) (u : ST) => (∃ a : Int, r = iI a ∧ Q a u) ∧ u.2.2.2 = S.2.2.2) (AtW D cA ci ly ja ad (va_A (wdO cA ci ly ja ad S) sz)) (va_A (wdO cA ci ly ja ad S) sz)) 0 0 (va_A (wdO cA ci ly ja ad S) sz)
def CtJ (ci : Nat) (ly : List Bool) (ja : List (Nat × Nat)) (y : MethodName) (ws : List Cond) (rm : Room) (X : RJ) : Prop := ∀ (l : Launch) (D : va_G) (cA : ClassId) (ad : Nat → Nat) (av : List AV) (S : ST) (Q : Int64 → ST → Prop) (sz : Nat), X av S Q nox →
  Met l y ws rm (va_Pc (av.map (conc ad)) (Pre0 D cA ci ly ja ad S sz)) (va_Ql (fun (r : Int64) (u : ST) => Q r u ∧ u.2.2.2 = S.2.2.2) (AtW D cA ci ly ja ad (va_A (wdO cA ci ly ja ad S) sz)) (va_A (wdO cA ci ly ja ad S) sz)) 0 0 (va_A (wdO cA ci ly ja ad S) sz)
def CtD (ci : Nat) (ly : List Bool) (ja : List (Nat × Nat)) (y : MethodName) (ws : List Cond) (rm : Room) (X : RD) : Prop := ∀ (l : Launch) (D : va_G) (cA : ClassId) (ad : Nat → Nat) (av : List AV) (S : ST) (Q : UInt64 → ST → Prop) (sz : Nat), X av S Q nox →
  Met l y ws rm (va_Pc (av.map (conc ad)) (Pre0 D cA ci ly ja ad S sz)) (va_Qd (fun (r : UInt64) (u : ST) => Q r u ∧ u.2.2.2 = S.2.2.2) (AtW D cA ci ly ja ad (va_A (wdO cA ci ly ja ad S) sz)) (va_A (wdO cA ci ly ja ad S) sz)) 0 0 (va_A (wdO cA ci ly ja ad S) sz)
def CtV (ci : Nat) (ly : List Bool) (ja : List (Nat × Nat)) (y : MethodName) (ws : List Cond) (rm : Room) (X : RV) : Prop := ∀ (l : Launch) (D : va_G) (cA : ClassId) (ad : Nat → Nat) (av : List AV) (S : ST) (Q : ST → Prop) (sz : Nat), X av S Q nox →
  Met l y ws rm (va_Pc (av.map (conc ad)) (Pre0 D cA ci ly ja ad S sz)) (va_Qv (fun (u : ST) => Q u ∧ u.2.2.2 = S.2.2.2) (AtW D cA ci ly ja ad (va_A (wdO cA ci ly ja ad S) sz)) (va_A (wdO cA ci ly ja ad S) sz)) 0 0 (va_A (wdO cA ci ly ja ad S) sz)
/-- .. that makes rows: they are forgotten at its end -/
def dropT (u : ST) : ST := (u.1, u.2.1, none, u.2.2.2)
def CtAI (ci : Nat) (ly : List Bool) (ja : List (Nat × Nat)) (y : MethodName) (ws : List Cond) (rm : Room) (K M : Nat) (X : RI) : Prop := ∀ (l : Launch) (D : va_G) (cA : ClassId) (ad : Nat → Nat) (av : List AV) (S : ST) (Q : Int → ST → Prop) (sz : Nat), X av (cut0 S) Q nox →
  Met l y ws rm (va_Pc (av.map (conc ad)) (Pre0 D cA ci ly ja ad (cut0 S) sz)) (va_Qi (fun (r : Int32) (u : ST) => ∃ a : Int, r = iI a ∧ Q a u) (fun u => AtW D cA ci ly ja ad (va_A (wdO cA ci ly ja ad (cut0 S)) sz) (dropT u)) (va_A (wdO cA ci ly ja ad (cut0 S)) sz)) K M (va_A (wdO cA ci ly ja ad (cut0 S)) sz)
def CtAJ (ci : Nat) (ly : List Bool) (ja : List (Nat × Nat)) (y : MethodName) (ws : List Cond) (rm : Room) (K M : Nat) (X : RJ) : Prop := ∀ (l : Launch) (D : va_G) (cA : ClassId) (ad : Nat → Nat) (av : List AV) (S : ST) (Q : Int64 → ST → Prop) (sz : Nat), X av (cut0 S) Q nox →
  Met l y ws rm (va_Pc (av.map (conc ad)) (Pre0 D cA ci ly ja ad (cut0 S) sz)) (va_Ql (fun (r : Int64) (u : ST) => Q r u) (fun u => AtW D cA ci ly ja ad (va_A (wdO cA ci ly ja ad (cut0 S)) sz) (dropT u)) (va_A (wdO cA ci ly ja ad (cut0 S)) sz)) K M (va_A (wdO cA ci ly ja ad (cut0 S)) sz)
def CtAD (ci : Nat) (ly : List Bool) (ja : List (Nat × Nat)) (y : MethodName) (ws : List Cond) (rm : Room) (K M : Nat) (X : RD) : Prop := ∀ (l : Launch) (D : va_G) (cA : ClassId) (ad : Nat → Nat) (av : List AV) (S : ST) (Q : UInt64 → ST → Prop) (sz : Nat), X av (cut0 S) Q nox →
  Met l y ws rm (va_Pc (av.map (conc ad)) (Pre0 D cA ci ly ja ad (cut0 S) sz)) (va_Qd (fun (r : UInt64) (u : ST) => Q r u) (fun u => AtW D cA ci ly ja ad (va_A (wdO cA ci ly ja ad (cut0 S)) sz) (dropT u)) (va_A (wdO cA ci ly ja ad (cut0 S)) sz)) K M (va_A (wdO cA ci ly ja ad (cut0 S)) sz)
/-- .. that throws -/
def CtXI (own : String) (strs : List (Nat × String)) (ci : Nat) (ly : List Bool) (ja : List (Nat × Nat)) (y : MethodName) (ws : List Cond) (rm : Room) (X : RI) : Prop := ∀ (l : Launch), l.stackTraces = false → ∀ (D : va_G) (cA : ClassId) (ad : Nat → Nat) (av : List AV) (S : ST) (Q : String → ST → Prop) (sz : Nat), X av S (fun _ _ => False) Q →
  vx_Met l y ws rm (va_Pc (av.map (conc ad)) (fun U => Pre0 D cA ci ly ja ad S sz U ∧ XEv own strs (va_A (wdO cA ci ly ja ad S) sz) U)) (va_Qi (fun (_ : Int32) (_ : ST) => False) (AtW D cA ci ly ja ad (va_A (wdO cA ci ly ja ad S) sz)) (va_A (wdO cA ci ly ja ad S) sz)) (vx_X (fun q : String × ST => Q q.1 q.2 ∧ q.2.2.2.2 = S.2.2.2) (fun E q t => E = q.1 ∧ AtW D cA ci ly ja ad (va_A (wdO cA ci ly ja ad S) sz) q.2 t) (va_A (wdO cA ci ly ja ad S) sz)) 1 6 (va_A (wdO cA ci ly ja ad S) sz)
def CtXV (own : String) (strs : List (Nat × String)) (ci : Nat) (ly : List Bool) (ja : List (Nat × Nat)) (y : MethodName) (ws : List Cond) (rm : Room) (X : RV) : Prop := ∀ (l : Launch), l.stackTraces = false → ∀ (D : va_G) (cA : ClassId) (ad : Nat → Nat) (av : List AV) (S : ST) (Q : String → ST → Prop) (sz : Nat), X av S (fun _ => False) Q →
  vx_Met l y ws rm (va_Pc (av.map (conc ad)) (fun U => Pre0 D cA ci ly ja ad S sz U ∧ XEv own strs (va_A (wdO cA ci ly ja ad S) sz) U)) (va_Qv (fun (_ : ST) => False) (AtW D cA ci ly ja ad (va_A (wdO cA ci ly ja ad S) sz)) (va_A (wdO cA ci ly ja ad S) sz)) (vx_X (fun q : String × ST => Q q.1 q.2 ∧ q.2.2.2.2 = S.2.2.2) (fun E q t => E = q.1 ∧ AtW D cA ci ly ja ad (va_A (wdO cA ci ly ja ad S) sz) q.2 t) (va_A (wdO cA ci ly ja ad S) sz)) 1 6 (va_A (wdO cA ci ly ja ad S) sz)
theorem pre0_blind {D : va_G} {cA : ClassId} {ci : Nat} {ly : List Bool} {ja : List (Nat × Nat)} {ad : Nat → Nat} {S : ST} {sz : Nat} {av : List Value} : FrameBlind (va_Pc av (Pre0 D cA ci ly ja ad S sz)) := by
  intro a U g mk q
  obtain ⟨q0, q1, qP, qK, qD⟩ := q
  exact ⟨q0, q1, qP, va_K.moved (u := U) (U := U.calling g mk a) (Vm.Alike.refl U.vm) qK, qD⟩
theorem prex_blind {D : va_G} {cA : ClassId} {ci : Nat} {ly : List Bool} {ja : List (Nat × Nat)} {ad : Nat → Nat} {S : ST} {sz : Nat} {av : List Value} {own : String} {strs : List (Nat × String)} {A : Nat → Prop} : FrameBlind (va_Pc av (fun U => Pre0 D cA ci ly ja ad S sz U ∧ XEv own strs A U)) := by
  intro a U g mk q
  obtain ⟨q0, ⟨q1, qP, qK, qD⟩, qX⟩ := q
  exact ⟨q0, ⟨q1, qP, va_K.moved (u := U) (U := U.calling g mk a) (Vm.Alike.refl U.vm) qK, qD⟩, qX.calling⟩
theorem isR0_of {st : List AV} (h : isR0 st) : ∃ as, st = vR 0 :: as := by
  rcases st with _ | ⟨a | x | d | k, as⟩
  · exact h.elim
  · exact h.elim
  · exact h.elim
  · exact h.elim
  · cases k with
    | zero => exact ⟨as, rfl⟩
    | succ k => exact h.elim
theorem cat_le (ad : Nat → Nat) (v : AV) : (conc ad v).category ≤ 2 := by
  rcases v with a | x | d | k <;> exact Nat.le_of_ble_eq_true rfl
theorem sh4_sum {ad : Nat → Nat} {st : List AV} (h : sh4 st) : ((st.map (conc ad)).map fun v => v.category).sum ≤ 8 := by
  have c := cat_le ad
  rcases st with _ | ⟨a, _ | ⟨b, _ | ⟨d, _ | ⟨g, _ | ⟨z, r⟩⟩⟩⟩⟩
  · simp
  · have := c a; simp; omega
  · have := c a; have := c b; simp; omega
  · have := c a; have := c b; have := c d; simp; omega
  · have := c a; have := c b; have := c d; have := c g; simp; omega
  · exact h.elim
/-- the stack at a call -/
theorem call_st {ad : Nat → Nat} {st as : List AV} {w nA : Nat} (hw : w = nA + 1) (has : (st.take w).reverse = vR 0 :: as) (hl : w ≤ st.length) : as.length = nA ∧ st.map (conc ad) = (as.map (conc ad)).reverse ++ Value.ref (ad 0) :: (st.drop w).map (conc ad) := by
  have h1 : st.take w = as.reverse ++ [vR 0] := by
    have := congrArg List.reverse has
    rw [List.reverse_reverse, List.reverse_cons] at this
    exact this
  refine ⟨?_, ?_⟩
  · have := congrArg List.length has
    rw [List.length_reverse, List.length_take, List.length_cons] at this
    omega
  · have h2 : st = (as.reverse ++ [vR 0]) ++ st.drop w := by rw [← h1]; exact (List.take_append_drop w st).symm
    have h3 := congrArg (List.map (conc ad)) h2
    rw [List.map_append, List.map_append, List.map_reverse, List.append_assoc] at h3
    exact h3
theorem scall_st {ad : Nat → Nat} {st as : List AV} {w : Nat} (has : (st.take w).reverse = as) (hl : w ≤ st.length) : as.length = w ∧ st.map (conc ad) = (as.map (conc ad)).reverse ++ (st.drop w).map (conc ad) := by
  have h1 : st.take w = as.reverse := by rw [← has, List.reverse_reverse]
  refine ⟨by rw [← has, List.length_reverse, List.length_take]; omega, ?_⟩
  have h2 : st = as.reverse ++ st.drop w := by rw [← h1]; exact (List.take_append_drop w st).symm
  have h3 := congrArg (List.map (conc ad)) h2
  rw [List.map_append, List.map_reverse] at h3
  exact h3
section CALLS
variable {p : Program} {l : Launch} {e : Env} {R : Room} {s : State} {m : MethodId} {args : Array Value} {below : List Frame} {meth : Method} {c : Code} {Q : State → Prop}
variable {D : va_G} {cA : ClassId} {A : Nat → Prop} {ci : Nat} {ly : List Bool} {ja : List (Nat × Nat)} {AD : (Nat → Nat) → Prop} {rel : Nat × Nat → Nat → Nat → Prop} {nL : Nat}
variable {cc : ByteArray} {pc n : Nat}
theorem own_free {H : Heap} {locs : List Loc} {ws : va_W} (hA : ∀ q, s.heap.size ≤ q → A q) (hD : va_D A ws) (hS : va_S A s.heap H locs) : ∀ q, va_A ws H.size q → A q := by
  intro q hq
  rcases hq with ⟨k, e, hk⟩ | h
  · exact hD.2 k (q, e) hk
  · exact hA q (Nat.le_trans hS.1 h)
theorem s_calli {Ts : List Cond} {own C : String} {T : u_T} {N index maxL w nA : Nat} {y : MethodName} {bytes : ByteArray} {ret : Option FieldType} {ws : List Cond} {rm : Room} (S0 : CallFix p m c cc nL s args Ts own) (hA : ∀ q, s.heap.size ≤ q → A q) (hK : va_K D vwCl [(cA, .int)] s) (hrR : ∀ k c n, rel k c n → c ≤ R.cells ∧ n ≤ R.slots) (hw : w = nA + 1) {X : RI} (hC : CtI ci ly ja y ws rm X) (cw : CallW R s args own C index y bytes maxL ret ws rm 0 0 nA) (hcl : vwCl[ci]? = some (C, T, N)) (hd : decode cc pc = .ok (.invokevirtual index, 3)) (hn : n = pc + 3) : ∀ lv st S, i_calli X w n lv st S (OK p l e R s m args below meth c Q D cA A ci ly ja AD rel nL) → (OK p l e R s m args below meth c Q D cA A ci ly ja AD rel nL) pc lv st S := by
  intro lv st S h
  obtain ⟨⟨h1, h2⟩, h3, Qc, hX, hk⟩ := h
  subst hn
  obtain ⟨as, has⟩ := isR0_of h1
  rw [has] at hX
  intro ad ha H locs ls cells slots hr hP hD hS hL
  obtain ⟨hlen, hst⟩ := call_st (ad := ad) hw has h2
  have hF := own_free hA hD hS
  have hbd := hrR _ _ _ hr
  rw [hst]
  refine va_calli (va_runV (As := as.map (conc ad)) (rest := (st.drop w).map (conc ad)) S0 (hC l D cA ad (vR 0 :: as) S Qc H.size hX) cw ⟨pre0_blind, va_recv hK hP hcl rfl (q0 := 0), fun U hU hW => ⟨rfl, by rw [hU], by rw [hU]; exact hP, va_K.moved hW.alike hK, hD.weaken (fun _ _ _ _ => trivial)⟩⟩ rfl (by rw [List.length_map]; exact hlen) hL.1 rfl (lv_room (sh4_sum h3)) hd ⟨hbd.1, hbd.2⟩) hS (fun q _ z => hF q z) hF (fun r u t H1 locs1 ht hvm hw1 hB hz1 hk1 hS1 => ?_)
  obtain ⟨⟨a, rfl, hq⟩, hku⟩ := hw1
  obtain ⟨hP1, hK1, hD1⟩ := hB
  rw [ht] at hP1
  exact hk a u hq ad ha H1 locs1 ls cells slots (by rw [hku]; exact hr) hP1 (hD1.weaken (fun k q _ z => hF q.1 z)) hS1 hL
theorem s_calll {Ts : List Cond} {own C : String} {T : u_T} {N index maxL w nA : Nat} {y : MethodName} {bytes : ByteArray} {ret : Option FieldType} {ws : List Cond} {rm : Room} (S0 : CallFix p m c cc nL s args Ts own) (hA : ∀ q, s.heap.size ≤ q → A q) (hK : va_K D vwCl [(cA, .int)] s) (hrR : ∀ k c n, rel k c n → c ≤ R.cells ∧ n ≤ R.slots) (hw : w = nA + 1) {X : RJ} (hC : CtJ ci ly ja y ws rm X) (cw : CallW R s args own C index y bytes maxL ret ws rm 0 0 nA) (hcl : vwCl[ci]? = some (C, T, N)) (hd : decode cc pc = .ok (.invokevirtual index, 3)) (hn : n = pc + 3) : ∀ lv st S, i_calll X w n lv st S (OK p l e R s m args below meth c Q D cA A ci ly ja AD rel nL) → (OK p l e R s m args below meth c Q D cA A ci ly ja AD rel nL) pc lv st S := by
  intro lv st S h
  obtain ⟨⟨h1, h2⟩, h3, Qc, hX, hk⟩ := h
  subst hn
  obtain ⟨as, has⟩ := isR0_of h1
  rw [has] at hX
  intro ad ha H locs ls cells slots hr hP hD hS hL
  obtain ⟨hlen, hst⟩ := call_st (ad := ad) hw has h2
  have hF := own_free hA hD hS
  have hbd := hrR _ _ _ hr
  rw [hst]
  refine va_calll (va_runV (As := as.map (conc ad)) (rest := (st.drop w).map (conc ad)) S0 (hC l D cA ad (vR 0 :: as) S Qc H.size hX) cw ⟨pre0_blind, va_recv hK hP hcl rfl (q0 := 0), fun U hU hW => ⟨rfl, by rw [hU], by rw [hU]; exact hP, va_K.moved hW.alike hK, hD.weaken (fun _ _ _ _ => trivial)⟩⟩ rfl (by rw [List.length_map]; exact hlen) hL.1 rfl (lv_room (sh4_sum h3)) hd ⟨hbd.1, hbd.2⟩) hS (fun q _ z => hF q z) hF (fun r u t H1 locs1 ht hvm hw1 hB hz1 hk1 hS1 => ?_)
  obtain ⟨hq, hku⟩ := hw1
  obtain ⟨hP1, hK1, hD1⟩ := hB
  rw [ht] at hP1
  exact hk r u hq ad ha H1 locs1 ls cells slots (by rw [hku]; exact hr) hP1 (hD1.weaken (fun k q _ z => hF q.1 z)) hS1 hL
theorem s_callv {Ts : List Cond} {own C : String} {T : u_T} {N index maxL w nA : Nat} {y : MethodName} {bytes : ByteArray} {ret : Option FieldType} {ws : List Cond} {rm : Room} (S0 : CallFix p m c cc nL s args Ts own) (hA : ∀ q, s.heap.size ≤ q → A q) (hK : va_K D vwCl [(cA, .int)] s) (hrR : ∀ k c n, rel k c n → c ≤ R.cells ∧ n ≤ R.slots) (hw : w = nA + 1) {X : RV} (hC : CtV ci ly ja y ws rm X) (cw : CallW R s args own C index y bytes maxL ret ws rm 0 0 nA) (hcl : vwCl[ci]? = some (C, T, N)) (hd : decode cc pc = .ok (.invokevirtual index, 3)) (hn : n = pc + 3) : ∀ lv st S, i_callv X w n lv st S (OK p l e R s m args below meth c Q D cA A ci ly ja AD rel nL) → (OK p l e R s m args below meth c Q D cA A ci ly ja AD rel nL) pc lv st S := by
  intro lv st S h
  obtain ⟨⟨h1, h2⟩, h3, Qc, hX, hk⟩ := h
  subst hn
  obtain ⟨as, has⟩ := isR0_of h1
  rw [has] at hX
  intro ad ha H locs ls cells slots hr hP hD hS hL
  obtain ⟨hlen, hst⟩ := call_st (ad := ad) hw has h2
  have hF := own_free hA hD hS
  have hbd := hrR _ _ _ hr
  rw [hst]
  refine va_callv (va_runV (As := as.map (conc ad)) (rest := (st.drop w).map (conc ad)) S0 (hC l D cA ad (vR 0 :: as) S Qc H.size hX) cw ⟨pre0_blind, va_recv hK hP hcl rfl (q0 := 0), fun U hU hW => ⟨rfl, by rw [hU], by rw [hU]; exact hP, va_K.moved hW.alike hK, hD.weaken (fun _ _ _ _ => trivial)⟩⟩ rfl (by rw [List.length_map]; exact hlen) hL.1 rfl (lv_room (sh4_sum h3)) hd ⟨hbd.1, hbd.2⟩) hS (fun q _ z => hF q z) hF (fun u t H1 locs1 ht hvm hw1 hB hz1 hk1 hS1 => ?_)
  obtain ⟨hq, hku⟩ := hw1
  obtain ⟨hP1, hK1, hD1⟩ := hB
  rw [ht] at hP1
  exact hk u hq ad ha H1 locs1 ls cells slots (by rw [hku]; exact hr) hP1 (hD1.weaken (fun k q _ z => hF q.1 z)) hS1 hL
theorem s_scalli {Ts : List Cond} {own : String} {index maxL w : Nat} {y : MethodName} {bytes : ByteArray} {ret : Option FieldType} {ws : List Cond} {rm : Room} (S0 : CallFix p m c cc nL s args Ts own) (hA : ∀ q, s.heap.size ≤ q → A q) (hK : va_K D vwCl [(cA, .int)] s) (hrR : ∀ k c n, rel k c n → c ≤ R.cells ∧ n ≤ R.slots) {X : RI} (hC : CtI ci ly ja y ws rm X) (cw : CallB R s args own index y bytes maxL ret ws rm 0 0 w ∧ (Cond.static y).before args s = true) (hd : decode cc pc = .ok (.invokestatic index, 3)) (hn : n = pc + 3) : ∀ lv st S, i_scalli X w n lv st S (OK p l e R s m args below meth c Q D cA A ci ly ja AD rel nL) → (OK p l e R s m args below meth c Q D cA A ci ly ja AD rel nL) pc lv st S := by
  intro lv st S h
  obtain ⟨h2, h3, Qc, hX, hk⟩ := h
  subst hn
  obtain ⟨as, has⟩ : ∃ as, (st.take w).reverse = as := ⟨_, rfl⟩
  rw [has] at hX
  intro ad ha H locs ls cells slots hr hP hD hS hL
  obtain ⟨hlen, hst⟩ := scall_st (ad := ad) has h2
  have hF := own_free hA hD hS
  have hbd := hrR _ _ _ hr
  rw [hst]
  refine va_calli (va_runS (As := as.map (conc ad)) (rest := (st.drop w).map (conc ad)) S0 (hC l D cA ad as S Qc H.size hX) cw ⟨pre0_blind, fun U hU hW => ⟨rfl, by rw [hU], by rw [hU]; exact hP, va_K.moved hW.alike hK, hD.weaken (fun _ _ _ _ => trivial)⟩⟩ rfl (by rw [List.length_map]; exact hlen) hL.1 rfl (lv_room (sh4_sum h3)) hd ⟨hbd.1, hbd.2⟩) hS (fun q _ z => hF q z) hF (fun r u t H1 locs1 ht hvm hw1 hB hz1 hk1 hS1 => ?_)
  obtain ⟨⟨a, rfl, hq⟩, hku⟩ := hw1
  obtain ⟨hP1, hK1, hD1⟩ := hB
  rw [ht] at hP1
  exact hk a u hq ad ha H1 locs1 ls cells slots (by rw [hku]; exact hr) hP1 (hD1.weaken (fun k q _ z => hF q.1 z)) hS1 hL
theorem wd_cut {ad : Nat → Nat} {S : ST} (h : S.2.2.1 = none) : wdO cA ci ly ja ad S = wdO cA ci ly ja ad (cut0 S) := by
  unfold wdO tw
  rw [h]
  rfl
theorem wd_glue {ad : Nat → Nat} {S u : ST} {k m : Nat} : wdO cA ci ly ja ad (glue S u k m) = wdO cA ci ly ja ad (dropT u) := rfl
theorem s_acalli {Ts : List Cond} {own C : String} {T : u_T} {N index maxL w nA : Nat} {y : MethodName} {bytes : ByteArray} {ret : Option FieldType} {ws : List Cond} {rm : Room} {k9 m9 K M : Nat} (S0 : CallFix p m c cc nL s args Ts own) (hA : ∀ q, s.heap.size ≤ q → A q) (hK : va_K D vwCl [(cA, .int)] s) (hrel : rel = relA K M) (hRc : K ≤ R.cells) (hRs : M ≤ R.slots) (hw : w = nA + 1) {X : RI} (hC : CtAI ci ly ja y ws rm k9 m9 X) (cw : CallW R s args own C index y bytes maxL ret ws rm k9 m9 nA) (hcl : vwCl[ci]? = some (C, T, N)) (hd : decode cc pc = .ok (.invokevirtual index, 3)) (hn : n = pc + 3) : ∀ lv st S, i_acalli X k9 m9 K M w n lv st S (OK p l e R s m args below meth c Q D cA A ci ly ja AD rel nL) → (OK p l e R s m args below meth c Q D cA A ci ly ja AD rel nL) pc lv st S := by
  intro lv st S h
  obtain ⟨⟨h1, h2⟩, h3, ⟨hT, hg1, hg2⟩, Qc, hX, hk⟩ := h
  subst hn
  subst hrel
  obtain ⟨as, has⟩ := isR0_of h1
  rw [has] at hX
  intro ad ha H locs ls cells slots hr hP hD hS hL
  obtain ⟨hlen, hst⟩ := call_st (ad := ad) hw has h2
  rw [wd_cut hT] at hP hD
  have hF := own_free hA hD hS
  obtain ⟨rfl, rfl, hb1, hb2⟩ := hr
  rw [hst]
  refine va_calli (va_runV (As := as.map (conc ad)) (rest := (st.drop w).map (conc ad)) S0 (hC l D cA ad (vR 0 :: as) S Qc H.size hX) cw ⟨pre0_blind, va_recv hK hP hcl rfl (q0 := 0), fun U hU hW => ⟨rfl, by rw [hU], by rw [hU]; exact hP, va_K.moved hW.alike hK, hD.weaken (fun _ _ _ _ => trivial)⟩⟩ rfl (by rw [List.length_map]; exact hlen) hL.1 rfl (lv_room (sh4_sum h3)) hd ⟨by omega, by omega⟩) hS (fun q _ z => hF q z) hF (fun r u t H1 locs1 ht hvm hw1 hB hz1 hk1 hS1 => ?_)
  obtain ⟨a, rfl, hq⟩ := hw1
  obtain ⟨hP1, hK1, hD1⟩ := hB
  rw [ht] at hP1
  exact hk a u hq ad ha H1 locs1 ls _ _ ⟨rfl, rfl, hg1, hg2⟩ hP1 (hD1.weaken (fun k q _ z => hF q.1 z)) hS1 hL
/-- the two ways in which a method of the class is walked: nothing is thrown; or it may throw -/
def TC (own : String) (strs : List (Nat × String)) (l : Launch) (R : Room) (s : State) (args : Array Value) (below : List Frame) (meth : Method) (c : Code) (Q : State → Prop) (D : va_G) (cA : ClassId) (A : Nat → Prop) (ci : Nat) (ly : List Bool) (ja : List (Nat × Nat)) (AD : (Nat → Nat) → Prop) (rel : Nat × Nat → Nat → Nat → Prop) (Qx : String → ST → Prop) : Prop :=
  Qx = nox ∨ ∃ (ad0 : Nat → Nat) (k0 : Nat × Nat) (Qc : Array Value → State → Outcome → State → Prop), Q = vx_MQ below Qc (vx_X (fun q : String × ST => Qx q.1 q.2 ∧ q.2.2.2.2 = k0) (fun E q t => E = q.1 ∧ AtW D cA ci ly ja ad0 A q.2 t) A) args s 1 6 A ∧ (∀ ad, AD ad → ad = ad0) ∧ (∀ k c n, rel k c n → k = k0 ∧ c = 0 ∧ n = 0) ∧ XEv own strs A s ∧ (∀ x ∈ c.exceptionTable.toList, False) ∧ l.stackTraces = false ∧ meth.locks = false ∧ 6 ≤ R.frames ∧ 82 ≤ R.locals ∧ 1 ≤ R.cells ∧ 6 ≤ R.slots
theorem nox_of {Q9 : String → ST → Prop} (h : ∀ E S', Q9 E S' → nox E S') : Q9 = nox := by
  funext E S'
  exact propext ⟨fun z => h E S' z, fun z => z.elim⟩
theorem s_xcalli {Ts : List Cond} {own C : String} {T : u_T} {N index maxL w nA : Nat} {y : MethodName} {bytes : ByteArray} {ret : Option FieldType} {ws : List Cond} {rm : Room} {rmx : Room} {strs : List (Nat × String)} {Qx : String → ST → Prop} (S0 : CallFix p m c cc nL s args Ts own) (hA : ∀ q, s.heap.size ≤ q → A q) (hK : va_K D vwCl [(cA, .int)] s) (hrR : ∀ k c n, rel k c n → c ≤ R.cells ∧ n ≤ R.slots) (hT : TC own strs l R s args below meth c Q D cA A ci ly ja AD rel Qx) (hw : w = nA + 1) {X : RI} (hC : CtI ci ly ja y ws rm X) (hCx : CtXI own strs ci ly ja y ws rmx X) (cw : CallW R s args own C index y bytes maxL ret ws rm 0 0 nA) (cwx : CallW R s args own C index y bytes maxL ret ws rmx 1 6 nA) (hcl : vwCl[ci]? = some (C, T, N)) (hd : decode cc pc = .ok (.invokevirtual index, 3)) (hn : n = pc + 3) : ∀ lv st S, i_xcalli X Qx w n lv st S (OK p l e R s m args below meth c Q D cA A ci ly ja AD rel nL) → (OK p l e R s m args below meth c Q D cA A ci ly ja AD rel nL) pc lv st S := by
  intro lv st S h
  obtain ⟨⟨h1, h2⟩, h3, h⟩ := h
  subst hn
  obtain ⟨as, has⟩ := isR0_of h1
  rw [has] at h
  have left : (∃ Qc, X (vR 0 :: as) S Qc nox ∧ ∀ r u, Qc r u → (OK p l e R s m args below meth c Q D cA A ci ly ja AD rel nL) (pc + 3) lv (vI r :: st.drop w) u) → (OK p l e R s m args below meth c Q D cA A ci ly ja AD rel nL) pc lv st S := by
    rintro ⟨Qc, hX, hk⟩
    intro ad ha H locs ls cells slots hr hP hD hS hL
    obtain ⟨hlen, hst⟩ := call_st (ad := ad) hw has h2
    have hF := own_free hA hD hS
    have hbd := hrR _ _ _ hr
    rw [hst]
    refine va_calli (va_runV (As := as.map (conc ad)) (rest := (st.drop w).map (conc ad)) S0 (hC l D cA ad (vR 0 :: as) S Qc H.size hX) cw ⟨pre0_blind, va_recv hK hP hcl rfl (q0 := 0), fun U hU hW => ⟨rfl, by rw [hU], by rw [hU]; exact hP, va_K.moved hW.alike hK, hD.weaken (fun _ _ _ _ => trivial)⟩⟩ rfl (by rw [List.length_map]; exact hlen) hL.1 rfl (lv_room (sh4_sum h3)) hd ⟨hbd.1, hbd.2⟩) hS (fun q _ z => hF q z) hF (fun r u t H1 locs1 ht hvm hw1 hB hz1 hk1 hS1 => ?_)
    obtain ⟨⟨a, rfl, hq⟩, hku⟩ := hw1
    obtain ⟨hP1, hK1, hD1⟩ := hB
    rw [ht] at hP1
    exact hk a u hq ad ha H1 locs1 ls cells slots (by rw [hku]; exact hr) hP1 (hD1.weaken (fun k q _ z => hF q.1 z)) hS1 hL
  rcases h with h | ⟨Q9, hX, hk⟩
  · exact left h
  · rcases hT with rfl | ⟨ad0, k0, Qc0, rfl, hAD, hrel, hXE, hnt, hlt, hlk, hR1, hR2, hR3, hR4⟩
    · rw [nox_of hk] at hX
      exact left ⟨_, hX, fun r u z => z.elim⟩
    · intro ad ha H locs ls cells slots hr hP hD hS hL
      have hae := hAD ad ha
      subst hae
      obtain ⟨hlen, hst⟩ := call_st (ad := ad) hw has h2
      have hF := own_free hA hD hS
      obtain ⟨hk0, rfl, rfl⟩ := hrel _ _ _ hr
      rw [hst]
      refine vx_calli (vx_runV (As := as.map (conc ad)) (rest := (st.drop w).map (conc ad)) S0 (hCx l hlt D cA ad (vR 0 :: as) S Q9 H.size hX) cwx ⟨prex_blind, va_recv hK hP hcl rfl (q0 := 0), fun U hU hW => ⟨rfl, ⟨by rw [hU], by rw [hU]; exact hP, va_K.moved hW.alike hK, hD.weaken (fun _ _ _ _ => trivial)⟩, hXE.at hS hU hW hF⟩⟩ rfl (by rw [List.length_map]; exact hlen) hL.1 rfl (lv_room (sh4_sum h3)) hd ⟨by omega, by omega⟩) hS (fun q _ z => hF q z) hF (fun q _ z => hF q z) (fun E ce q9 u t H1 locs1 ht hvm hpx hBX hz1 hk1 hS1 hce hcv hcl9 => ?_) (fun r u t H1 locs1 ht hvm hw1 hB hz1 hk1 hS1 => hw1.elim)
      obtain ⟨hq, hku⟩ := hpx
      obtain ⟨rfl, hP1, hK1, hD1⟩ := hBX
      rw [ht] at hP1
      refine vx_out (fun x hx => (hnt x hx).elim) hlk hce hcv hcl9 (fun t1 ht1 hal => ⟨u, ⟨hk _ _ hq, by rw [hku, hk0]⟩, ⟨rfl, by rw [ht1]; exact hP1, va_K.moved hal hK, hD1.weaken (fun k q _ z => hF q.1 z)⟩, hS1.F ht1⟩) hS1.2.2 (by omega) (by omega)
theorem s_xcallv {Ts : List Cond} {own C : String} {T : u_T} {N index maxL w nA : Nat} {y : MethodName} {bytes : ByteArray} {ret : Option FieldType} {ws : List Cond} {rm : Room} {rmx : Room} {strs : List (Nat × String)} {Qx : String → ST → Prop} (S0 : CallFix p m c cc nL s args Ts own) (hA : ∀ q, s.heap.size ≤ q → A q) (hK : va_K D vwCl [(cA, .int)] s) (hrR : ∀ k c n, rel k c n → c ≤ R.cells ∧ n ≤ R.slots) (hT : TC own strs l R s args below meth c Q D cA A ci ly ja AD rel Qx) (hw : w = nA + 1) {X : RV} (hC : CtV ci ly ja y ws rm X) (hCx : CtXV own strs ci ly ja y ws rmx X) (cw : CallW R s args own C index y bytes maxL ret ws rm 0 0 nA) (cwx : CallW R s args own C index y bytes maxL ret ws rmx 1 6 nA) (hcl : vwCl[ci]? = some (C, T, N)) (hd : decode cc pc = .ok (.invokevirtual index, 3)) (hn : n = pc + 3) : ∀ lv st S, i_xcallv X Qx w n lv st S (OK p l e R s m args below meth c Q D cA A ci ly ja AD rel nL) → (OK p l e R s m args below meth c Q D cA A ci ly ja AD rel nL) pc lv st S := by
  intro lv st S h
  obtain ⟨⟨h1, h2⟩, h3, h⟩ := h
  subst hn
  obtain ⟨as, has⟩ := isR0_of h1
  rw [has] at h
  have left : (∃ Qc, X (vR 0 :: as) S Qc nox ∧ ∀ u, Qc u → (OK p l e R s m args below meth c Q D cA A ci ly ja AD rel nL) (pc + 3) lv (st.drop w) u) → (OK p l e R s m args below meth c Q D cA A ci ly ja AD rel nL) pc lv st S := by
    rintro ⟨Qc, hX, hk⟩
    intro ad ha H locs ls cells slots hr hP hD hS hL
    obtain ⟨hlen, hst⟩ := call_st (ad := ad) hw has h2
    have hF := own_free hA hD hS
    have hbd := hrR _ _ _ hr
    rw [hst]
    refine va_callv (va_runV (As := as.map (conc ad)) (rest := (st.drop w).map (conc ad)) S0 (hC l D cA ad (vR 0 :: as) S Qc H.size hX) cw ⟨pre0_blind, va_recv hK hP hcl rfl (q0 := 0), fun U hU hW => ⟨rfl, by rw [hU], by rw [hU]; exact hP, va_K.moved hW.alike hK, hD.weaken (fun _ _ _ _ => trivial)⟩⟩ rfl (by rw [List.length_map]; exact hlen) hL.1 rfl (lv_room (sh4_sum h3)) hd ⟨hbd.1, hbd.2⟩) hS (fun q _ z => hF q z) hF (fun u t H1 locs1 ht hvm hw1 hB hz1 hk1 hS1 => ?_)
    obtain ⟨hq, hku⟩ := hw1
    obtain ⟨hP1, hK1, hD1⟩ := hB
    rw [ht] at hP1
    exact hk u hq ad ha H1 locs1 ls cells slots (by rw [hku]; exact hr) hP1 (hD1.weaken (fun k q _ z => hF q.1 z)) hS1 hL
  rcases h with h | ⟨Q9, hX, hk⟩
  · exact left h
  · rcases hT with rfl | ⟨ad0, k0, Qc0, rfl, hAD, hrel, hXE, hnt, hlt, hlk, hR1, hR2, hR3, hR4⟩
    · rw [nox_of hk] at hX
      exact left ⟨_, hX, fun u z => z.elim⟩
    · intro ad ha H locs ls cells slots hr hP hD hS hL
      have hae := hAD ad ha
      subst hae
      obtain ⟨hlen, hst⟩ := call_st (ad := ad) hw has h2
      have hF := own_free hA hD hS
      obtain ⟨hk0, rfl, rfl⟩ := hrel _ _ _ hr
      rw [hst]
      refine vx_callv (vx_runV (As := as.map (conc ad)) (rest := (st.drop w).map (conc ad)) S0 (hCx l hlt D cA ad (vR 0 :: as) S Q9 H.size hX) cwx ⟨prex_blind, va_recv hK hP hcl rfl (q0 := 0), fun U hU hW => ⟨rfl, ⟨by rw [hU], by rw [hU]; exact hP, va_K.moved hW.alike hK, hD.weaken (fun _ _ _ _ => trivial)⟩, hXE.at hS hU hW hF⟩⟩ rfl (by rw [List.length_map]; exact hlen) hL.1 rfl (lv_room (sh4_sum h3)) hd ⟨by omega, by omega⟩) hS (fun q _ z => hF q z) hF (fun q _ z => hF q z) (fun E ce q9 u t H1 locs1 ht hvm hpx hBX hz1 hk1 hS1 hce hcv hcl9 => ?_) (fun u t H1 locs1 ht hvm hw1 hB hz1 hk1 hS1 => hw1.elim)
      obtain ⟨hq, hku⟩ := hpx
      obtain ⟨rfl, hP1, hK1, hD1⟩ := hBX
      rw [ht] at hP1
      refine vx_out (fun x hx => (hnt x hx).elim) hlk hce hcv hcl9 (fun t1 ht1 hal => ⟨u, ⟨hk _ _ hq, by rw [hku, hk0]⟩, ⟨rfl, by rw [ht1]; exact hP1, va_K.moved hal hK, hD1.weaken (fun k q _ z => hF q.1 z)⟩, hS1.F ht1⟩) hS1.2.2 (by omega) (by omega)
theorem s_throw {own E text : String} {strs : List (Nat × String)} {names : List String} {ik is ic : Nat} {Qx : String → ST → Prop} (hx : p.tables.exec = Jvm.exec) (hb : c.code = cc) (hml : c.maxLocals = nL) (hK : va_K D vwCl [(cA, .int)] s) (hT : TC own strs l R s args below meth c Q D cA A ci ly ja AD rel Qx) (hown : s.vm.findClass own = some m.cls) (hcls : Bundle.fit E = true) (hnames : ∀ n ∈ names, Bundle.fit n = true) (hn3 : names.length = 2)
    (hk : (Cond.classLink own ik E).before args s = true) (hini : (Cond.initialized E).before args s = true) (hstr : (is, text) ∈ strs) (hat : ∀ w ∈ vx_atS own ic E names, w.before args s = true) (hgood : ∀ w ∈ Cond.classLink own ik E :: Cond.initialized E :: vx_atS own ic E names, vx_ot w = true)
    (d0 : decode cc pc = .ok (.new ik, 3)) (d3 : decode cc (pc + 3) = .ok (.dup, 1)) (d4 : decode cc (pc + 4) = .ok (.ldc is, 2)) (d6 : decode cc (pc + 6) = .ok (.invokespecial ic, 3)) (d9 : decode cc (pc + 9) = .ok (.athrow, 1)) : ∀ lv st S, i_throw Qx E lv st S (OK p l e R s m args below meth c Q D cA A ci ly ja AD rel nL) → (OK p l e R s m args below meth c Q D cA A ci ly ja AD rel nL) pc lv st S := by
  intro lv st S h
  rcases st with _ | ⟨v, r⟩
  · rcases hT with rfl | ⟨ad0, k0, Qc0, rfl, hAD, hrel, hXE, hnt, hlt, hlk, hR1, hR2, hR3, hR4⟩
    · exact h.elim
    · intro ad ha H locs ls cells slots hr hP hD hS hL
      have hae := hAD ad ha
      subst hae
      obtain ⟨hk0, rfl, rfl⟩ := hrel _ _ _ hr
      obtain ⟨sa, hsa⟩ := hXE.2.2 _ hstr
      refine vx_throwS hx hb hlt hown hcls hnames hk hini hsa hat hgood hXE.1 hXE.2.1 hS (hL.1.trans hml.symm) d0 d3 d4 d6 d9 (fun x hx => (hnt x hx).elim) (by omega) (by rw [hn3]; exact Nat.le_trans (Nat.le_of_ble_eq_true rfl) hR2) (by omega) (by omega) hlk (fun t hal hz hk1 => ⟨(E, S), ⟨h, hk0⟩, ⟨rfl, fun k q hq => (hP k q hq).kept (hk1 _ (hP k q hq).lt), va_K.moved hal hK, hD⟩, Nat.le_trans hS.1 hz, fun q h1 h2 => by rw [hk1 q (Nat.lt_of_lt_of_le h1 hS.1)]; exact hS.2.1 q h1 h2⟩) hS.2.2 (by omega) (by omega)
  · exact h.elim
/-! ends -/
theorem va_P_left {cl : List vw_C} {a b : va_W} {H : Heap} (h : va_P D cl (a ++ b) H) : va_P D cl a H := fun k q hq => h k q (by rw [List.getElem?_append_left (List.getElem?_eq_some_iff.mp hq).1]; exact hq)
theorem va_D_left {a b : va_W} (h : va_D A (a ++ b)) : va_D A a := by
  have up : ∀ (k : Nat) (q : Nat × va_E), a[k]? = some q → (a ++ b)[k]? = some q := fun k q hq => by rw [List.getElem?_append_left (List.getElem?_eq_some_iff.mp hq).1]; exact hq
  exact ⟨fun i j p q hp hq e => h.1 i j p q (up i p hp) (up j q hq) e, fun k q hq => h.2 k q (up k q hq)⟩
theorem wd_drop {ad ad0 : Nat → Nat} {S : ST} (h : ∀ k, k < 99 → ad k = ad0 k) (hly9 : ly.length ≤ 99) (hja : ∀ z ∈ ja, z.1 < 99) : wdO cA ci ly ja ad S = wdO cA ci ly ja ad0 (dropT S) ++ tw cA ad S := by
  have e1 : o_f ad S ly = o_f ad0 (dropT S) ly := by
    unfold o_f
    apply List.ext_getElem?
    intro i
    simp only [List.getElem?_mapIdx]
    cases hb9 : ly[i]? with
    | none => rfl
    | some b =>
      cases b with
      | false => rfl
      | true =>
        have hi : i < ly.length := (List.getElem?_eq_some_iff.mp hb9).1
        simp [h i (by omega)]
  have e2 : ja.map (o_r cA ad S) = ja.map (o_r cA ad0 (dropT S)) := by
    apply List.map_congr_left
    intro z hz
    unfold o_r
    rw [h z.1 (hja z hz)]
    rfl
  have e3 : tw cA ad0 (dropT S) = [] := rfl
  have e4 : ad 0 = ad0 0 := h 0 (by omega)
  unfold wdO
  rw [e1, e2, e3, e4, List.append_nil, List.cons_append]
theorem s_iret {ad0 : Nat → Nat} {k0 : Nat × Nat} {Qi : Int → ST → Prop} (hx : p.tables.exec = Jvm.exec) (hb : c.code = cc) (hret : meth.sig.returnType = some .int) (hlk : meth.locks = false) (hK : va_K D vwCl [(cA, .int)] s) (hQ : Q = MQ below (va_Qi (fun (r : Int32) (u : ST) => (∃ a : Int, r = iI a ∧ Qi a u) ∧ u.2.2.2 = k0) (AtW D cA ci ly ja ad0 A) A) args s 0 0 A) (hAD : ∀ ad, AD ad → ad = ad0) (hrel : ∀ k c n, rel k c n → k = k0 ∧ c = 0 ∧ n = 0) : ∀ pc lv st S, decode cc pc = .ok (.ireturn, 1) → i_iret Qi lv st S (OK p l e R s m args below meth c Q D cA A ci ly ja AD rel nL) → (OK p l e R s m args below meth c Q D cA A ci ly ja AD rel nL) pc lv st S := by
  intro pc lv st S hd h
  subst hQ
  rcases st with _ | ⟨v | v | v | v, r⟩
  · exact h.elim
  · rcases r with _ | ⟨w9, r⟩
    · intro ad ha H locs ls cells slots hr hP hD hS hL
      have hae := hAD ad ha
      subst hae
      obtain ⟨hk0, rfl, rfl⟩ := hrel _ _ _ hr
      exact W.iret (v := iI v) hx hb hret (fun t ht hW => ⟨⟨iI v, S, rfl, ⟨⟨v, rfl, h⟩, hk0⟩, by rw [ht]; exact hP, va_K.moved hW.alike hK, hD⟩, hS.F ht⟩) hS.2.2 hd hlk
    · exact h.elim
  · exact h.elim
  · exact h.elim
  · exact h.elim
theorem s_ireta {ad0 : Nat → Nat} {K M : Nat} {Qi : Int → ST → Prop} (hx : p.tables.exec = Jvm.exec) (hb : c.code = cc) (hret : meth.sig.returnType = some .int) (hlk : meth.locks = false) (hK : va_K D vwCl [(cA, .int)] s) (hQ : Q = MQ below (va_Qi (fun (r : Int32) (u : ST) => ∃ a : Int, r = iI a ∧ Qi a u) (fun u => AtW D cA ci ly ja ad0 A (dropT u)) A) args s K M A) (hAD : ∀ ad, AD ad → ∀ k, k < 99 → ad k = ad0 k) (hrel : rel = relA K M) (hly9 : ly.length ≤ 99) (hja : ∀ z ∈ ja, z.1 < 99) : ∀ pc lv st S, decode cc pc = .ok (.ireturn, 1) → i_iret Qi lv st S (OK p l e R s m args below meth c Q D cA A ci ly ja AD rel nL) → (OK p l e R s m args below meth c Q D cA A ci ly ja AD rel nL) pc lv st S := by
  intro pc lv st S hd h
  subst hQ
  rcases st with _ | ⟨v | v | v | v, r⟩
  · exact h.elim
  · rcases r with _ | ⟨w9, r⟩
    · intro ad ha H locs ls cells slots hr hP hD hS hL
      subst hrel
      obtain ⟨rfl, rfl, hb1, hb2⟩ := hr
      have hwd : wdO cA ci ly ja ad S = wdO cA ci ly ja ad0 (dropT S) ++ tw cA ad S := wd_drop (hAD ad ha) hly9 hja
      rw [hwd] at hP hD
      have hP9 := va_P_left hP
      have hD9 := va_D_left hD
      refine W.widen (k := K) (n := M) hb1 hb2 ?_
      exact W.iret (v := iI v) hx hb hret (fun t ht hW => ⟨⟨iI v, S, rfl, ⟨v, rfl, h⟩, by rw [ht]; exact hP9, va_K.moved hW.alike hK, hD9⟩, hS.F ht⟩) hS.2.2 hd hlk
    · exact h.elim
  · exact h.elim
  · exact h.elim
  · exact h.elim
theorem s_zret {ad0 : Nat → Nat} {k0 : Nat × Nat} {Qi : Int → ST → Prop} (hx : p.tables.exec = Jvm.exec) (hb : c.code = cc) (hret : meth.sig.returnType = some .boolean) (hlk : meth.locks = false) (hK : va_K D vwCl [(cA, .int)] s) (hQ : Q = MQ below (va_Qi (fun (r : Int32) (u : ST) => (∃ a : Int, r = iI a ∧ Qi a u) ∧ u.2.2.2 = k0) (AtW D cA ci ly ja ad0 A) A) args s 0 0 A) (hAD : ∀ ad, AD ad → ad = ad0) (hrel : ∀ k c n, rel k c n → k = k0 ∧ c = 0 ∧ n = 0) : ∀ pc lv st S, decode cc pc = .ok (.ireturn, 1) → i_zret Qi lv st S (OK p l e R s m args below meth c Q D cA A ci ly ja AD rel nL) → (OK p l e R s m args below meth c Q D cA A ci ly ja AD rel nL) pc lv st S := by
  intro pc lv st S hd h
  subst hQ
  rcases st with _ | ⟨v | v | v | v, r⟩
  · exact h.elim
  · rcases r with _ | ⟨w9, r⟩
    · have hz : ∀ {z : Int}, z = 0 ∨ z = 1 → narrow .boolean (.int (iI z)) = .int (iI z) := fun {z} hz => by rcases hz with rfl | rfl <;> decide
      intro ad ha H locs ls cells slots hr hP hD hS hL
      have hae := hAD ad ha
      subst hae
      obtain ⟨hk0, rfl, rfl⟩ := hrel _ _ _ hr
      exact W.zret (v := iI v) hx hb hret (hz h.1) (fun t ht hW => ⟨⟨iI v, S, rfl, ⟨⟨v, rfl, h.2⟩, hk0⟩, by rw [ht]; exact hP, va_K.moved hW.alike hK, hD⟩, hS.F ht⟩) hS.2.2 hd hlk
    · exact h.elim
  · exact h.elim
  · exact h.elim
  · exact h.elim
theorem s_lret {ad0 : Nat → Nat} {k0 : Nat × Nat} {Qi : Int64 → ST → Prop} (hx : p.tables.exec = Jvm.exec) (hb : c.code = cc) (hret : meth.sig.returnType = some .long) (hlk : meth.locks = false) (hK : va_K D vwCl [(cA, .int)] s) (hQ : Q = MQ below (va_Ql (fun (r : Int64) (u : ST) => Qi r u ∧ u.2.2.2 = k0) (AtW D cA ci ly ja ad0 A) A) args s 0 0 A) (hAD : ∀ ad, AD ad → ad = ad0) (hrel : ∀ k c n, rel k c n → k = k0 ∧ c = 0 ∧ n = 0) : ∀ pc lv st S, decode cc pc = .ok (.lreturn, 1) → i_lret Qi lv st S (OK p l e R s m args below meth c Q D cA A ci ly ja AD rel nL) → (OK p l e R s m args below meth c Q D cA A ci ly ja AD rel nL) pc lv st S := by
  intro pc lv st S hd h
  subst hQ
  rcases st with _ | ⟨v | v | v | v, r⟩
  · exact h.elim
  · exact h.elim
  · rcases r with _ | ⟨w9, r⟩
    · intro ad ha H locs ls cells slots hr hP hD hS hL
      have hae := hAD ad ha
      subst hae
      obtain ⟨hk0, rfl, rfl⟩ := hrel _ _ _ hr
      exact W.lret (v := v) hx hb hret (fun t ht hW => ⟨⟨v, S, rfl, ⟨h, hk0⟩, by rw [ht]; exact hP, va_K.moved hW.alike hK, hD⟩, hS.F ht⟩) hS.2.2 hd hlk
    · exact h.elim
  · exact h.elim
  · exact h.elim
theorem s_lreta {ad0 : Nat → Nat} {K M : Nat} {Qi : Int64 → ST → Prop} (hx : p.tables.exec = Jvm.exec) (hb : c.code = cc) (hret : meth.sig.returnType = some .long) (hlk : meth.locks = false) (hK : va_K D vwCl [(cA, .int)] s) (hQ : Q = MQ below (va_Ql (fun (r : Int64) (u : ST) => Qi r u) (fun u => AtW D cA ci ly ja ad0 A (dropT u)) A) args s K M A) (hAD : ∀ ad, AD ad → ∀ k, k < 99 → ad k = ad0 k) (hrel : rel = relA K M) (hly9 : ly.length ≤ 99) (hja : ∀ z ∈ ja, z.1 < 99) : ∀ pc lv st S, decode cc pc = .ok (.lreturn, 1) → i_lret Qi lv st S (OK p l e R s m args below meth c Q D cA A ci ly ja AD rel nL) → (OK p l e R s m args below meth c Q D cA A ci ly ja AD rel nL) pc lv st S := by
  intro pc lv st S hd h
  subst hQ
  rcases st with _ | ⟨v | v | v | v, r⟩
  · exact h.elim
  · exact h.elim
  · rcases r with _ | ⟨w9, r⟩
    · intro ad ha H locs ls cells slots hr hP hD hS hL
      subst hrel
      obtain ⟨rfl, rfl, hb1, hb2⟩ := hr
      have hwd : wdO cA ci ly ja ad S = wdO cA ci ly ja ad0 (dropT S) ++ tw cA ad S := wd_drop (hAD ad ha) hly9 hja
      rw [hwd] at hP hD
      have hP9 := va_P_left hP
      have hD9 := va_D_left hD
      refine W.widen (k := K) (n := M) hb1 hb2 ?_
      exact W.lret (v := v) hx hb hret (fun t ht hW => ⟨⟨v, S, rfl, h, by rw [ht]; exact hP9, va_K.moved hW.alike hK, hD9⟩, hS.F ht⟩) hS.2.2 hd hlk
    · exact h.elim
  · exact h.elim
  · exact h.elim
theorem s_dret {ad0 : Nat → Nat} {k0 : Nat × Nat} {Qi : UInt64 → ST → Prop} (hx : p.tables.exec = Jvm.exec) (hb : c.code = cc) (hret : meth.sig.returnType = some .double) (hlk : meth.locks = false) (hK : va_K D vwCl [(cA, .int)] s) (hQ : Q = MQ below (va_Qd (fun (r : UInt64) (u : ST) => Qi r u ∧ u.2.2.2 = k0) (AtW D cA ci ly ja ad0 A) A) args s 0 0 A) (hAD : ∀ ad, AD ad → ad = ad0) (hrel : ∀ k c n, rel k c n → k = k0 ∧ c = 0 ∧ n = 0) : ∀ pc lv st S, decode cc pc = .ok (.dreturn, 1) → i_dret Qi lv st S (OK p l e R s m args below meth c Q D cA A ci ly ja AD rel nL) → (OK p l e R s m args below meth c Q D cA A ci ly ja AD rel nL) pc lv st S := by
  intro pc lv st S hd h
  subst hQ
  rcases st with _ | ⟨v | v | v | v, r⟩
  · exact h.elim
  · exact h.elim
  · exact h.elim
  · rcases r with _ | ⟨w9, r⟩
    · intro ad ha H locs ls cells slots hr hP hD hS hL
      have hae := hAD ad ha
      subst hae
      obtain ⟨hk0, rfl, rfl⟩ := hrel _ _ _ hr
      exact W.dret (v := v) hx hb hret (fun t ht hW => ⟨⟨v, S, rfl, ⟨h, hk0⟩, by rw [ht]; exact hP, va_K.moved hW.alike hK, hD⟩, hS.F ht⟩) hS.2.2 hd hlk
    · exact h.elim
  · exact h.elim
theorem s_dreta {ad0 : Nat → Nat} {K M : Nat} {Qi : UInt64 → ST → Prop} (hx : p.tables.exec = Jvm.exec) (hb : c.code = cc) (hret : meth.sig.returnType = some .double) (hlk : meth.locks = false) (hK : va_K D vwCl [(cA, .int)] s) (hQ : Q = MQ below (va_Qd (fun (r : UInt64) (u : ST) => Qi r u) (fun u => AtW D cA ci ly ja ad0 A (dropT u)) A) args s K M A) (hAD : ∀ ad, AD ad → ∀ k, k < 99 → ad k = ad0 k) (hrel : rel = relA K M) (hly9 : ly.length ≤ 99) (hja : ∀ z ∈ ja, z.1 < 99) : ∀ pc lv st S, decode cc pc = .ok (.dreturn, 1) → i_dret Qi lv st S (OK p l e R s m args below meth c Q D cA A ci ly ja AD rel nL) → (OK p l e R s m args below meth c Q D cA A ci ly ja AD rel nL) pc lv st S := by
  intro pc lv st S hd h
  subst hQ
  rcases st with _ | ⟨v | v | v | v, r⟩
  · exact h.elim
  · exact h.elim
  · exact h.elim
  · rcases r with _ | ⟨w9, r⟩
    · intro ad ha H locs ls cells slots hr hP hD hS hL
      subst hrel
      obtain ⟨rfl, rfl, hb1, hb2⟩ := hr
      have hwd : wdO cA ci ly ja ad S = wdO cA ci ly ja ad0 (dropT S) ++ tw cA ad S := wd_drop (hAD ad ha) hly9 hja
      rw [hwd] at hP hD
      have hP9 := va_P_left hP
      have hD9 := va_D_left hD
      refine W.widen (k := K) (n := M) hb1 hb2 ?_
      exact W.dret (v := v) hx hb hret (fun t ht hW => ⟨⟨v, S, rfl, h, by rw [ht]; exact hP9, va_K.moved hW.alike hK, hD9⟩, hS.F ht⟩) hS.2.2 hd hlk
    · exact h.elim
  · exact h.elim
theorem s_vret {ad0 : Nat → Nat} {k0 : Nat × Nat} {Qi : ST → Prop} (hx : p.tables.exec = Jvm.exec) (hb : c.code = cc) (hret : meth.sig.returnType = none) (hlk : meth.locks = false) (hK : va_K D vwCl [(cA, .int)] s) (hQ : Q = MQ below (va_Qv (fun (u : ST) => Qi u ∧ u.2.2.2 = k0) (AtW D cA ci ly ja ad0 A) A) args s 0 0 A) (hAD : ∀ ad, AD ad → ad = ad0) (hrel : ∀ k c n, rel k c n → k = k0 ∧ c = 0 ∧ n = 0) : ∀ pc lv st S, decode cc pc = .ok (.return_, 1) → i_vret Qi lv st S (OK p l e R s m args below meth c Q D cA A ci ly ja AD rel nL) → (OK p l e R s m args below meth c Q D cA A ci ly ja AD rel nL) pc lv st S := by
  intro pc lv st S hd h
  subst hQ
  rcases st with _ | ⟨v, r⟩
  · intro ad ha H locs ls cells slots hr hP hD hS hL
    have hae := hAD ad ha
    subst hae
    obtain ⟨hk0, rfl, rfl⟩ := hrel _ _ _ hr
    exact W.vret hx hb hret (fun t ht hW => ⟨⟨S, rfl, ⟨h, hk0⟩, by rw [ht]; exact hP, va_K.moved hW.alike hK, hD⟩, hS.F ht⟩) hS.2.2 hd hlk
  · exact h.elim
end CALLS
end
section
/-! FROM A TABLE TO A CONTRACT -/
def lvA : List AV → LV
  | [] => []
  | .inl a :: r => some (.inl a) :: lvA r
  | .inr (.inl x) :: r => some (.inr (.inl x)) :: none :: lvA r
  | .inr (.inr (.inl x)) :: r => some (.inr (.inr (.inl x))) :: none :: lvA r
  | .inr (.inr (.inr k)) :: r => some (.inr (.inr (.inr k))) :: lvA r
def eLV (n : Nat) (av : List AV) : LV := lvA av ++ List.replicate (n - (lvA av).length) none
theorem lvA_len {ad : Nat → Nat} : ∀ av : List AV, (lg_sl (av.map (conc ad))).length = (lvA av).length
  | [] => rfl
  | .inl a :: r => by
    have := lvA_len (ad := ad) r
    simp only [lvA, List.length_cons, ← this]
    rfl
  | .inr (.inl x) :: r => by
    have := lvA_len (ad := ad) r
    simp only [lvA, List.length_cons, ← this]
    rfl
  | .inr (.inr (.inl x)) :: r => by
    have := lvA_len (ad := ad) r
    simp only [lvA, List.length_cons, ← this]
    rfl
  | .inr (.inr (.inr k)) :: r => by
    have := lvA_len (ad := ad) r
    simp only [lvA, List.length_cons, ← this]
    rfl
theorem lvA_mem {ad : Nat → Nat} : ∀ (av : List AV) (i j : Nat) (v : AV), (lvA av)[j]? = some (some v) → (i + j, conc ad v) ∈ lv_args i (av.map (conc ad))
  | [], i, j, v, h => by simp [lvA] at h
  | .inl a :: r, i, j, v, h => by
    cases j with
    | zero => simp [lvA] at h; subst h; exact List.mem_cons_self
    | succ j =>
      have h2 : (lvA r)[j]? = some (some v) := h
      have := lvA_mem (ad := ad) r (i + 1) j v h2
      rw [show i + (j + 1) = i + 1 + j by omega]
      exact List.mem_cons_of_mem _ this
  | .inr (.inl x) :: r, i, j, v, h => by
    match j, h with
    | 0, h => simp [lvA] at h; subst h; exact List.mem_cons_self
    | 1, h => simp [lvA] at h
    | j + 2, h =>
      have h2 : (lvA r)[j]? = some (some v) := h
      have := lvA_mem (ad := ad) r (i + 2) j v h2
      rw [show i + (j + 2) = i + 2 + j by omega]
      exact List.mem_cons_of_mem _ this
  | .inr (.inr (.inl x)) :: r, i, j, v, h => by
    match j, h with
    | 0, h => simp [lvA] at h; subst h; exact List.mem_cons_self
    | 1, h => simp [lvA] at h
    | j + 2, h =>
      have h2 : (lvA r)[j]? = some (some v) := h
      have := lvA_mem (ad := ad) r (i + 2) j v h2
      rw [show i + (j + 2) = i + 2 + j by omega]
      exact List.mem_cons_of_mem _ this
  | .inr (.inr (.inr k)) :: r, i, j, v, h => by
    cases j with
    | zero => simp [lvA] at h; subst h; exact List.mem_cons_self
    | succ j =>
      have h2 : (lvA r)[j]? = some (some v) := h
      have := lvA_mem (ad := ad) r (i + 1) j v h2
      rw [show i + (j + 1) = i + 1 + j by omega]
      exact List.mem_cons_of_mem _ this
theorem eLV_LR {ad : Nat → Nat} {n : Nat} {av : List AV} {ls : Array Slot} (h : lv_has ls n (lv_args 0 (av.map (conc ad)))) : LR ad n (eLV n av) ls := by
  refine ⟨h.1, h.2.1, fun i v hv => ?_⟩
  have h1 : (lvA av)[i]? = some (some v) := by
    unfold lget eLV at hv
    rcases Nat.lt_or_ge i (lvA av).length with q | q
    · rw [List.getElem?_append_left q] at hv
      rw [List.getElem?_eq_getElem q] at hv ⊢
      exact congrArg some hv
    · rw [List.getElem?_append_right q, List.getElem?_replicate] at hv
      split at hv <;> cases hv
  have h2 := h.2.2 _ (lvA_mem (ad := ad) av 0 i v h1)
  rw [Nat.zero_add] at h2
  exact h2
/-- what a method's body stands on -/
def CtxF (p : Program) (m : MethodId) (c : Code) (s : State) (args : Array Value) (meth : Method) (cc : ByteArray) (nL : Nat) (ret : Option FieldType) (ws : List Cond) (C : String) : Prop :=
  (CallFix p m c cc nL s args ws C) ∧ meth.locks = false ∧ meth.sig.returnType = ret
/-- a table is sound for a method -/
def SndT (own : String) (strs : List (Nat × String)) (ci : Nat) (ly : List Bool) (ja : List (Nat × Nat)) (cc : ByteArray) (nL : Nat) (ret : Option FieldType) (ws : List Cond) (Fr Lo : Nat) (Qx : String → ST → Prop) (hE : PT → Prop) (relok : Room → (Nat × Nat → Nat → Nat → Prop) → ((Nat → Nat) → Prop) → Prop) (T : List (Nat × AI)) : Prop :=
  ∀ (p : Program) (l : Launch) (e : Env) (R : Room) (s : State) (m : MethodId) (args : Array Value) (below : List Frame) (meth : Method) (c : Code) (Q : State → Prop) (D : va_G) (cA : ClassId) (A : Nat → Prop) (AD : (Nat → Nat) → Prop) (rel : Nat × Nat → Nat → Nat → Prop), CtxF p m c s args meth cc nL ret ws own → Fr ≤ R.frames → Lo ≤ R.locals → va_K D vwCl [(cA, .int)] s → (∀ q, s.heap.size ≤ q → A q) → relok R rel AD → TC own strs l R s args below meth c Q D cA A ci ly ja AD rel Qx → hE (OK p l e R s m args below meth c Q D cA A ci ly ja AD rel nL) →
    ∀ e9 ∈ T, ∀ lv st S, e9.2 lv st S (OK p l e R s m args below meth c Q D cA A ci ly ja AD rel nL) → OK p l e R s m args below meth c Q D cA A ci ly ja AD rel nL e9.1 lv st S
/-- the count stays within the room -/
def relP : Room → (Nat × Nat → Nat → Nat → Prop) → ((Nat → Nat) → Prop) → Prop := fun R rel _ => ∀ k c n, rel k c n → c ≤ R.cells ∧ n ≤ R.slots
def relQ (K M : Nat) : Room → (Nat × Nat → Nat → Nat → Prop) → ((Nat → Nat) → Prop) → Prop := fun R rel AD => rel = relA K M ∧ K ≤ R.cells ∧ M ≤ R.slots ∧ ∀ ad q, AD ad → AD (va_up ad 99 q)
def EI (cc : ByteArray) (Q : Int → ST → Prop) (P : PT) : Prop := ∀ pc lv st S, decode cc pc = .ok (.ireturn, 1) → i_iret Q lv st S P → P pc lv st S
def EZ (cc : ByteArray) (Q : Int → ST → Prop) (P : PT) : Prop := ∀ pc lv st S, decode cc pc = .ok (.ireturn, 1) → i_zret Q lv st S P → P pc lv st S
def EJ (cc : ByteArray) (Q : Int64 → ST → Prop) (P : PT) : Prop := ∀ pc lv st S, decode cc pc = .ok (.lreturn, 1) → i_lret Q lv st S P → P pc lv st S
def ED (cc : ByteArray) (Q : UInt64 → ST → Prop) (P : PT) : Prop := ∀ pc lv st S, decode cc pc = .ok (.dreturn, 1) → i_dret Q lv st S P → P pc lv st S
def EV (cc : ByteArray) (Q : ST → Prop) (P : PT) : Prop := ∀ pc lv st S, decode cc pc = .ok (.return_, 1) → i_vret Q lv st S P → P pc lv st S
def XI (n : Nat) (T : (Int → ST → Prop) → (String → ST → Prop) → List (Nat × AI)) : RI := fun av S Q Qx => (lvA av).length ≤ n ∧ RR (T Q Qx) 0 (eLV n av) [] S
def XJ (n : Nat) (T : (Int64 → ST → Prop) → (String → ST → Prop) → List (Nat × AI)) : RJ := fun av S Q Qx => (lvA av).length ≤ n ∧ RR (T Q Qx) 0 (eLV n av) [] S
def XD (n : Nat) (T : (UInt64 → ST → Prop) → (String → ST → Prop) → List (Nat × AI)) : RD := fun av S Q Qx => (lvA av).length ≤ n ∧ RR (T Q Qx) 0 (eLV n av) [] S
def XV (n : Nat) (T : (ST → Prop) → (String → ST → Prop) → List (Nat × AI)) : RV := fun av S Q Qx => (lvA av).length ≤ n ∧ RR (T Q Qx) 0 (eLV n av) [] S
theorem nEI {cc : ByteArray} {P : PT} : EI cc (fun _ _ => False) P := by
  intro pc lv st S9 _ h
  rcases st with _ | ⟨v | v | v | v, _ | ⟨w9, r⟩⟩ <;> exact (show False from h).elim
theorem nEZ {cc : ByteArray} {P : PT} : EZ cc (fun _ _ => False) P := by
  intro pc lv st S9 _ h
  rcases st with _ | ⟨v | v | v | v, _ | ⟨w9, r⟩⟩ <;> first | exact (show False from h).elim | exact (show False from h.2).elim
theorem nEV {cc : ByteArray} {P : PT} : EV cc (fun _ => False) P := by
  intro pc lv st S9 _ h
  rcases st with _ | ⟨v, r⟩ <;> exact (show False from h).elim
section ASM
variable {ci : Nat} {ly : List Bool} {ja : List (Nat × Nat)} {C : String} {strs : List (Nat × String)} {y : MethodName} {ws ws' : List Cond} {rm : Room} {cc : ByteArray} {maxL Fr Lo : Nat}
theorem mk_I (T : (Int → ST → Prop) → (String → ST → Prop) → List (Nat × AI)) (hy : plainName y.cls = true) (hyc : y.cls = C) (hw : ws = Cond.code y cc maxL (some .int) :: ws') (hc0 : rm.cells = 0) (hs0 : rm.slots = 0) (hFr : Fr ≤ rm.frames) (hLo : Lo ≤ rm.locals) (hS : ∀ Q, SndT C strs ci ly ja cc maxL (some .int) ws Fr Lo nox (EI cc Q) relP (T Q nox)) : CtI ci ly ja y ws rm (XI maxL T) := by
  intro l D cA ad av S Q sz hX
  obtain ⟨hlen, hX⟩ := hX
  refine Met.ofW (cc := cc) (maxL := maxL) (ret := some .int) hy hw ?_
  intro p e s m args below meth c s₁ B hml hv
  obtain ⟨rfl, hsz, hP, hK, hD0⟩ := hv
  have hx := B.exec
  have hb := B.bytes
  have hr := B.returns
  have hts := atoms_spec (ws := ws) B.pre
  have hown : s.vm.findClass C = some m.cls := hyc ▸ findClass_of_methodNamed B.named
  have hlocks := B.notSynchronized
  subst hsz
  have hD := hD0.self (sz := s.heap.size)
  have hA : ∀ q : Nat, s.heap.size ≤ q → va_A (wdO cA ci ly ja ad S) s.heap.size q := fun q h => Or.inr h
  have hS0 : va_S (va_A (wdO cA ci ly ja ad S) s.heap.size) s.heap s.heap [] := va_S.rf
  have hl := lv_entry (av.map (conc ad)) (n := maxL) (by rw [lvA_len]; exact hlen)
  rw [lg_entry_eq]
  generalize (lg_sl (av.map (conc ad)) ++ List.replicate (maxL - (lg_sl (av.map (conc ad))).length) Slot.unset).toArray = ls at hl ⊢
  have key := hS Q p l e (headSpec ws rm).room s m _ below meth c _ D cA _ (fun a => a = ad) (fun k c n => k = S.2.2.2 ∧ c = 0 ∧ n = 0) ⟨⟨hx, hb, hml, hown, hts⟩, hlocks, hr⟩ hFr hLo hK hA (fun k c n h => ⟨by rw [h.2.1]; exact Nat.zero_le _, by rw [h.2.2]; exact Nat.zero_le _⟩) (Or.inl rfl) (s_iret (ad0 := ad) (k0 := S.2.2.2) hx hb hr hlocks hK rfl (fun a h => h) (fun k c n h => h))
  exact hX _ (tab_closed key) ad rfl s.heap [] ls 0 0 ⟨rfl, rfl, rfl⟩ hP hD hS0 (eLV_LR hl)
theorem mk_Z (T : (Int → ST → Prop) → (String → ST → Prop) → List (Nat × AI)) (hy : plainName y.cls = true) (hyc : y.cls = C) (hw : ws = Cond.code y cc maxL (some .boolean) :: ws') (hc0 : rm.cells = 0) (hs0 : rm.slots = 0) (hFr : Fr ≤ rm.frames) (hLo : Lo ≤ rm.locals) (hS : ∀ Q, SndT C strs ci ly ja cc maxL (some .boolean) ws Fr Lo nox (EZ cc Q) relP (T Q nox)) : CtI ci ly ja y ws rm (XI maxL T) := by
  intro l D cA ad av S Q sz hX
  obtain ⟨hlen, hX⟩ := hX
  refine Met.ofW (cc := cc) (maxL := maxL) (ret := some .boolean) hy hw ?_
  intro p e s m args below meth c s₁ B hml hv
  obtain ⟨rfl, hsz, hP, hK, hD0⟩ := hv
  have hx := B.exec
  have hb := B.bytes
  have hr := B.returns
  have hts := atoms_spec (ws := ws) B.pre
  have hown : s.vm.findClass C = some m.cls := hyc ▸ findClass_of_methodNamed B.named
  have hlocks := B.notSynchronized
  subst hsz
  have hD := hD0.self (sz := s.heap.size)
  have hA : ∀ q : Nat, s.heap.size ≤ q → va_A (wdO cA ci ly ja ad S) s.heap.size q := fun q h => Or.inr h
  have hS0 : va_S (va_A (wdO cA ci ly ja ad S) s.heap.size) s.heap s.heap [] := va_S.rf
  have hl := lv_entry (av.map (conc ad)) (n := maxL) (by rw [lvA_len]; exact hlen)
  rw [lg_entry_eq]
  generalize (lg_sl (av.map (conc ad)) ++ List.replicate (maxL - (lg_sl (av.map (conc ad))).length) Slot.unset).toArray = ls at hl ⊢
  have key := hS Q p l e (headSpec ws rm).room s m _ below meth c _ D cA _ (fun a => a = ad) (fun k c n => k = S.2.2.2 ∧ c = 0 ∧ n = 0) ⟨⟨hx, hb, hml, hown, hts⟩, hlocks, hr⟩ hFr hLo hK hA (fun k c n h => ⟨by rw [h.2.1]; exact Nat.zero_le _, by rw [h.2.2]; exact Nat.zero_le _⟩) (Or.inl rfl) (s_zret (ad0 := ad) (k0 := S.2.2.2) hx hb hr hlocks hK rfl (fun a h => h) (fun k c n h => h))
  exact hX _ (tab_closed key) ad rfl s.heap [] ls 0 0 ⟨rfl, rfl, rfl⟩ hP hD hS0 (eLV_LR hl)
theorem mk_J (T : (Int64 → ST → Prop) → (String → ST → Prop) → List (Nat × AI)) (hy : plainName y.cls = true) (hyc : y.cls = C) (hw : ws = Cond.code y cc maxL (some .long) :: ws') (hc0 : rm.cells = 0) (hs0 : rm.slots = 0) (hFr : Fr ≤ rm.frames) (hLo : Lo ≤ rm.locals) (hS : ∀ Q, SndT C strs ci ly ja cc maxL (some .long) ws Fr Lo nox (EJ cc Q) relP (T Q nox)) : CtJ ci ly ja y ws rm (XJ maxL T) := by
  intro l D cA ad av S Q sz hX
  obtain ⟨hlen, hX⟩ := hX
  refine Met.ofW (cc := cc) (maxL := maxL) (ret := some .long) hy hw ?_
  intro p e s m args below meth c s₁ B hml hv
  obtain ⟨rfl, hsz, hP, hK, hD0⟩ := hv
  have hx := B.exec
  have hb := B.bytes
  have hr := B.returns
  have hts := atoms_spec (ws := ws) B.pre
  have hown : s.vm.findClass C = some m.cls := hyc ▸ findClass_of_methodNamed B.named
  have hlocks := B.notSynchronized
  subst hsz
  have hD := hD0.self (sz := s.heap.size)
  have hA : ∀ q : Nat, s.heap.size ≤ q → va_A (wdO cA ci ly ja ad S) s.heap.size q := fun q h => Or.inr h
  have hS0 : va_S (va_A (wdO cA ci ly ja ad S) s.heap.size) s.heap s.heap [] := va_S.rf
  have hl := lv_entry (av.map (conc ad)) (n := maxL) (by rw [lvA_len]; exact hlen)
  rw [lg_entry_eq]
  generalize (lg_sl (av.map (conc ad)) ++ List.replicate (maxL - (lg_sl (av.map (conc ad))).length) Slot.unset).toArray = ls at hl ⊢
  have key := hS Q p l e (headSpec ws rm).room s m _ below meth c _ D cA _ (fun a => a = ad) (fun k c n => k = S.2.2.2 ∧ c = 0 ∧ n = 0) ⟨⟨hx, hb, hml, hown, hts⟩, hlocks, hr⟩ hFr hLo hK hA (fun k c n h => ⟨by rw [h.2.1]; exact Nat.zero_le _, by rw [h.2.2]; exact Nat.zero_le _⟩) (Or.inl rfl) (s_lret (ad0 := ad) (k0 := S.2.2.2) hx hb hr hlocks hK rfl (fun a h => h) (fun k c n h => h))
  exact hX _ (tab_closed key) ad rfl s.heap [] ls 0 0 ⟨rfl, rfl, rfl⟩ hP hD hS0 (eLV_LR hl)
theorem mk_D (T : (UInt64 → ST → Prop) → (String → ST → Prop) → List (Nat × AI)) (hy : plainName y.cls = true) (hyc : y.cls = C) (hw : ws = Cond.code y cc maxL (some .double) :: ws') (hc0 : rm.cells = 0) (hs0 : rm.slots = 0) (hFr : Fr ≤ rm.frames) (hLo : Lo ≤ rm.locals) (hS : ∀ Q, SndT C strs ci ly ja cc maxL (some .double) ws Fr Lo nox (ED cc Q) relP (T Q nox)) : CtD ci ly ja y ws rm (XD maxL T) := by
  intro l D cA ad av S Q sz hX
  obtain ⟨hlen, hX⟩ := hX
  refine Met.ofW (cc := cc) (maxL := maxL) (ret := some .double) hy hw ?_
  intro p e s m args below meth c s₁ B hml hv
  obtain ⟨rfl, hsz, hP, hK, hD0⟩ := hv
  have hx := B.exec
  have hb := B.bytes
  have hr := B.returns
  have hts := atoms_spec (ws := ws) B.pre
  have hown : s.vm.findClass C = some m.cls := hyc ▸ findClass_of_methodNamed B.named
  have hlocks := B.notSynchronized
  subst hsz
  have hD := hD0.self (sz := s.heap.size)
  have hA : ∀ q : Nat, s.heap.size ≤ q → va_A (wdO cA ci ly ja ad S) s.heap.size q := fun q h => Or.inr h
  have hS0 : va_S (va_A (wdO cA ci ly ja ad S) s.heap.size) s.heap s.heap [] := va_S.rf
  have hl := lv_entry (av.map (conc ad)) (n := maxL) (by rw [lvA_len]; exact hlen)
  rw [lg_entry_eq]
  generalize (lg_sl (av.map (conc ad)) ++ List.replicate (maxL - (lg_sl (av.map (conc ad))).length) Slot.unset).toArray = ls at hl ⊢
  have key := hS Q p l e (headSpec ws rm).room s m _ below meth c _ D cA _ (fun a => a = ad) (fun k c n => k = S.2.2.2 ∧ c = 0 ∧ n = 0) ⟨⟨hx, hb, hml, hown, hts⟩, hlocks, hr⟩ hFr hLo hK hA (fun k c n h => ⟨by rw [h.2.1]; exact Nat.zero_le _, by rw [h.2.2]; exact Nat.zero_le _⟩) (Or.inl rfl) (s_dret (ad0 := ad) (k0 := S.2.2.2) hx hb hr hlocks hK rfl (fun a h => h) (fun k c n h => h))
  exact hX _ (tab_closed key) ad rfl s.heap [] ls 0 0 ⟨rfl, rfl, rfl⟩ hP hD hS0 (eLV_LR hl)
theorem mk_V (T : (ST → Prop) → (String → ST → Prop) → List (Nat × AI)) (hy : plainName y.cls = true) (hyc : y.cls = C) (hw : ws = Cond.code y cc maxL (none) :: ws') (hc0 : rm.cells = 0) (hs0 : rm.slots = 0) (hFr : Fr ≤ rm.frames) (hLo : Lo ≤ rm.locals) (hS : ∀ Q, SndT C strs ci ly ja cc maxL (none) ws Fr Lo nox (EV cc Q) relP (T Q nox)) : CtV ci ly ja y ws rm (XV maxL T) := by
  intro l D cA ad av S Q sz hX
  obtain ⟨hlen, hX⟩ := hX
  refine Met.ofW (cc := cc) (maxL := maxL) (ret := none) hy hw ?_
  intro p e s m args below meth c s₁ B hml hv
  obtain ⟨rfl, hsz, hP, hK, hD0⟩ := hv
  have hx := B.exec
  have hb := B.bytes
  have hr := B.returns
  have hts := atoms_spec (ws := ws) B.pre
  have hown : s.vm.findClass C = some m.cls := hyc ▸ findClass_of_methodNamed B.named
  have hlocks := B.notSynchronized
  subst hsz
  have hD := hD0.self (sz := s.heap.size)
  have hA : ∀ q : Nat, s.heap.size ≤ q → va_A (wdO cA ci ly ja ad S) s.heap.size q := fun q h => Or.inr h
  have hS0 : va_S (va_A (wdO cA ci ly ja ad S) s.heap.size) s.heap s.heap [] := va_S.rf
  have hl := lv_entry (av.map (conc ad)) (n := maxL) (by rw [lvA_len]; exact hlen)
  rw [lg_entry_eq]
  generalize (lg_sl (av.map (conc ad)) ++ List.replicate (maxL - (lg_sl (av.map (conc ad))).length) Slot.unset).toArray = ls at hl ⊢
  have key := hS Q p l e (headSpec ws rm).room s m _ below meth c _ D cA _ (fun a => a = ad) (fun k c n => k = S.2.2.2 ∧ c = 0 ∧ n = 0) ⟨⟨hx, hb, hml, hown, hts⟩, hlocks, hr⟩ hFr hLo hK hA (fun k c n h => ⟨by rw [h.2.1]; exact Nat.zero_le _, by rw [h.2.2]; exact Nat.zero_le _⟩) (Or.inl rfl) (s_vret (ad0 := ad) (k0 := S.2.2.2) hx hb hr hlocks hK rfl (fun a h => h) (fun k c n h => h))
  exact hX _ (tab_closed key) ad rfl s.heap [] ls 0 0 ⟨rfl, rfl, rfl⟩ hP hD hS0 (eLV_LR hl)
theorem mk_Ia {K M : Nat} (T : (Int → ST → Prop) → (String → ST → Prop) → List (Nat × AI)) (hy : plainName y.cls = true) (hyc : y.cls = C) (hw : ws = Cond.code y cc maxL (some .int) :: ws') (hc0 : K ≤ rm.cells) (hs0 : M ≤ rm.slots) (hFr : Fr ≤ rm.frames) (hLo : Lo ≤ rm.locals) (hly9 : ly.length ≤ 99) (hja : ∀ z ∈ ja, z.1 < 99) (hS : ∀ Q, SndT C strs ci ly ja cc maxL (some .int) ws Fr Lo nox (EI cc Q) (relQ K M) (T Q nox)) : CtAI ci ly ja y ws rm K M (XI maxL T) := by
  intro l D cA ad av S Q sz hX
  obtain ⟨hlen, hX⟩ := hX
  refine Met.ofW (cc := cc) (maxL := maxL) (ret := some .int) hy hw ?_
  intro p e s m args below meth c s₁ B hml hv
  obtain ⟨rfl, hsz, hP, hK, hD0⟩ := hv
  have hx := B.exec
  have hb := B.bytes
  have hr := B.returns
  have hts := atoms_spec (ws := ws) B.pre
  have hown : s.vm.findClass C = some m.cls := hyc ▸ findClass_of_methodNamed B.named
  have hlocks := B.notSynchronized
  subst hsz
  have hD := hD0.self (sz := s.heap.size)
  have hA : ∀ q : Nat, s.heap.size ≤ q → va_A (wdO cA ci ly ja ad (cut0 S)) s.heap.size q := fun q h => Or.inr h
  have hS0 : va_S (va_A (wdO cA ci ly ja ad (cut0 S)) s.heap.size) s.heap s.heap [] := va_S.rf
  have hl := lv_entry (av.map (conc ad)) (n := maxL) (by rw [lvA_len]; exact hlen)
  rw [lg_entry_eq]
  generalize (lg_sl (av.map (conc ad)) ++ List.replicate (maxL - (lg_sl (av.map (conc ad))).length) Slot.unset).toArray = ls at hl ⊢
  have key := hS Q p l e (headSpec ws rm).room s m _ below meth c _ D cA _ (fun a => ∀ k, k < 99 → a k = ad k) (relA K M) ⟨⟨hx, hb, hml, hown, hts⟩, hlocks, hr⟩ hFr hLo hK hA ⟨rfl, hc0, hs0, fun a q h k hk => by rw [← h k hk]; simp [va_up]; omega⟩ (Or.inl rfl) (s_ireta (ad0 := ad) hx hb hr hlocks hK rfl (fun a h => h) rfl hly9 hja)
  exact hX _ (tab_closed key) ad (fun _ _ => rfl) s.heap [] ls 0 0 ⟨rfl, rfl, Nat.zero_le _, Nat.zero_le _⟩ hP hD hS0 (eLV_LR hl)
theorem mk_Ja {K M : Nat} (T : (Int64 → ST → Prop) → (String → ST → Prop) → List (Nat × AI)) (hy : plainName y.cls = true) (hyc : y.cls = C) (hw : ws = Cond.code y cc maxL (some .long) :: ws') (hc0 : K ≤ rm.cells) (hs0 : M ≤ rm.slots) (hFr : Fr ≤ rm.frames) (hLo : Lo ≤ rm.locals) (hly9 : ly.length ≤ 99) (hja : ∀ z ∈ ja, z.1 < 99) (hS : ∀ Q, SndT C strs ci ly ja cc maxL (some .long) ws Fr Lo nox (EJ cc Q) (relQ K M) (T Q nox)) : CtAJ ci ly ja y ws rm K M (XJ maxL T) := by
  intro l D cA ad av S Q sz hX
  obtain ⟨hlen, hX⟩ := hX
  refine Met.ofW (cc := cc) (maxL := maxL) (ret := some .long) hy hw ?_
  intro p e s m args below meth c s₁ B hml hv
  obtain ⟨rfl, hsz, hP, hK, hD0⟩ := hv
  have hx := B.exec
  have hb := B.bytes
  have hr := B.returns
  have hts := atoms_spec (ws := ws) B.pre
  have hown : s.vm.findClass C = some m.cls := hyc ▸ findClass_of_methodNamed B.named
  have hlocks := B.notSynchronized
  subst hsz
  have hD := hD0.self (sz := s.heap.size)
  have hA : ∀ q : Nat, s.heap.size ≤ q → va_A (wdO cA ci ly ja ad (cut0 S)) s.heap.size q := fun q h => Or.inr h
  have hS0 : va_S (va_A (wdO cA ci ly ja ad (cut0 S)) s.heap.size) s.heap s.heap [] := va_S.rf
  have hl := lv_entry (av.map (conc ad)) (n := maxL) (by rw [lvA_len]; exact hlen)
  rw [lg_entry_eq]
  generalize (lg_sl (av.map (conc ad)) ++ List.replicate (maxL - (lg_sl (av.map (conc ad))).length) Slot.unset).toArray = ls at hl ⊢
  have key := hS Q p l e (headSpec ws rm).room s m _ below meth c _ D cA _ (fun a => ∀ k, k < 99 → a k = ad k) (relA K M) ⟨⟨hx, hb, hml, hown, hts⟩, hlocks, hr⟩ hFr hLo hK hA ⟨rfl, hc0, hs0, fun a q h k hk => by rw [← h k hk]; simp [va_up]; omega⟩ (Or.inl rfl) (s_lreta (ad0 := ad) hx hb hr hlocks hK rfl (fun a h => h) rfl hly9 hja)
  exact hX _ (tab_closed key) ad (fun _ _ => rfl) s.heap [] ls 0 0 ⟨rfl, rfl, Nat.zero_le _, Nat.zero_le _⟩ hP hD hS0 (eLV_LR hl)
theorem mk_Da {K M : Nat} (T : (UInt64 → ST → Prop) → (String → ST → Prop) → List (Nat × AI)) (hy : plainName y.cls = true) (hyc : y.cls = C) (hw : ws = Cond.code y cc maxL (some .double) :: ws') (hc0 : K ≤ rm.cells) (hs0 : M ≤ rm.slots) (hFr : Fr ≤ rm.frames) (hLo : Lo ≤ rm.locals) (hly9 : ly.length ≤ 99) (hja : ∀ z ∈ ja, z.1 < 99) (hS : ∀ Q, SndT C strs ci ly ja cc maxL (some .double) ws Fr Lo nox (ED cc Q) (relQ K M) (T Q nox)) : CtAD ci ly ja y ws rm K M (XD maxL T) := by
  intro l D cA ad av S Q sz hX
  obtain ⟨hlen, hX⟩ := hX
  refine Met.ofW (cc := cc) (maxL := maxL) (ret := some .double) hy hw ?_
  intro p e s m args below meth c s₁ B hml hv
  obtain ⟨rfl, hsz, hP, hK, hD0⟩ := hv
  have hx := B.exec
  have hb := B.bytes
  have hr := B.returns
  have hts := atoms_spec (ws := ws) B.pre
  have hown : s.vm.findClass C = some m.cls := hyc ▸ findClass_of_methodNamed B.named
  have hlocks := B.notSynchronized
  subst hsz
  have hD := hD0.self (sz := s.heap.size)
  have hA : ∀ q : Nat, s.heap.size ≤ q → va_A (wdO cA ci ly ja ad (cut0 S)) s.heap.size q := fun q h => Or.inr h
  have hS0 : va_S (va_A (wdO cA ci ly ja ad (cut0 S)) s.heap.size) s.heap s.heap [] := va_S.rf
  have hl := lv_entry (av.map (conc ad)) (n := maxL) (by rw [lvA_len]; exact hlen)
  rw [lg_entry_eq]
  generalize (lg_sl (av.map (conc ad)) ++ List.replicate (maxL - (lg_sl (av.map (conc ad))).length) Slot.unset).toArray = ls at hl ⊢
  have key := hS Q p l e (headSpec ws rm).room s m _ below meth c _ D cA _ (fun a => ∀ k, k < 99 → a k = ad k) (relA K M) ⟨⟨hx, hb, hml, hown, hts⟩, hlocks, hr⟩ hFr hLo hK hA ⟨rfl, hc0, hs0, fun a q h k hk => by rw [← h k hk]; simp [va_up]; omega⟩ (Or.inl rfl) (s_dreta (ad0 := ad) hx hb hr hlocks hK rfl (fun a h => h) rfl hly9 hja)
  exact hX _ (tab_closed key) ad (fun _ _ => rfl) s.heap [] ls 0 0 ⟨rfl, rfl, Nat.zero_le _, Nat.zero_le _⟩ hP hD hS0 (eLV_LR hl)
theorem mk_Ix (T : (Int → ST → Prop) → (String → ST → Prop) → List (Nat × AI)) (hy : plainName y.cls = true) (hyc : y.cls = C) (hw : ws = Cond.code y cc maxL (some .int) :: ws') (hc0 : rm.cells = 1) (hs0 : rm.slots = 6) (hFr : Fr ≤ rm.frames) (hLo : Lo ≤ rm.locals) (hFr6 : 6 ≤ rm.frames) (hLo82 : 82 ≤ rm.locals) (hS : ∀ Qx, SndT C strs ci ly ja cc maxL (some .int) ws Fr Lo Qx (EI cc (fun _ _ => False)) relP (T (fun _ _ => False) Qx)) : CtXI C strs ci ly ja y ws rm (XI maxL T) := by
  intro l hlt D cA ad av S Q sz hX
  obtain ⟨hlen, hX⟩ := hX
  refine vx_ofW (cc := cc) (maxL := maxL) (ret := some .int) hy hw ?_
  intro p e s m args below meth c s₁ B hml hnt hv
  obtain ⟨rfl, ⟨hsz, hP, hK, hD0⟩, hXE⟩ := hv
  have hx := B.exec
  have hb := B.bytes
  have hr := B.returns
  have hts := atoms_spec (ws := ws) B.pre
  have hown : s.vm.findClass C = some m.cls := hyc ▸ findClass_of_methodNamed B.named
  have hlocks := B.notSynchronized
  subst hsz
  have hD := hD0.self (sz := s.heap.size)
  have hA : ∀ q : Nat, s.heap.size ≤ q → va_A (wdO cA ci ly ja ad S) s.heap.size q := fun q h => Or.inr h
  have hS0 : va_S (va_A (wdO cA ci ly ja ad S) s.heap.size) s.heap s.heap [] := va_S.rf
  have hl := lv_entry (av.map (conc ad)) (n := maxL) (by rw [lvA_len]; exact hlen)
  rw [lg_entry_eq]
  generalize (lg_sl (av.map (conc ad)) ++ List.replicate (maxL - (lg_sl (av.map (conc ad))).length) Slot.unset).toArray = ls at hl ⊢
  have key := hS Q p l e (headSpec ws rm).room s m _ below meth c _ D cA _ (fun a => a = ad) (fun k c n => k = S.2.2.2 ∧ c = 0 ∧ n = 0) ⟨⟨hx, hb, hml, hown, hts⟩, hlocks, hr⟩ hFr hLo hK hA (fun k c n h => ⟨by rw [h.2.1]; exact Nat.zero_le _, by rw [h.2.2]; exact Nat.zero_le _⟩) (Or.inr ⟨ad, S.2.2.2, (va_Qi (fun (_ : Int32) (_ : ST) => False) (AtW D cA ci ly ja ad (va_A (wdO cA ci ly ja ad S) s.heap.size)) (va_A (wdO cA ci ly ja ad S) s.heap.size)), rfl, fun a h => h, fun k c n h => h, hXE, hnt, hlt, hlocks, hFr6, hLo82, Nat.le_of_eq hc0.symm, Nat.le_of_eq hs0.symm⟩) (nEI)
  exact hX _ (tab_closed key) ad rfl s.heap [] ls 0 0 ⟨rfl, rfl, rfl⟩ hP hD hS0 (eLV_LR hl)
theorem mk_Zx (T : (Int → ST → Prop) → (String → ST → Prop) → List (Nat × AI)) (hy : plainName y.cls = true) (hyc : y.cls = C) (hw : ws = Cond.code y cc maxL (some .boolean) :: ws') (hc0 : rm.cells = 1) (hs0 : rm.slots = 6) (hFr : Fr ≤ rm.frames) (hLo : Lo ≤ rm.locals) (hFr6 : 6 ≤ rm.frames) (hLo82 : 82 ≤ rm.locals) (hS : ∀ Qx, SndT C strs ci ly ja cc maxL (some .boolean) ws Fr Lo Qx (EZ cc (fun _ _ => False)) relP (T (fun _ _ => False) Qx)) : CtXI C strs ci ly ja y ws rm (XI maxL T) := by
  intro l hlt D cA ad av S Q sz hX
  obtain ⟨hlen, hX⟩ := hX
  refine vx_ofW (cc := cc) (maxL := maxL) (ret := some .boolean) hy hw ?_
  intro p e s m args below meth c s₁ B hml hnt hv
  obtain ⟨rfl, ⟨hsz, hP, hK, hD0⟩, hXE⟩ := hv
  have hx := B.exec
  have hb := B.bytes
  have hr := B.returns
  have hts := atoms_spec (ws := ws) B.pre
  have hown : s.vm.findClass C = some m.cls := hyc ▸ findClass_of_methodNamed B.named
  have hlocks := B.notSynchronized
  subst hsz
  have hD := hD0.self (sz := s.heap.size)
  have hA : ∀ q : Nat, s.heap.size ≤ q → va_A (wdO cA ci ly ja ad S) s.heap.size q := fun q h => Or.inr h
  have hS0 : va_S (va_A (wdO cA ci ly ja ad S) s.heap.size) s.heap s.heap [] := va_S.rf
  have hl := lv_entry (av.map (conc ad)) (n := maxL) (by rw [lvA_len]; exact hlen)
  rw [lg_entry_eq]
  generalize (lg_sl (av.map (conc ad)) ++ List.replicate (maxL - (lg_sl (av.map (conc ad))).length) Slot.unset).toArray = ls at hl ⊢
  have key := hS Q p l e (headSpec ws rm).room s m _ below meth c _ D cA _ (fun a => a = ad) (fun k c n => k = S.2.2.2 ∧ c = 0 ∧ n = 0) ⟨⟨hx, hb, hml, hown, hts⟩, hlocks, hr⟩ hFr hLo hK hA (fun k c n h => ⟨by rw [h.2.1]; exact Nat.zero_le _, by rw [h.2.2]; exact Nat.zero_le _⟩) (Or.inr ⟨ad, S.2.2.2, (va_Qi (fun (_ : Int32) (_ : ST) => False) (AtW D cA ci ly ja ad (va_A (wdO cA ci ly ja ad S) s.heap.size)) (va_A (wdO cA ci ly ja ad S) s.heap.size)), rfl, fun a h => h, fun k c n h => h, hXE, hnt, hlt, hlocks, hFr6, hLo82, Nat.le_of_eq hc0.symm, Nat.le_of_eq hs0.symm⟩) (nEZ)
  exact hX _ (tab_closed key) ad rfl s.heap [] ls 0 0 ⟨rfl, rfl, rfl⟩ hP hD hS0 (eLV_LR hl)
theorem mk_Vx (T : (ST → Prop) → (String → ST → Prop) → List (Nat × AI)) (hy : plainName y.cls = true) (hyc : y.cls = C) (hw : ws = Cond.code y cc maxL (none) :: ws') (hc0 : rm.cells = 1) (hs0 : rm.slots = 6) (hFr : Fr ≤ rm.frames) (hLo : Lo ≤ rm.locals) (hFr6 : 6 ≤ rm.frames) (hLo82 : 82 ≤ rm.locals) (hS : ∀ Qx, SndT C strs ci ly ja cc maxL (none) ws Fr Lo Qx (EV cc (fun _ => False)) relP (T (fun _ => False) Qx)) : CtXV C strs ci ly ja y ws rm (XV maxL T) := by
  intro l hlt D cA ad av S Q sz hX
  obtain ⟨hlen, hX⟩ := hX
  refine vx_ofW (cc := cc) (maxL := maxL) (ret := none) hy hw ?_
  intro p e s m args below meth c s₁ B hml hnt hv
  obtain ⟨rfl, ⟨hsz, hP, hK, hD0⟩, hXE⟩ := hv
  have hx := B.exec
  have hb := B.bytes
  have hr := B.returns
  have hts := atoms_spec (ws := ws) B.pre
  have hown : s.vm.findClass C = some m.cls := hyc ▸ findClass_of_methodNamed B.named
  have hlocks := B.notSynchronized
  subst hsz
  have hD := hD0.self (sz := s.heap.size)
  have hA : ∀ q : Nat, s.heap.size ≤ q → va_A (wdO cA ci ly ja ad S) s.heap.size q := fun q h => Or.inr h
  have hS0 : va_S (va_A (wdO cA ci ly ja ad S) s.heap.size) s.heap s.heap [] := va_S.rf
  have hl := lv_entry (av.map (conc ad)) (n := maxL) (by rw [lvA_len]; exact hlen)
  rw [lg_entry_eq]
  generalize (lg_sl (av.map (conc ad)) ++ List.replicate (maxL - (lg_sl (av.map (conc ad))).length) Slot.unset).toArray = ls at hl ⊢
  have key := hS Q p l e (headSpec ws rm).room s m _ below meth c _ D cA _ (fun a => a = ad) (fun k c n => k = S.2.2.2 ∧ c = 0 ∧ n = 0) ⟨⟨hx, hb, hml, hown, hts⟩, hlocks, hr⟩ hFr hLo hK hA (fun k c n h => ⟨by rw [h.2.1]; exact Nat.zero_le _, by rw [h.2.2]; exact Nat.zero_le _⟩) (Or.inr ⟨ad, S.2.2.2, (va_Qv (fun (_ : ST) => False) (AtW D cA ci ly ja ad (va_A (wdO cA ci ly ja ad S) s.heap.size)) (va_A (wdO cA ci ly ja ad S) s.heap.size)), rfl, fun a h => h, fun k c n h => h, hXE, hnt, hlt, hlocks, hFr6, hLo82, Nat.le_of_eq hc0.symm, Nat.le_of_eq hs0.symm⟩) (nEV)
  exact hX _ (tab_closed key) ad rfl s.heap [] ls 0 0 ⟨rfl, rfl, rfl⟩ hP hD hS0 (eLV_LR hl)
end ASM
end
