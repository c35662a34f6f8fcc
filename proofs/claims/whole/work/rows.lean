section
-- ===== PART A: goes FIRST, ahead of the names: the tables' words, and 'selects' of the private methods out of them =====
/-- a private method of a class that the tables say can be made, by its rows of tables_1 -/
def lw_okq (q : MethodName × Nat) : Prop := (q.1.cls ≠ "java/lang/invoke/MethodHandle" ∧ q.1.cls ≠ "java/lang/invoke/VarHandle") ∧ Cond.instantiable q.1.cls q.2 ∈ tables_1 ∧ Cond.privateMethod q.1 ∈ tables_1 ∧ Cond.instanceMethod q.1 ∈ tables_1
theorem lw_p0 : lw_okq (⟨"CellTrays", "dropTray", "(I)V"⟩, 16) := ⟨⟨by decide +kernel, by decide +kernel⟩, List.mem_of_getElem? (i := 10) (by decide +kernel), List.mem_of_getElem? (i := 72) (by decide +kernel), List.mem_of_getElem? (i := 73) (by decide +kernel)⟩
theorem lw_p1 : lw_okq (⟨"CellTrays", "wastedBy", "(I)I"⟩, 16) := ⟨⟨by decide +kernel, by decide +kernel⟩, List.mem_of_getElem? (i := 10) (by decide +kernel), List.mem_of_getElem? (i := 80) (by decide +kernel), List.mem_of_getElem? (i := 81) (by decide +kernel)⟩
theorem lw_p2 : lw_okq (⟨"CellTrays", "traysOf", "(I)I"⟩, 16) := ⟨⟨by decide +kernel, by decide +kernel⟩, List.mem_of_getElem? (i := 10) (by decide +kernel), List.mem_of_getElem? (i := 84) (by decide +kernel), List.mem_of_getElem? (i := 85) (by decide +kernel)⟩
theorem lw_p3 : lw_okq (⟨"CellTrays", "thingsOf", "(I)I"⟩, 16) := ⟨⟨by decide +kernel, by decide +kernel⟩, List.mem_of_getElem? (i := 10) (by decide +kernel), List.mem_of_getElem? (i := 88) (by decide +kernel), List.mem_of_getElem? (i := 89) (by decide +kernel)⟩
theorem lw_p4 : lw_okq (⟨"CellTrays", "thingsThere", "()I"⟩, 16) := ⟨⟨by decide +kernel, by decide +kernel⟩, List.mem_of_getElem? (i := 10) (by decide +kernel), List.mem_of_getElem? (i := 96) (by decide +kernel), List.mem_of_getElem? (i := 97) (by decide +kernel)⟩
theorem lw_p5 : lw_okq (⟨"CellTrays", "requireWhat", "(II)V"⟩, 16) := ⟨⟨by decide +kernel, by decide +kernel⟩, List.mem_of_getElem? (i := 10) (by decide +kernel), List.mem_of_getElem? (i := 110) (by decide +kernel), List.mem_of_getElem? (i := 111) (by decide +kernel)⟩
theorem lw_p6 : lw_okq (⟨"java/lang/Throwable", "fillInStackTrace", "(I)Ljava/lang/Throwable;"⟩, 6) := ⟨⟨by decide +kernel, by decide +kernel⟩, List.mem_of_getElem? (i := 152) (by decide +kernel), List.mem_of_getElem? (i := 150) (by decide +kernel), List.mem_of_getElem? (i := 151) (by decide +kernel)⟩
theorem lw_p7 : lw_okq (⟨"CellTrays", "wastedInAll", "()I"⟩, 16) := ⟨⟨by decide +kernel, by decide +kernel⟩, List.mem_of_getElem? (i := 10) (by decide +kernel), List.mem_of_getElem? (i := 182) (by decide +kernel), List.mem_of_getElem? (i := 183) (by decide +kernel)⟩
theorem lw_p8 : lw_okq (⟨"CellTrays", "requireKind", "(I)V"⟩, 16) := ⟨⟨by decide +kernel, by decide +kernel⟩, List.mem_of_getElem? (i := 10) (by decide +kernel), List.mem_of_getElem? (i := 190) (by decide +kernel), List.mem_of_getElem? (i := 191) (by decide +kernel)⟩
theorem lw_p9 : lw_okq (⟨"CellTrays", "traysHolding", "(II)I"⟩, 16) := ⟨⟨by decide +kernel, by decide +kernel⟩, List.mem_of_getElem? (i := 10) (by decide +kernel), List.mem_of_getElem? (i := 195) (by decide +kernel), List.mem_of_getElem? (i := 196) (by decide +kernel)⟩
theorem lw_p10 : lw_okq (⟨"CellTrays", "freeCellsOf", "(I)I"⟩, 16) := ⟨⟨by decide +kernel, by decide +kernel⟩, List.mem_of_getElem? (i := 10) (by decide +kernel), List.mem_of_getElem? (i := 199) (by decide +kernel), List.mem_of_getElem? (i := 200) (by decide +kernel)⟩
theorem lw_p11 : lw_okq (⟨"CellTrays", "digestPlace", "(JI)J"⟩, 16) := ⟨⟨by decide +kernel, by decide +kernel⟩, List.mem_of_getElem? (i := 10) (by decide +kernel), List.mem_of_getElem? (i := 203) (by decide +kernel), List.mem_of_getElem? (i := 204) (by decide +kernel)⟩
theorem lw_p12 : lw_okq (⟨"CellTrays", "requirePlace", "(I)V"⟩, 16) := ⟨⟨by decide +kernel, by decide +kernel⟩, List.mem_of_getElem? (i := 10) (by decide +kernel), List.mem_of_getElem? (i := 211) (by decide +kernel), List.mem_of_getElem? (i := 212) (by decide +kernel)⟩
theorem lw_p13 : lw_okq (⟨"CellTrays", "cellsAt", "(I)I"⟩, 16) := ⟨⟨by decide +kernel, by decide +kernel⟩, List.mem_of_getElem? (i := 10) (by decide +kernel), List.mem_of_getElem? (i := 216) (by decide +kernel), List.mem_of_getElem? (i := 217) (by decide +kernel)⟩
theorem lw_p14 : lw_okq (⟨"CellTrays", "placeFor", "(I)I"⟩, 16) := ⟨⟨by decide +kernel, by decide +kernel⟩, List.mem_of_getElem? (i := 10) (by decide +kernel), List.mem_of_getElem? (i := 271) (by decide +kernel), List.mem_of_getElem? (i := 272) (by decide +kernel)⟩
theorem lw_p15 : lw_okq (⟨"CellTrays", "mostPartly", "(I)I"⟩, 16) := ⟨⟨by decide +kernel, by decide +kernel⟩, List.mem_of_getElem? (i := 10) (by decide +kernel), List.mem_of_getElem? (i := 275) (by decide +kernel), List.mem_of_getElem? (i := 276) (by decide +kernel)⟩
def lw_privs_1 : List (MethodName × Nat) := [(⟨"CellTrays", "dropTray", "(I)V"⟩, 16), (⟨"CellTrays", "wastedBy", "(I)I"⟩, 16), (⟨"CellTrays", "traysOf", "(I)I"⟩, 16), (⟨"CellTrays", "thingsOf", "(I)I"⟩, 16), (⟨"CellTrays", "thingsThere", "()I"⟩, 16), (⟨"CellTrays", "requireWhat", "(II)V"⟩, 16), (⟨"java/lang/Throwable", "fillInStackTrace", "(I)Ljava/lang/Throwable;"⟩, 6), (⟨"CellTrays", "wastedInAll", "()I"⟩, 16), (⟨"CellTrays", "requireKind", "(I)V"⟩, 16), (⟨"CellTrays", "traysHolding", "(II)I"⟩, 16), (⟨"CellTrays", "freeCellsOf", "(I)I"⟩, 16), (⟨"CellTrays", "digestPlace", "(JI)J"⟩, 16), (⟨"CellTrays", "requirePlace", "(I)V"⟩, 16), (⟨"CellTrays", "cellsAt", "(I)I"⟩, 16), (⟨"CellTrays", "placeFor", "(I)I"⟩, 16), (⟨"CellTrays", "mostPartly", "(I)I"⟩, 16)]
theorem lw_r1 : ∀ q ∈ lw_privs_1, lw_okq q := List.forall_mem_cons.mpr ⟨lw_p0, List.forall_mem_cons.mpr ⟨lw_p1, List.forall_mem_cons.mpr ⟨lw_p2, List.forall_mem_cons.mpr ⟨lw_p3, List.forall_mem_cons.mpr ⟨lw_p4, List.forall_mem_cons.mpr ⟨lw_p5, List.forall_mem_cons.mpr ⟨lw_p6, List.forall_mem_cons.mpr ⟨lw_p7, List.forall_mem_cons.mpr ⟨lw_p8, List.forall_mem_cons.mpr ⟨lw_p9, List.forall_mem_cons.mpr ⟨lw_p10, List.forall_mem_cons.mpr ⟨lw_p11, List.forall_mem_cons.mpr ⟨lw_p12, List.forall_mem_cons.mpr ⟨lw_p13, List.forall_mem_cons.mpr ⟨lw_p14, List.forall_mem_cons.mpr ⟨lw_p15, fun _ h => absurd h List.not_mem_nil⟩⟩⟩⟩⟩⟩⟩⟩⟩⟩⟩⟩⟩⟩⟩⟩
theorem lw_p16 : lw_okq (⟨"CellTrays", "isPartly", "(II)Z"⟩, 16) := ⟨⟨by decide +kernel, by decide +kernel⟩, List.mem_of_getElem? (i := 10) (by decide +kernel), List.mem_of_getElem? (i := 279) (by decide +kernel), List.mem_of_getElem? (i := 280) (by decide +kernel)⟩
theorem lw_p17 : lw_okq (⟨"CellTrays", "firstEmpty", "(I)I"⟩, 16) := ⟨⟨by decide +kernel, by decide +kernel⟩, List.mem_of_getElem? (i := 10) (by decide +kernel), List.mem_of_getElem? (i := 283) (by decide +kernel), List.mem_of_getElem? (i := 284) (by decide +kernel)⟩
theorem lw_p18 : lw_okq (⟨"CellTrays", "firstBare", "()I"⟩, 16) := ⟨⟨by decide +kernel, by decide +kernel⟩, List.mem_of_getElem? (i := 10) (by decide +kernel), List.mem_of_getElem? (i := 287) (by decide +kernel), List.mem_of_getElem? (i := 288) (by decide +kernel)⟩
theorem lw_p19 : lw_okq (⟨"CellTrays", "addTray", "(II)V"⟩, 16) := ⟨⟨by decide +kernel, by decide +kernel⟩, List.mem_of_getElem? (i := 10) (by decide +kernel), List.mem_of_getElem? (i := 292) (by decide +kernel), List.mem_of_getElem? (i := 293) (by decide +kernel)⟩
theorem lw_p20 : lw_okq (⟨"CellTrays", "layIn", "(II)V"⟩, 16) := ⟨⟨by decide +kernel, by decide +kernel⟩, List.mem_of_getElem? (i := 10) (by decide +kernel), List.mem_of_getElem? (i := 296) (by decide +kernel), List.mem_of_getElem? (i := 297) (by decide +kernel)⟩
theorem lw_p21 : lw_okq (⟨"CellTrays", "requireThing", "(I)V"⟩, 16) := ⟨⟨by decide +kernel, by decide +kernel⟩, List.mem_of_getElem? (i := 10) (by decide +kernel), List.mem_of_getElem? (i := 307) (by decide +kernel), List.mem_of_getElem? (i := 308) (by decide +kernel)⟩
theorem lw_p22 : lw_okq (⟨"CellTrays", "liftOut", "(I)V"⟩, 16) := ⟨⟨by decide +kernel, by decide +kernel⟩, List.mem_of_getElem? (i := 10) (by decide +kernel), List.mem_of_getElem? (i := 313) (by decide +kernel), List.mem_of_getElem? (i := 314) (by decide +kernel)⟩
theorem lw_p23 : lw_okq (⟨"CellTrays", "leastPartly", "(I)I"⟩, 16) := ⟨⟨by decide +kernel, by decide +kernel⟩, List.mem_of_getElem? (i := 10) (by decide +kernel), List.mem_of_getElem? (i := 324) (by decide +kernel), List.mem_of_getElem? (i := 325) (by decide +kernel)⟩
theorem lw_p24 : lw_okq (⟨"CellTrays", "moveLast", "(II)V"⟩, 16) := ⟨⟨by decide +kernel, by decide +kernel⟩, List.mem_of_getElem? (i := 10) (by decide +kernel), List.mem_of_getElem? (i := 328) (by decide +kernel), List.mem_of_getElem? (i := 329) (by decide +kernel)⟩
theorem lw_p25 : lw_okq (⟨"CellTraysModel", "no", "(I)I"⟩, 15) := ⟨⟨by decide +kernel, by decide +kernel⟩, List.mem_of_getElem? (i := 380) (by decide +kernel), List.mem_of_getElem? (i := 443) (by decide +kernel), List.mem_of_getElem? (i := 444) (by decide +kernel)⟩
theorem lw_p26 : lw_okq (⟨"CellTraysModel", "isKind", "(I)Z"⟩, 15) := ⟨⟨by decide +kernel, by decide +kernel⟩, List.mem_of_getElem? (i := 380) (by decide +kernel), List.mem_of_getElem? (i := 451) (by decide +kernel), List.mem_of_getElem? (i := 452) (by decide +kernel)⟩
theorem lw_p27 : lw_okq (⟨"CellTraysModel", "goesTo", "(I)I"⟩, 15) := ⟨⟨by decide +kernel, by decide +kernel⟩, List.mem_of_getElem? (i := 380) (by decide +kernel), List.mem_of_getElem? (i := 455) (by decide +kernel), List.mem_of_getElem? (i := 456) (by decide +kernel)⟩
theorem lw_p28 : lw_okq (⟨"CellTraysModel", "fullest", "(I)I"⟩, 15) := ⟨⟨by decide +kernel, by decide +kernel⟩, List.mem_of_getElem? (i := 380) (by decide +kernel), List.mem_of_getElem? (i := 459) (by decide +kernel), List.mem_of_getElem? (i := 460) (by decide +kernel)⟩
theorem lw_p29 : lw_okq (⟨"CellTraysModel", "isPartly", "(II)Z"⟩, 15) := ⟨⟨by decide +kernel, by decide +kernel⟩, List.mem_of_getElem? (i := 380) (by decide +kernel), List.mem_of_getElem? (i := 463) (by decide +kernel), List.mem_of_getElem? (i := 464) (by decide +kernel)⟩
theorem lw_p30 : lw_okq (⟨"CellTraysModel", "cells", "(I)I"⟩, 15) := ⟨⟨by decide +kernel, by decide +kernel⟩, List.mem_of_getElem? (i := 380) (by decide +kernel), List.mem_of_getElem? (i := 467) (by decide +kernel), List.mem_of_getElem? (i := 468) (by decide +kernel)⟩
theorem lw_p31 : lw_okq (⟨"CellTraysModel", "firstEmpty", "(I)I"⟩, 15) := ⟨⟨by decide +kernel, by decide +kernel⟩, List.mem_of_getElem? (i := 380) (by decide +kernel), List.mem_of_getElem? (i := 471) (by decide +kernel), List.mem_of_getElem? (i := 472) (by decide +kernel)⟩
def lw_privs_2 : List (MethodName × Nat) := [(⟨"CellTrays", "isPartly", "(II)Z"⟩, 16), (⟨"CellTrays", "firstEmpty", "(I)I"⟩, 16), (⟨"CellTrays", "firstBare", "()I"⟩, 16), (⟨"CellTrays", "addTray", "(II)V"⟩, 16), (⟨"CellTrays", "layIn", "(II)V"⟩, 16), (⟨"CellTrays", "requireThing", "(I)V"⟩, 16), (⟨"CellTrays", "liftOut", "(I)V"⟩, 16), (⟨"CellTrays", "leastPartly", "(I)I"⟩, 16), (⟨"CellTrays", "moveLast", "(II)V"⟩, 16), (⟨"CellTraysModel", "no", "(I)I"⟩, 15), (⟨"CellTraysModel", "isKind", "(I)Z"⟩, 15), (⟨"CellTraysModel", "goesTo", "(I)I"⟩, 15), (⟨"CellTraysModel", "fullest", "(I)I"⟩, 15), (⟨"CellTraysModel", "isPartly", "(II)Z"⟩, 15), (⟨"CellTraysModel", "cells", "(I)I"⟩, 15), (⟨"CellTraysModel", "firstEmpty", "(I)I"⟩, 15)]
theorem lw_r2 : ∀ q ∈ lw_privs_2, lw_okq q := List.forall_mem_cons.mpr ⟨lw_p16, List.forall_mem_cons.mpr ⟨lw_p17, List.forall_mem_cons.mpr ⟨lw_p18, List.forall_mem_cons.mpr ⟨lw_p19, List.forall_mem_cons.mpr ⟨lw_p20, List.forall_mem_cons.mpr ⟨lw_p21, List.forall_mem_cons.mpr ⟨lw_p22, List.forall_mem_cons.mpr ⟨lw_p23, List.forall_mem_cons.mpr ⟨lw_p24, List.forall_mem_cons.mpr ⟨lw_p25, List.forall_mem_cons.mpr ⟨lw_p26, List.forall_mem_cons.mpr ⟨lw_p27, List.forall_mem_cons.mpr ⟨lw_p28, List.forall_mem_cons.mpr ⟨lw_p29, List.forall_mem_cons.mpr ⟨lw_p30, List.forall_mem_cons.mpr ⟨lw_p31, fun _ h => absurd h List.not_mem_nil⟩⟩⟩⟩⟩⟩⟩⟩⟩⟩⟩⟩⟩⟩⟩⟩
theorem lw_p32 : lw_okq (⟨"CellTraysModel", "isEmpty", "(II)Z"⟩, 15) := ⟨⟨by decide +kernel, by decide +kernel⟩, List.mem_of_getElem? (i := 380) (by decide +kernel), List.mem_of_getElem? (i := 475) (by decide +kernel), List.mem_of_getElem? (i := 476) (by decide +kernel)⟩
theorem lw_p33 : lw_okq (⟨"CellTraysModel", "firstFree", "()I"⟩, 15) := ⟨⟨by decide +kernel, by decide +kernel⟩, List.mem_of_getElem? (i := 380) (by decide +kernel), List.mem_of_getElem? (i := 479) (by decide +kernel), List.mem_of_getElem? (i := 480) (by decide +kernel)⟩
theorem lw_p34 : lw_okq (⟨"CellTraysModel", "open", "(II)V"⟩, 15) := ⟨⟨by decide +kernel, by decide +kernel⟩, List.mem_of_getElem? (i := 380) (by decide +kernel), List.mem_of_getElem? (i := 483) (by decide +kernel), List.mem_of_getElem? (i := 484) (by decide +kernel)⟩
theorem lw_p35 : lw_okq (⟨"CellTraysModel", "freeCell", "(I)I"⟩, 15) := ⟨⟨by decide +kernel, by decide +kernel⟩, List.mem_of_getElem? (i := 380) (by decide +kernel), List.mem_of_getElem? (i := 487) (by decide +kernel), List.mem_of_getElem? (i := 488) (by decide +kernel)⟩
theorem lw_p36 : lw_okq (⟨"CellTraysModel", "lay", "(III)V"⟩, 15) := ⟨⟨by decide +kernel, by decide +kernel⟩, List.mem_of_getElem? (i := 380) (by decide +kernel), List.mem_of_getElem? (i := 491) (by decide +kernel), List.mem_of_getElem? (i := 492) (by decide +kernel)⟩
theorem lw_p37 : lw_okq (⟨"CellTraysModel", "isThing", "(I)Z"⟩, 15) := ⟨⟨by decide +kernel, by decide +kernel⟩, List.mem_of_getElem? (i := 380) (by decide +kernel), List.mem_of_getElem? (i := 499) (by decide +kernel), List.mem_of_getElem? (i := 500) (by decide +kernel)⟩
theorem lw_p38 : lw_okq (⟨"CellTraysModel", "lift", "(I)V"⟩, 15) := ⟨⟨by decide +kernel, by decide +kernel⟩, List.mem_of_getElem? (i := 380) (by decide +kernel), List.mem_of_getElem? (i := 503) (by decide +kernel), List.mem_of_getElem? (i := 504) (by decide +kernel)⟩
theorem lw_p39 : lw_okq (⟨"CellTraysModel", "empties", "(I)I"⟩, 15) := ⟨⟨by decide +kernel, by decide +kernel⟩, List.mem_of_getElem? (i := 380) (by decide +kernel), List.mem_of_getElem? (i := 507) (by decide +kernel), List.mem_of_getElem? (i := 508) (by decide +kernel)⟩
theorem lw_p40 : lw_okq (⟨"CellTraysModel", "close", "(I)V"⟩, 15) := ⟨⟨by decide +kernel, by decide +kernel⟩, List.mem_of_getElem? (i := 380) (by decide +kernel), List.mem_of_getElem? (i := 511) (by decide +kernel), List.mem_of_getElem? (i := 512) (by decide +kernel)⟩
theorem lw_p41 : lw_okq (⟨"CellTraysModel", "leanest", "(I)I"⟩, 15) := ⟨⟨by decide +kernel, by decide +kernel⟩, List.mem_of_getElem? (i := 380) (by decide +kernel), List.mem_of_getElem? (i := 523) (by decide +kernel), List.mem_of_getElem? (i := 524) (by decide +kernel)⟩
theorem lw_p42 : lw_okq (⟨"CellTraysModel", "lastThing", "(I)I"⟩, 15) := ⟨⟨by decide +kernel, by decide +kernel⟩, List.mem_of_getElem? (i := 380) (by decide +kernel), List.mem_of_getElem? (i := 527) (by decide +kernel), List.mem_of_getElem? (i := 528) (by decide +kernel)⟩
theorem lw_p43 : lw_okq (⟨"CellTraysModel", "thingTold", "(II)I"⟩, 15) := ⟨⟨by decide +kernel, by decide +kernel⟩, List.mem_of_getElem? (i := 380) (by decide +kernel), List.mem_of_getElem? (i := 535) (by decide +kernel), List.mem_of_getElem? (i := 536) (by decide +kernel)⟩
theorem lw_p44 : lw_okq (⟨"CellTraysModel", "trayTold", "(II)I"⟩, 15) := ⟨⟨by decide +kernel, by decide +kernel⟩, List.mem_of_getElem? (i := 380) (by decide +kernel), List.mem_of_getElem? (i := 543) (by decide +kernel), List.mem_of_getElem? (i := 544) (by decide +kernel)⟩
theorem lw_p45 : lw_okq (⟨"CellTraysModel", "wasted", "(I)I"⟩, 15) := ⟨⟨by decide +kernel, by decide +kernel⟩, List.mem_of_getElem? (i := 380) (by decide +kernel), List.mem_of_getElem? (i := 547) (by decide +kernel), List.mem_of_getElem? (i := 548) (by decide +kernel)⟩
theorem lw_p46 : lw_okq (⟨"CellTraysModel", "kindTold", "(II)I"⟩, 15) := ⟨⟨by decide +kernel, by decide +kernel⟩, List.mem_of_getElem? (i := 380) (by decide +kernel), List.mem_of_getElem? (i := 559) (by decide +kernel), List.mem_of_getElem? (i := 560) (by decide +kernel)⟩
theorem lw_p47 : lw_okq (⟨"CellTraysModel", "trays", "(I)I"⟩, 15) := ⟨⟨by decide +kernel, by decide +kernel⟩, List.mem_of_getElem? (i := 380) (by decide +kernel), List.mem_of_getElem? (i := 563) (by decide +kernel), List.mem_of_getElem? (i := 564) (by decide +kernel)⟩
def lw_privs_3 : List (MethodName × Nat) := [(⟨"CellTraysModel", "isEmpty", "(II)Z"⟩, 15), (⟨"CellTraysModel", "firstFree", "()I"⟩, 15), (⟨"CellTraysModel", "open", "(II)V"⟩, 15), (⟨"CellTraysModel", "freeCell", "(I)I"⟩, 15), (⟨"CellTraysModel", "lay", "(III)V"⟩, 15), (⟨"CellTraysModel", "isThing", "(I)Z"⟩, 15), (⟨"CellTraysModel", "lift", "(I)V"⟩, 15), (⟨"CellTraysModel", "empties", "(I)I"⟩, 15), (⟨"CellTraysModel", "close", "(I)V"⟩, 15), (⟨"CellTraysModel", "leanest", "(I)I"⟩, 15), (⟨"CellTraysModel", "lastThing", "(I)I"⟩, 15), (⟨"CellTraysModel", "thingTold", "(II)I"⟩, 15), (⟨"CellTraysModel", "trayTold", "(II)I"⟩, 15), (⟨"CellTraysModel", "wasted", "(I)I"⟩, 15), (⟨"CellTraysModel", "kindTold", "(II)I"⟩, 15), (⟨"CellTraysModel", "trays", "(I)I"⟩, 15)]
theorem lw_r3 : ∀ q ∈ lw_privs_3, lw_okq q := List.forall_mem_cons.mpr ⟨lw_p32, List.forall_mem_cons.mpr ⟨lw_p33, List.forall_mem_cons.mpr ⟨lw_p34, List.forall_mem_cons.mpr ⟨lw_p35, List.forall_mem_cons.mpr ⟨lw_p36, List.forall_mem_cons.mpr ⟨lw_p37, List.forall_mem_cons.mpr ⟨lw_p38, List.forall_mem_cons.mpr ⟨lw_p39, List.forall_mem_cons.mpr ⟨lw_p40, List.forall_mem_cons.mpr ⟨lw_p41, List.forall_mem_cons.mpr ⟨lw_p42, List.forall_mem_cons.mpr ⟨lw_p43, List.forall_mem_cons.mpr ⟨lw_p44, List.forall_mem_cons.mpr ⟨lw_p45, List.forall_mem_cons.mpr ⟨lw_p46, List.forall_mem_cons.mpr ⟨lw_p47, fun _ h => absurd h List.not_mem_nil⟩⟩⟩⟩⟩⟩⟩⟩⟩⟩⟩⟩⟩⟩⟩⟩
theorem lw_p48 : lw_okq (⟨"CellTraysModel", "full", "(I)I"⟩, 15) := ⟨⟨by decide +kernel, by decide +kernel⟩, List.mem_of_getElem? (i := 380) (by decide +kernel), List.mem_of_getElem? (i := 567) (by decide +kernel), List.mem_of_getElem? (i := 568) (by decide +kernel)⟩
theorem lw_p49 : lw_okq (⟨"CellTraysModel", "lying", "(I)I"⟩, 15) := ⟨⟨by decide +kernel, by decide +kernel⟩, List.mem_of_getElem? (i := 380) (by decide +kernel), List.mem_of_getElem? (i := 571) (by decide +kernel), List.mem_of_getElem? (i := 572) (by decide +kernel)⟩
theorem lw_p50 : lw_okq (⟨"CellTraysModel", "counted", "(I)I"⟩, 15) := ⟨⟨by decide +kernel, by decide +kernel⟩, List.mem_of_getElem? (i := 380) (by decide +kernel), List.mem_of_getElem? (i := 579) (by decide +kernel), List.mem_of_getElem? (i := 580) (by decide +kernel)⟩
def lw_privs_4 : List (MethodName × Nat) := [(⟨"CellTraysModel", "full", "(I)I"⟩, 15), (⟨"CellTraysModel", "lying", "(I)I"⟩, 15), (⟨"CellTraysModel", "counted", "(I)I"⟩, 15)]
theorem lw_r4 : ∀ q ∈ lw_privs_4, lw_okq q := List.forall_mem_cons.mpr ⟨lw_p48, List.forall_mem_cons.mpr ⟨lw_p49, List.forall_mem_cons.mpr ⟨lw_p50, fun _ h => absurd h List.not_mem_nil⟩⟩⟩
def lw_privs : List (MethodName × Nat) := lw_privs_1 ++ (lw_privs_2 ++ (lw_privs_3 ++ (lw_privs_4)))
def lw_tbl : List Cond := k2_sels lw_privs ++ tables_1
theorem lw_privs_ok : ∀ q ∈ lw_privs, lw_okq q := by
  show ∀ q ∈ lw_privs_1 ++ (lw_privs_2 ++ (lw_privs_3 ++ (lw_privs_4))), lw_okq q
  exact List.forall_mem_append.mpr ⟨lw_r1, List.forall_mem_append.mpr ⟨lw_r2, List.forall_mem_append.mpr ⟨lw_r3, lw_r4⟩⟩⟩
/-- the streams that the claim lets the run draw from -/
abbrev lw_cs : List Choice := [Jvm.Choice.named "NaN.bits"]
theorem lw_bits : nanBits ∈ lw_cs := by first | decide | exact List.mem_cons_self | simp [lw_cs, nanBits]
end
section
/-! ===== BEGIN words of one list among another's, by their places ===== -/
theorem goodIn_r {big : List Cond} (ws : List Cond) (ps : List Nat) (hp : ws = ps.filterMap (fun i => big[i]?)) (h : ws.all goodWord = true) : GoodIn big ws := by
  intro w hw
  have h1 := List.all_eq_true.mp h w hw
  rw [hp] at hw
  obtain ⟨i, -, hi⟩ := List.mem_filterMap.mp hw
  have hm : w ∈ big := by first | exact List.mem_of_getElem? hi | exact List.getElem?_mem hi
  exact ⟨hm, good_of_word h1⟩
theorem goodIn_app {big a b : List Cond} (ha : GoodIn big a) (hb : GoodIn big b) : GoodIn big (a ++ b) := fun w h => (List.mem_append.mp h).elim (ha w) (hb w)
theorem goodIn_ca {big a b : List Cond} {c : Cond} (ha : GoodIn big (c :: a)) (hb : GoodIn big b) : GoodIn big (c :: (a ++ b)) := fun w h => (List.mem_cons.mp h).elim (fun e => ha w (List.mem_cons.mpr (Or.inl e))) (fun h => (List.mem_append.mp h).elim (fun h => ha w (List.mem_cons.mpr (Or.inr h))) (hb w))
theorem goodIn_sub {big ws : List Cond} (hm : ∀ w ∈ ws, w ∈ big) (h : ws.all goodWord = true) : GoodIn big ws := fun w hw => ⟨hm w hw, good_of_word (List.all_eq_true.mp h w hw)⟩
/-! ===== END ===== -/

/-! ===== BEGIN exceptions that leave a method, and their catching by the caller (launches without stack traces) ===== -/
section VXA
/-! The laws vx_back, vx_callV, vx_callS, vx_callSW, vx_throw0, vx_throwS follow proofs of the library, with one case more: JvmDerived/Free/Laws.lean (Back.of_free), Shelf42/LK1.lean (callV, callS), Shelf/KitTraced.lean (throwNew0V, throwNewS). -/
/-- where a method has thrown q: the class by its name, the cell, what was written, the world -/
def vx_T (XC : String → State → State → Prop) (st : State) (q : Addr) (t : State) (mc ms : Nat) (free : Addr → Prop) : Prop :=
  ∃ (E : String) (ce : Cell) (L : List Loc), XC E st t ∧ t.heap[q]? = some ce ∧ ce.vm = .none ∧ st.vm.findClass E = some ce.cls ∧ st.WarmedH t.vm ∧ st.sameButNew ({ t with vm := st.vm } : State) L mc ms ∧ ∀ z ∈ L, free z.base
def vx_Q (Qc : Array Value → State → Outcome → State → Prop) (XC : String → State → State → Prop) (mc ms : Nat) (free : Addr → Prop) : Array Value → State → Outcome → State → Prop := fun a st o t =>
  (Qc a st o t ∧ ∃ L, FrameEnd st o t L mc ms ∧ ∀ q ∈ L, free q.base) ∨ ∃ q, o = .threw q ∧ vx_T XC st q t mc ms free
/-- a callee that returns or throws -/
def vx_Met (l : Launch) (y : MethodName) (ws : List Cond) (rm : Room) (Pc : Array Value → State → Prop) (Qc : Array Value → State → Outcome → State → Prop) (XC : String → State → State → Prop) (mc ms : Nat) (free : Addr → Prop) : Prop :=
  MetFree l y (headSpec ws rm) Pc (fun _ _ _ _ _ => True) (vx_Q Qc XC mc ms free)
def vx_Post (XC : String → State → State → Prop) (mc ms : Nat) (free : Addr → Prop) : Pt → Array Value → Addr → Pt → Prop := fun A a q B =>
  ∃ (g : JFrame) (mk : MethodId) (t : State) (L : List Loc) (E : String) (ce : Cell), B.U.heap = t.heap ∧ B.U.vm = t.vm ∧ XC E (A.U.calling g mk a) t ∧ t.heap[q]? = some ce ∧ ce.vm = .none ∧ A.U.vm.findClass E = some ce.cls ∧ B.locs = A.locs ++ L ∧ (∀ z ∈ L, free z.base) ∧ B.cells = A.cells + mc ∧ B.slots = A.slots + ms
def vx_Back (l : Launch) (R : Room) (p : Program) (e : Env) (below : List Frame) (s : State) (sargs : Array Value) (y : MethodName) (len W9 : Nat)
    (Pre : Pt → Array Value → Prop) (Post : Pt → Array Value → Option Value → Pt → Prop) (PostX : Pt → Array Value → Addr → Pt → Prop) : Prop :=
  ∀ (m : MethodId) (meth : Method) (c : Code) (A : Pt) (g : JFrame) (ig : Instr) (mk : MethodId) (a : Array Value),
    Stand p l e R s m sargs below meth c A.U A.locs A.cells A.slots → g.method = m → g.locals.size = c.maxLocals → decode c.code g.pc = .ok (ig, len) →
    2 * g.monitorRoom + (g.stack.map fun v => v.category).sum ≤ W9 → A.U.methodNamed? y = some mk → Pre A a →
    (∃ (v : Option Value) (B : Pt), Stand p l e R s m sargs below meth c B.U B.locs B.cells B.slots ∧ Post A a v B ∧
      Steps p.tables e below (doInvoke e (A.U.setTop g) [] mk a).1 (B.U.setTop { g with pc := g.pc + len, stack := v.toList ++ g.stack })) ∨
    (∃ (q : Addr) (B : Pt), Stand p l e R s m sargs below meth c B.U B.locs B.cells B.slots ∧ PostX A a q B ∧
      Steps p.tables e below (doInvoke e (A.U.setTop g) [] mk a).1 ((B.U.setTop g).pushFrame (.throwing q)))
section Payer
variable {l : Launch} {R : Room} {p : Program} {e : Env} {below : List Frame} {s : State} {sargs : Array Value} {y : MethodName} {len W9 : Nat}
theorem vx_back {ws : List Cond} {rm : Room} {Pc : Array Value → State → Prop} {Qc : Array Value → State → Outcome → State → Prop} {XC : String → State → State → Prop} {mc ms : Nat} {free : Addr → Prop} {bytes : ByteArray} {maxL : Nat} {ret : Option FieldType}
    (hM : vx_Met l y ws rm Pc Qc XC mc ms free) (hblind : FrameBlind Pc) (hrc : rm.cells = mc) (hrs : rm.slots = ms)
    (hframes : rm.frames + 1 ≤ R.frames) (hlocals : W9 + (maxL + 11) + rm.locals ≤ R.locals)
    (hws : ∀ w ∈ ws, ∀ a' U, s.WarmedH U.vm → w.before a' U = true) (hcode : Cond.code y bytes maxL ret ∈ ws) (hinit : ∀ a' U, s.WarmedH U.vm → (Cond.initialized y.cls).before a' U = true) :
    vx_Back l R p e below s sargs y len W9 (PreOf R mc ms Pc) (PostOf Qc mc ms free) (vx_Post XC mc ms free) := by
  intro m meth c A g ig mk a X hg hsize hdg hW hn hp
  have h1 : (headSpec ws rm).pre.before a A.U = true := atoms_intro fun w hw => hws w hw _ _ X.warmed
  have h2 : (Cond.code y bytes maxL ret).before a A.U = true := hws _ hcode _ _ X.warmed
  have h3 : (Cond.initialized y.cls).before a A.U = true := hinit _ _ X.warmed
  have h4 : A.cells + (headSpec ws rm).room.cells ≤ R.cells := by rw [show (headSpec ws rm).room.cells = mc from hrc]; exact hp.1
  have h5 : A.slots + (headSpec ws rm).room.slots ≤ R.slots := by rw [show (headSpec ws rm).room.slots = ms from hrs]; exact hp.2.1
  have hPc : Pc a (A.U.calling g mk a) := hblind _ _ _ _ hp.2.2
  obtain ⟨U, Ls, c0, s0⟩ := A
  dsimp only [Pt.U, Pt.locs, Pt.cells, Pt.slots] at h1 h2 h3 h4 h5 X hn hPc ⊢
  obtain ⟨methY, cY, hmY, hcY, -, hlY, -, -, -, -⟩ := Cond.code_spec hn h2
  obtain ⟨kY, hkY, -⟩ := className_of_methodNamed hn
  have hinitY : kY.init = .initialized := Cond.initialized_spec (findClass_of_methodNamed hn) hkY h3
  have h : At U g.method c below := by rw [hg]; exact X.here
  have hlocals9 : W9 + (maxL + 11) + (headSpec ws rm).room.locals ≤ R.locals := hlocals
  have happ : (headSpec ws rm).appliesLoose y e.platform (U.calling g mk a) = true :=
    Spec.appliesLoose_calling (g := g) h hdg hn hkY hinitY
      (X.room_calling (g := g) (R' := (headSpec ws rm).room) hsize hmY hcY hframes (by rw [hlY]; omega) h4 h5) h1
  obtain ⟨mid, hmid⟩ := h.above
  have hfr : (U.setTop g).frames = (.java g :: mid) ++ below := by rw [State.frames_setTop' g h.top, hmid]; rfl
  obtain ⟨o, s₂, hsteps, -, hend, hq⟩ := Steps.callFree hM p X.admits X.cas X.clock (acts := []) hfr happ hPc trivial
  have hq' : vx_Q Qc XC mc ms free a (U.calling g mk a) o s₂ := hq
  rw [State.frames_setTop' g h.top] at hend
  obtain ⟨g₀, hg0⟩ := Option.isSome_iff_exists.mp h.top
  obtain ⟨r, hr⟩ := State.topJava?_eq_some.mp hg0
  have hr' : (({ U with heap := s₂.heap, slotsUsed := s₂.slotsUsed } : State).setVm s₂.vm).frames = .java g₀ :: r := hr
  rcases hq' with ⟨hqc, L, hfe, hL⟩ | ⟨q, rfl, E, ce, L, hx, hce, hcv, hcl, hW₂, hsm, hL⟩
  · obtain ⟨⟨v, rfl⟩, hW₂, e2, q2, q3, q4, q5, q6⟩ := id hfe
    have e3 : s₂ = ({ (U.calling g mk a).setFrames s₂.frames with heap := s₂.heap, slotsUsed := s₂.slotsUsed } : State).setVm s₂.vm := by
      have : s₂ = ({ s₂ with vm := (U.calling g mk a).vm } : State).setVm s₂.vm := rfl
      rw [e2] at this
      exact this
    obtain ⟨c₂, i₂, len₂, hc₂, hd₂, hf₂⟩ := hend
    have hW' : U.WarmedH s₂.vm := hW₂
    have hcc : c₂ = c := by
      have h1 : s₂.code? g.method = U.code? g.method := by
        rw [State.code?_eq, State.code?_eq, hW'.alike.method?]
      exact Option.some.inj (hc₂.symm.trans (h1.trans h.code))
    subst hcc
    have hlen : len₂ = len := by rw [hdg] at hd₂; cases hd₂; rfl
    subst hlen
    have hs₂ : s₂ = (({ U with heap := s₂.heap, slotsUsed := s₂.slotsUsed } : State).setVm s₂.vm).setTop { g with pc := g.pc + len₂, stack := v.toList ++ g.stack } := by
      refine e3.trans ?_
      rw [hf₂, State.calling_eq h.top, State.setFrames_setFrames, State.setTop_of_frames _ hr', hr]
      rfl
    have hsame : U.sameButNew ({ U with heap := s₂.heap, slotsUsed := s₂.slotsUsed } : State) L mc ms := by
      refine ⟨?_, q2, q3, q4, q5, q6⟩
      obtain ⟨t, ht, -⟩ := State.frames_cons hr
      show ({ U with heap := s₂.heap, slotsUsed := s₂.slotsUsed } : State) = { U.setFrames U.frames with heap := s₂.heap, slotsUsed := s₂.slotsUsed }
      rw [State.setFrames_self ht]
    subst hg
    refine Or.inl ⟨v, ⟨(({ U with heap := s₂.heap, slotsUsed := s₂.slotsUsed } : State).setVm s₂.vm), Ls ++ L, c0 + mc, s0 + ms⟩,
      ⟨X.admits, X.cas, X.clock, X.frames, X.room, X.hears, X.method, X.code, (X.here.setHeapUsed s₂.heap s₂.slotsUsed).setVm hW'.alike, X.tail, State.WarmedH.trans X.warmed hW', X.limits, X.bytes, X.same.trans (hsame.setVm s.vm)⟩,
      ⟨g, mk, s₂, L, rfl, rfl, hqc, rfl, hL, rfl, rfl⟩, ?_⟩
    show Steps p.tables e below _ ((({ U with heap := s₂.heap, slotsUsed := s₂.slotsUsed } : State).setVm s₂.vm).setTop { g with pc := g.pc + len₂, stack := v.toList ++ g.stack })
    rw [← hs₂]
    exact hsteps
  · obtain ⟨e2, q2, q3, q4, q5, q6⟩ := id hsm
    have e3 : s₂ = ({ (U.calling g mk a).setFrames s₂.frames with heap := s₂.heap, slotsUsed := s₂.slotsUsed } : State).setVm s₂.vm := by
      have : s₂ = ({ s₂ with vm := (U.calling g mk a).vm } : State).setVm s₂.vm := rfl
      rw [e2] at this
      exact this
    have hf₂ : s₂.frames = .throwing q :: .java g :: U.frames.tail := hend
    have hW' : U.WarmedH s₂.vm := hW₂
    have hs₂ : s₂ = ((({ U with heap := s₂.heap, slotsUsed := s₂.slotsUsed } : State).setVm s₂.vm).setTop g).pushFrame (.throwing q) := by
      refine e3.trans ?_
      rw [hf₂, State.calling_eq h.top, State.setFrames_setFrames, State.pushFrame, State.frames_setTop _ hr', State.setTop_of_frames _ hr', State.setFrames_setFrames, hr]
      rfl
    have hsame : U.sameButNew ({ U with heap := s₂.heap, slotsUsed := s₂.slotsUsed } : State) L mc ms := by
      refine ⟨?_, q2, q3, q4, q5, q6⟩
      obtain ⟨t, ht, -⟩ := State.frames_cons hr
      show ({ U with heap := s₂.heap, slotsUsed := s₂.slotsUsed } : State) = { U.setFrames U.frames with heap := s₂.heap, slotsUsed := s₂.slotsUsed }
      rw [State.setFrames_self ht]
    subst hg
    refine Or.inr ⟨q, ⟨(({ U with heap := s₂.heap, slotsUsed := s₂.slotsUsed } : State).setVm s₂.vm), Ls ++ L, c0 + mc, s0 + ms⟩,
      ⟨X.admits, X.cas, X.clock, X.frames, X.room, X.hears, X.method, X.code, (X.here.setHeapUsed s₂.heap s₂.slotsUsed).setVm hW'.alike, X.tail, State.WarmedH.trans X.warmed hW', X.limits, X.bytes, X.same.trans (hsame.setVm s.vm)⟩,
      ⟨g, mk, s₂, L, E, ce, rfl, rfl, hx, hce, hcv, hcl, rfl, hL, rfl, rfl⟩, ?_⟩
    show Steps p.tables e below _ (((({ U with heap := s₂.heap, slotsUsed := s₂.slotsUsed } : State).setVm s₂.vm).setTop g).pushFrame (.throwing q))
    rw [← hs₂]
    exact hsteps
end Payer
section Calls
variable {p : Program} {l : Launch} {e : Env} {R : Room} {s : State} {m : MethodId} {args : Array Value} {below : List Frame} {meth : Method} {c : Code} {T : State} {locs : List Loc} {cells slots : Nat}
theorem vx_callV (X : Stand p l e R s m args below meth c T locs cells slots) (hexec : p.tables.exec = Jvm.exec) {own C : String} {index : Nat} {y : MethodName} {bytes : ByteArray} {maxL : Nat} {ret : Option FieldType}
    (hown : s.vm.findClass own = some m.cls) (hlink : (Cond.methodLink own index y).before args s = true) (hinst : (Cond.instanceMethod y).before args s = true) (hsel : (Cond.selects C y y).before args s = true)
    (hcode : (Cond.code y bytes maxL ret).before args s = true) (hy : y.cls ≠ "java/lang/invoke/MethodHandle" ∧ y.cls ≠ "java/lang/invoke/VarHandle")
    {W9 : Nat} {Pre : Pt → Array Value → Prop} {Post : Pt → Array Value → Option Value → Pt → Prop} {PostX : Pt → Array Value → Addr → Pt → Prop} (hK : vx_Back l R p e below s args y 3 W9 Pre Post PostX)
    {b : Addr} {cellB : Cell} (hcell : T.heap[b]? = some cellB) (hobj : cellB.vm.isStatics = false) (hcls : s.vm.findClass C = some cellB.cls)
    {g : JFrame} (hg : g.method = m) (hsize : g.locals.size = c.maxLocals) {argsL rest : List Value} (hlen : ∀ sig, parseMethodDescriptor y.desc = some sig → argsL.length = sig.parameters.length)
    (hstack : g.stack = argsL.reverse ++ .ref b :: rest) (hW : 2 * g.monitorRoom + (rest.map fun v => v.category).sum ≤ W9) (hdg : decode c.code g.pc = .ok (.invokevirtual index, 3))
    (hpre : ∀ vm₁, s.WarmedH vm₁ → Pre ⟨T.setVm vm₁, locs, cells, slots⟩ (Value.ref b :: argsL).toArray) :
    (∃ (v : Option Value) (vm₁ : Vm) (B : Pt), s.WarmedH vm₁ ∧ Stand p l e R s m args below meth c B.U B.locs B.cells B.slots ∧ Post ⟨T.setVm vm₁, locs, cells, slots⟩ (Value.ref b :: argsL).toArray v B ∧
      ∀ target, Steps p.tables e below (B.U.setTop { g with pc := g.pc + 3, stack := v.toList ++ rest }) target → Steps p.tables e below (T.setTop g) target) ∨
    (∃ (q : Addr) (vm₁ : Vm) (B : Pt), s.WarmedH vm₁ ∧ Stand p l e R s m args below meth c B.U B.locs B.cells B.slots ∧ PostX ⟨T.setVm vm₁, locs, cells, slots⟩ (Value.ref b :: argsL).toArray q B ∧
      Steps p.tables e below (T.setTop g) ((B.U.setTop { g with stack := rest }).pushFrame (.throwing q))) := by
  obtain ⟨mk, methM, hnamed, hmethM, hstM, habM⟩ := Cond.instanceMethod_spec hinst
  obtain ⟨methM', cM, hmethM', -, -, -, -, -, -, hsigM⟩ := Cond.code_spec hnamed hcode
  cases hmethM.symm.trans hmethM'
  obtain ⟨c2, r2, m2, q1, q2, q3, q4, kP, hkP, hkPi⟩ := Cond.selects_spec hsel
  cases hcls.symm.trans q1
  cases (State.methodFound?_of_named hnamed hy).symm.trans q2
  cases hnamed.symm.trans q3
  have hselP : selectMethod e.platform s.vm cellB.cls mk = .method mk := by rw [Launch.admits_selectMethod X.admits]; exact q4
  obtain ⟨vm₁, X₁, hstep₁⟩ := X.invokevirtual hexec hown hlink hnamed hmethM hstM hkP hkPi hy (a := b) (cell := cellB) hcell
    (fun z h => by rw [h] at hobj; cases hobj) hselP hmethM habM hkP hkPi (g := g) hg (argsL := argsL) (rest := rest) (hlen _ hsigM) hstack hdg
  rcases hK m meth c ⟨T.setVm vm₁, locs, cells, slots⟩ { g with stack := rest } (.invokevirtual index) mk (Value.ref b :: argsL).toArray X₁ hg hsize hdg hW (X₁.named hnamed) (hpre vm₁ X₁.warmed) with ⟨v, B, X', hpost, hsteps⟩ | ⟨q, B, X', hpost, hsteps⟩
  · exact Or.inl ⟨v, vm₁, B, X₁.warmed, X', hpost, fun target h => hstep₁ _ fun acts => by rw [doInvoke_state]; exact hsteps.trans h⟩
  · exact Or.inr ⟨q, vm₁, B, X₁.warmed, X', hpost, hstep₁ _ fun acts => by rw [doInvoke_state]; exact hsteps⟩
theorem vx_callS (X : Stand p l e R s m args below meth c T locs cells slots) (hexec : p.tables.exec = Jvm.exec) {own : String} {index : Nat} {y : MethodName} {bytes : ByteArray} {maxL : Nat} {ret : Option FieldType}
    (hown : s.vm.findClass own = some m.cls) (hlink : (Cond.methodLink own index y).before args s = true) (hstat : (Cond.static y).before args s = true) (hinit : (Cond.initialized y.cls).before args s = true)
    (hcode : (Cond.code y bytes maxL ret).before args s = true) (hy : y.cls ≠ "java/lang/invoke/MethodHandle" ∧ y.cls ≠ "java/lang/invoke/VarHandle")
    {W9 : Nat} {Pre : Pt → Array Value → Prop} {Post : Pt → Array Value → Option Value → Pt → Prop} {PostX : Pt → Array Value → Addr → Pt → Prop} (hK : vx_Back l R p e below s args y 3 W9 Pre Post PostX)
    {g : JFrame} (hg : g.method = m) (hsize : g.locals.size = c.maxLocals) {argsL rest : List Value} (hlen : ∀ sig, parseMethodDescriptor y.desc = some sig → argsL.length = sig.parameters.length)
    (hstack : g.stack = argsL.reverse ++ rest) (hW : 2 * g.monitorRoom + (rest.map fun v => v.category).sum ≤ W9) (hdg : decode c.code g.pc = .ok (.invokestatic index, 3))
    (hpre : ∀ vm₁, s.WarmedH vm₁ → Pre ⟨T.setVm vm₁, locs, cells, slots⟩ argsL.toArray) :
    (∃ (v : Option Value) (vm₁ : Vm) (B : Pt), s.WarmedH vm₁ ∧ Stand p l e R s m args below meth c B.U B.locs B.cells B.slots ∧ Post ⟨T.setVm vm₁, locs, cells, slots⟩ argsL.toArray v B ∧
      ∀ target, Steps p.tables e below (B.U.setTop { g with pc := g.pc + 3, stack := v.toList ++ rest }) target → Steps p.tables e below (T.setTop g) target) ∨
    (∃ (q : Addr) (vm₁ : Vm) (B : Pt), s.WarmedH vm₁ ∧ Stand p l e R s m args below meth c B.U B.locs B.cells B.slots ∧ PostX ⟨T.setVm vm₁, locs, cells, slots⟩ argsL.toArray q B ∧
      Steps p.tables e below (T.setTop g) ((B.U.setTop { g with stack := rest }).pushFrame (.throwing q))) := by
  obtain ⟨mk, hnamed⟩ := Cond.code_named hcode
  obtain ⟨methM, cM, hmethM, -, -, -, -, -, -, hsigM⟩ := Cond.code_spec hnamed hcode
  have hstatic : methM.isStatic = true := Cond.static_spec hnamed hmethM hstat
  obtain ⟨kP, hkP, -⟩ := className_of_methodNamed hnamed
  have hinitP : kP.init = .initialized := Cond.initialized_spec (findClass_of_methodNamed hnamed) hkP hinit
  obtain ⟨vm₁, X₁, hstep₁⟩ := X.invokestatic hexec hown hlink hnamed hmethM hstatic hkP hinitP hy (g := g) hg (argsL := argsL) (rest := rest) (hlen _ hsigM) hstack hdg
  rcases hK m meth c ⟨T.setVm vm₁, locs, cells, slots⟩ { g with stack := rest } (.invokestatic index) mk argsL.toArray X₁ hg hsize hdg hW (X₁.named hnamed) (hpre vm₁ X₁.warmed) with ⟨v, B, X', hpost, hsteps⟩ | ⟨q, B, X', hpost, hsteps⟩
  · exact Or.inl ⟨v, vm₁, B, X₁.warmed, X', hpost, fun target h => hstep₁ _ fun acts => by rw [doInvoke_state]; exact hsteps.trans h⟩
  · exact Or.inr ⟨q, vm₁, B, X₁.warmed, X', hpost, hstep₁ _ fun acts => by rw [doInvoke_state]; exact hsteps⟩
end Calls
theorem vx_cls {s : State} {T : State} {vm₁ : Vm} {E : String} {k : ClassId} (hW : s.WarmedH vm₁) (h : (T.setVm vm₁).vm.findClass E = some k) : s.vm.findClass E = some k := by
  have h1 : vm₁.findClass E = some k := h
  rw [hW.alike.findClass] at h1
  exact h1
/-- the method's frame g, with q thrown over it -/
def vx_W (p : Program) (l : Launch) (e : Env) (R : Room) (s : State) (m : MethodId) (args : Array Value) (below : List Frame) (meth : Method) (c : Code) (H : Heap) (locs : List Loc) (cells slots : Nat) (Q : State → Prop) (g : JFrame) (q : Addr) : Prop :=
  ∀ T : State, T.heap = H → Stand p l e R s m args below meth c T locs cells slots → ∃ t, Steps p.tables e below ((T.setTop g).pushFrame (.throwing q)) t ∧ Q t
def vx_Run (p : Program) (l : Launch) (e : Env) (R : Room) (s : State) (m : MethodId) (args : Array Value) (below : List Frame) (meth : Method) (c : Code) (H : Heap) (locs : List Loc) (cells slots mc ms : Nat) (g : JFrame) (rest : List Value) (Qa : State → Outcome → State → Prop) (XC : String → State → State → Prop) (free : Addr → Prop) : Prop :=
  ∀ T : State, T.heap = H → Stand p l e R s m args below meth c T locs cells slots →
    (∃ (v : Option Value) (st₀ t T' : State) (L : List Loc), st₀.heap = H ∧ Stand p l e R s m args below meth c T' (locs ++ L) (cells + mc) (slots + ms) ∧ (∀ q ∈ L, free q.base) ∧ T'.heap = t.heap ∧ T'.vm = t.vm ∧ Qa st₀ (.returned v) t ∧
      Goes p e below T g T' { g with pc := g.pc + 3, stack := v.toList ++ rest }) ∨
    (∃ (q : Addr) (st₀ t T' : State) (L : List Loc) (E : String) (ce : Cell), st₀.heap = H ∧ Stand p l e R s m args below meth c T' (locs ++ L) (cells + mc) (slots + ms) ∧ (∀ z ∈ L, free z.base) ∧ T'.heap = t.heap ∧ T'.vm = t.vm ∧ XC E st₀ t ∧ t.heap[q]? = some ce ∧ ce.vm = .none ∧ s.vm.findClass E = some ce.cls ∧
      Steps p.tables e below (T.setTop g) ((T'.setTop { g with stack := rest }).pushFrame (.throwing q)))
def vx_X {S : Type} (px : S → Prop) (B : String → S → State → Prop) (A : Nat → Prop) : String → State → State → Prop := fun E st t => ∃ u : S, px u ∧ B E u t ∧ va_F A st t
section Runs
variable {p : Program} {l : Launch} {e : Env} {R : Room} {s : State} {m : MethodId} {args : Array Value} {below : List Frame} {meth : Method} {c : Code} {H : Heap} {locs : List Loc} {cells slots : Nat}
variable {y : MethodName} {bytes cc : ByteArray} {maxL nL mc ms n index : Nat} {ret : Option FieldType} {ws : List Cond} {rm : Room} {Pc : Array Value → State → Prop} {Qc : Array Value → State → Outcome → State → Prop} {XC : String → State → State → Prop} {free : Addr → Prop} {Ts : List Cond} {own C : String} {b : Addr} {As rest : List Value} {g : JFrame}
theorem vx_callBack (cb : CallB R s args own index y bytes maxL ret ws rm mc ms n) (hM : vx_Met l y ws rm Pc Qc XC mc ms free) (hbl : FrameBlind Pc) : vx_Back l R p e below s args y 3 8 (PreOf R mc ms Pc) (PostOf Qc mc ms free) (vx_Post XC mc ms free) := by
  obtain ⟨hrc, hrs, hfr, hlo, hws, hcw, -, hini, -⟩ := cb
  exact vx_back (bytes := bytes) (maxL := maxL) (ret := ret) hM hbl hrc hrs hfr hlo hws hcw (fun a' U hW => word_at hW (Or.inl (by first | rfl | simp [Cond.onTables, Cond.keeps, Cond.steady])) hini)
theorem vx_runV (S : CallFix p m c cc nL s args Ts own) (hM : vx_Met l y ws rm Pc Qc XC mc ms free) (cw : CallW R s args own C index y bytes maxL ret ws rm mc ms n) (hp : PreV s H C b Pc As)
    (hg : g.method = m) (hn : As.length = n) (hsize : g.locals.size = nL) (hstack : g.stack = As.reverse ++ .ref b :: rest) (hW : 2 * g.monitorRoom + (rest.map fun v => v.category).sum ≤ 8) (hdg : decode cc g.pc = .ok (.invokevirtual index, 3)) (hf : cells + mc ≤ R.cells ∧ slots + ms ≤ R.slots) :
    vx_Run p l e R s m args below meth c H locs cells slots mc ms g rest (Qc (Value.ref b :: As).toArray) XC free := by
  have hK : vx_Back l R p e below s args y 3 8 (PreOf R mc ms Pc) (PostOf Qc mc ms free) (vx_Post XC mc ms free) := vx_callBack cw.1 hM hp.1
  obtain ⟨⟨-, -, -, -, -, -, hcode, -, hy, hlen, hl⟩, hin, hse⟩ := cw
  obtain ⟨hx, hb, hml, ho, -⟩ := S
  obtain ⟨-, ⟨cellB, hcB, hoB, hclB⟩, hPc⟩ := hp
  intro T hT X
  rcases vx_callV X hx (C := C) (bytes := bytes) (maxL := maxL) (ret := ret) ho hl hin hse hcode hy hK (by rw [hT]; exact hcB) hoB hclB hg (hsize.trans hml.symm) (argsL := As) (rest := rest) (fun sig h => hn.trans (hlen sig h)) hstack hW (by rw [hb]; exact hdg)
    (fun vm₁ hW₁ => ⟨hf.1, hf.2, hPc (T.setVm vm₁) hT hW₁⟩) with ⟨v, vm₁, ⟨U', l2, c2, s2⟩, hW₁, X', ⟨g', mk, t, L, e1, e2, hq, h1, hL, h2, h3⟩, st⟩ | ⟨q, vm₁, ⟨U', l2, c2, s2⟩, hW₁, X', ⟨g', mk, t, L, E, ce, e1, e2, hq, hce, hcv, hcl, h1, hL, h2, h3⟩, st⟩
  · dsimp only [Pt.U, Pt.locs, Pt.cells, Pt.slots] at X' e1 e2 h1 h2 h3 st
    subst h1; subst h2; subst h3
    exact Or.inl ⟨v, (T.setVm vm₁).calling g' mk (Value.ref b :: As).toArray, t, U', L, hT, X', hL, e1, e2, hq, st⟩
  · dsimp only [Pt.U, Pt.locs, Pt.cells, Pt.slots] at X' e1 e2 h1 h2 h3 st hcl
    subst h1; subst h2; subst h3
    exact Or.inr ⟨q, (T.setVm vm₁).calling g' mk (Value.ref b :: As).toArray, t, U', L, E, ce, hT, X', hL, e1, e2, hq, hce, hcv, vx_cls hW₁ hcl, st⟩
theorem vx_runS (S : CallFix p m c cc nL s args Ts own) (hM : vx_Met l y ws rm Pc Qc XC mc ms free) (cw : CallB R s args own index y bytes maxL ret ws rm mc ms n ∧ (Cond.static y).before args s = true) (hp : PreS s H Pc As)
    (hg : g.method = m) (hn : As.length = n) (hsize : g.locals.size = nL) (hstack : g.stack = As.reverse ++ rest) (hW : 2 * g.monitorRoom + (rest.map fun v => v.category).sum ≤ 8) (hdg : decode cc g.pc = .ok (.invokestatic index, 3)) (hf : cells + mc ≤ R.cells ∧ slots + ms ≤ R.slots) :
    vx_Run p l e R s m args below meth c H locs cells slots mc ms g rest (Qc As.toArray) XC free := by
  have hK : vx_Back l R p e below s args y 3 8 (PreOf R mc ms Pc) (PostOf Qc mc ms free) (vx_Post XC mc ms free) := vx_callBack cw.1 hM hp.1
  obtain ⟨⟨-, -, -, -, -, -, hcode, hini, hy, hlen, hl⟩, hstt⟩ := cw
  obtain ⟨hx, hb, hml, ho, -⟩ := S
  intro T hT X
  rcases vx_callS X hx (bytes := bytes) (maxL := maxL) (ret := ret) ho hl hstt hini hcode hy hK hg (hsize.trans hml.symm) (argsL := As) (rest := rest) (fun sig h => hn.trans (hlen sig h)) hstack hW (by rw [hb]; exact hdg)
    (fun vm₁ hW₁ => ⟨hf.1, hf.2, hp.2 (T.setVm vm₁) hT hW₁⟩) with ⟨v, vm₁, ⟨U', l2, c2, s2⟩, hW₁, X', ⟨g', mk, t, L, e1, e2, hq, h1, hL, h2, h3⟩, st⟩ | ⟨q, vm₁, ⟨U', l2, c2, s2⟩, hW₁, X', ⟨g', mk, t, L, E, ce, e1, e2, hq, hce, hcv, hcl, h1, hL, h2, h3⟩, st⟩
  · dsimp only [Pt.U, Pt.locs, Pt.cells, Pt.slots] at X' e1 e2 h1 h2 h3 st
    subst h1; subst h2; subst h3
    exact Or.inl ⟨v, (T.setVm vm₁).calling g' mk As.toArray, t, U', L, hT, X', hL, e1, e2, hq, st⟩
  · dsimp only [Pt.U, Pt.locs, Pt.cells, Pt.slots] at X' e1 e2 h1 h2 h3 st hcl
    subst h1; subst h2; subst h3
    exact Or.inr ⟨q, (T.setVm vm₁).calling g' mk As.toArray, t, U', L, E, ce, hT, X', hL, e1, e2, hq, hce, hcv, vx_cls hW₁ hcl, st⟩
end Runs
section Rows
variable {p : Program} {l : Launch} {e : Env} {R : Room} {s : State} {m : MethodId} {args : Array Value} {below : List Frame} {meth : Method} {c : Code} {H : Heap} {locs : List Loc} {cells slots : Nat} {Q : State → Prop}
variable {mc ms : Nat} {free : Addr → Prop} {A0 A1 : Nat → Prop} {H0 : Heap} {a : Array Value} {pc : Nat} {ls : Array Slot} {st0 rest : List Value}
theorem vx_keep {st₀ t T' : State} {L : List Loc} (h0 : st₀.heap = H) (e1 : T'.heap = t.heap) (hS : va_S A0 H0 H locs) (hA : ∀ q, q < H.size → A1 q → A0 q) (hf : ∀ q, free q → A0 q) (hL : ∀ q ∈ L, free q.base) (hF : va_F A1 st₀ t) :
    H.size ≤ T'.heap.size ∧ (∀ q : Nat, q < H.size → ¬ A1 q → T'.heap[q]? = H[q]?) ∧ va_S A0 H0 T'.heap (locs ++ L) := by
  obtain ⟨hz, hk⟩ := hF
  rw [h0] at hz hk
  exact ⟨by rw [e1]; exact hz, fun q h1 h2 => by rw [e1]; exact hk q h1 h2,
    ⟨Nat.le_trans hS.1 (by rw [e1]; exact hz), fun q h1 h2 => by rw [e1, hk q (Nat.lt_of_lt_of_le h1 hS.1) (fun z => h2 (hA q (Nat.lt_of_lt_of_le h1 hS.1) z))]; exact hS.2.1 q h1 h2, fun q hq => by
      rcases List.mem_append.mp hq with h | h
      · exact hS.2.2 q h
      · exact hf _ (hL q h)⟩⟩
theorem vx_calli {S SX : Type} {post : Int32 → S → Prop} {px : SX → Prop} {B : S → State → Prop} {BX : String → SX → State → Prop} {AX : Nat → Prop} (hr : vx_Run p l e R s m args below meth c H locs cells slots mc ms (F0 m pc ls st0) rest (va_Qi post B A1 a) (vx_X px BX AX) free) (hS : va_S A0 H0 H locs) (hA : ∀ q, q < H.size → A1 q → A0 q) (hf : ∀ q, free q → A0 q) (hAX : ∀ q, q < H.size → AX q → A0 q)
    (kx : ∀ (E : String) (ce : Cell) (q9 : Addr) (u : SX) (t : State) (H1 : Heap) (locs1 : List Loc), t.heap = H1 → s.vm.Alike t.vm → px u → BX E u t → H.size ≤ H1.size → (∀ q : Nat, q < H.size → ¬ AX q → H1[q]? = H[q]?) → va_S A0 H0 H1 locs1 → H1[q9]? = some ce → ce.vm = .none → s.vm.findClass E = some ce.cls → vx_W p l e R s m args below meth c H1 locs1 (cells + mc) (slots + ms) Q (F0 m pc ls rest) q9)
    (kk : ∀ (r : Int32) (u : S) (t : State) (H1 : Heap) (locs1 : List Loc), t.heap = H1 → s.vm.Alike t.vm → post r u → B u t → H.size ≤ H1.size → (∀ q : Nat, q < H.size → ¬ A1 q → H1[q]? = H[q]?) → va_S A0 H0 H1 locs1 → W p l e R s m args below meth c H1 locs1 (cells + mc) (slots + ms) Q (F0 m (pc + 3) ls (.int r :: rest))) : W p l e R s m args below meth c H locs cells slots Q (F0 m pc ls st0) := by
  intro T hT X
  rcases hr T hT X with ⟨v, st₀, t, T', L, h0, X', hL, e1, e2, ⟨⟨r, u, hv, hp, hb⟩, hF⟩, st⟩ | ⟨q, st₀, t, T', L, E, ce, h0, X', hL, e1, e2, ⟨u, hp, hb, hF⟩, hce, hcv, hcl, st⟩
  · cases hv
    obtain ⟨k1, k2, k3⟩ := vx_keep h0 e1 hS hA hf hL hF
    obtain ⟨t2, a1, b1⟩ := kk r u t T'.heap (locs ++ L) e1.symm (by rw [← e2]; exact X'.warmed.alike) hp hb k1 k2 k3 T' rfl X'
    exact ⟨t2, st t2 a1, b1⟩
  · obtain ⟨k1, k2, k3⟩ := vx_keep h0 e1 hS hAX hf hL hF
    obtain ⟨t2, a1, b1⟩ := kx E ce q u t T'.heap (locs ++ L) e1.symm (by rw [← e2]; exact X'.warmed.alike) hp hb k1 k2 k3 (by rw [e1]; exact hce) hcv hcl T' rfl X'
    exact ⟨t2, st.trans a1, b1⟩
theorem vx_calll {S SX : Type} {post : Int64 → S → Prop} {px : SX → Prop} {B : S → State → Prop} {BX : String → SX → State → Prop} {AX : Nat → Prop} (hr : vx_Run p l e R s m args below meth c H locs cells slots mc ms (F0 m pc ls st0) rest (va_Ql post B A1 a) (vx_X px BX AX) free) (hS : va_S A0 H0 H locs) (hA : ∀ q, q < H.size → A1 q → A0 q) (hf : ∀ q, free q → A0 q) (hAX : ∀ q, q < H.size → AX q → A0 q)
    (kx : ∀ (E : String) (ce : Cell) (q9 : Addr) (u : SX) (t : State) (H1 : Heap) (locs1 : List Loc), t.heap = H1 → s.vm.Alike t.vm → px u → BX E u t → H.size ≤ H1.size → (∀ q : Nat, q < H.size → ¬ AX q → H1[q]? = H[q]?) → va_S A0 H0 H1 locs1 → H1[q9]? = some ce → ce.vm = .none → s.vm.findClass E = some ce.cls → vx_W p l e R s m args below meth c H1 locs1 (cells + mc) (slots + ms) Q (F0 m pc ls rest) q9)
    (kk : ∀ (r : Int64) (u : S) (t : State) (H1 : Heap) (locs1 : List Loc), t.heap = H1 → s.vm.Alike t.vm → post r u → B u t → H.size ≤ H1.size → (∀ q : Nat, q < H.size → ¬ A1 q → H1[q]? = H[q]?) → va_S A0 H0 H1 locs1 → W p l e R s m args below meth c H1 locs1 (cells + mc) (slots + ms) Q (F0 m (pc + 3) ls (.long r :: rest))) : W p l e R s m args below meth c H locs cells slots Q (F0 m pc ls st0) := by
  intro T hT X
  rcases hr T hT X with ⟨v, st₀, t, T', L, h0, X', hL, e1, e2, ⟨⟨r, u, hv, hp, hb⟩, hF⟩, st⟩ | ⟨q, st₀, t, T', L, E, ce, h0, X', hL, e1, e2, ⟨u, hp, hb, hF⟩, hce, hcv, hcl, st⟩
  · cases hv
    obtain ⟨k1, k2, k3⟩ := vx_keep h0 e1 hS hA hf hL hF
    obtain ⟨t2, a1, b1⟩ := kk r u t T'.heap (locs ++ L) e1.symm (by rw [← e2]; exact X'.warmed.alike) hp hb k1 k2 k3 T' rfl X'
    exact ⟨t2, st t2 a1, b1⟩
  · obtain ⟨k1, k2, k3⟩ := vx_keep h0 e1 hS hAX hf hL hF
    obtain ⟨t2, a1, b1⟩ := kx E ce q u t T'.heap (locs ++ L) e1.symm (by rw [← e2]; exact X'.warmed.alike) hp hb k1 k2 k3 (by rw [e1]; exact hce) hcv hcl T' rfl X'
    exact ⟨t2, st.trans a1, b1⟩
theorem vx_callf {S SX : Type} {post : UInt32 → S → Prop} {px : SX → Prop} {B : S → State → Prop} {BX : String → SX → State → Prop} {AX : Nat → Prop} (hr : vx_Run p l e R s m args below meth c H locs cells slots mc ms (F0 m pc ls st0) rest (va_Qf post B A1 a) (vx_X px BX AX) free) (hS : va_S A0 H0 H locs) (hA : ∀ q, q < H.size → A1 q → A0 q) (hf : ∀ q, free q → A0 q) (hAX : ∀ q, q < H.size → AX q → A0 q)
    (kx : ∀ (E : String) (ce : Cell) (q9 : Addr) (u : SX) (t : State) (H1 : Heap) (locs1 : List Loc), t.heap = H1 → s.vm.Alike t.vm → px u → BX E u t → H.size ≤ H1.size → (∀ q : Nat, q < H.size → ¬ AX q → H1[q]? = H[q]?) → va_S A0 H0 H1 locs1 → H1[q9]? = some ce → ce.vm = .none → s.vm.findClass E = some ce.cls → vx_W p l e R s m args below meth c H1 locs1 (cells + mc) (slots + ms) Q (F0 m pc ls rest) q9)
    (kk : ∀ (r : UInt32) (u : S) (t : State) (H1 : Heap) (locs1 : List Loc), t.heap = H1 → s.vm.Alike t.vm → post r u → B u t → H.size ≤ H1.size → (∀ q : Nat, q < H.size → ¬ A1 q → H1[q]? = H[q]?) → va_S A0 H0 H1 locs1 → W p l e R s m args below meth c H1 locs1 (cells + mc) (slots + ms) Q (F0 m (pc + 3) ls (.float r :: rest))) : W p l e R s m args below meth c H locs cells slots Q (F0 m pc ls st0) := by
  intro T hT X
  rcases hr T hT X with ⟨v, st₀, t, T', L, h0, X', hL, e1, e2, ⟨⟨r, u, hv, hp, hb⟩, hF⟩, st⟩ | ⟨q, st₀, t, T', L, E, ce, h0, X', hL, e1, e2, ⟨u, hp, hb, hF⟩, hce, hcv, hcl, st⟩
  · cases hv
    obtain ⟨k1, k2, k3⟩ := vx_keep h0 e1 hS hA hf hL hF
    obtain ⟨t2, a1, b1⟩ := kk r u t T'.heap (locs ++ L) e1.symm (by rw [← e2]; exact X'.warmed.alike) hp hb k1 k2 k3 T' rfl X'
    exact ⟨t2, st t2 a1, b1⟩
  · obtain ⟨k1, k2, k3⟩ := vx_keep h0 e1 hS hAX hf hL hF
    obtain ⟨t2, a1, b1⟩ := kx E ce q u t T'.heap (locs ++ L) e1.symm (by rw [← e2]; exact X'.warmed.alike) hp hb k1 k2 k3 (by rw [e1]; exact hce) hcv hcl T' rfl X'
    exact ⟨t2, st.trans a1, b1⟩
theorem vx_calld {S SX : Type} {post : UInt64 → S → Prop} {px : SX → Prop} {B : S → State → Prop} {BX : String → SX → State → Prop} {AX : Nat → Prop} (hr : vx_Run p l e R s m args below meth c H locs cells slots mc ms (F0 m pc ls st0) rest (va_Qd post B A1 a) (vx_X px BX AX) free) (hS : va_S A0 H0 H locs) (hA : ∀ q, q < H.size → A1 q → A0 q) (hf : ∀ q, free q → A0 q) (hAX : ∀ q, q < H.size → AX q → A0 q)
    (kx : ∀ (E : String) (ce : Cell) (q9 : Addr) (u : SX) (t : State) (H1 : Heap) (locs1 : List Loc), t.heap = H1 → s.vm.Alike t.vm → px u → BX E u t → H.size ≤ H1.size → (∀ q : Nat, q < H.size → ¬ AX q → H1[q]? = H[q]?) → va_S A0 H0 H1 locs1 → H1[q9]? = some ce → ce.vm = .none → s.vm.findClass E = some ce.cls → vx_W p l e R s m args below meth c H1 locs1 (cells + mc) (slots + ms) Q (F0 m pc ls rest) q9)
    (kk : ∀ (r : UInt64) (u : S) (t : State) (H1 : Heap) (locs1 : List Loc), t.heap = H1 → s.vm.Alike t.vm → post r u → B u t → H.size ≤ H1.size → (∀ q : Nat, q < H.size → ¬ A1 q → H1[q]? = H[q]?) → va_S A0 H0 H1 locs1 → W p l e R s m args below meth c H1 locs1 (cells + mc) (slots + ms) Q (F0 m (pc + 3) ls (.double r :: rest))) : W p l e R s m args below meth c H locs cells slots Q (F0 m pc ls st0) := by
  intro T hT X
  rcases hr T hT X with ⟨v, st₀, t, T', L, h0, X', hL, e1, e2, ⟨⟨r, u, hv, hp, hb⟩, hF⟩, st⟩ | ⟨q, st₀, t, T', L, E, ce, h0, X', hL, e1, e2, ⟨u, hp, hb, hF⟩, hce, hcv, hcl, st⟩
  · cases hv
    obtain ⟨k1, k2, k3⟩ := vx_keep h0 e1 hS hA hf hL hF
    obtain ⟨t2, a1, b1⟩ := kk r u t T'.heap (locs ++ L) e1.symm (by rw [← e2]; exact X'.warmed.alike) hp hb k1 k2 k3 T' rfl X'
    exact ⟨t2, st t2 a1, b1⟩
  · obtain ⟨k1, k2, k3⟩ := vx_keep h0 e1 hS hAX hf hL hF
    obtain ⟨t2, a1, b1⟩ := kx E ce q u t T'.heap (locs ++ L) e1.symm (by rw [← e2]; exact X'.warmed.alike) hp hb k1 k2 k3 (by rw [e1]; exact hce) hcv hcl T' rfl X'
    exact ⟨t2, st.trans a1, b1⟩
theorem vx_callv {S SX : Type} {post : S → Prop} {px : SX → Prop} {B : S → State → Prop} {BX : String → SX → State → Prop} {AX : Nat → Prop} (hr : vx_Run p l e R s m args below meth c H locs cells slots mc ms (F0 m pc ls st0) rest (va_Qv post B A1 a) (vx_X px BX AX) free) (hS : va_S A0 H0 H locs) (hA : ∀ q, q < H.size → A1 q → A0 q) (hf : ∀ q, free q → A0 q) (hAX : ∀ q, q < H.size → AX q → A0 q)
    (kx : ∀ (E : String) (ce : Cell) (q9 : Addr) (u : SX) (t : State) (H1 : Heap) (locs1 : List Loc), t.heap = H1 → s.vm.Alike t.vm → px u → BX E u t → H.size ≤ H1.size → (∀ q : Nat, q < H.size → ¬ AX q → H1[q]? = H[q]?) → va_S A0 H0 H1 locs1 → H1[q9]? = some ce → ce.vm = .none → s.vm.findClass E = some ce.cls → vx_W p l e R s m args below meth c H1 locs1 (cells + mc) (slots + ms) Q (F0 m pc ls rest) q9)
    (kk : ∀ (u : S) (t : State) (H1 : Heap) (locs1 : List Loc), t.heap = H1 → s.vm.Alike t.vm → post u → B u t → H.size ≤ H1.size → (∀ q : Nat, q < H.size → ¬ A1 q → H1[q]? = H[q]?) → va_S A0 H0 H1 locs1 → W p l e R s m args below meth c H1 locs1 (cells + mc) (slots + ms) Q (F0 m (pc + 3) ls (rest))) : W p l e R s m args below meth c H locs cells slots Q (F0 m pc ls st0) := by
  intro T hT X
  rcases hr T hT X with ⟨v, st₀, t, T', L, h0, X', hL, e1, e2, ⟨⟨u, hv, hp, hb⟩, hF⟩, st⟩ | ⟨q, st₀, t, T', L, E, ce, h0, X', hL, e1, e2, ⟨u, hp, hb, hF⟩, hce, hcv, hcl, st⟩
  · cases hv
    obtain ⟨k1, k2, k3⟩ := vx_keep h0 e1 hS hA hf hL hF
    obtain ⟨t2, a1, b1⟩ := kk u t T'.heap (locs ++ L) e1.symm (by rw [← e2]; exact X'.warmed.alike) hp hb k1 k2 k3 T' rfl X'
    exact ⟨t2, st t2 a1, b1⟩
  · obtain ⟨k1, k2, k3⟩ := vx_keep h0 e1 hS hAX hf hL hF
    obtain ⟨t2, a1, b1⟩ := kx E ce q u t T'.heap (locs ++ L) e1.symm (by rw [← e2]; exact X'.warmed.alike) hp hb k1 k2 k3 (by rw [e1]; exact hce) hcv hcl T' rfl X'
    exact ⟨t2, st.trans a1, b1⟩
/-- caught by the row x of this method's table; the rows ahead don't take it -/
theorem vx_catch {own name : String} {E : String} {ce : Cell} {q : Addr} (hown : s.vm.findClass own = some m.cls) (pre : List ExceptionTableEntry) (x : ExceptionTableEntry) (suf : List ExceptionTableEntry) (hsplit : c.exceptionTable.toList = pre ++ x :: suf)
    (hpass : ∀ z ∈ pre, covers z pc = false ∨ (z.catchType ≠ 0 ∧ ∃ nm : String, (Cond.classLink own z.catchType nm).before args s = true ∧ va_Nc E nm s)) (hx : covers x pc = true) (h0 : x.catchType ≠ 0)
    (hlink : (Cond.classLink own x.catchType name).before args s = true) (hcast : (Cond.castable E name).before args s = true) (hcell : H[q]? = some ce) (hv : ce.vm = .none) (hcl : s.vm.findClass E = some ce.cls)
    (kk : W p l e R s m args below meth c H locs cells slots Q (F0 m x.handlerPc ls [.ref q])) : vx_W p l e R s m args below meth c H locs cells slots Q (F0 m pc ls rest) q := by
  intro T hT X
  have hpl : e.platform.magicAccessors = ({} : Platform).magicAccessors := by rw [X.admits.platform]
  obtain ⟨c3, c4, hc3, hc4, hasg⟩ := Cond.castable_spec hcast
  cases Option.some.inj (hc3.symm.trans hcl)
  obtain ⟨c5, hc5, hcl5⟩ := Cond.classLink_spec hown hlink e.platform hpl
  cases Option.some.inj (hc4.symm.trans hc5)
  obtain ⟨vm', X', st⟩ := X.thenCaughtThrough q (g := F0 m pc ls rest) rfl (Steps.refl _) (by rw [hT]; exact hcell) (by rw [hv]; rfl) (by obtain ⟨k9, h9, -⟩ := Vm.findClass_spec hcl; exact ⟨k9, h9⟩) pre x suf hsplit
    (fun z hz => by
      rcases hpass z hz with h | ⟨hz0, nm, hl1, hn1⟩
      · exact Or.inl h
      · obtain ⟨c6, hc6, hcl6⟩ := Cond.classLink_spec hown hl1 e.platform hpl
        obtain ⟨a8, b8, h1, h2, h3⟩ := hn1
        cases Option.some.inj (h1.symm.trans hcl)
        cases Option.some.inj (h2.symm.trans hc6)
        exact Or.inr ⟨hz0, _, hcl6, h3⟩) hx (Or.inr ⟨h0, c4, hcl5, hasg⟩)
  obtain ⟨t, a1, b1⟩ := kk (T.setVm vm') hT X'
  exact ⟨t, st.trans a1, b1⟩
end Rows
section Ends
variable {p : Program} {l : Launch} {e : Env} {R : Room} {s : State} {m : MethodId} {args : Array Value} {below : List Frame} {meth : Method} {c : Code} {H : Heap} {locs : List Loc} {cells slots : Nat} {Q : State → Prop}
variable {mc ms : Nat} {free : Addr → Prop} {A0 A1 : Nat → Prop} {H0 : Heap} {a : Array Value} {ls : Array Slot} {st0 rest : List Value}
variable {Qc : Array Value → State → Outcome → State → Prop} {XC : String → State → State → Prop}
/-- what a body that may throw owes at its end -/
def vx_MQ (below : List Frame) (Qc : Array Value → State → Outcome → State → Prop) (XC : String → State → State → Prop) (a : Array Value) (s : State) (mc ms : Nat) (free : Addr → Prop) : State → Prop := fun t =>
  ∃ o, t.status = .running ∧ Ended t below o ∧ vx_Q Qc XC mc ms free a s o t
theorem vx_ret {g : JFrame} {mc ms : Nat} (k : W p l e R s m args below meth c H locs cells slots (MQ below Qc args s mc ms free) g) : W p l e R s m args below meth c H locs cells slots (vx_MQ below Qc XC args s mc ms free) g := by
  intro T hT X
  obtain ⟨t, a1, o, b1, b2, b3, b4⟩ := k T hT X
  exact ⟨t, a1, o, b1, b2, Or.inl ⟨b3, b4⟩⟩
/-- not caught here: it goes on to the caller -/
theorem vx_widen {g : JFrame} {q : Addr} {k n : Nat} (h1 : cells ≤ k) (h2 : slots ≤ n) (kk : vx_W p l e R s m args below meth c H locs k n Q g q) : vx_W p l e R s m args below meth c H locs cells slots Q g q := fun T hT X => kk T hT (stand_widen X h1 h2)
theorem vx_out {pc : Nat} {E : String} {ce : Cell} {q : Addr} {mc ms : Nat} (hout : ∀ x ∈ c.exceptionTable.toList, covers x pc = false) (hlocks : meth.locks = false) (hcell : H[q]? = some ce) (hv : ce.vm = .none) (hcl : s.vm.findClass E = some ce.cls)
    (hx : ∀ t : State, t.heap = H → s.vm.Alike t.vm → XC E s t) (hf : ∀ z ∈ locs, free z.base) (hc : cells ≤ mc) (hs : slots ≤ ms) :
    vx_W p l e R s m args below meth c H locs cells slots (vx_MQ below Qc XC args s mc ms free) (F0 m pc ls rest) q := by
  intro T hT X
  obtain ⟨st1, hrun, hend, hW, hsm⟩ := X.leaveThrown q (g := F0 m pc ls rest) rfl rfl rfl hout hlocks
  have hcell9 : (T.setFrames (.throwing q :: below)).heap[q]? = some ce := by
    show T.heap[q]? = some ce
    rw [hT]; exact hcell
  exact ⟨_, st1, .threw q, hrun, hend, Or.inr ⟨q, rfl, E, ce, locs, hx _ hT hW.alike, hcell9, hv, hcl, hW, hsm.mono hc hs, hf⟩⟩
theorem vx_frame {U : State} {k n : Nat} (h : s.sameButNew ({ U with vm := s.vm } : State) locs k n) : s.heap.size ≤ U.heap.size ∧ ∀ q : Nat, q < s.heap.size → (∀ z ∈ locs, z.base ≠ q) → U.heap[q]? = s.heap[q]? := by
  obtain ⟨-, h2, -, -, -, h6⟩ := h
  refine ⟨h2, fun q hq hz => ?_⟩
  obtain ⟨c9, e1, e2, e3, e4⟩ := h6 q _ (Array.getElem?_eq_getElem hq)
  have hs : c9.slots = (s.heap[q]).slots := Array.ext_getElem? fun i => e4 i fun hm => hz _ hm rfl
  have h9 : c9 = s.heap[q] := by
    rw [hs] at e2
    exact e2
  have e5 : U.heap[q]? = some c9 := e1
  rw [e5, h9, Array.getElem?_eq_getElem hq]
/-- the words of a throw but the four that speak of the heap -/
def vx_no (w : Cond) : Bool := decide (w ≠ .isRef (.static Bundle.tN "UNASSIGNED_STACK" Bundle.steD)) && decide (w ≠ .isRef (.static Bundle.tN "SUPPRESSED_SENTINEL" Bundle.listD)) && decide (w ≠ .laysStatic Bundle.tN "UNASSIGNED_STACK" Bundle.steD) && decide (w ≠ .laysStatic Bundle.tN "SUPPRESSED_SENTINEL" Bundle.listD)
def vx_at0 (own : String) (ic : Nat) (X : String) (names : List String) : List Cond := (Bundle.ownAtoms0 own ic X names).filter vx_no
def vx_atS (own : String) (ic : Nat) (X : String) (names : List String) : List Cond := (Bundle.ownAtoms own ic X names).filter vx_no
/-- a word that the tables alone decide, or a good one -/
def vx_ot (w : Cond) : Bool := w.onTables || goodWord w
theorem vx_ot_at {args a' : Array Value} {s U : State} {w : Cond} (hW : s.WarmedH U.vm) (hvm : s.vm = U.vm) (hg : vx_ot w = true) (h : w.before args s = true) : w.before a' U = true := by
  simp only [vx_ot, Bool.or_eq_true] at hg
  rcases hg with hg | hg
  · exact va_tabs hg hvm h
  · exact word_at hW (good_of_word hg) h
/-- a list's words: the good ones out of the method's own list, the others by premises of their own -/
theorem vx_hat {args : Array Value} {s : State} {L B : List Cond} (h1 : ∀ w ∈ L.filter goodWord, w.before args s = true) (h2 : ∀ w ∈ L.filter (fun w => !goodWord w), w ∈ B) (h3 : ∀ w ∈ B, w.before args s = true) : ∀ w ∈ L, w.before args s = true := by
  intro w hw
  by_cases g : goodWord w = true
  · exact h1 w (List.mem_filter.mpr ⟨hw, g⟩)
  · refine h3 w (h2 w (List.mem_filter.mpr ⟨hw, ?_⟩))
    show (!goodWord w) = true
    cases hgw : goodWord w
    · rfl
    · exact absurd hgw g
theorem vx_c {args : Array Value} {s : State} {w : Cond} {B : List Cond} (h : w.before args s = true) (t : ∀ w ∈ B, w.before args s = true) : ∀ w' ∈ w :: B, w'.before args s = true := fun w' h' => (List.mem_cons.mp h').elim (fun e => by rw [e]; exact h) (t w')
theorem vx_n {args : Array Value} {s : State} : ∀ w ∈ ([] : List Cond), w.before args s = true := fun _ h => nomatch h
theorem vx_own {args : Array Value} {s : State} {L : List Cond} (h1 : ∀ w ∈ L.filter vx_no, w.before args s = true)
    (hU : (Cond.isRef (.static Bundle.tN "UNASSIGNED_STACK" Bundle.steD)).before args s = true) (hN : (Cond.isRef (.static Bundle.tN "SUPPRESSED_SENTINEL" Bundle.listD)).before args s = true)
    (lU : (Cond.laysStatic Bundle.tN "UNASSIGNED_STACK" Bundle.steD).before args s = true) (lN : (Cond.laysStatic Bundle.tN "SUPPRESSED_SENTINEL" Bundle.listD).before args s = true) : ∀ w ∈ L, w.before args s = true := by
  intro w hw
  by_cases e1 : w = .isRef (.static Bundle.tN "UNASSIGNED_STACK" Bundle.steD)
  · rw [e1]; exact hU
  · by_cases e2 : w = .isRef (.static Bundle.tN "SUPPRESSED_SENTINEL" Bundle.listD)
    · rw [e2]; exact hN
    · by_cases e3 : w = .laysStatic Bundle.tN "UNASSIGNED_STACK" Bundle.steD
      · rw [e3]; exact lU
      · by_cases e4 : w = .laysStatic Bundle.tN "SUPPRESSED_SENTINEL" Bundle.listD
        · rw [e4]; exact lN
        · exact h1 w (List.mem_filter.mpr ⟨hw, by unfold vx_no; rw [decide_eq_true e1, decide_eq_true e2, decide_eq_true e3, decide_eq_true e4]; rfl⟩)
/-- where a static field lies, its class's statics cell in H -/
def vx_L (C n d : String) (A : Nat → Prop) (U : State) (H : Heap) : Prop := ∃ (c : ClassId) (k : Class) (i : Nat) (f : Field) (a : Nat) (cell : Cell), U.vm.findClass C = some c ∧ U.fieldFound? C n d = some (c, k, i, f) ∧ f.isStatic = true ∧ k.statics = some a ∧ H[a]? = some cell ∧ cell.vm.isStatics = true ∧ cell.cls = c ∧ f.slot < cell.slots.size ∧ k.staticTypes[f.slot]? = some f.type ∧ ¬ A a
theorem vx_L.moved {C n d : String} {A : Nat → Prop} {u U : State} {H : Heap} (hvm : u.vm.Alike U.vm) (h : vx_L C n d A u H) : vx_L C n d A U H := by
  obtain ⟨c, k, i, f, a, cell, h1, h2, h3, h4, h5, h6, h7, h8, h9, h10⟩ := h
  obtain ⟨k', hi', he⟩ := State.fieldFound?_setVm hvm h2
  exact ⟨c, k', i, f, a, cell, by rw [hvm.findClass]; exact h1, hi', h3, by rw [he]; exact h4, h5, h6, h7, h8, by rw [he]; exact h9, h10⟩
theorem vx_L.kept {C n d : String} {A : Nat → Prop} {U : State} {H H1 : Heap} (h : vx_L C n d A U H) (hq : ∀ a : Nat, a < H.size → ¬ A a → H1[a]? = H[a]?) : vx_L C n d A U H1 := by
  obtain ⟨c, k, i, f, a, cell, h1, h2, h3, h4, h5, h6, h7, h8, h9, h10⟩ := h
  exact ⟨c, k, i, f, a, cell, h1, h2, h3, h4, by rw [hq a (Array.getElem?_eq_some_iff.mp h5).1 h10]; exact h5, h6, h7, h8, h9, h10⟩
theorem vx_L.narrow {C n d : String} {A B : Nat → Prop} {U : State} {H : Heap} (h : vx_L C n d A U H) (hAB : ∀ q, B q → A q) : vx_L C n d B U H := by
  obtain ⟨c, k, i, f, a, cell, h1, h2, h3, h4, h5, h6, h7, h8, h9, h10⟩ := h
  exact ⟨c, k, i, f, a, cell, h1, h2, h3, h4, h5, h6, h7, h8, h9, fun z => h10 (hAB _ z)⟩
theorem vx_L.word {C n d : String} {A : Nat → Prop} {s : State} {args : Array Value} (h : vx_L C n d A s s.heap) : (Cond.laysStatic C n d).before args s = true := by
  obtain ⟨c, k, i, f, a, cell, h1, h2, h3, h4, h5, h6, h7, h8, h9, -⟩ := h
  show (Cond.laysStatic C n d).holds args s none s [] = true
  exact Cond.laysStatic_of h1 h2 h3 h4 h5 h6 h7 h8 h9
/-- .. and what it holds: null or some reference -/
def vx_Zq (C n d : String) (A : Nat → Prop) (U : State) (H : Heap) : Prop := va_Zq C n d A U H ∧ vx_L C n d A U H
theorem vx_Zq.moved {C n d : String} {A : Nat → Prop} {u U : State} {H : Heap} (hvm : u.vm.Alike U.vm) (h : vx_Zq C n d A u H) : vx_Zq C n d A U H := ⟨va_Zq.moved hvm h.1, vx_L.moved hvm h.2⟩
theorem vx_Zq.kept {C n d : String} {A : Nat → Prop} {U : State} {H H1 : Heap} (h : vx_Zq C n d A U H) (hq : ∀ a : Nat, a < H.size → ¬ A a → H1[a]? = H[a]?) : vx_Zq C n d A U H1 := ⟨va_Zq.kept h.1 hq, vx_L.kept h.2 hq⟩
theorem vx_Zq.narrow {C n d : String} {A B : Nat → Prop} {U : State} {H : Heap} (h : vx_Zq C n d A U H) (hAB : ∀ q, B q → A q) : vx_Zq C n d B U H := ⟨va_Zq.narrow h.1 hAB, vx_L.narrow h.2 hAB⟩
theorem vx_Zqof {args : Array Value} {s : State} {C n d : String} {A : Nat → Prop} (hl : (Cond.laysStatic C n d).before args s = true) (hini : (Cond.initialized C).before args s = true) (h : (Cond.isRef (.static C n d)).before args s = true) (hA : ∀ a : Nat, a < s.heap.size → ¬ A a) : vx_Zq C n d A s s.heap := by
  refine ⟨va_Zqof hl hini h hA, ?_⟩
  obtain ⟨c, k, i, f, a, cell, h1, h2, h3, h4, h5, h6, h7, h8, h9⟩ := Cond.laysStatic_spec hl
  exact ⟨c, k, i, f, a, cell, h1, h2, h3, h4, h5, h6, h7, h8, h9, hA a (Array.getElem?_eq_some_iff.mp h5).1⟩
theorem vx_isRef {C n d : String} {v : Value} {A : Nat → Prop} {s : State} {args : Array Value} (h : va_Z C n d v A s s.heap) (hv : v.isRef = true) : (Cond.isRef (.static C n d)).before args s = true := by
  obtain ⟨cf, kf, fi, f, a, cell, h1, h2, h3, h4, h5, h6, h7, -⟩ := h
  have he : (Term.static C n d).eval args s none [] s = some v := by
    simp [Term.eval, State.fieldNamed?, h1, h2, h4, h5, h6, h7]
  simp only [Cond.before, Cond.holds, Cond.value, he]
  cases v <;> simp_all [Value.isRef]
theorem vx_isRefq {C n d : String} {A : Nat → Prop} {s : State} {args : Array Value} (h : va_Zq C n d A s s.heap) : (Cond.isRef (.static C n d)).before args s = true := by
  rcases h with h | ⟨t, h⟩
  · exact vx_isRef h rfl
  · exact vx_isRef h rfl
/-- the same frame, seen from here: as if the method were called anew in this heap -/
theorem vx_rebase {T : State} (X : Stand p l e R s m args below meth c T locs cells slots) {R' : Room} (hf : R'.frames ≤ R.frames) (hl : R'.locals ≤ R.locals) (hc : cells + R'.cells ≤ R.cells) (hs : slots + R'.slots ≤ R.slots) :
    Stand p l e R' ((T.setVm s.vm).setFrames (.invoking m args :: below)) m args below meth c T [] 0 0 := by
  have htop : (T.setVm s.vm).topJava?.isSome := X.here.top
  have hF : ((T.setVm s.vm).setFrames (.invoking m args :: below)).frames = .invoking m args :: below := State.frames_setFrames _ (State.cur_lt_of_top htop)
  obtain ⟨g₀, hg0⟩ := Option.isSome_iff_exists.mp htop
  obtain ⟨r, hr⟩ := State.topJava?_eq_some.mp hg0
  have hl9 : e.platform.stackLimits (T.setVm s.vm).me = e.platform.stackLimits s.me := X.limits
  have hb9 : (T.setVm s.vm).me.stackBytes = s.me.stackBytes := X.bytes
  refine ⟨X.admits, X.cas, X.clock, hF, ?_, X.hears, X.method, X.code, X.here, X.tail, X.warmed, ?_, ?_, ?_⟩
  · have h := X.room
    have hU : ((T.setVm s.vm).setFrames (.invoking m args :: below)).localsInUse = s.localsInUse := by
      rw [State.localsInUse_invoking hF (meth := meth) (c := c) X.method X.code, State.localsInUse_invoking X.frames X.method X.code]
    simp only [State.hasRoom, Bool.and_eq_true, decide_eq_true_eq] at h ⊢
    obtain ⟨⟨⟨⟨h1, h2, h3, h4, h5, h6⟩, h7⟩, h8⟩, h9⟩ := h
    rw [X.frames, List.length_cons] at h2 h3
    have q1 := X.heapSize
    have q2 := X.used
    simp only [hF, hU, List.length_cons, State.stackLimits_setFrames, State.stackBytes_setFrames, hl9, hb9]
    refine ⟨⟨⟨⟨by omega, by omega, by omega, by omega, by omega, h6⟩, ?_⟩, ?_⟩, X.book⟩
    · show T.heap.size + R'.cells ≤ e.platform.maxCells
      omega
    · show T.slotsUsed + R'.slots ≤ e.platform.maxSlots
      omega
  · rw [State.stackLimits_setFrames]; rfl
  · rw [State.stackBytes_setFrames]; rfl
  · refine ⟨?_, Nat.le_refl _, Nat.le_refl _, ?_, ?_, fun a c9 h9 => ⟨c9, h9, rfl, rfl, fun _ _ => rfl⟩⟩
    · obtain ⟨t, ht, -⟩ := State.frames_cons hr
      show T.setVm s.vm = { ((T.setVm s.vm).setFrames (.invoking m args :: below)).setFrames (T.setVm s.vm).frames with heap := T.heap, slotsUsed := T.slotsUsed }
      rw [State.setFrames_setFrames, State.setFrames_self ht]
      rfl
    · show T.slotsUsed = T.slotsUsed + ((T.heap.toList.drop T.heap.size).map (·.slots.size)).sum
      rw [List.drop_eq_nil_of_le (Nat.le_of_eq Array.length_toList)]
      rfl
    · show ((T.heap.toList.drop T.heap.size).map (·.slots.size)).sum ≤ 0
      rw [List.drop_eq_nil_of_le (Nat.le_of_eq Array.length_toList)]
      exact Nat.le_refl _
/-- 'throw new E()': new; dup; invokespecial; athrow -/
theorem vx_throw0 {cc : ByteArray} {pc : Nat} (hexec : p.tables.exec = Jvm.exec) (hb : c.code = cc) (hl : l.stackTraces = false) {own cls : String} {names : List String} {ik ic mc ms : Nat} {A : Nat → Prop}
    (hown : s.vm.findClass own = some m.cls) (hcls : Bundle.fit cls = true) (hnames : ∀ n ∈ names, Bundle.fit n = true)
    (hk : (Cond.classLink own ik cls).before args s = true) (hini : (Cond.initialized cls).before args s = true) (hat : ∀ w ∈ vx_at0 own ic cls names, w.before args s = true)
    (hgood : ∀ w ∈ Cond.classLink own ik cls :: Cond.initialized cls :: vx_at0 own ic cls names, vx_ot w = true)
    (hU : vx_Zq Bundle.tN "UNASSIGNED_STACK" Bundle.steD A s s.heap) (hN : vx_Zq Bundle.tN "SUPPRESSED_SENTINEL" Bundle.listD A s s.heap) (hS : va_S A s.heap H locs) (hsize : ls.size = c.maxLocals)
    (d0 : decode cc pc = .ok (.new ik, 3)) (d3 : decode cc (pc + 3) = .ok (.dup, 1)) (d4 : decode cc (pc + 4) = .ok (.invokespecial ic, 3)) (d7 : decode cc (pc + 7) = .ok (.athrow, 1))
    (hout : ∀ x ∈ c.exceptionTable.toList, covers x (pc + 7) = false)
    (hRframes : names.length + 3 < R.frames) (hRlocals : (rest.map fun v => v.category).sum + (13 * (names.length + 1) + 42) ≤ R.locals) (hRcells : cells + 1 ≤ R.cells) (hRslots : slots + 6 ≤ R.slots) (hlocks : meth.locks = false)
    (hx : ∀ t : State, s.vm.Alike t.vm → H.size ≤ t.heap.size → (∀ q : Nat, q < H.size → t.heap[q]? = H[q]?) → XC cls s t)
    (hf : ∀ z ∈ locs, free z.base) (hc : cells + 1 ≤ mc) (hs : slots + 6 ≤ ms) :
    W p l e R s m args below meth c H locs cells slots (vx_MQ below Qc XC args s mc ms free) (F0 m pc ls rest) := by
  intro T hT X
  have htr : e.platform.stackTraces = false := (show e.platform.stackTraces = l.stackTraces by rw [X.admits.platform]).trans hl
  have Y := vx_rebase X (R' := { frames := R.frames, locals := R.locals, cells := 1, slots := 6 }) (Nat.le_refl _) (Nat.le_refl _) hRcells hRslots
  obtain ⟨s', hA⟩ : ∃ z, z = (T.setVm s.vm).setFrames (.invoking m args :: below) := ⟨_, rfl⟩
  rw [← hA] at Y
  have hvm : s'.vm = s.vm := by rw [hA]; rfl
  have hhp : s'.heap = H := by rw [hA]; exact hT
  have hW0 : s.WarmedH s'.vm := by rw [hvm]; exact State.WarmedH.refl s
  have hat' : ∀ w ∈ vx_at0 own ic cls names, w.before args s' = true := fun w hw => vx_ot_at hW0 hvm.symm (hgood w (List.mem_cons_of_mem _ (List.mem_cons_of_mem _ hw))) (hat w hw)
  have hk' : (Cond.classLink own ik cls).before args s' = true := vx_ot_at hW0 hvm.symm (hgood _ List.mem_cons_self) hk
  have hini' : (Cond.initialized cls).before args s' = true := vx_ot_at hW0 hvm.symm (hgood _ (List.mem_cons_of_mem _ List.mem_cons_self)) hini
  have hU' : vx_Zq Bundle.tN "UNASSIGNED_STACK" Bundle.steD A s' s'.heap := by rw [hhp]; exact vx_Zq.moved hW0.alike (hU.kept hS.2.1)
  have hN' : vx_Zq Bundle.tN "SUPPRESSED_SENTINEL" Bundle.listD A s' s'.heap := by rw [hhp]; exact vx_Zq.moved hW0.alike (hN.kept hS.2.1)
  have h : ∀ w ∈ Bundle.ownAtoms0 own ic cls names, w.before args s' = true := vx_own hat' (vx_isRefq hU'.1) (vx_isRefq hN'.1) hU'.2.word hN'.2.word
  have hown' : s'.vm.findClass own = some m.cls := by rw [hvm]; exact hown
  have hins : (Cond.instantiable cls 6).before args s' = true := h _ (by simp [Bundle.ownAtoms0])
  obtain ⟨vm₁, cX, kX, hfX, hkX, -, -, X₁, st1⟩ := Y.newCold hexec (own := own) (C := cls) (index := ik) (n := 6) hown' hk' hins hini'
    (g := F0 m pc ls rest) rfl (by rw [hb]; exact d0) (Nat.le_refl _) (Nat.le_refl _)
  generalize hT1 : (T.setVm vm₁).pushCell { cls := cX, slots := kX.instanceTypes.map defaultValue, vm := .none } = T1 at X₁ st1
  have hcat : (Value.ref T.heap.size).category = 1 := rfl
  have hcellA : T1.heap[T.heap.size]? = some (freshCell cX kX) := by rw [← hT1]; exact State.heap_pushCell_size _ _
  have d3' : decode c.code (pc + 3) = .ok (.dup, 1) := by rw [hb]; exact d3
  obtain ⟨U, hsteps, hrun, hend, hW, hsame, ce, hce, hO⟩ := X₁.ctorThrow0 hexec htr (own := own) (cls := cls) (names := names) (ic := ic) hown' hcls hnames h (fun x hx => nomatch hx) hfX hkX hcellA (by rw [hhp, hT]; exact Nat.le_refl _)
    (g := { method := m, pc := pc + 4, locals := ls, stack := .ref T.heap.size :: .ref T.heap.size :: rest, locked := none }) rfl hsize rfl rfl (rest := rest) rfl
    (by rw [hb]; exact d4) (by rw [hb]; exact d7) hout hRframes (by simp only [List.map_cons, List.sum_cons, hcat]; omega) hlocks
  obtain ⟨f1, f2⟩ := vx_frame hsame
  rw [hhp] at f1 f2
  have hWs : s.WarmedH U.vm := State.WarmedH.trans hW0 hW
  have hcl : s.vm.findClass cls = some ce.cls := by
    have h9 := hO.cls
    rw [hvm] at h9
    exact h9
  have hall : s.sameButNew ({ U with vm := s.vm } : State) locs mc ms := by
    subst hA
    obtain ⟨e1, e2⟩ := hsame
    rw [State.setFrames_setFrames] at e1
    have h2 : (T.setVm s.vm).sameButNew ({ U with vm := s.vm } : State) [] (0 + 1) (0 + 6) := ⟨e1, e2⟩
    have h3 := X.same.trans h2
    rw [List.append_nil] at h3
    exact h3.mono hc hs
  refine ⟨U, ?_, .threw T.heap.size, hrun, hend, Or.inr ⟨T.heap.size, rfl, cls, ce, locs, hx U hWs.alike f1 (fun q hq => f2 q hq (fun z hz => nomatch hz)), hce, hO.vm, hcl, hWs, hall, hf⟩⟩
  refine st1 _ ?_
  show Steps p.tables e below (T1.setTop { method := m, pc := pc + 3, locals := ls, stack := .ref T.heap.size :: rest, locked := none }) _
  jvm_step X₁.here [X₁.here.top, hexec, d3', Value.category]
  exact hsteps
/-- 'throw new E("text")': new; dup; ldc; invokespecial; athrow -/
theorem vx_throwS {cc : ByteArray} {pc : Nat} (hexec : p.tables.exec = Jvm.exec) (hb : c.code = cc) (hl : l.stackTraces = false) {own cls text : String} {names : List String} {ik is ic mc ms sa : Nat} {A : Nat → Prop}
    (hown : s.vm.findClass own = some m.cls) (hcls : Bundle.fit cls = true) (hnames : ∀ n ∈ names, Bundle.fit n = true)
    (hk : (Cond.classLink own ik cls).before args s = true) (hini : (Cond.initialized cls).before args s = true) (hstr : vk_R own is text sa s) (hat : ∀ w ∈ vx_atS own ic cls names, w.before args s = true)
    (hgood : ∀ w ∈ Cond.classLink own ik cls :: Cond.initialized cls :: vx_atS own ic cls names, vx_ot w = true)
    (hU : vx_Zq Bundle.tN "UNASSIGNED_STACK" Bundle.steD A s s.heap) (hN : vx_Zq Bundle.tN "SUPPRESSED_SENTINEL" Bundle.listD A s s.heap) (hS : va_S A s.heap H locs) (hsize : ls.size = c.maxLocals)
    (d0 : decode cc pc = .ok (.new ik, 3)) (d3 : decode cc (pc + 3) = .ok (.dup, 1)) (d4 : decode cc (pc + 4) = .ok (.ldc is, 2)) (d6 : decode cc (pc + 6) = .ok (.invokespecial ic, 3)) (d9 : decode cc (pc + 9) = .ok (.athrow, 1))
    (hout : ∀ x ∈ c.exceptionTable.toList, covers x (pc + 9) = false)
    (hRframes : names.length + 3 < R.frames) (hRlocals : (rest.map fun v => v.category).sum + (13 * (names.length + 1) + 43) ≤ R.locals) (hRcells : cells + 1 ≤ R.cells) (hRslots : slots + 6 ≤ R.slots) (hlocks : meth.locks = false)
    (hx : ∀ t : State, s.vm.Alike t.vm → H.size ≤ t.heap.size → (∀ q : Nat, q < H.size → t.heap[q]? = H[q]?) → XC cls s t)
    (hf : ∀ z ∈ locs, free z.base) (hc : cells + 1 ≤ mc) (hs : slots + 6 ≤ ms) :
    W p l e R s m args below meth c H locs cells slots (vx_MQ below Qc XC args s mc ms free) (F0 m pc ls rest) := by
  intro T hT X
  have htr : e.platform.stackTraces = false := (show e.platform.stackTraces = l.stackTraces by rw [X.admits.platform]).trans hl
  have Y := vx_rebase X (R' := { frames := R.frames, locals := R.locals, cells := 1, slots := 6 }) (Nat.le_refl _) (Nat.le_refl _) hRcells hRslots
  obtain ⟨s', hA⟩ : ∃ z, z = (T.setVm s.vm).setFrames (.invoking m args :: below) := ⟨_, rfl⟩
  rw [← hA] at Y
  have hvm : s'.vm = s.vm := by rw [hA]; rfl
  have hhp : s'.heap = H := by rw [hA]; exact hT
  have hW0 : s.WarmedH s'.vm := by rw [hvm]; exact State.WarmedH.refl s
  have hat' : ∀ w ∈ vx_atS own ic cls names, w.before args s' = true := fun w hw => vx_ot_at hW0 hvm.symm (hgood w (List.mem_cons_of_mem _ (List.mem_cons_of_mem _ hw))) (hat w hw)
  have hk' : (Cond.classLink own ik cls).before args s' = true := vx_ot_at hW0 hvm.symm (hgood _ List.mem_cons_self) hk
  have hini' : (Cond.initialized cls).before args s' = true := vx_ot_at hW0 hvm.symm (hgood _ (List.mem_cons_of_mem _ List.mem_cons_self)) hini
  have hU' : vx_Zq Bundle.tN "UNASSIGNED_STACK" Bundle.steD A s' s'.heap := by rw [hhp]; exact vx_Zq.moved hW0.alike (hU.kept hS.2.1)
  have hN' : vx_Zq Bundle.tN "SUPPRESSED_SENTINEL" Bundle.listD A s' s'.heap := by rw [hhp]; exact vx_Zq.moved hW0.alike (hN.kept hS.2.1)
  have h : ∀ w ∈ Bundle.ownAtoms own ic cls names, w.before args s' = true := vx_own hat' (vx_isRefq hU'.1) (vx_isRefq hN'.1) hU'.2.word hN'.2.word
  have hown' : s'.vm.findClass own = some m.cls := by rw [hvm]; exact hown
  have hins : (Cond.instantiable cls 6).before args s' = true := h _ (by simp [Bundle.ownAtoms])
  obtain ⟨vm₁, cX, kX, hfX, hkX, -, -, X₁, st1⟩ := Y.newCold hexec (own := own) (C := cls) (index := ik) (n := 6) hown' hk' hins hini'
    (g := F0 m pc ls rest) rfl (by rw [hb]; exact d0) (Nat.le_refl _) (Nat.le_refl _)
  generalize hT1 : (T.setVm vm₁).pushCell { cls := cX, slots := kX.instanceTypes.map defaultValue, vm := .none } = T1 at X₁ st1
  have hcat : (Value.ref T.heap.size).category = 1 := rfl
  have hcellA : T1.heap[T.heap.size]? = some (freshCell cX kX) := by rw [← hT1]; exact State.heap_pushCell_size _ _
  have d3' : decode c.code (pc + 3) = .ok (.dup, 1) := by rw [hb]; exact d3
  have d4' : decode c.code (pc + 4) = .ok (.ldc is, 2) := by rw [hb]; exact d4
  have hstr' : vk_R own is text sa s' := vk_R.warm hW0 hstr
  obtain ⟨U, hsteps, hrun, hend, hW, hsame, ce, hce, hO⟩ := X₁.ctorThrowS hexec htr (own := own) (cls := cls) (names := names) (ic := ic) hown' hcls hnames h (fun x hx => nomatch hx) hfX hkX hcellA (by rw [hhp, hT]; exact Nat.le_refl _) (msg := .ref sa) rfl
    (g := { method := m, pc := pc + 6, locals := ls, stack := .ref sa :: .ref T.heap.size :: .ref T.heap.size :: rest, locked := none }) rfl hsize rfl rfl (rest := rest) rfl
    (by rw [hb]; exact d6) (by rw [hb]; exact d9) hout hRframes (by simp only [List.map_cons, List.sum_cons, hcat]; omega) hlocks
  obtain ⟨f1, f2⟩ := vx_frame hsame
  rw [hhp] at f1 f2
  have hWs : s.WarmedH U.vm := State.WarmedH.trans hW0 hW
  have hcl : s.vm.findClass cls = some ce.cls := by
    have h9 := hO.cls
    rw [hvm] at h9
    exact h9
  have hall : s.sameButNew ({ U with vm := s.vm } : State) locs mc ms := by
    subst hA
    obtain ⟨e1, e2⟩ := hsame
    rw [State.setFrames_setFrames] at e1
    have h2 : (T.setVm s.vm).sameButNew ({ U with vm := s.vm } : State) [] (0 + 1) (0 + 6) := ⟨e1, e2⟩
    have h3 := X.same.trans h2
    rw [List.append_nil] at h3
    exact h3.mono hc hs
  refine ⟨U, ?_, .threw T.heap.size, hrun, hend, Or.inr ⟨T.heap.size, rfl, cls, ce, locs, hx U hWs.alike f1 (fun q hq => f2 q hq (fun z hz => nomatch hz)), hce, hO.vm, hcl, hWs, hall, hf⟩⟩
  refine st1 _ ?_
  show Steps p.tables e below (T1.setTop { method := m, pc := pc + 3, locals := ls, stack := .ref T.heap.size :: rest, locked := none }) _
  jvm_step X₁.here [X₁.here.top, hexec, d3', Value.category]
  exact X₁.ldcString hexec (own := own) (text := text) (index := is) (a := sa) hown' hstr'.1 hstr'.2
    (g := { method := m, pc := pc + 4, locals := ls, stack := .ref T.heap.size :: .ref T.heap.size :: rest, locked := none }) rfl d4' _ hsteps
/-- 'throw new E("text")', the text by a wide index -/
theorem vx_throwSW {cc : ByteArray} {pc : Nat} (hexec : p.tables.exec = Jvm.exec) (hb : c.code = cc) (hl : l.stackTraces = false) {own cls text : String} {names : List String} {ik is ic mc ms sa : Nat} {A : Nat → Prop}
    (hown : s.vm.findClass own = some m.cls) (hcls : Bundle.fit cls = true) (hnames : ∀ n ∈ names, Bundle.fit n = true)
    (hk : (Cond.classLink own ik cls).before args s = true) (hini : (Cond.initialized cls).before args s = true) (hstr : vk_R own is text sa s) (hat : ∀ w ∈ vx_atS own ic cls names, w.before args s = true)
    (hgood : ∀ w ∈ Cond.classLink own ik cls :: Cond.initialized cls :: vx_atS own ic cls names, vx_ot w = true)
    (hU : vx_Zq Bundle.tN "UNASSIGNED_STACK" Bundle.steD A s s.heap) (hN : vx_Zq Bundle.tN "SUPPRESSED_SENTINEL" Bundle.listD A s s.heap) (hS : va_S A s.heap H locs) (hsize : ls.size = c.maxLocals)
    (d0 : decode cc pc = .ok (.new ik, 3)) (d3 : decode cc (pc + 3) = .ok (.dup, 1)) (d4 : decode cc (pc + 4) = .ok (.ldc_w is, 3)) (d7 : decode cc (pc + 7) = .ok (.invokespecial ic, 3)) (d10 : decode cc (pc + 10) = .ok (.athrow, 1))
    (hout : ∀ x ∈ c.exceptionTable.toList, covers x (pc + 10) = false)
    (hRframes : names.length + 3 < R.frames) (hRlocals : (rest.map fun v => v.category).sum + (13 * (names.length + 1) + 43) ≤ R.locals) (hRcells : cells + 1 ≤ R.cells) (hRslots : slots + 6 ≤ R.slots) (hlocks : meth.locks = false)
    (hx : ∀ t : State, s.vm.Alike t.vm → H.size ≤ t.heap.size → (∀ q : Nat, q < H.size → t.heap[q]? = H[q]?) → XC cls s t)
    (hf : ∀ z ∈ locs, free z.base) (hc : cells + 1 ≤ mc) (hs : slots + 6 ≤ ms) :
    W p l e R s m args below meth c H locs cells slots (vx_MQ below Qc XC args s mc ms free) (F0 m pc ls rest) := by
  intro T hT X
  have htr : e.platform.stackTraces = false := (show e.platform.stackTraces = l.stackTraces by rw [X.admits.platform]).trans hl
  have Y := vx_rebase X (R' := { frames := R.frames, locals := R.locals, cells := 1, slots := 6 }) (Nat.le_refl _) (Nat.le_refl _) hRcells hRslots
  obtain ⟨s', hA⟩ : ∃ z, z = (T.setVm s.vm).setFrames (.invoking m args :: below) := ⟨_, rfl⟩
  rw [← hA] at Y
  have hvm : s'.vm = s.vm := by rw [hA]; rfl
  have hhp : s'.heap = H := by rw [hA]; exact hT
  have hW0 : s.WarmedH s'.vm := by rw [hvm]; exact State.WarmedH.refl s
  have hat' : ∀ w ∈ vx_atS own ic cls names, w.before args s' = true := fun w hw => vx_ot_at hW0 hvm.symm (hgood w (List.mem_cons_of_mem _ (List.mem_cons_of_mem _ hw))) (hat w hw)
  have hk' : (Cond.classLink own ik cls).before args s' = true := vx_ot_at hW0 hvm.symm (hgood _ List.mem_cons_self) hk
  have hini' : (Cond.initialized cls).before args s' = true := vx_ot_at hW0 hvm.symm (hgood _ (List.mem_cons_of_mem _ List.mem_cons_self)) hini
  have hU' : vx_Zq Bundle.tN "UNASSIGNED_STACK" Bundle.steD A s' s'.heap := by rw [hhp]; exact vx_Zq.moved hW0.alike (hU.kept hS.2.1)
  have hN' : vx_Zq Bundle.tN "SUPPRESSED_SENTINEL" Bundle.listD A s' s'.heap := by rw [hhp]; exact vx_Zq.moved hW0.alike (hN.kept hS.2.1)
  have h : ∀ w ∈ Bundle.ownAtoms own ic cls names, w.before args s' = true := vx_own hat' (vx_isRefq hU'.1) (vx_isRefq hN'.1) hU'.2.word hN'.2.word
  have hown' : s'.vm.findClass own = some m.cls := by rw [hvm]; exact hown
  have hins : (Cond.instantiable cls 6).before args s' = true := h _ (by simp [Bundle.ownAtoms])
  obtain ⟨vm₁, cX, kX, hfX, hkX, -, -, X₁, st1⟩ := Y.newCold hexec (own := own) (C := cls) (index := ik) (n := 6) hown' hk' hins hini'
    (g := F0 m pc ls rest) rfl (by rw [hb]; exact d0) (Nat.le_refl _) (Nat.le_refl _)
  generalize hT1 : (T.setVm vm₁).pushCell { cls := cX, slots := kX.instanceTypes.map defaultValue, vm := .none } = T1 at X₁ st1
  have hcat : (Value.ref T.heap.size).category = 1 := rfl
  have hcellA : T1.heap[T.heap.size]? = some (freshCell cX kX) := by rw [← hT1]; exact State.heap_pushCell_size _ _
  have d3' : decode c.code (pc + 3) = .ok (.dup, 1) := by rw [hb]; exact d3
  have d4' : decode c.code (pc + 4) = .ok (.ldc_w is, 3) := by rw [hb]; exact d4
  have hstr' : vk_R own is text sa s' := vk_R.warm hW0 hstr
  obtain ⟨U, hsteps, hrun, hend, hW, hsame, ce, hce, hO⟩ := X₁.ctorThrowS hexec htr (own := own) (cls := cls) (names := names) (ic := ic) hown' hcls hnames h (fun x hx => nomatch hx) hfX hkX hcellA (by rw [hhp, hT]; exact Nat.le_refl _) (msg := .ref sa) rfl
    (g := { method := m, pc := pc + 7, locals := ls, stack := .ref sa :: .ref T.heap.size :: .ref T.heap.size :: rest, locked := none }) rfl hsize rfl rfl (rest := rest) rfl
    (by rw [hb]; exact d7) (by rw [hb]; exact d10) hout hRframes (by simp only [List.map_cons, List.sum_cons, hcat]; omega) hlocks
  obtain ⟨f1, f2⟩ := vx_frame hsame
  rw [hhp] at f1 f2
  have hWs : s.WarmedH U.vm := State.WarmedH.trans hW0 hW
  have hcl : s.vm.findClass cls = some ce.cls := by
    have h9 := hO.cls
    rw [hvm] at h9
    exact h9
  have hall : s.sameButNew ({ U with vm := s.vm } : State) locs mc ms := by
    subst hA
    obtain ⟨e1, e2⟩ := hsame
    rw [State.setFrames_setFrames] at e1
    have h2 : (T.setVm s.vm).sameButNew ({ U with vm := s.vm } : State) [] (0 + 1) (0 + 6) := ⟨e1, e2⟩
    have h3 := X.same.trans h2
    rw [List.append_nil] at h3
    exact h3.mono hc hs
  refine ⟨U, ?_, .threw T.heap.size, hrun, hend, Or.inr ⟨T.heap.size, rfl, cls, ce, locs, hx U hWs.alike f1 (fun q hq => f2 q hq (fun z hz => nomatch hz)), hce, hO.vm, hcl, hWs, hall, hf⟩⟩
  refine st1 _ ?_
  show Steps p.tables e below (T1.setTop { method := m, pc := pc + 3, locals := ls, stack := .ref T.heap.size :: rest, locked := none }) _
  jvm_step X₁.here [X₁.here.top, hexec, d3', Value.category]
  exact X₁.ldcStringW hexec (own := own) (text := text) (index := is) (a := sa) hown' hstr'.1 hstr'.2
    (g := { method := m, pc := pc + 4, locals := ls, stack := .ref T.heap.size :: .ref T.heap.size :: rest, locked := none }) rfl d4' _ hsteps
end Ends
section Bodies
variable {l : Launch}
theorem vx_ofW {y : MethodName} {ws ws' : List Cond} {rm : Room} {Pc : Array Value → State → Prop} {Qc : Array Value → State → Outcome → State → Prop} {XC : String → State → State → Prop} {mc ms : Nat} {free : Addr → Prop} {cc : ByteArray} {maxL : Nat} {ret : Option FieldType}
    (hy : plainName y.cls = true) (hw : ws = Cond.code y cc maxL ret :: ws')
    (body : ∀ p e s m args below meth c s₁, BodyLoose p l y (headSpec ws rm) cc maxL ret e s m args below meth c s₁ → c.maxLocals = maxL → (∀ x ∈ c.exceptionTable.toList, False) → Pc args s →
      W p l e (headSpec ws rm).room s m args below meth c s.heap [] 0 0 (vx_MQ below Qc XC args s mc ms free) (entryFrame m args maxL)) : vx_Met l y ws rm Pc Qc XC mc ms free := by
  refine MetFree.of_bodyS (code := cc) (maxLocals := maxL) (ret := ret) hy ?_ ?_
  · intro args s m h hn
    obtain ⟨meth, c, h1, h2, h3, h4, h5, h6, -, -⟩ := Cond.code_spec hn (atoms_spec (ws := ws) h _ (by rw [hw]; exact List.mem_cons_self))
    exact ⟨meth, c, h1, h2, h3, h4, h5, h6⟩
  · intro p e s m args below meth c s₁ B hml hP _
    have hh0 : s₁.heap = s.heap := by rw [B.state]; rfl
    have ht : ∀ x ∈ c.exceptionTable.toList, False := by
      obtain ⟨meth9, c9, h1, h2, -, -, -, -, h7, -⟩ := Cond.code_spec B.named (atoms_spec (ws := ws) B.pre _ (by rw [hw]; exact List.mem_cons_self))
      cases Option.some.inj (h1.symm.trans B.method)
      cases Option.some.inj (h2.symm.trans (Stand.of_body B).code)
      intro x hx
      rw [Array.isEmpty_iff.mp h7] at hx
      cases hx
    obtain ⟨t, a1, o, b1, b2, b3⟩ := body p e s m args below meth c s₁ B hml ht hP s₁ hh0 (Stand.of_body B)
    exact ⟨t, o, a1, b1, b2, b3⟩
/-- the table of a body with handlers -/
theorem vx_table {p : Program} {x y : MethodName} {S : Spec} {cc bytes : ByteArray} {maxL maxL' : Nat} {ret ret' : Option FieldType} {e : Env} {s s₁ : State} {m : MethodId} {args : Array Value} {below : List Frame} {meth : Method} {c : Code} {hh : List (Nat × Nat × Nat × Nat)}
    (B : BodyLoose p l y S cc maxL ret e s m args below meth c s₁) (h : (Cond.codeWith y bytes maxL' ret' hh).before args s = true) : c.exceptionTable.toList = tableOf hh := by
  obtain ⟨m9, meth9, c9, hn9, h1, h2, -, -, h6, -⟩ := Cond.codeWith_spec h
  cases Option.some.inj (hn9.symm.trans B.named)
  cases Option.some.inj (h1.symm.trans B.method)
  cases Option.some.inj (h2.symm.trans (Stand.of_body B).code)
  rw [← h6, table_eq]
end Bodies
end VXA
/-! ===== END ===== -/
/-! ===== BEGIN a static call of a method with an exception table ===== -/
section VXS
variable {p : Program} {l : Launch} {e : Env} {R : Room} {s : State} {m : MethodId} {args : Array Value} {below : List Frame} {meth : Method} {c : Code} {T : State} {H : Heap} {locs : List Loc} {cells slots : Nat}
abbrev vx_CSW (R : Room) (s : State) (args : Array Value) (own : String) (index : Nat) (y : MethodName) (bytes : ByteArray) (maxL : Nat) (ret : Option FieldType) (hh : List (Nat × Nat × Nat × Nat)) (ws : List Cond) (rm : Room) (mc ms n : Nat) : Prop :=
  (rm.cells = mc ∧ rm.slots = ms ∧ rm.frames + 1 ≤ R.frames ∧ 8 + (maxL + 11) + rm.locals ≤ R.locals ∧ (∀ w ∈ ws, ∀ (a' : Array Value) (U : State), s.WarmedH U.vm → w.before a' U = true) ∧ Cond.codeWith y bytes maxL ret hh ∈ ws) ∧
  (Cond.codeWith y bytes maxL ret hh).before args s = true ∧ (Cond.initialized y.cls).before args s = true ∧ (y.cls ≠ "java/lang/invoke/MethodHandle" ∧ y.cls ≠ "java/lang/invoke/VarHandle") ∧
  (∀ sig, parseMethodDescriptor y.desc = some sig → n = sig.parameters.length) ∧ (Cond.methodLink own index y).before args s = true ∧ (Cond.static y).before args s = true
theorem vx_cwSW {own : String} {index maxL mc ms : Nat} {y : MethodName} {bytes : ByteArray} {ret : Option FieldType} {hh : List (Nat × Nat × Nat × Nat)} {Ts ws ws' : List Cond} {rm : Room} (n : Nat) (ht : ∀ w ∈ Ts, w.before args s = true) (hT : GoodIn Ts (va_wsS own index y ws)) (hw : ws = Cond.codeWith y bytes maxL ret hh :: ws') (hrc : rm.cells = mc) (hrs : rm.slots = ms)
    (hd : y.cls ≠ "java/lang/invoke/MethodHandle" ∧ y.cls ≠ "java/lang/invoke/VarHandle" ∧ (parseMethodDescriptor y.desc).map (fun d => d.parameters.length) = some n) (hR : rm.frames + 1 ≤ R.frames ∧ 8 + (maxL + 11) + rm.locals ≤ R.locals) :
    vx_CSW R s args own index y bytes maxL ret hh ws rm mc ms n := by
  have ok : ∀ w ∈ va_wsS own index y ws, w.before args s = true := fun w h => ht w (hT w h).1
  have hG : GoodIn Ts ws := fun w h => hT w (by unfold va_wsS; exact List.mem_append_right _ h)
  have hc : Cond.codeWith y bytes maxL ret hh ∈ ws := by rw [hw]; exact List.mem_cons_self
  refine ⟨⟨hrc, hrs, hR.1, hR.2, pay_in ht hG, hc⟩, ht _ (hG _ hc).1, ok _ (by simp [va_wsS]), ⟨hd.1, hd.2.1⟩, fun sig h => ?_, ok _ (by simp [va_wsS]), ok _ (by simp [va_wsS])⟩
  have h2 := hd.2.2
  rw [h] at h2
  exact (Option.some.inj h2).symm
theorem vx_callSW (X : Stand p l e R s m args below meth c T locs cells slots) (hexec : p.tables.exec = Jvm.exec) {own : String} {index : Nat} {y : MethodName} {bytes : ByteArray} {maxL : Nat} {ret : Option FieldType} {hh : List (Nat × Nat × Nat × Nat)}
    (hown : s.vm.findClass own = some m.cls) (hlink : (Cond.methodLink own index y).before args s = true) (hstat : (Cond.static y).before args s = true) (hinit : (Cond.initialized y.cls).before args s = true)
    (hcode : (Cond.codeWith y bytes maxL ret hh).before args s = true) (hy : y.cls ≠ "java/lang/invoke/MethodHandle" ∧ y.cls ≠ "java/lang/invoke/VarHandle")
    {W9 : Nat} {Pre : Pt → Array Value → Prop} {Post : Pt → Array Value → Option Value → Pt → Prop} (hK : Back l R p e below s args y 3 W9 Pre Post)
    {g : JFrame} (hg : g.method = m) (hsize : g.locals.size = c.maxLocals) {argsL rest : List Value} (hlen : ∀ sig, parseMethodDescriptor y.desc = some sig → argsL.length = sig.parameters.length)
    (hstack : g.stack = argsL.reverse ++ rest) (hW : 2 * g.monitorRoom + (rest.map fun v => v.category).sum ≤ W9) (hdg : decode c.code g.pc = .ok (.invokestatic index, 3))
    (hpre : ∀ vm₁, s.WarmedH vm₁ → Pre ⟨T.setVm vm₁, locs, cells, slots⟩ argsL.toArray) :
    ∃ (v : Option Value) (vm₁ : Vm) (B : Pt), s.WarmedH vm₁ ∧ Stand p l e R s m args below meth c B.U B.locs B.cells B.slots ∧ Post ⟨T.setVm vm₁, locs, cells, slots⟩ argsL.toArray v B ∧
      ∀ target, Steps p.tables e below (B.U.setTop { g with pc := g.pc + 3, stack := v.toList ++ rest }) target → Steps p.tables e below (T.setTop g) target := by
  obtain ⟨mk, methM, cM, hnamed, hmethM, -, -, -, -, -, -, hsigM⟩ := Cond.codeWith_spec hcode
  have hstatic : methM.isStatic = true := Cond.static_spec hnamed hmethM hstat
  obtain ⟨kP, hkP, -⟩ := className_of_methodNamed hnamed
  have hinitP : kP.init = .initialized := Cond.initialized_spec (findClass_of_methodNamed hnamed) hkP hinit
  obtain ⟨vm₁, X₁, hstep₁⟩ := X.invokestatic hexec hown hlink hnamed hmethM hstatic hkP hinitP hy (g := g) hg (argsL := argsL) (rest := rest) (hlen _ hsigM) hstack hdg
  obtain ⟨v, B, X', hpost, hsteps⟩ := hK m meth c ⟨T.setVm vm₁, locs, cells, slots⟩ { g with stack := rest } (.invokestatic index) mk argsL.toArray X₁ hg hsize hdg hW (X₁.named hnamed) (hpre vm₁ X₁.warmed)
  exact ⟨v, vm₁, B, X₁.warmed, X', hpost, fun target h => hstep₁ _ fun acts => by rw [doInvoke_state]; exact hsteps.trans h⟩
theorem vx_runSW {y : MethodName} {bytes cc : ByteArray} {maxL nL mc ms n index : Nat} {ret : Option FieldType} {hh : List (Nat × Nat × Nat × Nat)} {ws : List Cond} {rm : Room} {Pc : Array Value → State → Prop} {Qc : Array Value → State → Outcome → State → Prop} {free : Addr → Prop} {Ts : List Cond} {own : String} {As rest : List Value} {g : JFrame}
    (S : CallFix p m c cc nL s args Ts own) (hM : Met l y ws rm Pc Qc mc ms free) (cw : vx_CSW R s args own index y bytes maxL ret hh ws rm mc ms n) (hp : PreS s H Pc As)
    (hg : g.method = m) (hn : As.length = n) (hsize : g.locals.size = nL) (hstack : g.stack = As.reverse ++ rest) (hW : 2 * g.monitorRoom + (rest.map fun v => v.category).sum ≤ 8) (hdg : decode cc g.pc = .ok (.invokestatic index, 3)) (hf : cells + mc ≤ R.cells ∧ slots + ms ≤ R.slots) :
    va_Run p l e R s m args below meth c H locs cells slots mc ms g rest (Qc As.toArray) (free) := by
  obtain ⟨⟨hrc, hrs, hfr, hlo, hws, hcw⟩, hcode, hini, hy, hlen, hl, hstt⟩ := cw
  have hK : Back l R p e below s args y 3 8 (PreOf R mc ms Pc) (PostOf Qc mc ms free) := va_backW (hh := hh) (bytes := bytes) (maxL := maxL) (ret := ret) hM hp.1 hrc hrs hfr hlo hws hcw (fun a' U hW => word_at hW (Or.inl (by first | rfl | simp [Cond.onTables, Cond.keeps, Cond.steady])) hini)
  obtain ⟨hx, hb, hml, ho, -⟩ := S
  intro T hT X
  obtain ⟨v, vm₁, ⟨U', l2, c2, s2⟩, hW₁, X', ⟨g', mk, t, L, e1, e2, hq, h1, hL, h2, h3⟩, st⟩ := vx_callSW X hx (hh := hh) (bytes := bytes) (maxL := maxL) (ret := ret) ho hl hstt hini hcode hy hK hg (hsize.trans hml.symm) (argsL := As) (rest := rest) (fun sig h => hn.trans (hlen sig h)) hstack hW (by rw [hb]; exact hdg)
    (fun vm₁ hW₁ => ⟨hf.1, hf.2, hp.2 (T.setVm vm₁) hT hW₁⟩)
  dsimp only [Pt.U, Pt.locs, Pt.cells, Pt.slots] at X' e1 e2 h1 h2 h3 st
  subst h1; subst h2; subst h3
  exact ⟨v, (T.setVm vm₁).calling g' mk As.toArray, t, U', L, hT, X', hL, e1, e2, hq, st⟩
/-- not caught here, past rows that name other classes: it goes on to the caller -/
theorem vx_outP {p : Program} {l : Launch} {e : Env} {R : Room} {s : State} {m : MethodId} {args : Array Value} {below : List Frame} {meth : Method} {c : Code} {H : Heap} {locs : List Loc} {cells slots : Nat} {free : Addr → Prop} {ls : Array Slot} {rest : List Value} {Qc : Array Value → State → Outcome → State → Prop} {XC : String → State → State → Prop}
    {pc : Nat} {own E : String} {ce : Cell} {q : Addr} {mc ms : Nat} (hown : s.vm.findClass own = some m.cls) (hlocks : meth.locks = false)
    (hpass : ∀ z ∈ c.exceptionTable.toList, covers z pc = false ∨ (z.catchType ≠ 0 ∧ ∃ nm : String, (Cond.classLink own z.catchType nm).before args s = true ∧ va_Nc E nm s)) (hcell : H[q]? = some ce) (hv : ce.vm = .none) (hcl : s.vm.findClass E = some ce.cls)
    (hx : ∀ t : State, t.heap = H → s.vm.Alike t.vm → XC E s t) (hf : ∀ z ∈ locs, free z.base) (hc : cells ≤ mc) (hs : slots ≤ ms) :
    vx_W p l e R s m args below meth c H locs cells slots (vx_MQ below Qc XC args s mc ms free) (F0 m pc ls rest) q := by
  intro T hT X
  have hpl : e.platform.magicAccessors = ({} : Platform).magicAccessors := by rw [X.admits.platform]
  obtain ⟨vm', hW', X', st⟩ := X.outThrough hlocks q (g := F0 m pc ls rest) rfl rfl rfl (cell := ce) (by rw [hT]; exact hcell) (by rw [hv]; rfl)
    (by obtain ⟨k9, h9, -⟩ := Vm.findClass_spec hcl; exact ⟨k9, h9⟩) (fun z hz => by
      rcases hpass z hz with h | ⟨hz0, nm, hl1, hn1⟩
      · exact Or.inl h
      · obtain ⟨c6, hc6, hcl6⟩ := Cond.classLink_spec hown hl1 e.platform hpl
        obtain ⟨a8, b8, h1, h2, h3⟩ := hn1
        cases Option.some.inj (h1.symm.trans hcl)
        cases Option.some.inj (h2.symm.trans hc6)
        exact Or.inr ⟨hz0, _, hcl6, h3⟩)
  obtain ⟨g₀, hfr⟩ := X'.frames_eq
  have hcell9 : ((T.setVm vm').setFrames (.throwing q :: below)).heap[q]? = some ce := by
    show T.heap[q]? = some ce
    rw [hT]; exact hcell
  have hend : Ended ((T.setVm vm').setFrames (.throwing q :: below)) below (.threw q) := State.frames_setFrames _ (State.cur_lt_of_frames hfr)
  refine ⟨(T.setVm vm').setFrames (.throwing q :: below), ?_, .threw q, X'.here.running, hend, Or.inr ⟨q, rfl, E, ce, locs, hx _ hT (X'.ends _).1.alike, hcell9, hv, hcl, (X'.ends _).1, (X'.ends _).2.mono hc hs, hf⟩⟩
  rw [X.pushThrowing_eq]
  exact st
/-- a thing of a world lies in the heap -/
theorem vx_lt {D : va_G} {cl : List vw_C} {ws : va_W} {H1 : Heap} (h : va_P D cl ws H1) {k : Nat} {q : Nat × va_E} (hk : ws[k]? = some q) : q.1 < H1.size := (h k q hk).lt
end VXS
/-! ===== END ===== -/
/-! ===== BEGIN methods with a table of their own: called by a name, returning or throwing ===== -/
section VXH
/-! vx_backW, vx_callVX, vx_callSX, vx_callVW, vx_runVW, vx_runVX, vx_runSX, vx_ofWH follow the same proofs as their sisters above (Free/Laws.lean, Shelf42/LK1.lean); vx_outP calls Shelf42/NT130.lean (outThrough). -/
section
variable {l : Launch} {R : Room} {p : Program} {e : Env} {below : List Frame} {s : State} {sargs : Array Value} {y : MethodName} {len W9 : Nat}
theorem vx_backW {ws : List Cond} {rm : Room} {Pc : Array Value → State → Prop} {Qc : Array Value → State → Outcome → State → Prop} {XC : String → State → State → Prop} {mc ms : Nat} {free : Addr → Prop} {bytes : ByteArray} {maxL : Nat} {ret : Option FieldType} {hh : List (Nat × Nat × Nat × Nat)}
    (hM : vx_Met l y ws rm Pc Qc XC mc ms free) (hblind : FrameBlind Pc) (hrc : rm.cells = mc) (hrs : rm.slots = ms)
    (hframes : rm.frames + 1 ≤ R.frames) (hlocals : W9 + (maxL + 11) + rm.locals ≤ R.locals)
    (hws : ∀ w ∈ ws, ∀ a' U, s.WarmedH U.vm → w.before a' U = true) (hcode : Cond.codeWith y bytes maxL ret hh ∈ ws) (hinit : ∀ a' U, s.WarmedH U.vm → (Cond.initialized y.cls).before a' U = true) :
    vx_Back l R p e below s sargs y len W9 (PreOf R mc ms Pc) (PostOf Qc mc ms free) (vx_Post XC mc ms free) := by
  intro m meth c A g ig mk a X hg hsize hdg hW hn hp
  have h1 : (headSpec ws rm).pre.before a A.U = true := atoms_intro fun w hw => hws w hw _ _ X.warmed
  have h2 : (Cond.codeWith y bytes maxL ret hh).before a A.U = true := hws _ hcode _ _ X.warmed
  have h3 : (Cond.initialized y.cls).before a A.U = true := hinit _ _ X.warmed
  have h4 : A.cells + (headSpec ws rm).room.cells ≤ R.cells := by rw [show (headSpec ws rm).room.cells = mc from hrc]; exact hp.1
  have h5 : A.slots + (headSpec ws rm).room.slots ≤ R.slots := by rw [show (headSpec ws rm).room.slots = ms from hrs]; exact hp.2.1
  have hPc : Pc a (A.U.calling g mk a) := hblind _ _ _ _ hp.2.2
  obtain ⟨U, Ls, c0, s0⟩ := A
  dsimp only [Pt.U, Pt.locs, Pt.cells, Pt.slots] at h1 h2 h3 h4 h5 X hn hPc ⊢
  obtain ⟨m9, methY, cY, hn9, hmY, hcY, -, hlY, -⟩ := Cond.codeWith_spec h2
  cases Option.some.inj (hn9.symm.trans hn)
  obtain ⟨kY, hkY, -⟩ := className_of_methodNamed hn
  have hinitY : kY.init = .initialized := Cond.initialized_spec (findClass_of_methodNamed hn) hkY h3
  have h : At U g.method c below := by rw [hg]; exact X.here
  have hlocals9 : W9 + (maxL + 11) + (headSpec ws rm).room.locals ≤ R.locals := hlocals
  have happ : (headSpec ws rm).appliesLoose y e.platform (U.calling g mk a) = true :=
    Spec.appliesLoose_calling (g := g) h hdg hn hkY hinitY
      (X.room_calling (g := g) (R' := (headSpec ws rm).room) hsize hmY hcY hframes (by rw [hlY]; omega) h4 h5) h1
  obtain ⟨mid, hmid⟩ := h.above
  have hfr : (U.setTop g).frames = (.java g :: mid) ++ below := by rw [State.frames_setTop' g h.top, hmid]; rfl
  obtain ⟨o, s₂, hsteps, -, hend, hq⟩ := Steps.callFree hM p X.admits X.cas X.clock (acts := []) hfr happ hPc trivial
  have hq' : vx_Q Qc XC mc ms free a (U.calling g mk a) o s₂ := hq
  rw [State.frames_setTop' g h.top] at hend
  obtain ⟨g₀, hg0⟩ := Option.isSome_iff_exists.mp h.top
  obtain ⟨r, hr⟩ := State.topJava?_eq_some.mp hg0
  have hr' : (({ U with heap := s₂.heap, slotsUsed := s₂.slotsUsed } : State).setVm s₂.vm).frames = .java g₀ :: r := hr
  rcases hq' with ⟨hqc, L, hfe, hL⟩ | ⟨q, rfl, E, ce, L, hx, hce, hcv, hcl, hW₂, hsm, hL⟩
  · obtain ⟨⟨v, rfl⟩, hW₂, e2, q2, q3, q4, q5, q6⟩ := id hfe
    have e3 : s₂ = ({ (U.calling g mk a).setFrames s₂.frames with heap := s₂.heap, slotsUsed := s₂.slotsUsed } : State).setVm s₂.vm := by
      have : s₂ = ({ s₂ with vm := (U.calling g mk a).vm } : State).setVm s₂.vm := rfl
      rw [e2] at this
      exact this
    obtain ⟨c₂, i₂, len₂, hc₂, hd₂, hf₂⟩ := hend
    have hW' : U.WarmedH s₂.vm := hW₂
    have hcc : c₂ = c := by
      have h1 : s₂.code? g.method = U.code? g.method := by
        rw [State.code?_eq, State.code?_eq, hW'.alike.method?]
      exact Option.some.inj (hc₂.symm.trans (h1.trans h.code))
    subst hcc
    have hlen : len₂ = len := by rw [hdg] at hd₂; cases hd₂; rfl
    subst hlen
    have hs₂ : s₂ = (({ U with heap := s₂.heap, slotsUsed := s₂.slotsUsed } : State).setVm s₂.vm).setTop { g with pc := g.pc + len₂, stack := v.toList ++ g.stack } := by
      refine e3.trans ?_
      rw [hf₂, State.calling_eq h.top, State.setFrames_setFrames, State.setTop_of_frames _ hr', hr]
      rfl
    have hsame : U.sameButNew ({ U with heap := s₂.heap, slotsUsed := s₂.slotsUsed } : State) L mc ms := by
      refine ⟨?_, q2, q3, q4, q5, q6⟩
      obtain ⟨t, ht, -⟩ := State.frames_cons hr
      show ({ U with heap := s₂.heap, slotsUsed := s₂.slotsUsed } : State) = { U.setFrames U.frames with heap := s₂.heap, slotsUsed := s₂.slotsUsed }
      rw [State.setFrames_self ht]
    subst hg
    refine Or.inl ⟨v, ⟨(({ U with heap := s₂.heap, slotsUsed := s₂.slotsUsed } : State).setVm s₂.vm), Ls ++ L, c0 + mc, s0 + ms⟩,
      ⟨X.admits, X.cas, X.clock, X.frames, X.room, X.hears, X.method, X.code, (X.here.setHeapUsed s₂.heap s₂.slotsUsed).setVm hW'.alike, X.tail, State.WarmedH.trans X.warmed hW', X.limits, X.bytes, X.same.trans (hsame.setVm s.vm)⟩,
      ⟨g, mk, s₂, L, rfl, rfl, hqc, rfl, hL, rfl, rfl⟩, ?_⟩
    show Steps p.tables e below _ ((({ U with heap := s₂.heap, slotsUsed := s₂.slotsUsed } : State).setVm s₂.vm).setTop { g with pc := g.pc + len₂, stack := v.toList ++ g.stack })
    rw [← hs₂]
    exact hsteps
  · obtain ⟨e2, q2, q3, q4, q5, q6⟩ := id hsm
    have e3 : s₂ = ({ (U.calling g mk a).setFrames s₂.frames with heap := s₂.heap, slotsUsed := s₂.slotsUsed } : State).setVm s₂.vm := by
      have : s₂ = ({ s₂ with vm := (U.calling g mk a).vm } : State).setVm s₂.vm := rfl
      rw [e2] at this
      exact this
    have hf₂ : s₂.frames = .throwing q :: .java g :: U.frames.tail := hend
    have hW' : U.WarmedH s₂.vm := hW₂
    have hs₂ : s₂ = ((({ U with heap := s₂.heap, slotsUsed := s₂.slotsUsed } : State).setVm s₂.vm).setTop g).pushFrame (.throwing q) := by
      refine e3.trans ?_
      rw [hf₂, State.calling_eq h.top, State.setFrames_setFrames, State.pushFrame, State.frames_setTop _ hr', State.setTop_of_frames _ hr', State.setFrames_setFrames, hr]
      rfl
    have hsame : U.sameButNew ({ U with heap := s₂.heap, slotsUsed := s₂.slotsUsed } : State) L mc ms := by
      refine ⟨?_, q2, q3, q4, q5, q6⟩
      obtain ⟨t, ht, -⟩ := State.frames_cons hr
      show ({ U with heap := s₂.heap, slotsUsed := s₂.slotsUsed } : State) = { U.setFrames U.frames with heap := s₂.heap, slotsUsed := s₂.slotsUsed }
      rw [State.setFrames_self ht]
    subst hg
    refine Or.inr ⟨q, ⟨(({ U with heap := s₂.heap, slotsUsed := s₂.slotsUsed } : State).setVm s₂.vm), Ls ++ L, c0 + mc, s0 + ms⟩,
      ⟨X.admits, X.cas, X.clock, X.frames, X.room, X.hears, X.method, X.code, (X.here.setHeapUsed s₂.heap s₂.slotsUsed).setVm hW'.alike, X.tail, State.WarmedH.trans X.warmed hW', X.limits, X.bytes, X.same.trans (hsame.setVm s.vm)⟩,
      ⟨g, mk, s₂, L, E, ce, rfl, rfl, hx, hce, hcv, hcl, rfl, hL, rfl, rfl⟩, ?_⟩
    show Steps p.tables e below _ (((({ U with heap := s₂.heap, slotsUsed := s₂.slotsUsed } : State).setVm s₂.vm).setTop g).pushFrame (.throwing q))
    rw [← hs₂]
    exact hsteps
end
variable {p : Program} {l : Launch} {e : Env} {R : Room} {s : State} {m : MethodId} {args : Array Value} {below : List Frame} {meth : Method} {c : Code} {T : State} {H : Heap} {locs : List Loc} {cells slots : Nat}
theorem vx_callVX (X : Stand p l e R s m args below meth c T locs cells slots) (hexec : p.tables.exec = Jvm.exec) {own C : String} {index : Nat} {y : MethodName} {bytes : ByteArray} {maxL : Nat} {ret : Option FieldType} {hh : List (Nat × Nat × Nat × Nat)}
    (hown : s.vm.findClass own = some m.cls) (hlink : (Cond.methodLink own index y).before args s = true) (hinst : (Cond.instanceMethod y).before args s = true) (hsel : (Cond.selects C y y).before args s = true)
    (hcode : (Cond.codeWith y bytes maxL ret hh).before args s = true) (hy : y.cls ≠ "java/lang/invoke/MethodHandle" ∧ y.cls ≠ "java/lang/invoke/VarHandle")
    {W9 : Nat} {Pre : Pt → Array Value → Prop} {Post : Pt → Array Value → Option Value → Pt → Prop} {PostX : Pt → Array Value → Addr → Pt → Prop} (hK : vx_Back l R p e below s args y 3 W9 Pre Post PostX)
    {b : Addr} {cellB : Cell} (hcell : T.heap[b]? = some cellB) (hobj : cellB.vm.isStatics = false) (hcls : s.vm.findClass C = some cellB.cls)
    {g : JFrame} (hg : g.method = m) (hsize : g.locals.size = c.maxLocals) {argsL rest : List Value} (hlen : ∀ sig, parseMethodDescriptor y.desc = some sig → argsL.length = sig.parameters.length)
    (hstack : g.stack = argsL.reverse ++ .ref b :: rest) (hW : 2 * g.monitorRoom + (rest.map fun v => v.category).sum ≤ W9) (hdg : decode c.code g.pc = .ok (.invokevirtual index, 3))
    (hpre : ∀ vm₁, s.WarmedH vm₁ → Pre ⟨T.setVm vm₁, locs, cells, slots⟩ (Value.ref b :: argsL).toArray) :
    (∃ (v : Option Value) (vm₁ : Vm) (B : Pt), s.WarmedH vm₁ ∧ Stand p l e R s m args below meth c B.U B.locs B.cells B.slots ∧ Post ⟨T.setVm vm₁, locs, cells, slots⟩ (Value.ref b :: argsL).toArray v B ∧
      ∀ target, Steps p.tables e below (B.U.setTop { g with pc := g.pc + 3, stack := v.toList ++ rest }) target → Steps p.tables e below (T.setTop g) target) ∨
    (∃ (q : Addr) (vm₁ : Vm) (B : Pt), s.WarmedH vm₁ ∧ Stand p l e R s m args below meth c B.U B.locs B.cells B.slots ∧ PostX ⟨T.setVm vm₁, locs, cells, slots⟩ (Value.ref b :: argsL).toArray q B ∧
      Steps p.tables e below (T.setTop g) ((B.U.setTop { g with stack := rest }).pushFrame (.throwing q))) := by
  obtain ⟨mk, methM, hnamed, hmethM, hstM, habM⟩ := Cond.instanceMethod_spec hinst
  obtain ⟨m8, methM', cM, hn8, hmethM', -, -, -, -, -, -, hsigM⟩ := Cond.codeWith_spec hcode
  cases Option.some.inj (hn8.symm.trans hnamed)
  cases hmethM.symm.trans hmethM'
  obtain ⟨c2, r2, m2, q1, q2, q3, q4, kP, hkP, hkPi⟩ := Cond.selects_spec hsel
  cases hcls.symm.trans q1
  cases (State.methodFound?_of_named hnamed hy).symm.trans q2
  cases hnamed.symm.trans q3
  have hselP : selectMethod e.platform s.vm cellB.cls mk = .method mk := by rw [Launch.admits_selectMethod X.admits]; exact q4
  obtain ⟨vm₁, X₁, hstep₁⟩ := X.invokevirtual hexec hown hlink hnamed hmethM hstM hkP hkPi hy (a := b) (cell := cellB) hcell
    (fun z h => by rw [h] at hobj; cases hobj) hselP hmethM habM hkP hkPi (g := g) hg (argsL := argsL) (rest := rest) (hlen _ hsigM) hstack hdg
  rcases hK m meth c ⟨T.setVm vm₁, locs, cells, slots⟩ { g with stack := rest } (.invokevirtual index) mk (Value.ref b :: argsL).toArray X₁ hg hsize hdg hW (X₁.named hnamed) (hpre vm₁ X₁.warmed) with ⟨v, B, X', hpost, hsteps⟩ | ⟨q, B, X', hpost, hsteps⟩
  · exact Or.inl ⟨v, vm₁, B, X₁.warmed, X', hpost, fun target h => hstep₁ _ fun acts => by rw [doInvoke_state]; exact hsteps.trans h⟩
  · exact Or.inr ⟨q, vm₁, B, X₁.warmed, X', hpost, hstep₁ _ fun acts => by rw [doInvoke_state]; exact hsteps⟩
theorem vx_callSX (X : Stand p l e R s m args below meth c T locs cells slots) (hexec : p.tables.exec = Jvm.exec) {own : String} {index : Nat} {y : MethodName} {bytes : ByteArray} {maxL : Nat} {ret : Option FieldType} {hh : List (Nat × Nat × Nat × Nat)}
    (hown : s.vm.findClass own = some m.cls) (hlink : (Cond.methodLink own index y).before args s = true) (hstat : (Cond.static y).before args s = true) (hinit : (Cond.initialized y.cls).before args s = true)
    (hcode : (Cond.codeWith y bytes maxL ret hh).before args s = true) (hy : y.cls ≠ "java/lang/invoke/MethodHandle" ∧ y.cls ≠ "java/lang/invoke/VarHandle")
    {W9 : Nat} {Pre : Pt → Array Value → Prop} {Post : Pt → Array Value → Option Value → Pt → Prop} {PostX : Pt → Array Value → Addr → Pt → Prop} (hK : vx_Back l R p e below s args y 3 W9 Pre Post PostX)
    {g : JFrame} (hg : g.method = m) (hsize : g.locals.size = c.maxLocals) {argsL rest : List Value} (hlen : ∀ sig, parseMethodDescriptor y.desc = some sig → argsL.length = sig.parameters.length)
    (hstack : g.stack = argsL.reverse ++ rest) (hW : 2 * g.monitorRoom + (rest.map fun v => v.category).sum ≤ W9) (hdg : decode c.code g.pc = .ok (.invokestatic index, 3))
    (hpre : ∀ vm₁, s.WarmedH vm₁ → Pre ⟨T.setVm vm₁, locs, cells, slots⟩ argsL.toArray) :
    (∃ (v : Option Value) (vm₁ : Vm) (B : Pt), s.WarmedH vm₁ ∧ Stand p l e R s m args below meth c B.U B.locs B.cells B.slots ∧ Post ⟨T.setVm vm₁, locs, cells, slots⟩ argsL.toArray v B ∧
      ∀ target, Steps p.tables e below (B.U.setTop { g with pc := g.pc + 3, stack := v.toList ++ rest }) target → Steps p.tables e below (T.setTop g) target) ∨
    (∃ (q : Addr) (vm₁ : Vm) (B : Pt), s.WarmedH vm₁ ∧ Stand p l e R s m args below meth c B.U B.locs B.cells B.slots ∧ PostX ⟨T.setVm vm₁, locs, cells, slots⟩ argsL.toArray q B ∧
      Steps p.tables e below (T.setTop g) ((B.U.setTop { g with stack := rest }).pushFrame (.throwing q))) := by
  obtain ⟨mk, methM, cM, hnamed, hmethM, -, -, -, -, -, -, hsigM⟩ := Cond.codeWith_spec hcode
  have hstatic : methM.isStatic = true := Cond.static_spec hnamed hmethM hstat
  obtain ⟨kP, hkP, -⟩ := className_of_methodNamed hnamed
  have hinitP : kP.init = .initialized := Cond.initialized_spec (findClass_of_methodNamed hnamed) hkP hinit
  obtain ⟨vm₁, X₁, hstep₁⟩ := X.invokestatic hexec hown hlink hnamed hmethM hstatic hkP hinitP hy (g := g) hg (argsL := argsL) (rest := rest) (hlen _ hsigM) hstack hdg
  rcases hK m meth c ⟨T.setVm vm₁, locs, cells, slots⟩ { g with stack := rest } (.invokestatic index) mk argsL.toArray X₁ hg hsize hdg hW (X₁.named hnamed) (hpre vm₁ X₁.warmed) with ⟨v, B, X', hpost, hsteps⟩ | ⟨q, B, X', hpost, hsteps⟩
  · exact Or.inl ⟨v, vm₁, B, X₁.warmed, X', hpost, fun target h => hstep₁ _ fun acts => by rw [doInvoke_state]; exact hsteps.trans h⟩
  · exact Or.inr ⟨q, vm₁, B, X₁.warmed, X', hpost, hstep₁ _ fun acts => by rw [doInvoke_state]; exact hsteps⟩
theorem vx_callVW (X : Stand p l e R s m args below meth c T locs cells slots) (hexec : p.tables.exec = Jvm.exec) {own C : String} {index : Nat} {y : MethodName} {bytes : ByteArray} {maxL : Nat} {ret : Option FieldType} {hh : List (Nat × Nat × Nat × Nat)}
    (hown : s.vm.findClass own = some m.cls) (hlink : (Cond.methodLink own index y).before args s = true) (hinst : (Cond.instanceMethod y).before args s = true) (hsel : (Cond.selects C y y).before args s = true)
    (hcode : (Cond.codeWith y bytes maxL ret hh).before args s = true) (hy : y.cls ≠ "java/lang/invoke/MethodHandle" ∧ y.cls ≠ "java/lang/invoke/VarHandle")
    {W9 : Nat} {Pre : Pt → Array Value → Prop} {Post : Pt → Array Value → Option Value → Pt → Prop} (hK : Back l R p e below s args y 3 W9 Pre Post)
    {b : Addr} {cellB : Cell} (hcell : T.heap[b]? = some cellB) (hobj : cellB.vm.isStatics = false) (hcls : s.vm.findClass C = some cellB.cls)
    {g : JFrame} (hg : g.method = m) (hsize : g.locals.size = c.maxLocals) {argsL rest : List Value} (hlen : ∀ sig, parseMethodDescriptor y.desc = some sig → argsL.length = sig.parameters.length)
    (hstack : g.stack = argsL.reverse ++ .ref b :: rest) (hW : 2 * g.monitorRoom + (rest.map fun v => v.category).sum ≤ W9) (hdg : decode c.code g.pc = .ok (.invokevirtual index, 3))
    (hpre : ∀ vm₁, s.WarmedH vm₁ → Pre ⟨T.setVm vm₁, locs, cells, slots⟩ (Value.ref b :: argsL).toArray) :
    ∃ (v : Option Value) (vm₁ : Vm) (B : Pt), s.WarmedH vm₁ ∧ Stand p l e R s m args below meth c B.U B.locs B.cells B.slots ∧ Post ⟨T.setVm vm₁, locs, cells, slots⟩ (Value.ref b :: argsL).toArray v B ∧
      ∀ target, Steps p.tables e below (B.U.setTop { g with pc := g.pc + 3, stack := v.toList ++ rest }) target → Steps p.tables e below (T.setTop g) target := by
  obtain ⟨mk, methM, hnamed, hmethM, hstM, habM⟩ := Cond.instanceMethod_spec hinst
  obtain ⟨m8, methM', cM, hn8, hmethM', -, -, -, -, -, -, hsigM⟩ := Cond.codeWith_spec hcode
  cases Option.some.inj (hn8.symm.trans hnamed)
  cases hmethM.symm.trans hmethM'
  obtain ⟨c2, r2, m2, q1, q2, q3, q4, kP, hkP, hkPi⟩ := Cond.selects_spec hsel
  cases hcls.symm.trans q1
  cases (State.methodFound?_of_named hnamed hy).symm.trans q2
  cases hnamed.symm.trans q3
  have hselP : selectMethod e.platform s.vm cellB.cls mk = .method mk := by rw [Launch.admits_selectMethod X.admits]; exact q4
  obtain ⟨vm₁, X₁, hstep₁⟩ := X.invokevirtual hexec hown hlink hnamed hmethM hstM hkP hkPi hy (a := b) (cell := cellB) hcell
    (fun z h => by rw [h] at hobj; cases hobj) hselP hmethM habM hkP hkPi (g := g) hg (argsL := argsL) (rest := rest) (hlen _ hsigM) hstack hdg
  obtain ⟨v, B, X', hpost, hsteps⟩ := hK m meth c ⟨T.setVm vm₁, locs, cells, slots⟩ { g with stack := rest } (.invokevirtual index) mk (Value.ref b :: argsL).toArray X₁ hg hsize hdg hW (X₁.named hnamed) (hpre vm₁ X₁.warmed)
  exact ⟨v, vm₁, B, X₁.warmed, X', hpost, fun target h => hstep₁ _ fun acts => by rw [doInvoke_state]; exact hsteps.trans h⟩
abbrev vx_CVW (R : Room) (s : State) (args : Array Value) (own C : String) (index : Nat) (y : MethodName) (bytes : ByteArray) (maxL : Nat) (ret : Option FieldType) (hh : List (Nat × Nat × Nat × Nat)) (ws : List Cond) (rm : Room) (mc ms n : Nat) : Prop :=
  (rm.cells = mc ∧ rm.slots = ms ∧ rm.frames + 1 ≤ R.frames ∧ 8 + (maxL + 11) + rm.locals ≤ R.locals ∧ (∀ w ∈ ws, ∀ (a' : Array Value) (U : State), s.WarmedH U.vm → w.before a' U = true) ∧ Cond.codeWith y bytes maxL ret hh ∈ ws) ∧
  (Cond.codeWith y bytes maxL ret hh).before args s = true ∧ (Cond.initialized y.cls).before args s = true ∧ (y.cls ≠ "java/lang/invoke/MethodHandle" ∧ y.cls ≠ "java/lang/invoke/VarHandle") ∧
  (∀ sig, parseMethodDescriptor y.desc = some sig → n = sig.parameters.length) ∧ (Cond.methodLink own index y).before args s = true ∧ (Cond.instanceMethod y).before args s = true ∧ (Cond.selects C y y).before args s = true
theorem vx_cwVW {own C : String} {index maxL mc ms : Nat} {y : MethodName} {bytes : ByteArray} {ret : Option FieldType} {hh : List (Nat × Nat × Nat × Nat)} {Ts ws ws' : List Cond} {rm : Room} (n : Nat) (ht : ∀ w ∈ Ts, w.before args s = true) (hT : GoodIn Ts (wsV own index C y ws)) (hw : ws = Cond.codeWith y bytes maxL ret hh :: ws') (hrc : rm.cells = mc) (hrs : rm.slots = ms)
    (hd : y.cls = C ∧ y.cls ≠ "java/lang/invoke/MethodHandle" ∧ y.cls ≠ "java/lang/invoke/VarHandle" ∧ (parseMethodDescriptor y.desc).map (fun d => d.parameters.length) = some n) (hR : rm.frames + 1 ≤ R.frames ∧ 8 + (maxL + 11) + rm.locals ≤ R.locals) :
    vx_CVW R s args own C index y bytes maxL ret hh ws rm mc ms n := by
  obtain ⟨hC, hd⟩ := hd
  subst hC
  have ok : ∀ w ∈ wsV own index y.cls y ws, w.before args s = true := fun w h => ht w (hT w h).1
  have hG : GoodIn Ts ws := fun w h => hT w (by unfold wsV; exact List.mem_append_right _ h)
  have hc : Cond.codeWith y bytes maxL ret hh ∈ ws := by rw [hw]; exact List.mem_cons_self
  refine ⟨⟨hrc, hrs, hR.1, hR.2, pay_in ht hG, hc⟩, ht _ (hG _ hc).1, ok _ (by simp [wsV]), ⟨hd.1, hd.2.1⟩, fun sig h => ?_, ok _ (by simp [wsV]), ok _ (by simp [wsV]), ok _ (by simp [wsV])⟩
  have h2 := hd.2.2
  rw [h] at h2
  exact (Option.some.inj h2).symm
theorem vx_runVW {y : MethodName} {bytes cc : ByteArray} {maxL nL mc ms n index : Nat} {ret : Option FieldType} {hh : List (Nat × Nat × Nat × Nat)} {ws : List Cond} {rm : Room} {Pc : Array Value → State → Prop} {Qc : Array Value → State → Outcome → State → Prop} {free : Addr → Prop} {Ts : List Cond} {own C : String} {b : Addr} {As rest : List Value} {g : JFrame}
    (S : CallFix p m c cc nL s args Ts own) (hM : Met l y ws rm Pc Qc mc ms free) (cw : vx_CVW R s args own C index y bytes maxL ret hh ws rm mc ms n) (hp : PreV s H C b Pc As)
    (hg : g.method = m) (hn : As.length = n) (hsize : g.locals.size = nL) (hstack : g.stack = As.reverse ++ .ref b :: rest) (hW : 2 * g.monitorRoom + (rest.map fun v => v.category).sum ≤ 8) (hdg : decode cc g.pc = .ok (.invokevirtual index, 3)) (hf : cells + mc ≤ R.cells ∧ slots + ms ≤ R.slots) :
    va_Run p l e R s m args below meth c H locs cells slots mc ms g rest (Qc (Value.ref b :: As).toArray) free := by
  obtain ⟨⟨hrc, hrs, hfr, hlo, hws, hcw⟩, hcode, hini, hy, hlen, hl, hin, hse⟩ := cw
  have hK : Back l R p e below s args y 3 8 (PreOf R mc ms Pc) (PostOf Qc mc ms free) := va_backW (hh := hh) (bytes := bytes) (maxL := maxL) (ret := ret) hM hp.1 hrc hrs hfr hlo hws hcw (fun a' U hW => word_at hW (Or.inl (by first | rfl | simp [Cond.onTables, Cond.keeps, Cond.steady])) hini)
  obtain ⟨hx, hb, hml, ho, -⟩ := S
  obtain ⟨-, ⟨cellB, hcB, hoB, hclB⟩, hPc⟩ := hp
  intro T hT X
  obtain ⟨v, vm₁, ⟨U', l2, c2, s2⟩, hW₁, X', ⟨g', mk, t, L, e1, e2, hq, h1, hL, h2, h3⟩, st⟩ := vx_callVW X hx (C := C) (hh := hh) (bytes := bytes) (maxL := maxL) (ret := ret) ho hl hin hse hcode hy hK (by rw [hT]; exact hcB) hoB hclB hg (hsize.trans hml.symm) (argsL := As) (rest := rest) (fun sig h => hn.trans (hlen sig h)) hstack hW (by rw [hb]; exact hdg)
    (fun vm₁ hW₁ => ⟨hf.1, hf.2, hPc (T.setVm vm₁) hT hW₁⟩)
  dsimp only [Pt.U, Pt.locs, Pt.cells, Pt.slots] at X' e1 e2 h1 h2 h3 st
  subst h1; subst h2; subst h3
  exact ⟨v, (T.setVm vm₁).calling g' mk (Value.ref b :: As).toArray, t, U', L, hT, X', hL, e1, e2, hq, st⟩
section
variable {y : MethodName} {bytes cc : ByteArray} {maxL nL mc ms n index : Nat} {ret : Option FieldType} {ws : List Cond} {rm : Room} {Pc : Array Value → State → Prop} {Qc : Array Value → State → Outcome → State → Prop} {XC : String → State → State → Prop} {free : Addr → Prop} {Ts : List Cond} {own C : String} {b : Addr} {As rest : List Value} {g : JFrame}
theorem vx_runVX {hh : List (Nat × Nat × Nat × Nat)} (S : CallFix p m c cc nL s args Ts own) (hM : vx_Met l y ws rm Pc Qc XC mc ms free) (cw : vx_CVW R s args own C index y bytes maxL ret hh ws rm mc ms n) (hp : PreV s H C b Pc As)
    (hg : g.method = m) (hn : As.length = n) (hsize : g.locals.size = nL) (hstack : g.stack = As.reverse ++ .ref b :: rest) (hW : 2 * g.monitorRoom + (rest.map fun v => v.category).sum ≤ 8) (hdg : decode cc g.pc = .ok (.invokevirtual index, 3)) (hf : cells + mc ≤ R.cells ∧ slots + ms ≤ R.slots) :
    vx_Run p l e R s m args below meth c H locs cells slots mc ms g rest (Qc (Value.ref b :: As).toArray) XC free := by
  obtain ⟨⟨hrc, hrs, hfr, hlo, hws, hcw⟩, hcode, hini, hy, hlen, hl, hin, hse⟩ := cw
  have hK : vx_Back l R p e below s args y 3 8 (PreOf R mc ms Pc) (PostOf Qc mc ms free) (vx_Post XC mc ms free) := vx_backW (hh := hh) (bytes := bytes) (maxL := maxL) (ret := ret) hM hp.1 hrc hrs hfr hlo hws hcw (fun a' U hW => word_at hW (Or.inl (by first | rfl | simp [Cond.onTables, Cond.keeps, Cond.steady])) hini)
  obtain ⟨hx, hb, hml, ho, -⟩ := S
  obtain ⟨-, ⟨cellB, hcB, hoB, hclB⟩, hPc⟩ := hp
  intro T hT X
  rcases vx_callVX X hx (C := C) (hh := hh) (bytes := bytes) (maxL := maxL) (ret := ret) ho hl hin hse hcode hy hK (by rw [hT]; exact hcB) hoB hclB hg (hsize.trans hml.symm) (argsL := As) (rest := rest) (fun sig h => hn.trans (hlen sig h)) hstack hW (by rw [hb]; exact hdg)
    (fun vm₁ hW₁ => ⟨hf.1, hf.2, hPc (T.setVm vm₁) hT hW₁⟩) with ⟨v, vm₁, ⟨U', l2, c2, s2⟩, hW₁, X', ⟨g', mk, t, L, e1, e2, hq, h1, hL, h2, h3⟩, st⟩ | ⟨q, vm₁, ⟨U', l2, c2, s2⟩, hW₁, X', ⟨g', mk, t, L, E, ce, e1, e2, hq, hce, hcv, hcl, h1, hL, h2, h3⟩, st⟩
  · dsimp only [Pt.U, Pt.locs, Pt.cells, Pt.slots] at X' e1 e2 h1 h2 h3 st
    subst h1; subst h2; subst h3
    exact Or.inl ⟨v, (T.setVm vm₁).calling g' mk (Value.ref b :: As).toArray, t, U', L, hT, X', hL, e1, e2, hq, st⟩
  · dsimp only [Pt.U, Pt.locs, Pt.cells, Pt.slots] at X' e1 e2 h1 h2 h3 st hcl
    subst h1; subst h2; subst h3
    exact Or.inr ⟨q, (T.setVm vm₁).calling g' mk (Value.ref b :: As).toArray, t, U', L, E, ce, hT, X', hL, e1, e2, hq, hce, hcv, vx_cls hW₁ hcl, st⟩
theorem vx_runSX {hh : List (Nat × Nat × Nat × Nat)} (S : CallFix p m c cc nL s args Ts own) (hM : vx_Met l y ws rm Pc Qc XC mc ms free) (cw : vx_CSW R s args own index y bytes maxL ret hh ws rm mc ms n) (hp : PreS s H Pc As)
    (hg : g.method = m) (hn : As.length = n) (hsize : g.locals.size = nL) (hstack : g.stack = As.reverse ++ rest) (hW : 2 * g.monitorRoom + (rest.map fun v => v.category).sum ≤ 8) (hdg : decode cc g.pc = .ok (.invokestatic index, 3)) (hf : cells + mc ≤ R.cells ∧ slots + ms ≤ R.slots) :
    vx_Run p l e R s m args below meth c H locs cells slots mc ms g rest (Qc As.toArray) XC free := by
  obtain ⟨⟨hrc, hrs, hfr, hlo, hws, hcw⟩, hcode, hini, hy, hlen, hl, hstt⟩ := cw
  have hK : vx_Back l R p e below s args y 3 8 (PreOf R mc ms Pc) (PostOf Qc mc ms free) (vx_Post XC mc ms free) := vx_backW (hh := hh) (bytes := bytes) (maxL := maxL) (ret := ret) hM hp.1 hrc hrs hfr hlo hws hcw (fun a' U hW => word_at hW (Or.inl (by first | rfl | simp [Cond.onTables, Cond.keeps, Cond.steady])) hini)
  obtain ⟨hx, hb, hml, ho, -⟩ := S
  intro T hT X
  rcases vx_callSX X hx (hh := hh) (bytes := bytes) (maxL := maxL) (ret := ret) ho hl hstt hini hcode hy hK hg (hsize.trans hml.symm) (argsL := As) (rest := rest) (fun sig h => hn.trans (hlen sig h)) hstack hW (by rw [hb]; exact hdg)
    (fun vm₁ hW₁ => ⟨hf.1, hf.2, hp.2 (T.setVm vm₁) hT hW₁⟩) with ⟨v, vm₁, ⟨U', l2, c2, s2⟩, hW₁, X', ⟨g', mk, t, L, e1, e2, hq, h1, hL, h2, h3⟩, st⟩ | ⟨q, vm₁, ⟨U', l2, c2, s2⟩, hW₁, X', ⟨g', mk, t, L, E, ce, e1, e2, hq, hce, hcv, hcl, h1, hL, h2, h3⟩, st⟩
  · dsimp only [Pt.U, Pt.locs, Pt.cells, Pt.slots] at X' e1 e2 h1 h2 h3 st
    subst h1; subst h2; subst h3
    exact Or.inl ⟨v, (T.setVm vm₁).calling g' mk As.toArray, t, U', L, hT, X', hL, e1, e2, hq, st⟩
  · dsimp only [Pt.U, Pt.locs, Pt.cells, Pt.slots] at X' e1 e2 h1 h2 h3 st hcl
    subst h1; subst h2; subst h3
    exact Or.inr ⟨q, (T.setVm vm₁).calling g' mk As.toArray, t, U', L, E, ce, hT, X', hL, e1, e2, hq, hce, hcv, vx_cls hW₁ hcl, st⟩
end
end VXH
theorem vx_ofWH {l : Launch} {y : MethodName} {ws ws' : List Cond} {rm : Room} {Pc : Array Value → State → Prop} {Qc : Array Value → State → Outcome → State → Prop} {XC : String → State → State → Prop} {mc ms : Nat} {free : Addr → Prop} {cc : ByteArray} {maxL : Nat} {ret : Option FieldType} {hh : List (Nat × Nat × Nat × Nat)}
    (hy : plainName y.cls = true) (hw : ws = Cond.codeWith y cc maxL ret hh :: ws')
    (body : ∀ p e s m args below meth c s₁, BodyLoose p l y (headSpec ws rm) cc maxL ret e s m args below meth c s₁ → c.maxLocals = maxL → Pc args s →
      W p l e (headSpec ws rm).room s m args below meth c s.heap [] 0 0 (vx_MQ below Qc XC args s mc ms free) (entryFrame m args maxL)) : vx_Met l y ws rm Pc Qc XC mc ms free := by
  refine MetFree.of_bodyS (code := cc) (maxLocals := maxL) (ret := ret) hy ?_ ?_
  · intro args s m h hn
    obtain ⟨m9, meth, c, hn9, h1, h2, h3, h4, -, h5, h6, -⟩ := Cond.codeWith_spec (atoms_spec (ws := ws) h _ (by rw [hw]; exact List.mem_cons_self))
    cases hn.symm.trans hn9
    exact ⟨meth, c, h1, h2, h3, h4, h5, h6⟩
  · intro p e s m args below meth c s₁ B hml hP _
    have hh0 : s₁.heap = s.heap := by rw [B.state]; rfl
    obtain ⟨t, a1, o, b1, b2, b3⟩ := body p e s m args below meth c s₁ B hml hP s₁ hh0 (Stand.of_body B)
    exact ⟨t, o, a1, b1, b2, b3⟩
/-! ===== END ===== -/
end
section
def RX0 : String := "CellTrays"
def TX0 : u_T := fun k => match k with
  | 0 => ("CellTrays", "kindCount", "I", false)
  | 1 => ("CellTrays", "kindSize", "[I", true)
  | 2 => ("CellTrays", "kindStep", "[I", true)
  | 3 => ("CellTrays", "kindCells", "[I", true)
  | 4 => ("CellTrays", "kindRest", "[I", true)
  | 5 => ("CellTrays", "kindNextOffset", "[I", true)
  | 6 => ("CellTrays", "trayKind", "[I", true)
  | 7 => ("CellTrays", "trayOffset", "[I", true)
  | 8 => ("CellTrays", "trayThings", "[I", true)
  | 9 => ("CellTrays", "cellThing", "[I", true)
  | 10 => ("CellTrays", "thingCount", "I", false)
  | 11 => ("CellTrays", "thingKind", "[I", true)
  | 12 => ("CellTrays", "thingPlace", "[I", true)
  | 13 => ("CellTrays", "thingCell", "[I", true)
  | 14 => ("CellTrays", "goneCount", "I", false)
  | _ => ("CellTrays", "movedCount", "I", false)
def tyX0 : Nat → FieldType := fun k => match k with
  | 0 => .int
  | 1 => .array .int
  | 2 => .array .int
  | 3 => .array .int
  | 4 => .array .int
  | 5 => .array .int
  | 6 => .array .int
  | 7 => .array .int
  | 8 => .array .int
  | 9 => .array .int
  | 10 => .int
  | 11 => .array .int
  | 12 => .array .int
  | 13 => .array .int
  | 14 => .int
  | _ => .int
abbrev wsX00 : List Cond := u_ws RX0 TX0 16
theorem nmX0 : ∀ a, a < 16 → ∀ b, b < 16 → a ≠ b → (TX0 a).2.1 ≠ (TX0 b).2.1 := by decide +kernel
theorem tyX0_ok : ∀ k, k < 16 → parseFieldDescriptor (TX0 k).2.2.1 = some (tyX0 k) := by decide +kernel
abbrev cX0_init : ByteArray := prog_1_method_1_code
def yX0_init : MethodName := ⟨RX0, "<init>", "()V"⟩
abbrev cX0_kind : ByteArray := prog_1_method_2_code
def yX0_kind : MethodName := ⟨RX0, "kind", "(II)I"⟩
abbrev cX0_put : ByteArray := prog_1_method_3_code
def yX0_put : MethodName := ⟨RX0, "put", "(I)I"⟩
abbrev cX0_take : ByteArray := prog_1_method_4_code
def yX0_take : MethodName := ⟨RX0, "take", "(I)Z"⟩
abbrev cX0_sweep : ByteArray := prog_1_method_5_code
def yX0_sweep : MethodName := ⟨RX0, "sweep", "()I"⟩
abbrev cX0_pack : ByteArray := prog_1_method_6_code
def yX0_pack : MethodName := ⟨RX0, "pack", "(I)I"⟩
abbrev cX0_told : ByteArray := prog_1_method_7_code
def yX0_told : MethodName := ⟨RX0, "told", "(II)I"⟩
abbrev cX0_tray : ByteArray := prog_1_method_8_code
def yX0_tray : MethodName := ⟨RX0, "tray", "(II)I"⟩
abbrev cX0_cell : ByteArray := prog_1_method_9_code
def yX0_cell : MethodName := ⟨RX0, "cell", "(II)I"⟩
abbrev cX0_about : ByteArray := prog_1_method_10_code
def yX0_about : MethodName := ⟨RX0, "about", "(II)I"⟩
abbrev cX0_count : ByteArray := prog_1_method_11_code
def yX0_count : MethodName := ⟨RX0, "count", "(I)I"⟩
abbrev cX0_would : ByteArray := prog_1_method_12_code
def yX0_would : MethodName := ⟨RX0, "would", "(I)I"⟩
abbrev cX0_spares : ByteArray := prog_1_method_13_code
def yX0_spares : MethodName := ⟨RX0, "spares", "(I)I"⟩
abbrev cX0_room : ByteArray := prog_1_method_14_code
def yX0_room : MethodName := ⟨RX0, "room", "(I)I"⟩
abbrev cX0_worst : ByteArray := prog_1_method_15_code
def yX0_worst : MethodName := ⟨RX0, "worst", "()I"⟩
abbrev cX0_mean : ByteArray := prog_1_method_16_code
def yX0_mean : MethodName := ⟨RX0, "mean", "()D"⟩
abbrev cX0_digest : ByteArray := prog_1_method_17_code
def yX0_digest : MethodName := ⟨RX0, "digest", "()J"⟩
abbrev cX0_digestPlace : ByteArray := prog_1_method_18_code
def yX0_digestPlace : MethodName := ⟨RX0, "digestPlace", "(JI)J"⟩
abbrev cX0_requireKind : ByteArray := prog_1_method_19_code
def yX0_requireKind : MethodName := ⟨RX0, "requireKind", "(I)V"⟩
abbrev cX0_requireThing : ByteArray := prog_1_method_20_code
def yX0_requireThing : MethodName := ⟨RX0, "requireThing", "(I)V"⟩
abbrev cX0_requirePlace : ByteArray := prog_1_method_21_code
def yX0_requirePlace : MethodName := ⟨RX0, "requirePlace", "(I)V"⟩
abbrev cX0_requireWhat : ByteArray := prog_1_method_22_code
def yX0_requireWhat : MethodName := ⟨RX0, "requireWhat", "(II)V"⟩
abbrev cX0_placeFor : ByteArray := prog_1_method_23_code
def yX0_placeFor : MethodName := ⟨RX0, "placeFor", "(I)I"⟩
abbrev cX0_mostPartly : ByteArray := prog_1_method_24_code
def yX0_mostPartly : MethodName := ⟨RX0, "mostPartly", "(I)I"⟩
abbrev cX0_leastPartly : ByteArray := prog_1_method_25_code
def yX0_leastPartly : MethodName := ⟨RX0, "leastPartly", "(I)I"⟩
abbrev cX0_isPartly : ByteArray := prog_1_method_26_code
def yX0_isPartly : MethodName := ⟨RX0, "isPartly", "(II)Z"⟩
abbrev cX0_firstEmpty : ByteArray := prog_1_method_27_code
def yX0_firstEmpty : MethodName := ⟨RX0, "firstEmpty", "(I)I"⟩
abbrev cX0_firstBare : ByteArray := prog_1_method_28_code
def yX0_firstBare : MethodName := ⟨RX0, "firstBare", "()I"⟩
abbrev cX0_addTray : ByteArray := prog_1_method_29_code
def yX0_addTray : MethodName := ⟨RX0, "addTray", "(II)V"⟩
abbrev cX0_dropTray : ByteArray := prog_1_method_30_code
def yX0_dropTray : MethodName := ⟨RX0, "dropTray", "(I)V"⟩
abbrev cX0_layIn : ByteArray := prog_1_method_31_code
def yX0_layIn : MethodName := ⟨RX0, "layIn", "(II)V"⟩
abbrev cX0_liftOut : ByteArray := prog_1_method_32_code
def yX0_liftOut : MethodName := ⟨RX0, "liftOut", "(I)V"⟩
abbrev cX0_moveLast : ByteArray := prog_1_method_33_code
def yX0_moveLast : MethodName := ⟨RX0, "moveLast", "(II)V"⟩
abbrev cX0_cellsAt : ByteArray := prog_1_method_34_code
def yX0_cellsAt : MethodName := ⟨RX0, "cellsAt", "(I)I"⟩
abbrev cX0_traysOf : ByteArray := prog_1_method_35_code
def yX0_traysOf : MethodName := ⟨RX0, "traysOf", "(I)I"⟩
abbrev cX0_traysHolding : ByteArray := prog_1_method_36_code
def yX0_traysHolding : MethodName := ⟨RX0, "traysHolding", "(II)I"⟩
abbrev cX0_thingsOf : ByteArray := prog_1_method_37_code
def yX0_thingsOf : MethodName := ⟨RX0, "thingsOf", "(I)I"⟩
abbrev cX0_freeCellsOf : ByteArray := prog_1_method_38_code
def yX0_freeCellsOf : MethodName := ⟨RX0, "freeCellsOf", "(I)I"⟩
abbrev cX0_wastedBy : ByteArray := prog_1_method_39_code
def yX0_wastedBy : MethodName := ⟨RX0, "wastedBy", "(I)I"⟩
abbrev cX0_thingsThere : ByteArray := prog_1_method_40_code
def yX0_thingsThere : MethodName := ⟨RX0, "thingsThere", "()I"⟩
abbrev cX0_wastedInAll : ByteArray := prog_1_method_41_code
def yX0_wastedInAll : MethodName := ⟨RX0, "wastedInAll", "()I"⟩
def RX1 : String := "CellTraysModel"
def TX1 : u_T := fun k => match k with
  | 0 => ("CellTraysModel", "thrown", "I", false)
  | 1 => ("CellTraysModel", "kinds", "I", false)
  | 2 => ("CellTraysModel", "size", "[I", true)
  | 3 => ("CellTraysModel", "step", "[I", true)
  | 4 => ("CellTraysModel", "next", "[I", true)
  | 5 => ("CellTraysModel", "of", "[I", true)
  | 6 => ("CellTraysModel", "offset", "[I", true)
  | 7 => ("CellTraysModel", "many", "[I", true)
  | 8 => ("CellTraysModel", "inside", "[I", true)
  | 9 => ("CellTraysModel", "things", "I", false)
  | 10 => ("CellTraysModel", "kindOf", "[I", true)
  | 11 => ("CellTraysModel", "place", "[I", true)
  | 12 => ("CellTraysModel", "cell", "[I", true)
  | 13 => ("CellTraysModel", "gone", "I", false)
  | _ => ("CellTraysModel", "moved", "I", false)
def tyX1 : Nat → FieldType := fun k => match k with
  | 0 => .int
  | 1 => .int
  | 2 => .array .int
  | 3 => .array .int
  | 4 => .array .int
  | 5 => .array .int
  | 6 => .array .int
  | 7 => .array .int
  | 8 => .array .int
  | 9 => .int
  | 10 => .array .int
  | 11 => .array .int
  | 12 => .array .int
  | 13 => .int
  | _ => .int
abbrev wsX10 : List Cond := u_ws RX1 TX1 15
theorem nmX1 : ∀ a, a < 15 → ∀ b, b < 15 → a ≠ b → (TX1 a).2.1 ≠ (TX1 b).2.1 := by decide +kernel
theorem tyX1_ok : ∀ k, k < 15 → parseFieldDescriptor (TX1 k).2.2.1 = some (tyX1 k) := by decide +kernel
abbrev cX1_init : ByteArray := prog_3_method_1_code
def yX1_init : MethodName := ⟨RX1, "<init>", "()V"⟩
abbrev cX1_thrown : ByteArray := prog_3_method_2_code
def yX1_thrown : MethodName := ⟨RX1, "thrown", "()I"⟩
abbrev cX1_no : ByteArray := prog_3_method_3_code
def yX1_no : MethodName := ⟨RX1, "no", "(I)I"⟩
abbrev cX1_isIn : ByteArray := prog_3_method_4_code
def yX1_isIn : MethodName := ⟨RX1, "isIn", "(III)Z"⟩
abbrev cX1_isKind : ByteArray := prog_3_method_5_code
def yX1_isKind : MethodName := ⟨RX1, "isKind", "(I)Z"⟩
abbrev cX1_isThing : ByteArray := prog_3_method_6_code
def yX1_isThing : MethodName := ⟨RX1, "isThing", "(I)Z"⟩
abbrev cX1_cells : ByteArray := prog_3_method_7_code
def yX1_cells : MethodName := ⟨RX1, "cells", "(I)I"⟩
abbrev cX1_isEmpty : ByteArray := prog_3_method_8_code
def yX1_isEmpty : MethodName := ⟨RX1, "isEmpty", "(II)Z"⟩
abbrev cX1_isPartly : ByteArray := prog_3_method_9_code
def yX1_isPartly : MethodName := ⟨RX1, "isPartly", "(II)Z"⟩
abbrev cX1_fullest : ByteArray := prog_3_method_10_code
def yX1_fullest : MethodName := ⟨RX1, "fullest", "(I)I"⟩
abbrev cX1_leanest : ByteArray := prog_3_method_11_code
def yX1_leanest : MethodName := ⟨RX1, "leanest", "(I)I"⟩
abbrev cX1_firstEmpty : ByteArray := prog_3_method_12_code
def yX1_firstEmpty : MethodName := ⟨RX1, "firstEmpty", "(I)I"⟩
abbrev cX1_firstFree : ByteArray := prog_3_method_13_code
def yX1_firstFree : MethodName := ⟨RX1, "firstFree", "()I"⟩
abbrev cX1_goesTo : ByteArray := prog_3_method_14_code
def yX1_goesTo : MethodName := ⟨RX1, "goesTo", "(I)I"⟩
abbrev cX1_open : ByteArray := prog_3_method_15_code
def yX1_open : MethodName := ⟨RX1, "open", "(II)V"⟩
abbrev cX1_lay : ByteArray := prog_3_method_16_code
def yX1_lay : MethodName := ⟨RX1, "lay", "(III)V"⟩
abbrev cX1_lift : ByteArray := prog_3_method_17_code
def yX1_lift : MethodName := ⟨RX1, "lift", "(I)V"⟩
abbrev cX1_freeCell : ByteArray := prog_3_method_18_code
def yX1_freeCell : MethodName := ⟨RX1, "freeCell", "(I)I"⟩
abbrev cX1_lastThing : ByteArray := prog_3_method_19_code
def yX1_lastThing : MethodName := ⟨RX1, "lastThing", "(I)I"⟩
abbrev cX1_close : ByteArray := prog_3_method_20_code
def yX1_close : MethodName := ⟨RX1, "close", "(I)V"⟩
abbrev cX1_empties : ByteArray := prog_3_method_21_code
def yX1_empties : MethodName := ⟨RX1, "empties", "(I)I"⟩
abbrev cX1_kind : ByteArray := prog_3_method_22_code
def yX1_kind : MethodName := ⟨RX1, "kind", "(II)I"⟩
abbrev cX1_put : ByteArray := prog_3_method_23_code
def yX1_put : MethodName := ⟨RX1, "put", "(I)I"⟩
abbrev cX1_take : ByteArray := prog_3_method_24_code
def yX1_take : MethodName := ⟨RX1, "take", "(I)Z"⟩
abbrev cX1_sweep : ByteArray := prog_3_method_25_code
def yX1_sweep : MethodName := ⟨RX1, "sweep", "()I"⟩
abbrev cX1_pack : ByteArray := prog_3_method_26_code
def yX1_pack : MethodName := ⟨RX1, "pack", "(I)I"⟩
abbrev cX1_thingTold : ByteArray := prog_3_method_27_code
def yX1_thingTold : MethodName := ⟨RX1, "thingTold", "(II)I"⟩
abbrev cX1_told : ByteArray := prog_3_method_28_code
def yX1_told : MethodName := ⟨RX1, "told", "(II)I"⟩
abbrev cX1_wasted : ByteArray := prog_3_method_29_code
def yX1_wasted : MethodName := ⟨RX1, "wasted", "(I)I"⟩
abbrev cX1_trayTold : ByteArray := prog_3_method_30_code
def yX1_trayTold : MethodName := ⟨RX1, "trayTold", "(II)I"⟩
abbrev cX1_tray : ByteArray := prog_3_method_31_code
def yX1_tray : MethodName := ⟨RX1, "tray", "(II)I"⟩
abbrev cX1_cell : ByteArray := prog_3_method_32_code
def yX1_cell : MethodName := ⟨RX1, "cell", "(II)I"⟩
abbrev cX1_trays : ByteArray := prog_3_method_33_code
def yX1_trays : MethodName := ⟨RX1, "trays", "(I)I"⟩
abbrev cX1_full : ByteArray := prog_3_method_34_code
def yX1_full : MethodName := ⟨RX1, "full", "(I)I"⟩
abbrev cX1_lying : ByteArray := prog_3_method_35_code
def yX1_lying : MethodName := ⟨RX1, "lying", "(I)I"⟩
abbrev cX1_kindTold : ByteArray := prog_3_method_36_code
def yX1_kindTold : MethodName := ⟨RX1, "kindTold", "(II)I"⟩
abbrev cX1_about : ByteArray := prog_3_method_37_code
def yX1_about : MethodName := ⟨RX1, "about", "(II)I"⟩
abbrev cX1_counted : ByteArray := prog_3_method_38_code
def yX1_counted : MethodName := ⟨RX1, "counted", "(I)I"⟩
abbrev cX1_count : ByteArray := prog_3_method_39_code
def yX1_count : MethodName := ⟨RX1, "count", "(I)I"⟩
abbrev cX1_would : ByteArray := prog_3_method_40_code
def yX1_would : MethodName := ⟨RX1, "would", "(I)I"⟩
abbrev cX1_spares : ByteArray := prog_3_method_41_code
def yX1_spares : MethodName := ⟨RX1, "spares", "(I)I"⟩
abbrev cX1_room : ByteArray := prog_3_method_42_code
def yX1_room : MethodName := ⟨RX1, "room", "(I)I"⟩
abbrev cX1_worst : ByteArray := prog_3_method_43_code
def yX1_worst : MethodName := ⟨RX1, "worst", "()I"⟩
abbrev cX1_mean : ByteArray := prog_3_method_44_code
def yX1_mean : MethodName := ⟨RX1, "mean", "()D"⟩
abbrev cX1_digest : ByteArray := prog_3_method_45_code
def yX1_digest : MethodName := ⟨RX1, "digest", "()J"⟩
def RJ0 : String := "java/lang/String"
def TJ0 : u_T := fun k => match k with
  | _ => ("", "", "", false)
def tyJ0 : Nat → FieldType := fun k => match k with
  | _ => .int
abbrev wsJ00 : List Cond := u_ws RJ0 TJ0 0
theorem nmJ0 : ∀ a, a < 0 → ∀ b, b < 0 → a ≠ b → (TJ0 a).2.1 ≠ (TJ0 b).2.1 := by decide +kernel
theorem tyJ0_ok : ∀ k, k < 0 → parseFieldDescriptor (TJ0 k).2.2.1 = some (tyJ0 k) := by decide +kernel
def RL : String := "CellTraysLaw"
abbrev cL_kind : ByteArray := method_3_code
def yL_kind : MethodName := ⟨RL, "kind", "(LCellTrays;II[J)I"⟩
abbrev cL_put : ByteArray := method_4_code
def yL_put : MethodName := ⟨RL, "put", "(LCellTrays;I[J)I"⟩
abbrev cL_take : ByteArray := method_5_code
def yL_take : MethodName := ⟨RL, "take", "(LCellTrays;I[J)I"⟩
abbrev cL_pack : ByteArray := method_6_code
def yL_pack : MethodName := ⟨RL, "pack", "(LCellTrays;I[J)I"⟩
abbrev cL_told : ByteArray := method_7_code
def yL_told : MethodName := ⟨RL, "told", "(LCellTrays;II[J)I"⟩
abbrev cL_tray : ByteArray := method_8_code
def yL_tray : MethodName := ⟨RL, "tray", "(LCellTrays;II[J)I"⟩
abbrev cL_cell : ByteArray := method_9_code
def yL_cell : MethodName := ⟨RL, "cell", "(LCellTrays;II[J)I"⟩
abbrev cL_about : ByteArray := method_10_code
def yL_about : MethodName := ⟨RL, "about", "(LCellTrays;II[J)I"⟩
abbrev cL_count : ByteArray := method_11_code
def yL_count : MethodName := ⟨RL, "count", "(LCellTrays;I[J)I"⟩
abbrev cL_would : ByteArray := method_12_code
def yL_would : MethodName := ⟨RL, "would", "(LCellTrays;I[J)I"⟩
abbrev cL_spares : ByteArray := method_13_code
def yL_spares : MethodName := ⟨RL, "spares", "(LCellTrays;I[J)I"⟩
abbrev cL_room : ByteArray := method_14_code
def yL_room : MethodName := ⟨RL, "room", "(LCellTrays;I[J)I"⟩
abbrev cL_law : ByteArray := code
def yL_law : MethodName := ⟨RL, "law", "([I)Z"⟩
def wsX0_init : List Cond := .code yX0_init cX0_init 2 none :: ([.methodLink RX0 1 objectInit, .instanceMethod objectInit, .code objectInit ⟨#[0xb1]⟩ 1 none, .arrayClass .int, .fieldLink RX0 9 "CellTrays" "kindSize" "[I", .fieldLink RX0 13 "CellTrays" "kindStep" "[I", .fieldLink RX0 16 "CellTrays" "kindCells" "[I", .fieldLink RX0 19 "CellTrays" "kindRest" "[I", .fieldLink RX0 22 "CellTrays" "kindNextOffset" "[I", .fieldLink RX0 25 "CellTrays" "trayKind" "[I", .fieldLink RX0 28 "CellTrays" "trayOffset" "[I", .fieldLink RX0 31 "CellTrays" "trayThings" "[I", .fieldLink RX0 34 "CellTrays" "cellThing" "[I", .fieldLink RX0 37 "CellTrays" "thingKind" "[I", .fieldLink RX0 40 "CellTrays" "thingPlace" "[I", .fieldLink RX0 43 "CellTrays" "thingCell" "[I"] ++ wsX00)
def wsX0_kind : List Cond := .code yX0_kind cX0_kind 4 (some .int) :: ([.classLink RX0 46 "java/lang/IllegalArgumentException", .initialized "java/lang/IllegalArgumentException", .classLink RX0 59 "java/lang/IllegalStateException", .initialized "java/lang/IllegalStateException", .fieldLink RX0 55 "CellTrays" "kindCount" "I", .fieldLink RX0 9 "CellTrays" "kindSize" "[I", .fieldLink RX0 13 "CellTrays" "kindStep" "[I", .fieldLink RX0 16 "CellTrays" "kindCells" "[I", .fieldLink RX0 19 "CellTrays" "kindRest" "[I"] ++ wsX00 ++ (vx_atS RX0 50 "java/lang/IllegalArgumentException" ["java/lang/RuntimeException", "java/lang/Exception"]).filter goodWord ++ (vx_atS RX0 63 "java/lang/IllegalStateException" ["java/lang/RuntimeException", "java/lang/Exception"]).filter goodWord)
def wsX0_requireKind : List Cond := .code yX0_requireKind cX0_requireKind 2 none :: ([.classLink RX0 121 "java/lang/IndexOutOfBoundsException", .initialized "java/lang/IndexOutOfBoundsException", .fieldLink RX0 55 "CellTrays" "kindCount" "I"] ++ wsX00 ++ (vx_atS RX0 125 "java/lang/IndexOutOfBoundsException" ["java/lang/RuntimeException", "java/lang/Exception"]).filter goodWord)
def wsX0_isPartly : List Cond := .code yX0_isPartly cX0_isPartly 3 (some .boolean) :: ([.fieldLink RX0 25 "CellTrays" "trayKind" "[I", .fieldLink RX0 31 "CellTrays" "trayThings" "[I", .fieldLink RX0 16 "CellTrays" "kindCells" "[I"] ++ wsX00)
def wsX0_mostPartly : List Cond := .code yX0_mostPartly cX0_mostPartly 5 (some .int) :: ([.fieldLink RX0 31 "CellTrays" "trayThings" "[I", .methodLink RX0 180 yX0_isPartly, .instanceMethod yX0_isPartly, .selects RX0 yX0_isPartly yX0_isPartly, .initialized RX0, .code yX0_isPartly cX0_isPartly 3 (some .boolean), .fieldLink RX0 25 "CellTrays" "trayKind" "[I", .fieldLink RX0 16 "CellTrays" "kindCells" "[I"] ++ wsX00)
def wsX0_firstEmpty : List Cond := .code yX0_firstEmpty cX0_firstEmpty 3 (some .int) :: ([.fieldLink RX0 25 "CellTrays" "trayKind" "[I", .fieldLink RX0 31 "CellTrays" "trayThings" "[I"] ++ wsX00)
def wsX0_firstBare : List Cond := .code yX0_firstBare cX0_firstBare 2 (some .int) :: ([.fieldLink RX0 25 "CellTrays" "trayKind" "[I"] ++ wsX00)
def wsX0_placeFor : List Cond := .code yX0_placeFor cX0_placeFor 3 (some .int) :: ([.methodLink RX0 103 yX0_mostPartly, .instanceMethod yX0_mostPartly, .selects RX0 yX0_mostPartly yX0_mostPartly, .initialized RX0, .code yX0_mostPartly cX0_mostPartly 5 (some .int), .fieldLink RX0 31 "CellTrays" "trayThings" "[I", .methodLink RX0 180 yX0_isPartly, .instanceMethod yX0_isPartly, .selects RX0 yX0_isPartly yX0_isPartly, .code yX0_isPartly cX0_isPartly 3 (some .boolean), .fieldLink RX0 25 "CellTrays" "trayKind" "[I", .fieldLink RX0 16 "CellTrays" "kindCells" "[I", .methodLink RX0 91 yX0_firstEmpty, .instanceMethod yX0_firstEmpty, .selects RX0 yX0_firstEmpty yX0_firstEmpty, .code yX0_firstEmpty cX0_firstEmpty 3 (some .int), .methodLink RX0 177 yX0_firstBare, .instanceMethod yX0_firstBare, .selects RX0 yX0_firstBare yX0_firstBare, .code yX0_firstBare cX0_firstBare 2 (some .int)] ++ wsX00)
def wsX0_addTray : List Cond := .code yX0_addTray cX0_addTray 4 none :: ([.fieldLink RX0 25 "CellTrays" "trayKind" "[I", .fieldLink RX0 28 "CellTrays" "trayOffset" "[I", .fieldLink RX0 22 "CellTrays" "kindNextOffset" "[I", .fieldLink RX0 13 "CellTrays" "kindStep" "[I", .fieldLink RX0 19 "CellTrays" "kindRest" "[I"] ++ wsX00)
def wsX0_cellsAt : List Cond := .code yX0_cellsAt cX0_cellsAt 3 (some .int) :: ([.fieldLink RX0 25 "CellTrays" "trayKind" "[I", .fieldLink RX0 16 "CellTrays" "kindCells" "[I"] ++ wsX00)
def wsX0_layIn : List Cond := .code yX0_layIn cX0_layIn 5 none :: ([.fieldLink RX0 34 "CellTrays" "cellThing" "[I", .fieldLink RX0 31 "CellTrays" "trayThings" "[I", .fieldLink RX0 40 "CellTrays" "thingPlace" "[I", .fieldLink RX0 43 "CellTrays" "thingCell" "[I", .methodLink RX0 118 yX0_cellsAt, .instanceMethod yX0_cellsAt, .selects RX0 yX0_cellsAt yX0_cellsAt, .initialized RX0, .code yX0_cellsAt cX0_cellsAt 3 (some .int), .fieldLink RX0 25 "CellTrays" "trayKind" "[I", .fieldLink RX0 16 "CellTrays" "kindCells" "[I"] ++ wsX00)
def wsX0_put_r1 : List Cond := [Cond.classLink RX0 59 "java/lang/IllegalStateException", Cond.initialized "java/lang/IllegalStateException", Cond.fieldLink RX0 68 "CellTrays" "thingCount" "I", Cond.fieldLink RX0 25 "CellTrays" "trayKind" "[I", Cond.fieldLink RX0 37 "CellTrays" "thingKind" "[I", Cond.methodLink RX0 64 yX0_requireKind, Cond.instanceMethod yX0_requireKind, Cond.selects RX0 yX0_requireKind yX0_requireKind, Cond.initialized RX0, Cond.code yX0_requireKind cX0_requireKind 2 none, Cond.classLink RX0 121 "java/lang/IndexOutOfBoundsException", Cond.initialized "java/lang/IndexOutOfBoundsException", Cond.fieldLink RX0 55 "CellTrays" "kindCount" "I", Cond.methodLink RX0 73 yX0_placeFor, Cond.instanceMethod yX0_placeFor, Cond.selects RX0 yX0_placeFor yX0_placeFor, Cond.code yX0_placeFor cX0_placeFor 3 (some .int), Cond.methodLink RX0 103 yX0_mostPartly, Cond.instanceMethod yX0_mostPartly, Cond.selects RX0 yX0_mostPartly yX0_mostPartly, Cond.code yX0_mostPartly cX0_mostPartly 5 (some .int), Cond.fieldLink RX0 31 "CellTrays" "trayThings" "[I", Cond.methodLink RX0 180 yX0_isPartly, Cond.instanceMethod yX0_isPartly]
def wsX0_put_r2 : List Cond := [Cond.selects RX0 yX0_isPartly yX0_isPartly, Cond.code yX0_isPartly cX0_isPartly 3 (some .boolean), Cond.fieldLink RX0 16 "CellTrays" "kindCells" "[I", Cond.methodLink RX0 91 yX0_firstEmpty, Cond.instanceMethod yX0_firstEmpty, Cond.selects RX0 yX0_firstEmpty yX0_firstEmpty, Cond.code yX0_firstEmpty cX0_firstEmpty 3 (some .int), Cond.methodLink RX0 177 yX0_firstBare, Cond.instanceMethod yX0_firstBare, Cond.selects RX0 yX0_firstBare yX0_firstBare, Cond.code yX0_firstBare cX0_firstBare 2 (some .int), Cond.methodLink RX0 79 yX0_addTray, Cond.instanceMethod yX0_addTray, Cond.selects RX0 yX0_addTray yX0_addTray, Cond.code yX0_addTray cX0_addTray 4 none, Cond.fieldLink RX0 28 "CellTrays" "trayOffset" "[I", Cond.fieldLink RX0 22 "CellTrays" "kindNextOffset" "[I", Cond.fieldLink RX0 13 "CellTrays" "kindStep" "[I", Cond.fieldLink RX0 19 "CellTrays" "kindRest" "[I", Cond.methodLink RX0 83 yX0_layIn, Cond.instanceMethod yX0_layIn, Cond.selects RX0 yX0_layIn yX0_layIn, Cond.code yX0_layIn cX0_layIn 5 none, Cond.fieldLink RX0 34 "CellTrays" "cellThing" "[I"]
def wsX0_put_r3 : List Cond := [Cond.fieldLink RX0 40 "CellTrays" "thingPlace" "[I", Cond.fieldLink RX0 43 "CellTrays" "thingCell" "[I", Cond.methodLink RX0 118 yX0_cellsAt, Cond.instanceMethod yX0_cellsAt, Cond.selects RX0 yX0_cellsAt yX0_cellsAt, Cond.code yX0_cellsAt cX0_cellsAt 3 (some .int)]
def wsX0_put : List Cond := .code yX0_put cX0_put 4 (some .int) :: ((wsX0_put_r1 ++ (wsX0_put_r2 ++ wsX0_put_r3)) ++ wsX00 ++ (vx_atS RX0 63 "java/lang/IllegalStateException" ["java/lang/RuntimeException", "java/lang/Exception"]).filter goodWord ++ (vx_atS RX0 125 "java/lang/IndexOutOfBoundsException" ["java/lang/RuntimeException", "java/lang/Exception"]).filter goodWord)
def wsX0_requireThing : List Cond := .code yX0_requireThing cX0_requireThing 2 none :: ([.classLink RX0 121 "java/lang/IndexOutOfBoundsException", .initialized "java/lang/IndexOutOfBoundsException", .fieldLink RX0 68 "CellTrays" "thingCount" "I"] ++ wsX00 ++ (vx_atS RX0 125 "java/lang/IndexOutOfBoundsException" ["java/lang/RuntimeException", "java/lang/Exception"]).filter goodWord)
def wsX0_liftOut : List Cond := .code yX0_liftOut cX0_liftOut 3 none :: ([.fieldLink RX0 40 "CellTrays" "thingPlace" "[I", .fieldLink RX0 34 "CellTrays" "cellThing" "[I", .fieldLink RX0 43 "CellTrays" "thingCell" "[I", .fieldLink RX0 31 "CellTrays" "trayThings" "[I"] ++ wsX00)
def wsX0_dropTray : List Cond := .code yX0_dropTray cX0_dropTray 2 none :: ([.fieldLink RX0 25 "CellTrays" "trayKind" "[I", .fieldLink RX0 146 "CellTrays" "goneCount" "I"] ++ wsX00)
def wsX0_take_r1 : List Cond := [Cond.classLink RX0 59 "java/lang/IllegalStateException", Cond.initialized "java/lang/IllegalStateException", Cond.fieldLink RX0 40 "CellTrays" "thingPlace" "[I", Cond.fieldLink RX0 37 "CellTrays" "thingKind" "[I", Cond.fieldLink RX0 31 "CellTrays" "trayThings" "[I", Cond.methodLink RX0 86 yX0_requireThing, Cond.instanceMethod yX0_requireThing, Cond.selects RX0 yX0_requireThing yX0_requireThing, Cond.initialized RX0, Cond.code yX0_requireThing cX0_requireThing 2 none, Cond.classLink RX0 121 "java/lang/IndexOutOfBoundsException", Cond.initialized "java/lang/IndexOutOfBoundsException", Cond.fieldLink RX0 68 "CellTrays" "thingCount" "I", Cond.methodLink RX0 91 yX0_firstEmpty, Cond.instanceMethod yX0_firstEmpty, Cond.selects RX0 yX0_firstEmpty yX0_firstEmpty, Cond.code yX0_firstEmpty cX0_firstEmpty 3 (some .int), Cond.fieldLink RX0 25 "CellTrays" "trayKind" "[I", Cond.methodLink RX0 94 yX0_liftOut, Cond.instanceMethod yX0_liftOut, Cond.selects RX0 yX0_liftOut yX0_liftOut, Cond.code yX0_liftOut cX0_liftOut 3 none, Cond.fieldLink RX0 34 "CellTrays" "cellThing" "[I", Cond.fieldLink RX0 43 "CellTrays" "thingCell" "[I"]
def wsX0_take_r2 : List Cond := [Cond.methodLink RX0 97 yX0_dropTray, Cond.instanceMethod yX0_dropTray, Cond.selects RX0 yX0_dropTray yX0_dropTray, Cond.code yX0_dropTray cX0_dropTray 2 none, Cond.fieldLink RX0 146 "CellTrays" "goneCount" "I"]
def wsX0_take : List Cond := .code yX0_take cX0_take 5 (some .boolean) :: ((wsX0_take_r1 ++ wsX0_take_r2) ++ wsX00 ++ (vx_atS RX0 63 "java/lang/IllegalStateException" ["java/lang/RuntimeException", "java/lang/Exception"]).filter goodWord ++ (vx_atS RX0 125 "java/lang/IndexOutOfBoundsException" ["java/lang/RuntimeException", "java/lang/Exception"]).filter goodWord)
def wsX0_sweep : List Cond := .code yX0_sweep cX0_sweep 3 (some .int) :: ([.fieldLink RX0 25 "CellTrays" "trayKind" "[I", .fieldLink RX0 31 "CellTrays" "trayThings" "[I", .methodLink RX0 97 yX0_dropTray, .instanceMethod yX0_dropTray, .selects RX0 yX0_dropTray yX0_dropTray, .initialized RX0, .code yX0_dropTray cX0_dropTray 2 none, .fieldLink RX0 146 "CellTrays" "goneCount" "I"] ++ wsX00)
def wsX0_leastPartly : List Cond := .code yX0_leastPartly cX0_leastPartly 5 (some .int) :: ([.fieldLink RX0 31 "CellTrays" "trayThings" "[I", .methodLink RX0 180 yX0_isPartly, .instanceMethod yX0_isPartly, .selects RX0 yX0_isPartly yX0_isPartly, .initialized RX0, .code yX0_isPartly cX0_isPartly 3 (some .boolean), .fieldLink RX0 25 "CellTrays" "trayKind" "[I", .fieldLink RX0 16 "CellTrays" "kindCells" "[I"] ++ wsX00)
def wsX0_moveLast : List Cond := .code yX0_moveLast cX0_moveLast 5 none :: ([.fieldLink RX0 34 "CellTrays" "cellThing" "[I", .methodLink RX0 118 yX0_cellsAt, .instanceMethod yX0_cellsAt, .selects RX0 yX0_cellsAt yX0_cellsAt, .initialized RX0, .code yX0_cellsAt cX0_cellsAt 3 (some .int), .fieldLink RX0 25 "CellTrays" "trayKind" "[I", .fieldLink RX0 16 "CellTrays" "kindCells" "[I", .methodLink RX0 94 yX0_liftOut, .instanceMethod yX0_liftOut, .selects RX0 yX0_liftOut yX0_liftOut, .code yX0_liftOut cX0_liftOut 3 none, .fieldLink RX0 40 "CellTrays" "thingPlace" "[I", .fieldLink RX0 43 "CellTrays" "thingCell" "[I", .fieldLink RX0 31 "CellTrays" "trayThings" "[I", .methodLink RX0 83 yX0_layIn, .instanceMethod yX0_layIn, .selects RX0 yX0_layIn yX0_layIn, .code yX0_layIn cX0_layIn 5 none] ++ wsX00)
def wsX0_pack_r1 : List Cond := [Cond.fieldLink RX0 109 "CellTrays" "movedCount" "I", Cond.methodLink RX0 64 yX0_requireKind, Cond.instanceMethod yX0_requireKind, Cond.selects RX0 yX0_requireKind yX0_requireKind, Cond.initialized RX0, Cond.code yX0_requireKind cX0_requireKind 2 none, Cond.classLink RX0 121 "java/lang/IndexOutOfBoundsException", Cond.initialized "java/lang/IndexOutOfBoundsException", Cond.fieldLink RX0 55 "CellTrays" "kindCount" "I", Cond.methodLink RX0 100 yX0_leastPartly, Cond.instanceMethod yX0_leastPartly, Cond.selects RX0 yX0_leastPartly yX0_leastPartly, Cond.code yX0_leastPartly cX0_leastPartly 5 (some .int), Cond.fieldLink RX0 31 "CellTrays" "trayThings" "[I", Cond.methodLink RX0 180 yX0_isPartly, Cond.instanceMethod yX0_isPartly, Cond.selects RX0 yX0_isPartly yX0_isPartly, Cond.code yX0_isPartly cX0_isPartly 3 (some .boolean), Cond.fieldLink RX0 25 "CellTrays" "trayKind" "[I", Cond.fieldLink RX0 16 "CellTrays" "kindCells" "[I", Cond.methodLink RX0 103 yX0_mostPartly, Cond.instanceMethod yX0_mostPartly, Cond.selects RX0 yX0_mostPartly yX0_mostPartly, Cond.code yX0_mostPartly cX0_mostPartly 5 (some .int)]
def wsX0_pack_r2 : List Cond := [Cond.methodLink RX0 106 yX0_moveLast, Cond.instanceMethod yX0_moveLast, Cond.selects RX0 yX0_moveLast yX0_moveLast, Cond.code yX0_moveLast cX0_moveLast 5 none, Cond.fieldLink RX0 34 "CellTrays" "cellThing" "[I", Cond.methodLink RX0 118 yX0_cellsAt, Cond.instanceMethod yX0_cellsAt, Cond.selects RX0 yX0_cellsAt yX0_cellsAt, Cond.code yX0_cellsAt cX0_cellsAt 3 (some .int), Cond.methodLink RX0 94 yX0_liftOut, Cond.instanceMethod yX0_liftOut, Cond.selects RX0 yX0_liftOut yX0_liftOut, Cond.code yX0_liftOut cX0_liftOut 3 none, Cond.fieldLink RX0 40 "CellTrays" "thingPlace" "[I", Cond.fieldLink RX0 43 "CellTrays" "thingCell" "[I", Cond.methodLink RX0 83 yX0_layIn, Cond.instanceMethod yX0_layIn, Cond.selects RX0 yX0_layIn yX0_layIn, Cond.code yX0_layIn cX0_layIn 5 none]
def wsX0_pack : List Cond := .code yX0_pack cX0_pack 5 (some .int) :: ((wsX0_pack_r1 ++ wsX0_pack_r2) ++ wsX00 ++ (vx_atS RX0 125 "java/lang/IndexOutOfBoundsException" ["java/lang/RuntimeException", "java/lang/Exception"]).filter goodWord)
def wsX0_requireWhat : List Cond := .code yX0_requireWhat cX0_requireWhat 3 none :: ([.classLink RX0 121 "java/lang/IndexOutOfBoundsException", .initialized "java/lang/IndexOutOfBoundsException"] ++ (vx_atS RX0 125 "java/lang/IndexOutOfBoundsException" ["java/lang/RuntimeException", "java/lang/Exception"]).filter goodWord)
def wsX0_told : List Cond := .code yX0_told cX0_told 6 (some .int) :: ([.fieldLink RX0 37 "CellTrays" "thingKind" "[I", .fieldLink RX0 40 "CellTrays" "thingPlace" "[I", .fieldLink RX0 43 "CellTrays" "thingCell" "[I", .fieldLink RX0 28 "CellTrays" "trayOffset" "[I", .fieldLink RX0 9 "CellTrays" "kindSize" "[I", .methodLink RX0 86 yX0_requireThing, .instanceMethod yX0_requireThing, .selects RX0 yX0_requireThing yX0_requireThing, .initialized RX0, .code yX0_requireThing cX0_requireThing 2 none, .classLink RX0 121 "java/lang/IndexOutOfBoundsException", .initialized "java/lang/IndexOutOfBoundsException", .fieldLink RX0 68 "CellTrays" "thingCount" "I", .methodLink RX0 112 yX0_requireWhat, .instanceMethod yX0_requireWhat, .selects RX0 yX0_requireWhat yX0_requireWhat, .code yX0_requireWhat cX0_requireWhat 3 none] ++ wsX00 ++ (vx_atS RX0 125 "java/lang/IndexOutOfBoundsException" ["java/lang/RuntimeException", "java/lang/Exception"]).filter goodWord)
def wsX0_requirePlace : List Cond := .code yX0_requirePlace cX0_requirePlace 2 none :: ([.classLink RX0 121 "java/lang/IndexOutOfBoundsException", .initialized "java/lang/IndexOutOfBoundsException"] ++ (vx_atS RX0 125 "java/lang/IndexOutOfBoundsException" ["java/lang/RuntimeException", "java/lang/Exception"]).filter goodWord)
def wsX0_tray : List Cond := .code yX0_tray cX0_tray 4 (some .int) :: ([.fieldLink RX0 25 "CellTrays" "trayKind" "[I", .fieldLink RX0 28 "CellTrays" "trayOffset" "[I", .fieldLink RX0 16 "CellTrays" "kindCells" "[I", .fieldLink RX0 31 "CellTrays" "trayThings" "[I", .fieldLink RX0 9 "CellTrays" "kindSize" "[I", .methodLink RX0 115 yX0_requirePlace, .instanceMethod yX0_requirePlace, .selects RX0 yX0_requirePlace yX0_requirePlace, .initialized RX0, .code yX0_requirePlace cX0_requirePlace 2 none, .classLink RX0 121 "java/lang/IndexOutOfBoundsException", .initialized "java/lang/IndexOutOfBoundsException", .methodLink RX0 112 yX0_requireWhat, .instanceMethod yX0_requireWhat, .selects RX0 yX0_requireWhat yX0_requireWhat, .code yX0_requireWhat cX0_requireWhat 3 none] ++ wsX00 ++ (vx_atS RX0 125 "java/lang/IndexOutOfBoundsException" ["java/lang/RuntimeException", "java/lang/Exception"]).filter goodWord)
def wsX0_cell : List Cond := .code yX0_cell cX0_cell 3 (some .int) :: ([.classLink RX0 121 "java/lang/IndexOutOfBoundsException", .initialized "java/lang/IndexOutOfBoundsException", .fieldLink RX0 34 "CellTrays" "cellThing" "[I", .methodLink RX0 115 yX0_requirePlace, .instanceMethod yX0_requirePlace, .selects RX0 yX0_requirePlace yX0_requirePlace, .initialized RX0, .code yX0_requirePlace cX0_requirePlace 2 none, .methodLink RX0 118 yX0_cellsAt, .instanceMethod yX0_cellsAt, .selects RX0 yX0_cellsAt yX0_cellsAt, .code yX0_cellsAt cX0_cellsAt 3 (some .int), .fieldLink RX0 25 "CellTrays" "trayKind" "[I", .fieldLink RX0 16 "CellTrays" "kindCells" "[I"] ++ wsX00 ++ (vx_atS RX0 125 "java/lang/IndexOutOfBoundsException" ["java/lang/RuntimeException", "java/lang/Exception"]).filter goodWord)
def wsX0_traysOf : List Cond := .code yX0_traysOf cX0_traysOf 4 (some .int) :: ([.fieldLink RX0 25 "CellTrays" "trayKind" "[I"] ++ wsX00)
def wsX0_traysHolding : List Cond := .code yX0_traysHolding cX0_traysHolding 5 (some .int) :: ([.fieldLink RX0 25 "CellTrays" "trayKind" "[I", .fieldLink RX0 31 "CellTrays" "trayThings" "[I"] ++ wsX00)
def wsX0_thingsOf : List Cond := .code yX0_thingsOf cX0_thingsOf 4 (some .int) :: ([.fieldLink RX0 25 "CellTrays" "trayKind" "[I", .fieldLink RX0 31 "CellTrays" "trayThings" "[I"] ++ wsX00)
def wsX0_freeCellsOf : List Cond := .code yX0_freeCellsOf cX0_freeCellsOf 2 (some .int) :: ([.fieldLink RX0 16 "CellTrays" "kindCells" "[I", .methodLink RX0 126 yX0_traysOf, .instanceMethod yX0_traysOf, .selects RX0 yX0_traysOf yX0_traysOf, .initialized RX0, .code yX0_traysOf cX0_traysOf 4 (some .int), .fieldLink RX0 25 "CellTrays" "trayKind" "[I", .methodLink RX0 133 yX0_thingsOf, .instanceMethod yX0_thingsOf, .selects RX0 yX0_thingsOf yX0_thingsOf, .code yX0_thingsOf cX0_thingsOf 4 (some .int), .fieldLink RX0 31 "CellTrays" "trayThings" "[I"] ++ wsX00)
def wsX0_about_r1 : List Cond := [Cond.fieldLink RX0 9 "CellTrays" "kindSize" "[I", Cond.fieldLink RX0 13 "CellTrays" "kindStep" "[I", Cond.fieldLink RX0 16 "CellTrays" "kindCells" "[I", Cond.fieldLink RX0 22 "CellTrays" "kindNextOffset" "[I", Cond.methodLink RX0 64 yX0_requireKind, Cond.instanceMethod yX0_requireKind, Cond.selects RX0 yX0_requireKind yX0_requireKind, Cond.initialized RX0, Cond.code yX0_requireKind cX0_requireKind 2 none, Cond.classLink RX0 121 "java/lang/IndexOutOfBoundsException", Cond.initialized "java/lang/IndexOutOfBoundsException", Cond.fieldLink RX0 55 "CellTrays" "kindCount" "I", Cond.methodLink RX0 112 yX0_requireWhat, Cond.instanceMethod yX0_requireWhat, Cond.selects RX0 yX0_requireWhat yX0_requireWhat, Cond.code yX0_requireWhat cX0_requireWhat 3 none, Cond.methodLink RX0 126 yX0_traysOf, Cond.instanceMethod yX0_traysOf, Cond.selects RX0 yX0_traysOf yX0_traysOf, Cond.code yX0_traysOf cX0_traysOf 4 (some .int), Cond.fieldLink RX0 25 "CellTrays" "trayKind" "[I", Cond.methodLink RX0 129 yX0_traysHolding, Cond.instanceMethod yX0_traysHolding, Cond.selects RX0 yX0_traysHolding yX0_traysHolding]
def wsX0_about_r2 : List Cond := [Cond.code yX0_traysHolding cX0_traysHolding 5 (some .int), Cond.fieldLink RX0 31 "CellTrays" "trayThings" "[I", Cond.methodLink RX0 133 yX0_thingsOf, Cond.instanceMethod yX0_thingsOf, Cond.selects RX0 yX0_thingsOf yX0_thingsOf, Cond.code yX0_thingsOf cX0_thingsOf 4 (some .int), Cond.methodLink RX0 136 yX0_freeCellsOf, Cond.instanceMethod yX0_freeCellsOf, Cond.selects RX0 yX0_freeCellsOf yX0_freeCellsOf, Cond.code yX0_freeCellsOf cX0_freeCellsOf 2 (some .int)]
def wsX0_about : List Cond := .code yX0_about cX0_about 3 (some .int) :: ((wsX0_about_r1 ++ wsX0_about_r2) ++ wsX00 ++ (vx_atS RX0 125 "java/lang/IndexOutOfBoundsException" ["java/lang/RuntimeException", "java/lang/Exception"]).filter goodWord)
def wsX0_thingsThere : List Cond := .code yX0_thingsThere cX0_thingsThere 3 (some .int) :: ([.fieldLink RX0 55 "CellTrays" "kindCount" "I", .methodLink RX0 133 yX0_thingsOf, .instanceMethod yX0_thingsOf, .selects RX0 yX0_thingsOf yX0_thingsOf, .initialized RX0, .code yX0_thingsOf cX0_thingsOf 4 (some .int), .fieldLink RX0 25 "CellTrays" "trayKind" "[I", .fieldLink RX0 31 "CellTrays" "trayThings" "[I"] ++ wsX00)
def wsX0_wastedBy : List Cond := .code yX0_wastedBy cX0_wastedBy 2 (some .int) :: ([.fieldLink RX0 9 "CellTrays" "kindSize" "[I", .methodLink RX0 126 yX0_traysOf, .instanceMethod yX0_traysOf, .selects RX0 yX0_traysOf yX0_traysOf, .initialized RX0, .code yX0_traysOf cX0_traysOf 4 (some .int), .fieldLink RX0 25 "CellTrays" "trayKind" "[I", .methodLink RX0 133 yX0_thingsOf, .instanceMethod yX0_thingsOf, .selects RX0 yX0_thingsOf yX0_thingsOf, .code yX0_thingsOf cX0_thingsOf 4 (some .int), .fieldLink RX0 31 "CellTrays" "trayThings" "[I"] ++ wsX00)
def wsX0_wastedInAll : List Cond := .code yX0_wastedInAll cX0_wastedInAll 3 (some .int) :: ([.fieldLink RX0 55 "CellTrays" "kindCount" "I", .methodLink RX0 149 yX0_wastedBy, .instanceMethod yX0_wastedBy, .selects RX0 yX0_wastedBy yX0_wastedBy, .initialized RX0, .code yX0_wastedBy cX0_wastedBy 2 (some .int), .fieldLink RX0 9 "CellTrays" "kindSize" "[I", .methodLink RX0 126 yX0_traysOf, .instanceMethod yX0_traysOf, .selects RX0 yX0_traysOf yX0_traysOf, .code yX0_traysOf cX0_traysOf 4 (some .int), .fieldLink RX0 25 "CellTrays" "trayKind" "[I", .methodLink RX0 133 yX0_thingsOf, .instanceMethod yX0_thingsOf, .selects RX0 yX0_thingsOf yX0_thingsOf, .code yX0_thingsOf cX0_thingsOf 4 (some .int), .fieldLink RX0 31 "CellTrays" "trayThings" "[I"] ++ wsX00)
def wsX0_count_r1 : List Cond := [Cond.fieldLink RX0 55 "CellTrays" "kindCount" "I", Cond.fieldLink RX0 68 "CellTrays" "thingCount" "I", Cond.fieldLink RX0 146 "CellTrays" "goneCount" "I", Cond.fieldLink RX0 109 "CellTrays" "movedCount" "I", Cond.methodLink RX0 112 yX0_requireWhat, Cond.instanceMethod yX0_requireWhat, Cond.selects RX0 yX0_requireWhat yX0_requireWhat, Cond.initialized RX0, Cond.code yX0_requireWhat cX0_requireWhat 3 none, Cond.classLink RX0 121 "java/lang/IndexOutOfBoundsException", Cond.initialized "java/lang/IndexOutOfBoundsException", Cond.methodLink RX0 126 yX0_traysOf, Cond.instanceMethod yX0_traysOf, Cond.selects RX0 yX0_traysOf yX0_traysOf, Cond.code yX0_traysOf cX0_traysOf 4 (some .int), Cond.fieldLink RX0 25 "CellTrays" "trayKind" "[I", Cond.methodLink RX0 139 yX0_thingsThere, Cond.instanceMethod yX0_thingsThere, Cond.selects RX0 yX0_thingsThere yX0_thingsThere, Cond.code yX0_thingsThere cX0_thingsThere 3 (some .int), Cond.methodLink RX0 133 yX0_thingsOf, Cond.instanceMethod yX0_thingsOf, Cond.selects RX0 yX0_thingsOf yX0_thingsOf, Cond.code yX0_thingsOf cX0_thingsOf 4 (some .int)]
def wsX0_count_r2 : List Cond := [Cond.fieldLink RX0 31 "CellTrays" "trayThings" "[I", Cond.methodLink RX0 143 yX0_wastedInAll, Cond.instanceMethod yX0_wastedInAll, Cond.selects RX0 yX0_wastedInAll yX0_wastedInAll, Cond.code yX0_wastedInAll cX0_wastedInAll 3 (some .int), Cond.methodLink RX0 149 yX0_wastedBy, Cond.instanceMethod yX0_wastedBy, Cond.selects RX0 yX0_wastedBy yX0_wastedBy, Cond.code yX0_wastedBy cX0_wastedBy 2 (some .int), Cond.fieldLink RX0 9 "CellTrays" "kindSize" "[I"]
def wsX0_count : List Cond := .code yX0_count cX0_count 2 (some .int) :: ((wsX0_count_r1 ++ wsX0_count_r2) ++ wsX00 ++ (vx_atS RX0 125 "java/lang/IndexOutOfBoundsException" ["java/lang/RuntimeException", "java/lang/Exception"]).filter goodWord)
def wsX0_would_r1 : List Cond := [Cond.methodLink RX0 64 yX0_requireKind, Cond.instanceMethod yX0_requireKind, Cond.selects RX0 yX0_requireKind yX0_requireKind, Cond.initialized RX0, Cond.code yX0_requireKind cX0_requireKind 2 none, Cond.classLink RX0 121 "java/lang/IndexOutOfBoundsException", Cond.initialized "java/lang/IndexOutOfBoundsException", Cond.fieldLink RX0 55 "CellTrays" "kindCount" "I", Cond.methodLink RX0 73 yX0_placeFor, Cond.instanceMethod yX0_placeFor, Cond.selects RX0 yX0_placeFor yX0_placeFor, Cond.code yX0_placeFor cX0_placeFor 3 (some .int), Cond.methodLink RX0 103 yX0_mostPartly, Cond.instanceMethod yX0_mostPartly, Cond.selects RX0 yX0_mostPartly yX0_mostPartly, Cond.code yX0_mostPartly cX0_mostPartly 5 (some .int), Cond.fieldLink RX0 31 "CellTrays" "trayThings" "[I", Cond.methodLink RX0 180 yX0_isPartly, Cond.instanceMethod yX0_isPartly, Cond.selects RX0 yX0_isPartly yX0_isPartly, Cond.code yX0_isPartly cX0_isPartly 3 (some .boolean), Cond.fieldLink RX0 25 "CellTrays" "trayKind" "[I", Cond.fieldLink RX0 16 "CellTrays" "kindCells" "[I", Cond.methodLink RX0 91 yX0_firstEmpty]
def wsX0_would_r2 : List Cond := [Cond.instanceMethod yX0_firstEmpty, Cond.selects RX0 yX0_firstEmpty yX0_firstEmpty, Cond.code yX0_firstEmpty cX0_firstEmpty 3 (some .int), Cond.methodLink RX0 177 yX0_firstBare, Cond.instanceMethod yX0_firstBare, Cond.selects RX0 yX0_firstBare yX0_firstBare, Cond.code yX0_firstBare cX0_firstBare 2 (some .int)]
def wsX0_would : List Cond := .code yX0_would cX0_would 2 (some .int) :: ((wsX0_would_r1 ++ wsX0_would_r2) ++ wsX00 ++ (vx_atS RX0 125 "java/lang/IndexOutOfBoundsException" ["java/lang/RuntimeException", "java/lang/Exception"]).filter goodWord)
def wsX0_spares : List Cond := .code yX0_spares cX0_spares 5 (some .int) :: ([.fieldLink RX0 25 "CellTrays" "trayKind" "[I", .fieldLink RX0 16 "CellTrays" "kindCells" "[I", .methodLink RX0 64 yX0_requireKind, .instanceMethod yX0_requireKind, .selects RX0 yX0_requireKind yX0_requireKind, .initialized RX0, .code yX0_requireKind cX0_requireKind 2 none, .classLink RX0 121 "java/lang/IndexOutOfBoundsException", .initialized "java/lang/IndexOutOfBoundsException", .fieldLink RX0 55 "CellTrays" "kindCount" "I", .methodLink RX0 133 yX0_thingsOf, .instanceMethod yX0_thingsOf, .selects RX0 yX0_thingsOf yX0_thingsOf, .code yX0_thingsOf cX0_thingsOf 4 (some .int), .fieldLink RX0 31 "CellTrays" "trayThings" "[I"] ++ wsX00 ++ (vx_atS RX0 125 "java/lang/IndexOutOfBoundsException" ["java/lang/RuntimeException", "java/lang/Exception"]).filter goodWord)
def wsX0_room : List Cond := .code yX0_room cX0_room 2 (some .int) :: ([.fieldLink RX0 16 "CellTrays" "kindCells" "[I", .methodLink RX0 64 yX0_requireKind, .instanceMethod yX0_requireKind, .selects RX0 yX0_requireKind yX0_requireKind, .initialized RX0, .code yX0_requireKind cX0_requireKind 2 none, .classLink RX0 121 "java/lang/IndexOutOfBoundsException", .initialized "java/lang/IndexOutOfBoundsException", .fieldLink RX0 55 "CellTrays" "kindCount" "I", .methodLink RX0 136 yX0_freeCellsOf, .instanceMethod yX0_freeCellsOf, .selects RX0 yX0_freeCellsOf yX0_freeCellsOf, .code yX0_freeCellsOf cX0_freeCellsOf 2 (some .int), .methodLink RX0 126 yX0_traysOf, .instanceMethod yX0_traysOf, .selects RX0 yX0_traysOf yX0_traysOf, .code yX0_traysOf cX0_traysOf 4 (some .int), .fieldLink RX0 25 "CellTrays" "trayKind" "[I", .methodLink RX0 133 yX0_thingsOf, .instanceMethod yX0_thingsOf, .selects RX0 yX0_thingsOf yX0_thingsOf, .code yX0_thingsOf cX0_thingsOf 4 (some .int), .fieldLink RX0 31 "CellTrays" "trayThings" "[I"] ++ wsX00 ++ (vx_atS RX0 125 "java/lang/IndexOutOfBoundsException" ["java/lang/RuntimeException", "java/lang/Exception"]).filter goodWord)
def wsX0_worst : List Cond := .code yX0_worst cX0_worst 5 (some .int) :: ([.fieldLink RX0 55 "CellTrays" "kindCount" "I", .methodLink RX0 149 yX0_wastedBy, .instanceMethod yX0_wastedBy, .selects RX0 yX0_wastedBy yX0_wastedBy, .initialized RX0, .code yX0_wastedBy cX0_wastedBy 2 (some .int), .fieldLink RX0 9 "CellTrays" "kindSize" "[I", .methodLink RX0 126 yX0_traysOf, .instanceMethod yX0_traysOf, .selects RX0 yX0_traysOf yX0_traysOf, .code yX0_traysOf cX0_traysOf 4 (some .int), .fieldLink RX0 25 "CellTrays" "trayKind" "[I", .methodLink RX0 133 yX0_thingsOf, .instanceMethod yX0_thingsOf, .selects RX0 yX0_thingsOf yX0_thingsOf, .code yX0_thingsOf cX0_thingsOf 4 (some .int), .fieldLink RX0 31 "CellTrays" "trayThings" "[I"] ++ wsX00)
def wsX0_mean : List Cond := .code yX0_mean cX0_mean 2 (some .double) :: ([.methodLink RX0 126 yX0_traysOf, .instanceMethod yX0_traysOf, .selects RX0 yX0_traysOf yX0_traysOf, .initialized RX0, .code yX0_traysOf cX0_traysOf 4 (some .int), .fieldLink RX0 25 "CellTrays" "trayKind" "[I", .methodLink RX0 139 yX0_thingsThere, .instanceMethod yX0_thingsThere, .selects RX0 yX0_thingsThere yX0_thingsThere, .code yX0_thingsThere cX0_thingsThere 3 (some .int), .fieldLink RX0 55 "CellTrays" "kindCount" "I", .methodLink RX0 133 yX0_thingsOf, .instanceMethod yX0_thingsOf, .selects RX0 yX0_thingsOf yX0_thingsOf, .code yX0_thingsOf cX0_thingsOf 4 (some .int), .fieldLink RX0 31 "CellTrays" "trayThings" "[I"] ++ wsX00)
def wsX0_digestPlace_r1 : List Cond := [Cond.constantLong RX0 154 (31), Cond.fieldLink RX0 34 "CellTrays" "cellThing" "[I", Cond.methodLink RX0 166 yX0_tray, Cond.instanceMethod yX0_tray, Cond.selects RX0 yX0_tray yX0_tray, Cond.initialized RX0, Cond.code yX0_tray cX0_tray 4 (some .int), Cond.fieldLink RX0 25 "CellTrays" "trayKind" "[I", Cond.fieldLink RX0 28 "CellTrays" "trayOffset" "[I", Cond.fieldLink RX0 16 "CellTrays" "kindCells" "[I", Cond.fieldLink RX0 31 "CellTrays" "trayThings" "[I", Cond.fieldLink RX0 9 "CellTrays" "kindSize" "[I", Cond.methodLink RX0 115 yX0_requirePlace, Cond.instanceMethod yX0_requirePlace, Cond.selects RX0 yX0_requirePlace yX0_requirePlace, Cond.code yX0_requirePlace cX0_requirePlace 2 none, Cond.classLink RX0 121 "java/lang/IndexOutOfBoundsException", Cond.initialized "java/lang/IndexOutOfBoundsException", Cond.methodLink RX0 112 yX0_requireWhat, Cond.instanceMethod yX0_requireWhat, Cond.selects RX0 yX0_requireWhat yX0_requireWhat, Cond.code yX0_requireWhat cX0_requireWhat 3 none, Cond.methodLink RX0 118 yX0_cellsAt, Cond.instanceMethod yX0_cellsAt]
def wsX0_digestPlace_r2 : List Cond := [Cond.selects RX0 yX0_cellsAt yX0_cellsAt, Cond.code yX0_cellsAt cX0_cellsAt 3 (some .int)]
def wsX0_digestPlace : List Cond := .code yX0_digestPlace cX0_digestPlace 8 (some .long) :: ((wsX0_digestPlace_r1 ++ wsX0_digestPlace_r2) ++ wsX00 ++ (vx_atS RX0 125 "java/lang/IndexOutOfBoundsException" ["java/lang/RuntimeException", "java/lang/Exception"]).filter goodWord)
def wsX0_digest_r1 : List Cond := [Cond.constantLong RX0 152 (1381), Cond.constantLong RX0 154 (31), Cond.fieldLink RX0 55 "CellTrays" "kindCount" "I", Cond.methodLink RX0 156 yX0_count, Cond.instanceMethod yX0_count, Cond.selects RX0 yX0_count yX0_count, Cond.initialized RX0, Cond.code yX0_count cX0_count 2 (some .int), Cond.fieldLink RX0 68 "CellTrays" "thingCount" "I", Cond.fieldLink RX0 146 "CellTrays" "goneCount" "I", Cond.fieldLink RX0 109 "CellTrays" "movedCount" "I", Cond.methodLink RX0 112 yX0_requireWhat, Cond.instanceMethod yX0_requireWhat, Cond.selects RX0 yX0_requireWhat yX0_requireWhat, Cond.code yX0_requireWhat cX0_requireWhat 3 none, Cond.classLink RX0 121 "java/lang/IndexOutOfBoundsException", Cond.initialized "java/lang/IndexOutOfBoundsException", Cond.methodLink RX0 126 yX0_traysOf, Cond.instanceMethod yX0_traysOf, Cond.selects RX0 yX0_traysOf yX0_traysOf, Cond.code yX0_traysOf cX0_traysOf 4 (some .int), Cond.fieldLink RX0 25 "CellTrays" "trayKind" "[I", Cond.methodLink RX0 139 yX0_thingsThere, Cond.instanceMethod yX0_thingsThere]
def wsX0_digest_r2 : List Cond := [Cond.selects RX0 yX0_thingsThere yX0_thingsThere, Cond.code yX0_thingsThere cX0_thingsThere 3 (some .int), Cond.methodLink RX0 133 yX0_thingsOf, Cond.instanceMethod yX0_thingsOf, Cond.selects RX0 yX0_thingsOf yX0_thingsOf, Cond.code yX0_thingsOf cX0_thingsOf 4 (some .int), Cond.fieldLink RX0 31 "CellTrays" "trayThings" "[I", Cond.methodLink RX0 143 yX0_wastedInAll, Cond.instanceMethod yX0_wastedInAll, Cond.selects RX0 yX0_wastedInAll yX0_wastedInAll, Cond.code yX0_wastedInAll cX0_wastedInAll 3 (some .int), Cond.methodLink RX0 149 yX0_wastedBy, Cond.instanceMethod yX0_wastedBy, Cond.selects RX0 yX0_wastedBy yX0_wastedBy, Cond.code yX0_wastedBy cX0_wastedBy 2 (some .int), Cond.fieldLink RX0 9 "CellTrays" "kindSize" "[I", Cond.methodLink RX0 159 yX0_about, Cond.instanceMethod yX0_about, Cond.selects RX0 yX0_about yX0_about, Cond.code yX0_about cX0_about 3 (some .int), Cond.fieldLink RX0 13 "CellTrays" "kindStep" "[I", Cond.fieldLink RX0 16 "CellTrays" "kindCells" "[I", Cond.fieldLink RX0 22 "CellTrays" "kindNextOffset" "[I", Cond.methodLink RX0 64 yX0_requireKind]
def wsX0_digest_r3 : List Cond := [Cond.instanceMethod yX0_requireKind, Cond.selects RX0 yX0_requireKind yX0_requireKind, Cond.code yX0_requireKind cX0_requireKind 2 none, Cond.methodLink RX0 129 yX0_traysHolding, Cond.instanceMethod yX0_traysHolding, Cond.selects RX0 yX0_traysHolding yX0_traysHolding, Cond.code yX0_traysHolding cX0_traysHolding 5 (some .int), Cond.methodLink RX0 136 yX0_freeCellsOf, Cond.instanceMethod yX0_freeCellsOf, Cond.selects RX0 yX0_freeCellsOf yX0_freeCellsOf, Cond.code yX0_freeCellsOf cX0_freeCellsOf 2 (some .int), Cond.methodLink RX0 162 yX0_digestPlace, Cond.instanceMethod yX0_digestPlace, Cond.selects RX0 yX0_digestPlace yX0_digestPlace, Cond.code yX0_digestPlace cX0_digestPlace 8 (some .long), Cond.fieldLink RX0 34 "CellTrays" "cellThing" "[I", Cond.methodLink RX0 166 yX0_tray, Cond.instanceMethod yX0_tray, Cond.selects RX0 yX0_tray yX0_tray, Cond.code yX0_tray cX0_tray 4 (some .int), Cond.fieldLink RX0 28 "CellTrays" "trayOffset" "[I", Cond.methodLink RX0 115 yX0_requirePlace, Cond.instanceMethod yX0_requirePlace, Cond.selects RX0 yX0_requirePlace yX0_requirePlace]
def wsX0_digest_r4 : List Cond := [Cond.code yX0_requirePlace cX0_requirePlace 2 none, Cond.methodLink RX0 118 yX0_cellsAt, Cond.instanceMethod yX0_cellsAt, Cond.selects RX0 yX0_cellsAt yX0_cellsAt, Cond.code yX0_cellsAt cX0_cellsAt 3 (some .int)]
def wsX0_digest : List Cond := .code yX0_digest cX0_digest 5 (some .long) :: ((wsX0_digest_r1 ++ (wsX0_digest_r2 ++ (wsX0_digest_r3 ++ wsX0_digest_r4))) ++ wsX00 ++ (vx_atS RX0 125 "java/lang/IndexOutOfBoundsException" ["java/lang/RuntimeException", "java/lang/Exception"]).filter goodWord)
def wsX1_init : List Cond := .code yX1_init cX1_init 2 none :: ([.methodLink RX1 1 objectInit, .instanceMethod objectInit, .code objectInit ⟨#[0xb1]⟩ 1 none, .arrayClass .int, .fieldLink RX1 9 "CellTraysModel" "size" "[I", .fieldLink RX1 13 "CellTraysModel" "step" "[I", .fieldLink RX1 16 "CellTraysModel" "next" "[I", .fieldLink RX1 19 "CellTraysModel" "of" "[I", .fieldLink RX1 22 "CellTraysModel" "offset" "[I", .fieldLink RX1 25 "CellTraysModel" "many" "[I", .fieldLink RX1 28 "CellTraysModel" "inside" "[I", .fieldLink RX1 31 "CellTraysModel" "kindOf" "[I", .fieldLink RX1 34 "CellTraysModel" "place" "[I", .fieldLink RX1 37 "CellTraysModel" "cell" "[I"] ++ wsX10)
def wsX1_thrown : List Cond := .code yX1_thrown cX1_thrown 1 (some .int) :: ([.fieldLink RX1 40 "CellTraysModel" "thrown" "I"] ++ wsX10)
def wsX1_no : List Cond := .code yX1_no cX1_no 2 (some .int) :: ([.fieldLink RX1 40 "CellTraysModel" "thrown" "I"] ++ wsX10)
def wsX1_isIn : List Cond := .code yX1_isIn cX1_isIn 3 (some .boolean) :: ([])
def wsX1_isKind : List Cond := .code yX1_isKind cX1_isKind 2 (some .boolean) :: ([.fieldLink RX1 44 "CellTraysModel" "kinds" "I", .methodLink RX1 47 yX1_isIn, .static yX1_isIn, .initialized RX1, .code yX1_isIn cX1_isIn 3 (some .boolean)] ++ wsX10)
def wsX1_isThing : List Cond := .code yX1_isThing cX1_isThing 2 (some .boolean) :: ([.fieldLink RX1 51 "CellTraysModel" "things" "I", .methodLink RX1 47 yX1_isIn, .static yX1_isIn, .initialized RX1, .code yX1_isIn cX1_isIn 3 (some .boolean)] ++ wsX10)
def wsX1_cells : List Cond := .code yX1_cells cX1_cells 2 (some .int) :: ([.fieldLink RX1 9 "CellTraysModel" "size" "[I"] ++ wsX10)
def wsX1_isEmpty : List Cond := .code yX1_isEmpty cX1_isEmpty 3 (some .boolean) :: ([.fieldLink RX1 19 "CellTraysModel" "of" "[I", .fieldLink RX1 25 "CellTraysModel" "many" "[I"] ++ wsX10)
def wsX1_isPartly : List Cond := .code yX1_isPartly cX1_isPartly 3 (some .boolean) :: ([.fieldLink RX1 19 "CellTraysModel" "of" "[I", .fieldLink RX1 25 "CellTraysModel" "many" "[I", .methodLink RX1 54 yX1_cells, .instanceMethod yX1_cells, .selects RX1 yX1_cells yX1_cells, .initialized RX1, .code yX1_cells cX1_cells 2 (some .int), .fieldLink RX1 9 "CellTraysModel" "size" "[I"] ++ wsX10)
def wsX1_fullest : List Cond := .code yX1_fullest cX1_fullest 4 (some .int) :: ([.fieldLink RX1 25 "CellTraysModel" "many" "[I", .methodLink RX1 58 yX1_isPartly, .instanceMethod yX1_isPartly, .selects RX1 yX1_isPartly yX1_isPartly, .initialized RX1, .code yX1_isPartly cX1_isPartly 3 (some .boolean), .fieldLink RX1 19 "CellTraysModel" "of" "[I", .methodLink RX1 54 yX1_cells, .instanceMethod yX1_cells, .selects RX1 yX1_cells yX1_cells, .code yX1_cells cX1_cells 2 (some .int), .fieldLink RX1 9 "CellTraysModel" "size" "[I"] ++ wsX10)
def wsX1_leanest : List Cond := .code yX1_leanest cX1_leanest 4 (some .int) :: ([.fieldLink RX1 25 "CellTraysModel" "many" "[I", .methodLink RX1 58 yX1_isPartly, .instanceMethod yX1_isPartly, .selects RX1 yX1_isPartly yX1_isPartly, .initialized RX1, .code yX1_isPartly cX1_isPartly 3 (some .boolean), .fieldLink RX1 19 "CellTraysModel" "of" "[I", .methodLink RX1 54 yX1_cells, .instanceMethod yX1_cells, .selects RX1 yX1_cells yX1_cells, .code yX1_cells cX1_cells 2 (some .int), .fieldLink RX1 9 "CellTraysModel" "size" "[I"] ++ wsX10)
def wsX1_firstEmpty : List Cond := .code yX1_firstEmpty cX1_firstEmpty 3 (some .int) :: ([.methodLink RX1 62 yX1_isEmpty, .instanceMethod yX1_isEmpty, .selects RX1 yX1_isEmpty yX1_isEmpty, .initialized RX1, .code yX1_isEmpty cX1_isEmpty 3 (some .boolean), .fieldLink RX1 19 "CellTraysModel" "of" "[I", .fieldLink RX1 25 "CellTraysModel" "many" "[I"] ++ wsX10)
def wsX1_firstFree : List Cond := .code yX1_firstFree cX1_firstFree 2 (some .int) :: ([.fieldLink RX1 19 "CellTraysModel" "of" "[I"] ++ wsX10)
def wsX1_goesTo_r1 : List Cond := [Cond.methodLink RX1 65 yX1_fullest, Cond.instanceMethod yX1_fullest, Cond.selects RX1 yX1_fullest yX1_fullest, Cond.initialized RX1, Cond.code yX1_fullest cX1_fullest 4 (some .int), Cond.fieldLink RX1 25 "CellTraysModel" "many" "[I", Cond.methodLink RX1 58 yX1_isPartly, Cond.instanceMethod yX1_isPartly, Cond.selects RX1 yX1_isPartly yX1_isPartly, Cond.code yX1_isPartly cX1_isPartly 3 (some .boolean), Cond.fieldLink RX1 19 "CellTraysModel" "of" "[I", Cond.methodLink RX1 54 yX1_cells, Cond.instanceMethod yX1_cells, Cond.selects RX1 yX1_cells yX1_cells, Cond.code yX1_cells cX1_cells 2 (some .int), Cond.fieldLink RX1 9 "CellTraysModel" "size" "[I", Cond.methodLink RX1 68 yX1_firstEmpty, Cond.instanceMethod yX1_firstEmpty, Cond.selects RX1 yX1_firstEmpty yX1_firstEmpty, Cond.code yX1_firstEmpty cX1_firstEmpty 3 (some .int), Cond.methodLink RX1 62 yX1_isEmpty, Cond.instanceMethod yX1_isEmpty, Cond.selects RX1 yX1_isEmpty yX1_isEmpty, Cond.code yX1_isEmpty cX1_isEmpty 3 (some .boolean)]
def wsX1_goesTo_r2 : List Cond := [Cond.methodLink RX1 71 yX1_firstFree, Cond.instanceMethod yX1_firstFree, Cond.selects RX1 yX1_firstFree yX1_firstFree, Cond.code yX1_firstFree cX1_firstFree 2 (some .int)]
def wsX1_goesTo : List Cond := .code yX1_goesTo cX1_goesTo 4 (some .int) :: ((wsX1_goesTo_r1 ++ wsX1_goesTo_r2) ++ wsX10)
def wsX1_open : List Cond := .code yX1_open cX1_open 4 none :: ([.fieldLink RX1 19 "CellTraysModel" "of" "[I", .fieldLink RX1 22 "CellTraysModel" "offset" "[I", .fieldLink RX1 16 "CellTraysModel" "next" "[I", .fieldLink RX1 25 "CellTraysModel" "many" "[I", .fieldLink RX1 28 "CellTraysModel" "inside" "[I", .fieldLink RX1 13 "CellTraysModel" "step" "[I", .fieldLink RX1 9 "CellTraysModel" "size" "[I"] ++ wsX10)
def wsX1_lay : List Cond := .code yX1_lay cX1_lay 4 none :: ([.fieldLink RX1 34 "CellTraysModel" "place" "[I", .fieldLink RX1 37 "CellTraysModel" "cell" "[I", .fieldLink RX1 28 "CellTraysModel" "inside" "[I", .fieldLink RX1 25 "CellTraysModel" "many" "[I"] ++ wsX10)
def wsX1_lift : List Cond := .code yX1_lift cX1_lift 2 none :: ([.fieldLink RX1 28 "CellTraysModel" "inside" "[I", .fieldLink RX1 34 "CellTraysModel" "place" "[I", .fieldLink RX1 37 "CellTraysModel" "cell" "[I", .fieldLink RX1 25 "CellTraysModel" "many" "[I"] ++ wsX10)
def wsX1_freeCell : List Cond := .code yX1_freeCell cX1_freeCell 3 (some .int) :: ([.fieldLink RX1 28 "CellTraysModel" "inside" "[I"] ++ wsX10)
def wsX1_lastThing : List Cond := .code yX1_lastThing cX1_lastThing 3 (some .int) :: ([.fieldLink RX1 28 "CellTraysModel" "inside" "[I"] ++ wsX10)
def wsX1_close : List Cond := .code yX1_close cX1_close 2 none :: ([.fieldLink RX1 19 "CellTraysModel" "of" "[I", .fieldLink RX1 75 "CellTraysModel" "gone" "I"] ++ wsX10)
def wsX1_empties : List Cond := .code yX1_empties cX1_empties 4 (some .int) :: ([.methodLink RX1 62 yX1_isEmpty, .instanceMethod yX1_isEmpty, .selects RX1 yX1_isEmpty yX1_isEmpty, .initialized RX1, .code yX1_isEmpty cX1_isEmpty 3 (some .boolean), .fieldLink RX1 19 "CellTraysModel" "of" "[I", .fieldLink RX1 25 "CellTraysModel" "many" "[I"] ++ wsX10)
def wsX1_kind : List Cond := .code yX1_kind cX1_kind 3 (some .int) :: ([.fieldLink RX1 40 "CellTraysModel" "thrown" "I", .fieldLink RX1 44 "CellTraysModel" "kinds" "I", .fieldLink RX1 9 "CellTraysModel" "size" "[I", .fieldLink RX1 13 "CellTraysModel" "step" "[I", .methodLink RX1 47 yX1_isIn, .static yX1_isIn, .initialized RX1, .code yX1_isIn cX1_isIn 3 (some .boolean), .methodLink RX1 78 yX1_no, .instanceMethod yX1_no, .selects RX1 yX1_no yX1_no, .code yX1_no cX1_no 2 (some .int)] ++ wsX10)
def wsX1_put_r1 : List Cond := [Cond.fieldLink RX1 40 "CellTraysModel" "thrown" "I", Cond.fieldLink RX1 51 "CellTraysModel" "things" "I", Cond.fieldLink RX1 19 "CellTraysModel" "of" "[I", Cond.fieldLink RX1 31 "CellTraysModel" "kindOf" "[I", Cond.methodLink RX1 81 yX1_isKind, Cond.instanceMethod yX1_isKind, Cond.selects RX1 yX1_isKind yX1_isKind, Cond.initialized RX1, Cond.code yX1_isKind cX1_isKind 2 (some .boolean), Cond.fieldLink RX1 44 "CellTraysModel" "kinds" "I", Cond.methodLink RX1 47 yX1_isIn, Cond.static yX1_isIn, Cond.code yX1_isIn cX1_isIn 3 (some .boolean), Cond.methodLink RX1 78 yX1_no, Cond.instanceMethod yX1_no, Cond.selects RX1 yX1_no yX1_no, Cond.code yX1_no cX1_no 2 (some .int), Cond.methodLink RX1 85 yX1_goesTo, Cond.instanceMethod yX1_goesTo, Cond.selects RX1 yX1_goesTo yX1_goesTo, Cond.code yX1_goesTo cX1_goesTo 4 (some .int), Cond.methodLink RX1 65 yX1_fullest, Cond.instanceMethod yX1_fullest, Cond.selects RX1 yX1_fullest yX1_fullest]
def wsX1_put_r2 : List Cond := [Cond.code yX1_fullest cX1_fullest 4 (some .int), Cond.fieldLink RX1 25 "CellTraysModel" "many" "[I", Cond.methodLink RX1 58 yX1_isPartly, Cond.instanceMethod yX1_isPartly, Cond.selects RX1 yX1_isPartly yX1_isPartly, Cond.code yX1_isPartly cX1_isPartly 3 (some .boolean), Cond.methodLink RX1 54 yX1_cells, Cond.instanceMethod yX1_cells, Cond.selects RX1 yX1_cells yX1_cells, Cond.code yX1_cells cX1_cells 2 (some .int), Cond.fieldLink RX1 9 "CellTraysModel" "size" "[I", Cond.methodLink RX1 68 yX1_firstEmpty, Cond.instanceMethod yX1_firstEmpty, Cond.selects RX1 yX1_firstEmpty yX1_firstEmpty, Cond.code yX1_firstEmpty cX1_firstEmpty 3 (some .int), Cond.methodLink RX1 62 yX1_isEmpty, Cond.instanceMethod yX1_isEmpty, Cond.selects RX1 yX1_isEmpty yX1_isEmpty, Cond.code yX1_isEmpty cX1_isEmpty 3 (some .boolean), Cond.methodLink RX1 71 yX1_firstFree, Cond.instanceMethod yX1_firstFree, Cond.selects RX1 yX1_firstFree yX1_firstFree, Cond.code yX1_firstFree cX1_firstFree 2 (some .int), Cond.methodLink RX1 88 yX1_open]
def wsX1_put_r3 : List Cond := [Cond.instanceMethod yX1_open, Cond.selects RX1 yX1_open yX1_open, Cond.code yX1_open cX1_open 4 none, Cond.fieldLink RX1 22 "CellTraysModel" "offset" "[I", Cond.fieldLink RX1 16 "CellTraysModel" "next" "[I", Cond.fieldLink RX1 28 "CellTraysModel" "inside" "[I", Cond.fieldLink RX1 13 "CellTraysModel" "step" "[I", Cond.methodLink RX1 92 yX1_freeCell, Cond.instanceMethod yX1_freeCell, Cond.selects RX1 yX1_freeCell yX1_freeCell, Cond.code yX1_freeCell cX1_freeCell 3 (some .int), Cond.methodLink RX1 95 yX1_lay, Cond.instanceMethod yX1_lay, Cond.selects RX1 yX1_lay yX1_lay, Cond.code yX1_lay cX1_lay 4 none, Cond.fieldLink RX1 34 "CellTraysModel" "place" "[I", Cond.fieldLink RX1 37 "CellTraysModel" "cell" "[I"]
def wsX1_put : List Cond := .code yX1_put cX1_put 3 (some .int) :: ((wsX1_put_r1 ++ (wsX1_put_r2 ++ wsX1_put_r3)) ++ wsX10)
def wsX1_take_r1 : List Cond := [Cond.fieldLink RX1 34 "CellTraysModel" "place" "[I", Cond.fieldLink RX1 40 "CellTraysModel" "thrown" "I", Cond.fieldLink RX1 25 "CellTraysModel" "many" "[I", Cond.fieldLink RX1 19 "CellTraysModel" "of" "[I", Cond.methodLink RX1 99 yX1_isThing, Cond.instanceMethod yX1_isThing, Cond.selects RX1 yX1_isThing yX1_isThing, Cond.initialized RX1, Cond.code yX1_isThing cX1_isThing 2 (some .boolean), Cond.fieldLink RX1 51 "CellTraysModel" "things" "I", Cond.methodLink RX1 47 yX1_isIn, Cond.static yX1_isIn, Cond.code yX1_isIn cX1_isIn 3 (some .boolean), Cond.methodLink RX1 102 yX1_lift, Cond.instanceMethod yX1_lift, Cond.selects RX1 yX1_lift yX1_lift, Cond.code yX1_lift cX1_lift 2 none, Cond.fieldLink RX1 28 "CellTraysModel" "inside" "[I", Cond.fieldLink RX1 37 "CellTraysModel" "cell" "[I", Cond.methodLink RX1 106 yX1_empties, Cond.instanceMethod yX1_empties, Cond.selects RX1 yX1_empties yX1_empties, Cond.code yX1_empties cX1_empties 4 (some .int), Cond.methodLink RX1 62 yX1_isEmpty]
def wsX1_take_r2 : List Cond := [Cond.instanceMethod yX1_isEmpty, Cond.selects RX1 yX1_isEmpty yX1_isEmpty, Cond.code yX1_isEmpty cX1_isEmpty 3 (some .boolean), Cond.methodLink RX1 109 yX1_close, Cond.instanceMethod yX1_close, Cond.selects RX1 yX1_close yX1_close, Cond.code yX1_close cX1_close 2 none, Cond.fieldLink RX1 75 "CellTraysModel" "gone" "I"]
def wsX1_take : List Cond := .code yX1_take cX1_take 3 (some .boolean) :: ((wsX1_take_r1 ++ wsX1_take_r2) ++ wsX10)
def wsX1_sweep : List Cond := .code yX1_sweep cX1_sweep 3 (some .int) :: ([.fieldLink RX1 40 "CellTraysModel" "thrown" "I", .fieldLink RX1 75 "CellTraysModel" "gone" "I", .fieldLink RX1 19 "CellTraysModel" "of" "[I", .fieldLink RX1 25 "CellTraysModel" "many" "[I", .methodLink RX1 109 yX1_close, .instanceMethod yX1_close, .selects RX1 yX1_close yX1_close, .initialized RX1, .code yX1_close cX1_close 2 none] ++ wsX10)
def wsX1_pack_r1 : List Cond := [Cond.fieldLink RX1 40 "CellTraysModel" "thrown" "I", Cond.fieldLink RX1 112 "CellTraysModel" "moved" "I", Cond.methodLink RX1 81 yX1_isKind, Cond.instanceMethod yX1_isKind, Cond.selects RX1 yX1_isKind yX1_isKind, Cond.initialized RX1, Cond.code yX1_isKind cX1_isKind 2 (some .boolean), Cond.fieldLink RX1 44 "CellTraysModel" "kinds" "I", Cond.methodLink RX1 47 yX1_isIn, Cond.static yX1_isIn, Cond.code yX1_isIn cX1_isIn 3 (some .boolean), Cond.methodLink RX1 78 yX1_no, Cond.instanceMethod yX1_no, Cond.selects RX1 yX1_no yX1_no, Cond.code yX1_no cX1_no 2 (some .int), Cond.methodLink RX1 65 yX1_fullest, Cond.instanceMethod yX1_fullest, Cond.selects RX1 yX1_fullest yX1_fullest, Cond.code yX1_fullest cX1_fullest 4 (some .int), Cond.fieldLink RX1 25 "CellTraysModel" "many" "[I", Cond.methodLink RX1 58 yX1_isPartly, Cond.instanceMethod yX1_isPartly, Cond.selects RX1 yX1_isPartly yX1_isPartly, Cond.code yX1_isPartly cX1_isPartly 3 (some .boolean)]
def wsX1_pack_r2 : List Cond := [Cond.fieldLink RX1 19 "CellTraysModel" "of" "[I", Cond.methodLink RX1 54 yX1_cells, Cond.instanceMethod yX1_cells, Cond.selects RX1 yX1_cells yX1_cells, Cond.code yX1_cells cX1_cells 2 (some .int), Cond.fieldLink RX1 9 "CellTraysModel" "size" "[I", Cond.methodLink RX1 115 yX1_leanest, Cond.instanceMethod yX1_leanest, Cond.selects RX1 yX1_leanest yX1_leanest, Cond.code yX1_leanest cX1_leanest 4 (some .int), Cond.methodLink RX1 118 yX1_lastThing, Cond.instanceMethod yX1_lastThing, Cond.selects RX1 yX1_lastThing yX1_lastThing, Cond.code yX1_lastThing cX1_lastThing 3 (some .int), Cond.fieldLink RX1 28 "CellTraysModel" "inside" "[I", Cond.methodLink RX1 102 yX1_lift, Cond.instanceMethod yX1_lift, Cond.selects RX1 yX1_lift yX1_lift, Cond.code yX1_lift cX1_lift 2 none, Cond.fieldLink RX1 34 "CellTraysModel" "place" "[I", Cond.fieldLink RX1 37 "CellTraysModel" "cell" "[I", Cond.methodLink RX1 92 yX1_freeCell, Cond.instanceMethod yX1_freeCell, Cond.selects RX1 yX1_freeCell yX1_freeCell]
def wsX1_pack_r3 : List Cond := [Cond.code yX1_freeCell cX1_freeCell 3 (some .int), Cond.methodLink RX1 95 yX1_lay, Cond.instanceMethod yX1_lay, Cond.selects RX1 yX1_lay yX1_lay, Cond.code yX1_lay cX1_lay 4 none]
def wsX1_pack : List Cond := .code yX1_pack cX1_pack 5 (some .int) :: ((wsX1_pack_r1 ++ (wsX1_pack_r2 ++ wsX1_pack_r3)) ++ wsX10)
def wsX1_thingTold : List Cond := .code yX1_thingTold cX1_thingTold 4 (some .int) :: ([.fieldLink RX1 31 "CellTraysModel" "kindOf" "[I", .fieldLink RX1 34 "CellTraysModel" "place" "[I", .fieldLink RX1 22 "CellTraysModel" "offset" "[I", .fieldLink RX1 37 "CellTraysModel" "cell" "[I", .fieldLink RX1 9 "CellTraysModel" "size" "[I"] ++ wsX10)
def wsX1_told : List Cond := .code yX1_told cX1_told 3 (some .int) :: ([.fieldLink RX1 40 "CellTraysModel" "thrown" "I", .methodLink RX1 99 yX1_isThing, .instanceMethod yX1_isThing, .selects RX1 yX1_isThing yX1_isThing, .initialized RX1, .code yX1_isThing cX1_isThing 2 (some .boolean), .fieldLink RX1 51 "CellTraysModel" "things" "I", .methodLink RX1 47 yX1_isIn, .static yX1_isIn, .code yX1_isIn cX1_isIn 3 (some .boolean), .methodLink RX1 121 yX1_thingTold, .instanceMethod yX1_thingTold, .selects RX1 yX1_thingTold yX1_thingTold, .code yX1_thingTold cX1_thingTold 4 (some .int), .fieldLink RX1 31 "CellTraysModel" "kindOf" "[I", .fieldLink RX1 34 "CellTraysModel" "place" "[I", .fieldLink RX1 22 "CellTraysModel" "offset" "[I", .fieldLink RX1 37 "CellTraysModel" "cell" "[I", .fieldLink RX1 9 "CellTraysModel" "size" "[I", .methodLink RX1 78 yX1_no, .instanceMethod yX1_no, .selects RX1 yX1_no yX1_no, .code yX1_no cX1_no 2 (some .int)] ++ wsX10)
def wsX1_wasted : List Cond := .code yX1_wasted cX1_wasted 2 (some .int) :: ([.fieldLink RX1 19 "CellTraysModel" "of" "[I", .fieldLink RX1 9 "CellTraysModel" "size" "[I", .fieldLink RX1 25 "CellTraysModel" "many" "[I"] ++ wsX10)
def wsX1_trayTold : List Cond := .code yX1_trayTold cX1_trayTold 3 (some .int) :: ([.fieldLink RX1 19 "CellTraysModel" "of" "[I", .fieldLink RX1 22 "CellTraysModel" "offset" "[I", .fieldLink RX1 25 "CellTraysModel" "many" "[I", .methodLink RX1 54 yX1_cells, .instanceMethod yX1_cells, .selects RX1 yX1_cells yX1_cells, .initialized RX1, .code yX1_cells cX1_cells 2 (some .int), .fieldLink RX1 9 "CellTraysModel" "size" "[I", .methodLink RX1 125 yX1_wasted, .instanceMethod yX1_wasted, .selects RX1 yX1_wasted yX1_wasted, .code yX1_wasted cX1_wasted 2 (some .int)] ++ wsX10)
def wsX1_tray_r1 : List Cond := [Cond.fieldLink RX1 40 "CellTraysModel" "thrown" "I", Cond.methodLink RX1 47 yX1_isIn, Cond.static yX1_isIn, Cond.initialized RX1, Cond.code yX1_isIn cX1_isIn 3 (some .boolean), Cond.methodLink RX1 128 yX1_trayTold, Cond.instanceMethod yX1_trayTold, Cond.selects RX1 yX1_trayTold yX1_trayTold, Cond.code yX1_trayTold cX1_trayTold 3 (some .int), Cond.fieldLink RX1 19 "CellTraysModel" "of" "[I", Cond.fieldLink RX1 22 "CellTraysModel" "offset" "[I", Cond.fieldLink RX1 25 "CellTraysModel" "many" "[I", Cond.methodLink RX1 54 yX1_cells, Cond.instanceMethod yX1_cells, Cond.selects RX1 yX1_cells yX1_cells, Cond.code yX1_cells cX1_cells 2 (some .int), Cond.fieldLink RX1 9 "CellTraysModel" "size" "[I", Cond.methodLink RX1 125 yX1_wasted, Cond.instanceMethod yX1_wasted, Cond.selects RX1 yX1_wasted yX1_wasted, Cond.code yX1_wasted cX1_wasted 2 (some .int), Cond.methodLink RX1 78 yX1_no, Cond.instanceMethod yX1_no, Cond.selects RX1 yX1_no yX1_no]
def wsX1_tray_r2 : List Cond := [Cond.code yX1_no cX1_no 2 (some .int)]
def wsX1_tray : List Cond := .code yX1_tray cX1_tray 3 (some .int) :: ((wsX1_tray_r1 ++ wsX1_tray_r2) ++ wsX10)
def wsX1_cell : List Cond := .code yX1_cell cX1_cell 3 (some .int) :: ([.fieldLink RX1 40 "CellTraysModel" "thrown" "I", .fieldLink RX1 19 "CellTraysModel" "of" "[I", .fieldLink RX1 28 "CellTraysModel" "inside" "[I", .methodLink RX1 47 yX1_isIn, .static yX1_isIn, .initialized RX1, .code yX1_isIn cX1_isIn 3 (some .boolean), .methodLink RX1 54 yX1_cells, .instanceMethod yX1_cells, .selects RX1 yX1_cells yX1_cells, .code yX1_cells cX1_cells 2 (some .int), .fieldLink RX1 9 "CellTraysModel" "size" "[I", .methodLink RX1 78 yX1_no, .instanceMethod yX1_no, .selects RX1 yX1_no yX1_no, .code yX1_no cX1_no 2 (some .int)] ++ wsX10)
def wsX1_trays : List Cond := .code yX1_trays cX1_trays 4 (some .int) :: ([.fieldLink RX1 19 "CellTraysModel" "of" "[I"] ++ wsX10)
def wsX1_full : List Cond := .code yX1_full cX1_full 4 (some .int) :: ([.fieldLink RX1 19 "CellTraysModel" "of" "[I", .fieldLink RX1 25 "CellTraysModel" "many" "[I", .methodLink RX1 54 yX1_cells, .instanceMethod yX1_cells, .selects RX1 yX1_cells yX1_cells, .initialized RX1, .code yX1_cells cX1_cells 2 (some .int), .fieldLink RX1 9 "CellTraysModel" "size" "[I"] ++ wsX10)
def wsX1_lying : List Cond := .code yX1_lying cX1_lying 4 (some .int) :: ([.fieldLink RX1 19 "CellTraysModel" "of" "[I", .fieldLink RX1 25 "CellTraysModel" "many" "[I"] ++ wsX10)
def wsX1_kindTold_r1 : List Cond := [Cond.arrayClass .int, Cond.fieldLink RX1 9 "CellTraysModel" "size" "[I", Cond.fieldLink RX1 13 "CellTraysModel" "step" "[I", Cond.fieldLink RX1 16 "CellTraysModel" "next" "[I", Cond.methodLink RX1 131 yX1_trays, Cond.instanceMethod yX1_trays, Cond.selects RX1 yX1_trays yX1_trays, Cond.initialized RX1, Cond.code yX1_trays cX1_trays 4 (some .int), Cond.fieldLink RX1 19 "CellTraysModel" "of" "[I", Cond.methodLink RX1 106 yX1_empties, Cond.instanceMethod yX1_empties, Cond.selects RX1 yX1_empties yX1_empties, Cond.code yX1_empties cX1_empties 4 (some .int), Cond.methodLink RX1 62 yX1_isEmpty, Cond.instanceMethod yX1_isEmpty, Cond.selects RX1 yX1_isEmpty yX1_isEmpty, Cond.code yX1_isEmpty cX1_isEmpty 3 (some .boolean), Cond.fieldLink RX1 25 "CellTraysModel" "many" "[I", Cond.methodLink RX1 134 yX1_full, Cond.instanceMethod yX1_full, Cond.selects RX1 yX1_full yX1_full, Cond.code yX1_full cX1_full 4 (some .int), Cond.methodLink RX1 54 yX1_cells]
def wsX1_kindTold_r2 : List Cond := [Cond.instanceMethod yX1_cells, Cond.selects RX1 yX1_cells yX1_cells, Cond.code yX1_cells cX1_cells 2 (some .int), Cond.methodLink RX1 137 yX1_lying, Cond.instanceMethod yX1_lying, Cond.selects RX1 yX1_lying yX1_lying, Cond.code yX1_lying cX1_lying 4 (some .int)]
def wsX1_kindTold : List Cond := .code yX1_kindTold cX1_kindTold 4 (some .int) :: ((wsX1_kindTold_r1 ++ wsX1_kindTold_r2) ++ wsX10)
def wsX1_about_r1 : List Cond := [Cond.fieldLink RX1 40 "CellTraysModel" "thrown" "I", Cond.methodLink RX1 81 yX1_isKind, Cond.instanceMethod yX1_isKind, Cond.selects RX1 yX1_isKind yX1_isKind, Cond.initialized RX1, Cond.code yX1_isKind cX1_isKind 2 (some .boolean), Cond.fieldLink RX1 44 "CellTraysModel" "kinds" "I", Cond.methodLink RX1 47 yX1_isIn, Cond.static yX1_isIn, Cond.code yX1_isIn cX1_isIn 3 (some .boolean), Cond.methodLink RX1 140 yX1_kindTold, Cond.instanceMethod yX1_kindTold, Cond.selects RX1 yX1_kindTold yX1_kindTold, Cond.code yX1_kindTold cX1_kindTold 4 (some .int), Cond.arrayClass .int, Cond.fieldLink RX1 9 "CellTraysModel" "size" "[I", Cond.fieldLink RX1 13 "CellTraysModel" "step" "[I", Cond.fieldLink RX1 16 "CellTraysModel" "next" "[I", Cond.methodLink RX1 131 yX1_trays, Cond.instanceMethod yX1_trays, Cond.selects RX1 yX1_trays yX1_trays, Cond.code yX1_trays cX1_trays 4 (some .int), Cond.fieldLink RX1 19 "CellTraysModel" "of" "[I", Cond.methodLink RX1 106 yX1_empties]
def wsX1_about_r2 : List Cond := [Cond.instanceMethod yX1_empties, Cond.selects RX1 yX1_empties yX1_empties, Cond.code yX1_empties cX1_empties 4 (some .int), Cond.methodLink RX1 62 yX1_isEmpty, Cond.instanceMethod yX1_isEmpty, Cond.selects RX1 yX1_isEmpty yX1_isEmpty, Cond.code yX1_isEmpty cX1_isEmpty 3 (some .boolean), Cond.fieldLink RX1 25 "CellTraysModel" "many" "[I", Cond.methodLink RX1 134 yX1_full, Cond.instanceMethod yX1_full, Cond.selects RX1 yX1_full yX1_full, Cond.code yX1_full cX1_full 4 (some .int), Cond.methodLink RX1 54 yX1_cells, Cond.instanceMethod yX1_cells, Cond.selects RX1 yX1_cells yX1_cells, Cond.code yX1_cells cX1_cells 2 (some .int), Cond.methodLink RX1 137 yX1_lying, Cond.instanceMethod yX1_lying, Cond.selects RX1 yX1_lying yX1_lying, Cond.code yX1_lying cX1_lying 4 (some .int), Cond.methodLink RX1 78 yX1_no, Cond.instanceMethod yX1_no, Cond.selects RX1 yX1_no yX1_no, Cond.code yX1_no cX1_no 2 (some .int)]
def wsX1_about : List Cond := .code yX1_about cX1_about 3 (some .int) :: ((wsX1_about_r1 ++ wsX1_about_r2) ++ wsX10)
def wsX1_counted : List Cond := .code yX1_counted cX1_counted 6 (some .int) :: ([.fieldLink RX1 19 "CellTraysModel" "of" "[I", .fieldLink RX1 25 "CellTraysModel" "many" "[I", .arrayClass .int, .fieldLink RX1 44 "CellTraysModel" "kinds" "I", .fieldLink RX1 51 "CellTraysModel" "things" "I", .fieldLink RX1 75 "CellTraysModel" "gone" "I", .fieldLink RX1 112 "CellTraysModel" "moved" "I", .methodLink RX1 125 yX1_wasted, .instanceMethod yX1_wasted, .selects RX1 yX1_wasted yX1_wasted, .initialized RX1, .code yX1_wasted cX1_wasted 2 (some .int), .fieldLink RX1 9 "CellTraysModel" "size" "[I"] ++ wsX10)
def wsX1_count_r1 : List Cond := [Cond.fieldLink RX1 40 "CellTraysModel" "thrown" "I", Cond.methodLink RX1 47 yX1_isIn, Cond.static yX1_isIn, Cond.initialized RX1, Cond.code yX1_isIn cX1_isIn 3 (some .boolean), Cond.methodLink RX1 143 yX1_counted, Cond.instanceMethod yX1_counted, Cond.selects RX1 yX1_counted yX1_counted, Cond.code yX1_counted cX1_counted 6 (some .int), Cond.fieldLink RX1 19 "CellTraysModel" "of" "[I", Cond.fieldLink RX1 25 "CellTraysModel" "many" "[I", Cond.arrayClass .int, Cond.fieldLink RX1 44 "CellTraysModel" "kinds" "I", Cond.fieldLink RX1 51 "CellTraysModel" "things" "I", Cond.fieldLink RX1 75 "CellTraysModel" "gone" "I", Cond.fieldLink RX1 112 "CellTraysModel" "moved" "I", Cond.methodLink RX1 125 yX1_wasted, Cond.instanceMethod yX1_wasted, Cond.selects RX1 yX1_wasted yX1_wasted, Cond.code yX1_wasted cX1_wasted 2 (some .int), Cond.fieldLink RX1 9 "CellTraysModel" "size" "[I", Cond.methodLink RX1 78 yX1_no, Cond.instanceMethod yX1_no, Cond.selects RX1 yX1_no yX1_no]
def wsX1_count_r2 : List Cond := [Cond.code yX1_no cX1_no 2 (some .int)]
def wsX1_count : List Cond := .code yX1_count cX1_count 2 (some .int) :: ((wsX1_count_r1 ++ wsX1_count_r2) ++ wsX10)
def wsX1_would_r1 : List Cond := [Cond.fieldLink RX1 40 "CellTraysModel" "thrown" "I", Cond.methodLink RX1 81 yX1_isKind, Cond.instanceMethod yX1_isKind, Cond.selects RX1 yX1_isKind yX1_isKind, Cond.initialized RX1, Cond.code yX1_isKind cX1_isKind 2 (some .boolean), Cond.fieldLink RX1 44 "CellTraysModel" "kinds" "I", Cond.methodLink RX1 47 yX1_isIn, Cond.static yX1_isIn, Cond.code yX1_isIn cX1_isIn 3 (some .boolean), Cond.methodLink RX1 85 yX1_goesTo, Cond.instanceMethod yX1_goesTo, Cond.selects RX1 yX1_goesTo yX1_goesTo, Cond.code yX1_goesTo cX1_goesTo 4 (some .int), Cond.methodLink RX1 65 yX1_fullest, Cond.instanceMethod yX1_fullest, Cond.selects RX1 yX1_fullest yX1_fullest, Cond.code yX1_fullest cX1_fullest 4 (some .int), Cond.fieldLink RX1 25 "CellTraysModel" "many" "[I", Cond.methodLink RX1 58 yX1_isPartly, Cond.instanceMethod yX1_isPartly, Cond.selects RX1 yX1_isPartly yX1_isPartly, Cond.code yX1_isPartly cX1_isPartly 3 (some .boolean), Cond.fieldLink RX1 19 "CellTraysModel" "of" "[I"]
def wsX1_would_r2 : List Cond := [Cond.methodLink RX1 54 yX1_cells, Cond.instanceMethod yX1_cells, Cond.selects RX1 yX1_cells yX1_cells, Cond.code yX1_cells cX1_cells 2 (some .int), Cond.fieldLink RX1 9 "CellTraysModel" "size" "[I", Cond.methodLink RX1 68 yX1_firstEmpty, Cond.instanceMethod yX1_firstEmpty, Cond.selects RX1 yX1_firstEmpty yX1_firstEmpty, Cond.code yX1_firstEmpty cX1_firstEmpty 3 (some .int), Cond.methodLink RX1 62 yX1_isEmpty, Cond.instanceMethod yX1_isEmpty, Cond.selects RX1 yX1_isEmpty yX1_isEmpty, Cond.code yX1_isEmpty cX1_isEmpty 3 (some .boolean), Cond.methodLink RX1 71 yX1_firstFree, Cond.instanceMethod yX1_firstFree, Cond.selects RX1 yX1_firstFree yX1_firstFree, Cond.code yX1_firstFree cX1_firstFree 2 (some .int), Cond.methodLink RX1 78 yX1_no, Cond.instanceMethod yX1_no, Cond.selects RX1 yX1_no yX1_no, Cond.code yX1_no cX1_no 2 (some .int)]
def wsX1_would : List Cond := .code yX1_would cX1_would 2 (some .int) :: ((wsX1_would_r1 ++ wsX1_would_r2) ++ wsX10)
def wsX1_spares_r1 : List Cond := [Cond.fieldLink RX1 40 "CellTraysModel" "thrown" "I", Cond.methodLink RX1 81 yX1_isKind, Cond.instanceMethod yX1_isKind, Cond.selects RX1 yX1_isKind yX1_isKind, Cond.initialized RX1, Cond.code yX1_isKind cX1_isKind 2 (some .boolean), Cond.fieldLink RX1 44 "CellTraysModel" "kinds" "I", Cond.methodLink RX1 47 yX1_isIn, Cond.static yX1_isIn, Cond.code yX1_isIn cX1_isIn 3 (some .boolean), Cond.methodLink RX1 78 yX1_no, Cond.instanceMethod yX1_no, Cond.selects RX1 yX1_no yX1_no, Cond.code yX1_no cX1_no 2 (some .int), Cond.methodLink RX1 131 yX1_trays, Cond.instanceMethod yX1_trays, Cond.selects RX1 yX1_trays yX1_trays, Cond.code yX1_trays cX1_trays 4 (some .int), Cond.fieldLink RX1 19 "CellTraysModel" "of" "[I", Cond.methodLink RX1 137 yX1_lying, Cond.instanceMethod yX1_lying, Cond.selects RX1 yX1_lying yX1_lying, Cond.code yX1_lying cX1_lying 4 (some .int), Cond.fieldLink RX1 25 "CellTraysModel" "many" "[I"]
def wsX1_spares_r2 : List Cond := [Cond.methodLink RX1 54 yX1_cells, Cond.instanceMethod yX1_cells, Cond.selects RX1 yX1_cells yX1_cells, Cond.code yX1_cells cX1_cells 2 (some .int), Cond.fieldLink RX1 9 "CellTraysModel" "size" "[I"]
def wsX1_spares : List Cond := .code yX1_spares cX1_spares 2 (some .int) :: ((wsX1_spares_r1 ++ wsX1_spares_r2) ++ wsX10)
def wsX1_room_r1 : List Cond := [Cond.fieldLink RX1 40 "CellTraysModel" "thrown" "I", Cond.methodLink RX1 81 yX1_isKind, Cond.instanceMethod yX1_isKind, Cond.selects RX1 yX1_isKind yX1_isKind, Cond.initialized RX1, Cond.code yX1_isKind cX1_isKind 2 (some .boolean), Cond.fieldLink RX1 44 "CellTraysModel" "kinds" "I", Cond.methodLink RX1 47 yX1_isIn, Cond.static yX1_isIn, Cond.code yX1_isIn cX1_isIn 3 (some .boolean), Cond.methodLink RX1 131 yX1_trays, Cond.instanceMethod yX1_trays, Cond.selects RX1 yX1_trays yX1_trays, Cond.code yX1_trays cX1_trays 4 (some .int), Cond.fieldLink RX1 19 "CellTraysModel" "of" "[I", Cond.methodLink RX1 54 yX1_cells, Cond.instanceMethod yX1_cells, Cond.selects RX1 yX1_cells yX1_cells, Cond.code yX1_cells cX1_cells 2 (some .int), Cond.fieldLink RX1 9 "CellTraysModel" "size" "[I", Cond.methodLink RX1 137 yX1_lying, Cond.instanceMethod yX1_lying, Cond.selects RX1 yX1_lying yX1_lying, Cond.code yX1_lying cX1_lying 4 (some .int)]
def wsX1_room_r2 : List Cond := [Cond.fieldLink RX1 25 "CellTraysModel" "many" "[I", Cond.methodLink RX1 78 yX1_no, Cond.instanceMethod yX1_no, Cond.selects RX1 yX1_no yX1_no, Cond.code yX1_no cX1_no 2 (some .int)]
def wsX1_room : List Cond := .code yX1_room cX1_room 2 (some .int) :: ((wsX1_room_r1 ++ wsX1_room_r2) ++ wsX10)
def wsX1_worst : List Cond := .code yX1_worst cX1_worst 5 (some .int) :: ([.fieldLink RX1 40 "CellTraysModel" "thrown" "I", .fieldLink RX1 44 "CellTraysModel" "kinds" "I", .fieldLink RX1 9 "CellTraysModel" "size" "[I", .methodLink RX1 131 yX1_trays, .instanceMethod yX1_trays, .selects RX1 yX1_trays yX1_trays, .initialized RX1, .code yX1_trays cX1_trays 4 (some .int), .fieldLink RX1 19 "CellTraysModel" "of" "[I", .methodLink RX1 137 yX1_lying, .instanceMethod yX1_lying, .selects RX1 yX1_lying yX1_lying, .code yX1_lying cX1_lying 4 (some .int), .fieldLink RX1 25 "CellTraysModel" "many" "[I"] ++ wsX10)
def wsX1_mean : List Cond := .code yX1_mean cX1_mean 1 (some .double) :: ([.fieldLink RX1 40 "CellTraysModel" "thrown" "I", .methodLink RX1 143 yX1_counted, .instanceMethod yX1_counted, .selects RX1 yX1_counted yX1_counted, .initialized RX1, .code yX1_counted cX1_counted 6 (some .int), .fieldLink RX1 19 "CellTraysModel" "of" "[I", .fieldLink RX1 25 "CellTraysModel" "many" "[I", .arrayClass .int, .fieldLink RX1 44 "CellTraysModel" "kinds" "I", .fieldLink RX1 51 "CellTraysModel" "things" "I", .fieldLink RX1 75 "CellTraysModel" "gone" "I", .fieldLink RX1 112 "CellTraysModel" "moved" "I", .methodLink RX1 125 yX1_wasted, .instanceMethod yX1_wasted, .selects RX1 yX1_wasted yX1_wasted, .code yX1_wasted cX1_wasted 2 (some .int), .fieldLink RX1 9 "CellTraysModel" "size" "[I"] ++ wsX10)
def wsX1_digest_r1 : List Cond := [Cond.fieldLink RX1 40 "CellTraysModel" "thrown" "I", Cond.constantLong RX1 146 (1381), Cond.constantLong RX1 148 (31), Cond.fieldLink RX1 44 "CellTraysModel" "kinds" "I", Cond.fieldLink RX1 19 "CellTraysModel" "of" "[I", Cond.fieldLink RX1 28 "CellTraysModel" "inside" "[I", Cond.methodLink RX1 143 yX1_counted, Cond.instanceMethod yX1_counted, Cond.selects RX1 yX1_counted yX1_counted, Cond.initialized RX1, Cond.code yX1_counted cX1_counted 6 (some .int), Cond.fieldLink RX1 25 "CellTraysModel" "many" "[I", Cond.arrayClass .int, Cond.fieldLink RX1 51 "CellTraysModel" "things" "I", Cond.fieldLink RX1 75 "CellTraysModel" "gone" "I", Cond.fieldLink RX1 112 "CellTraysModel" "moved" "I", Cond.methodLink RX1 125 yX1_wasted, Cond.instanceMethod yX1_wasted, Cond.selects RX1 yX1_wasted yX1_wasted, Cond.code yX1_wasted cX1_wasted 2 (some .int), Cond.fieldLink RX1 9 "CellTraysModel" "size" "[I", Cond.methodLink RX1 140 yX1_kindTold, Cond.instanceMethod yX1_kindTold, Cond.selects RX1 yX1_kindTold yX1_kindTold]
def wsX1_digest_r2 : List Cond := [Cond.code yX1_kindTold cX1_kindTold 4 (some .int), Cond.fieldLink RX1 13 "CellTraysModel" "step" "[I", Cond.fieldLink RX1 16 "CellTraysModel" "next" "[I", Cond.methodLink RX1 131 yX1_trays, Cond.instanceMethod yX1_trays, Cond.selects RX1 yX1_trays yX1_trays, Cond.code yX1_trays cX1_trays 4 (some .int), Cond.methodLink RX1 106 yX1_empties, Cond.instanceMethod yX1_empties, Cond.selects RX1 yX1_empties yX1_empties, Cond.code yX1_empties cX1_empties 4 (some .int), Cond.methodLink RX1 62 yX1_isEmpty, Cond.instanceMethod yX1_isEmpty, Cond.selects RX1 yX1_isEmpty yX1_isEmpty, Cond.code yX1_isEmpty cX1_isEmpty 3 (some .boolean), Cond.methodLink RX1 134 yX1_full, Cond.instanceMethod yX1_full, Cond.selects RX1 yX1_full yX1_full, Cond.code yX1_full cX1_full 4 (some .int), Cond.methodLink RX1 54 yX1_cells, Cond.instanceMethod yX1_cells, Cond.selects RX1 yX1_cells yX1_cells, Cond.code yX1_cells cX1_cells 2 (some .int), Cond.methodLink RX1 137 yX1_lying]
def wsX1_digest_r3 : List Cond := [Cond.instanceMethod yX1_lying, Cond.selects RX1 yX1_lying yX1_lying, Cond.code yX1_lying cX1_lying 4 (some .int), Cond.methodLink RX1 128 yX1_trayTold, Cond.instanceMethod yX1_trayTold, Cond.selects RX1 yX1_trayTold yX1_trayTold, Cond.code yX1_trayTold cX1_trayTold 3 (some .int), Cond.fieldLink RX1 22 "CellTraysModel" "offset" "[I"]
def wsX1_digest : List Cond := .code yX1_digest cX1_digest 5 (some .long) :: ((wsX1_digest_r1 ++ (wsX1_digest_r2 ++ wsX1_digest_r3)) ++ wsX10)
def wsL_kind : List Cond := .codeWith yL_kind cL_kind 5 (some .int) [(0, 10, 13, 13), (0, 10, 17, 15)] :: ([.classLink RL 13 "java/lang/IllegalArgumentException", .classLink RL 15 "java/lang/IllegalStateException", .methodLink RL 7 yX0_kind, .instanceMethod yX0_kind, .selects RX0 yX0_kind yX0_kind, .initialized RX0, .code yX0_kind cX0_kind 4 (some .int), .classLink RX0 46 "java/lang/IllegalArgumentException", .initialized "java/lang/IllegalArgumentException", .classLink RX0 59 "java/lang/IllegalStateException", .initialized "java/lang/IllegalStateException", .fieldLink RX0 55 "CellTrays" "kindCount" "I", .fieldLink RX0 9 "CellTrays" "kindSize" "[I", .fieldLink RX0 13 "CellTrays" "kindStep" "[I", .fieldLink RX0 16 "CellTrays" "kindCells" "[I", .fieldLink RX0 19 "CellTrays" "kindRest" "[I"] ++ wsX00 ++ (vx_atS RX0 50 "java/lang/IllegalArgumentException" ["java/lang/RuntimeException", "java/lang/Exception"]).filter goodWord ++ (vx_atS RX0 63 "java/lang/IllegalStateException" ["java/lang/RuntimeException", "java/lang/Exception"]).filter goodWord)
def wsL_put_r1 : List Cond := [Cond.classLink RL 21 "java/lang/IndexOutOfBoundsException", Cond.classLink RL 15 "java/lang/IllegalStateException", Cond.methodLink RL 17 yX0_put, Cond.instanceMethod yX0_put, Cond.selects RX0 yX0_put yX0_put, Cond.initialized RX0, Cond.code yX0_put cX0_put 4 (some .int), Cond.classLink RX0 59 "java/lang/IllegalStateException", Cond.initialized "java/lang/IllegalStateException", Cond.fieldLink RX0 68 "CellTrays" "thingCount" "I", Cond.fieldLink RX0 25 "CellTrays" "trayKind" "[I", Cond.fieldLink RX0 37 "CellTrays" "thingKind" "[I", Cond.methodLink RX0 64 yX0_requireKind, Cond.instanceMethod yX0_requireKind, Cond.selects RX0 yX0_requireKind yX0_requireKind, Cond.code yX0_requireKind cX0_requireKind 2 none, Cond.classLink RX0 121 "java/lang/IndexOutOfBoundsException", Cond.initialized "java/lang/IndexOutOfBoundsException", Cond.fieldLink RX0 55 "CellTrays" "kindCount" "I", Cond.methodLink RX0 73 yX0_placeFor, Cond.instanceMethod yX0_placeFor, Cond.selects RX0 yX0_placeFor yX0_placeFor, Cond.code yX0_placeFor cX0_placeFor 3 (some .int), Cond.methodLink RX0 103 yX0_mostPartly]
def wsL_put_r2 : List Cond := [Cond.instanceMethod yX0_mostPartly, Cond.selects RX0 yX0_mostPartly yX0_mostPartly, Cond.code yX0_mostPartly cX0_mostPartly 5 (some .int), Cond.fieldLink RX0 31 "CellTrays" "trayThings" "[I", Cond.methodLink RX0 180 yX0_isPartly, Cond.instanceMethod yX0_isPartly, Cond.selects RX0 yX0_isPartly yX0_isPartly, Cond.code yX0_isPartly cX0_isPartly 3 (some .boolean), Cond.fieldLink RX0 16 "CellTrays" "kindCells" "[I", Cond.methodLink RX0 91 yX0_firstEmpty, Cond.instanceMethod yX0_firstEmpty, Cond.selects RX0 yX0_firstEmpty yX0_firstEmpty, Cond.code yX0_firstEmpty cX0_firstEmpty 3 (some .int), Cond.methodLink RX0 177 yX0_firstBare, Cond.instanceMethod yX0_firstBare, Cond.selects RX0 yX0_firstBare yX0_firstBare, Cond.code yX0_firstBare cX0_firstBare 2 (some .int), Cond.methodLink RX0 79 yX0_addTray, Cond.instanceMethod yX0_addTray, Cond.selects RX0 yX0_addTray yX0_addTray, Cond.code yX0_addTray cX0_addTray 4 none, Cond.fieldLink RX0 28 "CellTrays" "trayOffset" "[I", Cond.fieldLink RX0 22 "CellTrays" "kindNextOffset" "[I", Cond.fieldLink RX0 13 "CellTrays" "kindStep" "[I"]
def wsL_put_r3 : List Cond := [Cond.fieldLink RX0 19 "CellTrays" "kindRest" "[I", Cond.methodLink RX0 83 yX0_layIn, Cond.instanceMethod yX0_layIn, Cond.selects RX0 yX0_layIn yX0_layIn, Cond.code yX0_layIn cX0_layIn 5 none, Cond.fieldLink RX0 34 "CellTrays" "cellThing" "[I", Cond.fieldLink RX0 40 "CellTrays" "thingPlace" "[I", Cond.fieldLink RX0 43 "CellTrays" "thingCell" "[I", Cond.methodLink RX0 118 yX0_cellsAt, Cond.instanceMethod yX0_cellsAt, Cond.selects RX0 yX0_cellsAt yX0_cellsAt, Cond.code yX0_cellsAt cX0_cellsAt 3 (some .int)]
def wsL_put : List Cond := .codeWith yL_put cL_put 4 (some .int) [(0, 9, 12, 21), (0, 9, 15, 15)] :: ((wsL_put_r1 ++ (wsL_put_r2 ++ wsL_put_r3)) ++ wsX00 ++ (vx_atS RX0 63 "java/lang/IllegalStateException" ["java/lang/RuntimeException", "java/lang/Exception"]).filter goodWord ++ (vx_atS RX0 125 "java/lang/IndexOutOfBoundsException" ["java/lang/RuntimeException", "java/lang/Exception"]).filter goodWord)
def wsL_take_r1 : List Cond := [Cond.classLink RL 21 "java/lang/IndexOutOfBoundsException", Cond.classLink RL 15 "java/lang/IllegalStateException", Cond.methodLink RL 23 yX0_take, Cond.instanceMethod yX0_take, Cond.selects RX0 yX0_take yX0_take, Cond.initialized RX0, Cond.code yX0_take cX0_take 5 (some .boolean), Cond.classLink RX0 59 "java/lang/IllegalStateException", Cond.initialized "java/lang/IllegalStateException", Cond.fieldLink RX0 40 "CellTrays" "thingPlace" "[I", Cond.fieldLink RX0 37 "CellTrays" "thingKind" "[I", Cond.fieldLink RX0 31 "CellTrays" "trayThings" "[I", Cond.methodLink RX0 86 yX0_requireThing, Cond.instanceMethod yX0_requireThing, Cond.selects RX0 yX0_requireThing yX0_requireThing, Cond.code yX0_requireThing cX0_requireThing 2 none, Cond.classLink RX0 121 "java/lang/IndexOutOfBoundsException", Cond.initialized "java/lang/IndexOutOfBoundsException", Cond.fieldLink RX0 68 "CellTrays" "thingCount" "I", Cond.methodLink RX0 91 yX0_firstEmpty, Cond.instanceMethod yX0_firstEmpty, Cond.selects RX0 yX0_firstEmpty yX0_firstEmpty, Cond.code yX0_firstEmpty cX0_firstEmpty 3 (some .int), Cond.fieldLink RX0 25 "CellTrays" "trayKind" "[I"]
def wsL_take_r2 : List Cond := [Cond.methodLink RX0 94 yX0_liftOut, Cond.instanceMethod yX0_liftOut, Cond.selects RX0 yX0_liftOut yX0_liftOut, Cond.code yX0_liftOut cX0_liftOut 3 none, Cond.fieldLink RX0 34 "CellTrays" "cellThing" "[I", Cond.fieldLink RX0 43 "CellTrays" "thingCell" "[I", Cond.methodLink RX0 97 yX0_dropTray, Cond.instanceMethod yX0_dropTray, Cond.selects RX0 yX0_dropTray yX0_dropTray, Cond.code yX0_dropTray cX0_dropTray 2 none, Cond.fieldLink RX0 146 "CellTrays" "goneCount" "I"]
def wsL_take : List Cond := .codeWith yL_take cL_take 4 (some .int) [(0, 16, 19, 21), (0, 16, 22, 15)] :: ((wsL_take_r1 ++ wsL_take_r2) ++ wsX00 ++ (vx_atS RX0 63 "java/lang/IllegalStateException" ["java/lang/RuntimeException", "java/lang/Exception"]).filter goodWord ++ (vx_atS RX0 125 "java/lang/IndexOutOfBoundsException" ["java/lang/RuntimeException", "java/lang/Exception"]).filter goodWord)
def wsL_pack_r1 : List Cond := [Cond.classLink RL 21 "java/lang/IndexOutOfBoundsException", Cond.methodLink RL 27 yX0_pack, Cond.instanceMethod yX0_pack, Cond.selects RX0 yX0_pack yX0_pack, Cond.initialized RX0, Cond.code yX0_pack cX0_pack 5 (some .int), Cond.fieldLink RX0 109 "CellTrays" "movedCount" "I", Cond.methodLink RX0 64 yX0_requireKind, Cond.instanceMethod yX0_requireKind, Cond.selects RX0 yX0_requireKind yX0_requireKind, Cond.code yX0_requireKind cX0_requireKind 2 none, Cond.classLink RX0 121 "java/lang/IndexOutOfBoundsException", Cond.initialized "java/lang/IndexOutOfBoundsException", Cond.fieldLink RX0 55 "CellTrays" "kindCount" "I", Cond.methodLink RX0 100 yX0_leastPartly, Cond.instanceMethod yX0_leastPartly, Cond.selects RX0 yX0_leastPartly yX0_leastPartly, Cond.code yX0_leastPartly cX0_leastPartly 5 (some .int), Cond.fieldLink RX0 31 "CellTrays" "trayThings" "[I", Cond.methodLink RX0 180 yX0_isPartly, Cond.instanceMethod yX0_isPartly, Cond.selects RX0 yX0_isPartly yX0_isPartly, Cond.code yX0_isPartly cX0_isPartly 3 (some .boolean), Cond.fieldLink RX0 25 "CellTrays" "trayKind" "[I"]
def wsL_pack_r2 : List Cond := [Cond.fieldLink RX0 16 "CellTrays" "kindCells" "[I", Cond.methodLink RX0 103 yX0_mostPartly, Cond.instanceMethod yX0_mostPartly, Cond.selects RX0 yX0_mostPartly yX0_mostPartly, Cond.code yX0_mostPartly cX0_mostPartly 5 (some .int), Cond.methodLink RX0 106 yX0_moveLast, Cond.instanceMethod yX0_moveLast, Cond.selects RX0 yX0_moveLast yX0_moveLast, Cond.code yX0_moveLast cX0_moveLast 5 none, Cond.fieldLink RX0 34 "CellTrays" "cellThing" "[I", Cond.methodLink RX0 118 yX0_cellsAt, Cond.instanceMethod yX0_cellsAt, Cond.selects RX0 yX0_cellsAt yX0_cellsAt, Cond.code yX0_cellsAt cX0_cellsAt 3 (some .int), Cond.methodLink RX0 94 yX0_liftOut, Cond.instanceMethod yX0_liftOut, Cond.selects RX0 yX0_liftOut yX0_liftOut, Cond.code yX0_liftOut cX0_liftOut 3 none, Cond.fieldLink RX0 40 "CellTrays" "thingPlace" "[I", Cond.fieldLink RX0 43 "CellTrays" "thingCell" "[I", Cond.methodLink RX0 83 yX0_layIn, Cond.instanceMethod yX0_layIn, Cond.selects RX0 yX0_layIn yX0_layIn, Cond.code yX0_layIn cX0_layIn 5 none]
def wsL_pack : List Cond := .codeWith yL_pack cL_pack 4 (some .int) [(0, 9, 12, 21)] :: ((wsL_pack_r1 ++ wsL_pack_r2) ++ wsX00 ++ (vx_atS RX0 125 "java/lang/IndexOutOfBoundsException" ["java/lang/RuntimeException", "java/lang/Exception"]).filter goodWord)
def wsL_told : List Cond := .codeWith yL_told cL_told 5 (some .int) [(0, 10, 13, 21)] :: ([.classLink RL 21 "java/lang/IndexOutOfBoundsException", .methodLink RL 30 yX0_told, .instanceMethod yX0_told, .selects RX0 yX0_told yX0_told, .initialized RX0, .code yX0_told cX0_told 6 (some .int), .fieldLink RX0 37 "CellTrays" "thingKind" "[I", .fieldLink RX0 40 "CellTrays" "thingPlace" "[I", .fieldLink RX0 43 "CellTrays" "thingCell" "[I", .fieldLink RX0 28 "CellTrays" "trayOffset" "[I", .fieldLink RX0 9 "CellTrays" "kindSize" "[I", .methodLink RX0 86 yX0_requireThing, .instanceMethod yX0_requireThing, .selects RX0 yX0_requireThing yX0_requireThing, .code yX0_requireThing cX0_requireThing 2 none, .classLink RX0 121 "java/lang/IndexOutOfBoundsException", .initialized "java/lang/IndexOutOfBoundsException", .fieldLink RX0 68 "CellTrays" "thingCount" "I", .methodLink RX0 112 yX0_requireWhat, .instanceMethod yX0_requireWhat, .selects RX0 yX0_requireWhat yX0_requireWhat, .code yX0_requireWhat cX0_requireWhat 3 none] ++ wsX00 ++ (vx_atS RX0 125 "java/lang/IndexOutOfBoundsException" ["java/lang/RuntimeException", "java/lang/Exception"]).filter goodWord)
def wsL_tray : List Cond := .codeWith yL_tray cL_tray 5 (some .int) [(0, 10, 13, 21)] :: ([.classLink RL 21 "java/lang/IndexOutOfBoundsException", .methodLink RL 33 yX0_tray, .instanceMethod yX0_tray, .selects RX0 yX0_tray yX0_tray, .initialized RX0, .code yX0_tray cX0_tray 4 (some .int), .fieldLink RX0 25 "CellTrays" "trayKind" "[I", .fieldLink RX0 28 "CellTrays" "trayOffset" "[I", .fieldLink RX0 16 "CellTrays" "kindCells" "[I", .fieldLink RX0 31 "CellTrays" "trayThings" "[I", .fieldLink RX0 9 "CellTrays" "kindSize" "[I", .methodLink RX0 115 yX0_requirePlace, .instanceMethod yX0_requirePlace, .selects RX0 yX0_requirePlace yX0_requirePlace, .code yX0_requirePlace cX0_requirePlace 2 none, .classLink RX0 121 "java/lang/IndexOutOfBoundsException", .initialized "java/lang/IndexOutOfBoundsException", .methodLink RX0 112 yX0_requireWhat, .instanceMethod yX0_requireWhat, .selects RX0 yX0_requireWhat yX0_requireWhat, .code yX0_requireWhat cX0_requireWhat 3 none] ++ wsX00 ++ (vx_atS RX0 125 "java/lang/IndexOutOfBoundsException" ["java/lang/RuntimeException", "java/lang/Exception"]).filter goodWord)
def wsL_cell : List Cond := .codeWith yL_cell cL_cell 5 (some .int) [(0, 10, 13, 21)] :: ([.classLink RL 21 "java/lang/IndexOutOfBoundsException", .methodLink RL 36 yX0_cell, .instanceMethod yX0_cell, .selects RX0 yX0_cell yX0_cell, .initialized RX0, .code yX0_cell cX0_cell 3 (some .int), .classLink RX0 121 "java/lang/IndexOutOfBoundsException", .initialized "java/lang/IndexOutOfBoundsException", .fieldLink RX0 34 "CellTrays" "cellThing" "[I", .methodLink RX0 115 yX0_requirePlace, .instanceMethod yX0_requirePlace, .selects RX0 yX0_requirePlace yX0_requirePlace, .code yX0_requirePlace cX0_requirePlace 2 none, .methodLink RX0 118 yX0_cellsAt, .instanceMethod yX0_cellsAt, .selects RX0 yX0_cellsAt yX0_cellsAt, .code yX0_cellsAt cX0_cellsAt 3 (some .int), .fieldLink RX0 25 "CellTrays" "trayKind" "[I", .fieldLink RX0 16 "CellTrays" "kindCells" "[I"] ++ wsX00 ++ (vx_atS RX0 125 "java/lang/IndexOutOfBoundsException" ["java/lang/RuntimeException", "java/lang/Exception"]).filter goodWord)
def wsL_about_r1 : List Cond := [Cond.classLink RL 21 "java/lang/IndexOutOfBoundsException", Cond.methodLink RL 39 yX0_about, Cond.instanceMethod yX0_about, Cond.selects RX0 yX0_about yX0_about, Cond.initialized RX0, Cond.code yX0_about cX0_about 3 (some .int), Cond.fieldLink RX0 9 "CellTrays" "kindSize" "[I", Cond.fieldLink RX0 13 "CellTrays" "kindStep" "[I", Cond.fieldLink RX0 16 "CellTrays" "kindCells" "[I", Cond.fieldLink RX0 22 "CellTrays" "kindNextOffset" "[I", Cond.methodLink RX0 64 yX0_requireKind, Cond.instanceMethod yX0_requireKind, Cond.selects RX0 yX0_requireKind yX0_requireKind, Cond.code yX0_requireKind cX0_requireKind 2 none, Cond.classLink RX0 121 "java/lang/IndexOutOfBoundsException", Cond.initialized "java/lang/IndexOutOfBoundsException", Cond.fieldLink RX0 55 "CellTrays" "kindCount" "I", Cond.methodLink RX0 112 yX0_requireWhat, Cond.instanceMethod yX0_requireWhat, Cond.selects RX0 yX0_requireWhat yX0_requireWhat, Cond.code yX0_requireWhat cX0_requireWhat 3 none, Cond.methodLink RX0 126 yX0_traysOf, Cond.instanceMethod yX0_traysOf, Cond.selects RX0 yX0_traysOf yX0_traysOf]
def wsL_about_r2 : List Cond := [Cond.code yX0_traysOf cX0_traysOf 4 (some .int), Cond.fieldLink RX0 25 "CellTrays" "trayKind" "[I", Cond.methodLink RX0 129 yX0_traysHolding, Cond.instanceMethod yX0_traysHolding, Cond.selects RX0 yX0_traysHolding yX0_traysHolding, Cond.code yX0_traysHolding cX0_traysHolding 5 (some .int), Cond.fieldLink RX0 31 "CellTrays" "trayThings" "[I", Cond.methodLink RX0 133 yX0_thingsOf, Cond.instanceMethod yX0_thingsOf, Cond.selects RX0 yX0_thingsOf yX0_thingsOf, Cond.code yX0_thingsOf cX0_thingsOf 4 (some .int), Cond.methodLink RX0 136 yX0_freeCellsOf, Cond.instanceMethod yX0_freeCellsOf, Cond.selects RX0 yX0_freeCellsOf yX0_freeCellsOf, Cond.code yX0_freeCellsOf cX0_freeCellsOf 2 (some .int)]
def wsL_about : List Cond := .codeWith yL_about cL_about 5 (some .int) [(0, 10, 13, 21)] :: ((wsL_about_r1 ++ wsL_about_r2) ++ wsX00 ++ (vx_atS RX0 125 "java/lang/IndexOutOfBoundsException" ["java/lang/RuntimeException", "java/lang/Exception"]).filter goodWord)
def wsL_count_r1 : List Cond := [Cond.classLink RL 21 "java/lang/IndexOutOfBoundsException", Cond.methodLink RL 42 yX0_count, Cond.instanceMethod yX0_count, Cond.selects RX0 yX0_count yX0_count, Cond.initialized RX0, Cond.code yX0_count cX0_count 2 (some .int), Cond.fieldLink RX0 55 "CellTrays" "kindCount" "I", Cond.fieldLink RX0 68 "CellTrays" "thingCount" "I", Cond.fieldLink RX0 146 "CellTrays" "goneCount" "I", Cond.fieldLink RX0 109 "CellTrays" "movedCount" "I", Cond.methodLink RX0 112 yX0_requireWhat, Cond.instanceMethod yX0_requireWhat, Cond.selects RX0 yX0_requireWhat yX0_requireWhat, Cond.code yX0_requireWhat cX0_requireWhat 3 none, Cond.classLink RX0 121 "java/lang/IndexOutOfBoundsException", Cond.initialized "java/lang/IndexOutOfBoundsException", Cond.methodLink RX0 126 yX0_traysOf, Cond.instanceMethod yX0_traysOf, Cond.selects RX0 yX0_traysOf yX0_traysOf, Cond.code yX0_traysOf cX0_traysOf 4 (some .int), Cond.fieldLink RX0 25 "CellTrays" "trayKind" "[I", Cond.methodLink RX0 139 yX0_thingsThere, Cond.instanceMethod yX0_thingsThere, Cond.selects RX0 yX0_thingsThere yX0_thingsThere]
def wsL_count_r2 : List Cond := [Cond.code yX0_thingsThere cX0_thingsThere 3 (some .int), Cond.methodLink RX0 133 yX0_thingsOf, Cond.instanceMethod yX0_thingsOf, Cond.selects RX0 yX0_thingsOf yX0_thingsOf, Cond.code yX0_thingsOf cX0_thingsOf 4 (some .int), Cond.fieldLink RX0 31 "CellTrays" "trayThings" "[I", Cond.methodLink RX0 143 yX0_wastedInAll, Cond.instanceMethod yX0_wastedInAll, Cond.selects RX0 yX0_wastedInAll yX0_wastedInAll, Cond.code yX0_wastedInAll cX0_wastedInAll 3 (some .int), Cond.methodLink RX0 149 yX0_wastedBy, Cond.instanceMethod yX0_wastedBy, Cond.selects RX0 yX0_wastedBy yX0_wastedBy, Cond.code yX0_wastedBy cX0_wastedBy 2 (some .int), Cond.fieldLink RX0 9 "CellTrays" "kindSize" "[I"]
def wsL_count : List Cond := .codeWith yL_count cL_count 4 (some .int) [(0, 9, 12, 21)] :: ((wsL_count_r1 ++ wsL_count_r2) ++ wsX00 ++ (vx_atS RX0 125 "java/lang/IndexOutOfBoundsException" ["java/lang/RuntimeException", "java/lang/Exception"]).filter goodWord)
def wsL_would_r1 : List Cond := [Cond.classLink RL 21 "java/lang/IndexOutOfBoundsException", Cond.methodLink RL 45 yX0_would, Cond.instanceMethod yX0_would, Cond.selects RX0 yX0_would yX0_would, Cond.initialized RX0, Cond.code yX0_would cX0_would 2 (some .int), Cond.methodLink RX0 64 yX0_requireKind, Cond.instanceMethod yX0_requireKind, Cond.selects RX0 yX0_requireKind yX0_requireKind, Cond.code yX0_requireKind cX0_requireKind 2 none, Cond.classLink RX0 121 "java/lang/IndexOutOfBoundsException", Cond.initialized "java/lang/IndexOutOfBoundsException", Cond.fieldLink RX0 55 "CellTrays" "kindCount" "I", Cond.methodLink RX0 73 yX0_placeFor, Cond.instanceMethod yX0_placeFor, Cond.selects RX0 yX0_placeFor yX0_placeFor, Cond.code yX0_placeFor cX0_placeFor 3 (some .int), Cond.methodLink RX0 103 yX0_mostPartly, Cond.instanceMethod yX0_mostPartly, Cond.selects RX0 yX0_mostPartly yX0_mostPartly, Cond.code yX0_mostPartly cX0_mostPartly 5 (some .int), Cond.fieldLink RX0 31 "CellTrays" "trayThings" "[I", Cond.methodLink RX0 180 yX0_isPartly, Cond.instanceMethod yX0_isPartly]
def wsL_would_r2 : List Cond := [Cond.selects RX0 yX0_isPartly yX0_isPartly, Cond.code yX0_isPartly cX0_isPartly 3 (some .boolean), Cond.fieldLink RX0 25 "CellTrays" "trayKind" "[I", Cond.fieldLink RX0 16 "CellTrays" "kindCells" "[I", Cond.methodLink RX0 91 yX0_firstEmpty, Cond.instanceMethod yX0_firstEmpty, Cond.selects RX0 yX0_firstEmpty yX0_firstEmpty, Cond.code yX0_firstEmpty cX0_firstEmpty 3 (some .int), Cond.methodLink RX0 177 yX0_firstBare, Cond.instanceMethod yX0_firstBare, Cond.selects RX0 yX0_firstBare yX0_firstBare, Cond.code yX0_firstBare cX0_firstBare 2 (some .int)]
def wsL_would : List Cond := .codeWith yL_would cL_would 4 (some .int) [(0, 9, 12, 21)] :: ((wsL_would_r1 ++ wsL_would_r2) ++ wsX00 ++ (vx_atS RX0 125 "java/lang/IndexOutOfBoundsException" ["java/lang/RuntimeException", "java/lang/Exception"]).filter goodWord)
def wsL_spares : List Cond := .codeWith yL_spares cL_spares 4 (some .int) [(0, 9, 12, 21)] :: ([.classLink RL 21 "java/lang/IndexOutOfBoundsException", .methodLink RL 48 yX0_spares, .instanceMethod yX0_spares, .selects RX0 yX0_spares yX0_spares, .initialized RX0, .code yX0_spares cX0_spares 5 (some .int), .fieldLink RX0 25 "CellTrays" "trayKind" "[I", .fieldLink RX0 16 "CellTrays" "kindCells" "[I", .methodLink RX0 64 yX0_requireKind, .instanceMethod yX0_requireKind, .selects RX0 yX0_requireKind yX0_requireKind, .code yX0_requireKind cX0_requireKind 2 none, .classLink RX0 121 "java/lang/IndexOutOfBoundsException", .initialized "java/lang/IndexOutOfBoundsException", .fieldLink RX0 55 "CellTrays" "kindCount" "I", .methodLink RX0 133 yX0_thingsOf, .instanceMethod yX0_thingsOf, .selects RX0 yX0_thingsOf yX0_thingsOf, .code yX0_thingsOf cX0_thingsOf 4 (some .int), .fieldLink RX0 31 "CellTrays" "trayThings" "[I"] ++ wsX00 ++ (vx_atS RX0 125 "java/lang/IndexOutOfBoundsException" ["java/lang/RuntimeException", "java/lang/Exception"]).filter goodWord)
def wsL_room_r1 : List Cond := [Cond.classLink RL 21 "java/lang/IndexOutOfBoundsException", Cond.methodLink RL 51 yX0_room, Cond.instanceMethod yX0_room, Cond.selects RX0 yX0_room yX0_room, Cond.initialized RX0, Cond.code yX0_room cX0_room 2 (some .int), Cond.fieldLink RX0 16 "CellTrays" "kindCells" "[I", Cond.methodLink RX0 64 yX0_requireKind, Cond.instanceMethod yX0_requireKind, Cond.selects RX0 yX0_requireKind yX0_requireKind, Cond.code yX0_requireKind cX0_requireKind 2 none, Cond.classLink RX0 121 "java/lang/IndexOutOfBoundsException", Cond.initialized "java/lang/IndexOutOfBoundsException", Cond.fieldLink RX0 55 "CellTrays" "kindCount" "I", Cond.methodLink RX0 136 yX0_freeCellsOf, Cond.instanceMethod yX0_freeCellsOf, Cond.selects RX0 yX0_freeCellsOf yX0_freeCellsOf, Cond.code yX0_freeCellsOf cX0_freeCellsOf 2 (some .int), Cond.methodLink RX0 126 yX0_traysOf, Cond.instanceMethod yX0_traysOf, Cond.selects RX0 yX0_traysOf yX0_traysOf, Cond.code yX0_traysOf cX0_traysOf 4 (some .int), Cond.fieldLink RX0 25 "CellTrays" "trayKind" "[I", Cond.methodLink RX0 133 yX0_thingsOf]
def wsL_room_r2 : List Cond := [Cond.instanceMethod yX0_thingsOf, Cond.selects RX0 yX0_thingsOf yX0_thingsOf, Cond.code yX0_thingsOf cX0_thingsOf 4 (some .int), Cond.fieldLink RX0 31 "CellTrays" "trayThings" "[I"]
def wsL_room : List Cond := .codeWith yL_room cL_room 4 (some .int) [(0, 9, 12, 21)] :: ((wsL_room_r1 ++ wsL_room_r2) ++ wsX00 ++ (vx_atS RX0 125 "java/lang/IndexOutOfBoundsException" ["java/lang/RuntimeException", "java/lang/Exception"]).filter goodWord)
def wsL_law0_r1 : List Cond := [Cond.classLink RL 8 RX0, Cond.instantiable RX0 16, Cond.initialized RX0, Cond.classLink RL 55 RX1, Cond.instantiable RX1 15, Cond.initialized RX1, Cond.arrayClass .long, Cond.methodLink RL 54 yX0_init, Cond.instanceMethod yX0_init, Cond.code yX0_init cX0_init 2 none, Cond.methodLink RX0 1 objectInit, Cond.instanceMethod objectInit, Cond.code objectInit ⟨#[0xb1]⟩ 1 none, Cond.arrayClass .int, Cond.fieldLink RX0 9 "CellTrays" "kindSize" "[I", Cond.fieldLink RX0 13 "CellTrays" "kindStep" "[I", Cond.fieldLink RX0 16 "CellTrays" "kindCells" "[I", Cond.fieldLink RX0 19 "CellTrays" "kindRest" "[I", Cond.fieldLink RX0 22 "CellTrays" "kindNextOffset" "[I", Cond.fieldLink RX0 25 "CellTrays" "trayKind" "[I", Cond.fieldLink RX0 28 "CellTrays" "trayOffset" "[I", Cond.fieldLink RX0 31 "CellTrays" "trayThings" "[I", Cond.fieldLink RX0 34 "CellTrays" "cellThing" "[I", Cond.fieldLink RX0 37 "CellTrays" "thingKind" "[I"]
def wsL_law0_r2 : List Cond := [Cond.fieldLink RX0 40 "CellTrays" "thingPlace" "[I", Cond.fieldLink RX0 43 "CellTrays" "thingCell" "[I", Cond.methodLink RL 57 yX1_init, Cond.instanceMethod yX1_init, Cond.code yX1_init cX1_init 2 none, Cond.methodLink RX1 1 objectInit, Cond.fieldLink RX1 9 "CellTraysModel" "size" "[I", Cond.fieldLink RX1 13 "CellTraysModel" "step" "[I", Cond.fieldLink RX1 16 "CellTraysModel" "next" "[I", Cond.fieldLink RX1 19 "CellTraysModel" "of" "[I", Cond.fieldLink RX1 22 "CellTraysModel" "offset" "[I", Cond.fieldLink RX1 25 "CellTraysModel" "many" "[I", Cond.fieldLink RX1 28 "CellTraysModel" "inside" "[I", Cond.fieldLink RX1 31 "CellTraysModel" "kindOf" "[I", Cond.fieldLink RX1 34 "CellTraysModel" "place" "[I", Cond.fieldLink RX1 37 "CellTraysModel" "cell" "[I", Cond.methodLink RL 58 yL_kind, Cond.static yL_kind, Cond.initialized RL, Cond.codeWith yL_kind cL_kind 5 (some .int) [(0, 10, 13, 13), (0, 10, 17, 15)], Cond.classLink RL 13 "java/lang/IllegalArgumentException", Cond.classLink RL 15 "java/lang/IllegalStateException", Cond.methodLink RL 7 yX0_kind, Cond.instanceMethod yX0_kind]
def wsL_law0_r3 : List Cond := [Cond.selects RX0 yX0_kind yX0_kind, Cond.code yX0_kind cX0_kind 4 (some .int), Cond.classLink RX0 46 "java/lang/IllegalArgumentException", Cond.initialized "java/lang/IllegalArgumentException", Cond.classLink RX0 59 "java/lang/IllegalStateException", Cond.initialized "java/lang/IllegalStateException", Cond.fieldLink RX0 55 "CellTrays" "kindCount" "I", Cond.methodLink RL 63 yX1_kind, Cond.instanceMethod yX1_kind, Cond.selects RX1 yX1_kind yX1_kind, Cond.code yX1_kind cX1_kind 3 (some .int), Cond.fieldLink RX1 40 "CellTraysModel" "thrown" "I", Cond.fieldLink RX1 44 "CellTraysModel" "kinds" "I", Cond.methodLink RX1 47 yX1_isIn, Cond.static yX1_isIn, Cond.code yX1_isIn cX1_isIn 3 (some .boolean), Cond.methodLink RX1 78 yX1_no, Cond.instanceMethod yX1_no, Cond.selects RX1 yX1_no yX1_no, Cond.code yX1_no cX1_no 2 (some .int), Cond.methodLink RL 64 yX1_thrown, Cond.instanceMethod yX1_thrown, Cond.selects RX1 yX1_thrown yX1_thrown, Cond.code yX1_thrown cX1_thrown 1 (some .int)]
def wsL_law0_r4 : List Cond := [Cond.methodLink RL 68 yL_put, Cond.static yL_put, Cond.codeWith yL_put cL_put 4 (some .int) [(0, 9, 12, 21), (0, 9, 15, 15)], Cond.classLink RL 21 "java/lang/IndexOutOfBoundsException", Cond.methodLink RL 17 yX0_put, Cond.instanceMethod yX0_put, Cond.selects RX0 yX0_put yX0_put, Cond.code yX0_put cX0_put 4 (some .int), Cond.fieldLink RX0 68 "CellTrays" "thingCount" "I", Cond.methodLink RX0 64 yX0_requireKind, Cond.instanceMethod yX0_requireKind, Cond.selects RX0 yX0_requireKind yX0_requireKind, Cond.code yX0_requireKind cX0_requireKind 2 none, Cond.classLink RX0 121 "java/lang/IndexOutOfBoundsException", Cond.initialized "java/lang/IndexOutOfBoundsException", Cond.methodLink RX0 73 yX0_placeFor, Cond.instanceMethod yX0_placeFor, Cond.selects RX0 yX0_placeFor yX0_placeFor, Cond.code yX0_placeFor cX0_placeFor 3 (some .int), Cond.methodLink RX0 103 yX0_mostPartly, Cond.instanceMethod yX0_mostPartly, Cond.selects RX0 yX0_mostPartly yX0_mostPartly, Cond.code yX0_mostPartly cX0_mostPartly 5 (some .int), Cond.methodLink RX0 180 yX0_isPartly]
def wsL_law0_r5 : List Cond := [Cond.instanceMethod yX0_isPartly, Cond.selects RX0 yX0_isPartly yX0_isPartly, Cond.code yX0_isPartly cX0_isPartly 3 (some .boolean), Cond.methodLink RX0 91 yX0_firstEmpty, Cond.instanceMethod yX0_firstEmpty, Cond.selects RX0 yX0_firstEmpty yX0_firstEmpty, Cond.code yX0_firstEmpty cX0_firstEmpty 3 (some .int), Cond.methodLink RX0 177 yX0_firstBare, Cond.instanceMethod yX0_firstBare, Cond.selects RX0 yX0_firstBare yX0_firstBare, Cond.code yX0_firstBare cX0_firstBare 2 (some .int), Cond.methodLink RX0 79 yX0_addTray, Cond.instanceMethod yX0_addTray, Cond.selects RX0 yX0_addTray yX0_addTray, Cond.code yX0_addTray cX0_addTray 4 none, Cond.methodLink RX0 83 yX0_layIn, Cond.instanceMethod yX0_layIn, Cond.selects RX0 yX0_layIn yX0_layIn, Cond.code yX0_layIn cX0_layIn 5 none, Cond.methodLink RX0 118 yX0_cellsAt, Cond.instanceMethod yX0_cellsAt, Cond.selects RX0 yX0_cellsAt yX0_cellsAt, Cond.code yX0_cellsAt cX0_cellsAt 3 (some .int), Cond.methodLink RL 71 yX1_put]
def wsL_law0_r6 : List Cond := [Cond.instanceMethod yX1_put, Cond.selects RX1 yX1_put yX1_put, Cond.code yX1_put cX1_put 3 (some .int), Cond.fieldLink RX1 51 "CellTraysModel" "things" "I", Cond.methodLink RX1 81 yX1_isKind, Cond.instanceMethod yX1_isKind, Cond.selects RX1 yX1_isKind yX1_isKind, Cond.code yX1_isKind cX1_isKind 2 (some .boolean), Cond.methodLink RX1 85 yX1_goesTo, Cond.instanceMethod yX1_goesTo, Cond.selects RX1 yX1_goesTo yX1_goesTo, Cond.code yX1_goesTo cX1_goesTo 4 (some .int), Cond.methodLink RX1 65 yX1_fullest, Cond.instanceMethod yX1_fullest, Cond.selects RX1 yX1_fullest yX1_fullest, Cond.code yX1_fullest cX1_fullest 4 (some .int), Cond.methodLink RX1 58 yX1_isPartly, Cond.instanceMethod yX1_isPartly, Cond.selects RX1 yX1_isPartly yX1_isPartly, Cond.code yX1_isPartly cX1_isPartly 3 (some .boolean), Cond.methodLink RX1 54 yX1_cells, Cond.instanceMethod yX1_cells, Cond.selects RX1 yX1_cells yX1_cells, Cond.code yX1_cells cX1_cells 2 (some .int)]
def wsL_law0_r7 : List Cond := [Cond.methodLink RX1 68 yX1_firstEmpty, Cond.instanceMethod yX1_firstEmpty, Cond.selects RX1 yX1_firstEmpty yX1_firstEmpty, Cond.code yX1_firstEmpty cX1_firstEmpty 3 (some .int), Cond.methodLink RX1 62 yX1_isEmpty, Cond.instanceMethod yX1_isEmpty, Cond.selects RX1 yX1_isEmpty yX1_isEmpty, Cond.code yX1_isEmpty cX1_isEmpty 3 (some .boolean), Cond.methodLink RX1 71 yX1_firstFree, Cond.instanceMethod yX1_firstFree, Cond.selects RX1 yX1_firstFree yX1_firstFree, Cond.code yX1_firstFree cX1_firstFree 2 (some .int), Cond.methodLink RX1 88 yX1_open, Cond.instanceMethod yX1_open, Cond.selects RX1 yX1_open yX1_open, Cond.code yX1_open cX1_open 4 none, Cond.methodLink RX1 92 yX1_freeCell, Cond.instanceMethod yX1_freeCell, Cond.selects RX1 yX1_freeCell yX1_freeCell, Cond.code yX1_freeCell cX1_freeCell 3 (some .int), Cond.methodLink RX1 95 yX1_lay, Cond.instanceMethod yX1_lay, Cond.selects RX1 yX1_lay yX1_lay, Cond.code yX1_lay cX1_lay 4 none]
def wsL_law0_r8 : List Cond := [Cond.methodLink RL 72 yL_take, Cond.static yL_take, Cond.codeWith yL_take cL_take 4 (some .int) [(0, 16, 19, 21), (0, 16, 22, 15)], Cond.methodLink RL 23 yX0_take, Cond.instanceMethod yX0_take, Cond.selects RX0 yX0_take yX0_take, Cond.code yX0_take cX0_take 5 (some .boolean), Cond.methodLink RX0 86 yX0_requireThing, Cond.instanceMethod yX0_requireThing, Cond.selects RX0 yX0_requireThing yX0_requireThing, Cond.code yX0_requireThing cX0_requireThing 2 none, Cond.methodLink RX0 94 yX0_liftOut, Cond.instanceMethod yX0_liftOut, Cond.selects RX0 yX0_liftOut yX0_liftOut, Cond.code yX0_liftOut cX0_liftOut 3 none, Cond.methodLink RX0 97 yX0_dropTray, Cond.instanceMethod yX0_dropTray, Cond.selects RX0 yX0_dropTray yX0_dropTray, Cond.code yX0_dropTray cX0_dropTray 2 none, Cond.fieldLink RX0 146 "CellTrays" "goneCount" "I", Cond.methodLink RL 74 yX1_take, Cond.instanceMethod yX1_take, Cond.selects RX1 yX1_take yX1_take, Cond.code yX1_take cX1_take 3 (some .boolean)]
def wsL_law0_r9 : List Cond := [Cond.methodLink RX1 99 yX1_isThing, Cond.instanceMethod yX1_isThing, Cond.selects RX1 yX1_isThing yX1_isThing, Cond.code yX1_isThing cX1_isThing 2 (some .boolean), Cond.methodLink RX1 102 yX1_lift, Cond.instanceMethod yX1_lift, Cond.selects RX1 yX1_lift yX1_lift, Cond.code yX1_lift cX1_lift 2 none, Cond.methodLink RX1 106 yX1_empties, Cond.instanceMethod yX1_empties, Cond.selects RX1 yX1_empties yX1_empties, Cond.code yX1_empties cX1_empties 4 (some .int), Cond.methodLink RX1 109 yX1_close, Cond.instanceMethod yX1_close, Cond.selects RX1 yX1_close yX1_close, Cond.code yX1_close cX1_close 2 none, Cond.fieldLink RX1 75 "CellTraysModel" "gone" "I", Cond.methodLink RL 75 yX0_sweep, Cond.instanceMethod yX0_sweep, Cond.selects RX0 yX0_sweep yX0_sweep, Cond.code yX0_sweep cX0_sweep 3 (some .int), Cond.methodLink RL 78 yX1_sweep, Cond.instanceMethod yX1_sweep, Cond.selects RX1 yX1_sweep yX1_sweep]
def wsL_law0_r10 : List Cond := [Cond.code yX1_sweep cX1_sweep 3 (some .int), Cond.methodLink RL 79 yL_pack, Cond.static yL_pack, Cond.codeWith yL_pack cL_pack 4 (some .int) [(0, 9, 12, 21)], Cond.methodLink RL 27 yX0_pack, Cond.instanceMethod yX0_pack, Cond.selects RX0 yX0_pack yX0_pack, Cond.code yX0_pack cX0_pack 5 (some .int), Cond.fieldLink RX0 109 "CellTrays" "movedCount" "I", Cond.methodLink RX0 100 yX0_leastPartly, Cond.instanceMethod yX0_leastPartly, Cond.selects RX0 yX0_leastPartly yX0_leastPartly, Cond.code yX0_leastPartly cX0_leastPartly 5 (some .int), Cond.methodLink RX0 106 yX0_moveLast, Cond.instanceMethod yX0_moveLast, Cond.selects RX0 yX0_moveLast yX0_moveLast, Cond.code yX0_moveLast cX0_moveLast 5 none, Cond.methodLink RL 81 yX1_pack, Cond.instanceMethod yX1_pack, Cond.selects RX1 yX1_pack yX1_pack, Cond.code yX1_pack cX1_pack 5 (some .int), Cond.fieldLink RX1 112 "CellTraysModel" "moved" "I", Cond.methodLink RX1 115 yX1_leanest, Cond.instanceMethod yX1_leanest]
def wsL_law0_r11 : List Cond := [Cond.selects RX1 yX1_leanest yX1_leanest, Cond.code yX1_leanest cX1_leanest 4 (some .int), Cond.methodLink RX1 118 yX1_lastThing, Cond.instanceMethod yX1_lastThing, Cond.selects RX1 yX1_lastThing yX1_lastThing, Cond.code yX1_lastThing cX1_lastThing 3 (some .int), Cond.methodLink RL 82 yL_told, Cond.static yL_told, Cond.codeWith yL_told cL_told 5 (some .int) [(0, 10, 13, 21)], Cond.methodLink RL 30 yX0_told, Cond.instanceMethod yX0_told, Cond.selects RX0 yX0_told yX0_told, Cond.code yX0_told cX0_told 6 (some .int), Cond.methodLink RX0 112 yX0_requireWhat, Cond.instanceMethod yX0_requireWhat, Cond.selects RX0 yX0_requireWhat yX0_requireWhat, Cond.code yX0_requireWhat cX0_requireWhat 3 none, Cond.methodLink RL 84 yX1_told, Cond.instanceMethod yX1_told, Cond.selects RX1 yX1_told yX1_told, Cond.code yX1_told cX1_told 3 (some .int), Cond.methodLink RX1 121 yX1_thingTold, Cond.instanceMethod yX1_thingTold, Cond.selects RX1 yX1_thingTold yX1_thingTold]
def wsL_law0_r12 : List Cond := [Cond.code yX1_thingTold cX1_thingTold 4 (some .int), Cond.methodLink RL 85 yL_tray, Cond.static yL_tray, Cond.codeWith yL_tray cL_tray 5 (some .int) [(0, 10, 13, 21)], Cond.methodLink RL 33 yX0_tray, Cond.instanceMethod yX0_tray, Cond.selects RX0 yX0_tray yX0_tray, Cond.code yX0_tray cX0_tray 4 (some .int), Cond.methodLink RX0 115 yX0_requirePlace, Cond.instanceMethod yX0_requirePlace, Cond.selects RX0 yX0_requirePlace yX0_requirePlace, Cond.code yX0_requirePlace cX0_requirePlace 2 none, Cond.methodLink RL 87 yX1_tray, Cond.instanceMethod yX1_tray, Cond.selects RX1 yX1_tray yX1_tray, Cond.code yX1_tray cX1_tray 3 (some .int), Cond.methodLink RX1 128 yX1_trayTold, Cond.instanceMethod yX1_trayTold, Cond.selects RX1 yX1_trayTold yX1_trayTold, Cond.code yX1_trayTold cX1_trayTold 3 (some .int), Cond.methodLink RX1 125 yX1_wasted, Cond.instanceMethod yX1_wasted, Cond.selects RX1 yX1_wasted yX1_wasted, Cond.code yX1_wasted cX1_wasted 2 (some .int)]
def wsL_law0_r13 : List Cond := [Cond.methodLink RL 88 yL_cell, Cond.static yL_cell, Cond.codeWith yL_cell cL_cell 5 (some .int) [(0, 10, 13, 21)], Cond.methodLink RL 36 yX0_cell, Cond.instanceMethod yX0_cell, Cond.selects RX0 yX0_cell yX0_cell, Cond.code yX0_cell cX0_cell 3 (some .int), Cond.methodLink RL 90 yX1_cell, Cond.instanceMethod yX1_cell, Cond.selects RX1 yX1_cell yX1_cell, Cond.code yX1_cell cX1_cell 3 (some .int), Cond.methodLink RL 91 yL_about, Cond.static yL_about, Cond.codeWith yL_about cL_about 5 (some .int) [(0, 10, 13, 21)], Cond.methodLink RL 39 yX0_about, Cond.instanceMethod yX0_about, Cond.selects RX0 yX0_about yX0_about, Cond.code yX0_about cX0_about 3 (some .int), Cond.methodLink RX0 126 yX0_traysOf, Cond.instanceMethod yX0_traysOf, Cond.selects RX0 yX0_traysOf yX0_traysOf, Cond.code yX0_traysOf cX0_traysOf 4 (some .int), Cond.methodLink RX0 129 yX0_traysHolding, Cond.instanceMethod yX0_traysHolding]
def wsL_law0_r14 : List Cond := [Cond.selects RX0 yX0_traysHolding yX0_traysHolding, Cond.code yX0_traysHolding cX0_traysHolding 5 (some .int), Cond.methodLink RX0 133 yX0_thingsOf, Cond.instanceMethod yX0_thingsOf, Cond.selects RX0 yX0_thingsOf yX0_thingsOf, Cond.code yX0_thingsOf cX0_thingsOf 4 (some .int), Cond.methodLink RX0 136 yX0_freeCellsOf, Cond.instanceMethod yX0_freeCellsOf, Cond.selects RX0 yX0_freeCellsOf yX0_freeCellsOf, Cond.code yX0_freeCellsOf cX0_freeCellsOf 2 (some .int), Cond.methodLink RL 93 yX1_about, Cond.instanceMethod yX1_about, Cond.selects RX1 yX1_about yX1_about, Cond.code yX1_about cX1_about 3 (some .int), Cond.methodLink RX1 140 yX1_kindTold, Cond.instanceMethod yX1_kindTold, Cond.selects RX1 yX1_kindTold yX1_kindTold, Cond.code yX1_kindTold cX1_kindTold 4 (some .int), Cond.methodLink RX1 131 yX1_trays, Cond.instanceMethod yX1_trays, Cond.selects RX1 yX1_trays yX1_trays, Cond.code yX1_trays cX1_trays 4 (some .int), Cond.methodLink RX1 134 yX1_full, Cond.instanceMethod yX1_full]
def wsL_law0_r15 : List Cond := [Cond.selects RX1 yX1_full yX1_full, Cond.code yX1_full cX1_full 4 (some .int), Cond.methodLink RX1 137 yX1_lying, Cond.instanceMethod yX1_lying, Cond.selects RX1 yX1_lying yX1_lying, Cond.code yX1_lying cX1_lying 4 (some .int), Cond.methodLink RL 94 yL_count, Cond.static yL_count, Cond.codeWith yL_count cL_count 4 (some .int) [(0, 9, 12, 21)], Cond.methodLink RL 42 yX0_count, Cond.instanceMethod yX0_count, Cond.selects RX0 yX0_count yX0_count, Cond.code yX0_count cX0_count 2 (some .int), Cond.methodLink RX0 139 yX0_thingsThere, Cond.instanceMethod yX0_thingsThere, Cond.selects RX0 yX0_thingsThere yX0_thingsThere, Cond.code yX0_thingsThere cX0_thingsThere 3 (some .int), Cond.methodLink RX0 143 yX0_wastedInAll, Cond.instanceMethod yX0_wastedInAll, Cond.selects RX0 yX0_wastedInAll yX0_wastedInAll, Cond.code yX0_wastedInAll cX0_wastedInAll 3 (some .int), Cond.methodLink RX0 149 yX0_wastedBy, Cond.instanceMethod yX0_wastedBy, Cond.selects RX0 yX0_wastedBy yX0_wastedBy]
def wsL_law0_r16 : List Cond := [Cond.code yX0_wastedBy cX0_wastedBy 2 (some .int), Cond.methodLink RL 96 yX1_count, Cond.instanceMethod yX1_count, Cond.selects RX1 yX1_count yX1_count, Cond.code yX1_count cX1_count 2 (some .int), Cond.methodLink RX1 143 yX1_counted, Cond.instanceMethod yX1_counted, Cond.selects RX1 yX1_counted yX1_counted, Cond.code yX1_counted cX1_counted 6 (some .int), Cond.methodLink RL 97 yL_would, Cond.static yL_would, Cond.codeWith yL_would cL_would 4 (some .int) [(0, 9, 12, 21)], Cond.methodLink RL 45 yX0_would, Cond.instanceMethod yX0_would, Cond.selects RX0 yX0_would yX0_would, Cond.code yX0_would cX0_would 2 (some .int), Cond.methodLink RL 99 yX1_would, Cond.instanceMethod yX1_would, Cond.selects RX1 yX1_would yX1_would, Cond.code yX1_would cX1_would 2 (some .int), Cond.methodLink RL 100 yL_spares, Cond.static yL_spares, Cond.codeWith yL_spares cL_spares 4 (some .int) [(0, 9, 12, 21)], Cond.methodLink RL 48 yX0_spares]
def wsL_law0_r17 : List Cond := [Cond.instanceMethod yX0_spares, Cond.selects RX0 yX0_spares yX0_spares, Cond.code yX0_spares cX0_spares 5 (some .int), Cond.methodLink RL 102 yX1_spares, Cond.instanceMethod yX1_spares, Cond.selects RX1 yX1_spares yX1_spares, Cond.code yX1_spares cX1_spares 2 (some .int), Cond.methodLink RL 103 yL_room, Cond.static yL_room, Cond.codeWith yL_room cL_room 4 (some .int) [(0, 9, 12, 21)], Cond.methodLink RL 51 yX0_room, Cond.instanceMethod yX0_room, Cond.selects RX0 yX0_room yX0_room, Cond.code yX0_room cX0_room 2 (some .int), Cond.methodLink RL 105 yX1_room, Cond.instanceMethod yX1_room, Cond.selects RX1 yX1_room yX1_room, Cond.code yX1_room cX1_room 2 (some .int), Cond.methodLink RL 106 yX0_worst, Cond.instanceMethod yX0_worst, Cond.selects RX0 yX0_worst yX0_worst, Cond.code yX0_worst cX0_worst 5 (some .int), Cond.methodLink RL 109 yX1_worst, Cond.instanceMethod yX1_worst]
def wsL_law0_r18 : List Cond := [Cond.selects RX1 yX1_worst yX1_worst, Cond.code yX1_worst cX1_worst 5 (some .int), Cond.methodLink RL 110 yX0_mean, Cond.instanceMethod yX0_mean, Cond.selects RX0 yX0_mean yX0_mean, Cond.code yX0_mean cX0_mean 2 (some .double), Cond.methodLink RL 114 yX1_mean, Cond.instanceMethod yX1_mean, Cond.selects RX1 yX1_mean yX1_mean, Cond.code yX1_mean cX1_mean 1 (some .double), Cond.methodLink RL 115 yX0_digest, Cond.instanceMethod yX0_digest, Cond.selects RX0 yX0_digest yX0_digest, Cond.code yX0_digest cX0_digest 5 (some .long), Cond.constantLong RX0 152 (1381), Cond.constantLong RX0 154 (31), Cond.methodLink RX0 156 yX0_count, Cond.methodLink RX0 159 yX0_about, Cond.methodLink RX0 162 yX0_digestPlace, Cond.instanceMethod yX0_digestPlace, Cond.selects RX0 yX0_digestPlace yX0_digestPlace, Cond.code yX0_digestPlace cX0_digestPlace 8 (some .long), Cond.methodLink RX0 166 yX0_tray, Cond.methodLink RL 119 yX1_digest]
def wsL_law0_r19 : List Cond := [Cond.instanceMethod yX1_digest, Cond.selects RX1 yX1_digest yX1_digest, Cond.code yX1_digest cX1_digest 5 (some .long), Cond.constantLong RX1 146 (1381), Cond.constantLong RX1 148 (31)]
def wsL_law0 : List Cond := (wsL_law0_r1 ++ (wsL_law0_r2 ++ (wsL_law0_r3 ++ (wsL_law0_r4 ++ (wsL_law0_r5 ++ (wsL_law0_r6 ++ (wsL_law0_r7 ++ (wsL_law0_r8 ++ (wsL_law0_r9 ++ (wsL_law0_r10 ++ (wsL_law0_r11 ++ (wsL_law0_r12 ++ (wsL_law0_r13 ++ (wsL_law0_r14 ++ (wsL_law0_r15 ++ (wsL_law0_r16 ++ (wsL_law0_r17 ++ (wsL_law0_r18 ++ wsL_law0_r19)))))))))))))))))) ++ wsX00 ++ wsX10 ++ ([] : List Cond)
def wsL_law : List Cond := wsL_law0 ++ (vx_atS RX0 50 "java/lang/IllegalArgumentException" ["java/lang/RuntimeException", "java/lang/Exception"]).filter goodWord ++ (vx_atS RX0 63 "java/lang/IllegalStateException" ["java/lang/RuntimeException", "java/lang/Exception"]).filter goodWord ++ (vx_atS RX0 125 "java/lang/IndexOutOfBoundsException" ["java/lang/RuntimeException", "java/lang/Exception"]).filter goodWord
abbrev vwCl : List vw_C := [(RX0, TX0, 16), (RX1, TX1, 15)]
end
section
set_option maxRecDepth 20000 in
theorem wsL_law_in_r1 : ∀ w ∈ wsL_law0_r1, w ∈ lw_tbl := fun w h => (goodIn_p wsL_law0_r1 [64, 67] (by decide +kernel) (by decide +kernel) w h).1
set_option maxRecDepth 20000 in
theorem wsL_law_in_r2 : ∀ w ∈ wsL_law0_r2, w ∈ lw_tbl := fun w h => (goodIn_p wsL_law0_r2 [434] (by decide +kernel) (by decide +kernel) w h).1
set_option maxRecDepth 20000 in
theorem wsL_law_in_r3 : ∀ w ∈ wsL_law0_r3, w ∈ lw_tbl := fun w h => (goodIn_p wsL_law0_r3 [278, 489, 492, 496, 485] (by decide +kernel) (by decide +kernel) w h).1
set_option maxRecDepth 20000 in
theorem wsL_law_in_r4 : ∀ w ∈ wsL_law0_r4, w ∈ lw_tbl := fun w h => (goodIn_p wsL_law0_r4 [319, 243, 324, 328] (by decide +kernel) (by decide +kernel) w h).1
set_option maxRecDepth 20000 in
theorem wsL_law_in_r5 : ∀ w ∈ wsL_law0_r5, w ∈ lw_tbl := fun w h => (goodIn_p wsL_law0_r5 [332, 336, 340, 345, 349, 269] (by decide +kernel) (by decide +kernel) w h).1
end
section
set_option maxRecDepth 20000 in
theorem wsL_law_in_r6 : ∀ w ∈ wsL_law0_r6, w ∈ lw_tbl := fun w h => (goodIn_p wsL_law0_r6 [500, 504, 508, 512, 516, 520] (by decide +kernel) (by decide +kernel) w h).1
set_option maxRecDepth 20000 in
theorem wsL_law_in_r7 : ∀ w ∈ wsL_law0_r7, w ∈ lw_tbl := fun w h => (goodIn_p wsL_law0_r7 [524, 528, 532, 536, 540, 544] (by decide +kernel) (by decide +kernel) w h).1
set_option maxRecDepth 20000 in
theorem wsL_law_in_r8 : ∀ w ∈ wsL_law0_r8, w ∈ lw_tbl := fun w h => (goodIn_p wsL_law0_r8 [356, 360, 366, 125, 548] (by decide +kernel) (by decide +kernel) w h).1
set_option maxRecDepth 20000 in
theorem wsL_law_in_r9 : ∀ w ∈ wsL_law0_r9, w ∈ lw_tbl := fun w h => (goodIn_p wsL_law0_r9 [552, 556, 560, 564, 121] (by decide +kernel) (by decide +kernel) w h).1
set_option maxRecDepth 20000 in
theorem wsL_law_in_r10 : ∀ w ∈ wsL_law0_r10, w ∈ lw_tbl := fun w h => (goodIn_p wsL_law0_r10 [568, 373, 377, 381, 572] (by decide +kernel) (by decide +kernel) w h).1
end
section
set_option maxRecDepth 20000 in
theorem wsL_law_in_r11 : ∀ w ∈ wsL_law0_r11, w ∈ lw_tbl := fun w h => (goodIn_p wsL_law0_r11 [576, 580, 388, 163, 584] (by decide +kernel) (by decide +kernel) w h).1
set_option maxRecDepth 20000 in
theorem wsL_law_in_r12 : ∀ w ∈ wsL_law0_r12, w ∈ lw_tbl := fun w h => (goodIn_p wsL_law0_r12 [588, 260, 264, 592, 596, 600] (by decide +kernel) (by decide +kernel) w h).1
set_option maxRecDepth 20000 in
theorem wsL_law_in_r13 : ∀ w ∈ wsL_law0_r13, w ∈ lw_tbl := fun w h => (goodIn_p wsL_law0_r13 [399, 604, 239, 137] (by decide +kernel) (by decide +kernel) w h).1
set_option maxRecDepth 20000 in
theorem wsL_law_in_r14 : ∀ w ∈ wsL_law0_r14, w ∈ lw_tbl := fun w h => (goodIn_p wsL_law0_r14 [248, 141, 252, 608, 612, 616] (by decide +kernel) (by decide +kernel) w h).1
set_option maxRecDepth 20000 in
theorem wsL_law_in_r15 : ∀ w ∈ wsL_law0_r15, w ∈ lw_tbl := fun w h => (goodIn_p wsL_law0_r15 [620, 624, 159, 149, 235] (by decide +kernel) (by decide +kernel) w h).1
end
section
set_option maxRecDepth 20000 in
theorem wsL_law_in_r16 : ∀ w ∈ wsL_law0_r16, w ∈ lw_tbl := fun w h => (goodIn_p wsL_law0_r16 [133, 628, 632, 415, 636] (by decide +kernel) (by decide +kernel) w h).1
set_option maxRecDepth 20000 in
theorem wsL_law_in_r17 : ∀ w ∈ wsL_law0_r17, w ∈ lw_tbl := fun w h => (goodIn_p wsL_law0_r17 [422, 640, 429, 644, 129] (by decide +kernel) (by decide +kernel) w h).1
set_option maxRecDepth 20000 in
theorem wsL_law_in_r18 : ∀ w ∈ wsL_law0_r18, w ∈ lw_tbl := fun w h => (goodIn_p wsL_law0_r18 [648, 145, 652, 153, 256] (by decide +kernel) (by decide +kernel) w h).1
set_option maxRecDepth 20000 in
theorem wsL_law_in_r19 : ∀ w ∈ wsL_law0_r19, w ∈ lw_tbl := fun w h => (goodIn_p wsL_law0_r19 [656] (by decide +kernel) (by decide +kernel) w h).1
end
section
set_option maxRecDepth 20000 in
theorem wsL_law_in_x0 : ∀ w ∈ wsX00, w ∈ lw_tbl := by decide +kernel
set_option maxRecDepth 20000 in
theorem wsL_law_in_x1 : ∀ w ∈ wsX10, w ∈ lw_tbl := by decide +kernel
theorem wsL_law_in0 : ∀ w ∈ wsL_law0, w ∈ lw_tbl := fun w h => (List.mem_append.mp h).elim (fun h => (List.mem_append.mp h).elim (fun h => (List.mem_append.mp h).elim (fun h => (fun h => (List.mem_append.mp h).elim (fun h => wsL_law_in_r1 w h) (fun h => (List.mem_append.mp h).elim (fun h => wsL_law_in_r2 w h) (fun h => (List.mem_append.mp h).elim (fun h => wsL_law_in_r3 w h) (fun h => (List.mem_append.mp h).elim (fun h => wsL_law_in_r4 w h) (fun h => (List.mem_append.mp h).elim (fun h => wsL_law_in_r5 w h) (fun h => (List.mem_append.mp h).elim (fun h => wsL_law_in_r6 w h) (fun h => (List.mem_append.mp h).elim (fun h => wsL_law_in_r7 w h) (fun h => (List.mem_append.mp h).elim (fun h => wsL_law_in_r8 w h) (fun h => (List.mem_append.mp h).elim (fun h => wsL_law_in_r9 w h) (fun h => (List.mem_append.mp h).elim (fun h => wsL_law_in_r10 w h) (fun h => (List.mem_append.mp h).elim (fun h => wsL_law_in_r11 w h) (fun h => (List.mem_append.mp h).elim (fun h => wsL_law_in_r12 w h) (fun h => (List.mem_append.mp h).elim (fun h => wsL_law_in_r13 w h) (fun h => (List.mem_append.mp h).elim (fun h => wsL_law_in_r14 w h) (fun h => (List.mem_append.mp h).elim (fun h => wsL_law_in_r15 w h) (fun h => (List.mem_append.mp h).elim (fun h => wsL_law_in_r16 w h) (fun h => (List.mem_append.mp h).elim (fun h => wsL_law_in_r17 w h) (fun h => (List.mem_append.mp h).elim (fun h => wsL_law_in_r18 w h) (fun h => wsL_law_in_r19 w h))))))))))))))))))) h) (fun h => wsL_law_in_x0 w h)) (fun h => wsL_law_in_x1 w h)) (fun h => absurd h List.not_mem_nil)
theorem wsL_law_x0 : ∀ w ∈ (vx_atS RX0 50 "java/lang/IllegalArgumentException" ["java/lang/RuntimeException", "java/lang/Exception"]).filter goodWord, w ∈ lw_tbl := by decide +kernel
theorem wsL_law_x1 : ∀ w ∈ (vx_atS RX0 63 "java/lang/IllegalStateException" ["java/lang/RuntimeException", "java/lang/Exception"]).filter goodWord, w ∈ lw_tbl := by decide +kernel
theorem wsL_law_x2 : ∀ w ∈ (vx_atS RX0 125 "java/lang/IndexOutOfBoundsException" ["java/lang/RuntimeException", "java/lang/Exception"]).filter goodWord, w ∈ lw_tbl := by decide +kernel
theorem wsL_law_in : ∀ w ∈ wsL_law, w ∈ lw_tbl := fun w h => (List.mem_append.mp h).elim (fun h => (List.mem_append.mp h).elim (fun h => (List.mem_append.mp h).elim (fun h => wsL_law_in0 w h) (fun h => wsL_law_x0 w h)) (fun h => wsL_law_x1 w h)) (fun h => wsL_law_x2 w h)
theorem inlX0 : ∀ w ∈ wsX00, w ∈ wsL_law := fun _ h => List.mem_append_left _ (List.mem_append_left _ (List.mem_append_left _ (List.mem_append_left _ (List.mem_append_left _ (List.mem_append_right _ h)))))
theorem inX0 : ∀ w ∈ wsX00, w ∈ lw_tbl := fun w h => wsL_law_in w (inlX0 w h)
theorem inlX1 : ∀ w ∈ wsX10, w ∈ wsL_law := fun _ h => List.mem_append_left _ (List.mem_append_left _ (List.mem_append_left _ (List.mem_append_left _ (List.mem_append_right _ h))))
theorem inX1 : ∀ w ∈ wsX10, w ∈ lw_tbl := fun w h => wsL_law_in w (inlX1 w h)
theorem inJ0 : ∀ w ∈ wsJ00, w ∈ lw_tbl := by decide +kernel
end
section
theorem dX0_init_0 : decode cX0_init 0 = .ok (.aload_n 0, 1) := by decide +kernel
theorem dX0_init_1 : decode cX0_init 1 = .ok (.invokespecial 1, 3) := by decide +kernel
theorem dX0_init_4 : decode cX0_init 4 = .ok (.aload_n 0, 1) := by decide +kernel
theorem dX0_init_5 : decode cX0_init 5 = .ok (.bipush 6, 2) := by decide +kernel
theorem dX0_init_7 : decode cX0_init 7 = .ok (.newarray .int, 2) := by decide +kernel
theorem dX0_init_9 : decode cX0_init 9 = .ok (.putfield 9, 3) := by decide +kernel
theorem dX0_init_12 : decode cX0_init 12 = .ok (.aload_n 0, 1) := by decide +kernel
theorem dX0_init_13 : decode cX0_init 13 = .ok (.bipush 6, 2) := by decide +kernel
theorem dX0_init_15 : decode cX0_init 15 = .ok (.newarray .int, 2) := by decide +kernel
theorem dX0_init_17 : decode cX0_init 17 = .ok (.putfield 13, 3) := by decide +kernel
theorem dX0_init_20 : decode cX0_init 20 = .ok (.aload_n 0, 1) := by decide +kernel
theorem dX0_init_21 : decode cX0_init 21 = .ok (.bipush 6, 2) := by decide +kernel
theorem dX0_init_23 : decode cX0_init 23 = .ok (.newarray .int, 2) := by decide +kernel
theorem dX0_init_25 : decode cX0_init 25 = .ok (.putfield 16, 3) := by decide +kernel
theorem dX0_init_28 : decode cX0_init 28 = .ok (.aload_n 0, 1) := by decide +kernel
theorem dX0_init_29 : decode cX0_init 29 = .ok (.bipush 6, 2) := by decide +kernel
theorem dX0_init_31 : decode cX0_init 31 = .ok (.newarray .int, 2) := by decide +kernel
theorem dX0_init_33 : decode cX0_init 33 = .ok (.putfield 19, 3) := by decide +kernel
theorem dX0_init_36 : decode cX0_init 36 = .ok (.aload_n 0, 1) := by decide +kernel
theorem dX0_init_37 : decode cX0_init 37 = .ok (.bipush 6, 2) := by decide +kernel
theorem dX0_init_39 : decode cX0_init 39 = .ok (.newarray .int, 2) := by decide +kernel
theorem dX0_init_41 : decode cX0_init 41 = .ok (.putfield 22, 3) := by decide +kernel
theorem dX0_init_44 : decode cX0_init 44 = .ok (.aload_n 0, 1) := by decide +kernel
theorem dX0_init_45 : decode cX0_init 45 = .ok (.bipush 20, 2) := by decide +kernel
theorem dX0_init_47 : decode cX0_init 47 = .ok (.newarray .int, 2) := by decide +kernel
theorem dX0_init_49 : decode cX0_init 49 = .ok (.putfield 25, 3) := by decide +kernel
theorem dX0_init_52 : decode cX0_init 52 = .ok (.aload_n 0, 1) := by decide +kernel
theorem dX0_init_53 : decode cX0_init 53 = .ok (.bipush 20, 2) := by decide +kernel
theorem dX0_init_55 : decode cX0_init 55 = .ok (.newarray .int, 2) := by decide +kernel
theorem dX0_init_57 : decode cX0_init 57 = .ok (.putfield 28, 3) := by decide +kernel
theorem dX0_init_60 : decode cX0_init 60 = .ok (.aload_n 0, 1) := by decide +kernel
theorem dX0_init_61 : decode cX0_init 61 = .ok (.bipush 20, 2) := by decide +kernel
theorem dX0_init_63 : decode cX0_init 63 = .ok (.newarray .int, 2) := by decide +kernel
theorem dX0_init_65 : decode cX0_init 65 = .ok (.putfield 31, 3) := by decide +kernel
theorem dX0_init_68 : decode cX0_init 68 = .ok (.aload_n 0, 1) := by decide +kernel
theorem dX0_init_69 : decode cX0_init 69 = .ok (.sipush 1280, 3) := by decide +kernel
theorem dX0_init_72 : decode cX0_init 72 = .ok (.newarray .int, 2) := by decide +kernel
theorem dX0_init_74 : decode cX0_init 74 = .ok (.putfield 34, 3) := by decide +kernel
theorem dX0_init_77 : decode cX0_init 77 = .ok (.aload_n 0, 1) := by decide +kernel
theorem dX0_init_78 : decode cX0_init 78 = .ok (.sipush 150, 3) := by decide +kernel
theorem dX0_init_81 : decode cX0_init 81 = .ok (.newarray .int, 2) := by decide +kernel
theorem dX0_init_83 : decode cX0_init 83 = .ok (.putfield 37, 3) := by decide +kernel
theorem dX0_init_86 : decode cX0_init 86 = .ok (.aload_n 0, 1) := by decide +kernel
theorem dX0_init_87 : decode cX0_init 87 = .ok (.sipush 150, 3) := by decide +kernel
theorem dX0_init_90 : decode cX0_init 90 = .ok (.newarray .int, 2) := by decide +kernel
theorem dX0_init_92 : decode cX0_init 92 = .ok (.putfield 40, 3) := by decide +kernel
theorem dX0_init_95 : decode cX0_init 95 = .ok (.aload_n 0, 1) := by decide +kernel
theorem dX0_init_96 : decode cX0_init 96 = .ok (.sipush 150, 3) := by decide +kernel
theorem dX0_init_99 : decode cX0_init 99 = .ok (.newarray .int, 2) := by decide +kernel
theorem dX0_init_101 : decode cX0_init 101 = .ok (.putfield 43, 3) := by decide +kernel
theorem dX0_init_104 : decode cX0_init 104 = .ok (.iconst 0, 1) := by decide +kernel
theorem dX0_init_105 : decode cX0_init 105 = .ok (.istore_n 1, 1) := by decide +kernel
theorem dX0_init_106 : decode cX0_init 106 = .ok (.iload_n 1, 1) := by decide +kernel
theorem dX0_init_107 : decode cX0_init 107 = .ok (.bipush 20, 2) := by decide +kernel
theorem dX0_init_109 : decode cX0_init 109 = .ok (.if_icmp .ge 16, 3) := by decide +kernel
theorem dX0_init_112 : decode cX0_init 112 = .ok (.aload_n 0, 1) := by decide +kernel
theorem dX0_init_113 : decode cX0_init 113 = .ok (.getfield 25, 3) := by decide +kernel
theorem dX0_init_116 : decode cX0_init 116 = .ok (.iload_n 1, 1) := by decide +kernel
theorem dX0_init_117 : decode cX0_init 117 = .ok (.iconst (-1), 1) := by decide +kernel
theorem dX0_init_118 : decode cX0_init 118 = .ok (.iastore, 1) := by decide +kernel
theorem dX0_init_119 : decode cX0_init 119 = .ok (.iinc 1 1, 3) := by decide +kernel
theorem dX0_init_122 : decode cX0_init 122 = .ok (.goto (-16), 3) := by decide +kernel
theorem dX0_init_125 : decode cX0_init 125 = .ok (.iconst 0, 1) := by decide +kernel
theorem dX0_init_126 : decode cX0_init 126 = .ok (.istore_n 1, 1) := by decide +kernel
theorem dX0_init_127 : decode cX0_init 127 = .ok (.iload_n 1, 1) := by decide +kernel
theorem dX0_init_128 : decode cX0_init 128 = .ok (.sipush 1280, 3) := by decide +kernel
theorem dX0_init_131 : decode cX0_init 131 = .ok (.if_icmp .ge 16, 3) := by decide +kernel
theorem dX0_init_134 : decode cX0_init 134 = .ok (.aload_n 0, 1) := by decide +kernel
theorem dX0_init_135 : decode cX0_init 135 = .ok (.getfield 34, 3) := by decide +kernel
theorem dX0_init_138 : decode cX0_init 138 = .ok (.iload_n 1, 1) := by decide +kernel
theorem dX0_init_139 : decode cX0_init 139 = .ok (.iconst (-1), 1) := by decide +kernel
theorem dX0_init_140 : decode cX0_init 140 = .ok (.iastore, 1) := by decide +kernel
theorem dX0_init_141 : decode cX0_init 141 = .ok (.iinc 1 1, 3) := by decide +kernel
theorem dX0_init_144 : decode cX0_init 144 = .ok (.goto (-17), 3) := by decide +kernel
theorem dX0_init_147 : decode cX0_init 147 = .ok (.return_, 1) := by decide +kernel
theorem dX0_kind_0 : decode cX0_kind 0 = .ok (.iload_n 1, 1) := by decide +kernel
theorem dX0_kind_1 : decode cX0_kind 1 = .ok (.iconst 1, 1) := by decide +kernel
theorem dX0_kind_2 : decode cX0_kind 2 = .ok (.if_icmp .lt 9, 3) := by decide +kernel
theorem dX0_kind_5 : decode cX0_kind 5 = .ok (.iload_n 1, 1) := by decide +kernel
theorem dX0_kind_6 : decode cX0_kind 6 = .ok (.bipush 32, 2) := by decide +kernel
theorem dX0_kind_8 : decode cX0_kind 8 = .ok (.if_icmp .le 13, 3) := by decide +kernel
theorem dX0_kind_11 : decode cX0_kind 11 = .ok (.new 46, 3) := by decide +kernel
theorem dX0_kind_14 : decode cX0_kind 14 = .ok (.dup, 1) := by decide +kernel
theorem dX0_kind_15 : decode cX0_kind 15 = .ok (.ldc 48, 2) := by decide +kernel
theorem dX0_kind_17 : decode cX0_kind 17 = .ok (.invokespecial 50, 3) := by decide +kernel
theorem dX0_kind_20 : decode cX0_kind 20 = .ok (.athrow, 1) := by decide +kernel
theorem dX0_kind_21 : decode cX0_kind 21 = .ok (.iload_n 2, 1) := by decide +kernel
theorem dX0_kind_22 : decode cX0_kind 22 = .ok (.iconst 1, 1) := by decide +kernel
theorem dX0_kind_23 : decode cX0_kind 23 = .ok (.if_icmp .lt 9, 3) := by decide +kernel
theorem dX0_kind_26 : decode cX0_kind 26 = .ok (.iload_n 2, 1) := by decide +kernel
theorem dX0_kind_27 : decode cX0_kind 27 = .ok (.bipush 16, 2) := by decide +kernel
theorem dX0_kind_29 : decode cX0_kind 29 = .ok (.if_icmp .le 13, 3) := by decide +kernel
theorem dX0_kind_32 : decode cX0_kind 32 = .ok (.new 46, 3) := by decide +kernel
theorem dX0_kind_35 : decode cX0_kind 35 = .ok (.dup, 1) := by decide +kernel
theorem dX0_kind_36 : decode cX0_kind 36 = .ok (.ldc 53, 2) := by decide +kernel
theorem dX0_kind_38 : decode cX0_kind 38 = .ok (.invokespecial 50, 3) := by decide +kernel
theorem dX0_kind_41 : decode cX0_kind 41 = .ok (.athrow, 1) := by decide +kernel
theorem dX0_kind_42 : decode cX0_kind 42 = .ok (.aload_n 0, 1) := by decide +kernel
theorem dX0_kind_43 : decode cX0_kind 43 = .ok (.getfield 55, 3) := by decide +kernel
theorem dX0_kind_46 : decode cX0_kind 46 = .ok (.bipush 6, 2) := by decide +kernel
theorem dX0_kind_48 : decode cX0_kind 48 = .ok (.if_icmp .lt 13, 3) := by decide +kernel
theorem dX0_kind_51 : decode cX0_kind 51 = .ok (.new 59, 3) := by decide +kernel
theorem dX0_kind_54 : decode cX0_kind 54 = .ok (.dup, 1) := by decide +kernel
theorem dX0_kind_55 : decode cX0_kind 55 = .ok (.ldc 61, 2) := by decide +kernel
theorem dX0_kind_57 : decode cX0_kind 57 = .ok (.invokespecial 63, 3) := by decide +kernel
theorem dX0_kind_60 : decode cX0_kind 60 = .ok (.athrow, 1) := by decide +kernel
theorem dX0_kind_61 : decode cX0_kind 61 = .ok (.aload_n 0, 1) := by decide +kernel
theorem dX0_kind_62 : decode cX0_kind 62 = .ok (.getfield 55, 3) := by decide +kernel
theorem dX0_kind_65 : decode cX0_kind 65 = .ok (.istore_n 3, 1) := by decide +kernel
theorem dX0_kind_66 : decode cX0_kind 66 = .ok (.aload_n 0, 1) := by decide +kernel
theorem dX0_kind_67 : decode cX0_kind 67 = .ok (.getfield 9, 3) := by decide +kernel
theorem dX0_kind_70 : decode cX0_kind 70 = .ok (.iload_n 3, 1) := by decide +kernel
theorem dX0_kind_71 : decode cX0_kind 71 = .ok (.iload_n 1, 1) := by decide +kernel
theorem dX0_kind_72 : decode cX0_kind 72 = .ok (.iastore, 1) := by decide +kernel
theorem dX0_kind_73 : decode cX0_kind 73 = .ok (.aload_n 0, 1) := by decide +kernel
theorem dX0_kind_74 : decode cX0_kind 74 = .ok (.getfield 13, 3) := by decide +kernel
theorem dX0_kind_77 : decode cX0_kind 77 = .ok (.iload_n 3, 1) := by decide +kernel
theorem dX0_kind_78 : decode cX0_kind 78 = .ok (.iload_n 2, 1) := by decide +kernel
theorem dX0_kind_79 : decode cX0_kind 79 = .ok (.iastore, 1) := by decide +kernel
theorem dX0_kind_80 : decode cX0_kind 80 = .ok (.aload_n 0, 1) := by decide +kernel
theorem dX0_kind_81 : decode cX0_kind 81 = .ok (.getfield 16, 3) := by decide +kernel
theorem dX0_kind_84 : decode cX0_kind 84 = .ok (.iload_n 3, 1) := by decide +kernel
theorem dX0_kind_85 : decode cX0_kind 85 = .ok (.bipush 64, 2) := by decide +kernel
theorem dX0_kind_87 : decode cX0_kind 87 = .ok (.iload_n 1, 1) := by decide +kernel
theorem dX0_kind_88 : decode cX0_kind 88 = .ok (.idiv, 1) := by decide +kernel
theorem dX0_kind_89 : decode cX0_kind 89 = .ok (.iastore, 1) := by decide +kernel
theorem dX0_kind_90 : decode cX0_kind 90 = .ok (.aload_n 0, 1) := by decide +kernel
theorem dX0_kind_91 : decode cX0_kind 91 = .ok (.getfield 19, 3) := by decide +kernel
theorem dX0_kind_94 : decode cX0_kind 94 = .ok (.iload_n 3, 1) := by decide +kernel
theorem dX0_kind_95 : decode cX0_kind 95 = .ok (.bipush 64, 2) := by decide +kernel
theorem dX0_kind_97 : decode cX0_kind 97 = .ok (.iload_n 1, 1) := by decide +kernel
theorem dX0_kind_98 : decode cX0_kind 98 = .ok (.irem, 1) := by decide +kernel
theorem dX0_kind_99 : decode cX0_kind 99 = .ok (.iastore, 1) := by decide +kernel
theorem dX0_kind_100 : decode cX0_kind 100 = .ok (.aload_n 0, 1) := by decide +kernel
theorem dX0_kind_101 : decode cX0_kind 101 = .ok (.dup, 1) := by decide +kernel
theorem dX0_kind_102 : decode cX0_kind 102 = .ok (.getfield 55, 3) := by decide +kernel
theorem dX0_kind_105 : decode cX0_kind 105 = .ok (.iconst 1, 1) := by decide +kernel
theorem dX0_kind_106 : decode cX0_kind 106 = .ok (.iadd, 1) := by decide +kernel
theorem dX0_kind_107 : decode cX0_kind 107 = .ok (.putfield 55, 3) := by decide +kernel
theorem dX0_kind_110 : decode cX0_kind 110 = .ok (.iload_n 3, 1) := by decide +kernel
theorem dX0_kind_111 : decode cX0_kind 111 = .ok (.ireturn, 1) := by decide +kernel
set_option maxRecDepth 20000 in
theorem ggX0_put_X0_requireKind : GoodIn wsX0_put wsX0_requireKind := goodIn_ca (goodIn_r _ [10, 11, 12, 13, 55, 56, 57, 58, 59, 60, 61, 62, 63, 64, 65, 66, 67, 68, 69, 70] (by decide +kernel) (by decide +kernel)) (goodIn_sub (fun _ h => List.mem_cons_of_mem _ (List.mem_append_right _ h)) (by decide +kernel))
set_option maxRecDepth 20000 in
theorem gX0_put_X0_requireKind : GoodIn wsX0_put (wsV RX0 64 RX0 yX0_requireKind wsX0_requireKind) := goodIn_app (goodIn_of _ (by decide +kernel)) ggX0_put_X0_requireKind
set_option maxRecDepth 20000 in
theorem ggX0_put_X0_placeFor : GoodIn wsX0_put wsX0_placeFor := goodIn_r _ [17, 18, 19, 20, 9, 21, 22, 23, 24, 25, 26, 4, 27, 28, 29, 30, 31, 32, 33, 34, 35, 55, 56, 57, 58, 59, 60, 61, 62, 63, 64, 65, 66, 67, 68, 69, 70] (by decide +kernel) (by decide +kernel)
set_option maxRecDepth 20000 in
theorem gX0_put_X0_placeFor : GoodIn wsX0_put (wsV RX0 73 RX0 yX0_placeFor wsX0_placeFor) := goodIn_app (goodIn_of _ (by decide +kernel)) ggX0_put_X0_placeFor
set_option maxRecDepth 20000 in
theorem ggX0_put_X0_addTray : GoodIn wsX0_put wsX0_addTray := goodIn_r _ [39, 4, 40, 41, 42, 43, 55, 56, 57, 58, 59, 60, 61, 62, 63, 64, 65, 66, 67, 68, 69, 70] (by decide +kernel) (by decide +kernel)
set_option maxRecDepth 20000 in
theorem gX0_put_X0_addTray : GoodIn wsX0_put (wsV RX0 79 RX0 yX0_addTray wsX0_addTray) := goodIn_app (goodIn_of _ (by decide +kernel)) ggX0_put_X0_addTray
set_option maxRecDepth 20000 in
theorem ggX0_put_X0_layIn : GoodIn wsX0_put wsX0_layIn := goodIn_r _ [47, 48, 22, 49, 50, 51, 52, 53, 9, 54, 4, 27, 55, 56, 57, 58, 59, 60, 61, 62, 63, 64, 65, 66, 67, 68, 69, 70] (by decide +kernel) (by decide +kernel)
set_option maxRecDepth 20000 in
theorem gX0_put_X0_layIn : GoodIn wsX0_put (wsV RX0 83 RX0 yX0_layIn wsX0_layIn) := goodIn_app (goodIn_of _ (by decide +kernel)) ggX0_put_X0_layIn
theorem dX0_put_0 : decode cX0_put 0 = .ok (.aload_n 0, 1) := by decide +kernel
theorem dX0_put_1 : decode cX0_put 1 = .ok (.iload_n 1, 1) := by decide +kernel
theorem dX0_put_2 : decode cX0_put 2 = .ok (.invokevirtual 64, 3) := by decide +kernel
theorem dX0_put_5 : decode cX0_put 5 = .ok (.aload_n 0, 1) := by decide +kernel
theorem dX0_put_6 : decode cX0_put 6 = .ok (.getfield 68, 3) := by decide +kernel
theorem dX0_put_9 : decode cX0_put 9 = .ok (.sipush 150, 3) := by decide +kernel
theorem dX0_put_12 : decode cX0_put 12 = .ok (.if_icmp .lt 13, 3) := by decide +kernel
theorem dX0_put_15 : decode cX0_put 15 = .ok (.new 59, 3) := by decide +kernel
theorem dX0_put_18 : decode cX0_put 18 = .ok (.dup, 1) := by decide +kernel
theorem dX0_put_19 : decode cX0_put 19 = .ok (.ldc 71, 2) := by decide +kernel
theorem dX0_put_21 : decode cX0_put 21 = .ok (.invokespecial 63, 3) := by decide +kernel
theorem dX0_put_24 : decode cX0_put 24 = .ok (.athrow, 1) := by decide +kernel
theorem dX0_put_25 : decode cX0_put 25 = .ok (.aload_n 0, 1) := by decide +kernel
theorem dX0_put_26 : decode cX0_put 26 = .ok (.iload_n 1, 1) := by decide +kernel
theorem dX0_put_27 : decode cX0_put 27 = .ok (.invokevirtual 73, 3) := by decide +kernel
theorem dX0_put_30 : decode cX0_put 30 = .ok (.istore_n 2, 1) := by decide +kernel
theorem dX0_put_31 : decode cX0_put 31 = .ok (.iload_n 2, 1) := by decide +kernel
theorem dX0_put_32 : decode cX0_put 32 = .ok (.iconst (-1), 1) := by decide +kernel
theorem dX0_put_33 : decode cX0_put 33 = .ok (.if_icmp .ne 13, 3) := by decide +kernel
theorem dX0_put_36 : decode cX0_put 36 = .ok (.new 59, 3) := by decide +kernel
theorem dX0_put_39 : decode cX0_put 39 = .ok (.dup, 1) := by decide +kernel
theorem dX0_put_40 : decode cX0_put 40 = .ok (.ldc 77, 2) := by decide +kernel
theorem dX0_put_42 : decode cX0_put 42 = .ok (.invokespecial 63, 3) := by decide +kernel
theorem dX0_put_45 : decode cX0_put 45 = .ok (.athrow, 1) := by decide +kernel
theorem dX0_put_46 : decode cX0_put 46 = .ok (.aload_n 0, 1) := by decide +kernel
theorem dX0_put_47 : decode cX0_put 47 = .ok (.getfield 25, 3) := by decide +kernel
theorem dX0_put_50 : decode cX0_put 50 = .ok (.iload_n 2, 1) := by decide +kernel
theorem dX0_put_51 : decode cX0_put 51 = .ok (.iaload, 1) := by decide +kernel
theorem dX0_put_52 : decode cX0_put 52 = .ok (.iconst (-1), 1) := by decide +kernel
theorem dX0_put_53 : decode cX0_put 53 = .ok (.if_icmp .ne 9, 3) := by decide +kernel
theorem dX0_put_56 : decode cX0_put 56 = .ok (.aload_n 0, 1) := by decide +kernel
theorem dX0_put_57 : decode cX0_put 57 = .ok (.iload_n 2, 1) := by decide +kernel
theorem dX0_put_58 : decode cX0_put 58 = .ok (.iload_n 1, 1) := by decide +kernel
theorem dX0_put_59 : decode cX0_put 59 = .ok (.invokevirtual 79, 3) := by decide +kernel
theorem dX0_put_62 : decode cX0_put 62 = .ok (.aload_n 0, 1) := by decide +kernel
theorem dX0_put_63 : decode cX0_put 63 = .ok (.getfield 68, 3) := by decide +kernel
theorem dX0_put_66 : decode cX0_put 66 = .ok (.istore_n 3, 1) := by decide +kernel
theorem dX0_put_67 : decode cX0_put 67 = .ok (.aload_n 0, 1) := by decide +kernel
theorem dX0_put_68 : decode cX0_put 68 = .ok (.getfield 37, 3) := by decide +kernel
theorem dX0_put_71 : decode cX0_put 71 = .ok (.iload_n 3, 1) := by decide +kernel
theorem dX0_put_72 : decode cX0_put 72 = .ok (.iload_n 1, 1) := by decide +kernel
theorem dX0_put_73 : decode cX0_put 73 = .ok (.iastore, 1) := by decide +kernel
theorem dX0_put_74 : decode cX0_put 74 = .ok (.aload_n 0, 1) := by decide +kernel
theorem dX0_put_75 : decode cX0_put 75 = .ok (.dup, 1) := by decide +kernel
theorem dX0_put_76 : decode cX0_put 76 = .ok (.getfield 68, 3) := by decide +kernel
theorem dX0_put_79 : decode cX0_put 79 = .ok (.iconst 1, 1) := by decide +kernel
theorem dX0_put_80 : decode cX0_put 80 = .ok (.iadd, 1) := by decide +kernel
theorem dX0_put_81 : decode cX0_put 81 = .ok (.putfield 68, 3) := by decide +kernel
theorem dX0_put_84 : decode cX0_put 84 = .ok (.aload_n 0, 1) := by decide +kernel
theorem dX0_put_85 : decode cX0_put 85 = .ok (.iload_n 3, 1) := by decide +kernel
theorem dX0_put_86 : decode cX0_put 86 = .ok (.iload_n 2, 1) := by decide +kernel
theorem dX0_put_87 : decode cX0_put 87 = .ok (.invokevirtual 83, 3) := by decide +kernel
theorem dX0_put_90 : decode cX0_put 90 = .ok (.iload_n 3, 1) := by decide +kernel
theorem dX0_put_91 : decode cX0_put 91 = .ok (.ireturn, 1) := by decide +kernel
set_option maxRecDepth 20000 in
theorem ggX0_take_X0_requireThing : GoodIn wsX0_take wsX0_requireThing := goodIn_ca (goodIn_r _ [10, 11, 12, 13, 30, 31, 32, 33, 34, 35, 36, 37, 38, 39, 40, 41, 42, 43, 44, 45] (by decide +kernel) (by decide +kernel)) (goodIn_sub (fun _ h => List.mem_cons_of_mem _ (List.mem_append_right _ h)) (by decide +kernel))
set_option maxRecDepth 20000 in
theorem gX0_take_X0_requireThing : GoodIn wsX0_take (wsV RX0 86 RX0 yX0_requireThing wsX0_requireThing) := goodIn_app (goodIn_of _ (by decide +kernel)) ggX0_take_X0_requireThing
set_option maxRecDepth 20000 in
theorem ggX0_take_X0_firstEmpty : GoodIn wsX0_take wsX0_firstEmpty := goodIn_r _ [17, 18, 5, 30, 31, 32, 33, 34, 35, 36, 37, 38, 39, 40, 41, 42, 43, 44, 45] (by decide +kernel) (by decide +kernel)
set_option maxRecDepth 20000 in
theorem gX0_take_X0_firstEmpty : GoodIn wsX0_take (wsV RX0 91 RX0 yX0_firstEmpty wsX0_firstEmpty) := goodIn_app (goodIn_of _ (by decide +kernel)) ggX0_take_X0_firstEmpty
set_option maxRecDepth 20000 in
theorem ggX0_take_X0_liftOut : GoodIn wsX0_take wsX0_liftOut := goodIn_r _ [22, 3, 23, 24, 5, 30, 31, 32, 33, 34, 35, 36, 37, 38, 39, 40, 41, 42, 43, 44, 45] (by decide +kernel) (by decide +kernel)
set_option maxRecDepth 20000 in
theorem gX0_take_X0_liftOut : GoodIn wsX0_take (wsV RX0 94 RX0 yX0_liftOut wsX0_liftOut) := goodIn_app (goodIn_of _ (by decide +kernel)) ggX0_take_X0_liftOut
set_option maxRecDepth 20000 in
theorem ggX0_take_X0_dropTray : GoodIn wsX0_take wsX0_dropTray := goodIn_r _ [28, 18, 29, 30, 31, 32, 33, 34, 35, 36, 37, 38, 39, 40, 41, 42, 43, 44, 45] (by decide +kernel) (by decide +kernel)
set_option maxRecDepth 20000 in
theorem gX0_take_X0_dropTray : GoodIn wsX0_take (wsV RX0 97 RX0 yX0_dropTray wsX0_dropTray) := goodIn_app (goodIn_of _ (by decide +kernel)) ggX0_take_X0_dropTray
theorem dX0_take_0 : decode cX0_take 0 = .ok (.aload_n 0, 1) := by decide +kernel
theorem dX0_take_1 : decode cX0_take 1 = .ok (.iload_n 1, 1) := by decide +kernel
theorem dX0_take_2 : decode cX0_take 2 = .ok (.invokevirtual 86, 3) := by decide +kernel
theorem dX0_take_5 : decode cX0_take 5 = .ok (.aload_n 0, 1) := by decide +kernel
theorem dX0_take_6 : decode cX0_take 6 = .ok (.getfield 40, 3) := by decide +kernel
theorem dX0_take_9 : decode cX0_take 9 = .ok (.iload_n 1, 1) := by decide +kernel
theorem dX0_take_10 : decode cX0_take 10 = .ok (.iaload, 1) := by decide +kernel
theorem dX0_take_11 : decode cX0_take 11 = .ok (.istore_n 2, 1) := by decide +kernel
theorem dX0_take_12 : decode cX0_take 12 = .ok (.iload_n 2, 1) := by decide +kernel
theorem dX0_take_13 : decode cX0_take 13 = .ok (.iconst (-1), 1) := by decide +kernel
theorem dX0_take_14 : decode cX0_take 14 = .ok (.if_icmp .ne 13, 3) := by decide +kernel
theorem dX0_take_17 : decode cX0_take 17 = .ok (.new 59, 3) := by decide +kernel
theorem dX0_take_20 : decode cX0_take 20 = .ok (.dup, 1) := by decide +kernel
theorem dX0_take_21 : decode cX0_take 21 = .ok (.ldc 89, 2) := by decide +kernel
theorem dX0_take_23 : decode cX0_take 23 = .ok (.invokespecial 63, 3) := by decide +kernel
theorem dX0_take_26 : decode cX0_take 26 = .ok (.athrow, 1) := by decide +kernel
theorem dX0_take_27 : decode cX0_take 27 = .ok (.aload_n 0, 1) := by decide +kernel
theorem dX0_take_28 : decode cX0_take 28 = .ok (.aload_n 0, 1) := by decide +kernel
theorem dX0_take_29 : decode cX0_take 29 = .ok (.getfield 37, 3) := by decide +kernel
theorem dX0_take_32 : decode cX0_take 32 = .ok (.iload_n 1, 1) := by decide +kernel
theorem dX0_take_33 : decode cX0_take 33 = .ok (.iaload, 1) := by decide +kernel
theorem dX0_take_34 : decode cX0_take 34 = .ok (.invokevirtual 91, 3) := by decide +kernel
theorem dX0_take_37 : decode cX0_take 37 = .ok (.iconst (-1), 1) := by decide +kernel
theorem dX0_take_38 : decode cX0_take 38 = .ok (.if_icmp .eq 7, 3) := by decide +kernel
theorem dX0_take_41 : decode cX0_take 41 = .ok (.iconst 1, 1) := by decide +kernel
theorem dX0_take_42 : decode cX0_take 42 = .ok (.goto 4, 3) := by decide +kernel
theorem dX0_take_45 : decode cX0_take 45 = .ok (.iconst 0, 1) := by decide +kernel
theorem dX0_take_46 : decode cX0_take 46 = .ok (.istore_n 3, 1) := by decide +kernel
theorem dX0_take_47 : decode cX0_take 47 = .ok (.aload_n 0, 1) := by decide +kernel
theorem dX0_take_48 : decode cX0_take 48 = .ok (.iload_n 1, 1) := by decide +kernel
theorem dX0_take_49 : decode cX0_take 49 = .ok (.invokevirtual 94, 3) := by decide +kernel
theorem dX0_take_52 : decode cX0_take 52 = .ok (.aload_n 0, 1) := by decide +kernel
theorem dX0_take_53 : decode cX0_take 53 = .ok (.getfield 31, 3) := by decide +kernel
theorem dX0_take_56 : decode cX0_take 56 = .ok (.iload_n 2, 1) := by decide +kernel
theorem dX0_take_57 : decode cX0_take 57 = .ok (.iaload, 1) := by decide +kernel
theorem dX0_take_58 : decode cX0_take 58 = .ok (.ifCond .ne 11, 3) := by decide +kernel
theorem dX0_take_61 : decode cX0_take 61 = .ok (.iload_n 3, 1) := by decide +kernel
theorem dX0_take_62 : decode cX0_take 62 = .ok (.ifCond .eq 7, 3) := by decide +kernel
theorem dX0_take_65 : decode cX0_take 65 = .ok (.iconst 1, 1) := by decide +kernel
theorem dX0_take_66 : decode cX0_take 66 = .ok (.goto 4, 3) := by decide +kernel
theorem dX0_take_69 : decode cX0_take 69 = .ok (.iconst 0, 1) := by decide +kernel
theorem dX0_take_70 : decode cX0_take 70 = .ok (.istore 4, 2) := by decide +kernel
theorem dX0_take_72 : decode cX0_take 72 = .ok (.iload 4, 2) := by decide +kernel
theorem dX0_take_74 : decode cX0_take 74 = .ok (.ifCond .eq 8, 3) := by decide +kernel
theorem dX0_take_77 : decode cX0_take 77 = .ok (.aload_n 0, 1) := by decide +kernel
theorem dX0_take_78 : decode cX0_take 78 = .ok (.iload_n 2, 1) := by decide +kernel
theorem dX0_take_79 : decode cX0_take 79 = .ok (.invokevirtual 97, 3) := by decide +kernel
theorem dX0_take_82 : decode cX0_take 82 = .ok (.iload 4, 2) := by decide +kernel
theorem dX0_take_84 : decode cX0_take 84 = .ok (.ireturn, 1) := by decide +kernel
set_option maxRecDepth 20000 in
theorem ggX0_sweep_X0_dropTray : GoodIn wsX0_sweep wsX0_dropTray := goodIn_r _ [7, 1, 8, 9, 10, 11, 12, 13, 14, 15, 16, 17, 18, 19, 20, 21, 22, 23, 24] (by decide +kernel) (by decide +kernel)
set_option maxRecDepth 20000 in
theorem gX0_sweep_X0_dropTray : GoodIn wsX0_sweep (wsV RX0 97 RX0 yX0_dropTray wsX0_dropTray) := goodIn_app (goodIn_of _ (by decide +kernel)) ggX0_sweep_X0_dropTray
theorem dX0_sweep_0 : decode cX0_sweep 0 = .ok (.iconst 0, 1) := by decide +kernel
theorem dX0_sweep_1 : decode cX0_sweep 1 = .ok (.istore_n 1, 1) := by decide +kernel
theorem dX0_sweep_2 : decode cX0_sweep 2 = .ok (.iconst 0, 1) := by decide +kernel
theorem dX0_sweep_3 : decode cX0_sweep 3 = .ok (.istore_n 2, 1) := by decide +kernel
theorem dX0_sweep_4 : decode cX0_sweep 4 = .ok (.iload_n 2, 1) := by decide +kernel
theorem dX0_sweep_5 : decode cX0_sweep 5 = .ok (.bipush 20, 2) := by decide +kernel
theorem dX0_sweep_7 : decode cX0_sweep 7 = .ok (.if_icmp .ge 36, 3) := by decide +kernel
theorem dX0_sweep_10 : decode cX0_sweep 10 = .ok (.aload_n 0, 1) := by decide +kernel
theorem dX0_sweep_11 : decode cX0_sweep 11 = .ok (.getfield 25, 3) := by decide +kernel
theorem dX0_sweep_14 : decode cX0_sweep 14 = .ok (.iload_n 2, 1) := by decide +kernel
theorem dX0_sweep_15 : decode cX0_sweep 15 = .ok (.iaload, 1) := by decide +kernel
theorem dX0_sweep_16 : decode cX0_sweep 16 = .ok (.iconst (-1), 1) := by decide +kernel
theorem dX0_sweep_17 : decode cX0_sweep 17 = .ok (.if_icmp .eq 20, 3) := by decide +kernel
theorem dX0_sweep_20 : decode cX0_sweep 20 = .ok (.aload_n 0, 1) := by decide +kernel
theorem dX0_sweep_21 : decode cX0_sweep 21 = .ok (.getfield 31, 3) := by decide +kernel
theorem dX0_sweep_24 : decode cX0_sweep 24 = .ok (.iload_n 2, 1) := by decide +kernel
theorem dX0_sweep_25 : decode cX0_sweep 25 = .ok (.iaload, 1) := by decide +kernel
theorem dX0_sweep_26 : decode cX0_sweep 26 = .ok (.ifCond .ne 11, 3) := by decide +kernel
theorem dX0_sweep_29 : decode cX0_sweep 29 = .ok (.aload_n 0, 1) := by decide +kernel
theorem dX0_sweep_30 : decode cX0_sweep 30 = .ok (.iload_n 2, 1) := by decide +kernel
theorem dX0_sweep_31 : decode cX0_sweep 31 = .ok (.invokevirtual 97, 3) := by decide +kernel
theorem dX0_sweep_34 : decode cX0_sweep 34 = .ok (.iinc 1 1, 3) := by decide +kernel
theorem dX0_sweep_37 : decode cX0_sweep 37 = .ok (.iinc 2 1, 3) := by decide +kernel
theorem dX0_sweep_40 : decode cX0_sweep 40 = .ok (.goto (-36), 3) := by decide +kernel
theorem dX0_sweep_43 : decode cX0_sweep 43 = .ok (.iload_n 1, 1) := by decide +kernel
theorem dX0_sweep_44 : decode cX0_sweep 44 = .ok (.ireturn, 1) := by decide +kernel
set_option maxRecDepth 20000 in
theorem ggX0_pack_X0_requireKind : GoodIn wsX0_pack wsX0_requireKind := goodIn_ca (goodIn_r _ [6, 7, 8, 9, 44, 45, 46, 47, 48, 49, 50, 51, 52, 53, 54, 55, 56, 57, 58, 59] (by decide +kernel) (by decide +kernel)) (goodIn_sub (fun _ h => List.mem_cons_of_mem _ (List.mem_append_right _ h)) (by decide +kernel))
set_option maxRecDepth 20000 in
theorem gX0_pack_X0_requireKind : GoodIn wsX0_pack (wsV RX0 64 RX0 yX0_requireKind wsX0_requireKind) := goodIn_app (goodIn_of _ (by decide +kernel)) ggX0_pack_X0_requireKind
set_option maxRecDepth 20000 in
theorem ggX0_pack_X0_leastPartly : GoodIn wsX0_pack wsX0_leastPartly := goodIn_r _ [13, 14, 15, 16, 17, 5, 18, 19, 20, 44, 45, 46, 47, 48, 49, 50, 51, 52, 53, 54, 55, 56, 57, 58, 59] (by decide +kernel) (by decide +kernel)
set_option maxRecDepth 20000 in
theorem gX0_pack_X0_leastPartly : GoodIn wsX0_pack (wsV RX0 100 RX0 yX0_leastPartly wsX0_leastPartly) := goodIn_app (goodIn_of _ (by decide +kernel)) ggX0_pack_X0_leastPartly
set_option maxRecDepth 20000 in
theorem ggX0_pack_X0_mostPartly : GoodIn wsX0_pack wsX0_mostPartly := goodIn_r _ [24, 14, 15, 16, 17, 5, 18, 19, 20, 44, 45, 46, 47, 48, 49, 50, 51, 52, 53, 54, 55, 56, 57, 58, 59] (by decide +kernel) (by decide +kernel)
set_option maxRecDepth 20000 in
theorem gX0_pack_X0_mostPartly : GoodIn wsX0_pack (wsV RX0 103 RX0 yX0_mostPartly wsX0_mostPartly) := goodIn_app (goodIn_of _ (by decide +kernel)) ggX0_pack_X0_mostPartly
set_option maxRecDepth 20000 in
theorem ggX0_pack_X0_moveLast : GoodIn wsX0_pack wsX0_moveLast := goodIn_r _ [28, 29, 30, 31, 32, 5, 33, 19, 20, 34, 35, 36, 37, 38, 39, 14, 40, 41, 42, 43, 44, 45, 46, 47, 48, 49, 50, 51, 52, 53, 54, 55, 56, 57, 58, 59] (by decide +kernel) (by decide +kernel)
set_option maxRecDepth 20000 in
theorem gX0_pack_X0_moveLast : GoodIn wsX0_pack (wsV RX0 106 RX0 yX0_moveLast wsX0_moveLast) := goodIn_app (goodIn_of _ (by decide +kernel)) ggX0_pack_X0_moveLast
theorem dX0_pack_0 : decode cX0_pack 0 = .ok (.aload_n 0, 1) := by decide +kernel
theorem dX0_pack_1 : decode cX0_pack 1 = .ok (.iload_n 1, 1) := by decide +kernel
theorem dX0_pack_2 : decode cX0_pack 2 = .ok (.invokevirtual 64, 3) := by decide +kernel
theorem dX0_pack_5 : decode cX0_pack 5 = .ok (.iconst 0, 1) := by decide +kernel
theorem dX0_pack_6 : decode cX0_pack 6 = .ok (.istore_n 2, 1) := by decide +kernel
theorem dX0_pack_7 : decode cX0_pack 7 = .ok (.iload_n 2, 1) := by decide +kernel
theorem dX0_pack_8 : decode cX0_pack 8 = .ok (.sipush 150, 3) := by decide +kernel
theorem dX0_pack_11 : decode cX0_pack 11 = .ok (.if_icmp .ge 49, 3) := by decide +kernel
theorem dX0_pack_14 : decode cX0_pack 14 = .ok (.aload_n 0, 1) := by decide +kernel
theorem dX0_pack_15 : decode cX0_pack 15 = .ok (.iload_n 1, 1) := by decide +kernel
theorem dX0_pack_16 : decode cX0_pack 16 = .ok (.invokevirtual 100, 3) := by decide +kernel
theorem dX0_pack_19 : decode cX0_pack 19 = .ok (.istore_n 3, 1) := by decide +kernel
theorem dX0_pack_20 : decode cX0_pack 20 = .ok (.aload_n 0, 1) := by decide +kernel
theorem dX0_pack_21 : decode cX0_pack 21 = .ok (.iload_n 1, 1) := by decide +kernel
theorem dX0_pack_22 : decode cX0_pack 22 = .ok (.invokevirtual 103, 3) := by decide +kernel
theorem dX0_pack_25 : decode cX0_pack 25 = .ok (.istore 4, 2) := by decide +kernel
theorem dX0_pack_27 : decode cX0_pack 27 = .ok (.iload_n 3, 1) := by decide +kernel
theorem dX0_pack_28 : decode cX0_pack 28 = .ok (.iconst (-1), 1) := by decide +kernel
theorem dX0_pack_29 : decode cX0_pack 29 = .ok (.if_icmp .eq 31, 3) := by decide +kernel
theorem dX0_pack_32 : decode cX0_pack 32 = .ok (.iload 4, 2) := by decide +kernel
theorem dX0_pack_34 : decode cX0_pack 34 = .ok (.iconst (-1), 1) := by decide +kernel
theorem dX0_pack_35 : decode cX0_pack 35 = .ok (.if_icmp .eq 25, 3) := by decide +kernel
theorem dX0_pack_38 : decode cX0_pack 38 = .ok (.iload_n 3, 1) := by decide +kernel
theorem dX0_pack_39 : decode cX0_pack 39 = .ok (.iload 4, 2) := by decide +kernel
theorem dX0_pack_41 : decode cX0_pack 41 = .ok (.if_icmp .ne 6, 3) := by decide +kernel
theorem dX0_pack_44 : decode cX0_pack 44 = .ok (.goto 16, 3) := by decide +kernel
theorem dX0_pack_47 : decode cX0_pack 47 = .ok (.aload_n 0, 1) := by decide +kernel
theorem dX0_pack_48 : decode cX0_pack 48 = .ok (.iload_n 3, 1) := by decide +kernel
theorem dX0_pack_49 : decode cX0_pack 49 = .ok (.iload 4, 2) := by decide +kernel
theorem dX0_pack_51 : decode cX0_pack 51 = .ok (.invokevirtual 106, 3) := by decide +kernel
theorem dX0_pack_54 : decode cX0_pack 54 = .ok (.iinc 2 1, 3) := by decide +kernel
theorem dX0_pack_57 : decode cX0_pack 57 = .ok (.goto (-50), 3) := by decide +kernel
theorem dX0_pack_60 : decode cX0_pack 60 = .ok (.aload_n 0, 1) := by decide +kernel
theorem dX0_pack_61 : decode cX0_pack 61 = .ok (.dup, 1) := by decide +kernel
theorem dX0_pack_62 : decode cX0_pack 62 = .ok (.getfield 109, 3) := by decide +kernel
theorem dX0_pack_65 : decode cX0_pack 65 = .ok (.iload_n 2, 1) := by decide +kernel
theorem dX0_pack_66 : decode cX0_pack 66 = .ok (.iadd, 1) := by decide +kernel
theorem dX0_pack_67 : decode cX0_pack 67 = .ok (.putfield 109, 3) := by decide +kernel
theorem dX0_pack_70 : decode cX0_pack 70 = .ok (.iload_n 2, 1) := by decide +kernel
theorem dX0_pack_71 : decode cX0_pack 71 = .ok (.ireturn, 1) := by decide +kernel
set_option maxRecDepth 20000 in
theorem ggX0_told_X0_requireThing : GoodIn wsX0_told wsX0_requireThing := goodIn_ca (goodIn_r _ [10, 11, 12, 13, 18, 19, 20, 21, 22, 23, 24, 25, 26, 27, 28, 29, 30, 31, 32, 33] (by decide +kernel) (by decide +kernel)) (goodIn_sub (fun _ h => List.mem_cons_of_mem _ (List.mem_append_right _ h)) (by decide +kernel))
set_option maxRecDepth 20000 in
theorem gX0_told_X0_requireThing : GoodIn wsX0_told (wsV RX0 86 RX0 yX0_requireThing wsX0_requireThing) := goodIn_app (goodIn_of _ (by decide +kernel)) ggX0_told_X0_requireThing
set_option maxRecDepth 20000 in
theorem ggX0_told_X0_requireWhat : GoodIn wsX0_told wsX0_requireWhat := goodIn_ca (goodIn_r _ [17, 11, 12] (by decide +kernel) (by decide +kernel)) (goodIn_sub (fun _ h => List.mem_cons_of_mem _ (List.mem_append_right _ h)) (by decide +kernel))
set_option maxRecDepth 20000 in
theorem gX0_told_X0_requireWhat : GoodIn wsX0_told (wsV RX0 112 RX0 yX0_requireWhat wsX0_requireWhat) := goodIn_app (goodIn_of _ (by decide +kernel)) ggX0_told_X0_requireWhat
theorem dX0_told_0 : decode cX0_told 0 = .ok (.aload_n 0, 1) := by decide +kernel
theorem dX0_told_1 : decode cX0_told 1 = .ok (.iload_n 1, 1) := by decide +kernel
theorem dX0_told_2 : decode cX0_told 2 = .ok (.invokevirtual 86, 3) := by decide +kernel
theorem dX0_told_5 : decode cX0_told 5 = .ok (.aload_n 0, 1) := by decide +kernel
theorem dX0_told_6 : decode cX0_told 6 = .ok (.iload_n 2, 1) := by decide +kernel
theorem dX0_told_7 : decode cX0_told 7 = .ok (.iconst 4, 1) := by decide +kernel
theorem dX0_told_8 : decode cX0_told 8 = .ok (.invokevirtual 112, 3) := by decide +kernel
theorem dX0_told_11 : decode cX0_told 11 = .ok (.iload_n 2, 1) := by decide +kernel
theorem dX0_told_12 : decode cX0_told 12 = .ok (.ifCond .ne 10, 3) := by decide +kernel
theorem dX0_told_15 : decode cX0_told 15 = .ok (.aload_n 0, 1) := by decide +kernel
theorem dX0_told_16 : decode cX0_told 16 = .ok (.getfield 37, 3) := by decide +kernel
theorem dX0_told_19 : decode cX0_told 19 = .ok (.iload_n 1, 1) := by decide +kernel
theorem dX0_told_20 : decode cX0_told 20 = .ok (.iaload, 1) := by decide +kernel
theorem dX0_told_21 : decode cX0_told 21 = .ok (.ireturn, 1) := by decide +kernel
theorem dX0_told_22 : decode cX0_told 22 = .ok (.aload_n 0, 1) := by decide +kernel
theorem dX0_told_23 : decode cX0_told 23 = .ok (.getfield 40, 3) := by decide +kernel
theorem dX0_told_26 : decode cX0_told 26 = .ok (.iload_n 1, 1) := by decide +kernel
theorem dX0_told_27 : decode cX0_told 27 = .ok (.iaload, 1) := by decide +kernel
theorem dX0_told_28 : decode cX0_told 28 = .ok (.istore_n 3, 1) := by decide +kernel
theorem dX0_told_29 : decode cX0_told 29 = .ok (.iload_n 3, 1) := by decide +kernel
theorem dX0_told_30 : decode cX0_told 30 = .ok (.iconst (-1), 1) := by decide +kernel
theorem dX0_told_31 : decode cX0_told 31 = .ok (.if_icmp .ne 5, 3) := by decide +kernel
theorem dX0_told_34 : decode cX0_told 34 = .ok (.iconst (-1), 1) := by decide +kernel
theorem dX0_told_35 : decode cX0_told 35 = .ok (.ireturn, 1) := by decide +kernel
theorem dX0_told_36 : decode cX0_told 36 = .ok (.aload_n 0, 1) := by decide +kernel
theorem dX0_told_37 : decode cX0_told 37 = .ok (.getfield 43, 3) := by decide +kernel
theorem dX0_told_40 : decode cX0_told 40 = .ok (.iload_n 1, 1) := by decide +kernel
theorem dX0_told_41 : decode cX0_told 41 = .ok (.iaload, 1) := by decide +kernel
theorem dX0_told_42 : decode cX0_told 42 = .ok (.istore 4, 2) := by decide +kernel
theorem dX0_told_44 : decode cX0_told 44 = .ok (.aload_n 0, 1) := by decide +kernel
theorem dX0_told_45 : decode cX0_told 45 = .ok (.getfield 28, 3) := by decide +kernel
theorem dX0_told_48 : decode cX0_told 48 = .ok (.iload_n 3, 1) := by decide +kernel
theorem dX0_told_49 : decode cX0_told 49 = .ok (.iaload, 1) := by decide +kernel
theorem dX0_told_50 : decode cX0_told 50 = .ok (.iload 4, 2) := by decide +kernel
theorem dX0_told_52 : decode cX0_told 52 = .ok (.aload_n 0, 1) := by decide +kernel
theorem dX0_told_53 : decode cX0_told 53 = .ok (.getfield 9, 3) := by decide +kernel
theorem dX0_told_56 : decode cX0_told 56 = .ok (.aload_n 0, 1) := by decide +kernel
theorem dX0_told_57 : decode cX0_told 57 = .ok (.getfield 37, 3) := by decide +kernel
theorem dX0_told_60 : decode cX0_told 60 = .ok (.iload_n 1, 1) := by decide +kernel
theorem dX0_told_61 : decode cX0_told 61 = .ok (.iaload, 1) := by decide +kernel
theorem dX0_told_62 : decode cX0_told 62 = .ok (.iaload, 1) := by decide +kernel
theorem dX0_told_63 : decode cX0_told 63 = .ok (.imul, 1) := by decide +kernel
theorem dX0_told_64 : decode cX0_told 64 = .ok (.iadd, 1) := by decide +kernel
theorem dX0_told_65 : decode cX0_told 65 = .ok (.istore 5, 2) := by decide +kernel
theorem dX0_told_67 : decode cX0_told 67 = .ok (.iload_n 2, 1) := by decide +kernel
theorem dX0_told_68 : decode cX0_told 68 = .ok (.tableswitch 36 1 3 #[28, 30, 33], 28) := by decide +kernel
theorem dX0_told_96 : decode cX0_told 96 = .ok (.iload_n 3, 1) := by decide +kernel
theorem dX0_told_97 : decode cX0_told 97 = .ok (.ireturn, 1) := by decide +kernel
theorem dX0_told_98 : decode cX0_told 98 = .ok (.iload 4, 2) := by decide +kernel
theorem dX0_told_100 : decode cX0_told 100 = .ok (.ireturn, 1) := by decide +kernel
theorem dX0_told_101 : decode cX0_told 101 = .ok (.iload 5, 2) := by decide +kernel
theorem dX0_told_103 : decode cX0_told 103 = .ok (.ireturn, 1) := by decide +kernel
theorem dX0_told_104 : decode cX0_told 104 = .ok (.bipush 64, 2) := by decide +kernel
theorem dX0_told_106 : decode cX0_told 106 = .ok (.iload_n 3, 1) := by decide +kernel
theorem dX0_told_107 : decode cX0_told 107 = .ok (.imul, 1) := by decide +kernel
theorem dX0_told_108 : decode cX0_told 108 = .ok (.iload 5, 2) := by decide +kernel
theorem dX0_told_110 : decode cX0_told 110 = .ok (.iadd, 1) := by decide +kernel
theorem dX0_told_111 : decode cX0_told 111 = .ok (.ireturn, 1) := by decide +kernel
set_option maxRecDepth 20000 in
theorem ggX0_tray_X0_requirePlace : GoodIn wsX0_tray wsX0_requirePlace := goodIn_ca (goodIn_r _ [10, 11, 12] (by decide +kernel) (by decide +kernel)) (goodIn_sub (fun _ h => List.mem_cons_of_mem _ (List.mem_append_right _ h)) (by decide +kernel))
set_option maxRecDepth 20000 in
theorem gX0_tray_X0_requirePlace : GoodIn wsX0_tray (wsV RX0 115 RX0 yX0_requirePlace wsX0_requirePlace) := goodIn_app (goodIn_of _ (by decide +kernel)) ggX0_tray_X0_requirePlace
set_option maxRecDepth 20000 in
theorem ggX0_tray_X0_requireWhat : GoodIn wsX0_tray wsX0_requireWhat := goodIn_ca (goodIn_r _ [16, 11, 12] (by decide +kernel) (by decide +kernel)) (goodIn_sub (fun _ h => List.mem_cons_of_mem _ (List.mem_append_right _ h)) (by decide +kernel))
set_option maxRecDepth 20000 in
theorem gX0_tray_X0_requireWhat : GoodIn wsX0_tray (wsV RX0 112 RX0 yX0_requireWhat wsX0_requireWhat) := goodIn_app (goodIn_of _ (by decide +kernel)) ggX0_tray_X0_requireWhat
theorem dX0_tray_0 : decode cX0_tray 0 = .ok (.aload_n 0, 1) := by decide +kernel
theorem dX0_tray_1 : decode cX0_tray 1 = .ok (.iload_n 1, 1) := by decide +kernel
theorem dX0_tray_2 : decode cX0_tray 2 = .ok (.invokevirtual 115, 3) := by decide +kernel
theorem dX0_tray_5 : decode cX0_tray 5 = .ok (.aload_n 0, 1) := by decide +kernel
theorem dX0_tray_6 : decode cX0_tray 6 = .ok (.iload_n 2, 1) := by decide +kernel
theorem dX0_tray_7 : decode cX0_tray 7 = .ok (.iconst 4, 1) := by decide +kernel
theorem dX0_tray_8 : decode cX0_tray 8 = .ok (.invokevirtual 112, 3) := by decide +kernel
theorem dX0_tray_11 : decode cX0_tray 11 = .ok (.aload_n 0, 1) := by decide +kernel
theorem dX0_tray_12 : decode cX0_tray 12 = .ok (.getfield 25, 3) := by decide +kernel
theorem dX0_tray_15 : decode cX0_tray 15 = .ok (.iload_n 1, 1) := by decide +kernel
theorem dX0_tray_16 : decode cX0_tray 16 = .ok (.iaload, 1) := by decide +kernel
theorem dX0_tray_17 : decode cX0_tray 17 = .ok (.istore_n 3, 1) := by decide +kernel
theorem dX0_tray_18 : decode cX0_tray 18 = .ok (.iload_n 3, 1) := by decide +kernel
theorem dX0_tray_19 : decode cX0_tray 19 = .ok (.iconst (-1), 1) := by decide +kernel
theorem dX0_tray_20 : decode cX0_tray 20 = .ok (.if_icmp .ne 5, 3) := by decide +kernel
theorem dX0_tray_23 : decode cX0_tray 23 = .ok (.iconst (-1), 1) := by decide +kernel
theorem dX0_tray_24 : decode cX0_tray 24 = .ok (.ireturn, 1) := by decide +kernel
theorem dX0_tray_25 : decode cX0_tray 25 = .ok (.iload_n 2, 1) := by decide +kernel
theorem dX0_tray_26 : decode cX0_tray 26 = .ok (.tableswitch 53 0 3 #[30, 32, 39, 46], 30) := by decide +kernel
theorem dX0_tray_56 : decode cX0_tray 56 = .ok (.iload_n 3, 1) := by decide +kernel
theorem dX0_tray_57 : decode cX0_tray 57 = .ok (.ireturn, 1) := by decide +kernel
theorem dX0_tray_58 : decode cX0_tray 58 = .ok (.aload_n 0, 1) := by decide +kernel
theorem dX0_tray_59 : decode cX0_tray 59 = .ok (.getfield 28, 3) := by decide +kernel
theorem dX0_tray_62 : decode cX0_tray 62 = .ok (.iload_n 1, 1) := by decide +kernel
theorem dX0_tray_63 : decode cX0_tray 63 = .ok (.iaload, 1) := by decide +kernel
theorem dX0_tray_64 : decode cX0_tray 64 = .ok (.ireturn, 1) := by decide +kernel
theorem dX0_tray_65 : decode cX0_tray 65 = .ok (.aload_n 0, 1) := by decide +kernel
theorem dX0_tray_66 : decode cX0_tray 66 = .ok (.getfield 16, 3) := by decide +kernel
theorem dX0_tray_69 : decode cX0_tray 69 = .ok (.iload_n 3, 1) := by decide +kernel
theorem dX0_tray_70 : decode cX0_tray 70 = .ok (.iaload, 1) := by decide +kernel
theorem dX0_tray_71 : decode cX0_tray 71 = .ok (.ireturn, 1) := by decide +kernel
theorem dX0_tray_72 : decode cX0_tray 72 = .ok (.aload_n 0, 1) := by decide +kernel
theorem dX0_tray_73 : decode cX0_tray 73 = .ok (.getfield 31, 3) := by decide +kernel
theorem dX0_tray_76 : decode cX0_tray 76 = .ok (.iload_n 1, 1) := by decide +kernel
theorem dX0_tray_77 : decode cX0_tray 77 = .ok (.iaload, 1) := by decide +kernel
theorem dX0_tray_78 : decode cX0_tray 78 = .ok (.ireturn, 1) := by decide +kernel
theorem dX0_tray_79 : decode cX0_tray 79 = .ok (.bipush 64, 2) := by decide +kernel
theorem dX0_tray_81 : decode cX0_tray 81 = .ok (.aload_n 0, 1) := by decide +kernel
theorem dX0_tray_82 : decode cX0_tray 82 = .ok (.getfield 9, 3) := by decide +kernel
theorem dX0_tray_85 : decode cX0_tray 85 = .ok (.iload_n 3, 1) := by decide +kernel
theorem dX0_tray_86 : decode cX0_tray 86 = .ok (.iaload, 1) := by decide +kernel
theorem dX0_tray_87 : decode cX0_tray 87 = .ok (.aload_n 0, 1) := by decide +kernel
theorem dX0_tray_88 : decode cX0_tray 88 = .ok (.getfield 31, 3) := by decide +kernel
theorem dX0_tray_91 : decode cX0_tray 91 = .ok (.iload_n 1, 1) := by decide +kernel
theorem dX0_tray_92 : decode cX0_tray 92 = .ok (.iaload, 1) := by decide +kernel
theorem dX0_tray_93 : decode cX0_tray 93 = .ok (.imul, 1) := by decide +kernel
theorem dX0_tray_94 : decode cX0_tray 94 = .ok (.isub, 1) := by decide +kernel
theorem dX0_tray_95 : decode cX0_tray 95 = .ok (.ireturn, 1) := by decide +kernel
set_option maxRecDepth 20000 in
theorem ggX0_cell_X0_requirePlace : GoodIn wsX0_cell wsX0_requirePlace := goodIn_ca (goodIn_r _ [8, 1, 2] (by decide +kernel) (by decide +kernel)) (goodIn_sub (fun _ h => List.mem_cons_of_mem _ (List.mem_append_right _ h)) (by decide +kernel))
set_option maxRecDepth 20000 in
theorem gX0_cell_X0_requirePlace : GoodIn wsX0_cell (wsV RX0 115 RX0 yX0_requirePlace wsX0_requirePlace) := goodIn_app (goodIn_of _ (by decide +kernel)) ggX0_cell_X0_requirePlace
set_option maxRecDepth 20000 in
theorem ggX0_cell_X0_cellsAt : GoodIn wsX0_cell wsX0_cellsAt := goodIn_r _ [12, 13, 14, 15, 16, 17, 18, 19, 20, 21, 22, 23, 24, 25, 26, 27, 28, 29, 30] (by decide +kernel) (by decide +kernel)
set_option maxRecDepth 20000 in
theorem gX0_cell_X0_cellsAt : GoodIn wsX0_cell (wsV RX0 118 RX0 yX0_cellsAt wsX0_cellsAt) := goodIn_app (goodIn_of _ (by decide +kernel)) ggX0_cell_X0_cellsAt
theorem dX0_cell_0 : decode cX0_cell 0 = .ok (.aload_n 0, 1) := by decide +kernel
theorem dX0_cell_1 : decode cX0_cell 1 = .ok (.iload_n 1, 1) := by decide +kernel
theorem dX0_cell_2 : decode cX0_cell 2 = .ok (.invokevirtual 115, 3) := by decide +kernel
theorem dX0_cell_5 : decode cX0_cell 5 = .ok (.iload_n 2, 1) := by decide +kernel
theorem dX0_cell_6 : decode cX0_cell 6 = .ok (.ifCond .lt 12, 3) := by decide +kernel
theorem dX0_cell_9 : decode cX0_cell 9 = .ok (.iload_n 2, 1) := by decide +kernel
theorem dX0_cell_10 : decode cX0_cell 10 = .ok (.aload_n 0, 1) := by decide +kernel
theorem dX0_cell_11 : decode cX0_cell 11 = .ok (.iload_n 1, 1) := by decide +kernel
theorem dX0_cell_12 : decode cX0_cell 12 = .ok (.invokevirtual 118, 3) := by decide +kernel
theorem dX0_cell_15 : decode cX0_cell 15 = .ok (.if_icmp .lt 13, 3) := by decide +kernel
theorem dX0_cell_18 : decode cX0_cell 18 = .ok (.new 121, 3) := by decide +kernel
theorem dX0_cell_21 : decode cX0_cell 21 = .ok (.dup, 1) := by decide +kernel
theorem dX0_cell_22 : decode cX0_cell 22 = .ok (.ldc 123, 2) := by decide +kernel
theorem dX0_cell_24 : decode cX0_cell 24 = .ok (.invokespecial 125, 3) := by decide +kernel
theorem dX0_cell_27 : decode cX0_cell 27 = .ok (.athrow, 1) := by decide +kernel
theorem dX0_cell_28 : decode cX0_cell 28 = .ok (.aload_n 0, 1) := by decide +kernel
theorem dX0_cell_29 : decode cX0_cell 29 = .ok (.getfield 34, 3) := by decide +kernel
theorem dX0_cell_32 : decode cX0_cell 32 = .ok (.iload_n 1, 1) := by decide +kernel
theorem dX0_cell_33 : decode cX0_cell 33 = .ok (.bipush 64, 2) := by decide +kernel
theorem dX0_cell_35 : decode cX0_cell 35 = .ok (.imul, 1) := by decide +kernel
theorem dX0_cell_36 : decode cX0_cell 36 = .ok (.iload_n 2, 1) := by decide +kernel
theorem dX0_cell_37 : decode cX0_cell 37 = .ok (.iadd, 1) := by decide +kernel
theorem dX0_cell_38 : decode cX0_cell 38 = .ok (.iaload, 1) := by decide +kernel
theorem dX0_cell_39 : decode cX0_cell 39 = .ok (.ireturn, 1) := by decide +kernel
set_option maxRecDepth 20000 in
theorem ggX0_about_X0_requireKind : GoodIn wsX0_about wsX0_requireKind := goodIn_ca (goodIn_r _ [9, 10, 11, 12, 35, 36, 37, 38, 39, 40, 41, 42, 43, 44, 45, 46, 47, 48, 49, 50] (by decide +kernel) (by decide +kernel)) (goodIn_sub (fun _ h => List.mem_cons_of_mem _ (List.mem_append_right _ h)) (by decide +kernel))
set_option maxRecDepth 20000 in
theorem gX0_about_X0_requireKind : GoodIn wsX0_about (wsV RX0 64 RX0 yX0_requireKind wsX0_requireKind) := goodIn_app (goodIn_of _ (by decide +kernel)) ggX0_about_X0_requireKind
set_option maxRecDepth 20000 in
theorem ggX0_about_X0_requireWhat : GoodIn wsX0_about wsX0_requireWhat := goodIn_ca (goodIn_r _ [16, 10, 11] (by decide +kernel) (by decide +kernel)) (goodIn_sub (fun _ h => List.mem_cons_of_mem _ (List.mem_append_right _ h)) (by decide +kernel))
set_option maxRecDepth 20000 in
theorem gX0_about_X0_requireWhat : GoodIn wsX0_about (wsV RX0 112 RX0 yX0_requireWhat wsX0_requireWhat) := goodIn_app (goodIn_of _ (by decide +kernel)) ggX0_about_X0_requireWhat
set_option maxRecDepth 20000 in
theorem ggX0_about_X0_traysOf : GoodIn wsX0_about wsX0_traysOf := goodIn_r _ [20, 21, 35, 36, 37, 38, 39, 40, 41, 42, 43, 44, 45, 46, 47, 48, 49, 50] (by decide +kernel) (by decide +kernel)
set_option maxRecDepth 20000 in
theorem gX0_about_X0_traysOf : GoodIn wsX0_about (wsV RX0 126 RX0 yX0_traysOf wsX0_traysOf) := goodIn_app (goodIn_of _ (by decide +kernel)) ggX0_about_X0_traysOf
set_option maxRecDepth 20000 in
theorem ggX0_about_X0_traysHolding : GoodIn wsX0_about wsX0_traysHolding := goodIn_r _ [25, 21, 26, 35, 36, 37, 38, 39, 40, 41, 42, 43, 44, 45, 46, 47, 48, 49, 50] (by decide +kernel) (by decide +kernel)
set_option maxRecDepth 20000 in
theorem gX0_about_X0_traysHolding : GoodIn wsX0_about (wsV RX0 129 RX0 yX0_traysHolding wsX0_traysHolding) := goodIn_app (goodIn_of _ (by decide +kernel)) ggX0_about_X0_traysHolding
set_option maxRecDepth 20000 in
theorem ggX0_about_X0_thingsOf : GoodIn wsX0_about wsX0_thingsOf := goodIn_r _ [30, 21, 26, 35, 36, 37, 38, 39, 40, 41, 42, 43, 44, 45, 46, 47, 48, 49, 50] (by decide +kernel) (by decide +kernel)
set_option maxRecDepth 20000 in
theorem gX0_about_X0_thingsOf : GoodIn wsX0_about (wsV RX0 133 RX0 yX0_thingsOf wsX0_thingsOf) := goodIn_app (goodIn_of _ (by decide +kernel)) ggX0_about_X0_thingsOf
set_option maxRecDepth 20000 in
theorem ggX0_about_X0_freeCellsOf : GoodIn wsX0_about wsX0_freeCellsOf := goodIn_r _ [34, 3, 17, 18, 19, 8, 20, 21, 27, 28, 29, 30, 26, 35, 36, 37, 38, 39, 40, 41, 42, 43, 44, 45, 46, 47, 48, 49, 50] (by decide +kernel) (by decide +kernel)
set_option maxRecDepth 20000 in
theorem gX0_about_X0_freeCellsOf : GoodIn wsX0_about (wsV RX0 136 RX0 yX0_freeCellsOf wsX0_freeCellsOf) := goodIn_app (goodIn_of _ (by decide +kernel)) ggX0_about_X0_freeCellsOf
theorem dX0_about_0 : decode cX0_about 0 = .ok (.aload_n 0, 1) := by decide +kernel
theorem dX0_about_1 : decode cX0_about 1 = .ok (.iload_n 1, 1) := by decide +kernel
theorem dX0_about_2 : decode cX0_about 2 = .ok (.invokevirtual 64, 3) := by decide +kernel
theorem dX0_about_5 : decode cX0_about 5 = .ok (.aload_n 0, 1) := by decide +kernel
theorem dX0_about_6 : decode cX0_about 6 = .ok (.iload_n 2, 1) := by decide +kernel
theorem dX0_about_7 : decode cX0_about 7 = .ok (.bipush 7, 2) := by decide +kernel
theorem dX0_about_9 : decode cX0_about 9 = .ok (.invokevirtual 112, 3) := by decide +kernel
theorem dX0_about_12 : decode cX0_about 12 = .ok (.iload_n 2, 1) := by decide +kernel
theorem dX0_about_13 : decode cX0_about 13 = .ok (.tableswitch 94 0 6 #[43, 50, 57, 63, 70, 82, 88], 43) := by decide +kernel
theorem dX0_about_56 : decode cX0_about 56 = .ok (.aload_n 0, 1) := by decide +kernel
theorem dX0_about_57 : decode cX0_about 57 = .ok (.getfield 9, 3) := by decide +kernel
theorem dX0_about_60 : decode cX0_about 60 = .ok (.iload_n 1, 1) := by decide +kernel
theorem dX0_about_61 : decode cX0_about 61 = .ok (.iaload, 1) := by decide +kernel
theorem dX0_about_62 : decode cX0_about 62 = .ok (.ireturn, 1) := by decide +kernel
theorem dX0_about_63 : decode cX0_about 63 = .ok (.aload_n 0, 1) := by decide +kernel
theorem dX0_about_64 : decode cX0_about 64 = .ok (.getfield 13, 3) := by decide +kernel
theorem dX0_about_67 : decode cX0_about 67 = .ok (.iload_n 1, 1) := by decide +kernel
theorem dX0_about_68 : decode cX0_about 68 = .ok (.iaload, 1) := by decide +kernel
theorem dX0_about_69 : decode cX0_about 69 = .ok (.ireturn, 1) := by decide +kernel
theorem dX0_about_70 : decode cX0_about 70 = .ok (.aload_n 0, 1) := by decide +kernel
theorem dX0_about_71 : decode cX0_about 71 = .ok (.iload_n 1, 1) := by decide +kernel
theorem dX0_about_72 : decode cX0_about 72 = .ok (.invokevirtual 126, 3) := by decide +kernel
theorem dX0_about_75 : decode cX0_about 75 = .ok (.ireturn, 1) := by decide +kernel
theorem dX0_about_76 : decode cX0_about 76 = .ok (.aload_n 0, 1) := by decide +kernel
theorem dX0_about_77 : decode cX0_about 77 = .ok (.iload_n 1, 1) := by decide +kernel
theorem dX0_about_78 : decode cX0_about 78 = .ok (.iconst 0, 1) := by decide +kernel
theorem dX0_about_79 : decode cX0_about 79 = .ok (.invokevirtual 129, 3) := by decide +kernel
theorem dX0_about_82 : decode cX0_about 82 = .ok (.ireturn, 1) := by decide +kernel
theorem dX0_about_83 : decode cX0_about 83 = .ok (.aload_n 0, 1) := by decide +kernel
theorem dX0_about_84 : decode cX0_about 84 = .ok (.iload_n 1, 1) := by decide +kernel
theorem dX0_about_85 : decode cX0_about 85 = .ok (.aload_n 0, 1) := by decide +kernel
theorem dX0_about_86 : decode cX0_about 86 = .ok (.getfield 16, 3) := by decide +kernel
theorem dX0_about_89 : decode cX0_about 89 = .ok (.iload_n 1, 1) := by decide +kernel
theorem dX0_about_90 : decode cX0_about 90 = .ok (.iaload, 1) := by decide +kernel
theorem dX0_about_91 : decode cX0_about 91 = .ok (.invokevirtual 129, 3) := by decide +kernel
theorem dX0_about_94 : decode cX0_about 94 = .ok (.ireturn, 1) := by decide +kernel
theorem dX0_about_95 : decode cX0_about 95 = .ok (.aload_n 0, 1) := by decide +kernel
theorem dX0_about_96 : decode cX0_about 96 = .ok (.iload_n 1, 1) := by decide +kernel
theorem dX0_about_97 : decode cX0_about 97 = .ok (.invokevirtual 133, 3) := by decide +kernel
theorem dX0_about_100 : decode cX0_about 100 = .ok (.ireturn, 1) := by decide +kernel
theorem dX0_about_101 : decode cX0_about 101 = .ok (.aload_n 0, 1) := by decide +kernel
theorem dX0_about_102 : decode cX0_about 102 = .ok (.iload_n 1, 1) := by decide +kernel
theorem dX0_about_103 : decode cX0_about 103 = .ok (.invokevirtual 136, 3) := by decide +kernel
theorem dX0_about_106 : decode cX0_about 106 = .ok (.ireturn, 1) := by decide +kernel
theorem dX0_about_107 : decode cX0_about 107 = .ok (.aload_n 0, 1) := by decide +kernel
theorem dX0_about_108 : decode cX0_about 108 = .ok (.getfield 22, 3) := by decide +kernel
theorem dX0_about_111 : decode cX0_about 111 = .ok (.iload_n 1, 1) := by decide +kernel
theorem dX0_about_112 : decode cX0_about 112 = .ok (.iaload, 1) := by decide +kernel
theorem dX0_about_113 : decode cX0_about 113 = .ok (.ireturn, 1) := by decide +kernel
set_option maxRecDepth 20000 in
theorem ggX0_count_X0_requireWhat : GoodIn wsX0_count wsX0_requireWhat := goodIn_ca (goodIn_r _ [9, 10, 11] (by decide +kernel) (by decide +kernel)) (goodIn_sub (fun _ h => List.mem_cons_of_mem _ (List.mem_append_right _ h)) (by decide +kernel))
set_option maxRecDepth 20000 in
theorem gX0_count_X0_requireWhat : GoodIn wsX0_count (wsV RX0 112 RX0 yX0_requireWhat wsX0_requireWhat) := goodIn_app (goodIn_of _ (by decide +kernel)) ggX0_count_X0_requireWhat
set_option maxRecDepth 20000 in
theorem ggX0_count_X0_traysOf : GoodIn wsX0_count wsX0_traysOf := goodIn_r _ [15, 16, 35, 36, 37, 38, 39, 40, 41, 42, 43, 44, 45, 46, 47, 48, 49, 50] (by decide +kernel) (by decide +kernel)
set_option maxRecDepth 20000 in
theorem gX0_count_X0_traysOf : GoodIn wsX0_count (wsV RX0 126 RX0 yX0_traysOf wsX0_traysOf) := goodIn_app (goodIn_of _ (by decide +kernel)) ggX0_count_X0_traysOf
set_option maxRecDepth 20000 in
theorem ggX0_count_X0_thingsThere : GoodIn wsX0_count wsX0_thingsThere := goodIn_r _ [20, 1, 21, 22, 23, 8, 24, 16, 25, 35, 36, 37, 38, 39, 40, 41, 42, 43, 44, 45, 46, 47, 48, 49, 50] (by decide +kernel) (by decide +kernel)
set_option maxRecDepth 20000 in
theorem gX0_count_X0_thingsThere : GoodIn wsX0_count (wsV RX0 139 RX0 yX0_thingsThere wsX0_thingsThere) := goodIn_app (goodIn_of _ (by decide +kernel)) ggX0_count_X0_thingsThere
set_option maxRecDepth 20000 in
theorem ggX0_count_X0_wastedInAll : GoodIn wsX0_count wsX0_wastedInAll := goodIn_r _ [29, 1, 30, 31, 32, 8, 33, 34, 12, 13, 14, 15, 16, 21, 22, 23, 24, 25, 35, 36, 37, 38, 39, 40, 41, 42, 43, 44, 45, 46, 47, 48, 49, 50] (by decide +kernel) (by decide +kernel)
set_option maxRecDepth 20000 in
theorem gX0_count_X0_wastedInAll : GoodIn wsX0_count (wsV RX0 143 RX0 yX0_wastedInAll wsX0_wastedInAll) := goodIn_app (goodIn_of _ (by decide +kernel)) ggX0_count_X0_wastedInAll
theorem dX0_count_0 : decode cX0_count 0 = .ok (.aload_n 0, 1) := by decide +kernel
theorem dX0_count_1 : decode cX0_count 1 = .ok (.iload_n 1, 1) := by decide +kernel
theorem dX0_count_2 : decode cX0_count 2 = .ok (.bipush 6, 2) := by decide +kernel
theorem dX0_count_4 : decode cX0_count 4 = .ok (.invokevirtual 112, 3) := by decide +kernel
theorem dX0_count_7 : decode cX0_count 7 = .ok (.iload_n 1, 1) := by decide +kernel
theorem dX0_count_8 : decode cX0_count 8 = .ok (.tableswitch 74 0 5 #[40, 45, 54, 59, 64, 69], 40) := by decide +kernel
theorem dX0_count_48 : decode cX0_count 48 = .ok (.aload_n 0, 1) := by decide +kernel
theorem dX0_count_49 : decode cX0_count 49 = .ok (.getfield 55, 3) := by decide +kernel
theorem dX0_count_52 : decode cX0_count 52 = .ok (.ireturn, 1) := by decide +kernel
theorem dX0_count_53 : decode cX0_count 53 = .ok (.bipush 20, 2) := by decide +kernel
theorem dX0_count_55 : decode cX0_count 55 = .ok (.aload_n 0, 1) := by decide +kernel
theorem dX0_count_56 : decode cX0_count 56 = .ok (.iconst (-1), 1) := by decide +kernel
theorem dX0_count_57 : decode cX0_count 57 = .ok (.invokevirtual 126, 3) := by decide +kernel
theorem dX0_count_60 : decode cX0_count 60 = .ok (.isub, 1) := by decide +kernel
theorem dX0_count_61 : decode cX0_count 61 = .ok (.ireturn, 1) := by decide +kernel
theorem dX0_count_62 : decode cX0_count 62 = .ok (.aload_n 0, 1) := by decide +kernel
theorem dX0_count_63 : decode cX0_count 63 = .ok (.invokevirtual 139, 3) := by decide +kernel
theorem dX0_count_66 : decode cX0_count 66 = .ok (.ireturn, 1) := by decide +kernel
theorem dX0_count_67 : decode cX0_count 67 = .ok (.aload_n 0, 1) := by decide +kernel
theorem dX0_count_68 : decode cX0_count 68 = .ok (.getfield 68, 3) := by decide +kernel
theorem dX0_count_71 : decode cX0_count 71 = .ok (.ireturn, 1) := by decide +kernel
theorem dX0_count_72 : decode cX0_count 72 = .ok (.aload_n 0, 1) := by decide +kernel
theorem dX0_count_73 : decode cX0_count 73 = .ok (.invokevirtual 143, 3) := by decide +kernel
theorem dX0_count_76 : decode cX0_count 76 = .ok (.ireturn, 1) := by decide +kernel
theorem dX0_count_77 : decode cX0_count 77 = .ok (.aload_n 0, 1) := by decide +kernel
theorem dX0_count_78 : decode cX0_count 78 = .ok (.getfield 146, 3) := by decide +kernel
theorem dX0_count_81 : decode cX0_count 81 = .ok (.ireturn, 1) := by decide +kernel
theorem dX0_count_82 : decode cX0_count 82 = .ok (.aload_n 0, 1) := by decide +kernel
theorem dX0_count_83 : decode cX0_count 83 = .ok (.getfield 109, 3) := by decide +kernel
theorem dX0_count_86 : decode cX0_count 86 = .ok (.ireturn, 1) := by decide +kernel
set_option maxRecDepth 20000 in
theorem ggX0_would_X0_requireKind : GoodIn wsX0_would wsX0_requireKind := goodIn_ca (goodIn_r _ [5, 6, 7, 8, 32, 33, 34, 35, 36, 37, 38, 39, 40, 41, 42, 43, 44, 45, 46, 47] (by decide +kernel) (by decide +kernel)) (goodIn_sub (fun _ h => List.mem_cons_of_mem _ (List.mem_append_right _ h)) (by decide +kernel))
set_option maxRecDepth 20000 in
theorem gX0_would_X0_requireKind : GoodIn wsX0_would (wsV RX0 64 RX0 yX0_requireKind wsX0_requireKind) := goodIn_app (goodIn_of _ (by decide +kernel)) ggX0_would_X0_requireKind
set_option maxRecDepth 20000 in
theorem ggX0_would_X0_placeFor : GoodIn wsX0_would wsX0_placeFor := goodIn_r _ [12, 13, 14, 15, 4, 16, 17, 18, 19, 20, 21, 22, 23, 24, 25, 26, 27, 28, 29, 30, 31, 32, 33, 34, 35, 36, 37, 38, 39, 40, 41, 42, 43, 44, 45, 46, 47] (by decide +kernel) (by decide +kernel)
set_option maxRecDepth 20000 in
theorem gX0_would_X0_placeFor : GoodIn wsX0_would (wsV RX0 73 RX0 yX0_placeFor wsX0_placeFor) := goodIn_app (goodIn_of _ (by decide +kernel)) ggX0_would_X0_placeFor
theorem dX0_would_0 : decode cX0_would 0 = .ok (.aload_n 0, 1) := by decide +kernel
theorem dX0_would_1 : decode cX0_would 1 = .ok (.iload_n 1, 1) := by decide +kernel
theorem dX0_would_2 : decode cX0_would 2 = .ok (.invokevirtual 64, 3) := by decide +kernel
theorem dX0_would_5 : decode cX0_would 5 = .ok (.aload_n 0, 1) := by decide +kernel
theorem dX0_would_6 : decode cX0_would 6 = .ok (.iload_n 1, 1) := by decide +kernel
theorem dX0_would_7 : decode cX0_would 7 = .ok (.invokevirtual 73, 3) := by decide +kernel
theorem dX0_would_10 : decode cX0_would 10 = .ok (.ireturn, 1) := by decide +kernel
set_option maxRecDepth 20000 in
theorem ggX0_spares_X0_requireKind : GoodIn wsX0_spares wsX0_requireKind := goodIn_ca (goodIn_r _ [7, 8, 9, 10, 16, 17, 18, 19, 20, 21, 22, 23, 24, 25, 26, 27, 28, 29, 30, 31] (by decide +kernel) (by decide +kernel)) (goodIn_sub (fun _ h => List.mem_cons_of_mem _ (List.mem_append_right _ h)) (by decide +kernel))
set_option maxRecDepth 20000 in
theorem gX0_spares_X0_requireKind : GoodIn wsX0_spares (wsV RX0 64 RX0 yX0_requireKind wsX0_requireKind) := goodIn_app (goodIn_of _ (by decide +kernel)) ggX0_spares_X0_requireKind
set_option maxRecDepth 20000 in
theorem ggX0_spares_X0_thingsOf : GoodIn wsX0_spares wsX0_thingsOf := goodIn_r _ [14, 1, 15, 16, 17, 18, 19, 20, 21, 22, 23, 24, 25, 26, 27, 28, 29, 30, 31] (by decide +kernel) (by decide +kernel)
set_option maxRecDepth 20000 in
theorem gX0_spares_X0_thingsOf : GoodIn wsX0_spares (wsV RX0 133 RX0 yX0_thingsOf wsX0_thingsOf) := goodIn_app (goodIn_of _ (by decide +kernel)) ggX0_spares_X0_thingsOf
theorem dX0_spares_0 : decode cX0_spares 0 = .ok (.aload_n 0, 1) := by decide +kernel
theorem dX0_spares_1 : decode cX0_spares 1 = .ok (.iload_n 1, 1) := by decide +kernel
theorem dX0_spares_2 : decode cX0_spares 2 = .ok (.invokevirtual 64, 3) := by decide +kernel
theorem dX0_spares_5 : decode cX0_spares 5 = .ok (.aload_n 0, 1) := by decide +kernel
theorem dX0_spares_6 : decode cX0_spares 6 = .ok (.iload_n 1, 1) := by decide +kernel
theorem dX0_spares_7 : decode cX0_spares 7 = .ok (.invokevirtual 133, 3) := by decide +kernel
theorem dX0_spares_10 : decode cX0_spares 10 = .ok (.istore_n 2, 1) := by decide +kernel
theorem dX0_spares_11 : decode cX0_spares 11 = .ok (.iconst 0, 1) := by decide +kernel
theorem dX0_spares_12 : decode cX0_spares 12 = .ok (.istore_n 3, 1) := by decide +kernel
theorem dX0_spares_13 : decode cX0_spares 13 = .ok (.iconst 0, 1) := by decide +kernel
theorem dX0_spares_14 : decode cX0_spares 14 = .ok (.istore 4, 2) := by decide +kernel
theorem dX0_spares_16 : decode cX0_spares 16 = .ok (.iload 4, 2) := by decide +kernel
theorem dX0_spares_18 : decode cX0_spares 18 = .ok (.bipush 20, 2) := by decide +kernel
theorem dX0_spares_20 : decode cX0_spares 20 = .ok (.if_icmp .ge 36, 3) := by decide +kernel
theorem dX0_spares_23 : decode cX0_spares 23 = .ok (.aload_n 0, 1) := by decide +kernel
theorem dX0_spares_24 : decode cX0_spares 24 = .ok (.getfield 25, 3) := by decide +kernel
theorem dX0_spares_27 : decode cX0_spares 27 = .ok (.iload 4, 2) := by decide +kernel
theorem dX0_spares_29 : decode cX0_spares 29 = .ok (.iaload, 1) := by decide +kernel
theorem dX0_spares_30 : decode cX0_spares 30 = .ok (.iload_n 1, 1) := by decide +kernel
theorem dX0_spares_31 : decode cX0_spares 31 = .ok (.if_icmp .ne 19, 3) := by decide +kernel
theorem dX0_spares_34 : decode cX0_spares 34 = .ok (.iload_n 2, 1) := by decide +kernel
theorem dX0_spares_35 : decode cX0_spares 35 = .ok (.ifCond .gt 6, 3) := by decide +kernel
theorem dX0_spares_38 : decode cX0_spares 38 = .ok (.iinc 3 1, 3) := by decide +kernel
theorem dX0_spares_41 : decode cX0_spares 41 = .ok (.iload_n 2, 1) := by decide +kernel
theorem dX0_spares_42 : decode cX0_spares 42 = .ok (.aload_n 0, 1) := by decide +kernel
theorem dX0_spares_43 : decode cX0_spares 43 = .ok (.getfield 16, 3) := by decide +kernel
theorem dX0_spares_46 : decode cX0_spares 46 = .ok (.iload_n 1, 1) := by decide +kernel
theorem dX0_spares_47 : decode cX0_spares 47 = .ok (.iaload, 1) := by decide +kernel
theorem dX0_spares_48 : decode cX0_spares 48 = .ok (.isub, 1) := by decide +kernel
theorem dX0_spares_49 : decode cX0_spares 49 = .ok (.istore_n 2, 1) := by decide +kernel
theorem dX0_spares_50 : decode cX0_spares 50 = .ok (.iinc 4 1, 3) := by decide +kernel
theorem dX0_spares_53 : decode cX0_spares 53 = .ok (.goto (-37), 3) := by decide +kernel
theorem dX0_spares_56 : decode cX0_spares 56 = .ok (.iload_n 3, 1) := by decide +kernel
theorem dX0_spares_57 : decode cX0_spares 57 = .ok (.ireturn, 1) := by decide +kernel
set_option maxRecDepth 20000 in
theorem ggX0_room_X0_requireKind : GoodIn wsX0_room wsX0_requireKind := goodIn_ca (goodIn_r _ [6, 7, 8, 9, 24, 25, 26, 27, 28, 29, 30, 31, 32, 33, 34, 35, 36, 37, 38, 39] (by decide +kernel) (by decide +kernel)) (goodIn_sub (fun _ h => List.mem_cons_of_mem _ (List.mem_append_right _ h)) (by decide +kernel))
set_option maxRecDepth 20000 in
theorem gX0_room_X0_requireKind : GoodIn wsX0_room (wsV RX0 64 RX0 yX0_requireKind wsX0_requireKind) := goodIn_app (goodIn_of _ (by decide +kernel)) ggX0_room_X0_requireKind
set_option maxRecDepth 20000 in
theorem ggX0_room_X0_freeCellsOf : GoodIn wsX0_room wsX0_freeCellsOf := goodIn_r _ [13, 1, 14, 15, 16, 5, 17, 18, 19, 20, 21, 22, 23, 24, 25, 26, 27, 28, 29, 30, 31, 32, 33, 34, 35, 36, 37, 38, 39] (by decide +kernel) (by decide +kernel)
set_option maxRecDepth 20000 in
theorem gX0_room_X0_freeCellsOf : GoodIn wsX0_room (wsV RX0 136 RX0 yX0_freeCellsOf wsX0_freeCellsOf) := goodIn_app (goodIn_of _ (by decide +kernel)) ggX0_room_X0_freeCellsOf
set_option maxRecDepth 20000 in
theorem ggX0_room_X0_traysOf : GoodIn wsX0_room wsX0_traysOf := goodIn_r _ [17, 18, 24, 25, 26, 27, 28, 29, 30, 31, 32, 33, 34, 35, 36, 37, 38, 39] (by decide +kernel) (by decide +kernel)
set_option maxRecDepth 20000 in
theorem gX0_room_X0_traysOf : GoodIn wsX0_room (wsV RX0 126 RX0 yX0_traysOf wsX0_traysOf) := goodIn_app (goodIn_of _ (by decide +kernel)) ggX0_room_X0_traysOf
theorem dX0_room_0 : decode cX0_room 0 = .ok (.aload_n 0, 1) := by decide +kernel
theorem dX0_room_1 : decode cX0_room 1 = .ok (.iload_n 1, 1) := by decide +kernel
theorem dX0_room_2 : decode cX0_room 2 = .ok (.invokevirtual 64, 3) := by decide +kernel
theorem dX0_room_5 : decode cX0_room 5 = .ok (.aload_n 0, 1) := by decide +kernel
theorem dX0_room_6 : decode cX0_room 6 = .ok (.iload_n 1, 1) := by decide +kernel
theorem dX0_room_7 : decode cX0_room 7 = .ok (.invokevirtual 136, 3) := by decide +kernel
theorem dX0_room_10 : decode cX0_room 10 = .ok (.aload_n 0, 1) := by decide +kernel
theorem dX0_room_11 : decode cX0_room 11 = .ok (.iconst (-1), 1) := by decide +kernel
theorem dX0_room_12 : decode cX0_room 12 = .ok (.invokevirtual 126, 3) := by decide +kernel
theorem dX0_room_15 : decode cX0_room 15 = .ok (.aload_n 0, 1) := by decide +kernel
theorem dX0_room_16 : decode cX0_room 16 = .ok (.getfield 16, 3) := by decide +kernel
theorem dX0_room_19 : decode cX0_room 19 = .ok (.iload_n 1, 1) := by decide +kernel
theorem dX0_room_20 : decode cX0_room 20 = .ok (.iaload, 1) := by decide +kernel
theorem dX0_room_21 : decode cX0_room 21 = .ok (.imul, 1) := by decide +kernel
theorem dX0_room_22 : decode cX0_room 22 = .ok (.iadd, 1) := by decide +kernel
theorem dX0_room_23 : decode cX0_room 23 = .ok (.ireturn, 1) := by decide +kernel
set_option maxRecDepth 20000 in
theorem ggX0_worst_X0_wastedBy : GoodIn wsX0_worst wsX0_wastedBy := goodIn_r _ [6, 7, 8, 9, 10, 5, 11, 12, 13, 14, 15, 16, 17, 18, 19, 20, 21, 22, 23, 24, 25, 26, 27, 28, 29, 30, 31, 32, 33] (by decide +kernel) (by decide +kernel)
set_option maxRecDepth 20000 in
theorem gX0_worst_X0_wastedBy : GoodIn wsX0_worst (wsV RX0 149 RX0 yX0_wastedBy wsX0_wastedBy) := goodIn_app (goodIn_of _ (by decide +kernel)) ggX0_worst_X0_wastedBy
theorem dX0_worst_0 : decode cX0_worst 0 = .ok (.iconst (-1), 1) := by decide +kernel
theorem dX0_worst_1 : decode cX0_worst 1 = .ok (.istore_n 1, 1) := by decide +kernel
theorem dX0_worst_2 : decode cX0_worst 2 = .ok (.iconst (-1), 1) := by decide +kernel
theorem dX0_worst_3 : decode cX0_worst 3 = .ok (.istore_n 2, 1) := by decide +kernel
theorem dX0_worst_4 : decode cX0_worst 4 = .ok (.iconst 0, 1) := by decide +kernel
theorem dX0_worst_5 : decode cX0_worst 5 = .ok (.istore_n 3, 1) := by decide +kernel
theorem dX0_worst_6 : decode cX0_worst 6 = .ok (.iload_n 3, 1) := by decide +kernel
theorem dX0_worst_7 : decode cX0_worst 7 = .ok (.aload_n 0, 1) := by decide +kernel
theorem dX0_worst_8 : decode cX0_worst 8 = .ok (.getfield 55, 3) := by decide +kernel
theorem dX0_worst_11 : decode cX0_worst 11 = .ok (.if_icmp .ge 27, 3) := by decide +kernel
theorem dX0_worst_14 : decode cX0_worst 14 = .ok (.aload_n 0, 1) := by decide +kernel
theorem dX0_worst_15 : decode cX0_worst 15 = .ok (.iload_n 3, 1) := by decide +kernel
theorem dX0_worst_16 : decode cX0_worst 16 = .ok (.invokevirtual 149, 3) := by decide +kernel
theorem dX0_worst_19 : decode cX0_worst 19 = .ok (.istore 4, 2) := by decide +kernel
theorem dX0_worst_21 : decode cX0_worst 21 = .ok (.iload 4, 2) := by decide +kernel
theorem dX0_worst_23 : decode cX0_worst 23 = .ok (.iload_n 2, 1) := by decide +kernel
theorem dX0_worst_24 : decode cX0_worst 24 = .ok (.if_icmp .le 8, 3) := by decide +kernel
theorem dX0_worst_27 : decode cX0_worst 27 = .ok (.iload 4, 2) := by decide +kernel
theorem dX0_worst_29 : decode cX0_worst 29 = .ok (.istore_n 2, 1) := by decide +kernel
theorem dX0_worst_30 : decode cX0_worst 30 = .ok (.iload_n 3, 1) := by decide +kernel
theorem dX0_worst_31 : decode cX0_worst 31 = .ok (.istore_n 1, 1) := by decide +kernel
theorem dX0_worst_32 : decode cX0_worst 32 = .ok (.iinc 3 1, 3) := by decide +kernel
theorem dX0_worst_35 : decode cX0_worst 35 = .ok (.goto (-29), 3) := by decide +kernel
theorem dX0_worst_38 : decode cX0_worst 38 = .ok (.iload_n 1, 1) := by decide +kernel
theorem dX0_worst_39 : decode cX0_worst 39 = .ok (.ireturn, 1) := by decide +kernel
set_option maxRecDepth 20000 in
theorem ggX0_mean_X0_traysOf : GoodIn wsX0_mean wsX0_traysOf := goodIn_r _ [5, 6, 17, 18, 19, 20, 21, 22, 23, 24, 25, 26, 27, 28, 29, 30, 31, 32] (by decide +kernel) (by decide +kernel)
set_option maxRecDepth 20000 in
theorem gX0_mean_X0_traysOf : GoodIn wsX0_mean (wsV RX0 126 RX0 yX0_traysOf wsX0_traysOf) := goodIn_app (goodIn_of _ (by decide +kernel)) ggX0_mean_X0_traysOf
set_option maxRecDepth 20000 in
theorem ggX0_mean_X0_thingsThere : GoodIn wsX0_mean wsX0_thingsThere := goodIn_r _ [10, 11, 12, 13, 14, 4, 15, 6, 16, 17, 18, 19, 20, 21, 22, 23, 24, 25, 26, 27, 28, 29, 30, 31, 32] (by decide +kernel) (by decide +kernel)
set_option maxRecDepth 20000 in
theorem gX0_mean_X0_thingsThere : GoodIn wsX0_mean (wsV RX0 139 RX0 yX0_thingsThere wsX0_thingsThere) := goodIn_app (goodIn_of _ (by decide +kernel)) ggX0_mean_X0_thingsThere
theorem dX0_mean_0 : decode cX0_mean 0 = .ok (.bipush 20, 2) := by decide +kernel
theorem dX0_mean_2 : decode cX0_mean 2 = .ok (.aload_n 0, 1) := by decide +kernel
theorem dX0_mean_3 : decode cX0_mean 3 = .ok (.iconst (-1), 1) := by decide +kernel
theorem dX0_mean_4 : decode cX0_mean 4 = .ok (.invokevirtual 126, 3) := by decide +kernel
theorem dX0_mean_7 : decode cX0_mean 7 = .ok (.isub, 1) := by decide +kernel
theorem dX0_mean_8 : decode cX0_mean 8 = .ok (.istore_n 1, 1) := by decide +kernel
theorem dX0_mean_9 : decode cX0_mean 9 = .ok (.iload_n 1, 1) := by decide +kernel
theorem dX0_mean_10 : decode cX0_mean 10 = .ok (.ifCond .ne 5, 3) := by decide +kernel
theorem dX0_mean_13 : decode cX0_mean 13 = .ok (.dconst 0, 1) := by decide +kernel
theorem dX0_mean_14 : decode cX0_mean 14 = .ok (.dreturn, 1) := by decide +kernel
theorem dX0_mean_15 : decode cX0_mean 15 = .ok (.aload_n 0, 1) := by decide +kernel
theorem dX0_mean_16 : decode cX0_mean 16 = .ok (.invokevirtual 139, 3) := by decide +kernel
theorem dX0_mean_19 : decode cX0_mean 19 = .ok (.i2d, 1) := by decide +kernel
theorem dX0_mean_20 : decode cX0_mean 20 = .ok (.iload_n 1, 1) := by decide +kernel
theorem dX0_mean_21 : decode cX0_mean 21 = .ok (.i2d, 1) := by decide +kernel
theorem dX0_mean_22 : decode cX0_mean 22 = .ok (.ddiv, 1) := by decide +kernel
theorem dX0_mean_23 : decode cX0_mean 23 = .ok (.dreturn, 1) := by decide +kernel
set_option maxRecDepth 20000 in
theorem ggX0_digest_X0_count : GoodIn wsX0_digest wsX0_count := goodIn_ca (goodIn_r _ [8, 3, 9, 10, 11, 12, 13, 14, 7, 15, 16, 17, 18, 19, 20, 21, 22, 23, 24, 25, 26, 27, 28, 29, 30, 31, 32, 33, 34, 35, 36, 37, 38, 39, 40, 78, 79, 80, 81, 82, 83, 84, 85, 86, 87, 88, 89, 90, 91, 92, 93] (by decide +kernel) (by decide +kernel)) (goodIn_sub (fun _ h => List.mem_cons_of_mem _ (List.mem_append_right _ h)) (by decide +kernel))
set_option maxRecDepth 20000 in
theorem gX0_digest_X0_count : GoodIn wsX0_digest (wsV RX0 156 RX0 yX0_count wsX0_count) := goodIn_app (goodIn_of _ (by decide +kernel)) ggX0_digest_X0_count
set_option maxRecDepth 20000 in
theorem ggX0_digest_X0_about : GoodIn wsX0_digest wsX0_about := goodIn_ca (goodIn_r _ [44, 40, 45, 46, 47, 48, 49, 50, 7, 51, 16, 17, 3, 12, 13, 14, 15, 18, 19, 20, 21, 22, 52, 53, 54, 55, 31, 27, 28, 29, 30, 56, 57, 58, 59, 78, 79, 80, 81, 82, 83, 84, 85, 86, 87, 88, 89, 90, 91, 92, 93] (by decide +kernel) (by decide +kernel)) (goodIn_sub (fun _ h => List.mem_cons_of_mem _ (List.mem_append_right _ h)) (by decide +kernel))
set_option maxRecDepth 20000 in
theorem gX0_digest_X0_about : GoodIn wsX0_digest (wsV RX0 159 RX0 yX0_about wsX0_about) := goodIn_app (goodIn_of _ (by decide +kernel)) ggX0_digest_X0_about
set_option maxRecDepth 20000 in
theorem ggX0_digest_X0_digestPlace : GoodIn wsX0_digest wsX0_digestPlace := goodIn_ca (goodIn_r _ [63, 2, 64, 65, 66, 67, 7, 68, 22, 69, 46, 31, 40, 70, 71, 72, 73, 16, 17, 12, 13, 14, 15, 74, 75, 76, 77, 78, 79, 80, 81, 82, 83, 84, 85, 86, 87, 88, 89, 90, 91, 92, 93] (by decide +kernel) (by decide +kernel)) (goodIn_sub (fun _ h => List.mem_cons_of_mem _ (List.mem_append_right _ h)) (by decide +kernel))
set_option maxRecDepth 20000 in
theorem gX0_digest_X0_digestPlace : GoodIn wsX0_digest (wsV RX0 162 RX0 yX0_digestPlace wsX0_digestPlace) := goodIn_app (goodIn_of _ (by decide +kernel)) ggX0_digest_X0_digestPlace
theorem dX0_digest_0 : decode cX0_digest 0 = .ok (.ldc2_w 152, 3) := by decide +kernel
theorem dX0_digest_3 : decode cX0_digest 3 = .ok (.lstore_n 1, 1) := by decide +kernel
theorem dX0_digest_4 : decode cX0_digest 4 = .ok (.iconst 0, 1) := by decide +kernel
theorem dX0_digest_5 : decode cX0_digest 5 = .ok (.istore_n 3, 1) := by decide +kernel
theorem dX0_digest_6 : decode cX0_digest 6 = .ok (.iload_n 3, 1) := by decide +kernel
theorem dX0_digest_7 : decode cX0_digest 7 = .ok (.bipush 6, 2) := by decide +kernel
theorem dX0_digest_9 : decode cX0_digest 9 = .ok (.if_icmp .gt 22, 3) := by decide +kernel
theorem dX0_digest_12 : decode cX0_digest 12 = .ok (.lload_n 1, 1) := by decide +kernel
theorem dX0_digest_13 : decode cX0_digest 13 = .ok (.ldc2_w 154, 3) := by decide +kernel
theorem dX0_digest_16 : decode cX0_digest 16 = .ok (.lmul, 1) := by decide +kernel
theorem dX0_digest_17 : decode cX0_digest 17 = .ok (.aload_n 0, 1) := by decide +kernel
theorem dX0_digest_18 : decode cX0_digest 18 = .ok (.iload_n 3, 1) := by decide +kernel
theorem dX0_digest_19 : decode cX0_digest 19 = .ok (.invokevirtual 156, 3) := by decide +kernel
theorem dX0_digest_22 : decode cX0_digest 22 = .ok (.i2l, 1) := by decide +kernel
theorem dX0_digest_23 : decode cX0_digest 23 = .ok (.ladd, 1) := by decide +kernel
theorem dX0_digest_24 : decode cX0_digest 24 = .ok (.lstore_n 1, 1) := by decide +kernel
theorem dX0_digest_25 : decode cX0_digest 25 = .ok (.iinc 3 1, 3) := by decide +kernel
theorem dX0_digest_28 : decode cX0_digest 28 = .ok (.goto (-22), 3) := by decide +kernel
theorem dX0_digest_31 : decode cX0_digest 31 = .ok (.iconst 0, 1) := by decide +kernel
theorem dX0_digest_32 : decode cX0_digest 32 = .ok (.istore_n 3, 1) := by decide +kernel
theorem dX0_digest_33 : decode cX0_digest 33 = .ok (.iload_n 3, 1) := by decide +kernel
theorem dX0_digest_34 : decode cX0_digest 34 = .ok (.aload_n 0, 1) := by decide +kernel
theorem dX0_digest_35 : decode cX0_digest 35 = .ok (.getfield 55, 3) := by decide +kernel
theorem dX0_digest_38 : decode cX0_digest 38 = .ok (.if_icmp .ge 40, 3) := by decide +kernel
theorem dX0_digest_41 : decode cX0_digest 41 = .ok (.iconst 0, 1) := by decide +kernel
theorem dX0_digest_42 : decode cX0_digest 42 = .ok (.istore 4, 2) := by decide +kernel
theorem dX0_digest_44 : decode cX0_digest 44 = .ok (.iload 4, 2) := by decide +kernel
theorem dX0_digest_46 : decode cX0_digest 46 = .ok (.bipush 7, 2) := by decide +kernel
theorem dX0_digest_48 : decode cX0_digest 48 = .ok (.if_icmp .gt 24, 3) := by decide +kernel
theorem dX0_digest_51 : decode cX0_digest 51 = .ok (.lload_n 1, 1) := by decide +kernel
theorem dX0_digest_52 : decode cX0_digest 52 = .ok (.ldc2_w 154, 3) := by decide +kernel
theorem dX0_digest_55 : decode cX0_digest 55 = .ok (.lmul, 1) := by decide +kernel
theorem dX0_digest_56 : decode cX0_digest 56 = .ok (.aload_n 0, 1) := by decide +kernel
theorem dX0_digest_57 : decode cX0_digest 57 = .ok (.iload_n 3, 1) := by decide +kernel
theorem dX0_digest_58 : decode cX0_digest 58 = .ok (.iload 4, 2) := by decide +kernel
theorem dX0_digest_60 : decode cX0_digest 60 = .ok (.invokevirtual 159, 3) := by decide +kernel
theorem dX0_digest_63 : decode cX0_digest 63 = .ok (.i2l, 1) := by decide +kernel
theorem dX0_digest_64 : decode cX0_digest 64 = .ok (.ladd, 1) := by decide +kernel
theorem dX0_digest_65 : decode cX0_digest 65 = .ok (.lstore_n 1, 1) := by decide +kernel
theorem dX0_digest_66 : decode cX0_digest 66 = .ok (.iinc 4 1, 3) := by decide +kernel
theorem dX0_digest_69 : decode cX0_digest 69 = .ok (.goto (-25), 3) := by decide +kernel
theorem dX0_digest_72 : decode cX0_digest 72 = .ok (.iinc 3 1, 3) := by decide +kernel
theorem dX0_digest_75 : decode cX0_digest 75 = .ok (.goto (-42), 3) := by decide +kernel
theorem dX0_digest_78 : decode cX0_digest 78 = .ok (.iconst 0, 1) := by decide +kernel
theorem dX0_digest_79 : decode cX0_digest 79 = .ok (.istore_n 3, 1) := by decide +kernel
theorem dX0_digest_80 : decode cX0_digest 80 = .ok (.iload_n 3, 1) := by decide +kernel
theorem dX0_digest_81 : decode cX0_digest 81 = .ok (.bipush 20, 2) := by decide +kernel
theorem dX0_digest_83 : decode cX0_digest 83 = .ok (.if_icmp .ge 16, 3) := by decide +kernel
theorem dX0_digest_86 : decode cX0_digest 86 = .ok (.aload_n 0, 1) := by decide +kernel
theorem dX0_digest_87 : decode cX0_digest 87 = .ok (.lload_n 1, 1) := by decide +kernel
theorem dX0_digest_88 : decode cX0_digest 88 = .ok (.iload_n 3, 1) := by decide +kernel
theorem dX0_digest_89 : decode cX0_digest 89 = .ok (.invokevirtual 162, 3) := by decide +kernel
theorem dX0_digest_92 : decode cX0_digest 92 = .ok (.lstore_n 1, 1) := by decide +kernel
theorem dX0_digest_93 : decode cX0_digest 93 = .ok (.iinc 3 1, 3) := by decide +kernel
theorem dX0_digest_96 : decode cX0_digest 96 = .ok (.goto (-16), 3) := by decide +kernel
theorem dX0_digest_99 : decode cX0_digest 99 = .ok (.lload_n 1, 1) := by decide +kernel
theorem dX0_digest_100 : decode cX0_digest 100 = .ok (.lreturn, 1) := by decide +kernel
set_option maxRecDepth 20000 in
theorem ggX0_digestPlace_X0_tray : GoodIn wsX0_digestPlace wsX0_tray := goodIn_ca (goodIn_r _ [7, 8, 9, 10, 11, 12, 13, 14, 15, 6, 16, 17, 18, 19, 20, 21, 22, 27, 28, 29, 30, 31, 32, 33, 34, 35, 36, 37, 38, 39, 40, 41, 42] (by decide +kernel) (by decide +kernel)) (goodIn_sub (fun _ h => List.mem_cons_of_mem _ (List.mem_append_right _ h)) (by decide +kernel))
set_option maxRecDepth 20000 in
theorem gX0_digestPlace_X0_tray : GoodIn wsX0_digestPlace (wsV RX0 166 RX0 yX0_tray wsX0_tray) := goodIn_app (goodIn_of _ (by decide +kernel)) ggX0_digestPlace_X0_tray
set_option maxRecDepth 20000 in
theorem ggX0_digestPlace_X0_cellsAt : GoodIn wsX0_digestPlace wsX0_cellsAt := goodIn_r _ [26, 8, 10, 27, 28, 29, 30, 31, 32, 33, 34, 35, 36, 37, 38, 39, 40, 41, 42] (by decide +kernel) (by decide +kernel)
set_option maxRecDepth 20000 in
theorem gX0_digestPlace_X0_cellsAt : GoodIn wsX0_digestPlace (wsV RX0 118 RX0 yX0_cellsAt wsX0_cellsAt) := goodIn_app (goodIn_of _ (by decide +kernel)) ggX0_digestPlace_X0_cellsAt
theorem dX0_digestPlace_0 : decode cX0_digestPlace 0 = .ok (.lload_n 1, 1) := by decide +kernel
theorem dX0_digestPlace_1 : decode cX0_digestPlace 1 = .ok (.lstore 4, 2) := by decide +kernel
theorem dX0_digestPlace_3 : decode cX0_digestPlace 3 = .ok (.iconst 0, 1) := by decide +kernel
theorem dX0_digestPlace_4 : decode cX0_digestPlace 4 = .ok (.istore 6, 2) := by decide +kernel
theorem dX0_digestPlace_6 : decode cX0_digestPlace 6 = .ok (.iload 6, 2) := by decide +kernel
theorem dX0_digestPlace_8 : decode cX0_digestPlace 8 = .ok (.iconst 4, 1) := by decide +kernel
theorem dX0_digestPlace_9 : decode cX0_digestPlace 9 = .ok (.if_icmp .gt 26, 3) := by decide +kernel
theorem dX0_digestPlace_12 : decode cX0_digestPlace 12 = .ok (.lload 4, 2) := by decide +kernel
theorem dX0_digestPlace_14 : decode cX0_digestPlace 14 = .ok (.ldc2_w 154, 3) := by decide +kernel
theorem dX0_digestPlace_17 : decode cX0_digestPlace 17 = .ok (.lmul, 1) := by decide +kernel
theorem dX0_digestPlace_18 : decode cX0_digestPlace 18 = .ok (.aload_n 0, 1) := by decide +kernel
theorem dX0_digestPlace_19 : decode cX0_digestPlace 19 = .ok (.iload_n 3, 1) := by decide +kernel
theorem dX0_digestPlace_20 : decode cX0_digestPlace 20 = .ok (.iload 6, 2) := by decide +kernel
theorem dX0_digestPlace_22 : decode cX0_digestPlace 22 = .ok (.invokevirtual 166, 3) := by decide +kernel
theorem dX0_digestPlace_25 : decode cX0_digestPlace 25 = .ok (.i2l, 1) := by decide +kernel
theorem dX0_digestPlace_26 : decode cX0_digestPlace 26 = .ok (.ladd, 1) := by decide +kernel
theorem dX0_digestPlace_27 : decode cX0_digestPlace 27 = .ok (.lstore 4, 2) := by decide +kernel
theorem dX0_digestPlace_29 : decode cX0_digestPlace 29 = .ok (.iinc 6 1, 3) := by decide +kernel
theorem dX0_digestPlace_32 : decode cX0_digestPlace 32 = .ok (.goto (-26), 3) := by decide +kernel
theorem dX0_digestPlace_35 : decode cX0_digestPlace 35 = .ok (.aload_n 0, 1) := by decide +kernel
theorem dX0_digestPlace_36 : decode cX0_digestPlace 36 = .ok (.iload_n 3, 1) := by decide +kernel
theorem dX0_digestPlace_37 : decode cX0_digestPlace 37 = .ok (.invokevirtual 118, 3) := by decide +kernel
theorem dX0_digestPlace_40 : decode cX0_digestPlace 40 = .ok (.istore 6, 2) := by decide +kernel
theorem dX0_digestPlace_42 : decode cX0_digestPlace 42 = .ok (.iconst 0, 1) := by decide +kernel
theorem dX0_digestPlace_43 : decode cX0_digestPlace 43 = .ok (.istore 7, 2) := by decide +kernel
theorem dX0_digestPlace_45 : decode cX0_digestPlace 45 = .ok (.iload 7, 2) := by decide +kernel
theorem dX0_digestPlace_47 : decode cX0_digestPlace 47 = .ok (.iload 6, 2) := by decide +kernel
theorem dX0_digestPlace_49 : decode cX0_digestPlace 49 = .ok (.if_icmp .ge 31, 3) := by decide +kernel
theorem dX0_digestPlace_52 : decode cX0_digestPlace 52 = .ok (.lload 4, 2) := by decide +kernel
theorem dX0_digestPlace_54 : decode cX0_digestPlace 54 = .ok (.ldc2_w 154, 3) := by decide +kernel
theorem dX0_digestPlace_57 : decode cX0_digestPlace 57 = .ok (.lmul, 1) := by decide +kernel
theorem dX0_digestPlace_58 : decode cX0_digestPlace 58 = .ok (.aload_n 0, 1) := by decide +kernel
theorem dX0_digestPlace_59 : decode cX0_digestPlace 59 = .ok (.getfield 34, 3) := by decide +kernel
theorem dX0_digestPlace_62 : decode cX0_digestPlace 62 = .ok (.iload_n 3, 1) := by decide +kernel
theorem dX0_digestPlace_63 : decode cX0_digestPlace 63 = .ok (.bipush 64, 2) := by decide +kernel
theorem dX0_digestPlace_65 : decode cX0_digestPlace 65 = .ok (.imul, 1) := by decide +kernel
theorem dX0_digestPlace_66 : decode cX0_digestPlace 66 = .ok (.iload 7, 2) := by decide +kernel
theorem dX0_digestPlace_68 : decode cX0_digestPlace 68 = .ok (.iadd, 1) := by decide +kernel
theorem dX0_digestPlace_69 : decode cX0_digestPlace 69 = .ok (.iaload, 1) := by decide +kernel
theorem dX0_digestPlace_70 : decode cX0_digestPlace 70 = .ok (.i2l, 1) := by decide +kernel
theorem dX0_digestPlace_71 : decode cX0_digestPlace 71 = .ok (.ladd, 1) := by decide +kernel
theorem dX0_digestPlace_72 : decode cX0_digestPlace 72 = .ok (.lstore 4, 2) := by decide +kernel
theorem dX0_digestPlace_74 : decode cX0_digestPlace 74 = .ok (.iinc 7 1, 3) := by decide +kernel
theorem dX0_digestPlace_77 : decode cX0_digestPlace 77 = .ok (.goto (-32), 3) := by decide +kernel
theorem dX0_digestPlace_80 : decode cX0_digestPlace 80 = .ok (.lload 4, 2) := by decide +kernel
theorem dX0_digestPlace_82 : decode cX0_digestPlace 82 = .ok (.lreturn, 1) := by decide +kernel
theorem dX0_requireKind_0 : decode cX0_requireKind 0 = .ok (.iload_n 1, 1) := by decide +kernel
theorem dX0_requireKind_1 : decode cX0_requireKind 1 = .ok (.ifCond .lt 11, 3) := by decide +kernel
theorem dX0_requireKind_4 : decode cX0_requireKind 4 = .ok (.iload_n 1, 1) := by decide +kernel
theorem dX0_requireKind_5 : decode cX0_requireKind 5 = .ok (.aload_n 0, 1) := by decide +kernel
theorem dX0_requireKind_6 : decode cX0_requireKind 6 = .ok (.getfield 55, 3) := by decide +kernel
theorem dX0_requireKind_9 : decode cX0_requireKind 9 = .ok (.if_icmp .lt 13, 3) := by decide +kernel
theorem dX0_requireKind_12 : decode cX0_requireKind 12 = .ok (.new 121, 3) := by decide +kernel
theorem dX0_requireKind_15 : decode cX0_requireKind 15 = .ok (.dup, 1) := by decide +kernel
theorem dX0_requireKind_16 : decode cX0_requireKind 16 = .ok (.ldc 169, 2) := by decide +kernel
theorem dX0_requireKind_18 : decode cX0_requireKind 18 = .ok (.invokespecial 125, 3) := by decide +kernel
theorem dX0_requireKind_21 : decode cX0_requireKind 21 = .ok (.athrow, 1) := by decide +kernel
theorem dX0_requireKind_22 : decode cX0_requireKind 22 = .ok (.return_, 1) := by decide +kernel
theorem dX0_requireThing_0 : decode cX0_requireThing 0 = .ok (.iload_n 1, 1) := by decide +kernel
theorem dX0_requireThing_1 : decode cX0_requireThing 1 = .ok (.ifCond .lt 11, 3) := by decide +kernel
theorem dX0_requireThing_4 : decode cX0_requireThing 4 = .ok (.iload_n 1, 1) := by decide +kernel
theorem dX0_requireThing_5 : decode cX0_requireThing 5 = .ok (.aload_n 0, 1) := by decide +kernel
theorem dX0_requireThing_6 : decode cX0_requireThing 6 = .ok (.getfield 68, 3) := by decide +kernel
theorem dX0_requireThing_9 : decode cX0_requireThing 9 = .ok (.if_icmp .lt 13, 3) := by decide +kernel
theorem dX0_requireThing_12 : decode cX0_requireThing 12 = .ok (.new 121, 3) := by decide +kernel
theorem dX0_requireThing_15 : decode cX0_requireThing 15 = .ok (.dup, 1) := by decide +kernel
theorem dX0_requireThing_16 : decode cX0_requireThing 16 = .ok (.ldc 171, 2) := by decide +kernel
theorem dX0_requireThing_18 : decode cX0_requireThing 18 = .ok (.invokespecial 125, 3) := by decide +kernel
theorem dX0_requireThing_21 : decode cX0_requireThing 21 = .ok (.athrow, 1) := by decide +kernel
theorem dX0_requireThing_22 : decode cX0_requireThing 22 = .ok (.return_, 1) := by decide +kernel
theorem dX0_requirePlace_0 : decode cX0_requirePlace 0 = .ok (.iload_n 1, 1) := by decide +kernel
theorem dX0_requirePlace_1 : decode cX0_requirePlace 1 = .ok (.ifCond .lt 9, 3) := by decide +kernel
theorem dX0_requirePlace_4 : decode cX0_requirePlace 4 = .ok (.iload_n 1, 1) := by decide +kernel
theorem dX0_requirePlace_5 : decode cX0_requirePlace 5 = .ok (.bipush 20, 2) := by decide +kernel
theorem dX0_requirePlace_7 : decode cX0_requirePlace 7 = .ok (.if_icmp .lt 13, 3) := by decide +kernel
theorem dX0_requirePlace_10 : decode cX0_requirePlace 10 = .ok (.new 121, 3) := by decide +kernel
theorem dX0_requirePlace_13 : decode cX0_requirePlace 13 = .ok (.dup, 1) := by decide +kernel
theorem dX0_requirePlace_14 : decode cX0_requirePlace 14 = .ok (.ldc 173, 2) := by decide +kernel
theorem dX0_requirePlace_16 : decode cX0_requirePlace 16 = .ok (.invokespecial 125, 3) := by decide +kernel
theorem dX0_requirePlace_19 : decode cX0_requirePlace 19 = .ok (.athrow, 1) := by decide +kernel
theorem dX0_requirePlace_20 : decode cX0_requirePlace 20 = .ok (.return_, 1) := by decide +kernel
theorem dX0_requireWhat_0 : decode cX0_requireWhat 0 = .ok (.iload_n 1, 1) := by decide +kernel
theorem dX0_requireWhat_1 : decode cX0_requireWhat 1 = .ok (.ifCond .lt 8, 3) := by decide +kernel
theorem dX0_requireWhat_4 : decode cX0_requireWhat 4 = .ok (.iload_n 1, 1) := by decide +kernel
theorem dX0_requireWhat_5 : decode cX0_requireWhat 5 = .ok (.iload_n 2, 1) := by decide +kernel
theorem dX0_requireWhat_6 : decode cX0_requireWhat 6 = .ok (.if_icmp .le 13, 3) := by decide +kernel
theorem dX0_requireWhat_9 : decode cX0_requireWhat 9 = .ok (.new 121, 3) := by decide +kernel
theorem dX0_requireWhat_12 : decode cX0_requireWhat 12 = .ok (.dup, 1) := by decide +kernel
theorem dX0_requireWhat_13 : decode cX0_requireWhat 13 = .ok (.ldc 175, 2) := by decide +kernel
theorem dX0_requireWhat_15 : decode cX0_requireWhat 15 = .ok (.invokespecial 125, 3) := by decide +kernel
theorem dX0_requireWhat_18 : decode cX0_requireWhat 18 = .ok (.athrow, 1) := by decide +kernel
theorem dX0_requireWhat_19 : decode cX0_requireWhat 19 = .ok (.return_, 1) := by decide +kernel
set_option maxRecDepth 20000 in
theorem ggX0_placeFor_X0_mostPartly : GoodIn wsX0_placeFor wsX0_mostPartly := goodIn_r _ [5, 6, 7, 8, 9, 4, 10, 11, 12, 21, 22, 23, 24, 25, 26, 27, 28, 29, 30, 31, 32, 33, 34, 35, 36] (by decide +kernel) (by decide +kernel)
set_option maxRecDepth 20000 in
theorem gX0_placeFor_X0_mostPartly : GoodIn wsX0_placeFor (wsV RX0 103 RX0 yX0_mostPartly wsX0_mostPartly) := goodIn_app (goodIn_of _ (by decide +kernel)) ggX0_placeFor_X0_mostPartly
set_option maxRecDepth 20000 in
theorem ggX0_placeFor_X0_firstEmpty : GoodIn wsX0_placeFor wsX0_firstEmpty := goodIn_r _ [16, 11, 6, 21, 22, 23, 24, 25, 26, 27, 28, 29, 30, 31, 32, 33, 34, 35, 36] (by decide +kernel) (by decide +kernel)
set_option maxRecDepth 20000 in
theorem gX0_placeFor_X0_firstEmpty : GoodIn wsX0_placeFor (wsV RX0 91 RX0 yX0_firstEmpty wsX0_firstEmpty) := goodIn_app (goodIn_of _ (by decide +kernel)) ggX0_placeFor_X0_firstEmpty
set_option maxRecDepth 20000 in
theorem ggX0_placeFor_X0_firstBare : GoodIn wsX0_placeFor wsX0_firstBare := goodIn_r _ [20, 11, 21, 22, 23, 24, 25, 26, 27, 28, 29, 30, 31, 32, 33, 34, 35, 36] (by decide +kernel) (by decide +kernel)
set_option maxRecDepth 20000 in
theorem gX0_placeFor_X0_firstBare : GoodIn wsX0_placeFor (wsV RX0 177 RX0 yX0_firstBare wsX0_firstBare) := goodIn_app (goodIn_of _ (by decide +kernel)) ggX0_placeFor_X0_firstBare
theorem dX0_placeFor_0 : decode cX0_placeFor 0 = .ok (.aload_n 0, 1) := by decide +kernel
theorem dX0_placeFor_1 : decode cX0_placeFor 1 = .ok (.iload_n 1, 1) := by decide +kernel
theorem dX0_placeFor_2 : decode cX0_placeFor 2 = .ok (.invokevirtual 103, 3) := by decide +kernel
theorem dX0_placeFor_5 : decode cX0_placeFor 5 = .ok (.istore_n 2, 1) := by decide +kernel
theorem dX0_placeFor_6 : decode cX0_placeFor 6 = .ok (.iload_n 2, 1) := by decide +kernel
theorem dX0_placeFor_7 : decode cX0_placeFor 7 = .ok (.iconst (-1), 1) := by decide +kernel
theorem dX0_placeFor_8 : decode cX0_placeFor 8 = .ok (.if_icmp .ne 9, 3) := by decide +kernel
theorem dX0_placeFor_11 : decode cX0_placeFor 11 = .ok (.aload_n 0, 1) := by decide +kernel
theorem dX0_placeFor_12 : decode cX0_placeFor 12 = .ok (.iload_n 1, 1) := by decide +kernel
theorem dX0_placeFor_13 : decode cX0_placeFor 13 = .ok (.invokevirtual 91, 3) := by decide +kernel
theorem dX0_placeFor_16 : decode cX0_placeFor 16 = .ok (.istore_n 2, 1) := by decide +kernel
theorem dX0_placeFor_17 : decode cX0_placeFor 17 = .ok (.iload_n 2, 1) := by decide +kernel
theorem dX0_placeFor_18 : decode cX0_placeFor 18 = .ok (.iconst (-1), 1) := by decide +kernel
theorem dX0_placeFor_19 : decode cX0_placeFor 19 = .ok (.if_icmp .ne 8, 3) := by decide +kernel
theorem dX0_placeFor_22 : decode cX0_placeFor 22 = .ok (.aload_n 0, 1) := by decide +kernel
theorem dX0_placeFor_23 : decode cX0_placeFor 23 = .ok (.invokevirtual 177, 3) := by decide +kernel
theorem dX0_placeFor_26 : decode cX0_placeFor 26 = .ok (.istore_n 2, 1) := by decide +kernel
theorem dX0_placeFor_27 : decode cX0_placeFor 27 = .ok (.iload_n 2, 1) := by decide +kernel
theorem dX0_placeFor_28 : decode cX0_placeFor 28 = .ok (.ireturn, 1) := by decide +kernel
set_option maxRecDepth 20000 in
theorem ggX0_mostPartly_X0_isPartly : GoodIn wsX0_mostPartly wsX0_isPartly := goodIn_r _ [6, 7, 1, 8, 9, 10, 11, 12, 13, 14, 15, 16, 17, 18, 19, 20, 21, 22, 23, 24] (by decide +kernel) (by decide +kernel)
set_option maxRecDepth 20000 in
theorem gX0_mostPartly_X0_isPartly : GoodIn wsX0_mostPartly (wsV RX0 180 RX0 yX0_isPartly wsX0_isPartly) := goodIn_app (goodIn_of _ (by decide +kernel)) ggX0_mostPartly_X0_isPartly
theorem dX0_mostPartly_0 : decode cX0_mostPartly 0 = .ok (.iconst (-1), 1) := by decide +kernel
theorem dX0_mostPartly_1 : decode cX0_mostPartly 1 = .ok (.istore_n 2, 1) := by decide +kernel
theorem dX0_mostPartly_2 : decode cX0_mostPartly 2 = .ok (.iconst 0, 1) := by decide +kernel
theorem dX0_mostPartly_3 : decode cX0_mostPartly 3 = .ok (.istore_n 3, 1) := by decide +kernel
theorem dX0_mostPartly_4 : decode cX0_mostPartly 4 = .ok (.iconst 0, 1) := by decide +kernel
theorem dX0_mostPartly_5 : decode cX0_mostPartly 5 = .ok (.istore 4, 2) := by decide +kernel
theorem dX0_mostPartly_7 : decode cX0_mostPartly 7 = .ok (.iload 4, 2) := by decide +kernel
theorem dX0_mostPartly_9 : decode cX0_mostPartly 9 = .ok (.bipush 20, 2) := by decide +kernel
theorem dX0_mostPartly_11 : decode cX0_mostPartly 11 = .ok (.if_icmp .ge 41, 3) := by decide +kernel
theorem dX0_mostPartly_14 : decode cX0_mostPartly 14 = .ok (.aload_n 0, 1) := by decide +kernel
theorem dX0_mostPartly_15 : decode cX0_mostPartly 15 = .ok (.iload 4, 2) := by decide +kernel
theorem dX0_mostPartly_17 : decode cX0_mostPartly 17 = .ok (.iload_n 1, 1) := by decide +kernel
theorem dX0_mostPartly_18 : decode cX0_mostPartly 18 = .ok (.invokevirtual 180, 3) := by decide +kernel
theorem dX0_mostPartly_21 : decode cX0_mostPartly 21 = .ok (.ifCond .eq 25, 3) := by decide +kernel
theorem dX0_mostPartly_24 : decode cX0_mostPartly 24 = .ok (.aload_n 0, 1) := by decide +kernel
theorem dX0_mostPartly_25 : decode cX0_mostPartly 25 = .ok (.getfield 31, 3) := by decide +kernel
theorem dX0_mostPartly_28 : decode cX0_mostPartly 28 = .ok (.iload 4, 2) := by decide +kernel
theorem dX0_mostPartly_30 : decode cX0_mostPartly 30 = .ok (.iaload, 1) := by decide +kernel
theorem dX0_mostPartly_31 : decode cX0_mostPartly 31 = .ok (.iload_n 3, 1) := by decide +kernel
theorem dX0_mostPartly_32 : decode cX0_mostPartly 32 = .ok (.if_icmp .le 14, 3) := by decide +kernel
theorem dX0_mostPartly_35 : decode cX0_mostPartly 35 = .ok (.aload_n 0, 1) := by decide +kernel
theorem dX0_mostPartly_36 : decode cX0_mostPartly 36 = .ok (.getfield 31, 3) := by decide +kernel
theorem dX0_mostPartly_39 : decode cX0_mostPartly 39 = .ok (.iload 4, 2) := by decide +kernel
theorem dX0_mostPartly_41 : decode cX0_mostPartly 41 = .ok (.iaload, 1) := by decide +kernel
theorem dX0_mostPartly_42 : decode cX0_mostPartly 42 = .ok (.istore_n 3, 1) := by decide +kernel
theorem dX0_mostPartly_43 : decode cX0_mostPartly 43 = .ok (.iload 4, 2) := by decide +kernel
theorem dX0_mostPartly_45 : decode cX0_mostPartly 45 = .ok (.istore_n 2, 1) := by decide +kernel
theorem dX0_mostPartly_46 : decode cX0_mostPartly 46 = .ok (.iinc 4 1, 3) := by decide +kernel
theorem dX0_mostPartly_49 : decode cX0_mostPartly 49 = .ok (.goto (-42), 3) := by decide +kernel
theorem dX0_mostPartly_52 : decode cX0_mostPartly 52 = .ok (.iload_n 2, 1) := by decide +kernel
theorem dX0_mostPartly_53 : decode cX0_mostPartly 53 = .ok (.ireturn, 1) := by decide +kernel
set_option maxRecDepth 20000 in
theorem ggX0_leastPartly_X0_isPartly : GoodIn wsX0_leastPartly wsX0_isPartly := goodIn_r _ [6, 7, 1, 8, 9, 10, 11, 12, 13, 14, 15, 16, 17, 18, 19, 20, 21, 22, 23, 24] (by decide +kernel) (by decide +kernel)
set_option maxRecDepth 20000 in
theorem gX0_leastPartly_X0_isPartly : GoodIn wsX0_leastPartly (wsV RX0 180 RX0 yX0_isPartly wsX0_isPartly) := goodIn_app (goodIn_of _ (by decide +kernel)) ggX0_leastPartly_X0_isPartly
theorem dX0_leastPartly_0 : decode cX0_leastPartly 0 = .ok (.iconst (-1), 1) := by decide +kernel
theorem dX0_leastPartly_1 : decode cX0_leastPartly 1 = .ok (.istore_n 2, 1) := by decide +kernel
theorem dX0_leastPartly_2 : decode cX0_leastPartly 2 = .ok (.bipush 64, 2) := by decide +kernel
theorem dX0_leastPartly_4 : decode cX0_leastPartly 4 = .ok (.istore_n 3, 1) := by decide +kernel
theorem dX0_leastPartly_5 : decode cX0_leastPartly 5 = .ok (.iconst 0, 1) := by decide +kernel
theorem dX0_leastPartly_6 : decode cX0_leastPartly 6 = .ok (.istore 4, 2) := by decide +kernel
theorem dX0_leastPartly_8 : decode cX0_leastPartly 8 = .ok (.iload 4, 2) := by decide +kernel
theorem dX0_leastPartly_10 : decode cX0_leastPartly 10 = .ok (.bipush 20, 2) := by decide +kernel
theorem dX0_leastPartly_12 : decode cX0_leastPartly 12 = .ok (.if_icmp .ge 41, 3) := by decide +kernel
theorem dX0_leastPartly_15 : decode cX0_leastPartly 15 = .ok (.aload_n 0, 1) := by decide +kernel
theorem dX0_leastPartly_16 : decode cX0_leastPartly 16 = .ok (.iload 4, 2) := by decide +kernel
theorem dX0_leastPartly_18 : decode cX0_leastPartly 18 = .ok (.iload_n 1, 1) := by decide +kernel
theorem dX0_leastPartly_19 : decode cX0_leastPartly 19 = .ok (.invokevirtual 180, 3) := by decide +kernel
theorem dX0_leastPartly_22 : decode cX0_leastPartly 22 = .ok (.ifCond .eq 25, 3) := by decide +kernel
theorem dX0_leastPartly_25 : decode cX0_leastPartly 25 = .ok (.aload_n 0, 1) := by decide +kernel
theorem dX0_leastPartly_26 : decode cX0_leastPartly 26 = .ok (.getfield 31, 3) := by decide +kernel
theorem dX0_leastPartly_29 : decode cX0_leastPartly 29 = .ok (.iload 4, 2) := by decide +kernel
theorem dX0_leastPartly_31 : decode cX0_leastPartly 31 = .ok (.iaload, 1) := by decide +kernel
theorem dX0_leastPartly_32 : decode cX0_leastPartly 32 = .ok (.iload_n 3, 1) := by decide +kernel
theorem dX0_leastPartly_33 : decode cX0_leastPartly 33 = .ok (.if_icmp .gt 14, 3) := by decide +kernel
theorem dX0_leastPartly_36 : decode cX0_leastPartly 36 = .ok (.aload_n 0, 1) := by decide +kernel
theorem dX0_leastPartly_37 : decode cX0_leastPartly 37 = .ok (.getfield 31, 3) := by decide +kernel
theorem dX0_leastPartly_40 : decode cX0_leastPartly 40 = .ok (.iload 4, 2) := by decide +kernel
theorem dX0_leastPartly_42 : decode cX0_leastPartly 42 = .ok (.iaload, 1) := by decide +kernel
theorem dX0_leastPartly_43 : decode cX0_leastPartly 43 = .ok (.istore_n 3, 1) := by decide +kernel
theorem dX0_leastPartly_44 : decode cX0_leastPartly 44 = .ok (.iload 4, 2) := by decide +kernel
theorem dX0_leastPartly_46 : decode cX0_leastPartly 46 = .ok (.istore_n 2, 1) := by decide +kernel
theorem dX0_leastPartly_47 : decode cX0_leastPartly 47 = .ok (.iinc 4 1, 3) := by decide +kernel
theorem dX0_leastPartly_50 : decode cX0_leastPartly 50 = .ok (.goto (-42), 3) := by decide +kernel
theorem dX0_leastPartly_53 : decode cX0_leastPartly 53 = .ok (.iload_n 2, 1) := by decide +kernel
theorem dX0_leastPartly_54 : decode cX0_leastPartly 54 = .ok (.ireturn, 1) := by decide +kernel
theorem dX0_isPartly_0 : decode cX0_isPartly 0 = .ok (.aload_n 0, 1) := by decide +kernel
theorem dX0_isPartly_1 : decode cX0_isPartly 1 = .ok (.getfield 25, 3) := by decide +kernel
theorem dX0_isPartly_4 : decode cX0_isPartly 4 = .ok (.iload_n 1, 1) := by decide +kernel
theorem dX0_isPartly_5 : decode cX0_isPartly 5 = .ok (.iaload, 1) := by decide +kernel
theorem dX0_isPartly_6 : decode cX0_isPartly 6 = .ok (.iload_n 2, 1) := by decide +kernel
theorem dX0_isPartly_7 : decode cX0_isPartly 7 = .ok (.if_icmp .ne 31, 3) := by decide +kernel
theorem dX0_isPartly_10 : decode cX0_isPartly 10 = .ok (.aload_n 0, 1) := by decide +kernel
theorem dX0_isPartly_11 : decode cX0_isPartly 11 = .ok (.getfield 31, 3) := by decide +kernel
theorem dX0_isPartly_14 : decode cX0_isPartly 14 = .ok (.iload_n 1, 1) := by decide +kernel
theorem dX0_isPartly_15 : decode cX0_isPartly 15 = .ok (.iaload, 1) := by decide +kernel
theorem dX0_isPartly_16 : decode cX0_isPartly 16 = .ok (.ifCond .le 22, 3) := by decide +kernel
theorem dX0_isPartly_19 : decode cX0_isPartly 19 = .ok (.aload_n 0, 1) := by decide +kernel
theorem dX0_isPartly_20 : decode cX0_isPartly 20 = .ok (.getfield 31, 3) := by decide +kernel
theorem dX0_isPartly_23 : decode cX0_isPartly 23 = .ok (.iload_n 1, 1) := by decide +kernel
theorem dX0_isPartly_24 : decode cX0_isPartly 24 = .ok (.iaload, 1) := by decide +kernel
theorem dX0_isPartly_25 : decode cX0_isPartly 25 = .ok (.aload_n 0, 1) := by decide +kernel
theorem dX0_isPartly_26 : decode cX0_isPartly 26 = .ok (.getfield 16, 3) := by decide +kernel
theorem dX0_isPartly_29 : decode cX0_isPartly 29 = .ok (.iload_n 2, 1) := by decide +kernel
theorem dX0_isPartly_30 : decode cX0_isPartly 30 = .ok (.iaload, 1) := by decide +kernel
theorem dX0_isPartly_31 : decode cX0_isPartly 31 = .ok (.if_icmp .ge 7, 3) := by decide +kernel
theorem dX0_isPartly_34 : decode cX0_isPartly 34 = .ok (.iconst 1, 1) := by decide +kernel
theorem dX0_isPartly_35 : decode cX0_isPartly 35 = .ok (.goto 4, 3) := by decide +kernel
theorem dX0_isPartly_38 : decode cX0_isPartly 38 = .ok (.iconst 0, 1) := by decide +kernel
theorem dX0_isPartly_39 : decode cX0_isPartly 39 = .ok (.ireturn, 1) := by decide +kernel
theorem dX0_firstEmpty_0 : decode cX0_firstEmpty 0 = .ok (.iconst 0, 1) := by decide +kernel
theorem dX0_firstEmpty_1 : decode cX0_firstEmpty 1 = .ok (.istore_n 2, 1) := by decide +kernel
theorem dX0_firstEmpty_2 : decode cX0_firstEmpty 2 = .ok (.iload_n 2, 1) := by decide +kernel
theorem dX0_firstEmpty_3 : decode cX0_firstEmpty 3 = .ok (.bipush 20, 2) := by decide +kernel
theorem dX0_firstEmpty_5 : decode cX0_firstEmpty 5 = .ok (.if_icmp .ge 30, 3) := by decide +kernel
theorem dX0_firstEmpty_8 : decode cX0_firstEmpty 8 = .ok (.aload_n 0, 1) := by decide +kernel
theorem dX0_firstEmpty_9 : decode cX0_firstEmpty 9 = .ok (.getfield 25, 3) := by decide +kernel
theorem dX0_firstEmpty_12 : decode cX0_firstEmpty 12 = .ok (.iload_n 2, 1) := by decide +kernel
theorem dX0_firstEmpty_13 : decode cX0_firstEmpty 13 = .ok (.iaload, 1) := by decide +kernel
theorem dX0_firstEmpty_14 : decode cX0_firstEmpty 14 = .ok (.iload_n 1, 1) := by decide +kernel
theorem dX0_firstEmpty_15 : decode cX0_firstEmpty 15 = .ok (.if_icmp .ne 14, 3) := by decide +kernel
theorem dX0_firstEmpty_18 : decode cX0_firstEmpty 18 = .ok (.aload_n 0, 1) := by decide +kernel
theorem dX0_firstEmpty_19 : decode cX0_firstEmpty 19 = .ok (.getfield 31, 3) := by decide +kernel
theorem dX0_firstEmpty_22 : decode cX0_firstEmpty 22 = .ok (.iload_n 2, 1) := by decide +kernel
theorem dX0_firstEmpty_23 : decode cX0_firstEmpty 23 = .ok (.iaload, 1) := by decide +kernel
theorem dX0_firstEmpty_24 : decode cX0_firstEmpty 24 = .ok (.ifCond .ne 5, 3) := by decide +kernel
theorem dX0_firstEmpty_27 : decode cX0_firstEmpty 27 = .ok (.iload_n 2, 1) := by decide +kernel
theorem dX0_firstEmpty_28 : decode cX0_firstEmpty 28 = .ok (.ireturn, 1) := by decide +kernel
theorem dX0_firstEmpty_29 : decode cX0_firstEmpty 29 = .ok (.iinc 2 1, 3) := by decide +kernel
theorem dX0_firstEmpty_32 : decode cX0_firstEmpty 32 = .ok (.goto (-30), 3) := by decide +kernel
theorem dX0_firstEmpty_35 : decode cX0_firstEmpty 35 = .ok (.iconst (-1), 1) := by decide +kernel
theorem dX0_firstEmpty_36 : decode cX0_firstEmpty 36 = .ok (.ireturn, 1) := by decide +kernel
theorem dX0_firstBare_0 : decode cX0_firstBare 0 = .ok (.iconst 0, 1) := by decide +kernel
theorem dX0_firstBare_1 : decode cX0_firstBare 1 = .ok (.istore_n 1, 1) := by decide +kernel
theorem dX0_firstBare_2 : decode cX0_firstBare 2 = .ok (.iload_n 1, 1) := by decide +kernel
theorem dX0_firstBare_3 : decode cX0_firstBare 3 = .ok (.bipush 20, 2) := by decide +kernel
theorem dX0_firstBare_5 : decode cX0_firstBare 5 = .ok (.if_icmp .ge 21, 3) := by decide +kernel
theorem dX0_firstBare_8 : decode cX0_firstBare 8 = .ok (.aload_n 0, 1) := by decide +kernel
theorem dX0_firstBare_9 : decode cX0_firstBare 9 = .ok (.getfield 25, 3) := by decide +kernel
theorem dX0_firstBare_12 : decode cX0_firstBare 12 = .ok (.iload_n 1, 1) := by decide +kernel
end
section
theorem dX0_firstBare_13 : decode cX0_firstBare 13 = .ok (.iaload, 1) := by decide +kernel
theorem dX0_firstBare_14 : decode cX0_firstBare 14 = .ok (.iconst (-1), 1) := by decide +kernel
theorem dX0_firstBare_15 : decode cX0_firstBare 15 = .ok (.if_icmp .ne 5, 3) := by decide +kernel
theorem dX0_firstBare_18 : decode cX0_firstBare 18 = .ok (.iload_n 1, 1) := by decide +kernel
theorem dX0_firstBare_19 : decode cX0_firstBare 19 = .ok (.ireturn, 1) := by decide +kernel
theorem dX0_firstBare_20 : decode cX0_firstBare 20 = .ok (.iinc 1 1, 3) := by decide +kernel
theorem dX0_firstBare_23 : decode cX0_firstBare 23 = .ok (.goto (-21), 3) := by decide +kernel
theorem dX0_firstBare_26 : decode cX0_firstBare 26 = .ok (.iconst (-1), 1) := by decide +kernel
theorem dX0_firstBare_27 : decode cX0_firstBare 27 = .ok (.ireturn, 1) := by decide +kernel
theorem dX0_addTray_0 : decode cX0_addTray 0 = .ok (.aload_n 0, 1) := by decide +kernel
theorem dX0_addTray_1 : decode cX0_addTray 1 = .ok (.getfield 25, 3) := by decide +kernel
theorem dX0_addTray_4 : decode cX0_addTray 4 = .ok (.iload_n 1, 1) := by decide +kernel
theorem dX0_addTray_5 : decode cX0_addTray 5 = .ok (.iload_n 2, 1) := by decide +kernel
theorem dX0_addTray_6 : decode cX0_addTray 6 = .ok (.iastore, 1) := by decide +kernel
theorem dX0_addTray_7 : decode cX0_addTray 7 = .ok (.aload_n 0, 1) := by decide +kernel
theorem dX0_addTray_8 : decode cX0_addTray 8 = .ok (.getfield 28, 3) := by decide +kernel
theorem dX0_addTray_11 : decode cX0_addTray 11 = .ok (.iload_n 1, 1) := by decide +kernel
theorem dX0_addTray_12 : decode cX0_addTray 12 = .ok (.aload_n 0, 1) := by decide +kernel
theorem dX0_addTray_13 : decode cX0_addTray 13 = .ok (.getfield 22, 3) := by decide +kernel
theorem dX0_addTray_16 : decode cX0_addTray 16 = .ok (.iload_n 2, 1) := by decide +kernel
theorem dX0_addTray_17 : decode cX0_addTray 17 = .ok (.iaload, 1) := by decide +kernel
theorem dX0_addTray_18 : decode cX0_addTray 18 = .ok (.iastore, 1) := by decide +kernel
theorem dX0_addTray_19 : decode cX0_addTray 19 = .ok (.aload_n 0, 1) := by decide +kernel
theorem dX0_addTray_20 : decode cX0_addTray 20 = .ok (.getfield 22, 3) := by decide +kernel
theorem dX0_addTray_23 : decode cX0_addTray 23 = .ok (.iload_n 2, 1) := by decide +kernel
theorem dX0_addTray_24 : decode cX0_addTray 24 = .ok (.iaload, 1) := by decide +kernel
theorem dX0_addTray_25 : decode cX0_addTray 25 = .ok (.aload_n 0, 1) := by decide +kernel
theorem dX0_addTray_26 : decode cX0_addTray 26 = .ok (.getfield 13, 3) := by decide +kernel
theorem dX0_addTray_29 : decode cX0_addTray 29 = .ok (.iload_n 2, 1) := by decide +kernel
theorem dX0_addTray_30 : decode cX0_addTray 30 = .ok (.iaload, 1) := by decide +kernel
theorem dX0_addTray_31 : decode cX0_addTray 31 = .ok (.iadd, 1) := by decide +kernel
theorem dX0_addTray_32 : decode cX0_addTray 32 = .ok (.istore_n 3, 1) := by decide +kernel
theorem dX0_addTray_33 : decode cX0_addTray 33 = .ok (.aload_n 0, 1) := by decide +kernel
theorem dX0_addTray_34 : decode cX0_addTray 34 = .ok (.getfield 22, 3) := by decide +kernel
theorem dX0_addTray_37 : decode cX0_addTray 37 = .ok (.iload_n 2, 1) := by decide +kernel
theorem dX0_addTray_38 : decode cX0_addTray 38 = .ok (.iload_n 3, 1) := by decide +kernel
theorem dX0_addTray_39 : decode cX0_addTray 39 = .ok (.aload_n 0, 1) := by decide +kernel
theorem dX0_addTray_40 : decode cX0_addTray 40 = .ok (.getfield 19, 3) := by decide +kernel
theorem dX0_addTray_43 : decode cX0_addTray 43 = .ok (.iload_n 2, 1) := by decide +kernel
theorem dX0_addTray_44 : decode cX0_addTray 44 = .ok (.iaload, 1) := by decide +kernel
theorem dX0_addTray_45 : decode cX0_addTray 45 = .ok (.if_icmp .le 7, 3) := by decide +kernel
theorem dX0_addTray_48 : decode cX0_addTray 48 = .ok (.iconst 0, 1) := by decide +kernel
theorem dX0_addTray_49 : decode cX0_addTray 49 = .ok (.goto 4, 3) := by decide +kernel
theorem dX0_addTray_52 : decode cX0_addTray 52 = .ok (.iload_n 3, 1) := by decide +kernel
theorem dX0_addTray_53 : decode cX0_addTray 53 = .ok (.iastore, 1) := by decide +kernel
theorem dX0_addTray_54 : decode cX0_addTray 54 = .ok (.return_, 1) := by decide +kernel
theorem dX0_dropTray_0 : decode cX0_dropTray 0 = .ok (.aload_n 0, 1) := by decide +kernel
theorem dX0_dropTray_1 : decode cX0_dropTray 1 = .ok (.getfield 25, 3) := by decide +kernel
theorem dX0_dropTray_4 : decode cX0_dropTray 4 = .ok (.iload_n 1, 1) := by decide +kernel
theorem dX0_dropTray_5 : decode cX0_dropTray 5 = .ok (.iconst (-1), 1) := by decide +kernel
theorem dX0_dropTray_6 : decode cX0_dropTray 6 = .ok (.iastore, 1) := by decide +kernel
theorem dX0_dropTray_7 : decode cX0_dropTray 7 = .ok (.aload_n 0, 1) := by decide +kernel
theorem dX0_dropTray_8 : decode cX0_dropTray 8 = .ok (.dup, 1) := by decide +kernel
theorem dX0_dropTray_9 : decode cX0_dropTray 9 = .ok (.getfield 146, 3) := by decide +kernel
theorem dX0_dropTray_12 : decode cX0_dropTray 12 = .ok (.iconst 1, 1) := by decide +kernel
theorem dX0_dropTray_13 : decode cX0_dropTray 13 = .ok (.iadd, 1) := by decide +kernel
theorem dX0_dropTray_14 : decode cX0_dropTray 14 = .ok (.putfield 146, 3) := by decide +kernel
theorem dX0_dropTray_17 : decode cX0_dropTray 17 = .ok (.return_, 1) := by decide +kernel
set_option maxRecDepth 20000 in
theorem ggX0_layIn_X0_cellsAt : GoodIn wsX0_layIn wsX0_cellsAt := goodIn_r _ [9, 10, 11, 12, 13, 14, 15, 16, 17, 18, 19, 20, 21, 22, 23, 24, 25, 26, 27] (by decide +kernel) (by decide +kernel)
set_option maxRecDepth 20000 in
theorem gX0_layIn_X0_cellsAt : GoodIn wsX0_layIn (wsV RX0 118 RX0 yX0_cellsAt wsX0_cellsAt) := goodIn_app (goodIn_of _ (by decide +kernel)) ggX0_layIn_X0_cellsAt
theorem dX0_layIn_0 : decode cX0_layIn 0 = .ok (.aload_n 0, 1) := by decide +kernel
theorem dX0_layIn_1 : decode cX0_layIn 1 = .ok (.iload_n 2, 1) := by decide +kernel
theorem dX0_layIn_2 : decode cX0_layIn 2 = .ok (.invokevirtual 118, 3) := by decide +kernel
theorem dX0_layIn_5 : decode cX0_layIn 5 = .ok (.istore_n 3, 1) := by decide +kernel
theorem dX0_layIn_6 : decode cX0_layIn 6 = .ok (.iconst 0, 1) := by decide +kernel
theorem dX0_layIn_7 : decode cX0_layIn 7 = .ok (.istore 4, 2) := by decide +kernel
theorem dX0_layIn_9 : decode cX0_layIn 9 = .ok (.iload 4, 2) := by decide +kernel
theorem dX0_layIn_11 : decode cX0_layIn 11 = .ok (.iload_n 3, 1) := by decide +kernel
theorem dX0_layIn_12 : decode cX0_layIn 12 = .ok (.if_icmp .ge 64, 3) := by decide +kernel
theorem dX0_layIn_15 : decode cX0_layIn 15 = .ok (.aload_n 0, 1) := by decide +kernel
theorem dX0_layIn_16 : decode cX0_layIn 16 = .ok (.getfield 34, 3) := by decide +kernel
theorem dX0_layIn_19 : decode cX0_layIn 19 = .ok (.iload_n 2, 1) := by decide +kernel
theorem dX0_layIn_20 : decode cX0_layIn 20 = .ok (.bipush 64, 2) := by decide +kernel
theorem dX0_layIn_22 : decode cX0_layIn 22 = .ok (.imul, 1) := by decide +kernel
theorem dX0_layIn_23 : decode cX0_layIn 23 = .ok (.iload 4, 2) := by decide +kernel
theorem dX0_layIn_25 : decode cX0_layIn 25 = .ok (.iadd, 1) := by decide +kernel
theorem dX0_layIn_26 : decode cX0_layIn 26 = .ok (.iaload, 1) := by decide +kernel
theorem dX0_layIn_27 : decode cX0_layIn 27 = .ok (.iconst (-1), 1) := by decide +kernel
theorem dX0_layIn_28 : decode cX0_layIn 28 = .ok (.if_icmp .ne 42, 3) := by decide +kernel
theorem dX0_layIn_31 : decode cX0_layIn 31 = .ok (.aload_n 0, 1) := by decide +kernel
theorem dX0_layIn_32 : decode cX0_layIn 32 = .ok (.getfield 34, 3) := by decide +kernel
theorem dX0_layIn_35 : decode cX0_layIn 35 = .ok (.iload_n 2, 1) := by decide +kernel
theorem dX0_layIn_36 : decode cX0_layIn 36 = .ok (.bipush 64, 2) := by decide +kernel
theorem dX0_layIn_38 : decode cX0_layIn 38 = .ok (.imul, 1) := by decide +kernel
theorem dX0_layIn_39 : decode cX0_layIn 39 = .ok (.iload 4, 2) := by decide +kernel
theorem dX0_layIn_41 : decode cX0_layIn 41 = .ok (.iadd, 1) := by decide +kernel
theorem dX0_layIn_42 : decode cX0_layIn 42 = .ok (.iload_n 1, 1) := by decide +kernel
theorem dX0_layIn_43 : decode cX0_layIn 43 = .ok (.iastore, 1) := by decide +kernel
theorem dX0_layIn_44 : decode cX0_layIn 44 = .ok (.aload_n 0, 1) := by decide +kernel
theorem dX0_layIn_45 : decode cX0_layIn 45 = .ok (.getfield 31, 3) := by decide +kernel
theorem dX0_layIn_48 : decode cX0_layIn 48 = .ok (.iload_n 2, 1) := by decide +kernel
theorem dX0_layIn_49 : decode cX0_layIn 49 = .ok (.dup2, 1) := by decide +kernel
theorem dX0_layIn_50 : decode cX0_layIn 50 = .ok (.iaload, 1) := by decide +kernel
theorem dX0_layIn_51 : decode cX0_layIn 51 = .ok (.iconst 1, 1) := by decide +kernel
theorem dX0_layIn_52 : decode cX0_layIn 52 = .ok (.iadd, 1) := by decide +kernel
theorem dX0_layIn_53 : decode cX0_layIn 53 = .ok (.iastore, 1) := by decide +kernel
theorem dX0_layIn_54 : decode cX0_layIn 54 = .ok (.aload_n 0, 1) := by decide +kernel
theorem dX0_layIn_55 : decode cX0_layIn 55 = .ok (.getfield 40, 3) := by decide +kernel
theorem dX0_layIn_58 : decode cX0_layIn 58 = .ok (.iload_n 1, 1) := by decide +kernel
theorem dX0_layIn_59 : decode cX0_layIn 59 = .ok (.iload_n 2, 1) := by decide +kernel
theorem dX0_layIn_60 : decode cX0_layIn 60 = .ok (.iastore, 1) := by decide +kernel
theorem dX0_layIn_61 : decode cX0_layIn 61 = .ok (.aload_n 0, 1) := by decide +kernel
theorem dX0_layIn_62 : decode cX0_layIn 62 = .ok (.getfield 43, 3) := by decide +kernel
theorem dX0_layIn_65 : decode cX0_layIn 65 = .ok (.iload_n 1, 1) := by decide +kernel
theorem dX0_layIn_66 : decode cX0_layIn 66 = .ok (.iload 4, 2) := by decide +kernel
theorem dX0_layIn_68 : decode cX0_layIn 68 = .ok (.iastore, 1) := by decide +kernel
theorem dX0_layIn_69 : decode cX0_layIn 69 = .ok (.return_, 1) := by decide +kernel
theorem dX0_layIn_70 : decode cX0_layIn 70 = .ok (.iinc 4 1, 3) := by decide +kernel
theorem dX0_layIn_73 : decode cX0_layIn 73 = .ok (.goto (-64), 3) := by decide +kernel
theorem dX0_layIn_76 : decode cX0_layIn 76 = .ok (.return_, 1) := by decide +kernel
theorem dX0_liftOut_0 : decode cX0_liftOut 0 = .ok (.aload_n 0, 1) := by decide +kernel
theorem dX0_liftOut_1 : decode cX0_liftOut 1 = .ok (.getfield 40, 3) := by decide +kernel
theorem dX0_liftOut_4 : decode cX0_liftOut 4 = .ok (.iload_n 1, 1) := by decide +kernel
theorem dX0_liftOut_5 : decode cX0_liftOut 5 = .ok (.iaload, 1) := by decide +kernel
theorem dX0_liftOut_6 : decode cX0_liftOut 6 = .ok (.istore_n 2, 1) := by decide +kernel
theorem dX0_liftOut_7 : decode cX0_liftOut 7 = .ok (.aload_n 0, 1) := by decide +kernel
theorem dX0_liftOut_8 : decode cX0_liftOut 8 = .ok (.getfield 34, 3) := by decide +kernel
theorem dX0_liftOut_11 : decode cX0_liftOut 11 = .ok (.iload_n 2, 1) := by decide +kernel
theorem dX0_liftOut_12 : decode cX0_liftOut 12 = .ok (.bipush 64, 2) := by decide +kernel
theorem dX0_liftOut_14 : decode cX0_liftOut 14 = .ok (.imul, 1) := by decide +kernel
theorem dX0_liftOut_15 : decode cX0_liftOut 15 = .ok (.aload_n 0, 1) := by decide +kernel
theorem dX0_liftOut_16 : decode cX0_liftOut 16 = .ok (.getfield 43, 3) := by decide +kernel
theorem dX0_liftOut_19 : decode cX0_liftOut 19 = .ok (.iload_n 1, 1) := by decide +kernel
theorem dX0_liftOut_20 : decode cX0_liftOut 20 = .ok (.iaload, 1) := by decide +kernel
theorem dX0_liftOut_21 : decode cX0_liftOut 21 = .ok (.iadd, 1) := by decide +kernel
theorem dX0_liftOut_22 : decode cX0_liftOut 22 = .ok (.iconst (-1), 1) := by decide +kernel
theorem dX0_liftOut_23 : decode cX0_liftOut 23 = .ok (.iastore, 1) := by decide +kernel
theorem dX0_liftOut_24 : decode cX0_liftOut 24 = .ok (.aload_n 0, 1) := by decide +kernel
theorem dX0_liftOut_25 : decode cX0_liftOut 25 = .ok (.getfield 31, 3) := by decide +kernel
theorem dX0_liftOut_28 : decode cX0_liftOut 28 = .ok (.iload_n 2, 1) := by decide +kernel
theorem dX0_liftOut_29 : decode cX0_liftOut 29 = .ok (.dup2, 1) := by decide +kernel
theorem dX0_liftOut_30 : decode cX0_liftOut 30 = .ok (.iaload, 1) := by decide +kernel
theorem dX0_liftOut_31 : decode cX0_liftOut 31 = .ok (.iconst 1, 1) := by decide +kernel
theorem dX0_liftOut_32 : decode cX0_liftOut 32 = .ok (.isub, 1) := by decide +kernel
theorem dX0_liftOut_33 : decode cX0_liftOut 33 = .ok (.iastore, 1) := by decide +kernel
theorem dX0_liftOut_34 : decode cX0_liftOut 34 = .ok (.aload_n 0, 1) := by decide +kernel
theorem dX0_liftOut_35 : decode cX0_liftOut 35 = .ok (.getfield 40, 3) := by decide +kernel
theorem dX0_liftOut_38 : decode cX0_liftOut 38 = .ok (.iload_n 1, 1) := by decide +kernel
theorem dX0_liftOut_39 : decode cX0_liftOut 39 = .ok (.iconst (-1), 1) := by decide +kernel
theorem dX0_liftOut_40 : decode cX0_liftOut 40 = .ok (.iastore, 1) := by decide +kernel
theorem dX0_liftOut_41 : decode cX0_liftOut 41 = .ok (.return_, 1) := by decide +kernel
set_option maxRecDepth 20000 in
theorem ggX0_moveLast_X0_cellsAt : GoodIn wsX0_moveLast wsX0_cellsAt := goodIn_r _ [6, 7, 8, 20, 21, 22, 23, 24, 25, 26, 27, 28, 29, 30, 31, 32, 33, 34, 35] (by decide +kernel) (by decide +kernel)
set_option maxRecDepth 20000 in
theorem gX0_moveLast_X0_cellsAt : GoodIn wsX0_moveLast (wsV RX0 118 RX0 yX0_cellsAt wsX0_cellsAt) := goodIn_app (goodIn_of _ (by decide +kernel)) ggX0_moveLast_X0_cellsAt
set_option maxRecDepth 20000 in
theorem ggX0_moveLast_X0_liftOut : GoodIn wsX0_moveLast wsX0_liftOut := goodIn_r _ [12, 13, 1, 14, 15, 20, 21, 22, 23, 24, 25, 26, 27, 28, 29, 30, 31, 32, 33, 34, 35] (by decide +kernel) (by decide +kernel)
set_option maxRecDepth 20000 in
theorem gX0_moveLast_X0_liftOut : GoodIn wsX0_moveLast (wsV RX0 94 RX0 yX0_liftOut wsX0_liftOut) := goodIn_app (goodIn_of _ (by decide +kernel)) ggX0_moveLast_X0_liftOut
set_option maxRecDepth 20000 in
theorem ggX0_moveLast_X0_layIn : GoodIn wsX0_moveLast wsX0_layIn := goodIn_r _ [19, 1, 15, 13, 14, 2, 3, 4, 5, 6, 7, 8, 20, 21, 22, 23, 24, 25, 26, 27, 28, 29, 30, 31, 32, 33, 34, 35] (by decide +kernel) (by decide +kernel)
set_option maxRecDepth 20000 in
theorem gX0_moveLast_X0_layIn : GoodIn wsX0_moveLast (wsV RX0 83 RX0 yX0_layIn wsX0_layIn) := goodIn_app (goodIn_of _ (by decide +kernel)) ggX0_moveLast_X0_layIn
theorem dX0_moveLast_0 : decode cX0_moveLast 0 = .ok (.aload_n 0, 1) := by decide +kernel
theorem dX0_moveLast_1 : decode cX0_moveLast 1 = .ok (.iload_n 1, 1) := by decide +kernel
theorem dX0_moveLast_2 : decode cX0_moveLast 2 = .ok (.invokevirtual 118, 3) := by decide +kernel
theorem dX0_moveLast_5 : decode cX0_moveLast 5 = .ok (.iconst 1, 1) := by decide +kernel
theorem dX0_moveLast_6 : decode cX0_moveLast 6 = .ok (.isub, 1) := by decide +kernel
theorem dX0_moveLast_7 : decode cX0_moveLast 7 = .ok (.istore_n 3, 1) := by decide +kernel
theorem dX0_moveLast_8 : decode cX0_moveLast 8 = .ok (.iload_n 3, 1) := by decide +kernel
theorem dX0_moveLast_9 : decode cX0_moveLast 9 = .ok (.ifCond .lt 42, 3) := by decide +kernel
theorem dX0_moveLast_12 : decode cX0_moveLast 12 = .ok (.aload_n 0, 1) := by decide +kernel
theorem dX0_moveLast_13 : decode cX0_moveLast 13 = .ok (.getfield 34, 3) := by decide +kernel
theorem dX0_moveLast_16 : decode cX0_moveLast 16 = .ok (.iload_n 1, 1) := by decide +kernel
theorem dX0_moveLast_17 : decode cX0_moveLast 17 = .ok (.bipush 64, 2) := by decide +kernel
theorem dX0_moveLast_19 : decode cX0_moveLast 19 = .ok (.imul, 1) := by decide +kernel
theorem dX0_moveLast_20 : decode cX0_moveLast 20 = .ok (.iload_n 3, 1) := by decide +kernel
theorem dX0_moveLast_21 : decode cX0_moveLast 21 = .ok (.iadd, 1) := by decide +kernel
theorem dX0_moveLast_22 : decode cX0_moveLast 22 = .ok (.iaload, 1) := by decide +kernel
theorem dX0_moveLast_23 : decode cX0_moveLast 23 = .ok (.istore 4, 2) := by decide +kernel
theorem dX0_moveLast_25 : decode cX0_moveLast 25 = .ok (.iload 4, 2) := by decide +kernel
theorem dX0_moveLast_27 : decode cX0_moveLast 27 = .ok (.iconst (-1), 1) := by decide +kernel
theorem dX0_moveLast_28 : decode cX0_moveLast 28 = .ok (.if_icmp .eq 17, 3) := by decide +kernel
theorem dX0_moveLast_31 : decode cX0_moveLast 31 = .ok (.aload_n 0, 1) := by decide +kernel
theorem dX0_moveLast_32 : decode cX0_moveLast 32 = .ok (.iload 4, 2) := by decide +kernel
theorem dX0_moveLast_34 : decode cX0_moveLast 34 = .ok (.invokevirtual 94, 3) := by decide +kernel
theorem dX0_moveLast_37 : decode cX0_moveLast 37 = .ok (.aload_n 0, 1) := by decide +kernel
theorem dX0_moveLast_38 : decode cX0_moveLast 38 = .ok (.iload 4, 2) := by decide +kernel
theorem dX0_moveLast_40 : decode cX0_moveLast 40 = .ok (.iload_n 2, 1) := by decide +kernel
theorem dX0_moveLast_41 : decode cX0_moveLast 41 = .ok (.invokevirtual 83, 3) := by decide +kernel
theorem dX0_moveLast_44 : decode cX0_moveLast 44 = .ok (.return_, 1) := by decide +kernel
theorem dX0_moveLast_45 : decode cX0_moveLast 45 = .ok (.iinc 3 (-1), 3) := by decide +kernel
theorem dX0_moveLast_48 : decode cX0_moveLast 48 = .ok (.goto (-40), 3) := by decide +kernel
theorem dX0_moveLast_51 : decode cX0_moveLast 51 = .ok (.return_, 1) := by decide +kernel
theorem dX0_cellsAt_0 : decode cX0_cellsAt 0 = .ok (.aload_n 0, 1) := by decide +kernel
theorem dX0_cellsAt_1 : decode cX0_cellsAt 1 = .ok (.getfield 25, 3) := by decide +kernel
theorem dX0_cellsAt_4 : decode cX0_cellsAt 4 = .ok (.iload_n 1, 1) := by decide +kernel
theorem dX0_cellsAt_5 : decode cX0_cellsAt 5 = .ok (.iaload, 1) := by decide +kernel
theorem dX0_cellsAt_6 : decode cX0_cellsAt 6 = .ok (.istore_n 2, 1) := by decide +kernel
theorem dX0_cellsAt_7 : decode cX0_cellsAt 7 = .ok (.iload_n 2, 1) := by decide +kernel
theorem dX0_cellsAt_8 : decode cX0_cellsAt 8 = .ok (.iconst (-1), 1) := by decide +kernel
theorem dX0_cellsAt_9 : decode cX0_cellsAt 9 = .ok (.if_icmp .ne 7, 3) := by decide +kernel
theorem dX0_cellsAt_12 : decode cX0_cellsAt 12 = .ok (.iconst 0, 1) := by decide +kernel
theorem dX0_cellsAt_13 : decode cX0_cellsAt 13 = .ok (.goto 9, 3) := by decide +kernel
theorem dX0_cellsAt_16 : decode cX0_cellsAt 16 = .ok (.aload_n 0, 1) := by decide +kernel
theorem dX0_cellsAt_17 : decode cX0_cellsAt 17 = .ok (.getfield 16, 3) := by decide +kernel
theorem dX0_cellsAt_20 : decode cX0_cellsAt 20 = .ok (.iload_n 2, 1) := by decide +kernel
theorem dX0_cellsAt_21 : decode cX0_cellsAt 21 = .ok (.iaload, 1) := by decide +kernel
theorem dX0_cellsAt_22 : decode cX0_cellsAt 22 = .ok (.ireturn, 1) := by decide +kernel
theorem dX0_traysOf_0 : decode cX0_traysOf 0 = .ok (.iconst 0, 1) := by decide +kernel
theorem dX0_traysOf_1 : decode cX0_traysOf 1 = .ok (.istore_n 2, 1) := by decide +kernel
theorem dX0_traysOf_2 : decode cX0_traysOf 2 = .ok (.iconst 0, 1) := by decide +kernel
theorem dX0_traysOf_3 : decode cX0_traysOf 3 = .ok (.istore_n 3, 1) := by decide +kernel
theorem dX0_traysOf_4 : decode cX0_traysOf 4 = .ok (.iload_n 3, 1) := by decide +kernel
theorem dX0_traysOf_5 : decode cX0_traysOf 5 = .ok (.bipush 20, 2) := by decide +kernel
theorem dX0_traysOf_7 : decode cX0_traysOf 7 = .ok (.if_icmp .ge 22, 3) := by decide +kernel
theorem dX0_traysOf_10 : decode cX0_traysOf 10 = .ok (.aload_n 0, 1) := by decide +kernel
theorem dX0_traysOf_11 : decode cX0_traysOf 11 = .ok (.getfield 25, 3) := by decide +kernel
theorem dX0_traysOf_14 : decode cX0_traysOf 14 = .ok (.iload_n 3, 1) := by decide +kernel
theorem dX0_traysOf_15 : decode cX0_traysOf 15 = .ok (.iaload, 1) := by decide +kernel
theorem dX0_traysOf_16 : decode cX0_traysOf 16 = .ok (.iload_n 1, 1) := by decide +kernel
theorem dX0_traysOf_17 : decode cX0_traysOf 17 = .ok (.if_icmp .ne 6, 3) := by decide +kernel
theorem dX0_traysOf_20 : decode cX0_traysOf 20 = .ok (.iinc 2 1, 3) := by decide +kernel
theorem dX0_traysOf_23 : decode cX0_traysOf 23 = .ok (.iinc 3 1, 3) := by decide +kernel
theorem dX0_traysOf_26 : decode cX0_traysOf 26 = .ok (.goto (-22), 3) := by decide +kernel
theorem dX0_traysOf_29 : decode cX0_traysOf 29 = .ok (.iload_n 2, 1) := by decide +kernel
theorem dX0_traysOf_30 : decode cX0_traysOf 30 = .ok (.ireturn, 1) := by decide +kernel
theorem dX0_traysHolding_0 : decode cX0_traysHolding 0 = .ok (.iconst 0, 1) := by decide +kernel
theorem dX0_traysHolding_1 : decode cX0_traysHolding 1 = .ok (.istore_n 3, 1) := by decide +kernel
theorem dX0_traysHolding_2 : decode cX0_traysHolding 2 = .ok (.iconst 0, 1) := by decide +kernel
theorem dX0_traysHolding_3 : decode cX0_traysHolding 3 = .ok (.istore 4, 2) := by decide +kernel
theorem dX0_traysHolding_5 : decode cX0_traysHolding 5 = .ok (.iload 4, 2) := by decide +kernel
theorem dX0_traysHolding_7 : decode cX0_traysHolding 7 = .ok (.bipush 20, 2) := by decide +kernel
theorem dX0_traysHolding_9 : decode cX0_traysHolding 9 = .ok (.if_icmp .ge 34, 3) := by decide +kernel
theorem dX0_traysHolding_12 : decode cX0_traysHolding 12 = .ok (.aload_n 0, 1) := by decide +kernel
theorem dX0_traysHolding_13 : decode cX0_traysHolding 13 = .ok (.getfield 25, 3) := by decide +kernel
theorem dX0_traysHolding_16 : decode cX0_traysHolding 16 = .ok (.iload 4, 2) := by decide +kernel
theorem dX0_traysHolding_18 : decode cX0_traysHolding 18 = .ok (.iaload, 1) := by decide +kernel
theorem dX0_traysHolding_19 : decode cX0_traysHolding 19 = .ok (.iload_n 1, 1) := by decide +kernel
theorem dX0_traysHolding_20 : decode cX0_traysHolding 20 = .ok (.if_icmp .ne 17, 3) := by decide +kernel
theorem dX0_traysHolding_23 : decode cX0_traysHolding 23 = .ok (.aload_n 0, 1) := by decide +kernel
theorem dX0_traysHolding_24 : decode cX0_traysHolding 24 = .ok (.getfield 31, 3) := by decide +kernel
theorem dX0_traysHolding_27 : decode cX0_traysHolding 27 = .ok (.iload 4, 2) := by decide +kernel
theorem dX0_traysHolding_29 : decode cX0_traysHolding 29 = .ok (.iaload, 1) := by decide +kernel
theorem dX0_traysHolding_30 : decode cX0_traysHolding 30 = .ok (.iload_n 2, 1) := by decide +kernel
theorem dX0_traysHolding_31 : decode cX0_traysHolding 31 = .ok (.if_icmp .ne 6, 3) := by decide +kernel
theorem dX0_traysHolding_34 : decode cX0_traysHolding 34 = .ok (.iinc 3 1, 3) := by decide +kernel
theorem dX0_traysHolding_37 : decode cX0_traysHolding 37 = .ok (.iinc 4 1, 3) := by decide +kernel
theorem dX0_traysHolding_40 : decode cX0_traysHolding 40 = .ok (.goto (-35), 3) := by decide +kernel
theorem dX0_traysHolding_43 : decode cX0_traysHolding 43 = .ok (.iload_n 3, 1) := by decide +kernel
theorem dX0_traysHolding_44 : decode cX0_traysHolding 44 = .ok (.ireturn, 1) := by decide +kernel
theorem dX0_thingsOf_0 : decode cX0_thingsOf 0 = .ok (.iconst 0, 1) := by decide +kernel
theorem dX0_thingsOf_1 : decode cX0_thingsOf 1 = .ok (.istore_n 2, 1) := by decide +kernel
theorem dX0_thingsOf_2 : decode cX0_thingsOf 2 = .ok (.iconst 0, 1) := by decide +kernel
theorem dX0_thingsOf_3 : decode cX0_thingsOf 3 = .ok (.istore_n 3, 1) := by decide +kernel
theorem dX0_thingsOf_4 : decode cX0_thingsOf 4 = .ok (.iload_n 3, 1) := by decide +kernel
theorem dX0_thingsOf_5 : decode cX0_thingsOf 5 = .ok (.bipush 20, 2) := by decide +kernel
theorem dX0_thingsOf_7 : decode cX0_thingsOf 7 = .ok (.if_icmp .ge 28, 3) := by decide +kernel
theorem dX0_thingsOf_10 : decode cX0_thingsOf 10 = .ok (.aload_n 0, 1) := by decide +kernel
theorem dX0_thingsOf_11 : decode cX0_thingsOf 11 = .ok (.getfield 25, 3) := by decide +kernel
theorem dX0_thingsOf_14 : decode cX0_thingsOf 14 = .ok (.iload_n 3, 1) := by decide +kernel
theorem dX0_thingsOf_15 : decode cX0_thingsOf 15 = .ok (.iaload, 1) := by decide +kernel
theorem dX0_thingsOf_16 : decode cX0_thingsOf 16 = .ok (.iload_n 1, 1) := by decide +kernel
theorem dX0_thingsOf_17 : decode cX0_thingsOf 17 = .ok (.if_icmp .ne 12, 3) := by decide +kernel
theorem dX0_thingsOf_20 : decode cX0_thingsOf 20 = .ok (.iload_n 2, 1) := by decide +kernel
theorem dX0_thingsOf_21 : decode cX0_thingsOf 21 = .ok (.aload_n 0, 1) := by decide +kernel
theorem dX0_thingsOf_22 : decode cX0_thingsOf 22 = .ok (.getfield 31, 3) := by decide +kernel
theorem dX0_thingsOf_25 : decode cX0_thingsOf 25 = .ok (.iload_n 3, 1) := by decide +kernel
theorem dX0_thingsOf_26 : decode cX0_thingsOf 26 = .ok (.iaload, 1) := by decide +kernel
theorem dX0_thingsOf_27 : decode cX0_thingsOf 27 = .ok (.iadd, 1) := by decide +kernel
theorem dX0_thingsOf_28 : decode cX0_thingsOf 28 = .ok (.istore_n 2, 1) := by decide +kernel
theorem dX0_thingsOf_29 : decode cX0_thingsOf 29 = .ok (.iinc 3 1, 3) := by decide +kernel
theorem dX0_thingsOf_32 : decode cX0_thingsOf 32 = .ok (.goto (-28), 3) := by decide +kernel
theorem dX0_thingsOf_35 : decode cX0_thingsOf 35 = .ok (.iload_n 2, 1) := by decide +kernel
theorem dX0_thingsOf_36 : decode cX0_thingsOf 36 = .ok (.ireturn, 1) := by decide +kernel
set_option maxRecDepth 20000 in
theorem ggX0_freeCellsOf_X0_traysOf : GoodIn wsX0_freeCellsOf wsX0_traysOf := goodIn_r _ [6, 7, 13, 14, 15, 16, 17, 18, 19, 20, 21, 22, 23, 24, 25, 26, 27, 28] (by decide +kernel) (by decide +kernel)
set_option maxRecDepth 20000 in
theorem gX0_freeCellsOf_X0_traysOf : GoodIn wsX0_freeCellsOf (wsV RX0 126 RX0 yX0_traysOf wsX0_traysOf) := goodIn_app (goodIn_of _ (by decide +kernel)) ggX0_freeCellsOf_X0_traysOf
set_option maxRecDepth 20000 in
theorem ggX0_freeCellsOf_X0_thingsOf : GoodIn wsX0_freeCellsOf wsX0_thingsOf := goodIn_r _ [11, 7, 12, 13, 14, 15, 16, 17, 18, 19, 20, 21, 22, 23, 24, 25, 26, 27, 28] (by decide +kernel) (by decide +kernel)
set_option maxRecDepth 20000 in
theorem gX0_freeCellsOf_X0_thingsOf : GoodIn wsX0_freeCellsOf (wsV RX0 133 RX0 yX0_thingsOf wsX0_thingsOf) := goodIn_app (goodIn_of _ (by decide +kernel)) ggX0_freeCellsOf_X0_thingsOf
theorem dX0_freeCellsOf_0 : decode cX0_freeCellsOf 0 = .ok (.aload_n 0, 1) := by decide +kernel
theorem dX0_freeCellsOf_1 : decode cX0_freeCellsOf 1 = .ok (.iload_n 1, 1) := by decide +kernel
theorem dX0_freeCellsOf_2 : decode cX0_freeCellsOf 2 = .ok (.invokevirtual 126, 3) := by decide +kernel
theorem dX0_freeCellsOf_5 : decode cX0_freeCellsOf 5 = .ok (.aload_n 0, 1) := by decide +kernel
theorem dX0_freeCellsOf_6 : decode cX0_freeCellsOf 6 = .ok (.getfield 16, 3) := by decide +kernel
theorem dX0_freeCellsOf_9 : decode cX0_freeCellsOf 9 = .ok (.iload_n 1, 1) := by decide +kernel
theorem dX0_freeCellsOf_10 : decode cX0_freeCellsOf 10 = .ok (.iaload, 1) := by decide +kernel
theorem dX0_freeCellsOf_11 : decode cX0_freeCellsOf 11 = .ok (.imul, 1) := by decide +kernel
theorem dX0_freeCellsOf_12 : decode cX0_freeCellsOf 12 = .ok (.aload_n 0, 1) := by decide +kernel
theorem dX0_freeCellsOf_13 : decode cX0_freeCellsOf 13 = .ok (.iload_n 1, 1) := by decide +kernel
theorem dX0_freeCellsOf_14 : decode cX0_freeCellsOf 14 = .ok (.invokevirtual 133, 3) := by decide +kernel
theorem dX0_freeCellsOf_17 : decode cX0_freeCellsOf 17 = .ok (.isub, 1) := by decide +kernel
theorem dX0_freeCellsOf_18 : decode cX0_freeCellsOf 18 = .ok (.ireturn, 1) := by decide +kernel
set_option maxRecDepth 20000 in
theorem ggX0_wastedBy_X0_traysOf : GoodIn wsX0_wastedBy wsX0_traysOf := goodIn_r _ [6, 7, 13, 14, 15, 16, 17, 18, 19, 20, 21, 22, 23, 24, 25, 26, 27, 28] (by decide +kernel) (by decide +kernel)
set_option maxRecDepth 20000 in
theorem gX0_wastedBy_X0_traysOf : GoodIn wsX0_wastedBy (wsV RX0 126 RX0 yX0_traysOf wsX0_traysOf) := goodIn_app (goodIn_of _ (by decide +kernel)) ggX0_wastedBy_X0_traysOf
set_option maxRecDepth 20000 in
theorem ggX0_wastedBy_X0_thingsOf : GoodIn wsX0_wastedBy wsX0_thingsOf := goodIn_r _ [11, 7, 12, 13, 14, 15, 16, 17, 18, 19, 20, 21, 22, 23, 24, 25, 26, 27, 28] (by decide +kernel) (by decide +kernel)
set_option maxRecDepth 20000 in
theorem gX0_wastedBy_X0_thingsOf : GoodIn wsX0_wastedBy (wsV RX0 133 RX0 yX0_thingsOf wsX0_thingsOf) := goodIn_app (goodIn_of _ (by decide +kernel)) ggX0_wastedBy_X0_thingsOf
theorem dX0_wastedBy_0 : decode cX0_wastedBy 0 = .ok (.aload_n 0, 1) := by decide +kernel
theorem dX0_wastedBy_1 : decode cX0_wastedBy 1 = .ok (.iload_n 1, 1) := by decide +kernel
theorem dX0_wastedBy_2 : decode cX0_wastedBy 2 = .ok (.invokevirtual 126, 3) := by decide +kernel
theorem dX0_wastedBy_5 : decode cX0_wastedBy 5 = .ok (.bipush 64, 2) := by decide +kernel
theorem dX0_wastedBy_7 : decode cX0_wastedBy 7 = .ok (.imul, 1) := by decide +kernel
theorem dX0_wastedBy_8 : decode cX0_wastedBy 8 = .ok (.aload_n 0, 1) := by decide +kernel
theorem dX0_wastedBy_9 : decode cX0_wastedBy 9 = .ok (.iload_n 1, 1) := by decide +kernel
theorem dX0_wastedBy_10 : decode cX0_wastedBy 10 = .ok (.invokevirtual 133, 3) := by decide +kernel
theorem dX0_wastedBy_13 : decode cX0_wastedBy 13 = .ok (.aload_n 0, 1) := by decide +kernel
theorem dX0_wastedBy_14 : decode cX0_wastedBy 14 = .ok (.getfield 9, 3) := by decide +kernel
theorem dX0_wastedBy_17 : decode cX0_wastedBy 17 = .ok (.iload_n 1, 1) := by decide +kernel
theorem dX0_wastedBy_18 : decode cX0_wastedBy 18 = .ok (.iaload, 1) := by decide +kernel
theorem dX0_wastedBy_19 : decode cX0_wastedBy 19 = .ok (.imul, 1) := by decide +kernel
theorem dX0_wastedBy_20 : decode cX0_wastedBy 20 = .ok (.isub, 1) := by decide +kernel
theorem dX0_wastedBy_21 : decode cX0_wastedBy 21 = .ok (.ireturn, 1) := by decide +kernel
set_option maxRecDepth 20000 in
theorem ggX0_thingsThere_X0_thingsOf : GoodIn wsX0_thingsThere wsX0_thingsOf := goodIn_r _ [6, 7, 8, 9, 10, 11, 12, 13, 14, 15, 16, 17, 18, 19, 20, 21, 22, 23, 24] (by decide +kernel) (by decide +kernel)
set_option maxRecDepth 20000 in
theorem gX0_thingsThere_X0_thingsOf : GoodIn wsX0_thingsThere (wsV RX0 133 RX0 yX0_thingsOf wsX0_thingsOf) := goodIn_app (goodIn_of _ (by decide +kernel)) ggX0_thingsThere_X0_thingsOf
theorem dX0_thingsThere_0 : decode cX0_thingsThere 0 = .ok (.iconst 0, 1) := by decide +kernel
theorem dX0_thingsThere_1 : decode cX0_thingsThere 1 = .ok (.istore_n 1, 1) := by decide +kernel
theorem dX0_thingsThere_2 : decode cX0_thingsThere 2 = .ok (.iconst 0, 1) := by decide +kernel
theorem dX0_thingsThere_3 : decode cX0_thingsThere 3 = .ok (.istore_n 2, 1) := by decide +kernel
theorem dX0_thingsThere_4 : decode cX0_thingsThere 4 = .ok (.iload_n 2, 1) := by decide +kernel
theorem dX0_thingsThere_5 : decode cX0_thingsThere 5 = .ok (.aload_n 0, 1) := by decide +kernel
theorem dX0_thingsThere_6 : decode cX0_thingsThere 6 = .ok (.getfield 55, 3) := by decide +kernel
theorem dX0_thingsThere_9 : decode cX0_thingsThere 9 = .ok (.if_icmp .ge 17, 3) := by decide +kernel
theorem dX0_thingsThere_12 : decode cX0_thingsThere 12 = .ok (.iload_n 1, 1) := by decide +kernel
theorem dX0_thingsThere_13 : decode cX0_thingsThere 13 = .ok (.aload_n 0, 1) := by decide +kernel
theorem dX0_thingsThere_14 : decode cX0_thingsThere 14 = .ok (.iload_n 2, 1) := by decide +kernel
theorem dX0_thingsThere_15 : decode cX0_thingsThere 15 = .ok (.invokevirtual 133, 3) := by decide +kernel
theorem dX0_thingsThere_18 : decode cX0_thingsThere 18 = .ok (.iadd, 1) := by decide +kernel
theorem dX0_thingsThere_19 : decode cX0_thingsThere 19 = .ok (.istore_n 1, 1) := by decide +kernel
theorem dX0_thingsThere_20 : decode cX0_thingsThere 20 = .ok (.iinc 2 1, 3) := by decide +kernel
theorem dX0_thingsThere_23 : decode cX0_thingsThere 23 = .ok (.goto (-19), 3) := by decide +kernel
theorem dX0_thingsThere_26 : decode cX0_thingsThere 26 = .ok (.iload_n 1, 1) := by decide +kernel
theorem dX0_thingsThere_27 : decode cX0_thingsThere 27 = .ok (.ireturn, 1) := by decide +kernel
set_option maxRecDepth 20000 in
theorem ggX0_wastedInAll_X0_wastedBy : GoodIn wsX0_wastedInAll wsX0_wastedBy := goodIn_r _ [6, 7, 8, 9, 10, 5, 11, 12, 13, 14, 15, 16, 17, 18, 19, 20, 21, 22, 23, 24, 25, 26, 27, 28, 29, 30, 31, 32, 33] (by decide +kernel) (by decide +kernel)
set_option maxRecDepth 20000 in
theorem gX0_wastedInAll_X0_wastedBy : GoodIn wsX0_wastedInAll (wsV RX0 149 RX0 yX0_wastedBy wsX0_wastedBy) := goodIn_app (goodIn_of _ (by decide +kernel)) ggX0_wastedInAll_X0_wastedBy
theorem dX0_wastedInAll_0 : decode cX0_wastedInAll 0 = .ok (.iconst 0, 1) := by decide +kernel
theorem dX0_wastedInAll_1 : decode cX0_wastedInAll 1 = .ok (.istore_n 1, 1) := by decide +kernel
theorem dX0_wastedInAll_2 : decode cX0_wastedInAll 2 = .ok (.iconst 0, 1) := by decide +kernel
theorem dX0_wastedInAll_3 : decode cX0_wastedInAll 3 = .ok (.istore_n 2, 1) := by decide +kernel
theorem dX0_wastedInAll_4 : decode cX0_wastedInAll 4 = .ok (.iload_n 2, 1) := by decide +kernel
theorem dX0_wastedInAll_5 : decode cX0_wastedInAll 5 = .ok (.aload_n 0, 1) := by decide +kernel
theorem dX0_wastedInAll_6 : decode cX0_wastedInAll 6 = .ok (.getfield 55, 3) := by decide +kernel
theorem dX0_wastedInAll_9 : decode cX0_wastedInAll 9 = .ok (.if_icmp .ge 17, 3) := by decide +kernel
theorem dX0_wastedInAll_12 : decode cX0_wastedInAll 12 = .ok (.iload_n 1, 1) := by decide +kernel
theorem dX0_wastedInAll_13 : decode cX0_wastedInAll 13 = .ok (.aload_n 0, 1) := by decide +kernel
theorem dX0_wastedInAll_14 : decode cX0_wastedInAll 14 = .ok (.iload_n 2, 1) := by decide +kernel
theorem dX0_wastedInAll_15 : decode cX0_wastedInAll 15 = .ok (.invokevirtual 149, 3) := by decide +kernel
theorem dX0_wastedInAll_18 : decode cX0_wastedInAll 18 = .ok (.iadd, 1) := by decide +kernel
theorem dX0_wastedInAll_19 : decode cX0_wastedInAll 19 = .ok (.istore_n 1, 1) := by decide +kernel
theorem dX0_wastedInAll_20 : decode cX0_wastedInAll 20 = .ok (.iinc 2 1, 3) := by decide +kernel
theorem dX0_wastedInAll_23 : decode cX0_wastedInAll 23 = .ok (.goto (-19), 3) := by decide +kernel
theorem dX0_wastedInAll_26 : decode cX0_wastedInAll 26 = .ok (.iload_n 1, 1) := by decide +kernel
theorem dX0_wastedInAll_27 : decode cX0_wastedInAll 27 = .ok (.ireturn, 1) := by decide +kernel
end
section
theorem dX1_init_0 : decode cX1_init 0 = .ok (.aload_n 0, 1) := by decide +kernel
theorem dX1_init_1 : decode cX1_init 1 = .ok (.invokespecial 1, 3) := by decide +kernel
theorem dX1_init_4 : decode cX1_init 4 = .ok (.aload_n 0, 1) := by decide +kernel
theorem dX1_init_5 : decode cX1_init 5 = .ok (.bipush 6, 2) := by decide +kernel
theorem dX1_init_7 : decode cX1_init 7 = .ok (.newarray .int, 2) := by decide +kernel
theorem dX1_init_9 : decode cX1_init 9 = .ok (.putfield 9, 3) := by decide +kernel
theorem dX1_init_12 : decode cX1_init 12 = .ok (.aload_n 0, 1) := by decide +kernel
theorem dX1_init_13 : decode cX1_init 13 = .ok (.bipush 6, 2) := by decide +kernel
theorem dX1_init_15 : decode cX1_init 15 = .ok (.newarray .int, 2) := by decide +kernel
theorem dX1_init_17 : decode cX1_init 17 = .ok (.putfield 13, 3) := by decide +kernel
theorem dX1_init_20 : decode cX1_init 20 = .ok (.aload_n 0, 1) := by decide +kernel
theorem dX1_init_21 : decode cX1_init 21 = .ok (.bipush 6, 2) := by decide +kernel
theorem dX1_init_23 : decode cX1_init 23 = .ok (.newarray .int, 2) := by decide +kernel
theorem dX1_init_25 : decode cX1_init 25 = .ok (.putfield 16, 3) := by decide +kernel
theorem dX1_init_28 : decode cX1_init 28 = .ok (.aload_n 0, 1) := by decide +kernel
theorem dX1_init_29 : decode cX1_init 29 = .ok (.bipush 20, 2) := by decide +kernel
theorem dX1_init_31 : decode cX1_init 31 = .ok (.newarray .int, 2) := by decide +kernel
theorem dX1_init_33 : decode cX1_init 33 = .ok (.putfield 19, 3) := by decide +kernel
theorem dX1_init_36 : decode cX1_init 36 = .ok (.aload_n 0, 1) := by decide +kernel
theorem dX1_init_37 : decode cX1_init 37 = .ok (.bipush 20, 2) := by decide +kernel
theorem dX1_init_39 : decode cX1_init 39 = .ok (.newarray .int, 2) := by decide +kernel
theorem dX1_init_41 : decode cX1_init 41 = .ok (.putfield 22, 3) := by decide +kernel
theorem dX1_init_44 : decode cX1_init 44 = .ok (.aload_n 0, 1) := by decide +kernel
theorem dX1_init_45 : decode cX1_init 45 = .ok (.bipush 20, 2) := by decide +kernel
theorem dX1_init_47 : decode cX1_init 47 = .ok (.newarray .int, 2) := by decide +kernel
theorem dX1_init_49 : decode cX1_init 49 = .ok (.putfield 25, 3) := by decide +kernel
theorem dX1_init_52 : decode cX1_init 52 = .ok (.aload_n 0, 1) := by decide +kernel
theorem dX1_init_53 : decode cX1_init 53 = .ok (.sipush 1280, 3) := by decide +kernel
theorem dX1_init_56 : decode cX1_init 56 = .ok (.newarray .int, 2) := by decide +kernel
theorem dX1_init_58 : decode cX1_init 58 = .ok (.putfield 28, 3) := by decide +kernel
theorem dX1_init_61 : decode cX1_init 61 = .ok (.aload_n 0, 1) := by decide +kernel
theorem dX1_init_62 : decode cX1_init 62 = .ok (.sipush 150, 3) := by decide +kernel
theorem dX1_init_65 : decode cX1_init 65 = .ok (.newarray .int, 2) := by decide +kernel
theorem dX1_init_67 : decode cX1_init 67 = .ok (.putfield 31, 3) := by decide +kernel
theorem dX1_init_70 : decode cX1_init 70 = .ok (.aload_n 0, 1) := by decide +kernel
theorem dX1_init_71 : decode cX1_init 71 = .ok (.sipush 150, 3) := by decide +kernel
theorem dX1_init_74 : decode cX1_init 74 = .ok (.newarray .int, 2) := by decide +kernel
theorem dX1_init_76 : decode cX1_init 76 = .ok (.putfield 34, 3) := by decide +kernel
theorem dX1_init_79 : decode cX1_init 79 = .ok (.aload_n 0, 1) := by decide +kernel
theorem dX1_init_80 : decode cX1_init 80 = .ok (.sipush 150, 3) := by decide +kernel
theorem dX1_init_83 : decode cX1_init 83 = .ok (.newarray .int, 2) := by decide +kernel
theorem dX1_init_85 : decode cX1_init 85 = .ok (.putfield 37, 3) := by decide +kernel
theorem dX1_init_88 : decode cX1_init 88 = .ok (.iconst 0, 1) := by decide +kernel
theorem dX1_init_89 : decode cX1_init 89 = .ok (.istore_n 1, 1) := by decide +kernel
theorem dX1_init_90 : decode cX1_init 90 = .ok (.iload_n 1, 1) := by decide +kernel
theorem dX1_init_91 : decode cX1_init 91 = .ok (.bipush 20, 2) := by decide +kernel
theorem dX1_init_93 : decode cX1_init 93 = .ok (.if_icmp .ge 16, 3) := by decide +kernel
theorem dX1_init_96 : decode cX1_init 96 = .ok (.aload_n 0, 1) := by decide +kernel
theorem dX1_init_97 : decode cX1_init 97 = .ok (.getfield 19, 3) := by decide +kernel
theorem dX1_init_100 : decode cX1_init 100 = .ok (.iload_n 1, 1) := by decide +kernel
theorem dX1_init_101 : decode cX1_init 101 = .ok (.iconst (-1), 1) := by decide +kernel
theorem dX1_init_102 : decode cX1_init 102 = .ok (.iastore, 1) := by decide +kernel
theorem dX1_init_103 : decode cX1_init 103 = .ok (.iinc 1 1, 3) := by decide +kernel
theorem dX1_init_106 : decode cX1_init 106 = .ok (.goto (-16), 3) := by decide +kernel
theorem dX1_init_109 : decode cX1_init 109 = .ok (.return_, 1) := by decide +kernel
theorem dX1_thrown_0 : decode cX1_thrown 0 = .ok (.aload_n 0, 1) := by decide +kernel
theorem dX1_thrown_1 : decode cX1_thrown 1 = .ok (.getfield 40, 3) := by decide +kernel
theorem dX1_thrown_4 : decode cX1_thrown 4 = .ok (.ireturn, 1) := by decide +kernel
theorem dX1_no_0 : decode cX1_no 0 = .ok (.aload_n 0, 1) := by decide +kernel
theorem dX1_no_1 : decode cX1_no 1 = .ok (.iload_n 1, 1) := by decide +kernel
theorem dX1_no_2 : decode cX1_no 2 = .ok (.putfield 40, 3) := by decide +kernel
theorem dX1_no_5 : decode cX1_no 5 = .ok (.iconst 0, 1) := by decide +kernel
theorem dX1_no_6 : decode cX1_no 6 = .ok (.ireturn, 1) := by decide +kernel
theorem dX1_isIn_0 : decode cX1_isIn 0 = .ok (.iload_n 0, 1) := by decide +kernel
theorem dX1_isIn_1 : decode cX1_isIn 1 = .ok (.iload_n 1, 1) := by decide +kernel
theorem dX1_isIn_2 : decode cX1_isIn 2 = .ok (.if_icmp .lt 12, 3) := by decide +kernel
theorem dX1_isIn_5 : decode cX1_isIn 5 = .ok (.iload_n 0, 1) := by decide +kernel
theorem dX1_isIn_6 : decode cX1_isIn 6 = .ok (.iload_n 2, 1) := by decide +kernel
theorem dX1_isIn_7 : decode cX1_isIn 7 = .ok (.if_icmp .gt 7, 3) := by decide +kernel
theorem dX1_isIn_10 : decode cX1_isIn 10 = .ok (.iconst 1, 1) := by decide +kernel
theorem dX1_isIn_11 : decode cX1_isIn 11 = .ok (.goto 4, 3) := by decide +kernel
theorem dX1_isIn_14 : decode cX1_isIn 14 = .ok (.iconst 0, 1) := by decide +kernel
theorem dX1_isIn_15 : decode cX1_isIn 15 = .ok (.ireturn, 1) := by decide +kernel
set_option maxRecDepth 20000 in
theorem ggX1_isKind_X1_isIn : GoodIn wsX1_isKind wsX1_isIn := goodIn_r _ [5] (by decide +kernel) (by decide +kernel)
set_option maxRecDepth 20000 in
theorem gX1_isKind_X1_isIn : GoodIn wsX1_isKind (va_wsS RX1 47 yX1_isIn wsX1_isIn) := goodIn_app (goodIn_of _ (by decide +kernel)) ggX1_isKind_X1_isIn
theorem dX1_isKind_0 : decode cX1_isKind 0 = .ok (.iload_n 1, 1) := by decide +kernel
theorem dX1_isKind_1 : decode cX1_isKind 1 = .ok (.iconst 0, 1) := by decide +kernel
theorem dX1_isKind_2 : decode cX1_isKind 2 = .ok (.aload_n 0, 1) := by decide +kernel
theorem dX1_isKind_3 : decode cX1_isKind 3 = .ok (.getfield 44, 3) := by decide +kernel
theorem dX1_isKind_6 : decode cX1_isKind 6 = .ok (.iconst 1, 1) := by decide +kernel
theorem dX1_isKind_7 : decode cX1_isKind 7 = .ok (.isub, 1) := by decide +kernel
theorem dX1_isKind_8 : decode cX1_isKind 8 = .ok (.invokestatic 47, 3) := by decide +kernel
theorem dX1_isKind_11 : decode cX1_isKind 11 = .ok (.ireturn, 1) := by decide +kernel
set_option maxRecDepth 20000 in
theorem ggX1_isThing_X1_isIn : GoodIn wsX1_isThing wsX1_isIn := goodIn_r _ [5] (by decide +kernel) (by decide +kernel)
set_option maxRecDepth 20000 in
theorem gX1_isThing_X1_isIn : GoodIn wsX1_isThing (va_wsS RX1 47 yX1_isIn wsX1_isIn) := goodIn_app (goodIn_of _ (by decide +kernel)) ggX1_isThing_X1_isIn
theorem dX1_isThing_0 : decode cX1_isThing 0 = .ok (.iload_n 1, 1) := by decide +kernel
theorem dX1_isThing_1 : decode cX1_isThing 1 = .ok (.iconst 0, 1) := by decide +kernel
theorem dX1_isThing_2 : decode cX1_isThing 2 = .ok (.aload_n 0, 1) := by decide +kernel
theorem dX1_isThing_3 : decode cX1_isThing 3 = .ok (.getfield 51, 3) := by decide +kernel
theorem dX1_isThing_6 : decode cX1_isThing 6 = .ok (.iconst 1, 1) := by decide +kernel
theorem dX1_isThing_7 : decode cX1_isThing 7 = .ok (.isub, 1) := by decide +kernel
theorem dX1_isThing_8 : decode cX1_isThing 8 = .ok (.invokestatic 47, 3) := by decide +kernel
theorem dX1_isThing_11 : decode cX1_isThing 11 = .ok (.ireturn, 1) := by decide +kernel
theorem dX1_cells_0 : decode cX1_cells 0 = .ok (.bipush 64, 2) := by decide +kernel
theorem dX1_cells_2 : decode cX1_cells 2 = .ok (.aload_n 0, 1) := by decide +kernel
theorem dX1_cells_3 : decode cX1_cells 3 = .ok (.getfield 9, 3) := by decide +kernel
theorem dX1_cells_6 : decode cX1_cells 6 = .ok (.iload_n 1, 1) := by decide +kernel
theorem dX1_cells_7 : decode cX1_cells 7 = .ok (.iaload, 1) := by decide +kernel
theorem dX1_cells_8 : decode cX1_cells 8 = .ok (.idiv, 1) := by decide +kernel
theorem dX1_cells_9 : decode cX1_cells 9 = .ok (.ireturn, 1) := by decide +kernel
theorem dX1_isEmpty_0 : decode cX1_isEmpty 0 = .ok (.aload_n 0, 1) := by decide +kernel
theorem dX1_isEmpty_1 : decode cX1_isEmpty 1 = .ok (.getfield 19, 3) := by decide +kernel
theorem dX1_isEmpty_4 : decode cX1_isEmpty 4 = .ok (.iload_n 1, 1) := by decide +kernel
theorem dX1_isEmpty_5 : decode cX1_isEmpty 5 = .ok (.iaload, 1) := by decide +kernel
theorem dX1_isEmpty_6 : decode cX1_isEmpty 6 = .ok (.iload_n 2, 1) := by decide +kernel
theorem dX1_isEmpty_7 : decode cX1_isEmpty 7 = .ok (.if_icmp .ne 16, 3) := by decide +kernel
theorem dX1_isEmpty_10 : decode cX1_isEmpty 10 = .ok (.aload_n 0, 1) := by decide +kernel
theorem dX1_isEmpty_11 : decode cX1_isEmpty 11 = .ok (.getfield 25, 3) := by decide +kernel
theorem dX1_isEmpty_14 : decode cX1_isEmpty 14 = .ok (.iload_n 1, 1) := by decide +kernel
theorem dX1_isEmpty_15 : decode cX1_isEmpty 15 = .ok (.iaload, 1) := by decide +kernel
theorem dX1_isEmpty_16 : decode cX1_isEmpty 16 = .ok (.ifCond .ne 7, 3) := by decide +kernel
theorem dX1_isEmpty_19 : decode cX1_isEmpty 19 = .ok (.iconst 1, 1) := by decide +kernel
theorem dX1_isEmpty_20 : decode cX1_isEmpty 20 = .ok (.goto 4, 3) := by decide +kernel
theorem dX1_isEmpty_23 : decode cX1_isEmpty 23 = .ok (.iconst 0, 1) := by decide +kernel
theorem dX1_isEmpty_24 : decode cX1_isEmpty 24 = .ok (.ireturn, 1) := by decide +kernel
set_option maxRecDepth 20000 in
theorem ggX1_isPartly_X1_cells : GoodIn wsX1_isPartly wsX1_cells := goodIn_r _ [7, 8, 9, 10, 11, 12, 13, 14, 15, 16, 17, 18, 19, 20, 21, 22, 23] (by decide +kernel) (by decide +kernel)
set_option maxRecDepth 20000 in
theorem gX1_isPartly_X1_cells : GoodIn wsX1_isPartly (wsV RX1 54 RX1 yX1_cells wsX1_cells) := goodIn_app (goodIn_of _ (by decide +kernel)) ggX1_isPartly_X1_cells
theorem dX1_isPartly_0 : decode cX1_isPartly 0 = .ok (.aload_n 0, 1) := by decide +kernel
theorem dX1_isPartly_1 : decode cX1_isPartly 1 = .ok (.getfield 19, 3) := by decide +kernel
theorem dX1_isPartly_4 : decode cX1_isPartly 4 = .ok (.iload_n 1, 1) := by decide +kernel
theorem dX1_isPartly_5 : decode cX1_isPartly 5 = .ok (.iaload, 1) := by decide +kernel
theorem dX1_isPartly_6 : decode cX1_isPartly 6 = .ok (.iload_n 2, 1) := by decide +kernel
theorem dX1_isPartly_7 : decode cX1_isPartly 7 = .ok (.if_icmp .ne 30, 3) := by decide +kernel
theorem dX1_isPartly_10 : decode cX1_isPartly 10 = .ok (.aload_n 0, 1) := by decide +kernel
theorem dX1_isPartly_11 : decode cX1_isPartly 11 = .ok (.getfield 25, 3) := by decide +kernel
theorem dX1_isPartly_14 : decode cX1_isPartly 14 = .ok (.iload_n 1, 1) := by decide +kernel
theorem dX1_isPartly_15 : decode cX1_isPartly 15 = .ok (.iaload, 1) := by decide +kernel
theorem dX1_isPartly_16 : decode cX1_isPartly 16 = .ok (.ifCond .le 21, 3) := by decide +kernel
theorem dX1_isPartly_19 : decode cX1_isPartly 19 = .ok (.aload_n 0, 1) := by decide +kernel
theorem dX1_isPartly_20 : decode cX1_isPartly 20 = .ok (.getfield 25, 3) := by decide +kernel
theorem dX1_isPartly_23 : decode cX1_isPartly 23 = .ok (.iload_n 1, 1) := by decide +kernel
theorem dX1_isPartly_24 : decode cX1_isPartly 24 = .ok (.iaload, 1) := by decide +kernel
theorem dX1_isPartly_25 : decode cX1_isPartly 25 = .ok (.aload_n 0, 1) := by decide +kernel
theorem dX1_isPartly_26 : decode cX1_isPartly 26 = .ok (.iload_n 2, 1) := by decide +kernel
theorem dX1_isPartly_27 : decode cX1_isPartly 27 = .ok (.invokevirtual 54, 3) := by decide +kernel
theorem dX1_isPartly_30 : decode cX1_isPartly 30 = .ok (.if_icmp .ge 7, 3) := by decide +kernel
theorem dX1_isPartly_33 : decode cX1_isPartly 33 = .ok (.iconst 1, 1) := by decide +kernel
theorem dX1_isPartly_34 : decode cX1_isPartly 34 = .ok (.goto 4, 3) := by decide +kernel
theorem dX1_isPartly_37 : decode cX1_isPartly 37 = .ok (.iconst 0, 1) := by decide +kernel
theorem dX1_isPartly_38 : decode cX1_isPartly 38 = .ok (.ireturn, 1) := by decide +kernel
set_option maxRecDepth 20000 in
theorem ggX1_fullest_X1_isPartly : GoodIn wsX1_fullest wsX1_isPartly := goodIn_r _ [6, 7, 1, 8, 9, 10, 5, 11, 12, 13, 14, 15, 16, 17, 18, 19, 20, 21, 22, 23, 24, 25, 26, 27] (by decide +kernel) (by decide +kernel)
set_option maxRecDepth 20000 in
theorem gX1_fullest_X1_isPartly : GoodIn wsX1_fullest (wsV RX1 58 RX1 yX1_isPartly wsX1_isPartly) := goodIn_app (goodIn_of _ (by decide +kernel)) ggX1_fullest_X1_isPartly
theorem dX1_fullest_0 : decode cX1_fullest 0 = .ok (.iconst (-1), 1) := by decide +kernel
theorem dX1_fullest_1 : decode cX1_fullest 1 = .ok (.istore_n 2, 1) := by decide +kernel
theorem dX1_fullest_2 : decode cX1_fullest 2 = .ok (.iconst 0, 1) := by decide +kernel
theorem dX1_fullest_3 : decode cX1_fullest 3 = .ok (.istore_n 3, 1) := by decide +kernel
theorem dX1_fullest_4 : decode cX1_fullest 4 = .ok (.iload_n 3, 1) := by decide +kernel
theorem dX1_fullest_5 : decode cX1_fullest 5 = .ok (.bipush 20, 2) := by decide +kernel
theorem dX1_fullest_7 : decode cX1_fullest 7 = .ok (.if_icmp .ge 40, 3) := by decide +kernel
theorem dX1_fullest_10 : decode cX1_fullest 10 = .ok (.aload_n 0, 1) := by decide +kernel
theorem dX1_fullest_11 : decode cX1_fullest 11 = .ok (.iload_n 3, 1) := by decide +kernel
theorem dX1_fullest_12 : decode cX1_fullest 12 = .ok (.iload_n 1, 1) := by decide +kernel
theorem dX1_fullest_13 : decode cX1_fullest 13 = .ok (.invokevirtual 58, 3) := by decide +kernel
theorem dX1_fullest_16 : decode cX1_fullest 16 = .ok (.ifCond .eq 25, 3) := by decide +kernel
theorem dX1_fullest_19 : decode cX1_fullest 19 = .ok (.iload_n 2, 1) := by decide +kernel
theorem dX1_fullest_20 : decode cX1_fullest 20 = .ok (.iconst (-1), 1) := by decide +kernel
theorem dX1_fullest_21 : decode cX1_fullest 21 = .ok (.if_icmp .eq 18, 3) := by decide +kernel
theorem dX1_fullest_24 : decode cX1_fullest 24 = .ok (.aload_n 0, 1) := by decide +kernel
theorem dX1_fullest_25 : decode cX1_fullest 25 = .ok (.getfield 25, 3) := by decide +kernel
theorem dX1_fullest_28 : decode cX1_fullest 28 = .ok (.iload_n 3, 1) := by decide +kernel
theorem dX1_fullest_29 : decode cX1_fullest 29 = .ok (.iaload, 1) := by decide +kernel
theorem dX1_fullest_30 : decode cX1_fullest 30 = .ok (.aload_n 0, 1) := by decide +kernel
theorem dX1_fullest_31 : decode cX1_fullest 31 = .ok (.getfield 25, 3) := by decide +kernel
theorem dX1_fullest_34 : decode cX1_fullest 34 = .ok (.iload_n 2, 1) := by decide +kernel
theorem dX1_fullest_35 : decode cX1_fullest 35 = .ok (.iaload, 1) := by decide +kernel
theorem dX1_fullest_36 : decode cX1_fullest 36 = .ok (.if_icmp .le 5, 3) := by decide +kernel
theorem dX1_fullest_39 : decode cX1_fullest 39 = .ok (.iload_n 3, 1) := by decide +kernel
theorem dX1_fullest_40 : decode cX1_fullest 40 = .ok (.istore_n 2, 1) := by decide +kernel
theorem dX1_fullest_41 : decode cX1_fullest 41 = .ok (.iinc 3 1, 3) := by decide +kernel
theorem dX1_fullest_44 : decode cX1_fullest 44 = .ok (.goto (-40), 3) := by decide +kernel
theorem dX1_fullest_47 : decode cX1_fullest 47 = .ok (.iload_n 2, 1) := by decide +kernel
theorem dX1_fullest_48 : decode cX1_fullest 48 = .ok (.ireturn, 1) := by decide +kernel
set_option maxRecDepth 20000 in
theorem ggX1_leanest_X1_isPartly : GoodIn wsX1_leanest wsX1_isPartly := goodIn_r _ [6, 7, 1, 8, 9, 10, 5, 11, 12, 13, 14, 15, 16, 17, 18, 19, 20, 21, 22, 23, 24, 25, 26, 27] (by decide +kernel) (by decide +kernel)
set_option maxRecDepth 20000 in
theorem gX1_leanest_X1_isPartly : GoodIn wsX1_leanest (wsV RX1 58 RX1 yX1_isPartly wsX1_isPartly) := goodIn_app (goodIn_of _ (by decide +kernel)) ggX1_leanest_X1_isPartly
theorem dX1_leanest_0 : decode cX1_leanest 0 = .ok (.iconst (-1), 1) := by decide +kernel
theorem dX1_leanest_1 : decode cX1_leanest 1 = .ok (.istore_n 2, 1) := by decide +kernel
theorem dX1_leanest_2 : decode cX1_leanest 2 = .ok (.iconst 0, 1) := by decide +kernel
theorem dX1_leanest_3 : decode cX1_leanest 3 = .ok (.istore_n 3, 1) := by decide +kernel
theorem dX1_leanest_4 : decode cX1_leanest 4 = .ok (.iload_n 3, 1) := by decide +kernel
theorem dX1_leanest_5 : decode cX1_leanest 5 = .ok (.bipush 20, 2) := by decide +kernel
theorem dX1_leanest_7 : decode cX1_leanest 7 = .ok (.if_icmp .ge 40, 3) := by decide +kernel
theorem dX1_leanest_10 : decode cX1_leanest 10 = .ok (.aload_n 0, 1) := by decide +kernel
theorem dX1_leanest_11 : decode cX1_leanest 11 = .ok (.iload_n 3, 1) := by decide +kernel
theorem dX1_leanest_12 : decode cX1_leanest 12 = .ok (.iload_n 1, 1) := by decide +kernel
theorem dX1_leanest_13 : decode cX1_leanest 13 = .ok (.invokevirtual 58, 3) := by decide +kernel
theorem dX1_leanest_16 : decode cX1_leanest 16 = .ok (.ifCond .eq 25, 3) := by decide +kernel
theorem dX1_leanest_19 : decode cX1_leanest 19 = .ok (.iload_n 2, 1) := by decide +kernel
theorem dX1_leanest_20 : decode cX1_leanest 20 = .ok (.iconst (-1), 1) := by decide +kernel
theorem dX1_leanest_21 : decode cX1_leanest 21 = .ok (.if_icmp .eq 18, 3) := by decide +kernel
theorem dX1_leanest_24 : decode cX1_leanest 24 = .ok (.aload_n 0, 1) := by decide +kernel
theorem dX1_leanest_25 : decode cX1_leanest 25 = .ok (.getfield 25, 3) := by decide +kernel
theorem dX1_leanest_28 : decode cX1_leanest 28 = .ok (.iload_n 3, 1) := by decide +kernel
theorem dX1_leanest_29 : decode cX1_leanest 29 = .ok (.iaload, 1) := by decide +kernel
theorem dX1_leanest_30 : decode cX1_leanest 30 = .ok (.aload_n 0, 1) := by decide +kernel
theorem dX1_leanest_31 : decode cX1_leanest 31 = .ok (.getfield 25, 3) := by decide +kernel
theorem dX1_leanest_34 : decode cX1_leanest 34 = .ok (.iload_n 2, 1) := by decide +kernel
theorem dX1_leanest_35 : decode cX1_leanest 35 = .ok (.iaload, 1) := by decide +kernel
theorem dX1_leanest_36 : decode cX1_leanest 36 = .ok (.if_icmp .gt 5, 3) := by decide +kernel
theorem dX1_leanest_39 : decode cX1_leanest 39 = .ok (.iload_n 3, 1) := by decide +kernel
theorem dX1_leanest_40 : decode cX1_leanest 40 = .ok (.istore_n 2, 1) := by decide +kernel
theorem dX1_leanest_41 : decode cX1_leanest 41 = .ok (.iinc 3 1, 3) := by decide +kernel
theorem dX1_leanest_44 : decode cX1_leanest 44 = .ok (.goto (-40), 3) := by decide +kernel
theorem dX1_leanest_47 : decode cX1_leanest 47 = .ok (.iload_n 2, 1) := by decide +kernel
theorem dX1_leanest_48 : decode cX1_leanest 48 = .ok (.ireturn, 1) := by decide +kernel
set_option maxRecDepth 20000 in
theorem ggX1_firstEmpty_X1_isEmpty : GoodIn wsX1_firstEmpty wsX1_isEmpty := goodIn_r _ [5, 6, 7, 8, 9, 10, 11, 12, 13, 14, 15, 16, 17, 18, 19, 20, 21, 22] (by decide +kernel) (by decide +kernel)
set_option maxRecDepth 20000 in
theorem gX1_firstEmpty_X1_isEmpty : GoodIn wsX1_firstEmpty (wsV RX1 62 RX1 yX1_isEmpty wsX1_isEmpty) := goodIn_app (goodIn_of _ (by decide +kernel)) ggX1_firstEmpty_X1_isEmpty
theorem dX1_firstEmpty_0 : decode cX1_firstEmpty 0 = .ok (.iconst 0, 1) := by decide +kernel
theorem dX1_firstEmpty_1 : decode cX1_firstEmpty 1 = .ok (.istore_n 2, 1) := by decide +kernel
theorem dX1_firstEmpty_2 : decode cX1_firstEmpty 2 = .ok (.iload_n 2, 1) := by decide +kernel
theorem dX1_firstEmpty_3 : decode cX1_firstEmpty 3 = .ok (.bipush 20, 2) := by decide +kernel
theorem dX1_firstEmpty_5 : decode cX1_firstEmpty 5 = .ok (.if_icmp .ge 20, 3) := by decide +kernel
theorem dX1_firstEmpty_8 : decode cX1_firstEmpty 8 = .ok (.aload_n 0, 1) := by decide +kernel
theorem dX1_firstEmpty_9 : decode cX1_firstEmpty 9 = .ok (.iload_n 2, 1) := by decide +kernel
theorem dX1_firstEmpty_10 : decode cX1_firstEmpty 10 = .ok (.iload_n 1, 1) := by decide +kernel
theorem dX1_firstEmpty_11 : decode cX1_firstEmpty 11 = .ok (.invokevirtual 62, 3) := by decide +kernel
theorem dX1_firstEmpty_14 : decode cX1_firstEmpty 14 = .ok (.ifCond .eq 5, 3) := by decide +kernel
theorem dX1_firstEmpty_17 : decode cX1_firstEmpty 17 = .ok (.iload_n 2, 1) := by decide +kernel
theorem dX1_firstEmpty_18 : decode cX1_firstEmpty 18 = .ok (.ireturn, 1) := by decide +kernel
theorem dX1_firstEmpty_19 : decode cX1_firstEmpty 19 = .ok (.iinc 2 1, 3) := by decide +kernel
theorem dX1_firstEmpty_22 : decode cX1_firstEmpty 22 = .ok (.goto (-20), 3) := by decide +kernel
theorem dX1_firstEmpty_25 : decode cX1_firstEmpty 25 = .ok (.iconst (-1), 1) := by decide +kernel
theorem dX1_firstEmpty_26 : decode cX1_firstEmpty 26 = .ok (.ireturn, 1) := by decide +kernel
theorem dX1_firstFree_0 : decode cX1_firstFree 0 = .ok (.iconst 0, 1) := by decide +kernel
theorem dX1_firstFree_1 : decode cX1_firstFree 1 = .ok (.istore_n 1, 1) := by decide +kernel
theorem dX1_firstFree_2 : decode cX1_firstFree 2 = .ok (.iload_n 1, 1) := by decide +kernel
theorem dX1_firstFree_3 : decode cX1_firstFree 3 = .ok (.bipush 20, 2) := by decide +kernel
theorem dX1_firstFree_5 : decode cX1_firstFree 5 = .ok (.if_icmp .ge 21, 3) := by decide +kernel
theorem dX1_firstFree_8 : decode cX1_firstFree 8 = .ok (.aload_n 0, 1) := by decide +kernel
theorem dX1_firstFree_9 : decode cX1_firstFree 9 = .ok (.getfield 19, 3) := by decide +kernel
theorem dX1_firstFree_12 : decode cX1_firstFree 12 = .ok (.iload_n 1, 1) := by decide +kernel
theorem dX1_firstFree_13 : decode cX1_firstFree 13 = .ok (.iaload, 1) := by decide +kernel
theorem dX1_firstFree_14 : decode cX1_firstFree 14 = .ok (.iconst (-1), 1) := by decide +kernel
theorem dX1_firstFree_15 : decode cX1_firstFree 15 = .ok (.if_icmp .ne 5, 3) := by decide +kernel
theorem dX1_firstFree_18 : decode cX1_firstFree 18 = .ok (.iload_n 1, 1) := by decide +kernel
theorem dX1_firstFree_19 : decode cX1_firstFree 19 = .ok (.ireturn, 1) := by decide +kernel
theorem dX1_firstFree_20 : decode cX1_firstFree 20 = .ok (.iinc 1 1, 3) := by decide +kernel
theorem dX1_firstFree_23 : decode cX1_firstFree 23 = .ok (.goto (-21), 3) := by decide +kernel
theorem dX1_firstFree_26 : decode cX1_firstFree 26 = .ok (.iconst (-1), 1) := by decide +kernel
theorem dX1_firstFree_27 : decode cX1_firstFree 27 = .ok (.ireturn, 1) := by decide +kernel
set_option maxRecDepth 20000 in
theorem ggX1_goesTo_X1_fullest : GoodIn wsX1_goesTo wsX1_fullest := goodIn_r _ [5, 6, 7, 8, 9, 4, 10, 11, 12, 13, 14, 15, 16, 29, 30, 31, 32, 33, 34, 35, 36, 37, 38, 39, 40, 41, 42, 43] (by decide +kernel) (by decide +kernel)
set_option maxRecDepth 20000 in
theorem gX1_goesTo_X1_fullest : GoodIn wsX1_goesTo (wsV RX1 65 RX1 yX1_fullest wsX1_fullest) := goodIn_app (goodIn_of _ (by decide +kernel)) ggX1_goesTo_X1_fullest
set_option maxRecDepth 20000 in
theorem ggX1_goesTo_X1_firstEmpty : GoodIn wsX1_goesTo wsX1_firstEmpty := goodIn_r _ [20, 21, 22, 23, 4, 24, 11, 6, 29, 30, 31, 32, 33, 34, 35, 36, 37, 38, 39, 40, 41, 42, 43] (by decide +kernel) (by decide +kernel)
set_option maxRecDepth 20000 in
theorem gX1_goesTo_X1_firstEmpty : GoodIn wsX1_goesTo (wsV RX1 68 RX1 yX1_firstEmpty wsX1_firstEmpty) := goodIn_app (goodIn_of _ (by decide +kernel)) ggX1_goesTo_X1_firstEmpty
set_option maxRecDepth 20000 in
theorem ggX1_goesTo_X1_firstFree : GoodIn wsX1_goesTo wsX1_firstFree := goodIn_r _ [28, 11, 29, 30, 31, 32, 33, 34, 35, 36, 37, 38, 39, 40, 41, 42, 43] (by decide +kernel) (by decide +kernel)
set_option maxRecDepth 20000 in
theorem gX1_goesTo_X1_firstFree : GoodIn wsX1_goesTo (wsV RX1 71 RX1 yX1_firstFree wsX1_firstFree) := goodIn_app (goodIn_of _ (by decide +kernel)) ggX1_goesTo_X1_firstFree
theorem dX1_goesTo_0 : decode cX1_goesTo 0 = .ok (.aload_n 0, 1) := by decide +kernel
theorem dX1_goesTo_1 : decode cX1_goesTo 1 = .ok (.iload_n 1, 1) := by decide +kernel
theorem dX1_goesTo_2 : decode cX1_goesTo 2 = .ok (.invokevirtual 65, 3) := by decide +kernel
theorem dX1_goesTo_5 : decode cX1_goesTo 5 = .ok (.istore_n 2, 1) := by decide +kernel
theorem dX1_goesTo_6 : decode cX1_goesTo 6 = .ok (.aload_n 0, 1) := by decide +kernel
theorem dX1_goesTo_7 : decode cX1_goesTo 7 = .ok (.iload_n 1, 1) := by decide +kernel
theorem dX1_goesTo_8 : decode cX1_goesTo 8 = .ok (.invokevirtual 68, 3) := by decide +kernel
theorem dX1_goesTo_11 : decode cX1_goesTo 11 = .ok (.istore_n 3, 1) := by decide +kernel
theorem dX1_goesTo_12 : decode cX1_goesTo 12 = .ok (.iload_n 2, 1) := by decide +kernel
theorem dX1_goesTo_13 : decode cX1_goesTo 13 = .ok (.iconst (-1), 1) := by decide +kernel
theorem dX1_goesTo_14 : decode cX1_goesTo 14 = .ok (.if_icmp .eq 7, 3) := by decide +kernel
theorem dX1_goesTo_17 : decode cX1_goesTo 17 = .ok (.iload_n 2, 1) := by decide +kernel
theorem dX1_goesTo_18 : decode cX1_goesTo 18 = .ok (.goto 16, 3) := by decide +kernel
theorem dX1_goesTo_21 : decode cX1_goesTo 21 = .ok (.iload_n 3, 1) := by decide +kernel
theorem dX1_goesTo_22 : decode cX1_goesTo 22 = .ok (.iconst (-1), 1) := by decide +kernel
theorem dX1_goesTo_23 : decode cX1_goesTo 23 = .ok (.if_icmp .eq 7, 3) := by decide +kernel
theorem dX1_goesTo_26 : decode cX1_goesTo 26 = .ok (.iload_n 3, 1) := by decide +kernel
theorem dX1_goesTo_27 : decode cX1_goesTo 27 = .ok (.goto 7, 3) := by decide +kernel
theorem dX1_goesTo_30 : decode cX1_goesTo 30 = .ok (.aload_n 0, 1) := by decide +kernel
theorem dX1_goesTo_31 : decode cX1_goesTo 31 = .ok (.invokevirtual 71, 3) := by decide +kernel
theorem dX1_goesTo_34 : decode cX1_goesTo 34 = .ok (.ireturn, 1) := by decide +kernel
theorem dX1_open_0 : decode cX1_open 0 = .ok (.aload_n 0, 1) := by decide +kernel
theorem dX1_open_1 : decode cX1_open 1 = .ok (.getfield 19, 3) := by decide +kernel
theorem dX1_open_4 : decode cX1_open 4 = .ok (.iload_n 1, 1) := by decide +kernel
theorem dX1_open_5 : decode cX1_open 5 = .ok (.iload_n 2, 1) := by decide +kernel
theorem dX1_open_6 : decode cX1_open 6 = .ok (.iastore, 1) := by decide +kernel
theorem dX1_open_7 : decode cX1_open 7 = .ok (.aload_n 0, 1) := by decide +kernel
theorem dX1_open_8 : decode cX1_open 8 = .ok (.getfield 22, 3) := by decide +kernel
theorem dX1_open_11 : decode cX1_open 11 = .ok (.iload_n 1, 1) := by decide +kernel
theorem dX1_open_12 : decode cX1_open 12 = .ok (.aload_n 0, 1) := by decide +kernel
theorem dX1_open_13 : decode cX1_open 13 = .ok (.getfield 16, 3) := by decide +kernel
theorem dX1_open_16 : decode cX1_open 16 = .ok (.iload_n 2, 1) := by decide +kernel
theorem dX1_open_17 : decode cX1_open 17 = .ok (.iaload, 1) := by decide +kernel
theorem dX1_open_18 : decode cX1_open 18 = .ok (.iastore, 1) := by decide +kernel
theorem dX1_open_19 : decode cX1_open 19 = .ok (.aload_n 0, 1) := by decide +kernel
theorem dX1_open_20 : decode cX1_open 20 = .ok (.getfield 25, 3) := by decide +kernel
theorem dX1_open_23 : decode cX1_open 23 = .ok (.iload_n 1, 1) := by decide +kernel
theorem dX1_open_24 : decode cX1_open 24 = .ok (.iconst 0, 1) := by decide +kernel
theorem dX1_open_25 : decode cX1_open 25 = .ok (.iastore, 1) := by decide +kernel
theorem dX1_open_26 : decode cX1_open 26 = .ok (.iconst 0, 1) := by decide +kernel
theorem dX1_open_27 : decode cX1_open 27 = .ok (.istore_n 3, 1) := by decide +kernel
theorem dX1_open_28 : decode cX1_open 28 = .ok (.iload_n 3, 1) := by decide +kernel
theorem dX1_open_29 : decode cX1_open 29 = .ok (.bipush 64, 2) := by decide +kernel
theorem dX1_open_31 : decode cX1_open 31 = .ok (.if_icmp .ge 21, 3) := by decide +kernel
theorem dX1_open_34 : decode cX1_open 34 = .ok (.aload_n 0, 1) := by decide +kernel
theorem dX1_open_35 : decode cX1_open 35 = .ok (.getfield 28, 3) := by decide +kernel
theorem dX1_open_38 : decode cX1_open 38 = .ok (.bipush 64, 2) := by decide +kernel
theorem dX1_open_40 : decode cX1_open 40 = .ok (.iload_n 1, 1) := by decide +kernel
theorem dX1_open_41 : decode cX1_open 41 = .ok (.imul, 1) := by decide +kernel
theorem dX1_open_42 : decode cX1_open 42 = .ok (.iload_n 3, 1) := by decide +kernel
theorem dX1_open_43 : decode cX1_open 43 = .ok (.iadd, 1) := by decide +kernel
theorem dX1_open_44 : decode cX1_open 44 = .ok (.iconst (-1), 1) := by decide +kernel
theorem dX1_open_45 : decode cX1_open 45 = .ok (.iastore, 1) := by decide +kernel
theorem dX1_open_46 : decode cX1_open 46 = .ok (.iinc 3 1, 3) := by decide +kernel
theorem dX1_open_49 : decode cX1_open 49 = .ok (.goto (-21), 3) := by decide +kernel
theorem dX1_open_52 : decode cX1_open 52 = .ok (.aload_n 0, 1) := by decide +kernel
theorem dX1_open_53 : decode cX1_open 53 = .ok (.getfield 16, 3) := by decide +kernel
theorem dX1_open_56 : decode cX1_open 56 = .ok (.iload_n 2, 1) := by decide +kernel
theorem dX1_open_57 : decode cX1_open 57 = .ok (.dup2, 1) := by decide +kernel
theorem dX1_open_58 : decode cX1_open 58 = .ok (.iaload, 1) := by decide +kernel
theorem dX1_open_59 : decode cX1_open 59 = .ok (.aload_n 0, 1) := by decide +kernel
theorem dX1_open_60 : decode cX1_open 60 = .ok (.getfield 13, 3) := by decide +kernel
theorem dX1_open_63 : decode cX1_open 63 = .ok (.iload_n 2, 1) := by decide +kernel
theorem dX1_open_64 : decode cX1_open 64 = .ok (.iaload, 1) := by decide +kernel
theorem dX1_open_65 : decode cX1_open 65 = .ok (.iadd, 1) := by decide +kernel
theorem dX1_open_66 : decode cX1_open 66 = .ok (.iastore, 1) := by decide +kernel
theorem dX1_open_67 : decode cX1_open 67 = .ok (.aload_n 0, 1) := by decide +kernel
theorem dX1_open_68 : decode cX1_open 68 = .ok (.getfield 16, 3) := by decide +kernel
theorem dX1_open_71 : decode cX1_open 71 = .ok (.iload_n 2, 1) := by decide +kernel
theorem dX1_open_72 : decode cX1_open 72 = .ok (.iaload, 1) := by decide +kernel
theorem dX1_open_73 : decode cX1_open 73 = .ok (.bipush 64, 2) := by decide +kernel
theorem dX1_open_75 : decode cX1_open 75 = .ok (.aload_n 0, 1) := by decide +kernel
theorem dX1_open_76 : decode cX1_open 76 = .ok (.getfield 9, 3) := by decide +kernel
theorem dX1_open_79 : decode cX1_open 79 = .ok (.iload_n 2, 1) := by decide +kernel
theorem dX1_open_80 : decode cX1_open 80 = .ok (.iaload, 1) := by decide +kernel
theorem dX1_open_81 : decode cX1_open 81 = .ok (.irem, 1) := by decide +kernel
theorem dX1_open_82 : decode cX1_open 82 = .ok (.if_icmp .le 10, 3) := by decide +kernel
theorem dX1_open_85 : decode cX1_open 85 = .ok (.aload_n 0, 1) := by decide +kernel
theorem dX1_open_86 : decode cX1_open 86 = .ok (.getfield 16, 3) := by decide +kernel
theorem dX1_open_89 : decode cX1_open 89 = .ok (.iload_n 2, 1) := by decide +kernel
theorem dX1_open_90 : decode cX1_open 90 = .ok (.iconst 0, 1) := by decide +kernel
theorem dX1_open_91 : decode cX1_open 91 = .ok (.iastore, 1) := by decide +kernel
theorem dX1_open_92 : decode cX1_open 92 = .ok (.return_, 1) := by decide +kernel
theorem dX1_lay_0 : decode cX1_lay 0 = .ok (.aload_n 0, 1) := by decide +kernel
theorem dX1_lay_1 : decode cX1_lay 1 = .ok (.getfield 34, 3) := by decide +kernel
theorem dX1_lay_4 : decode cX1_lay 4 = .ok (.iload_n 1, 1) := by decide +kernel
theorem dX1_lay_5 : decode cX1_lay 5 = .ok (.iload_n 2, 1) := by decide +kernel
theorem dX1_lay_6 : decode cX1_lay 6 = .ok (.iastore, 1) := by decide +kernel
theorem dX1_lay_7 : decode cX1_lay 7 = .ok (.aload_n 0, 1) := by decide +kernel
theorem dX1_lay_8 : decode cX1_lay 8 = .ok (.getfield 37, 3) := by decide +kernel
theorem dX1_lay_11 : decode cX1_lay 11 = .ok (.iload_n 1, 1) := by decide +kernel
theorem dX1_lay_12 : decode cX1_lay 12 = .ok (.iload_n 3, 1) := by decide +kernel
theorem dX1_lay_13 : decode cX1_lay 13 = .ok (.iastore, 1) := by decide +kernel
theorem dX1_lay_14 : decode cX1_lay 14 = .ok (.aload_n 0, 1) := by decide +kernel
theorem dX1_lay_15 : decode cX1_lay 15 = .ok (.getfield 28, 3) := by decide +kernel
theorem dX1_lay_18 : decode cX1_lay 18 = .ok (.bipush 64, 2) := by decide +kernel
theorem dX1_lay_20 : decode cX1_lay 20 = .ok (.iload_n 2, 1) := by decide +kernel
theorem dX1_lay_21 : decode cX1_lay 21 = .ok (.imul, 1) := by decide +kernel
theorem dX1_lay_22 : decode cX1_lay 22 = .ok (.iload_n 3, 1) := by decide +kernel
theorem dX1_lay_23 : decode cX1_lay 23 = .ok (.iadd, 1) := by decide +kernel
theorem dX1_lay_24 : decode cX1_lay 24 = .ok (.iload_n 1, 1) := by decide +kernel
theorem dX1_lay_25 : decode cX1_lay 25 = .ok (.iastore, 1) := by decide +kernel
theorem dX1_lay_26 : decode cX1_lay 26 = .ok (.aload_n 0, 1) := by decide +kernel
theorem dX1_lay_27 : decode cX1_lay 27 = .ok (.getfield 25, 3) := by decide +kernel
theorem dX1_lay_30 : decode cX1_lay 30 = .ok (.iload_n 2, 1) := by decide +kernel
theorem dX1_lay_31 : decode cX1_lay 31 = .ok (.dup2, 1) := by decide +kernel
theorem dX1_lay_32 : decode cX1_lay 32 = .ok (.iaload, 1) := by decide +kernel
theorem dX1_lay_33 : decode cX1_lay 33 = .ok (.iconst 1, 1) := by decide +kernel
theorem dX1_lay_34 : decode cX1_lay 34 = .ok (.iadd, 1) := by decide +kernel
theorem dX1_lay_35 : decode cX1_lay 35 = .ok (.iastore, 1) := by decide +kernel
theorem dX1_lay_36 : decode cX1_lay 36 = .ok (.return_, 1) := by decide +kernel
theorem dX1_lift_0 : decode cX1_lift 0 = .ok (.aload_n 0, 1) := by decide +kernel
theorem dX1_lift_1 : decode cX1_lift 1 = .ok (.getfield 28, 3) := by decide +kernel
theorem dX1_lift_4 : decode cX1_lift 4 = .ok (.bipush 64, 2) := by decide +kernel
theorem dX1_lift_6 : decode cX1_lift 6 = .ok (.aload_n 0, 1) := by decide +kernel
theorem dX1_lift_7 : decode cX1_lift 7 = .ok (.getfield 34, 3) := by decide +kernel
theorem dX1_lift_10 : decode cX1_lift 10 = .ok (.iload_n 1, 1) := by decide +kernel
theorem dX1_lift_11 : decode cX1_lift 11 = .ok (.iaload, 1) := by decide +kernel
theorem dX1_lift_12 : decode cX1_lift 12 = .ok (.imul, 1) := by decide +kernel
theorem dX1_lift_13 : decode cX1_lift 13 = .ok (.aload_n 0, 1) := by decide +kernel
theorem dX1_lift_14 : decode cX1_lift 14 = .ok (.getfield 37, 3) := by decide +kernel
theorem dX1_lift_17 : decode cX1_lift 17 = .ok (.iload_n 1, 1) := by decide +kernel
theorem dX1_lift_18 : decode cX1_lift 18 = .ok (.iaload, 1) := by decide +kernel
theorem dX1_lift_19 : decode cX1_lift 19 = .ok (.iadd, 1) := by decide +kernel
theorem dX1_lift_20 : decode cX1_lift 20 = .ok (.iconst (-1), 1) := by decide +kernel
theorem dX1_lift_21 : decode cX1_lift 21 = .ok (.iastore, 1) := by decide +kernel
theorem dX1_lift_22 : decode cX1_lift 22 = .ok (.aload_n 0, 1) := by decide +kernel
theorem dX1_lift_23 : decode cX1_lift 23 = .ok (.getfield 25, 3) := by decide +kernel
theorem dX1_lift_26 : decode cX1_lift 26 = .ok (.aload_n 0, 1) := by decide +kernel
theorem dX1_lift_27 : decode cX1_lift 27 = .ok (.getfield 34, 3) := by decide +kernel
theorem dX1_lift_30 : decode cX1_lift 30 = .ok (.iload_n 1, 1) := by decide +kernel
theorem dX1_lift_31 : decode cX1_lift 31 = .ok (.iaload, 1) := by decide +kernel
theorem dX1_lift_32 : decode cX1_lift 32 = .ok (.dup2, 1) := by decide +kernel
theorem dX1_lift_33 : decode cX1_lift 33 = .ok (.iaload, 1) := by decide +kernel
theorem dX1_lift_34 : decode cX1_lift 34 = .ok (.iconst 1, 1) := by decide +kernel
theorem dX1_lift_35 : decode cX1_lift 35 = .ok (.isub, 1) := by decide +kernel
theorem dX1_lift_36 : decode cX1_lift 36 = .ok (.iastore, 1) := by decide +kernel
theorem dX1_lift_37 : decode cX1_lift 37 = .ok (.aload_n 0, 1) := by decide +kernel
theorem dX1_lift_38 : decode cX1_lift 38 = .ok (.getfield 34, 3) := by decide +kernel
theorem dX1_lift_41 : decode cX1_lift 41 = .ok (.iload_n 1, 1) := by decide +kernel
theorem dX1_lift_42 : decode cX1_lift 42 = .ok (.iconst (-1), 1) := by decide +kernel
theorem dX1_lift_43 : decode cX1_lift 43 = .ok (.iastore, 1) := by decide +kernel
theorem dX1_lift_44 : decode cX1_lift 44 = .ok (.aload_n 0, 1) := by decide +kernel
theorem dX1_lift_45 : decode cX1_lift 45 = .ok (.getfield 37, 3) := by decide +kernel
theorem dX1_lift_48 : decode cX1_lift 48 = .ok (.iload_n 1, 1) := by decide +kernel
theorem dX1_lift_49 : decode cX1_lift 49 = .ok (.iconst (-1), 1) := by decide +kernel
theorem dX1_lift_50 : decode cX1_lift 50 = .ok (.iastore, 1) := by decide +kernel
theorem dX1_lift_51 : decode cX1_lift 51 = .ok (.return_, 1) := by decide +kernel
theorem dX1_freeCell_0 : decode cX1_freeCell 0 = .ok (.iconst 0, 1) := by decide +kernel
theorem dX1_freeCell_1 : decode cX1_freeCell 1 = .ok (.istore_n 2, 1) := by decide +kernel
theorem dX1_freeCell_2 : decode cX1_freeCell 2 = .ok (.aload_n 0, 1) := by decide +kernel
theorem dX1_freeCell_3 : decode cX1_freeCell 3 = .ok (.getfield 28, 3) := by decide +kernel
theorem dX1_freeCell_6 : decode cX1_freeCell 6 = .ok (.bipush 64, 2) := by decide +kernel
theorem dX1_freeCell_8 : decode cX1_freeCell 8 = .ok (.iload_n 1, 1) := by decide +kernel
theorem dX1_freeCell_9 : decode cX1_freeCell 9 = .ok (.imul, 1) := by decide +kernel
theorem dX1_freeCell_10 : decode cX1_freeCell 10 = .ok (.iload_n 2, 1) := by decide +kernel
theorem dX1_freeCell_11 : decode cX1_freeCell 11 = .ok (.iadd, 1) := by decide +kernel
theorem dX1_freeCell_12 : decode cX1_freeCell 12 = .ok (.iaload, 1) := by decide +kernel
theorem dX1_freeCell_13 : decode cX1_freeCell 13 = .ok (.iconst (-1), 1) := by decide +kernel
theorem dX1_freeCell_14 : decode cX1_freeCell 14 = .ok (.if_icmp .eq 9, 3) := by decide +kernel
theorem dX1_freeCell_17 : decode cX1_freeCell 17 = .ok (.iinc 2 1, 3) := by decide +kernel
theorem dX1_freeCell_20 : decode cX1_freeCell 20 = .ok (.goto (-18), 3) := by decide +kernel
theorem dX1_freeCell_23 : decode cX1_freeCell 23 = .ok (.iload_n 2, 1) := by decide +kernel
theorem dX1_freeCell_24 : decode cX1_freeCell 24 = .ok (.ireturn, 1) := by decide +kernel
theorem dX1_lastThing_0 : decode cX1_lastThing 0 = .ok (.bipush 63, 2) := by decide +kernel
theorem dX1_lastThing_2 : decode cX1_lastThing 2 = .ok (.istore_n 2, 1) := by decide +kernel
theorem dX1_lastThing_3 : decode cX1_lastThing 3 = .ok (.aload_n 0, 1) := by decide +kernel
theorem dX1_lastThing_4 : decode cX1_lastThing 4 = .ok (.getfield 28, 3) := by decide +kernel
theorem dX1_lastThing_7 : decode cX1_lastThing 7 = .ok (.bipush 64, 2) := by decide +kernel
theorem dX1_lastThing_9 : decode cX1_lastThing 9 = .ok (.iload_n 1, 1) := by decide +kernel
theorem dX1_lastThing_10 : decode cX1_lastThing 10 = .ok (.imul, 1) := by decide +kernel
theorem dX1_lastThing_11 : decode cX1_lastThing 11 = .ok (.iload_n 2, 1) := by decide +kernel
theorem dX1_lastThing_12 : decode cX1_lastThing 12 = .ok (.iadd, 1) := by decide +kernel
theorem dX1_lastThing_13 : decode cX1_lastThing 13 = .ok (.iaload, 1) := by decide +kernel
theorem dX1_lastThing_14 : decode cX1_lastThing 14 = .ok (.iconst (-1), 1) := by decide +kernel
theorem dX1_lastThing_15 : decode cX1_lastThing 15 = .ok (.if_icmp .ne 9, 3) := by decide +kernel
theorem dX1_lastThing_18 : decode cX1_lastThing 18 = .ok (.iinc 2 (-1), 3) := by decide +kernel
theorem dX1_lastThing_21 : decode cX1_lastThing 21 = .ok (.goto (-18), 3) := by decide +kernel
theorem dX1_lastThing_24 : decode cX1_lastThing 24 = .ok (.aload_n 0, 1) := by decide +kernel
theorem dX1_lastThing_25 : decode cX1_lastThing 25 = .ok (.getfield 28, 3) := by decide +kernel
theorem dX1_lastThing_28 : decode cX1_lastThing 28 = .ok (.bipush 64, 2) := by decide +kernel
theorem dX1_lastThing_30 : decode cX1_lastThing 30 = .ok (.iload_n 1, 1) := by decide +kernel
theorem dX1_lastThing_31 : decode cX1_lastThing 31 = .ok (.imul, 1) := by decide +kernel
theorem dX1_lastThing_32 : decode cX1_lastThing 32 = .ok (.iload_n 2, 1) := by decide +kernel
theorem dX1_lastThing_33 : decode cX1_lastThing 33 = .ok (.iadd, 1) := by decide +kernel
theorem dX1_lastThing_34 : decode cX1_lastThing 34 = .ok (.iaload, 1) := by decide +kernel
theorem dX1_lastThing_35 : decode cX1_lastThing 35 = .ok (.ireturn, 1) := by decide +kernel
theorem dX1_close_0 : decode cX1_close 0 = .ok (.aload_n 0, 1) := by decide +kernel
theorem dX1_close_1 : decode cX1_close 1 = .ok (.getfield 19, 3) := by decide +kernel
theorem dX1_close_4 : decode cX1_close 4 = .ok (.iload_n 1, 1) := by decide +kernel
theorem dX1_close_5 : decode cX1_close 5 = .ok (.iconst (-1), 1) := by decide +kernel
theorem dX1_close_6 : decode cX1_close 6 = .ok (.iastore, 1) := by decide +kernel
theorem dX1_close_7 : decode cX1_close 7 = .ok (.aload_n 0, 1) := by decide +kernel
theorem dX1_close_8 : decode cX1_close 8 = .ok (.dup, 1) := by decide +kernel
theorem dX1_close_9 : decode cX1_close 9 = .ok (.getfield 75, 3) := by decide +kernel
theorem dX1_close_12 : decode cX1_close 12 = .ok (.iconst 1, 1) := by decide +kernel
theorem dX1_close_13 : decode cX1_close 13 = .ok (.iadd, 1) := by decide +kernel
theorem dX1_close_14 : decode cX1_close 14 = .ok (.putfield 75, 3) := by decide +kernel
theorem dX1_close_17 : decode cX1_close 17 = .ok (.return_, 1) := by decide +kernel
set_option maxRecDepth 20000 in
theorem ggX1_empties_X1_isEmpty : GoodIn wsX1_empties wsX1_isEmpty := goodIn_r _ [5, 6, 7, 8, 9, 10, 11, 12, 13, 14, 15, 16, 17, 18, 19, 20, 21, 22] (by decide +kernel) (by decide +kernel)
set_option maxRecDepth 20000 in
theorem gX1_empties_X1_isEmpty : GoodIn wsX1_empties (wsV RX1 62 RX1 yX1_isEmpty wsX1_isEmpty) := goodIn_app (goodIn_of _ (by decide +kernel)) ggX1_empties_X1_isEmpty
theorem dX1_empties_0 : decode cX1_empties 0 = .ok (.iconst 0, 1) := by decide +kernel
theorem dX1_empties_1 : decode cX1_empties 1 = .ok (.istore_n 2, 1) := by decide +kernel
theorem dX1_empties_2 : decode cX1_empties 2 = .ok (.iconst 0, 1) := by decide +kernel
theorem dX1_empties_3 : decode cX1_empties 3 = .ok (.istore_n 3, 1) := by decide +kernel
theorem dX1_empties_4 : decode cX1_empties 4 = .ok (.iload_n 3, 1) := by decide +kernel
theorem dX1_empties_5 : decode cX1_empties 5 = .ok (.bipush 20, 2) := by decide +kernel
theorem dX1_empties_7 : decode cX1_empties 7 = .ok (.if_icmp .ge 26, 3) := by decide +kernel
theorem dX1_empties_10 : decode cX1_empties 10 = .ok (.iload_n 2, 1) := by decide +kernel
theorem dX1_empties_11 : decode cX1_empties 11 = .ok (.aload_n 0, 1) := by decide +kernel
theorem dX1_empties_12 : decode cX1_empties 12 = .ok (.iload_n 3, 1) := by decide +kernel
theorem dX1_empties_13 : decode cX1_empties 13 = .ok (.iload_n 1, 1) := by decide +kernel
theorem dX1_empties_14 : decode cX1_empties 14 = .ok (.invokevirtual 62, 3) := by decide +kernel
theorem dX1_empties_17 : decode cX1_empties 17 = .ok (.ifCond .eq 7, 3) := by decide +kernel
theorem dX1_empties_20 : decode cX1_empties 20 = .ok (.iconst 1, 1) := by decide +kernel
theorem dX1_empties_21 : decode cX1_empties 21 = .ok (.goto 4, 3) := by decide +kernel
theorem dX1_empties_24 : decode cX1_empties 24 = .ok (.iconst 0, 1) := by decide +kernel
theorem dX1_empties_25 : decode cX1_empties 25 = .ok (.iadd, 1) := by decide +kernel
theorem dX1_empties_26 : decode cX1_empties 26 = .ok (.istore_n 2, 1) := by decide +kernel
theorem dX1_empties_27 : decode cX1_empties 27 = .ok (.iinc 3 1, 3) := by decide +kernel
theorem dX1_empties_30 : decode cX1_empties 30 = .ok (.goto (-26), 3) := by decide +kernel
theorem dX1_empties_33 : decode cX1_empties 33 = .ok (.iload_n 2, 1) := by decide +kernel
theorem dX1_empties_34 : decode cX1_empties 34 = .ok (.ireturn, 1) := by decide +kernel
set_option maxRecDepth 20000 in
theorem ggX1_kind_X1_isIn : GoodIn wsX1_kind wsX1_isIn := goodIn_r _ [8] (by decide +kernel) (by decide +kernel)
set_option maxRecDepth 20000 in
theorem gX1_kind_X1_isIn : GoodIn wsX1_kind (va_wsS RX1 47 yX1_isIn wsX1_isIn) := goodIn_app (goodIn_of _ (by decide +kernel)) ggX1_kind_X1_isIn
set_option maxRecDepth 20000 in
theorem ggX1_kind_X1_no : GoodIn wsX1_kind wsX1_no := goodIn_r _ [12, 1, 13, 14, 15, 16, 17, 18, 19, 20, 21, 22, 23, 24, 25, 26, 27] (by decide +kernel) (by decide +kernel)
set_option maxRecDepth 20000 in
theorem gX1_kind_X1_no : GoodIn wsX1_kind (wsV RX1 78 RX1 yX1_no wsX1_no) := goodIn_app (goodIn_of _ (by decide +kernel)) ggX1_kind_X1_no
theorem dX1_kind_0 : decode cX1_kind 0 = .ok (.aload_n 0, 1) := by decide +kernel
theorem dX1_kind_1 : decode cX1_kind 1 = .ok (.iconst 0, 1) := by decide +kernel
theorem dX1_kind_2 : decode cX1_kind 2 = .ok (.putfield 40, 3) := by decide +kernel
theorem dX1_kind_5 : decode cX1_kind 5 = .ok (.iload_n 1, 1) := by decide +kernel
theorem dX1_kind_6 : decode cX1_kind 6 = .ok (.iconst 1, 1) := by decide +kernel
theorem dX1_kind_7 : decode cX1_kind 7 = .ok (.bipush 32, 2) := by decide +kernel
theorem dX1_kind_9 : decode cX1_kind 9 = .ok (.invokestatic 47, 3) := by decide +kernel
theorem dX1_kind_12 : decode cX1_kind 12 = .ok (.ifCond .eq 13, 3) := by decide +kernel
theorem dX1_kind_15 : decode cX1_kind 15 = .ok (.iload_n 2, 1) := by decide +kernel
theorem dX1_kind_16 : decode cX1_kind 16 = .ok (.iconst 1, 1) := by decide +kernel
theorem dX1_kind_17 : decode cX1_kind 17 = .ok (.bipush 16, 2) := by decide +kernel
theorem dX1_kind_19 : decode cX1_kind 19 = .ok (.invokestatic 47, 3) := by decide +kernel
theorem dX1_kind_22 : decode cX1_kind 22 = .ok (.ifCond .ne 9, 3) := by decide +kernel
theorem dX1_kind_25 : decode cX1_kind 25 = .ok (.aload_n 0, 1) := by decide +kernel
theorem dX1_kind_26 : decode cX1_kind 26 = .ok (.iconst 1, 1) := by decide +kernel
theorem dX1_kind_27 : decode cX1_kind 27 = .ok (.invokevirtual 78, 3) := by decide +kernel
theorem dX1_kind_30 : decode cX1_kind 30 = .ok (.ireturn, 1) := by decide +kernel
theorem dX1_kind_31 : decode cX1_kind 31 = .ok (.aload_n 0, 1) := by decide +kernel
theorem dX1_kind_32 : decode cX1_kind 32 = .ok (.getfield 44, 3) := by decide +kernel
theorem dX1_kind_35 : decode cX1_kind 35 = .ok (.bipush 6, 2) := by decide +kernel
theorem dX1_kind_37 : decode cX1_kind 37 = .ok (.if_icmp .ne 9, 3) := by decide +kernel
theorem dX1_kind_40 : decode cX1_kind 40 = .ok (.aload_n 0, 1) := by decide +kernel
theorem dX1_kind_41 : decode cX1_kind 41 = .ok (.iconst 2, 1) := by decide +kernel
theorem dX1_kind_42 : decode cX1_kind 42 = .ok (.invokevirtual 78, 3) := by decide +kernel
theorem dX1_kind_45 : decode cX1_kind 45 = .ok (.ireturn, 1) := by decide +kernel
theorem dX1_kind_46 : decode cX1_kind 46 = .ok (.aload_n 0, 1) := by decide +kernel
theorem dX1_kind_47 : decode cX1_kind 47 = .ok (.getfield 9, 3) := by decide +kernel
theorem dX1_kind_50 : decode cX1_kind 50 = .ok (.aload_n 0, 1) := by decide +kernel
theorem dX1_kind_51 : decode cX1_kind 51 = .ok (.getfield 44, 3) := by decide +kernel
theorem dX1_kind_54 : decode cX1_kind 54 = .ok (.iload_n 1, 1) := by decide +kernel
theorem dX1_kind_55 : decode cX1_kind 55 = .ok (.iastore, 1) := by decide +kernel
theorem dX1_kind_56 : decode cX1_kind 56 = .ok (.aload_n 0, 1) := by decide +kernel
theorem dX1_kind_57 : decode cX1_kind 57 = .ok (.getfield 13, 3) := by decide +kernel
theorem dX1_kind_60 : decode cX1_kind 60 = .ok (.aload_n 0, 1) := by decide +kernel
theorem dX1_kind_61 : decode cX1_kind 61 = .ok (.getfield 44, 3) := by decide +kernel
theorem dX1_kind_64 : decode cX1_kind 64 = .ok (.iload_n 2, 1) := by decide +kernel
theorem dX1_kind_65 : decode cX1_kind 65 = .ok (.iastore, 1) := by decide +kernel
theorem dX1_kind_66 : decode cX1_kind 66 = .ok (.aload_n 0, 1) := by decide +kernel
theorem dX1_kind_67 : decode cX1_kind 67 = .ok (.dup, 1) := by decide +kernel
theorem dX1_kind_68 : decode cX1_kind 68 = .ok (.getfield 44, 3) := by decide +kernel
theorem dX1_kind_71 : decode cX1_kind 71 = .ok (.iconst 1, 1) := by decide +kernel
theorem dX1_kind_72 : decode cX1_kind 72 = .ok (.iadd, 1) := by decide +kernel
theorem dX1_kind_73 : decode cX1_kind 73 = .ok (.putfield 44, 3) := by decide +kernel
theorem dX1_kind_76 : decode cX1_kind 76 = .ok (.aload_n 0, 1) := by decide +kernel
theorem dX1_kind_77 : decode cX1_kind 77 = .ok (.getfield 44, 3) := by decide +kernel
theorem dX1_kind_80 : decode cX1_kind 80 = .ok (.iconst 1, 1) := by decide +kernel
theorem dX1_kind_81 : decode cX1_kind 81 = .ok (.isub, 1) := by decide +kernel
theorem dX1_kind_82 : decode cX1_kind 82 = .ok (.ireturn, 1) := by decide +kernel
set_option maxRecDepth 20000 in
theorem ggX1_put_X1_isKind : GoodIn wsX1_put wsX1_isKind := goodIn_r _ [9, 10, 11, 12, 8, 13, 66, 67, 68, 69, 70, 71, 72, 73, 74, 75, 76, 77, 78, 79, 80] (by decide +kernel) (by decide +kernel)
set_option maxRecDepth 20000 in
theorem gX1_put_X1_isKind : GoodIn wsX1_put (wsV RX1 81 RX1 yX1_isKind wsX1_isKind) := goodIn_app (goodIn_of _ (by decide +kernel)) ggX1_put_X1_isKind
set_option maxRecDepth 20000 in
theorem ggX1_put_X1_no : GoodIn wsX1_put wsX1_no := goodIn_r _ [17, 1, 66, 67, 68, 69, 70, 71, 72, 73, 74, 75, 76, 77, 78, 79, 80] (by decide +kernel) (by decide +kernel)
set_option maxRecDepth 20000 in
theorem gX1_put_X1_no : GoodIn wsX1_put (wsV RX1 78 RX1 yX1_no wsX1_no) := goodIn_app (goodIn_of _ (by decide +kernel)) ggX1_put_X1_no
set_option maxRecDepth 20000 in
theorem ggX1_put_X1_goesTo : GoodIn wsX1_put wsX1_goesTo := goodIn_r _ [21, 22, 23, 24, 8, 25, 26, 27, 28, 29, 30, 3, 31, 32, 33, 34, 35, 36, 37, 38, 39, 40, 41, 42, 43, 44, 45, 46, 47, 66, 67, 68, 69, 70, 71, 72, 73, 74, 75, 76, 77, 78, 79, 80] (by decide +kernel) (by decide +kernel)
set_option maxRecDepth 20000 in
theorem gX1_put_X1_goesTo : GoodIn wsX1_put (wsV RX1 85 RX1 yX1_goesTo wsX1_goesTo) := goodIn_app (goodIn_of _ (by decide +kernel)) ggX1_put_X1_goesTo
set_option maxRecDepth 20000 in
theorem ggX1_put_X1_open : GoodIn wsX1_put wsX1_open := goodIn_r _ [51, 3, 52, 53, 26, 54, 55, 35, 66, 67, 68, 69, 70, 71, 72, 73, 74, 75, 76, 77, 78, 79, 80] (by decide +kernel) (by decide +kernel)
set_option maxRecDepth 20000 in
theorem gX1_put_X1_open : GoodIn wsX1_put (wsV RX1 88 RX1 yX1_open wsX1_open) := goodIn_app (goodIn_of _ (by decide +kernel)) ggX1_put_X1_open
set_option maxRecDepth 20000 in
theorem ggX1_put_X1_freeCell : GoodIn wsX1_put wsX1_freeCell := goodIn_r _ [59, 54, 66, 67, 68, 69, 70, 71, 72, 73, 74, 75, 76, 77, 78, 79, 80] (by decide +kernel) (by decide +kernel)
set_option maxRecDepth 20000 in
theorem gX1_put_X1_freeCell : GoodIn wsX1_put (wsV RX1 92 RX1 yX1_freeCell wsX1_freeCell) := goodIn_app (goodIn_of _ (by decide +kernel)) ggX1_put_X1_freeCell
set_option maxRecDepth 20000 in
theorem ggX1_put_X1_lay : GoodIn wsX1_put wsX1_lay := goodIn_r _ [63, 64, 65, 54, 26, 66, 67, 68, 69, 70, 71, 72, 73, 74, 75, 76, 77, 78, 79, 80] (by decide +kernel) (by decide +kernel)
set_option maxRecDepth 20000 in
theorem gX1_put_X1_lay : GoodIn wsX1_put (wsV RX1 95 RX1 yX1_lay wsX1_lay) := goodIn_app (goodIn_of _ (by decide +kernel)) ggX1_put_X1_lay
theorem dX1_put_0 : decode cX1_put 0 = .ok (.aload_n 0, 1) := by decide +kernel
theorem dX1_put_1 : decode cX1_put 1 = .ok (.iconst 0, 1) := by decide +kernel
theorem dX1_put_2 : decode cX1_put 2 = .ok (.putfield 40, 3) := by decide +kernel
theorem dX1_put_5 : decode cX1_put 5 = .ok (.aload_n 0, 1) := by decide +kernel
theorem dX1_put_6 : decode cX1_put 6 = .ok (.iload_n 1, 1) := by decide +kernel
theorem dX1_put_7 : decode cX1_put 7 = .ok (.invokevirtual 81, 3) := by decide +kernel
theorem dX1_put_10 : decode cX1_put 10 = .ok (.ifCond .ne 9, 3) := by decide +kernel
theorem dX1_put_13 : decode cX1_put 13 = .ok (.aload_n 0, 1) := by decide +kernel
theorem dX1_put_14 : decode cX1_put 14 = .ok (.iconst 1, 1) := by decide +kernel
theorem dX1_put_15 : decode cX1_put 15 = .ok (.invokevirtual 78, 3) := by decide +kernel
theorem dX1_put_18 : decode cX1_put 18 = .ok (.ireturn, 1) := by decide +kernel
theorem dX1_put_19 : decode cX1_put 19 = .ok (.aload_n 0, 1) := by decide +kernel
theorem dX1_put_20 : decode cX1_put 20 = .ok (.iload_n 1, 1) := by decide +kernel
theorem dX1_put_21 : decode cX1_put 21 = .ok (.invokevirtual 85, 3) := by decide +kernel
theorem dX1_put_24 : decode cX1_put 24 = .ok (.istore_n 2, 1) := by decide +kernel
theorem dX1_put_25 : decode cX1_put 25 = .ok (.aload_n 0, 1) := by decide +kernel
theorem dX1_put_26 : decode cX1_put 26 = .ok (.getfield 51, 3) := by decide +kernel
theorem dX1_put_29 : decode cX1_put 29 = .ok (.sipush 150, 3) := by decide +kernel
theorem dX1_put_32 : decode cX1_put 32 = .ok (.if_icmp .eq 8, 3) := by decide +kernel
theorem dX1_put_35 : decode cX1_put 35 = .ok (.iload_n 2, 1) := by decide +kernel
theorem dX1_put_36 : decode cX1_put 36 = .ok (.iconst (-1), 1) := by decide +kernel
theorem dX1_put_37 : decode cX1_put 37 = .ok (.if_icmp .ne 9, 3) := by decide +kernel
theorem dX1_put_40 : decode cX1_put 40 = .ok (.aload_n 0, 1) := by decide +kernel
theorem dX1_put_41 : decode cX1_put 41 = .ok (.iconst 2, 1) := by decide +kernel
theorem dX1_put_42 : decode cX1_put 42 = .ok (.invokevirtual 78, 3) := by decide +kernel
theorem dX1_put_45 : decode cX1_put 45 = .ok (.ireturn, 1) := by decide +kernel
theorem dX1_put_46 : decode cX1_put 46 = .ok (.aload_n 0, 1) := by decide +kernel
theorem dX1_put_47 : decode cX1_put 47 = .ok (.getfield 19, 3) := by decide +kernel
theorem dX1_put_50 : decode cX1_put 50 = .ok (.iload_n 2, 1) := by decide +kernel
theorem dX1_put_51 : decode cX1_put 51 = .ok (.iaload, 1) := by decide +kernel
theorem dX1_put_52 : decode cX1_put 52 = .ok (.iconst (-1), 1) := by decide +kernel
theorem dX1_put_53 : decode cX1_put 53 = .ok (.if_icmp .ne 9, 3) := by decide +kernel
theorem dX1_put_56 : decode cX1_put 56 = .ok (.aload_n 0, 1) := by decide +kernel
theorem dX1_put_57 : decode cX1_put 57 = .ok (.iload_n 2, 1) := by decide +kernel
theorem dX1_put_58 : decode cX1_put 58 = .ok (.iload_n 1, 1) := by decide +kernel
theorem dX1_put_59 : decode cX1_put 59 = .ok (.invokevirtual 88, 3) := by decide +kernel
theorem dX1_put_62 : decode cX1_put 62 = .ok (.aload_n 0, 1) := by decide +kernel
theorem dX1_put_63 : decode cX1_put 63 = .ok (.getfield 31, 3) := by decide +kernel
theorem dX1_put_66 : decode cX1_put 66 = .ok (.aload_n 0, 1) := by decide +kernel
theorem dX1_put_67 : decode cX1_put 67 = .ok (.getfield 51, 3) := by decide +kernel
theorem dX1_put_70 : decode cX1_put 70 = .ok (.iload_n 1, 1) := by decide +kernel
theorem dX1_put_71 : decode cX1_put 71 = .ok (.iastore, 1) := by decide +kernel
theorem dX1_put_72 : decode cX1_put 72 = .ok (.aload_n 0, 1) := by decide +kernel
theorem dX1_put_73 : decode cX1_put 73 = .ok (.aload_n 0, 1) := by decide +kernel
theorem dX1_put_74 : decode cX1_put 74 = .ok (.getfield 51, 3) := by decide +kernel
theorem dX1_put_77 : decode cX1_put 77 = .ok (.iload_n 2, 1) := by decide +kernel
theorem dX1_put_78 : decode cX1_put 78 = .ok (.aload_n 0, 1) := by decide +kernel
theorem dX1_put_79 : decode cX1_put 79 = .ok (.iload_n 2, 1) := by decide +kernel
theorem dX1_put_80 : decode cX1_put 80 = .ok (.invokevirtual 92, 3) := by decide +kernel
theorem dX1_put_83 : decode cX1_put 83 = .ok (.invokevirtual 95, 3) := by decide +kernel
theorem dX1_put_86 : decode cX1_put 86 = .ok (.aload_n 0, 1) := by decide +kernel
theorem dX1_put_87 : decode cX1_put 87 = .ok (.dup, 1) := by decide +kernel
theorem dX1_put_88 : decode cX1_put 88 = .ok (.getfield 51, 3) := by decide +kernel
theorem dX1_put_91 : decode cX1_put 91 = .ok (.iconst 1, 1) := by decide +kernel
theorem dX1_put_92 : decode cX1_put 92 = .ok (.iadd, 1) := by decide +kernel
theorem dX1_put_93 : decode cX1_put 93 = .ok (.putfield 51, 3) := by decide +kernel
theorem dX1_put_96 : decode cX1_put 96 = .ok (.aload_n 0, 1) := by decide +kernel
theorem dX1_put_97 : decode cX1_put 97 = .ok (.getfield 51, 3) := by decide +kernel
theorem dX1_put_100 : decode cX1_put 100 = .ok (.iconst 1, 1) := by decide +kernel
theorem dX1_put_101 : decode cX1_put 101 = .ok (.isub, 1) := by decide +kernel
theorem dX1_put_102 : decode cX1_put 102 = .ok (.ireturn, 1) := by decide +kernel
set_option maxRecDepth 20000 in
theorem ggX1_take_X1_isThing : GoodIn wsX1_take wsX1_isThing := goodIn_r _ [9, 10, 11, 12, 8, 13, 33, 34, 35, 36, 37, 38, 39, 40, 41, 42, 43, 44, 45, 46, 47] (by decide +kernel) (by decide +kernel)
set_option maxRecDepth 20000 in
theorem gX1_take_X1_isThing : GoodIn wsX1_take (wsV RX1 99 RX1 yX1_isThing wsX1_isThing) := goodIn_app (goodIn_of _ (by decide +kernel)) ggX1_take_X1_isThing
set_option maxRecDepth 20000 in
theorem ggX1_take_X1_lift : GoodIn wsX1_take wsX1_lift := goodIn_r _ [17, 18, 1, 19, 3, 33, 34, 35, 36, 37, 38, 39, 40, 41, 42, 43, 44, 45, 46, 47] (by decide +kernel) (by decide +kernel)
set_option maxRecDepth 20000 in
theorem gX1_take_X1_lift : GoodIn wsX1_take (wsV RX1 102 RX1 yX1_lift wsX1_lift) := goodIn_app (goodIn_of _ (by decide +kernel)) ggX1_take_X1_lift
set_option maxRecDepth 20000 in
theorem ggX1_take_X1_empties : GoodIn wsX1_take wsX1_empties := goodIn_r _ [23, 24, 25, 26, 8, 27, 4, 3, 33, 34, 35, 36, 37, 38, 39, 40, 41, 42, 43, 44, 45, 46, 47] (by decide +kernel) (by decide +kernel)
set_option maxRecDepth 20000 in
theorem gX1_take_X1_empties : GoodIn wsX1_take (wsV RX1 106 RX1 yX1_empties wsX1_empties) := goodIn_app (goodIn_of _ (by decide +kernel)) ggX1_take_X1_empties
set_option maxRecDepth 20000 in
theorem ggX1_take_X1_close : GoodIn wsX1_take wsX1_close := goodIn_r _ [31, 4, 32, 33, 34, 35, 36, 37, 38, 39, 40, 41, 42, 43, 44, 45, 46, 47] (by decide +kernel) (by decide +kernel)
set_option maxRecDepth 20000 in
theorem gX1_take_X1_close : GoodIn wsX1_take (wsV RX1 109 RX1 yX1_close wsX1_close) := goodIn_app (goodIn_of _ (by decide +kernel)) ggX1_take_X1_close
theorem dX1_take_0 : decode cX1_take 0 = .ok (.aload_n 0, 1) := by decide +kernel
theorem dX1_take_1 : decode cX1_take 1 = .ok (.aload_n 0, 1) := by decide +kernel
theorem dX1_take_2 : decode cX1_take 2 = .ok (.iload_n 1, 1) := by decide +kernel
theorem dX1_take_3 : decode cX1_take 3 = .ok (.invokevirtual 99, 3) := by decide +kernel
theorem dX1_take_6 : decode cX1_take 6 = .ok (.ifCond .ne 7, 3) := by decide +kernel
theorem dX1_take_9 : decode cX1_take 9 = .ok (.iconst 1, 1) := by decide +kernel
theorem dX1_take_10 : decode cX1_take 10 = .ok (.goto 18, 3) := by decide +kernel
theorem dX1_take_13 : decode cX1_take 13 = .ok (.aload_n 0, 1) := by decide +kernel
theorem dX1_take_14 : decode cX1_take 14 = .ok (.getfield 34, 3) := by decide +kernel
theorem dX1_take_17 : decode cX1_take 17 = .ok (.iload_n 1, 1) := by decide +kernel
theorem dX1_take_18 : decode cX1_take 18 = .ok (.iaload, 1) := by decide +kernel
theorem dX1_take_19 : decode cX1_take 19 = .ok (.iconst (-1), 1) := by decide +kernel
theorem dX1_take_20 : decode cX1_take 20 = .ok (.if_icmp .ne 7, 3) := by decide +kernel
theorem dX1_take_23 : decode cX1_take 23 = .ok (.iconst 2, 1) := by decide +kernel
theorem dX1_take_24 : decode cX1_take 24 = .ok (.goto 4, 3) := by decide +kernel
theorem dX1_take_27 : decode cX1_take 27 = .ok (.iconst 0, 1) := by decide +kernel
theorem dX1_take_28 : decode cX1_take 28 = .ok (.putfield 40, 3) := by decide +kernel
theorem dX1_take_31 : decode cX1_take 31 = .ok (.aload_n 0, 1) := by decide +kernel
theorem dX1_take_32 : decode cX1_take 32 = .ok (.getfield 40, 3) := by decide +kernel
theorem dX1_take_35 : decode cX1_take 35 = .ok (.ifCond .eq 5, 3) := by decide +kernel
theorem dX1_take_38 : decode cX1_take 38 = .ok (.iconst 0, 1) := by decide +kernel
theorem dX1_take_39 : decode cX1_take 39 = .ok (.ireturn, 1) := by decide +kernel
theorem dX1_take_40 : decode cX1_take 40 = .ok (.aload_n 0, 1) := by decide +kernel
theorem dX1_take_41 : decode cX1_take 41 = .ok (.getfield 34, 3) := by decide +kernel
theorem dX1_take_44 : decode cX1_take 44 = .ok (.iload_n 1, 1) := by decide +kernel
theorem dX1_take_45 : decode cX1_take 45 = .ok (.iaload, 1) := by decide +kernel
theorem dX1_take_46 : decode cX1_take 46 = .ok (.istore_n 2, 1) := by decide +kernel
theorem dX1_take_47 : decode cX1_take 47 = .ok (.aload_n 0, 1) := by decide +kernel
theorem dX1_take_48 : decode cX1_take 48 = .ok (.iload_n 1, 1) := by decide +kernel
theorem dX1_take_49 : decode cX1_take 49 = .ok (.invokevirtual 102, 3) := by decide +kernel
theorem dX1_take_52 : decode cX1_take 52 = .ok (.aload_n 0, 1) := by decide +kernel
theorem dX1_take_53 : decode cX1_take 53 = .ok (.getfield 25, 3) := by decide +kernel
theorem dX1_take_56 : decode cX1_take 56 = .ok (.iload_n 2, 1) := by decide +kernel
theorem dX1_take_57 : decode cX1_take 57 = .ok (.iaload, 1) := by decide +kernel
theorem dX1_take_58 : decode cX1_take 58 = .ok (.ifCond .gt 17, 3) := by decide +kernel
theorem dX1_take_61 : decode cX1_take 61 = .ok (.aload_n 0, 1) := by decide +kernel
theorem dX1_take_62 : decode cX1_take 62 = .ok (.aload_n 0, 1) := by decide +kernel
theorem dX1_take_63 : decode cX1_take 63 = .ok (.getfield 19, 3) := by decide +kernel
theorem dX1_take_66 : decode cX1_take 66 = .ok (.iload_n 2, 1) := by decide +kernel
theorem dX1_take_67 : decode cX1_take 67 = .ok (.iaload, 1) := by decide +kernel
theorem dX1_take_68 : decode cX1_take 68 = .ok (.invokevirtual 106, 3) := by decide +kernel
theorem dX1_take_71 : decode cX1_take 71 = .ok (.iconst 2, 1) := by decide +kernel
theorem dX1_take_72 : decode cX1_take 72 = .ok (.if_icmp .ge 5, 3) := by decide +kernel
theorem dX1_take_75 : decode cX1_take 75 = .ok (.iconst 0, 1) := by decide +kernel
theorem dX1_take_76 : decode cX1_take 76 = .ok (.ireturn, 1) := by decide +kernel
theorem dX1_take_77 : decode cX1_take 77 = .ok (.aload_n 0, 1) := by decide +kernel
theorem dX1_take_78 : decode cX1_take 78 = .ok (.iload_n 2, 1) := by decide +kernel
theorem dX1_take_79 : decode cX1_take 79 = .ok (.invokevirtual 109, 3) := by decide +kernel
theorem dX1_take_82 : decode cX1_take 82 = .ok (.iconst 1, 1) := by decide +kernel
theorem dX1_take_83 : decode cX1_take 83 = .ok (.ireturn, 1) := by decide +kernel
set_option maxRecDepth 20000 in
theorem ggX1_sweep_X1_close : GoodIn wsX1_sweep wsX1_close := goodIn_r _ [9, 3, 2, 10, 11, 12, 13, 14, 15, 16, 17, 18, 19, 20, 21, 22, 23, 24] (by decide +kernel) (by decide +kernel)
set_option maxRecDepth 20000 in
theorem gX1_sweep_X1_close : GoodIn wsX1_sweep (wsV RX1 109 RX1 yX1_close wsX1_close) := goodIn_app (goodIn_of _ (by decide +kernel)) ggX1_sweep_X1_close
theorem dX1_sweep_0 : decode cX1_sweep 0 = .ok (.aload_n 0, 1) := by decide +kernel
theorem dX1_sweep_1 : decode cX1_sweep 1 = .ok (.iconst 0, 1) := by decide +kernel
theorem dX1_sweep_2 : decode cX1_sweep 2 = .ok (.putfield 40, 3) := by decide +kernel
theorem dX1_sweep_5 : decode cX1_sweep 5 = .ok (.aload_n 0, 1) := by decide +kernel
theorem dX1_sweep_6 : decode cX1_sweep 6 = .ok (.getfield 75, 3) := by decide +kernel
theorem dX1_sweep_9 : decode cX1_sweep 9 = .ok (.istore_n 1, 1) := by decide +kernel
theorem dX1_sweep_10 : decode cX1_sweep 10 = .ok (.iconst 0, 1) := by decide +kernel
theorem dX1_sweep_11 : decode cX1_sweep 11 = .ok (.istore_n 2, 1) := by decide +kernel
theorem dX1_sweep_12 : decode cX1_sweep 12 = .ok (.iload_n 2, 1) := by decide +kernel
theorem dX1_sweep_13 : decode cX1_sweep 13 = .ok (.bipush 20, 2) := by decide +kernel
theorem dX1_sweep_15 : decode cX1_sweep 15 = .ok (.if_icmp .ge 33, 3) := by decide +kernel
theorem dX1_sweep_18 : decode cX1_sweep 18 = .ok (.aload_n 0, 1) := by decide +kernel
theorem dX1_sweep_19 : decode cX1_sweep 19 = .ok (.getfield 19, 3) := by decide +kernel
theorem dX1_sweep_22 : decode cX1_sweep 22 = .ok (.iload_n 2, 1) := by decide +kernel
theorem dX1_sweep_23 : decode cX1_sweep 23 = .ok (.iaload, 1) := by decide +kernel
theorem dX1_sweep_24 : decode cX1_sweep 24 = .ok (.iconst (-1), 1) := by decide +kernel
theorem dX1_sweep_25 : decode cX1_sweep 25 = .ok (.if_icmp .eq 17, 3) := by decide +kernel
theorem dX1_sweep_28 : decode cX1_sweep 28 = .ok (.aload_n 0, 1) := by decide +kernel
theorem dX1_sweep_29 : decode cX1_sweep 29 = .ok (.getfield 25, 3) := by decide +kernel
theorem dX1_sweep_32 : decode cX1_sweep 32 = .ok (.iload_n 2, 1) := by decide +kernel
theorem dX1_sweep_33 : decode cX1_sweep 33 = .ok (.iaload, 1) := by decide +kernel
theorem dX1_sweep_34 : decode cX1_sweep 34 = .ok (.ifCond .ne 8, 3) := by decide +kernel
theorem dX1_sweep_37 : decode cX1_sweep 37 = .ok (.aload_n 0, 1) := by decide +kernel
theorem dX1_sweep_38 : decode cX1_sweep 38 = .ok (.iload_n 2, 1) := by decide +kernel
theorem dX1_sweep_39 : decode cX1_sweep 39 = .ok (.invokevirtual 109, 3) := by decide +kernel
theorem dX1_sweep_42 : decode cX1_sweep 42 = .ok (.iinc 2 1, 3) := by decide +kernel
theorem dX1_sweep_45 : decode cX1_sweep 45 = .ok (.goto (-33), 3) := by decide +kernel
theorem dX1_sweep_48 : decode cX1_sweep 48 = .ok (.aload_n 0, 1) := by decide +kernel
theorem dX1_sweep_49 : decode cX1_sweep 49 = .ok (.getfield 75, 3) := by decide +kernel
theorem dX1_sweep_52 : decode cX1_sweep 52 = .ok (.iload_n 1, 1) := by decide +kernel
theorem dX1_sweep_53 : decode cX1_sweep 53 = .ok (.isub, 1) := by decide +kernel
theorem dX1_sweep_54 : decode cX1_sweep 54 = .ok (.ireturn, 1) := by decide +kernel
set_option maxRecDepth 20000 in
theorem ggX1_pack_X1_isKind : GoodIn wsX1_pack wsX1_isKind := goodIn_r _ [7, 8, 9, 10, 6, 11, 54, 55, 56, 57, 58, 59, 60, 61, 62, 63, 64, 65, 66, 67, 68] (by decide +kernel) (by decide +kernel)
set_option maxRecDepth 20000 in
theorem gX1_pack_X1_isKind : GoodIn wsX1_pack (wsV RX1 81 RX1 yX1_isKind wsX1_isKind) := goodIn_app (goodIn_of _ (by decide +kernel)) ggX1_pack_X1_isKind
set_option maxRecDepth 20000 in
theorem ggX1_pack_X1_no : GoodIn wsX1_pack wsX1_no := goodIn_r _ [15, 1, 54, 55, 56, 57, 58, 59, 60, 61, 62, 63, 64, 65, 66, 67, 68] (by decide +kernel) (by decide +kernel)
set_option maxRecDepth 20000 in
theorem gX1_pack_X1_no : GoodIn wsX1_pack (wsV RX1 78 RX1 yX1_no wsX1_no) := goodIn_app (goodIn_of _ (by decide +kernel)) ggX1_pack_X1_no
set_option maxRecDepth 20000 in
theorem ggX1_pack_X1_fullest : GoodIn wsX1_pack wsX1_fullest := goodIn_r _ [19, 20, 21, 22, 23, 6, 24, 25, 26, 27, 28, 29, 30, 54, 55, 56, 57, 58, 59, 60, 61, 62, 63, 64, 65, 66, 67, 68] (by decide +kernel) (by decide +kernel)
set_option maxRecDepth 20000 in
theorem gX1_pack_X1_fullest : GoodIn wsX1_pack (wsV RX1 65 RX1 yX1_fullest wsX1_fullest) := goodIn_app (goodIn_of _ (by decide +kernel)) ggX1_pack_X1_fullest
set_option maxRecDepth 20000 in
theorem ggX1_pack_X1_leanest : GoodIn wsX1_pack wsX1_leanest := goodIn_r _ [34, 20, 21, 22, 23, 6, 24, 25, 26, 27, 28, 29, 30, 54, 55, 56, 57, 58, 59, 60, 61, 62, 63, 64, 65, 66, 67, 68] (by decide +kernel) (by decide +kernel)
set_option maxRecDepth 20000 in
theorem gX1_pack_X1_leanest : GoodIn wsX1_pack (wsV RX1 115 RX1 yX1_leanest wsX1_leanest) := goodIn_app (goodIn_of _ (by decide +kernel)) ggX1_pack_X1_leanest
set_option maxRecDepth 20000 in
theorem ggX1_pack_X1_lastThing : GoodIn wsX1_pack wsX1_lastThing := goodIn_r _ [38, 39, 54, 55, 56, 57, 58, 59, 60, 61, 62, 63, 64, 65, 66, 67, 68] (by decide +kernel) (by decide +kernel)
set_option maxRecDepth 20000 in
theorem gX1_pack_X1_lastThing : GoodIn wsX1_pack (wsV RX1 118 RX1 yX1_lastThing wsX1_lastThing) := goodIn_app (goodIn_of _ (by decide +kernel)) ggX1_pack_X1_lastThing
set_option maxRecDepth 20000 in
theorem ggX1_pack_X1_lift : GoodIn wsX1_pack wsX1_lift := goodIn_r _ [43, 39, 44, 45, 20, 54, 55, 56, 57, 58, 59, 60, 61, 62, 63, 64, 65, 66, 67, 68] (by decide +kernel) (by decide +kernel)
set_option maxRecDepth 20000 in
theorem gX1_pack_X1_lift : GoodIn wsX1_pack (wsV RX1 102 RX1 yX1_lift wsX1_lift) := goodIn_app (goodIn_of _ (by decide +kernel)) ggX1_pack_X1_lift
set_option maxRecDepth 20000 in
theorem ggX1_pack_X1_freeCell : GoodIn wsX1_pack wsX1_freeCell := goodIn_r _ [49, 39, 54, 55, 56, 57, 58, 59, 60, 61, 62, 63, 64, 65, 66, 67, 68] (by decide +kernel) (by decide +kernel)
set_option maxRecDepth 20000 in
theorem gX1_pack_X1_freeCell : GoodIn wsX1_pack (wsV RX1 92 RX1 yX1_freeCell wsX1_freeCell) := goodIn_app (goodIn_of _ (by decide +kernel)) ggX1_pack_X1_freeCell
set_option maxRecDepth 20000 in
theorem ggX1_pack_X1_lay : GoodIn wsX1_pack wsX1_lay := goodIn_r _ [53, 44, 45, 39, 20, 54, 55, 56, 57, 58, 59, 60, 61, 62, 63, 64, 65, 66, 67, 68] (by decide +kernel) (by decide +kernel)
set_option maxRecDepth 20000 in
theorem gX1_pack_X1_lay : GoodIn wsX1_pack (wsV RX1 95 RX1 yX1_lay wsX1_lay) := goodIn_app (goodIn_of _ (by decide +kernel)) ggX1_pack_X1_lay
theorem dX1_pack_0 : decode cX1_pack 0 = .ok (.aload_n 0, 1) := by decide +kernel
theorem dX1_pack_1 : decode cX1_pack 1 = .ok (.iconst 0, 1) := by decide +kernel
theorem dX1_pack_2 : decode cX1_pack 2 = .ok (.putfield 40, 3) := by decide +kernel
theorem dX1_pack_5 : decode cX1_pack 5 = .ok (.aload_n 0, 1) := by decide +kernel
theorem dX1_pack_6 : decode cX1_pack 6 = .ok (.iload_n 1, 1) := by decide +kernel
theorem dX1_pack_7 : decode cX1_pack 7 = .ok (.invokevirtual 81, 3) := by decide +kernel
theorem dX1_pack_10 : decode cX1_pack 10 = .ok (.ifCond .ne 9, 3) := by decide +kernel
theorem dX1_pack_13 : decode cX1_pack 13 = .ok (.aload_n 0, 1) := by decide +kernel
theorem dX1_pack_14 : decode cX1_pack 14 = .ok (.iconst 1, 1) := by decide +kernel
theorem dX1_pack_15 : decode cX1_pack 15 = .ok (.invokevirtual 78, 3) := by decide +kernel
theorem dX1_pack_18 : decode cX1_pack 18 = .ok (.ireturn, 1) := by decide +kernel
theorem dX1_pack_19 : decode cX1_pack 19 = .ok (.aload_n 0, 1) := by decide +kernel
theorem dX1_pack_20 : decode cX1_pack 20 = .ok (.getfield 112, 3) := by decide +kernel
theorem dX1_pack_23 : decode cX1_pack 23 = .ok (.istore_n 2, 1) := by decide +kernel
theorem dX1_pack_24 : decode cX1_pack 24 = .ok (.aload_n 0, 1) := by decide +kernel
theorem dX1_pack_25 : decode cX1_pack 25 = .ok (.iload_n 1, 1) := by decide +kernel
theorem dX1_pack_26 : decode cX1_pack 26 = .ok (.invokevirtual 65, 3) := by decide +kernel
theorem dX1_pack_29 : decode cX1_pack 29 = .ok (.aload_n 0, 1) := by decide +kernel
theorem dX1_pack_30 : decode cX1_pack 30 = .ok (.iload_n 1, 1) := by decide +kernel
theorem dX1_pack_31 : decode cX1_pack 31 = .ok (.invokevirtual 115, 3) := by decide +kernel
theorem dX1_pack_34 : decode cX1_pack 34 = .ok (.if_icmp .eq 51, 3) := by decide +kernel
theorem dX1_pack_37 : decode cX1_pack 37 = .ok (.aload_n 0, 1) := by decide +kernel
theorem dX1_pack_38 : decode cX1_pack 38 = .ok (.iload_n 1, 1) := by decide +kernel
theorem dX1_pack_39 : decode cX1_pack 39 = .ok (.invokevirtual 65, 3) := by decide +kernel
theorem dX1_pack_42 : decode cX1_pack 42 = .ok (.istore_n 3, 1) := by decide +kernel
theorem dX1_pack_43 : decode cX1_pack 43 = .ok (.aload_n 0, 1) := by decide +kernel
theorem dX1_pack_44 : decode cX1_pack 44 = .ok (.aload_n 0, 1) := by decide +kernel
theorem dX1_pack_45 : decode cX1_pack 45 = .ok (.iload_n 1, 1) := by decide +kernel
theorem dX1_pack_46 : decode cX1_pack 46 = .ok (.invokevirtual 115, 3) := by decide +kernel
theorem dX1_pack_49 : decode cX1_pack 49 = .ok (.invokevirtual 118, 3) := by decide +kernel
theorem dX1_pack_52 : decode cX1_pack 52 = .ok (.istore 4, 2) := by decide +kernel
theorem dX1_pack_54 : decode cX1_pack 54 = .ok (.aload_n 0, 1) := by decide +kernel
theorem dX1_pack_55 : decode cX1_pack 55 = .ok (.iload 4, 2) := by decide +kernel
theorem dX1_pack_57 : decode cX1_pack 57 = .ok (.invokevirtual 102, 3) := by decide +kernel
theorem dX1_pack_60 : decode cX1_pack 60 = .ok (.aload_n 0, 1) := by decide +kernel
theorem dX1_pack_61 : decode cX1_pack 61 = .ok (.iload 4, 2) := by decide +kernel
theorem dX1_pack_63 : decode cX1_pack 63 = .ok (.iload_n 3, 1) := by decide +kernel
theorem dX1_pack_64 : decode cX1_pack 64 = .ok (.aload_n 0, 1) := by decide +kernel
theorem dX1_pack_65 : decode cX1_pack 65 = .ok (.iload_n 3, 1) := by decide +kernel
theorem dX1_pack_66 : decode cX1_pack 66 = .ok (.invokevirtual 92, 3) := by decide +kernel
theorem dX1_pack_69 : decode cX1_pack 69 = .ok (.invokevirtual 95, 3) := by decide +kernel
theorem dX1_pack_72 : decode cX1_pack 72 = .ok (.aload_n 0, 1) := by decide +kernel
theorem dX1_pack_73 : decode cX1_pack 73 = .ok (.dup, 1) := by decide +kernel
theorem dX1_pack_74 : decode cX1_pack 74 = .ok (.getfield 112, 3) := by decide +kernel
theorem dX1_pack_77 : decode cX1_pack 77 = .ok (.iconst 1, 1) := by decide +kernel
theorem dX1_pack_78 : decode cX1_pack 78 = .ok (.iadd, 1) := by decide +kernel
theorem dX1_pack_79 : decode cX1_pack 79 = .ok (.putfield 112, 3) := by decide +kernel
theorem dX1_pack_82 : decode cX1_pack 82 = .ok (.goto (-58), 3) := by decide +kernel
theorem dX1_pack_85 : decode cX1_pack 85 = .ok (.aload_n 0, 1) := by decide +kernel
theorem dX1_pack_86 : decode cX1_pack 86 = .ok (.getfield 112, 3) := by decide +kernel
theorem dX1_pack_89 : decode cX1_pack 89 = .ok (.iload_n 2, 1) := by decide +kernel
theorem dX1_pack_90 : decode cX1_pack 90 = .ok (.isub, 1) := by decide +kernel
theorem dX1_pack_91 : decode cX1_pack 91 = .ok (.ireturn, 1) := by decide +kernel
theorem dX1_thingTold_0 : decode cX1_thingTold 0 = .ok (.iload_n 2, 1) := by decide +kernel
theorem dX1_thingTold_1 : decode cX1_thingTold 1 = .ok (.ifCond .ne 10, 3) := by decide +kernel
theorem dX1_thingTold_4 : decode cX1_thingTold 4 = .ok (.aload_n 0, 1) := by decide +kernel
theorem dX1_thingTold_5 : decode cX1_thingTold 5 = .ok (.getfield 31, 3) := by decide +kernel
theorem dX1_thingTold_8 : decode cX1_thingTold 8 = .ok (.iload_n 1, 1) := by decide +kernel
theorem dX1_thingTold_9 : decode cX1_thingTold 9 = .ok (.iaload, 1) := by decide +kernel
theorem dX1_thingTold_10 : decode cX1_thingTold 10 = .ok (.ireturn, 1) := by decide +kernel
theorem dX1_thingTold_11 : decode cX1_thingTold 11 = .ok (.aload_n 0, 1) := by decide +kernel
theorem dX1_thingTold_12 : decode cX1_thingTold 12 = .ok (.getfield 34, 3) := by decide +kernel
theorem dX1_thingTold_15 : decode cX1_thingTold 15 = .ok (.iload_n 1, 1) := by decide +kernel
theorem dX1_thingTold_16 : decode cX1_thingTold 16 = .ok (.iaload, 1) := by decide +kernel
theorem dX1_thingTold_17 : decode cX1_thingTold 17 = .ok (.iconst (-1), 1) := by decide +kernel
theorem dX1_thingTold_18 : decode cX1_thingTold 18 = .ok (.if_icmp .ne 5, 3) := by decide +kernel
theorem dX1_thingTold_21 : decode cX1_thingTold 21 = .ok (.iconst (-1), 1) := by decide +kernel
theorem dX1_thingTold_22 : decode cX1_thingTold 22 = .ok (.ireturn, 1) := by decide +kernel
theorem dX1_thingTold_23 : decode cX1_thingTold 23 = .ok (.aload_n 0, 1) := by decide +kernel
theorem dX1_thingTold_24 : decode cX1_thingTold 24 = .ok (.getfield 22, 3) := by decide +kernel
theorem dX1_thingTold_27 : decode cX1_thingTold 27 = .ok (.aload_n 0, 1) := by decide +kernel
theorem dX1_thingTold_28 : decode cX1_thingTold 28 = .ok (.getfield 34, 3) := by decide +kernel
theorem dX1_thingTold_31 : decode cX1_thingTold 31 = .ok (.iload_n 1, 1) := by decide +kernel
theorem dX1_thingTold_32 : decode cX1_thingTold 32 = .ok (.iaload, 1) := by decide +kernel
theorem dX1_thingTold_33 : decode cX1_thingTold 33 = .ok (.iaload, 1) := by decide +kernel
theorem dX1_thingTold_34 : decode cX1_thingTold 34 = .ok (.aload_n 0, 1) := by decide +kernel
theorem dX1_thingTold_35 : decode cX1_thingTold 35 = .ok (.getfield 37, 3) := by decide +kernel
theorem dX1_thingTold_38 : decode cX1_thingTold 38 = .ok (.iload_n 1, 1) := by decide +kernel
theorem dX1_thingTold_39 : decode cX1_thingTold 39 = .ok (.iaload, 1) := by decide +kernel
theorem dX1_thingTold_40 : decode cX1_thingTold 40 = .ok (.aload_n 0, 1) := by decide +kernel
theorem dX1_thingTold_41 : decode cX1_thingTold 41 = .ok (.getfield 9, 3) := by decide +kernel
theorem dX1_thingTold_44 : decode cX1_thingTold 44 = .ok (.aload_n 0, 1) := by decide +kernel
theorem dX1_thingTold_45 : decode cX1_thingTold 45 = .ok (.getfield 31, 3) := by decide +kernel
theorem dX1_thingTold_48 : decode cX1_thingTold 48 = .ok (.iload_n 1, 1) := by decide +kernel
theorem dX1_thingTold_49 : decode cX1_thingTold 49 = .ok (.iaload, 1) := by decide +kernel
theorem dX1_thingTold_50 : decode cX1_thingTold 50 = .ok (.iaload, 1) := by decide +kernel
theorem dX1_thingTold_51 : decode cX1_thingTold 51 = .ok (.imul, 1) := by decide +kernel
theorem dX1_thingTold_52 : decode cX1_thingTold 52 = .ok (.iadd, 1) := by decide +kernel
theorem dX1_thingTold_53 : decode cX1_thingTold 53 = .ok (.istore_n 3, 1) := by decide +kernel
theorem dX1_thingTold_54 : decode cX1_thingTold 54 = .ok (.iload_n 2, 1) := by decide +kernel
theorem dX1_thingTold_55 : decode cX1_thingTold 55 = .ok (.iconst 1, 1) := by decide +kernel
theorem dX1_thingTold_56 : decode cX1_thingTold 56 = .ok (.if_icmp .ne 12, 3) := by decide +kernel
theorem dX1_thingTold_59 : decode cX1_thingTold 59 = .ok (.aload_n 0, 1) := by decide +kernel
theorem dX1_thingTold_60 : decode cX1_thingTold 60 = .ok (.getfield 34, 3) := by decide +kernel
theorem dX1_thingTold_63 : decode cX1_thingTold 63 = .ok (.iload_n 1, 1) := by decide +kernel
theorem dX1_thingTold_64 : decode cX1_thingTold 64 = .ok (.iaload, 1) := by decide +kernel
theorem dX1_thingTold_65 : decode cX1_thingTold 65 = .ok (.goto 37, 3) := by decide +kernel
theorem dX1_thingTold_68 : decode cX1_thingTold 68 = .ok (.iload_n 2, 1) := by decide +kernel
theorem dX1_thingTold_69 : decode cX1_thingTold 69 = .ok (.iconst 2, 1) := by decide +kernel
theorem dX1_thingTold_70 : decode cX1_thingTold 70 = .ok (.if_icmp .ne 12, 3) := by decide +kernel
theorem dX1_thingTold_73 : decode cX1_thingTold 73 = .ok (.aload_n 0, 1) := by decide +kernel
theorem dX1_thingTold_74 : decode cX1_thingTold 74 = .ok (.getfield 37, 3) := by decide +kernel
theorem dX1_thingTold_77 : decode cX1_thingTold 77 = .ok (.iload_n 1, 1) := by decide +kernel
theorem dX1_thingTold_78 : decode cX1_thingTold 78 = .ok (.iaload, 1) := by decide +kernel
theorem dX1_thingTold_79 : decode cX1_thingTold 79 = .ok (.goto 23, 3) := by decide +kernel
theorem dX1_thingTold_82 : decode cX1_thingTold 82 = .ok (.iload_n 2, 1) := by decide +kernel
theorem dX1_thingTold_83 : decode cX1_thingTold 83 = .ok (.iconst 3, 1) := by decide +kernel
theorem dX1_thingTold_84 : decode cX1_thingTold 84 = .ok (.if_icmp .ne 7, 3) := by decide +kernel
theorem dX1_thingTold_87 : decode cX1_thingTold 87 = .ok (.iload_n 3, 1) := by decide +kernel
theorem dX1_thingTold_88 : decode cX1_thingTold 88 = .ok (.goto 14, 3) := by decide +kernel
theorem dX1_thingTold_91 : decode cX1_thingTold 91 = .ok (.bipush 64, 2) := by decide +kernel
theorem dX1_thingTold_93 : decode cX1_thingTold 93 = .ok (.aload_n 0, 1) := by decide +kernel
theorem dX1_thingTold_94 : decode cX1_thingTold 94 = .ok (.getfield 34, 3) := by decide +kernel
theorem dX1_thingTold_97 : decode cX1_thingTold 97 = .ok (.iload_n 1, 1) := by decide +kernel
theorem dX1_thingTold_98 : decode cX1_thingTold 98 = .ok (.iaload, 1) := by decide +kernel
theorem dX1_thingTold_99 : decode cX1_thingTold 99 = .ok (.imul, 1) := by decide +kernel
theorem dX1_thingTold_100 : decode cX1_thingTold 100 = .ok (.iload_n 3, 1) := by decide +kernel
theorem dX1_thingTold_101 : decode cX1_thingTold 101 = .ok (.iadd, 1) := by decide +kernel
theorem dX1_thingTold_102 : decode cX1_thingTold 102 = .ok (.ireturn, 1) := by decide +kernel
set_option maxRecDepth 20000 in
theorem ggX1_told_X1_isThing : GoodIn wsX1_told wsX1_isThing := goodIn_r _ [6, 7, 8, 9, 5, 10, 24, 25, 26, 27, 28, 29, 30, 31, 32, 33, 34, 35, 36, 37, 38] (by decide +kernel) (by decide +kernel)
set_option maxRecDepth 20000 in
theorem gX1_told_X1_isThing : GoodIn wsX1_told (wsV RX1 99 RX1 yX1_isThing wsX1_isThing) := goodIn_app (goodIn_of _ (by decide +kernel)) ggX1_told_X1_isThing
set_option maxRecDepth 20000 in
theorem ggX1_told_X1_isIn : GoodIn wsX1_told wsX1_isIn := goodIn_r _ [10] (by decide +kernel) (by decide +kernel)
set_option maxRecDepth 20000 in
theorem gX1_told_X1_isIn : GoodIn wsX1_told (va_wsS RX1 47 yX1_isIn wsX1_isIn) := goodIn_app (goodIn_of _ (by decide +kernel)) ggX1_told_X1_isIn
set_option maxRecDepth 20000 in
theorem ggX1_told_X1_thingTold : GoodIn wsX1_told wsX1_thingTold := goodIn_r _ [14, 15, 16, 17, 18, 19, 24, 25, 26, 27, 28, 29, 30, 31, 32, 33, 34, 35, 36, 37, 38] (by decide +kernel) (by decide +kernel)
set_option maxRecDepth 20000 in
theorem gX1_told_X1_thingTold : GoodIn wsX1_told (wsV RX1 121 RX1 yX1_thingTold wsX1_thingTold) := goodIn_app (goodIn_of _ (by decide +kernel)) ggX1_told_X1_thingTold
set_option maxRecDepth 20000 in
theorem ggX1_told_X1_no : GoodIn wsX1_told wsX1_no := goodIn_r _ [23, 1, 24, 25, 26, 27, 28, 29, 30, 31, 32, 33, 34, 35, 36, 37, 38] (by decide +kernel) (by decide +kernel)
set_option maxRecDepth 20000 in
theorem gX1_told_X1_no : GoodIn wsX1_told (wsV RX1 78 RX1 yX1_no wsX1_no) := goodIn_app (goodIn_of _ (by decide +kernel)) ggX1_told_X1_no
theorem dX1_told_0 : decode cX1_told 0 = .ok (.aload_n 0, 1) := by decide +kernel
theorem dX1_told_1 : decode cX1_told 1 = .ok (.iconst 0, 1) := by decide +kernel
theorem dX1_told_2 : decode cX1_told 2 = .ok (.putfield 40, 3) := by decide +kernel
theorem dX1_told_5 : decode cX1_told 5 = .ok (.aload_n 0, 1) := by decide +kernel
theorem dX1_told_6 : decode cX1_told 6 = .ok (.iload_n 1, 1) := by decide +kernel
theorem dX1_told_7 : decode cX1_told 7 = .ok (.invokevirtual 99, 3) := by decide +kernel
theorem dX1_told_10 : decode cX1_told 10 = .ok (.ifCond .eq 21, 3) := by decide +kernel
theorem dX1_told_13 : decode cX1_told 13 = .ok (.iload_n 2, 1) := by decide +kernel
theorem dX1_told_14 : decode cX1_told 14 = .ok (.iconst 0, 1) := by decide +kernel
theorem dX1_told_15 : decode cX1_told 15 = .ok (.iconst 4, 1) := by decide +kernel
theorem dX1_told_16 : decode cX1_told 16 = .ok (.invokestatic 47, 3) := by decide +kernel
theorem dX1_told_19 : decode cX1_told 19 = .ok (.ifCond .eq 12, 3) := by decide +kernel
theorem dX1_told_22 : decode cX1_told 22 = .ok (.aload_n 0, 1) := by decide +kernel
theorem dX1_told_23 : decode cX1_told 23 = .ok (.iload_n 1, 1) := by decide +kernel
theorem dX1_told_24 : decode cX1_told 24 = .ok (.iload_n 2, 1) := by decide +kernel
theorem dX1_told_25 : decode cX1_told 25 = .ok (.invokevirtual 121, 3) := by decide +kernel
theorem dX1_told_28 : decode cX1_told 28 = .ok (.goto 8, 3) := by decide +kernel
theorem dX1_told_31 : decode cX1_told 31 = .ok (.aload_n 0, 1) := by decide +kernel
theorem dX1_told_32 : decode cX1_told 32 = .ok (.iconst 1, 1) := by decide +kernel
theorem dX1_told_33 : decode cX1_told 33 = .ok (.invokevirtual 78, 3) := by decide +kernel
theorem dX1_told_36 : decode cX1_told 36 = .ok (.ireturn, 1) := by decide +kernel
theorem dX1_wasted_0 : decode cX1_wasted 0 = .ok (.aload_n 0, 1) := by decide +kernel
theorem dX1_wasted_1 : decode cX1_wasted 1 = .ok (.getfield 19, 3) := by decide +kernel
theorem dX1_wasted_4 : decode cX1_wasted 4 = .ok (.iload_n 1, 1) := by decide +kernel
theorem dX1_wasted_5 : decode cX1_wasted 5 = .ok (.iaload, 1) := by decide +kernel
theorem dX1_wasted_6 : decode cX1_wasted 6 = .ok (.iconst (-1), 1) := by decide +kernel
theorem dX1_wasted_7 : decode cX1_wasted 7 = .ok (.if_icmp .ne 7, 3) := by decide +kernel
theorem dX1_wasted_10 : decode cX1_wasted 10 = .ok (.iconst 0, 1) := by decide +kernel
theorem dX1_wasted_11 : decode cX1_wasted 11 = .ok (.goto 24, 3) := by decide +kernel
theorem dX1_wasted_14 : decode cX1_wasted 14 = .ok (.bipush 64, 2) := by decide +kernel
theorem dX1_wasted_16 : decode cX1_wasted 16 = .ok (.aload_n 0, 1) := by decide +kernel
theorem dX1_wasted_17 : decode cX1_wasted 17 = .ok (.getfield 9, 3) := by decide +kernel
theorem dX1_wasted_20 : decode cX1_wasted 20 = .ok (.aload_n 0, 1) := by decide +kernel
theorem dX1_wasted_21 : decode cX1_wasted 21 = .ok (.getfield 19, 3) := by decide +kernel
theorem dX1_wasted_24 : decode cX1_wasted 24 = .ok (.iload_n 1, 1) := by decide +kernel
theorem dX1_wasted_25 : decode cX1_wasted 25 = .ok (.iaload, 1) := by decide +kernel
theorem dX1_wasted_26 : decode cX1_wasted 26 = .ok (.iaload, 1) := by decide +kernel
theorem dX1_wasted_27 : decode cX1_wasted 27 = .ok (.aload_n 0, 1) := by decide +kernel
theorem dX1_wasted_28 : decode cX1_wasted 28 = .ok (.getfield 25, 3) := by decide +kernel
theorem dX1_wasted_31 : decode cX1_wasted 31 = .ok (.iload_n 1, 1) := by decide +kernel
theorem dX1_wasted_32 : decode cX1_wasted 32 = .ok (.iaload, 1) := by decide +kernel
theorem dX1_wasted_33 : decode cX1_wasted 33 = .ok (.imul, 1) := by decide +kernel
theorem dX1_wasted_34 : decode cX1_wasted 34 = .ok (.isub, 1) := by decide +kernel
theorem dX1_wasted_35 : decode cX1_wasted 35 = .ok (.ireturn, 1) := by decide +kernel
set_option maxRecDepth 20000 in
theorem ggX1_trayTold_X1_cells : GoodIn wsX1_trayTold wsX1_cells := goodIn_r _ [8, 9, 14, 15, 16, 17, 18, 19, 20, 21, 22, 23, 24, 25, 26, 27, 28] (by decide +kernel) (by decide +kernel)
set_option maxRecDepth 20000 in
theorem gX1_trayTold_X1_cells : GoodIn wsX1_trayTold (wsV RX1 54 RX1 yX1_cells wsX1_cells) := goodIn_app (goodIn_of _ (by decide +kernel)) ggX1_trayTold_X1_cells
set_option maxRecDepth 20000 in
theorem ggX1_trayTold_X1_wasted : GoodIn wsX1_trayTold wsX1_wasted := goodIn_r _ [13, 1, 9, 3, 14, 15, 16, 17, 18, 19, 20, 21, 22, 23, 24, 25, 26, 27, 28] (by decide +kernel) (by decide +kernel)
set_option maxRecDepth 20000 in
theorem gX1_trayTold_X1_wasted : GoodIn wsX1_trayTold (wsV RX1 125 RX1 yX1_wasted wsX1_wasted) := goodIn_app (goodIn_of _ (by decide +kernel)) ggX1_trayTold_X1_wasted
theorem dX1_trayTold_0 : decode cX1_trayTold 0 = .ok (.aload_n 0, 1) := by decide +kernel
theorem dX1_trayTold_1 : decode cX1_trayTold 1 = .ok (.getfield 19, 3) := by decide +kernel
theorem dX1_trayTold_4 : decode cX1_trayTold 4 = .ok (.iload_n 1, 1) := by decide +kernel
theorem dX1_trayTold_5 : decode cX1_trayTold 5 = .ok (.iaload, 1) := by decide +kernel
theorem dX1_trayTold_6 : decode cX1_trayTold 6 = .ok (.iconst (-1), 1) := by decide +kernel
theorem dX1_trayTold_7 : decode cX1_trayTold 7 = .ok (.if_icmp .ne 5, 3) := by decide +kernel
theorem dX1_trayTold_10 : decode cX1_trayTold 10 = .ok (.iconst (-1), 1) := by decide +kernel
theorem dX1_trayTold_11 : decode cX1_trayTold 11 = .ok (.ireturn, 1) := by decide +kernel
theorem dX1_trayTold_12 : decode cX1_trayTold 12 = .ok (.iload_n 2, 1) := by decide +kernel
theorem dX1_trayTold_13 : decode cX1_trayTold 13 = .ok (.ifCond .ne 12, 3) := by decide +kernel
theorem dX1_trayTold_16 : decode cX1_trayTold 16 = .ok (.aload_n 0, 1) := by decide +kernel
theorem dX1_trayTold_17 : decode cX1_trayTold 17 = .ok (.getfield 19, 3) := by decide +kernel
theorem dX1_trayTold_20 : decode cX1_trayTold 20 = .ok (.iload_n 1, 1) := by decide +kernel
theorem dX1_trayTold_21 : decode cX1_trayTold 21 = .ok (.iaload, 1) := by decide +kernel
theorem dX1_trayTold_22 : decode cX1_trayTold 22 = .ok (.goto 54, 3) := by decide +kernel
theorem dX1_trayTold_25 : decode cX1_trayTold 25 = .ok (.iload_n 2, 1) := by decide +kernel
theorem dX1_trayTold_26 : decode cX1_trayTold 26 = .ok (.iconst 1, 1) := by decide +kernel
theorem dX1_trayTold_27 : decode cX1_trayTold 27 = .ok (.if_icmp .ne 12, 3) := by decide +kernel
theorem dX1_trayTold_30 : decode cX1_trayTold 30 = .ok (.aload_n 0, 1) := by decide +kernel
theorem dX1_trayTold_31 : decode cX1_trayTold 31 = .ok (.getfield 22, 3) := by decide +kernel
theorem dX1_trayTold_34 : decode cX1_trayTold 34 = .ok (.iload_n 1, 1) := by decide +kernel
theorem dX1_trayTold_35 : decode cX1_trayTold 35 = .ok (.iaload, 1) := by decide +kernel
theorem dX1_trayTold_36 : decode cX1_trayTold 36 = .ok (.goto 40, 3) := by decide +kernel
theorem dX1_trayTold_39 : decode cX1_trayTold 39 = .ok (.iload_n 2, 1) := by decide +kernel
theorem dX1_trayTold_40 : decode cX1_trayTold 40 = .ok (.iconst 2, 1) := by decide +kernel
theorem dX1_trayTold_41 : decode cX1_trayTold 41 = .ok (.if_icmp .ne 16, 3) := by decide +kernel
theorem dX1_trayTold_44 : decode cX1_trayTold 44 = .ok (.aload_n 0, 1) := by decide +kernel
theorem dX1_trayTold_45 : decode cX1_trayTold 45 = .ok (.aload_n 0, 1) := by decide +kernel
theorem dX1_trayTold_46 : decode cX1_trayTold 46 = .ok (.getfield 19, 3) := by decide +kernel
theorem dX1_trayTold_49 : decode cX1_trayTold 49 = .ok (.iload_n 1, 1) := by decide +kernel
theorem dX1_trayTold_50 : decode cX1_trayTold 50 = .ok (.iaload, 1) := by decide +kernel
theorem dX1_trayTold_51 : decode cX1_trayTold 51 = .ok (.invokevirtual 54, 3) := by decide +kernel
theorem dX1_trayTold_54 : decode cX1_trayTold 54 = .ok (.goto 22, 3) := by decide +kernel
theorem dX1_trayTold_57 : decode cX1_trayTold 57 = .ok (.iload_n 2, 1) := by decide +kernel
theorem dX1_trayTold_58 : decode cX1_trayTold 58 = .ok (.iconst 3, 1) := by decide +kernel
theorem dX1_trayTold_59 : decode cX1_trayTold 59 = .ok (.if_icmp .ne 12, 3) := by decide +kernel
theorem dX1_trayTold_62 : decode cX1_trayTold 62 = .ok (.aload_n 0, 1) := by decide +kernel
theorem dX1_trayTold_63 : decode cX1_trayTold 63 = .ok (.getfield 25, 3) := by decide +kernel
theorem dX1_trayTold_66 : decode cX1_trayTold 66 = .ok (.iload_n 1, 1) := by decide +kernel
theorem dX1_trayTold_67 : decode cX1_trayTold 67 = .ok (.iaload, 1) := by decide +kernel
theorem dX1_trayTold_68 : decode cX1_trayTold 68 = .ok (.goto 8, 3) := by decide +kernel
theorem dX1_trayTold_71 : decode cX1_trayTold 71 = .ok (.aload_n 0, 1) := by decide +kernel
theorem dX1_trayTold_72 : decode cX1_trayTold 72 = .ok (.iload_n 1, 1) := by decide +kernel
theorem dX1_trayTold_73 : decode cX1_trayTold 73 = .ok (.invokevirtual 125, 3) := by decide +kernel
theorem dX1_trayTold_76 : decode cX1_trayTold 76 = .ok (.ireturn, 1) := by decide +kernel
set_option maxRecDepth 20000 in
theorem ggX1_tray_X1_isIn : GoodIn wsX1_tray wsX1_isIn := goodIn_r _ [5] (by decide +kernel) (by decide +kernel)
set_option maxRecDepth 20000 in
theorem gX1_tray_X1_isIn : GoodIn wsX1_tray (va_wsS RX1 47 yX1_isIn wsX1_isIn) := goodIn_app (goodIn_of _ (by decide +kernel)) ggX1_tray_X1_isIn
set_option maxRecDepth 20000 in
theorem ggX1_tray_X1_trayTold : GoodIn wsX1_tray wsX1_trayTold := goodIn_r _ [9, 10, 11, 12, 13, 14, 15, 4, 16, 17, 18, 19, 20, 21, 26, 27, 28, 29, 30, 31, 32, 33, 34, 35, 36, 37, 38, 39, 40] (by decide +kernel) (by decide +kernel)
set_option maxRecDepth 20000 in
theorem gX1_tray_X1_trayTold : GoodIn wsX1_tray (wsV RX1 128 RX1 yX1_trayTold wsX1_trayTold) := goodIn_app (goodIn_of _ (by decide +kernel)) ggX1_tray_X1_trayTold
set_option maxRecDepth 20000 in
theorem ggX1_tray_X1_no : GoodIn wsX1_tray wsX1_no := goodIn_r _ [25, 1, 26, 27, 28, 29, 30, 31, 32, 33, 34, 35, 36, 37, 38, 39, 40] (by decide +kernel) (by decide +kernel)
set_option maxRecDepth 20000 in
theorem gX1_tray_X1_no : GoodIn wsX1_tray (wsV RX1 78 RX1 yX1_no wsX1_no) := goodIn_app (goodIn_of _ (by decide +kernel)) ggX1_tray_X1_no
theorem dX1_tray_0 : decode cX1_tray 0 = .ok (.aload_n 0, 1) := by decide +kernel
theorem dX1_tray_1 : decode cX1_tray 1 = .ok (.iconst 0, 1) := by decide +kernel
theorem dX1_tray_2 : decode cX1_tray 2 = .ok (.putfield 40, 3) := by decide +kernel
theorem dX1_tray_5 : decode cX1_tray 5 = .ok (.iload_n 1, 1) := by decide +kernel
theorem dX1_tray_6 : decode cX1_tray 6 = .ok (.iconst 0, 1) := by decide +kernel
theorem dX1_tray_7 : decode cX1_tray 7 = .ok (.bipush 19, 2) := by decide +kernel
theorem dX1_tray_9 : decode cX1_tray 9 = .ok (.invokestatic 47, 3) := by decide +kernel
theorem dX1_tray_12 : decode cX1_tray 12 = .ok (.ifCond .eq 21, 3) := by decide +kernel
theorem dX1_tray_15 : decode cX1_tray 15 = .ok (.iload_n 2, 1) := by decide +kernel
theorem dX1_tray_16 : decode cX1_tray 16 = .ok (.iconst 0, 1) := by decide +kernel
theorem dX1_tray_17 : decode cX1_tray 17 = .ok (.iconst 4, 1) := by decide +kernel
theorem dX1_tray_18 : decode cX1_tray 18 = .ok (.invokestatic 47, 3) := by decide +kernel
theorem dX1_tray_21 : decode cX1_tray 21 = .ok (.ifCond .eq 12, 3) := by decide +kernel
theorem dX1_tray_24 : decode cX1_tray 24 = .ok (.aload_n 0, 1) := by decide +kernel
theorem dX1_tray_25 : decode cX1_tray 25 = .ok (.iload_n 1, 1) := by decide +kernel
theorem dX1_tray_26 : decode cX1_tray 26 = .ok (.iload_n 2, 1) := by decide +kernel
theorem dX1_tray_27 : decode cX1_tray 27 = .ok (.invokevirtual 128, 3) := by decide +kernel
theorem dX1_tray_30 : decode cX1_tray 30 = .ok (.goto 8, 3) := by decide +kernel
theorem dX1_tray_33 : decode cX1_tray 33 = .ok (.aload_n 0, 1) := by decide +kernel
theorem dX1_tray_34 : decode cX1_tray 34 = .ok (.iconst 1, 1) := by decide +kernel
theorem dX1_tray_35 : decode cX1_tray 35 = .ok (.invokevirtual 78, 3) := by decide +kernel
theorem dX1_tray_38 : decode cX1_tray 38 = .ok (.ireturn, 1) := by decide +kernel
set_option maxRecDepth 20000 in
theorem ggX1_cell_X1_isIn : GoodIn wsX1_cell wsX1_isIn := goodIn_r _ [7] (by decide +kernel) (by decide +kernel)
set_option maxRecDepth 20000 in
theorem gX1_cell_X1_isIn : GoodIn wsX1_cell (va_wsS RX1 47 yX1_isIn wsX1_isIn) := goodIn_app (goodIn_of _ (by decide +kernel)) ggX1_cell_X1_isIn
set_option maxRecDepth 20000 in
theorem ggX1_cell_X1_cells : GoodIn wsX1_cell wsX1_cells := goodIn_r _ [11, 12, 17, 18, 19, 20, 21, 22, 23, 24, 25, 26, 27, 28, 29, 30, 31] (by decide +kernel) (by decide +kernel)
set_option maxRecDepth 20000 in
theorem gX1_cell_X1_cells : GoodIn wsX1_cell (wsV RX1 54 RX1 yX1_cells wsX1_cells) := goodIn_app (goodIn_of _ (by decide +kernel)) ggX1_cell_X1_cells
set_option maxRecDepth 20000 in
theorem ggX1_cell_X1_no : GoodIn wsX1_cell wsX1_no := goodIn_r _ [16, 1, 17, 18, 19, 20, 21, 22, 23, 24, 25, 26, 27, 28, 29, 30, 31] (by decide +kernel) (by decide +kernel)
set_option maxRecDepth 20000 in
theorem gX1_cell_X1_no : GoodIn wsX1_cell (wsV RX1 78 RX1 yX1_no wsX1_no) := goodIn_app (goodIn_of _ (by decide +kernel)) ggX1_cell_X1_no
theorem dX1_cell_0 : decode cX1_cell 0 = .ok (.aload_n 0, 1) := by decide +kernel
theorem dX1_cell_1 : decode cX1_cell 1 = .ok (.iconst 0, 1) := by decide +kernel
theorem dX1_cell_2 : decode cX1_cell 2 = .ok (.putfield 40, 3) := by decide +kernel
theorem dX1_cell_5 : decode cX1_cell 5 = .ok (.iload_n 1, 1) := by decide +kernel
theorem dX1_cell_6 : decode cX1_cell 6 = .ok (.iconst 0, 1) := by decide +kernel
theorem dX1_cell_7 : decode cX1_cell 7 = .ok (.bipush 19, 2) := by decide +kernel
theorem dX1_cell_9 : decode cX1_cell 9 = .ok (.invokestatic 47, 3) := by decide +kernel
theorem dX1_cell_12 : decode cX1_cell 12 = .ok (.ifCond .eq 33, 3) := by decide +kernel
theorem dX1_cell_15 : decode cX1_cell 15 = .ok (.aload_n 0, 1) := by decide +kernel
theorem dX1_cell_16 : decode cX1_cell 16 = .ok (.getfield 19, 3) := by decide +kernel
theorem dX1_cell_19 : decode cX1_cell 19 = .ok (.iload_n 1, 1) := by decide +kernel
theorem dX1_cell_20 : decode cX1_cell 20 = .ok (.iaload, 1) := by decide +kernel
theorem dX1_cell_21 : decode cX1_cell 21 = .ok (.iconst (-1), 1) := by decide +kernel
theorem dX1_cell_22 : decode cX1_cell 22 = .ok (.if_icmp .eq 23, 3) := by decide +kernel
theorem dX1_cell_25 : decode cX1_cell 25 = .ok (.iload_n 2, 1) := by decide +kernel
theorem dX1_cell_26 : decode cX1_cell 26 = .ok (.iconst 0, 1) := by decide +kernel
theorem dX1_cell_27 : decode cX1_cell 27 = .ok (.aload_n 0, 1) := by decide +kernel
theorem dX1_cell_28 : decode cX1_cell 28 = .ok (.aload_n 0, 1) := by decide +kernel
theorem dX1_cell_29 : decode cX1_cell 29 = .ok (.getfield 19, 3) := by decide +kernel
theorem dX1_cell_32 : decode cX1_cell 32 = .ok (.iload_n 1, 1) := by decide +kernel
theorem dX1_cell_33 : decode cX1_cell 33 = .ok (.iaload, 1) := by decide +kernel
theorem dX1_cell_34 : decode cX1_cell 34 = .ok (.invokevirtual 54, 3) := by decide +kernel
theorem dX1_cell_37 : decode cX1_cell 37 = .ok (.iconst 1, 1) := by decide +kernel
theorem dX1_cell_38 : decode cX1_cell 38 = .ok (.isub, 1) := by decide +kernel
theorem dX1_cell_39 : decode cX1_cell 39 = .ok (.invokestatic 47, 3) := by decide +kernel
theorem dX1_cell_42 : decode cX1_cell 42 = .ok (.ifCond .ne 9, 3) := by decide +kernel
theorem dX1_cell_45 : decode cX1_cell 45 = .ok (.aload_n 0, 1) := by decide +kernel
theorem dX1_cell_46 : decode cX1_cell 46 = .ok (.iconst 1, 1) := by decide +kernel
theorem dX1_cell_47 : decode cX1_cell 47 = .ok (.invokevirtual 78, 3) := by decide +kernel
theorem dX1_cell_50 : decode cX1_cell 50 = .ok (.ireturn, 1) := by decide +kernel
theorem dX1_cell_51 : decode cX1_cell 51 = .ok (.aload_n 0, 1) := by decide +kernel
theorem dX1_cell_52 : decode cX1_cell 52 = .ok (.getfield 28, 3) := by decide +kernel
theorem dX1_cell_55 : decode cX1_cell 55 = .ok (.bipush 64, 2) := by decide +kernel
theorem dX1_cell_57 : decode cX1_cell 57 = .ok (.iload_n 1, 1) := by decide +kernel
theorem dX1_cell_58 : decode cX1_cell 58 = .ok (.imul, 1) := by decide +kernel
theorem dX1_cell_59 : decode cX1_cell 59 = .ok (.iload_n 2, 1) := by decide +kernel
theorem dX1_cell_60 : decode cX1_cell 60 = .ok (.iadd, 1) := by decide +kernel
theorem dX1_cell_61 : decode cX1_cell 61 = .ok (.iaload, 1) := by decide +kernel
theorem dX1_cell_62 : decode cX1_cell 62 = .ok (.ireturn, 1) := by decide +kernel
theorem dX1_trays_0 : decode cX1_trays 0 = .ok (.iconst 0, 1) := by decide +kernel
theorem dX1_trays_1 : decode cX1_trays 1 = .ok (.istore_n 2, 1) := by decide +kernel
theorem dX1_trays_2 : decode cX1_trays 2 = .ok (.iconst 0, 1) := by decide +kernel
theorem dX1_trays_3 : decode cX1_trays 3 = .ok (.istore_n 3, 1) := by decide +kernel
theorem dX1_trays_4 : decode cX1_trays 4 = .ok (.iload_n 3, 1) := by decide +kernel
theorem dX1_trays_5 : decode cX1_trays 5 = .ok (.bipush 20, 2) := by decide +kernel
end
section
theorem dX1_trays_7 : decode cX1_trays 7 = .ok (.if_icmp .ge 27, 3) := by decide +kernel
theorem dX1_trays_10 : decode cX1_trays 10 = .ok (.iload_n 2, 1) := by decide +kernel
theorem dX1_trays_11 : decode cX1_trays 11 = .ok (.aload_n 0, 1) := by decide +kernel
theorem dX1_trays_12 : decode cX1_trays 12 = .ok (.getfield 19, 3) := by decide +kernel
theorem dX1_trays_15 : decode cX1_trays 15 = .ok (.iload_n 3, 1) := by decide +kernel
theorem dX1_trays_16 : decode cX1_trays 16 = .ok (.iaload, 1) := by decide +kernel
theorem dX1_trays_17 : decode cX1_trays 17 = .ok (.iload_n 1, 1) := by decide +kernel
theorem dX1_trays_18 : decode cX1_trays 18 = .ok (.if_icmp .ne 7, 3) := by decide +kernel
theorem dX1_trays_21 : decode cX1_trays 21 = .ok (.iconst 1, 1) := by decide +kernel
theorem dX1_trays_22 : decode cX1_trays 22 = .ok (.goto 4, 3) := by decide +kernel
theorem dX1_trays_25 : decode cX1_trays 25 = .ok (.iconst 0, 1) := by decide +kernel
theorem dX1_trays_26 : decode cX1_trays 26 = .ok (.iadd, 1) := by decide +kernel
theorem dX1_trays_27 : decode cX1_trays 27 = .ok (.istore_n 2, 1) := by decide +kernel
theorem dX1_trays_28 : decode cX1_trays 28 = .ok (.iinc 3 1, 3) := by decide +kernel
theorem dX1_trays_31 : decode cX1_trays 31 = .ok (.goto (-27), 3) := by decide +kernel
theorem dX1_trays_34 : decode cX1_trays 34 = .ok (.iload_n 2, 1) := by decide +kernel
theorem dX1_trays_35 : decode cX1_trays 35 = .ok (.ireturn, 1) := by decide +kernel
set_option maxRecDepth 20000 in
theorem ggX1_full_X1_cells : GoodIn wsX1_full wsX1_cells := goodIn_r _ [7, 8, 9, 10, 11, 12, 13, 14, 15, 16, 17, 18, 19, 20, 21, 22, 23] (by decide +kernel) (by decide +kernel)
set_option maxRecDepth 20000 in
theorem gX1_full_X1_cells : GoodIn wsX1_full (wsV RX1 54 RX1 yX1_cells wsX1_cells) := goodIn_app (goodIn_of _ (by decide +kernel)) ggX1_full_X1_cells
theorem dX1_full_0 : decode cX1_full 0 = .ok (.iconst 0, 1) := by decide +kernel
theorem dX1_full_1 : decode cX1_full 1 = .ok (.istore_n 2, 1) := by decide +kernel
theorem dX1_full_2 : decode cX1_full 2 = .ok (.iconst 0, 1) := by decide +kernel
theorem dX1_full_3 : decode cX1_full 3 = .ok (.istore_n 3, 1) := by decide +kernel
theorem dX1_full_4 : decode cX1_full 4 = .ok (.iload_n 3, 1) := by decide +kernel
theorem dX1_full_5 : decode cX1_full 5 = .ok (.bipush 20, 2) := by decide +kernel
theorem dX1_full_7 : decode cX1_full 7 = .ok (.if_icmp .ge 41, 3) := by decide +kernel
theorem dX1_full_10 : decode cX1_full 10 = .ok (.iload_n 2, 1) := by decide +kernel
theorem dX1_full_11 : decode cX1_full 11 = .ok (.aload_n 0, 1) := by decide +kernel
theorem dX1_full_12 : decode cX1_full 12 = .ok (.getfield 19, 3) := by decide +kernel
theorem dX1_full_15 : decode cX1_full 15 = .ok (.iload_n 3, 1) := by decide +kernel
theorem dX1_full_16 : decode cX1_full 16 = .ok (.iaload, 1) := by decide +kernel
theorem dX1_full_17 : decode cX1_full 17 = .ok (.iload_n 1, 1) := by decide +kernel
theorem dX1_full_18 : decode cX1_full 18 = .ok (.if_icmp .ne 21, 3) := by decide +kernel
theorem dX1_full_21 : decode cX1_full 21 = .ok (.aload_n 0, 1) := by decide +kernel
theorem dX1_full_22 : decode cX1_full 22 = .ok (.getfield 25, 3) := by decide +kernel
theorem dX1_full_25 : decode cX1_full 25 = .ok (.iload_n 3, 1) := by decide +kernel
theorem dX1_full_26 : decode cX1_full 26 = .ok (.iaload, 1) := by decide +kernel
theorem dX1_full_27 : decode cX1_full 27 = .ok (.aload_n 0, 1) := by decide +kernel
theorem dX1_full_28 : decode cX1_full 28 = .ok (.iload_n 1, 1) := by decide +kernel
theorem dX1_full_29 : decode cX1_full 29 = .ok (.invokevirtual 54, 3) := by decide +kernel
theorem dX1_full_32 : decode cX1_full 32 = .ok (.if_icmp .ne 7, 3) := by decide +kernel
theorem dX1_full_35 : decode cX1_full 35 = .ok (.iconst 1, 1) := by decide +kernel
theorem dX1_full_36 : decode cX1_full 36 = .ok (.goto 4, 3) := by decide +kernel
theorem dX1_full_39 : decode cX1_full 39 = .ok (.iconst 0, 1) := by decide +kernel
theorem dX1_full_40 : decode cX1_full 40 = .ok (.iadd, 1) := by decide +kernel
theorem dX1_full_41 : decode cX1_full 41 = .ok (.istore_n 2, 1) := by decide +kernel
theorem dX1_full_42 : decode cX1_full 42 = .ok (.iinc 3 1, 3) := by decide +kernel
theorem dX1_full_45 : decode cX1_full 45 = .ok (.goto (-41), 3) := by decide +kernel
theorem dX1_full_48 : decode cX1_full 48 = .ok (.iload_n 2, 1) := by decide +kernel
theorem dX1_full_49 : decode cX1_full 49 = .ok (.ireturn, 1) := by decide +kernel
theorem dX1_lying_0 : decode cX1_lying 0 = .ok (.iconst 0, 1) := by decide +kernel
theorem dX1_lying_1 : decode cX1_lying 1 = .ok (.istore_n 2, 1) := by decide +kernel
theorem dX1_lying_2 : decode cX1_lying 2 = .ok (.iconst 0, 1) := by decide +kernel
theorem dX1_lying_3 : decode cX1_lying 3 = .ok (.istore_n 3, 1) := by decide +kernel
theorem dX1_lying_4 : decode cX1_lying 4 = .ok (.iload_n 3, 1) := by decide +kernel
theorem dX1_lying_5 : decode cX1_lying 5 = .ok (.bipush 20, 2) := by decide +kernel
theorem dX1_lying_7 : decode cX1_lying 7 = .ok (.if_icmp .ge 32, 3) := by decide +kernel
theorem dX1_lying_10 : decode cX1_lying 10 = .ok (.iload_n 2, 1) := by decide +kernel
theorem dX1_lying_11 : decode cX1_lying 11 = .ok (.aload_n 0, 1) := by decide +kernel
theorem dX1_lying_12 : decode cX1_lying 12 = .ok (.getfield 19, 3) := by decide +kernel
theorem dX1_lying_15 : decode cX1_lying 15 = .ok (.iload_n 3, 1) := by decide +kernel
theorem dX1_lying_16 : decode cX1_lying 16 = .ok (.iaload, 1) := by decide +kernel
theorem dX1_lying_17 : decode cX1_lying 17 = .ok (.iload_n 1, 1) := by decide +kernel
theorem dX1_lying_18 : decode cX1_lying 18 = .ok (.if_icmp .ne 12, 3) := by decide +kernel
theorem dX1_lying_21 : decode cX1_lying 21 = .ok (.aload_n 0, 1) := by decide +kernel
theorem dX1_lying_22 : decode cX1_lying 22 = .ok (.getfield 25, 3) := by decide +kernel
theorem dX1_lying_25 : decode cX1_lying 25 = .ok (.iload_n 3, 1) := by decide +kernel
theorem dX1_lying_26 : decode cX1_lying 26 = .ok (.iaload, 1) := by decide +kernel
theorem dX1_lying_27 : decode cX1_lying 27 = .ok (.goto 4, 3) := by decide +kernel
theorem dX1_lying_30 : decode cX1_lying 30 = .ok (.iconst 0, 1) := by decide +kernel
theorem dX1_lying_31 : decode cX1_lying 31 = .ok (.iadd, 1) := by decide +kernel
theorem dX1_lying_32 : decode cX1_lying 32 = .ok (.istore_n 2, 1) := by decide +kernel
theorem dX1_lying_33 : decode cX1_lying 33 = .ok (.iinc 3 1, 3) := by decide +kernel
theorem dX1_lying_36 : decode cX1_lying 36 = .ok (.goto (-32), 3) := by decide +kernel
theorem dX1_lying_39 : decode cX1_lying 39 = .ok (.iload_n 2, 1) := by decide +kernel
theorem dX1_lying_40 : decode cX1_lying 40 = .ok (.ireturn, 1) := by decide +kernel
set_option maxRecDepth 20000 in
theorem ggX1_kindTold_X1_trays : GoodIn wsX1_kindTold wsX1_trays := goodIn_r _ [9, 10, 32, 33, 34, 35, 36, 37, 38, 39, 40, 41, 42, 43, 44, 45, 46] (by decide +kernel) (by decide +kernel)
set_option maxRecDepth 20000 in
theorem gX1_kindTold_X1_trays : GoodIn wsX1_kindTold (wsV RX1 131 RX1 yX1_trays wsX1_trays) := goodIn_app (goodIn_of _ (by decide +kernel)) ggX1_kindTold_X1_trays
set_option maxRecDepth 20000 in
theorem ggX1_kindTold_X1_empties : GoodIn wsX1_kindTold wsX1_empties := goodIn_r _ [14, 15, 16, 17, 8, 18, 10, 19, 32, 33, 34, 35, 36, 37, 38, 39, 40, 41, 42, 43, 44, 45, 46] (by decide +kernel) (by decide +kernel)
set_option maxRecDepth 20000 in
theorem gX1_kindTold_X1_empties : GoodIn wsX1_kindTold (wsV RX1 106 RX1 yX1_empties wsX1_empties) := goodIn_app (goodIn_of _ (by decide +kernel)) ggX1_kindTold_X1_empties
set_option maxRecDepth 20000 in
theorem ggX1_kindTold_X1_full : GoodIn wsX1_kindTold wsX1_full := goodIn_r _ [23, 10, 19, 24, 25, 26, 8, 27, 2, 32, 33, 34, 35, 36, 37, 38, 39, 40, 41, 42, 43, 44, 45, 46] (by decide +kernel) (by decide +kernel)
set_option maxRecDepth 20000 in
theorem gX1_kindTold_X1_full : GoodIn wsX1_kindTold (wsV RX1 134 RX1 yX1_full wsX1_full) := goodIn_app (goodIn_of _ (by decide +kernel)) ggX1_kindTold_X1_full
set_option maxRecDepth 20000 in
theorem ggX1_kindTold_X1_lying : GoodIn wsX1_kindTold wsX1_lying := goodIn_r _ [31, 10, 19, 32, 33, 34, 35, 36, 37, 38, 39, 40, 41, 42, 43, 44, 45, 46] (by decide +kernel) (by decide +kernel)
set_option maxRecDepth 20000 in
theorem gX1_kindTold_X1_lying : GoodIn wsX1_kindTold (wsV RX1 137 RX1 yX1_lying wsX1_lying) := goodIn_app (goodIn_of _ (by decide +kernel)) ggX1_kindTold_X1_lying
set_option maxRecDepth 20000 in
theorem ggX1_kindTold_X1_cells : GoodIn wsX1_kindTold wsX1_cells := goodIn_r _ [27, 2, 32, 33, 34, 35, 36, 37, 38, 39, 40, 41, 42, 43, 44, 45, 46] (by decide +kernel) (by decide +kernel)
set_option maxRecDepth 20000 in
theorem gX1_kindTold_X1_cells : GoodIn wsX1_kindTold (wsV RX1 54 RX1 yX1_cells wsX1_cells) := goodIn_app (goodIn_of _ (by decide +kernel)) ggX1_kindTold_X1_cells
theorem dX1_kindTold_0 : decode cX1_kindTold 0 = .ok (.bipush 8, 2) := by decide +kernel
theorem dX1_kindTold_2 : decode cX1_kindTold 2 = .ok (.newarray .int, 2) := by decide +kernel
theorem dX1_kindTold_4 : decode cX1_kindTold 4 = .ok (.dup, 1) := by decide +kernel
theorem dX1_kindTold_5 : decode cX1_kindTold 5 = .ok (.iconst 0, 1) := by decide +kernel
theorem dX1_kindTold_6 : decode cX1_kindTold 6 = .ok (.aload_n 0, 1) := by decide +kernel
theorem dX1_kindTold_7 : decode cX1_kindTold 7 = .ok (.getfield 9, 3) := by decide +kernel
theorem dX1_kindTold_10 : decode cX1_kindTold 10 = .ok (.iload_n 1, 1) := by decide +kernel
theorem dX1_kindTold_11 : decode cX1_kindTold 11 = .ok (.iaload, 1) := by decide +kernel
theorem dX1_kindTold_12 : decode cX1_kindTold 12 = .ok (.iastore, 1) := by decide +kernel
theorem dX1_kindTold_13 : decode cX1_kindTold 13 = .ok (.dup, 1) := by decide +kernel
theorem dX1_kindTold_14 : decode cX1_kindTold 14 = .ok (.iconst 1, 1) := by decide +kernel
theorem dX1_kindTold_15 : decode cX1_kindTold 15 = .ok (.aload_n 0, 1) := by decide +kernel
theorem dX1_kindTold_16 : decode cX1_kindTold 16 = .ok (.getfield 13, 3) := by decide +kernel
theorem dX1_kindTold_19 : decode cX1_kindTold 19 = .ok (.iload_n 1, 1) := by decide +kernel
theorem dX1_kindTold_20 : decode cX1_kindTold 20 = .ok (.iaload, 1) := by decide +kernel
theorem dX1_kindTold_21 : decode cX1_kindTold 21 = .ok (.iastore, 1) := by decide +kernel
theorem dX1_kindTold_22 : decode cX1_kindTold 22 = .ok (.dup, 1) := by decide +kernel
theorem dX1_kindTold_23 : decode cX1_kindTold 23 = .ok (.iconst 2, 1) := by decide +kernel
theorem dX1_kindTold_24 : decode cX1_kindTold 24 = .ok (.aload_n 0, 1) := by decide +kernel
theorem dX1_kindTold_25 : decode cX1_kindTold 25 = .ok (.iload_n 1, 1) := by decide +kernel
theorem dX1_kindTold_26 : decode cX1_kindTold 26 = .ok (.invokevirtual 131, 3) := by decide +kernel
theorem dX1_kindTold_29 : decode cX1_kindTold 29 = .ok (.iastore, 1) := by decide +kernel
theorem dX1_kindTold_30 : decode cX1_kindTold 30 = .ok (.dup, 1) := by decide +kernel
theorem dX1_kindTold_31 : decode cX1_kindTold 31 = .ok (.iconst 3, 1) := by decide +kernel
theorem dX1_kindTold_32 : decode cX1_kindTold 32 = .ok (.aload_n 0, 1) := by decide +kernel
theorem dX1_kindTold_33 : decode cX1_kindTold 33 = .ok (.iload_n 1, 1) := by decide +kernel
theorem dX1_kindTold_34 : decode cX1_kindTold 34 = .ok (.invokevirtual 106, 3) := by decide +kernel
theorem dX1_kindTold_37 : decode cX1_kindTold 37 = .ok (.iastore, 1) := by decide +kernel
theorem dX1_kindTold_38 : decode cX1_kindTold 38 = .ok (.dup, 1) := by decide +kernel
theorem dX1_kindTold_39 : decode cX1_kindTold 39 = .ok (.iconst 4, 1) := by decide +kernel
theorem dX1_kindTold_40 : decode cX1_kindTold 40 = .ok (.aload_n 0, 1) := by decide +kernel
theorem dX1_kindTold_41 : decode cX1_kindTold 41 = .ok (.iload_n 1, 1) := by decide +kernel
theorem dX1_kindTold_42 : decode cX1_kindTold 42 = .ok (.invokevirtual 134, 3) := by decide +kernel
theorem dX1_kindTold_45 : decode cX1_kindTold 45 = .ok (.iastore, 1) := by decide +kernel
theorem dX1_kindTold_46 : decode cX1_kindTold 46 = .ok (.dup, 1) := by decide +kernel
theorem dX1_kindTold_47 : decode cX1_kindTold 47 = .ok (.iconst 5, 1) := by decide +kernel
theorem dX1_kindTold_48 : decode cX1_kindTold 48 = .ok (.aload_n 0, 1) := by decide +kernel
theorem dX1_kindTold_49 : decode cX1_kindTold 49 = .ok (.iload_n 1, 1) := by decide +kernel
theorem dX1_kindTold_50 : decode cX1_kindTold 50 = .ok (.invokevirtual 137, 3) := by decide +kernel
theorem dX1_kindTold_53 : decode cX1_kindTold 53 = .ok (.iastore, 1) := by decide +kernel
theorem dX1_kindTold_54 : decode cX1_kindTold 54 = .ok (.dup, 1) := by decide +kernel
theorem dX1_kindTold_55 : decode cX1_kindTold 55 = .ok (.bipush 6, 2) := by decide +kernel
theorem dX1_kindTold_57 : decode cX1_kindTold 57 = .ok (.aload_n 0, 1) := by decide +kernel
theorem dX1_kindTold_58 : decode cX1_kindTold 58 = .ok (.iload_n 1, 1) := by decide +kernel
theorem dX1_kindTold_59 : decode cX1_kindTold 59 = .ok (.invokevirtual 131, 3) := by decide +kernel
theorem dX1_kindTold_62 : decode cX1_kindTold 62 = .ok (.aload_n 0, 1) := by decide +kernel
theorem dX1_kindTold_63 : decode cX1_kindTold 63 = .ok (.iload_n 1, 1) := by decide +kernel
theorem dX1_kindTold_64 : decode cX1_kindTold 64 = .ok (.invokevirtual 54, 3) := by decide +kernel
theorem dX1_kindTold_67 : decode cX1_kindTold 67 = .ok (.imul, 1) := by decide +kernel
theorem dX1_kindTold_68 : decode cX1_kindTold 68 = .ok (.aload_n 0, 1) := by decide +kernel
theorem dX1_kindTold_69 : decode cX1_kindTold 69 = .ok (.iload_n 1, 1) := by decide +kernel
theorem dX1_kindTold_70 : decode cX1_kindTold 70 = .ok (.invokevirtual 137, 3) := by decide +kernel
theorem dX1_kindTold_73 : decode cX1_kindTold 73 = .ok (.isub, 1) := by decide +kernel
theorem dX1_kindTold_74 : decode cX1_kindTold 74 = .ok (.iastore, 1) := by decide +kernel
theorem dX1_kindTold_75 : decode cX1_kindTold 75 = .ok (.dup, 1) := by decide +kernel
theorem dX1_kindTold_76 : decode cX1_kindTold 76 = .ok (.bipush 7, 2) := by decide +kernel
theorem dX1_kindTold_78 : decode cX1_kindTold 78 = .ok (.aload_n 0, 1) := by decide +kernel
theorem dX1_kindTold_79 : decode cX1_kindTold 79 = .ok (.getfield 16, 3) := by decide +kernel
theorem dX1_kindTold_82 : decode cX1_kindTold 82 = .ok (.iload_n 1, 1) := by decide +kernel
theorem dX1_kindTold_83 : decode cX1_kindTold 83 = .ok (.iaload, 1) := by decide +kernel
theorem dX1_kindTold_84 : decode cX1_kindTold 84 = .ok (.iastore, 1) := by decide +kernel
theorem dX1_kindTold_85 : decode cX1_kindTold 85 = .ok (.astore_n 3, 1) := by decide +kernel
theorem dX1_kindTold_86 : decode cX1_kindTold 86 = .ok (.aload_n 3, 1) := by decide +kernel
theorem dX1_kindTold_87 : decode cX1_kindTold 87 = .ok (.iload_n 2, 1) := by decide +kernel
theorem dX1_kindTold_88 : decode cX1_kindTold 88 = .ok (.iaload, 1) := by decide +kernel
theorem dX1_kindTold_89 : decode cX1_kindTold 89 = .ok (.ireturn, 1) := by decide +kernel
set_option maxRecDepth 20000 in
theorem ggX1_about_X1_isKind : GoodIn wsX1_about wsX1_isKind := goodIn_r _ [6, 7, 8, 9, 5, 10, 49, 50, 51, 52, 53, 54, 55, 56, 57, 58, 59, 60, 61, 62, 63] (by decide +kernel) (by decide +kernel)
set_option maxRecDepth 20000 in
theorem gX1_about_X1_isKind : GoodIn wsX1_about (wsV RX1 81 RX1 yX1_isKind wsX1_isKind) := goodIn_app (goodIn_of _ (by decide +kernel)) ggX1_about_X1_isKind
set_option maxRecDepth 20000 in
theorem ggX1_about_X1_isIn : GoodIn wsX1_about wsX1_isIn := goodIn_r _ [10] (by decide +kernel) (by decide +kernel)
set_option maxRecDepth 20000 in
theorem gX1_about_X1_isIn : GoodIn wsX1_about (va_wsS RX1 47 yX1_isIn wsX1_isIn) := goodIn_app (goodIn_of _ (by decide +kernel)) ggX1_about_X1_isIn
set_option maxRecDepth 20000 in
theorem ggX1_about_X1_kindTold : GoodIn wsX1_about wsX1_kindTold := goodIn_r _ [14, 15, 16, 17, 18, 19, 20, 21, 5, 22, 23, 24, 25, 26, 27, 28, 29, 30, 31, 32, 33, 34, 35, 36, 37, 38, 39, 40, 41, 42, 43, 44, 49, 50, 51, 52, 53, 54, 55, 56, 57, 58, 59, 60, 61, 62, 63] (by decide +kernel) (by decide +kernel)
set_option maxRecDepth 20000 in
theorem gX1_about_X1_kindTold : GoodIn wsX1_about (wsV RX1 140 RX1 yX1_kindTold wsX1_kindTold) := goodIn_app (goodIn_of _ (by decide +kernel)) ggX1_about_X1_kindTold
set_option maxRecDepth 20000 in
theorem ggX1_about_X1_no : GoodIn wsX1_about wsX1_no := goodIn_r _ [48, 1, 49, 50, 51, 52, 53, 54, 55, 56, 57, 58, 59, 60, 61, 62, 63] (by decide +kernel) (by decide +kernel)
set_option maxRecDepth 20000 in
theorem gX1_about_X1_no : GoodIn wsX1_about (wsV RX1 78 RX1 yX1_no wsX1_no) := goodIn_app (goodIn_of _ (by decide +kernel)) ggX1_about_X1_no
theorem dX1_about_0 : decode cX1_about 0 = .ok (.aload_n 0, 1) := by decide +kernel
theorem dX1_about_1 : decode cX1_about 1 = .ok (.iconst 0, 1) := by decide +kernel
theorem dX1_about_2 : decode cX1_about 2 = .ok (.putfield 40, 3) := by decide +kernel
theorem dX1_about_5 : decode cX1_about 5 = .ok (.aload_n 0, 1) := by decide +kernel
theorem dX1_about_6 : decode cX1_about 6 = .ok (.iload_n 1, 1) := by decide +kernel
theorem dX1_about_7 : decode cX1_about 7 = .ok (.invokevirtual 81, 3) := by decide +kernel
theorem dX1_about_10 : decode cX1_about 10 = .ok (.ifCond .eq 22, 3) := by decide +kernel
theorem dX1_about_13 : decode cX1_about 13 = .ok (.iload_n 2, 1) := by decide +kernel
theorem dX1_about_14 : decode cX1_about 14 = .ok (.iconst 0, 1) := by decide +kernel
theorem dX1_about_15 : decode cX1_about 15 = .ok (.bipush 7, 2) := by decide +kernel
theorem dX1_about_17 : decode cX1_about 17 = .ok (.invokestatic 47, 3) := by decide +kernel
theorem dX1_about_20 : decode cX1_about 20 = .ok (.ifCond .eq 12, 3) := by decide +kernel
theorem dX1_about_23 : decode cX1_about 23 = .ok (.aload_n 0, 1) := by decide +kernel
theorem dX1_about_24 : decode cX1_about 24 = .ok (.iload_n 1, 1) := by decide +kernel
theorem dX1_about_25 : decode cX1_about 25 = .ok (.iload_n 2, 1) := by decide +kernel
theorem dX1_about_26 : decode cX1_about 26 = .ok (.invokevirtual 140, 3) := by decide +kernel
theorem dX1_about_29 : decode cX1_about 29 = .ok (.goto 8, 3) := by decide +kernel
theorem dX1_about_32 : decode cX1_about 32 = .ok (.aload_n 0, 1) := by decide +kernel
theorem dX1_about_33 : decode cX1_about 33 = .ok (.iconst 1, 1) := by decide +kernel
theorem dX1_about_34 : decode cX1_about 34 = .ok (.invokevirtual 78, 3) := by decide +kernel
theorem dX1_about_37 : decode cX1_about 37 = .ok (.ireturn, 1) := by decide +kernel
set_option maxRecDepth 20000 in
theorem ggX1_counted_X1_wasted : GoodIn wsX1_counted wsX1_wasted := goodIn_r _ [12, 1, 13, 2, 14, 15, 16, 17, 18, 19, 20, 21, 22, 23, 24, 25, 26, 27, 28] (by decide +kernel) (by decide +kernel)
set_option maxRecDepth 20000 in
theorem gX1_counted_X1_wasted : GoodIn wsX1_counted (wsV RX1 125 RX1 yX1_wasted wsX1_wasted) := goodIn_app (goodIn_of _ (by decide +kernel)) ggX1_counted_X1_wasted
theorem dX1_counted_0 : decode cX1_counted 0 = .ok (.iconst 0, 1) := by decide +kernel
theorem dX1_counted_1 : decode cX1_counted 1 = .ok (.istore_n 2, 1) := by decide +kernel
theorem dX1_counted_2 : decode cX1_counted 2 = .ok (.iconst 0, 1) := by decide +kernel
theorem dX1_counted_3 : decode cX1_counted 3 = .ok (.istore_n 3, 1) := by decide +kernel
theorem dX1_counted_4 : decode cX1_counted 4 = .ok (.iconst 0, 1) := by decide +kernel
theorem dX1_counted_5 : decode cX1_counted 5 = .ok (.istore 4, 2) := by decide +kernel
theorem dX1_counted_7 : decode cX1_counted 7 = .ok (.iconst 0, 1) := by decide +kernel
theorem dX1_counted_8 : decode cX1_counted 8 = .ok (.istore 5, 2) := by decide +kernel
theorem dX1_counted_10 : decode cX1_counted 10 = .ok (.iload 5, 2) := by decide +kernel
theorem dX1_counted_12 : decode cX1_counted 12 = .ok (.bipush 20, 2) := by decide +kernel
theorem dX1_counted_14 : decode cX1_counted 14 = .ok (.if_icmp .ge 47, 3) := by decide +kernel
theorem dX1_counted_17 : decode cX1_counted 17 = .ok (.aload_n 0, 1) := by decide +kernel
theorem dX1_counted_18 : decode cX1_counted 18 = .ok (.getfield 19, 3) := by decide +kernel
theorem dX1_counted_21 : decode cX1_counted 21 = .ok (.iload 5, 2) := by decide +kernel
theorem dX1_counted_23 : decode cX1_counted 23 = .ok (.iaload, 1) := by decide +kernel
theorem dX1_counted_24 : decode cX1_counted 24 = .ok (.iconst (-1), 1) := by decide +kernel
theorem dX1_counted_25 : decode cX1_counted 25 = .ok (.if_icmp .ne 6, 3) := by decide +kernel
theorem dX1_counted_28 : decode cX1_counted 28 = .ok (.goto 27, 3) := by decide +kernel
theorem dX1_counted_31 : decode cX1_counted 31 = .ok (.iinc 2 1, 3) := by decide +kernel
theorem dX1_counted_34 : decode cX1_counted 34 = .ok (.iload_n 3, 1) := by decide +kernel
theorem dX1_counted_35 : decode cX1_counted 35 = .ok (.aload_n 0, 1) := by decide +kernel
theorem dX1_counted_36 : decode cX1_counted 36 = .ok (.getfield 25, 3) := by decide +kernel
theorem dX1_counted_39 : decode cX1_counted 39 = .ok (.iload 5, 2) := by decide +kernel
theorem dX1_counted_41 : decode cX1_counted 41 = .ok (.iaload, 1) := by decide +kernel
theorem dX1_counted_42 : decode cX1_counted 42 = .ok (.iadd, 1) := by decide +kernel
theorem dX1_counted_43 : decode cX1_counted 43 = .ok (.istore_n 3, 1) := by decide +kernel
theorem dX1_counted_44 : decode cX1_counted 44 = .ok (.iload 4, 2) := by decide +kernel
theorem dX1_counted_46 : decode cX1_counted 46 = .ok (.aload_n 0, 1) := by decide +kernel
theorem dX1_counted_47 : decode cX1_counted 47 = .ok (.iload 5, 2) := by decide +kernel
theorem dX1_counted_49 : decode cX1_counted 49 = .ok (.invokevirtual 125, 3) := by decide +kernel
theorem dX1_counted_52 : decode cX1_counted 52 = .ok (.iadd, 1) := by decide +kernel
theorem dX1_counted_53 : decode cX1_counted 53 = .ok (.istore 4, 2) := by decide +kernel
theorem dX1_counted_55 : decode cX1_counted 55 = .ok (.iinc 5 1, 3) := by decide +kernel
theorem dX1_counted_58 : decode cX1_counted 58 = .ok (.goto (-48), 3) := by decide +kernel
theorem dX1_counted_61 : decode cX1_counted 61 = .ok (.bipush 7, 2) := by decide +kernel
theorem dX1_counted_63 : decode cX1_counted 63 = .ok (.newarray .int, 2) := by decide +kernel
theorem dX1_counted_65 : decode cX1_counted 65 = .ok (.dup, 1) := by decide +kernel
theorem dX1_counted_66 : decode cX1_counted 66 = .ok (.iconst 0, 1) := by decide +kernel
theorem dX1_counted_67 : decode cX1_counted 67 = .ok (.aload_n 0, 1) := by decide +kernel
theorem dX1_counted_68 : decode cX1_counted 68 = .ok (.getfield 44, 3) := by decide +kernel
theorem dX1_counted_71 : decode cX1_counted 71 = .ok (.iastore, 1) := by decide +kernel
theorem dX1_counted_72 : decode cX1_counted 72 = .ok (.dup, 1) := by decide +kernel
theorem dX1_counted_73 : decode cX1_counted 73 = .ok (.iconst 1, 1) := by decide +kernel
theorem dX1_counted_74 : decode cX1_counted 74 = .ok (.iload_n 2, 1) := by decide +kernel
theorem dX1_counted_75 : decode cX1_counted 75 = .ok (.iastore, 1) := by decide +kernel
theorem dX1_counted_76 : decode cX1_counted 76 = .ok (.dup, 1) := by decide +kernel
theorem dX1_counted_77 : decode cX1_counted 77 = .ok (.iconst 2, 1) := by decide +kernel
theorem dX1_counted_78 : decode cX1_counted 78 = .ok (.iload_n 3, 1) := by decide +kernel
theorem dX1_counted_79 : decode cX1_counted 79 = .ok (.iastore, 1) := by decide +kernel
theorem dX1_counted_80 : decode cX1_counted 80 = .ok (.dup, 1) := by decide +kernel
theorem dX1_counted_81 : decode cX1_counted 81 = .ok (.iconst 3, 1) := by decide +kernel
theorem dX1_counted_82 : decode cX1_counted 82 = .ok (.aload_n 0, 1) := by decide +kernel
theorem dX1_counted_83 : decode cX1_counted 83 = .ok (.getfield 51, 3) := by decide +kernel
theorem dX1_counted_86 : decode cX1_counted 86 = .ok (.iastore, 1) := by decide +kernel
theorem dX1_counted_87 : decode cX1_counted 87 = .ok (.dup, 1) := by decide +kernel
theorem dX1_counted_88 : decode cX1_counted 88 = .ok (.iconst 4, 1) := by decide +kernel
theorem dX1_counted_89 : decode cX1_counted 89 = .ok (.iload 4, 2) := by decide +kernel
theorem dX1_counted_91 : decode cX1_counted 91 = .ok (.iastore, 1) := by decide +kernel
theorem dX1_counted_92 : decode cX1_counted 92 = .ok (.dup, 1) := by decide +kernel
theorem dX1_counted_93 : decode cX1_counted 93 = .ok (.iconst 5, 1) := by decide +kernel
theorem dX1_counted_94 : decode cX1_counted 94 = .ok (.aload_n 0, 1) := by decide +kernel
theorem dX1_counted_95 : decode cX1_counted 95 = .ok (.getfield 75, 3) := by decide +kernel
theorem dX1_counted_98 : decode cX1_counted 98 = .ok (.iastore, 1) := by decide +kernel
theorem dX1_counted_99 : decode cX1_counted 99 = .ok (.dup, 1) := by decide +kernel
theorem dX1_counted_100 : decode cX1_counted 100 = .ok (.bipush 6, 2) := by decide +kernel
theorem dX1_counted_102 : decode cX1_counted 102 = .ok (.aload_n 0, 1) := by decide +kernel
theorem dX1_counted_103 : decode cX1_counted 103 = .ok (.getfield 112, 3) := by decide +kernel
theorem dX1_counted_106 : decode cX1_counted 106 = .ok (.iastore, 1) := by decide +kernel
theorem dX1_counted_107 : decode cX1_counted 107 = .ok (.astore 5, 2) := by decide +kernel
theorem dX1_counted_109 : decode cX1_counted 109 = .ok (.aload 5, 2) := by decide +kernel
theorem dX1_counted_111 : decode cX1_counted 111 = .ok (.iload_n 1, 1) := by decide +kernel
theorem dX1_counted_112 : decode cX1_counted 112 = .ok (.iaload, 1) := by decide +kernel
theorem dX1_counted_113 : decode cX1_counted 113 = .ok (.ireturn, 1) := by decide +kernel
set_option maxRecDepth 20000 in
theorem ggX1_count_X1_isIn : GoodIn wsX1_count wsX1_isIn := goodIn_r _ [5] (by decide +kernel) (by decide +kernel)
set_option maxRecDepth 20000 in
theorem gX1_count_X1_isIn : GoodIn wsX1_count (va_wsS RX1 47 yX1_isIn wsX1_isIn) := goodIn_app (goodIn_of _ (by decide +kernel)) ggX1_count_X1_isIn
set_option maxRecDepth 20000 in
theorem ggX1_count_X1_counted : GoodIn wsX1_count wsX1_counted := goodIn_r _ [9, 10, 11, 12, 13, 14, 15, 16, 17, 18, 19, 4, 20, 21, 26, 27, 28, 29, 30, 31, 32, 33, 34, 35, 36, 37, 38, 39, 40] (by decide +kernel) (by decide +kernel)
set_option maxRecDepth 20000 in
theorem gX1_count_X1_counted : GoodIn wsX1_count (wsV RX1 143 RX1 yX1_counted wsX1_counted) := goodIn_app (goodIn_of _ (by decide +kernel)) ggX1_count_X1_counted
set_option maxRecDepth 20000 in
theorem ggX1_count_X1_no : GoodIn wsX1_count wsX1_no := goodIn_r _ [25, 1, 26, 27, 28, 29, 30, 31, 32, 33, 34, 35, 36, 37, 38, 39, 40] (by decide +kernel) (by decide +kernel)
set_option maxRecDepth 20000 in
theorem gX1_count_X1_no : GoodIn wsX1_count (wsV RX1 78 RX1 yX1_no wsX1_no) := goodIn_app (goodIn_of _ (by decide +kernel)) ggX1_count_X1_no
theorem dX1_count_0 : decode cX1_count 0 = .ok (.aload_n 0, 1) := by decide +kernel
theorem dX1_count_1 : decode cX1_count 1 = .ok (.iconst 0, 1) := by decide +kernel
theorem dX1_count_2 : decode cX1_count 2 = .ok (.putfield 40, 3) := by decide +kernel
theorem dX1_count_5 : decode cX1_count 5 = .ok (.iload_n 1, 1) := by decide +kernel
theorem dX1_count_6 : decode cX1_count 6 = .ok (.iconst 0, 1) := by decide +kernel
theorem dX1_count_7 : decode cX1_count 7 = .ok (.bipush 6, 2) := by decide +kernel
theorem dX1_count_9 : decode cX1_count 9 = .ok (.invokestatic 47, 3) := by decide +kernel
theorem dX1_count_12 : decode cX1_count 12 = .ok (.ifCond .eq 11, 3) := by decide +kernel
theorem dX1_count_15 : decode cX1_count 15 = .ok (.aload_n 0, 1) := by decide +kernel
theorem dX1_count_16 : decode cX1_count 16 = .ok (.iload_n 1, 1) := by decide +kernel
theorem dX1_count_17 : decode cX1_count 17 = .ok (.invokevirtual 143, 3) := by decide +kernel
theorem dX1_count_20 : decode cX1_count 20 = .ok (.goto 8, 3) := by decide +kernel
theorem dX1_count_23 : decode cX1_count 23 = .ok (.aload_n 0, 1) := by decide +kernel
theorem dX1_count_24 : decode cX1_count 24 = .ok (.iconst 1, 1) := by decide +kernel
theorem dX1_count_25 : decode cX1_count 25 = .ok (.invokevirtual 78, 3) := by decide +kernel
theorem dX1_count_28 : decode cX1_count 28 = .ok (.ireturn, 1) := by decide +kernel
set_option maxRecDepth 20000 in
theorem ggX1_would_X1_isKind : GoodIn wsX1_would wsX1_isKind := goodIn_r _ [6, 7, 8, 9, 5, 10, 46, 47, 48, 49, 50, 51, 52, 53, 54, 55, 56, 57, 58, 59, 60] (by decide +kernel) (by decide +kernel)
set_option maxRecDepth 20000 in
theorem gX1_would_X1_isKind : GoodIn wsX1_would (wsV RX1 81 RX1 yX1_isKind wsX1_isKind) := goodIn_app (goodIn_of _ (by decide +kernel)) ggX1_would_X1_isKind
set_option maxRecDepth 20000 in
theorem ggX1_would_X1_goesTo : GoodIn wsX1_would wsX1_goesTo := goodIn_r _ [14, 15, 16, 17, 5, 18, 19, 20, 21, 22, 23, 24, 25, 26, 27, 28, 29, 30, 31, 32, 33, 34, 35, 36, 37, 38, 39, 40, 41, 46, 47, 48, 49, 50, 51, 52, 53, 54, 55, 56, 57, 58, 59, 60] (by decide +kernel) (by decide +kernel)
set_option maxRecDepth 20000 in
theorem gX1_would_X1_goesTo : GoodIn wsX1_would (wsV RX1 85 RX1 yX1_goesTo wsX1_goesTo) := goodIn_app (goodIn_of _ (by decide +kernel)) ggX1_would_X1_goesTo
set_option maxRecDepth 20000 in
theorem ggX1_would_X1_no : GoodIn wsX1_would wsX1_no := goodIn_r _ [45, 1, 46, 47, 48, 49, 50, 51, 52, 53, 54, 55, 56, 57, 58, 59, 60] (by decide +kernel) (by decide +kernel)
set_option maxRecDepth 20000 in
theorem gX1_would_X1_no : GoodIn wsX1_would (wsV RX1 78 RX1 yX1_no wsX1_no) := goodIn_app (goodIn_of _ (by decide +kernel)) ggX1_would_X1_no
theorem dX1_would_0 : decode cX1_would 0 = .ok (.aload_n 0, 1) := by decide +kernel
theorem dX1_would_1 : decode cX1_would 1 = .ok (.iconst 0, 1) := by decide +kernel
theorem dX1_would_2 : decode cX1_would 2 = .ok (.putfield 40, 3) := by decide +kernel
theorem dX1_would_5 : decode cX1_would 5 = .ok (.aload_n 0, 1) := by decide +kernel
theorem dX1_would_6 : decode cX1_would 6 = .ok (.iload_n 1, 1) := by decide +kernel
theorem dX1_would_7 : decode cX1_would 7 = .ok (.invokevirtual 81, 3) := by decide +kernel
theorem dX1_would_10 : decode cX1_would 10 = .ok (.ifCond .eq 11, 3) := by decide +kernel
theorem dX1_would_13 : decode cX1_would 13 = .ok (.aload_n 0, 1) := by decide +kernel
theorem dX1_would_14 : decode cX1_would 14 = .ok (.iload_n 1, 1) := by decide +kernel
theorem dX1_would_15 : decode cX1_would 15 = .ok (.invokevirtual 85, 3) := by decide +kernel
theorem dX1_would_18 : decode cX1_would 18 = .ok (.goto 8, 3) := by decide +kernel
theorem dX1_would_21 : decode cX1_would 21 = .ok (.aload_n 0, 1) := by decide +kernel
theorem dX1_would_22 : decode cX1_would 22 = .ok (.iconst 1, 1) := by decide +kernel
theorem dX1_would_23 : decode cX1_would 23 = .ok (.invokevirtual 78, 3) := by decide +kernel
theorem dX1_would_26 : decode cX1_would 26 = .ok (.ireturn, 1) := by decide +kernel
set_option maxRecDepth 20000 in
theorem ggX1_spares_X1_isKind : GoodIn wsX1_spares wsX1_isKind := goodIn_r _ [6, 7, 8, 9, 5, 10, 30, 31, 32, 33, 34, 35, 36, 37, 38, 39, 40, 41, 42, 43, 44] (by decide +kernel) (by decide +kernel)
set_option maxRecDepth 20000 in
theorem gX1_spares_X1_isKind : GoodIn wsX1_spares (wsV RX1 81 RX1 yX1_isKind wsX1_isKind) := goodIn_app (goodIn_of _ (by decide +kernel)) ggX1_spares_X1_isKind
set_option maxRecDepth 20000 in
theorem ggX1_spares_X1_no : GoodIn wsX1_spares wsX1_no := goodIn_r _ [14, 1, 30, 31, 32, 33, 34, 35, 36, 37, 38, 39, 40, 41, 42, 43, 44] (by decide +kernel) (by decide +kernel)
set_option maxRecDepth 20000 in
theorem gX1_spares_X1_no : GoodIn wsX1_spares (wsV RX1 78 RX1 yX1_no wsX1_no) := goodIn_app (goodIn_of _ (by decide +kernel)) ggX1_spares_X1_no
set_option maxRecDepth 20000 in
theorem ggX1_spares_X1_trays : GoodIn wsX1_spares wsX1_trays := goodIn_r _ [18, 19, 30, 31, 32, 33, 34, 35, 36, 37, 38, 39, 40, 41, 42, 43, 44] (by decide +kernel) (by decide +kernel)
set_option maxRecDepth 20000 in
theorem gX1_spares_X1_trays : GoodIn wsX1_spares (wsV RX1 131 RX1 yX1_trays wsX1_trays) := goodIn_app (goodIn_of _ (by decide +kernel)) ggX1_spares_X1_trays
set_option maxRecDepth 20000 in
theorem ggX1_spares_X1_lying : GoodIn wsX1_spares wsX1_lying := goodIn_r _ [23, 19, 24, 30, 31, 32, 33, 34, 35, 36, 37, 38, 39, 40, 41, 42, 43, 44] (by decide +kernel) (by decide +kernel)
set_option maxRecDepth 20000 in
theorem gX1_spares_X1_lying : GoodIn wsX1_spares (wsV RX1 137 RX1 yX1_lying wsX1_lying) := goodIn_app (goodIn_of _ (by decide +kernel)) ggX1_spares_X1_lying
set_option maxRecDepth 20000 in
theorem ggX1_spares_X1_cells : GoodIn wsX1_spares wsX1_cells := goodIn_r _ [28, 29, 30, 31, 32, 33, 34, 35, 36, 37, 38, 39, 40, 41, 42, 43, 44] (by decide +kernel) (by decide +kernel)
set_option maxRecDepth 20000 in
theorem gX1_spares_X1_cells : GoodIn wsX1_spares (wsV RX1 54 RX1 yX1_cells wsX1_cells) := goodIn_app (goodIn_of _ (by decide +kernel)) ggX1_spares_X1_cells
theorem dX1_spares_0 : decode cX1_spares 0 = .ok (.aload_n 0, 1) := by decide +kernel
theorem dX1_spares_1 : decode cX1_spares 1 = .ok (.iconst 0, 1) := by decide +kernel
theorem dX1_spares_2 : decode cX1_spares 2 = .ok (.putfield 40, 3) := by decide +kernel
theorem dX1_spares_5 : decode cX1_spares 5 = .ok (.aload_n 0, 1) := by decide +kernel
theorem dX1_spares_6 : decode cX1_spares 6 = .ok (.iload_n 1, 1) := by decide +kernel
theorem dX1_spares_7 : decode cX1_spares 7 = .ok (.invokevirtual 81, 3) := by decide +kernel
theorem dX1_spares_10 : decode cX1_spares 10 = .ok (.ifCond .ne 9, 3) := by decide +kernel
theorem dX1_spares_13 : decode cX1_spares 13 = .ok (.aload_n 0, 1) := by decide +kernel
theorem dX1_spares_14 : decode cX1_spares 14 = .ok (.iconst 1, 1) := by decide +kernel
theorem dX1_spares_15 : decode cX1_spares 15 = .ok (.invokevirtual 78, 3) := by decide +kernel
theorem dX1_spares_18 : decode cX1_spares 18 = .ok (.ireturn, 1) := by decide +kernel
theorem dX1_spares_19 : decode cX1_spares 19 = .ok (.aload_n 0, 1) := by decide +kernel
theorem dX1_spares_20 : decode cX1_spares 20 = .ok (.iload_n 1, 1) := by decide +kernel
theorem dX1_spares_21 : decode cX1_spares 21 = .ok (.invokevirtual 131, 3) := by decide +kernel
theorem dX1_spares_24 : decode cX1_spares 24 = .ok (.aload_n 0, 1) := by decide +kernel
theorem dX1_spares_25 : decode cX1_spares 25 = .ok (.iload_n 1, 1) := by decide +kernel
theorem dX1_spares_26 : decode cX1_spares 26 = .ok (.invokevirtual 137, 3) := by decide +kernel
theorem dX1_spares_29 : decode cX1_spares 29 = .ok (.aload_n 0, 1) := by decide +kernel
theorem dX1_spares_30 : decode cX1_spares 30 = .ok (.iload_n 1, 1) := by decide +kernel
theorem dX1_spares_31 : decode cX1_spares 31 = .ok (.invokevirtual 54, 3) := by decide +kernel
theorem dX1_spares_34 : decode cX1_spares 34 = .ok (.iadd, 1) := by decide +kernel
theorem dX1_spares_35 : decode cX1_spares 35 = .ok (.iconst 1, 1) := by decide +kernel
theorem dX1_spares_36 : decode cX1_spares 36 = .ok (.isub, 1) := by decide +kernel
theorem dX1_spares_37 : decode cX1_spares 37 = .ok (.aload_n 0, 1) := by decide +kernel
theorem dX1_spares_38 : decode cX1_spares 38 = .ok (.iload_n 1, 1) := by decide +kernel
theorem dX1_spares_39 : decode cX1_spares 39 = .ok (.invokevirtual 54, 3) := by decide +kernel
theorem dX1_spares_42 : decode cX1_spares 42 = .ok (.idiv, 1) := by decide +kernel
theorem dX1_spares_43 : decode cX1_spares 43 = .ok (.isub, 1) := by decide +kernel
theorem dX1_spares_44 : decode cX1_spares 44 = .ok (.ireturn, 1) := by decide +kernel
set_option maxRecDepth 20000 in
theorem ggX1_room_X1_isKind : GoodIn wsX1_room wsX1_isKind := goodIn_r _ [6, 7, 8, 9, 5, 10, 30, 31, 32, 33, 34, 35, 36, 37, 38, 39, 40, 41, 42, 43, 44] (by decide +kernel) (by decide +kernel)
set_option maxRecDepth 20000 in
theorem gX1_room_X1_isKind : GoodIn wsX1_room (wsV RX1 81 RX1 yX1_isKind wsX1_isKind) := goodIn_app (goodIn_of _ (by decide +kernel)) ggX1_room_X1_isKind
set_option maxRecDepth 20000 in
theorem ggX1_room_X1_trays : GoodIn wsX1_room wsX1_trays := goodIn_r _ [14, 15, 30, 31, 32, 33, 34, 35, 36, 37, 38, 39, 40, 41, 42, 43, 44] (by decide +kernel) (by decide +kernel)
set_option maxRecDepth 20000 in
theorem gX1_room_X1_trays : GoodIn wsX1_room (wsV RX1 131 RX1 yX1_trays wsX1_trays) := goodIn_app (goodIn_of _ (by decide +kernel)) ggX1_room_X1_trays
set_option maxRecDepth 20000 in
theorem ggX1_room_X1_cells : GoodIn wsX1_room wsX1_cells := goodIn_r _ [19, 20, 30, 31, 32, 33, 34, 35, 36, 37, 38, 39, 40, 41, 42, 43, 44] (by decide +kernel) (by decide +kernel)
set_option maxRecDepth 20000 in
theorem gX1_room_X1_cells : GoodIn wsX1_room (wsV RX1 54 RX1 yX1_cells wsX1_cells) := goodIn_app (goodIn_of _ (by decide +kernel)) ggX1_room_X1_cells
set_option maxRecDepth 20000 in
theorem ggX1_room_X1_lying : GoodIn wsX1_room wsX1_lying := goodIn_r _ [24, 15, 25, 30, 31, 32, 33, 34, 35, 36, 37, 38, 39, 40, 41, 42, 43, 44] (by decide +kernel) (by decide +kernel)
set_option maxRecDepth 20000 in
theorem gX1_room_X1_lying : GoodIn wsX1_room (wsV RX1 137 RX1 yX1_lying wsX1_lying) := goodIn_app (goodIn_of _ (by decide +kernel)) ggX1_room_X1_lying
set_option maxRecDepth 20000 in
theorem ggX1_room_X1_no : GoodIn wsX1_room wsX1_no := goodIn_r _ [29, 1, 30, 31, 32, 33, 34, 35, 36, 37, 38, 39, 40, 41, 42, 43, 44] (by decide +kernel) (by decide +kernel)
set_option maxRecDepth 20000 in
theorem gX1_room_X1_no : GoodIn wsX1_room (wsV RX1 78 RX1 yX1_no wsX1_no) := goodIn_app (goodIn_of _ (by decide +kernel)) ggX1_room_X1_no
theorem dX1_room_0 : decode cX1_room 0 = .ok (.aload_n 0, 1) := by decide +kernel
theorem dX1_room_1 : decode cX1_room 1 = .ok (.iconst 0, 1) := by decide +kernel
theorem dX1_room_2 : decode cX1_room 2 = .ok (.putfield 40, 3) := by decide +kernel
theorem dX1_room_5 : decode cX1_room 5 = .ok (.aload_n 0, 1) := by decide +kernel
theorem dX1_room_6 : decode cX1_room 6 = .ok (.iload_n 1, 1) := by decide +kernel
theorem dX1_room_7 : decode cX1_room 7 = .ok (.invokevirtual 81, 3) := by decide +kernel
theorem dX1_room_10 : decode cX1_room 10 = .ok (.ifCond .eq 29, 3) := by decide +kernel
theorem dX1_room_13 : decode cX1_room 13 = .ok (.aload_n 0, 1) := by decide +kernel
theorem dX1_room_14 : decode cX1_room 14 = .ok (.iload_n 1, 1) := by decide +kernel
theorem dX1_room_15 : decode cX1_room 15 = .ok (.invokevirtual 131, 3) := by decide +kernel
theorem dX1_room_18 : decode cX1_room 18 = .ok (.aload_n 0, 1) := by decide +kernel
theorem dX1_room_19 : decode cX1_room 19 = .ok (.iconst (-1), 1) := by decide +kernel
theorem dX1_room_20 : decode cX1_room 20 = .ok (.invokevirtual 131, 3) := by decide +kernel
theorem dX1_room_23 : decode cX1_room 23 = .ok (.iadd, 1) := by decide +kernel
theorem dX1_room_24 : decode cX1_room 24 = .ok (.aload_n 0, 1) := by decide +kernel
theorem dX1_room_25 : decode cX1_room 25 = .ok (.iload_n 1, 1) := by decide +kernel
theorem dX1_room_26 : decode cX1_room 26 = .ok (.invokevirtual 54, 3) := by decide +kernel
theorem dX1_room_29 : decode cX1_room 29 = .ok (.imul, 1) := by decide +kernel
theorem dX1_room_30 : decode cX1_room 30 = .ok (.aload_n 0, 1) := by decide +kernel
theorem dX1_room_31 : decode cX1_room 31 = .ok (.iload_n 1, 1) := by decide +kernel
theorem dX1_room_32 : decode cX1_room 32 = .ok (.invokevirtual 137, 3) := by decide +kernel
theorem dX1_room_35 : decode cX1_room 35 = .ok (.isub, 1) := by decide +kernel
theorem dX1_room_36 : decode cX1_room 36 = .ok (.goto 8, 3) := by decide +kernel
theorem dX1_room_39 : decode cX1_room 39 = .ok (.aload_n 0, 1) := by decide +kernel
theorem dX1_room_40 : decode cX1_room 40 = .ok (.iconst 1, 1) := by decide +kernel
theorem dX1_room_41 : decode cX1_room 41 = .ok (.invokevirtual 78, 3) := by decide +kernel
theorem dX1_room_44 : decode cX1_room 44 = .ok (.ireturn, 1) := by decide +kernel
set_option maxRecDepth 20000 in
theorem ggX1_worst_X1_trays : GoodIn wsX1_worst wsX1_trays := goodIn_r _ [8, 9, 15, 16, 17, 18, 19, 20, 21, 22, 23, 24, 25, 26, 27, 28, 29] (by decide +kernel) (by decide +kernel)
set_option maxRecDepth 20000 in
theorem gX1_worst_X1_trays : GoodIn wsX1_worst (wsV RX1 131 RX1 yX1_trays wsX1_trays) := goodIn_app (goodIn_of _ (by decide +kernel)) ggX1_worst_X1_trays
set_option maxRecDepth 20000 in
theorem ggX1_worst_X1_lying : GoodIn wsX1_worst wsX1_lying := goodIn_r _ [13, 9, 14, 15, 16, 17, 18, 19, 20, 21, 22, 23, 24, 25, 26, 27, 28, 29] (by decide +kernel) (by decide +kernel)
set_option maxRecDepth 20000 in
theorem gX1_worst_X1_lying : GoodIn wsX1_worst (wsV RX1 137 RX1 yX1_lying wsX1_lying) := goodIn_app (goodIn_of _ (by decide +kernel)) ggX1_worst_X1_lying
theorem dX1_worst_0 : decode cX1_worst 0 = .ok (.aload_n 0, 1) := by decide +kernel
theorem dX1_worst_1 : decode cX1_worst 1 = .ok (.iconst 0, 1) := by decide +kernel
theorem dX1_worst_2 : decode cX1_worst 2 = .ok (.putfield 40, 3) := by decide +kernel
theorem dX1_worst_5 : decode cX1_worst 5 = .ok (.iconst (-1), 1) := by decide +kernel
theorem dX1_worst_6 : decode cX1_worst 6 = .ok (.istore_n 1, 1) := by decide +kernel
theorem dX1_worst_7 : decode cX1_worst 7 = .ok (.iconst (-1), 1) := by decide +kernel
theorem dX1_worst_8 : decode cX1_worst 8 = .ok (.istore_n 2, 1) := by decide +kernel
theorem dX1_worst_9 : decode cX1_worst 9 = .ok (.iconst 0, 1) := by decide +kernel
theorem dX1_worst_10 : decode cX1_worst 10 = .ok (.istore_n 3, 1) := by decide +kernel
theorem dX1_worst_11 : decode cX1_worst 11 = .ok (.iload_n 3, 1) := by decide +kernel
theorem dX1_worst_12 : decode cX1_worst 12 = .ok (.aload_n 0, 1) := by decide +kernel
theorem dX1_worst_13 : decode cX1_worst 13 = .ok (.getfield 44, 3) := by decide +kernel
theorem dX1_worst_16 : decode cX1_worst 16 = .ok (.if_icmp .ge 46, 3) := by decide +kernel
theorem dX1_worst_19 : decode cX1_worst 19 = .ok (.bipush 64, 2) := by decide +kernel
theorem dX1_worst_21 : decode cX1_worst 21 = .ok (.aload_n 0, 1) := by decide +kernel
theorem dX1_worst_22 : decode cX1_worst 22 = .ok (.iload_n 3, 1) := by decide +kernel
theorem dX1_worst_23 : decode cX1_worst 23 = .ok (.invokevirtual 131, 3) := by decide +kernel
theorem dX1_worst_26 : decode cX1_worst 26 = .ok (.imul, 1) := by decide +kernel
theorem dX1_worst_27 : decode cX1_worst 27 = .ok (.aload_n 0, 1) := by decide +kernel
theorem dX1_worst_28 : decode cX1_worst 28 = .ok (.getfield 9, 3) := by decide +kernel
theorem dX1_worst_31 : decode cX1_worst 31 = .ok (.iload_n 3, 1) := by decide +kernel
theorem dX1_worst_32 : decode cX1_worst 32 = .ok (.iaload, 1) := by decide +kernel
theorem dX1_worst_33 : decode cX1_worst 33 = .ok (.aload_n 0, 1) := by decide +kernel
theorem dX1_worst_34 : decode cX1_worst 34 = .ok (.iload_n 3, 1) := by decide +kernel
theorem dX1_worst_35 : decode cX1_worst 35 = .ok (.invokevirtual 137, 3) := by decide +kernel
theorem dX1_worst_38 : decode cX1_worst 38 = .ok (.imul, 1) := by decide +kernel
theorem dX1_worst_39 : decode cX1_worst 39 = .ok (.isub, 1) := by decide +kernel
theorem dX1_worst_40 : decode cX1_worst 40 = .ok (.istore 4, 2) := by decide +kernel
theorem dX1_worst_42 : decode cX1_worst 42 = .ok (.iload 4, 2) := by decide +kernel
theorem dX1_worst_44 : decode cX1_worst 44 = .ok (.iload_n 2, 1) := by decide +kernel
theorem dX1_worst_45 : decode cX1_worst 45 = .ok (.if_icmp .gt 6, 3) := by decide +kernel
theorem dX1_worst_48 : decode cX1_worst 48 = .ok (.goto 8, 3) := by decide +kernel
theorem dX1_worst_51 : decode cX1_worst 51 = .ok (.iload 4, 2) := by decide +kernel
theorem dX1_worst_53 : decode cX1_worst 53 = .ok (.istore_n 2, 1) := by decide +kernel
theorem dX1_worst_54 : decode cX1_worst 54 = .ok (.iload_n 3, 1) := by decide +kernel
theorem dX1_worst_55 : decode cX1_worst 55 = .ok (.istore_n 1, 1) := by decide +kernel
theorem dX1_worst_56 : decode cX1_worst 56 = .ok (.iinc 3 1, 3) := by decide +kernel
theorem dX1_worst_59 : decode cX1_worst 59 = .ok (.goto (-48), 3) := by decide +kernel
theorem dX1_worst_62 : decode cX1_worst 62 = .ok (.iload_n 1, 1) := by decide +kernel
theorem dX1_worst_63 : decode cX1_worst 63 = .ok (.ireturn, 1) := by decide +kernel
set_option maxRecDepth 20000 in
theorem ggX1_mean_X1_counted : GoodIn wsX1_mean wsX1_counted := goodIn_r _ [6, 7, 8, 9, 10, 11, 12, 13, 14, 15, 16, 5, 17, 18, 19, 20, 21, 22, 23, 24, 25, 26, 27, 28, 29, 30, 31, 32, 33] (by decide +kernel) (by decide +kernel)
set_option maxRecDepth 20000 in
theorem gX1_mean_X1_counted : GoodIn wsX1_mean (wsV RX1 143 RX1 yX1_counted wsX1_counted) := goodIn_app (goodIn_of _ (by decide +kernel)) ggX1_mean_X1_counted
theorem dX1_mean_0 : decode cX1_mean 0 = .ok (.aload_n 0, 1) := by decide +kernel
theorem dX1_mean_1 : decode cX1_mean 1 = .ok (.iconst 0, 1) := by decide +kernel
theorem dX1_mean_2 : decode cX1_mean 2 = .ok (.putfield 40, 3) := by decide +kernel
theorem dX1_mean_5 : decode cX1_mean 5 = .ok (.aload_n 0, 1) := by decide +kernel
theorem dX1_mean_6 : decode cX1_mean 6 = .ok (.iconst 1, 1) := by decide +kernel
theorem dX1_mean_7 : decode cX1_mean 7 = .ok (.invokevirtual 143, 3) := by decide +kernel
theorem dX1_mean_10 : decode cX1_mean 10 = .ok (.ifCond .ne 7, 3) := by decide +kernel
theorem dX1_mean_13 : decode cX1_mean 13 = .ok (.dconst 0, 1) := by decide +kernel
theorem dX1_mean_14 : decode cX1_mean 14 = .ok (.goto 16, 3) := by decide +kernel
theorem dX1_mean_17 : decode cX1_mean 17 = .ok (.aload_n 0, 1) := by decide +kernel
theorem dX1_mean_18 : decode cX1_mean 18 = .ok (.iconst 2, 1) := by decide +kernel
theorem dX1_mean_19 : decode cX1_mean 19 = .ok (.invokevirtual 143, 3) := by decide +kernel
theorem dX1_mean_22 : decode cX1_mean 22 = .ok (.i2d, 1) := by decide +kernel
theorem dX1_mean_23 : decode cX1_mean 23 = .ok (.aload_n 0, 1) := by decide +kernel
theorem dX1_mean_24 : decode cX1_mean 24 = .ok (.iconst 1, 1) := by decide +kernel
theorem dX1_mean_25 : decode cX1_mean 25 = .ok (.invokevirtual 143, 3) := by decide +kernel
theorem dX1_mean_28 : decode cX1_mean 28 = .ok (.i2d, 1) := by decide +kernel
theorem dX1_mean_29 : decode cX1_mean 29 = .ok (.ddiv, 1) := by decide +kernel
theorem dX1_mean_30 : decode cX1_mean 30 = .ok (.dreturn, 1) := by decide +kernel
set_option maxRecDepth 20000 in
theorem ggX1_digest_X1_counted : GoodIn wsX1_digest wsX1_counted := goodIn_r _ [11, 5, 12, 13, 4, 14, 15, 16, 17, 18, 19, 10, 20, 21, 57, 58, 59, 60, 61, 62, 63, 64, 65, 66, 67, 68, 69, 70, 71] (by decide +kernel) (by decide +kernel)
set_option maxRecDepth 20000 in
theorem gX1_digest_X1_counted : GoodIn wsX1_digest (wsV RX1 143 RX1 yX1_counted wsX1_counted) := goodIn_app (goodIn_of _ (by decide +kernel)) ggX1_digest_X1_counted
set_option maxRecDepth 20000 in
theorem ggX1_digest_X1_kindTold : GoodIn wsX1_digest wsX1_kindTold := goodIn_r _ [25, 13, 21, 26, 27, 28, 29, 30, 10, 31, 5, 32, 33, 34, 35, 36, 37, 38, 39, 12, 40, 41, 42, 43, 44, 45, 46, 47, 48, 49, 50, 51, 57, 58, 59, 60, 61, 62, 63, 64, 65, 66, 67, 68, 69, 70, 71] (by decide +kernel) (by decide +kernel)
set_option maxRecDepth 20000 in
theorem gX1_digest_X1_kindTold : GoodIn wsX1_digest (wsV RX1 140 RX1 yX1_kindTold wsX1_kindTold) := goodIn_app (goodIn_of _ (by decide +kernel)) ggX1_digest_X1_kindTold
set_option maxRecDepth 20000 in
theorem ggX1_digest_X1_trayTold : GoodIn wsX1_digest wsX1_trayTold := goodIn_r _ [55, 5, 56, 12, 44, 45, 46, 10, 47, 21, 17, 18, 19, 20, 57, 58, 59, 60, 61, 62, 63, 64, 65, 66, 67, 68, 69, 70, 71] (by decide +kernel) (by decide +kernel)
set_option maxRecDepth 20000 in
theorem gX1_digest_X1_trayTold : GoodIn wsX1_digest (wsV RX1 128 RX1 yX1_trayTold wsX1_trayTold) := goodIn_app (goodIn_of _ (by decide +kernel)) ggX1_digest_X1_trayTold
set_option maxRecDepth 20000 in
theorem ggX1_digest_X1_cells : GoodIn wsX1_digest wsX1_cells := goodIn_r _ [47, 21, 57, 58, 59, 60, 61, 62, 63, 64, 65, 66, 67, 68, 69, 70, 71] (by decide +kernel) (by decide +kernel)
set_option maxRecDepth 20000 in
theorem gX1_digest_X1_cells : GoodIn wsX1_digest (wsV RX1 54 RX1 yX1_cells wsX1_cells) := goodIn_app (goodIn_of _ (by decide +kernel)) ggX1_digest_X1_cells
theorem dX1_digest_0 : decode cX1_digest 0 = .ok (.aload_n 0, 1) := by decide +kernel
theorem dX1_digest_1 : decode cX1_digest 1 = .ok (.iconst 0, 1) := by decide +kernel
theorem dX1_digest_2 : decode cX1_digest 2 = .ok (.putfield 40, 3) := by decide +kernel
theorem dX1_digest_5 : decode cX1_digest 5 = .ok (.ldc2_w 146, 3) := by decide +kernel
theorem dX1_digest_8 : decode cX1_digest 8 = .ok (.lstore_n 1, 1) := by decide +kernel
theorem dX1_digest_9 : decode cX1_digest 9 = .ok (.iconst 0, 1) := by decide +kernel
theorem dX1_digest_10 : decode cX1_digest 10 = .ok (.istore_n 3, 1) := by decide +kernel
theorem dX1_digest_11 : decode cX1_digest 11 = .ok (.iload_n 3, 1) := by decide +kernel
theorem dX1_digest_12 : decode cX1_digest 12 = .ok (.bipush 6, 2) := by decide +kernel
theorem dX1_digest_14 : decode cX1_digest 14 = .ok (.if_icmp .gt 22, 3) := by decide +kernel
theorem dX1_digest_17 : decode cX1_digest 17 = .ok (.lload_n 1, 1) := by decide +kernel
theorem dX1_digest_18 : decode cX1_digest 18 = .ok (.ldc2_w 148, 3) := by decide +kernel
theorem dX1_digest_21 : decode cX1_digest 21 = .ok (.lmul, 1) := by decide +kernel
theorem dX1_digest_22 : decode cX1_digest 22 = .ok (.aload_n 0, 1) := by decide +kernel
theorem dX1_digest_23 : decode cX1_digest 23 = .ok (.iload_n 3, 1) := by decide +kernel
theorem dX1_digest_24 : decode cX1_digest 24 = .ok (.invokevirtual 143, 3) := by decide +kernel
theorem dX1_digest_27 : decode cX1_digest 27 = .ok (.i2l, 1) := by decide +kernel
theorem dX1_digest_28 : decode cX1_digest 28 = .ok (.ladd, 1) := by decide +kernel
theorem dX1_digest_29 : decode cX1_digest 29 = .ok (.lstore_n 1, 1) := by decide +kernel
theorem dX1_digest_30 : decode cX1_digest 30 = .ok (.iinc 3 1, 3) := by decide +kernel
theorem dX1_digest_33 : decode cX1_digest 33 = .ok (.goto (-22), 3) := by decide +kernel
theorem dX1_digest_36 : decode cX1_digest 36 = .ok (.iconst 0, 1) := by decide +kernel
theorem dX1_digest_37 : decode cX1_digest 37 = .ok (.istore_n 3, 1) := by decide +kernel
theorem dX1_digest_38 : decode cX1_digest 38 = .ok (.iload_n 3, 1) := by decide +kernel
theorem dX1_digest_39 : decode cX1_digest 39 = .ok (.aload_n 0, 1) := by decide +kernel
theorem dX1_digest_40 : decode cX1_digest 40 = .ok (.getfield 44, 3) := by decide +kernel
theorem dX1_digest_43 : decode cX1_digest 43 = .ok (.if_icmp .ge 40, 3) := by decide +kernel
theorem dX1_digest_46 : decode cX1_digest 46 = .ok (.iconst 0, 1) := by decide +kernel
theorem dX1_digest_47 : decode cX1_digest 47 = .ok (.istore 4, 2) := by decide +kernel
theorem dX1_digest_49 : decode cX1_digest 49 = .ok (.iload 4, 2) := by decide +kernel
theorem dX1_digest_51 : decode cX1_digest 51 = .ok (.bipush 7, 2) := by decide +kernel
theorem dX1_digest_53 : decode cX1_digest 53 = .ok (.if_icmp .gt 24, 3) := by decide +kernel
theorem dX1_digest_56 : decode cX1_digest 56 = .ok (.lload_n 1, 1) := by decide +kernel
theorem dX1_digest_57 : decode cX1_digest 57 = .ok (.ldc2_w 148, 3) := by decide +kernel
theorem dX1_digest_60 : decode cX1_digest 60 = .ok (.lmul, 1) := by decide +kernel
theorem dX1_digest_61 : decode cX1_digest 61 = .ok (.aload_n 0, 1) := by decide +kernel
theorem dX1_digest_62 : decode cX1_digest 62 = .ok (.iload_n 3, 1) := by decide +kernel
theorem dX1_digest_63 : decode cX1_digest 63 = .ok (.iload 4, 2) := by decide +kernel
theorem dX1_digest_65 : decode cX1_digest 65 = .ok (.invokevirtual 140, 3) := by decide +kernel
theorem dX1_digest_68 : decode cX1_digest 68 = .ok (.i2l, 1) := by decide +kernel
theorem dX1_digest_69 : decode cX1_digest 69 = .ok (.ladd, 1) := by decide +kernel
theorem dX1_digest_70 : decode cX1_digest 70 = .ok (.lstore_n 1, 1) := by decide +kernel
theorem dX1_digest_71 : decode cX1_digest 71 = .ok (.iinc 4 1, 3) := by decide +kernel
theorem dX1_digest_74 : decode cX1_digest 74 = .ok (.goto (-25), 3) := by decide +kernel
theorem dX1_digest_77 : decode cX1_digest 77 = .ok (.iinc 3 1, 3) := by decide +kernel
theorem dX1_digest_80 : decode cX1_digest 80 = .ok (.goto (-42), 3) := by decide +kernel
theorem dX1_digest_83 : decode cX1_digest 83 = .ok (.iconst 0, 1) := by decide +kernel
theorem dX1_digest_84 : decode cX1_digest 84 = .ok (.istore_n 3, 1) := by decide +kernel
theorem dX1_digest_85 : decode cX1_digest 85 = .ok (.iload_n 3, 1) := by decide +kernel
theorem dX1_digest_86 : decode cX1_digest 86 = .ok (.bipush 20, 2) := by decide +kernel
theorem dX1_digest_88 : decode cX1_digest 88 = .ok (.if_icmp .ge 93, 3) := by decide +kernel
theorem dX1_digest_91 : decode cX1_digest 91 = .ok (.iconst 0, 1) := by decide +kernel
theorem dX1_digest_92 : decode cX1_digest 92 = .ok (.istore 4, 2) := by decide +kernel
theorem dX1_digest_94 : decode cX1_digest 94 = .ok (.iload 4, 2) := by decide +kernel
theorem dX1_digest_96 : decode cX1_digest 96 = .ok (.iconst 4, 1) := by decide +kernel
theorem dX1_digest_97 : decode cX1_digest 97 = .ok (.if_icmp .gt 24, 3) := by decide +kernel
theorem dX1_digest_100 : decode cX1_digest 100 = .ok (.lload_n 1, 1) := by decide +kernel
theorem dX1_digest_101 : decode cX1_digest 101 = .ok (.ldc2_w 148, 3) := by decide +kernel
theorem dX1_digest_104 : decode cX1_digest 104 = .ok (.lmul, 1) := by decide +kernel
theorem dX1_digest_105 : decode cX1_digest 105 = .ok (.aload_n 0, 1) := by decide +kernel
theorem dX1_digest_106 : decode cX1_digest 106 = .ok (.iload_n 3, 1) := by decide +kernel
theorem dX1_digest_107 : decode cX1_digest 107 = .ok (.iload 4, 2) := by decide +kernel
theorem dX1_digest_109 : decode cX1_digest 109 = .ok (.invokevirtual 128, 3) := by decide +kernel
theorem dX1_digest_112 : decode cX1_digest 112 = .ok (.i2l, 1) := by decide +kernel
theorem dX1_digest_113 : decode cX1_digest 113 = .ok (.ladd, 1) := by decide +kernel
theorem dX1_digest_114 : decode cX1_digest 114 = .ok (.lstore_n 1, 1) := by decide +kernel
theorem dX1_digest_115 : decode cX1_digest 115 = .ok (.iinc 4 1, 3) := by decide +kernel
theorem dX1_digest_118 : decode cX1_digest 118 = .ok (.goto (-24), 3) := by decide +kernel
theorem dX1_digest_121 : decode cX1_digest 121 = .ok (.iconst 0, 1) := by decide +kernel
theorem dX1_digest_122 : decode cX1_digest 122 = .ok (.istore 4, 2) := by decide +kernel
theorem dX1_digest_124 : decode cX1_digest 124 = .ok (.aload_n 0, 1) := by decide +kernel
theorem dX1_digest_125 : decode cX1_digest 125 = .ok (.getfield 19, 3) := by decide +kernel
theorem dX1_digest_128 : decode cX1_digest 128 = .ok (.iload_n 3, 1) := by decide +kernel
theorem dX1_digest_129 : decode cX1_digest 129 = .ok (.iaload, 1) := by decide +kernel
theorem dX1_digest_130 : decode cX1_digest 130 = .ok (.iconst (-1), 1) := by decide +kernel
theorem dX1_digest_131 : decode cX1_digest 131 = .ok (.if_icmp .eq 44, 3) := by decide +kernel
theorem dX1_digest_134 : decode cX1_digest 134 = .ok (.iload 4, 2) := by decide +kernel
theorem dX1_digest_136 : decode cX1_digest 136 = .ok (.aload_n 0, 1) := by decide +kernel
theorem dX1_digest_137 : decode cX1_digest 137 = .ok (.aload_n 0, 1) := by decide +kernel
theorem dX1_digest_138 : decode cX1_digest 138 = .ok (.getfield 19, 3) := by decide +kernel
theorem dX1_digest_141 : decode cX1_digest 141 = .ok (.iload_n 3, 1) := by decide +kernel
theorem dX1_digest_142 : decode cX1_digest 142 = .ok (.iaload, 1) := by decide +kernel
theorem dX1_digest_143 : decode cX1_digest 143 = .ok (.invokevirtual 54, 3) := by decide +kernel
theorem dX1_digest_146 : decode cX1_digest 146 = .ok (.if_icmp .ge 29, 3) := by decide +kernel
theorem dX1_digest_149 : decode cX1_digest 149 = .ok (.lload_n 1, 1) := by decide +kernel
theorem dX1_digest_150 : decode cX1_digest 150 = .ok (.ldc2_w 148, 3) := by decide +kernel
theorem dX1_digest_153 : decode cX1_digest 153 = .ok (.lmul, 1) := by decide +kernel
theorem dX1_digest_154 : decode cX1_digest 154 = .ok (.aload_n 0, 1) := by decide +kernel
theorem dX1_digest_155 : decode cX1_digest 155 = .ok (.getfield 28, 3) := by decide +kernel
theorem dX1_digest_158 : decode cX1_digest 158 = .ok (.bipush 64, 2) := by decide +kernel
theorem dX1_digest_160 : decode cX1_digest 160 = .ok (.iload_n 3, 1) := by decide +kernel
theorem dX1_digest_161 : decode cX1_digest 161 = .ok (.imul, 1) := by decide +kernel
theorem dX1_digest_162 : decode cX1_digest 162 = .ok (.iload 4, 2) := by decide +kernel
theorem dX1_digest_164 : decode cX1_digest 164 = .ok (.iadd, 1) := by decide +kernel
theorem dX1_digest_165 : decode cX1_digest 165 = .ok (.iaload, 1) := by decide +kernel
theorem dX1_digest_166 : decode cX1_digest 166 = .ok (.i2l, 1) := by decide +kernel
theorem dX1_digest_167 : decode cX1_digest 167 = .ok (.ladd, 1) := by decide +kernel
theorem dX1_digest_168 : decode cX1_digest 168 = .ok (.lstore_n 1, 1) := by decide +kernel
theorem dX1_digest_169 : decode cX1_digest 169 = .ok (.iinc 4 1, 3) := by decide +kernel
theorem dX1_digest_172 : decode cX1_digest 172 = .ok (.goto (-48), 3) := by decide +kernel
theorem dX1_digest_175 : decode cX1_digest 175 = .ok (.iinc 3 1, 3) := by decide +kernel
theorem dX1_digest_178 : decode cX1_digest 178 = .ok (.goto (-93), 3) := by decide +kernel
theorem dX1_digest_181 : decode cX1_digest 181 = .ok (.lload_n 1, 1) := by decide +kernel
theorem dX1_digest_182 : decode cX1_digest 182 = .ok (.lreturn, 1) := by decide +kernel
end
section
set_option maxRecDepth 20000 in
theorem ggL_kind_X0_kind : GoodIn wsL_kind wsX0_kind := goodIn_ca (goodIn_ca (goodIn_r _ [7, 8, 9, 10, 11, 12, 13, 14, 15, 16, 17, 18, 19, 20, 21, 22, 23, 24, 25, 26, 27, 28, 29, 30, 31, 32] (by decide +kernel) (by decide +kernel)) (goodIn_sub (fun _ h => List.mem_cons_of_mem _ (List.mem_append_left _ (List.mem_append_right _ h))) (by decide +kernel))) (goodIn_sub (fun _ h => List.mem_cons_of_mem _ (List.mem_append_right _ h)) (by decide +kernel))
set_option maxRecDepth 20000 in
theorem gL_kind_X0_kind : GoodIn wsL_kind (wsV RL 7 RX0 yX0_kind wsX0_kind) := goodIn_app (goodIn_of _ (by decide +kernel)) ggL_kind_X0_kind
theorem dL_kind_0 : decode cL_kind 0 = .ok (.aload_n 3, 1) := by decide +kernel
theorem dL_kind_1 : decode cL_kind 1 = .ok (.iconst 0, 1) := by decide +kernel
theorem dL_kind_2 : decode cL_kind 2 = .ok (.aload_n 0, 1) := by decide +kernel
theorem dL_kind_3 : decode cL_kind 3 = .ok (.iload_n 1, 1) := by decide +kernel
theorem dL_kind_4 : decode cL_kind 4 = .ok (.iload_n 2, 1) := by decide +kernel
theorem dL_kind_5 : decode cL_kind 5 = .ok (.invokevirtual 7, 3) := by decide +kernel
theorem dL_kind_8 : decode cL_kind 8 = .ok (.i2l, 1) := by decide +kernel
theorem dL_kind_9 : decode cL_kind 9 = .ok (.lastore, 1) := by decide +kernel
theorem dL_kind_10 : decode cL_kind 10 = .ok (.goto 11, 3) := by decide +kernel
theorem dL_kind_13 : decode cL_kind 13 = .ok (.astore 4, 2) := by decide +kernel
theorem dL_kind_15 : decode cL_kind 15 = .ok (.iconst 1, 1) := by decide +kernel
theorem dL_kind_16 : decode cL_kind 16 = .ok (.ireturn, 1) := by decide +kernel
theorem dL_kind_17 : decode cL_kind 17 = .ok (.astore 4, 2) := by decide +kernel
theorem dL_kind_19 : decode cL_kind 19 = .ok (.iconst 2, 1) := by decide +kernel
theorem dL_kind_20 : decode cL_kind 20 = .ok (.ireturn, 1) := by decide +kernel
theorem dL_kind_21 : decode cL_kind 21 = .ok (.iconst 0, 1) := by decide +kernel
theorem dL_kind_22 : decode cL_kind 22 = .ok (.ireturn, 1) := by decide +kernel
set_option maxRecDepth 20000 in
theorem ggL_put_X0_put : GoodIn wsL_put wsX0_put := goodIn_ca (goodIn_ca (goodIn_r _ [7, 8, 9, 10, 11, 12, 13, 14, 15, 6, 16, 17, 18, 19, 20, 21, 22, 23, 24, 25, 26, 27, 28, 29, 30, 31, 32, 33, 34, 35, 36, 37, 38, 39, 40, 41, 42, 43, 44, 45, 46, 47, 48, 49, 50, 51, 52, 53, 54, 55, 56, 57, 58, 59, 60, 61, 62, 63, 64, 65, 66, 67, 68, 69, 70, 71, 72, 73, 74, 75, 76] (by decide +kernel) (by decide +kernel)) (goodIn_sub (fun _ h => List.mem_cons_of_mem _ (List.mem_append_left _ (List.mem_append_right _ h))) (by decide +kernel))) (goodIn_sub (fun _ h => List.mem_cons_of_mem _ (List.mem_append_right _ h)) (by decide +kernel))
set_option maxRecDepth 20000 in
theorem gL_put_X0_put : GoodIn wsL_put (wsV RL 17 RX0 yX0_put wsX0_put) := goodIn_app (goodIn_of _ (by decide +kernel)) ggL_put_X0_put
theorem dL_put_0 : decode cL_put 0 = .ok (.aload_n 2, 1) := by decide +kernel
theorem dL_put_1 : decode cL_put 1 = .ok (.iconst 0, 1) := by decide +kernel
theorem dL_put_2 : decode cL_put 2 = .ok (.aload_n 0, 1) := by decide +kernel
theorem dL_put_3 : decode cL_put 3 = .ok (.iload_n 1, 1) := by decide +kernel
theorem dL_put_4 : decode cL_put 4 = .ok (.invokevirtual 17, 3) := by decide +kernel
theorem dL_put_7 : decode cL_put 7 = .ok (.i2l, 1) := by decide +kernel
theorem dL_put_8 : decode cL_put 8 = .ok (.lastore, 1) := by decide +kernel
theorem dL_put_9 : decode cL_put 9 = .ok (.goto 9, 3) := by decide +kernel
theorem dL_put_12 : decode cL_put 12 = .ok (.astore_n 3, 1) := by decide +kernel
theorem dL_put_13 : decode cL_put 13 = .ok (.iconst 1, 1) := by decide +kernel
theorem dL_put_14 : decode cL_put 14 = .ok (.ireturn, 1) := by decide +kernel
theorem dL_put_15 : decode cL_put 15 = .ok (.astore_n 3, 1) := by decide +kernel
theorem dL_put_16 : decode cL_put 16 = .ok (.iconst 2, 1) := by decide +kernel
theorem dL_put_17 : decode cL_put 17 = .ok (.ireturn, 1) := by decide +kernel
theorem dL_put_18 : decode cL_put 18 = .ok (.iconst 0, 1) := by decide +kernel
theorem dL_put_19 : decode cL_put 19 = .ok (.ireturn, 1) := by decide +kernel
set_option maxRecDepth 20000 in
theorem ggL_take_X0_take : GoodIn wsL_take wsX0_take := goodIn_ca (goodIn_ca (goodIn_r _ [7, 8, 9, 10, 11, 12, 13, 14, 15, 6, 16, 17, 18, 19, 20, 21, 22, 23, 24, 25, 26, 27, 28, 29, 30, 31, 32, 33, 34, 35, 36, 37, 38, 39, 40, 41, 42, 43, 44, 45, 46, 47, 48, 49, 50, 51] (by decide +kernel) (by decide +kernel)) (goodIn_sub (fun _ h => List.mem_cons_of_mem _ (List.mem_append_left _ (List.mem_append_right _ h))) (by decide +kernel))) (goodIn_sub (fun _ h => List.mem_cons_of_mem _ (List.mem_append_right _ h)) (by decide +kernel))
set_option maxRecDepth 20000 in
theorem gL_take_X0_take : GoodIn wsL_take (wsV RL 23 RX0 yX0_take wsX0_take) := goodIn_app (goodIn_of _ (by decide +kernel)) ggL_take_X0_take
theorem dL_take_0 : decode cL_take 0 = .ok (.aload_n 2, 1) := by decide +kernel
theorem dL_take_1 : decode cL_take 1 = .ok (.iconst 0, 1) := by decide +kernel
theorem dL_take_2 : decode cL_take 2 = .ok (.aload_n 0, 1) := by decide +kernel
theorem dL_take_3 : decode cL_take 3 = .ok (.iload_n 1, 1) := by decide +kernel
theorem dL_take_4 : decode cL_take 4 = .ok (.invokevirtual 23, 3) := by decide +kernel
theorem dL_take_7 : decode cL_take 7 = .ok (.ifCond .eq 7, 3) := by decide +kernel
theorem dL_take_10 : decode cL_take 10 = .ok (.lconst 1, 1) := by decide +kernel
theorem dL_take_11 : decode cL_take 11 = .ok (.goto 4, 3) := by decide +kernel
theorem dL_take_14 : decode cL_take 14 = .ok (.lconst 0, 1) := by decide +kernel
theorem dL_take_15 : decode cL_take 15 = .ok (.lastore, 1) := by decide +kernel
theorem dL_take_16 : decode cL_take 16 = .ok (.goto 9, 3) := by decide +kernel
theorem dL_take_19 : decode cL_take 19 = .ok (.astore_n 3, 1) := by decide +kernel
theorem dL_take_20 : decode cL_take 20 = .ok (.iconst 1, 1) := by decide +kernel
theorem dL_take_21 : decode cL_take 21 = .ok (.ireturn, 1) := by decide +kernel
theorem dL_take_22 : decode cL_take 22 = .ok (.astore_n 3, 1) := by decide +kernel
theorem dL_take_23 : decode cL_take 23 = .ok (.iconst 2, 1) := by decide +kernel
theorem dL_take_24 : decode cL_take 24 = .ok (.ireturn, 1) := by decide +kernel
theorem dL_take_25 : decode cL_take 25 = .ok (.iconst 0, 1) := by decide +kernel
theorem dL_take_26 : decode cL_take 26 = .ok (.ireturn, 1) := by decide +kernel
set_option maxRecDepth 20000 in
theorem ggL_pack_X0_pack : GoodIn wsL_pack wsX0_pack := goodIn_ca (goodIn_r _ [6, 7, 8, 9, 10, 5, 11, 12, 13, 14, 15, 16, 17, 18, 19, 20, 21, 22, 23, 24, 25, 26, 27, 28, 29, 30, 31, 32, 33, 34, 35, 36, 37, 38, 39, 40, 41, 42, 43, 44, 45, 46, 47, 48, 49, 50, 51, 52, 53, 54, 55, 56, 57, 58, 59, 60, 61, 62, 63, 64] (by decide +kernel) (by decide +kernel)) (goodIn_sub (fun _ h => List.mem_cons_of_mem _ (List.mem_append_right _ h)) (by decide +kernel))
set_option maxRecDepth 20000 in
theorem gL_pack_X0_pack : GoodIn wsL_pack (wsV RL 27 RX0 yX0_pack wsX0_pack) := goodIn_app (goodIn_of _ (by decide +kernel)) ggL_pack_X0_pack
theorem dL_pack_0 : decode cL_pack 0 = .ok (.aload_n 2, 1) := by decide +kernel
theorem dL_pack_1 : decode cL_pack 1 = .ok (.iconst 0, 1) := by decide +kernel
theorem dL_pack_2 : decode cL_pack 2 = .ok (.aload_n 0, 1) := by decide +kernel
theorem dL_pack_3 : decode cL_pack 3 = .ok (.iload_n 1, 1) := by decide +kernel
theorem dL_pack_4 : decode cL_pack 4 = .ok (.invokevirtual 27, 3) := by decide +kernel
theorem dL_pack_7 : decode cL_pack 7 = .ok (.i2l, 1) := by decide +kernel
theorem dL_pack_8 : decode cL_pack 8 = .ok (.lastore, 1) := by decide +kernel
theorem dL_pack_9 : decode cL_pack 9 = .ok (.goto 6, 3) := by decide +kernel
theorem dL_pack_12 : decode cL_pack 12 = .ok (.astore_n 3, 1) := by decide +kernel
theorem dL_pack_13 : decode cL_pack 13 = .ok (.iconst 1, 1) := by decide +kernel
theorem dL_pack_14 : decode cL_pack 14 = .ok (.ireturn, 1) := by decide +kernel
theorem dL_pack_15 : decode cL_pack 15 = .ok (.iconst 0, 1) := by decide +kernel
theorem dL_pack_16 : decode cL_pack 16 = .ok (.ireturn, 1) := by decide +kernel
set_option maxRecDepth 20000 in
theorem ggL_told_X0_told : GoodIn wsL_told wsX0_told := goodIn_ca (goodIn_r _ [6, 7, 8, 9, 10, 11, 12, 13, 14, 5, 15, 16, 17, 18, 19, 20, 21, 22, 23, 24, 25, 26, 27, 28, 29, 30, 31, 32, 33, 34, 35, 36, 37, 38] (by decide +kernel) (by decide +kernel)) (goodIn_sub (fun _ h => List.mem_cons_of_mem _ (List.mem_append_right _ h)) (by decide +kernel))
set_option maxRecDepth 20000 in
theorem gL_told_X0_told : GoodIn wsL_told (wsV RL 30 RX0 yX0_told wsX0_told) := goodIn_app (goodIn_of _ (by decide +kernel)) ggL_told_X0_told
theorem dL_told_0 : decode cL_told 0 = .ok (.aload_n 3, 1) := by decide +kernel
theorem dL_told_1 : decode cL_told 1 = .ok (.iconst 0, 1) := by decide +kernel
theorem dL_told_2 : decode cL_told 2 = .ok (.aload_n 0, 1) := by decide +kernel
theorem dL_told_3 : decode cL_told 3 = .ok (.iload_n 1, 1) := by decide +kernel
theorem dL_told_4 : decode cL_told 4 = .ok (.iload_n 2, 1) := by decide +kernel
theorem dL_told_5 : decode cL_told 5 = .ok (.invokevirtual 30, 3) := by decide +kernel
theorem dL_told_8 : decode cL_told 8 = .ok (.i2l, 1) := by decide +kernel
theorem dL_told_9 : decode cL_told 9 = .ok (.lastore, 1) := by decide +kernel
theorem dL_told_10 : decode cL_told 10 = .ok (.goto 7, 3) := by decide +kernel
theorem dL_told_13 : decode cL_told 13 = .ok (.astore 4, 2) := by decide +kernel
theorem dL_told_15 : decode cL_told 15 = .ok (.iconst 1, 1) := by decide +kernel
theorem dL_told_16 : decode cL_told 16 = .ok (.ireturn, 1) := by decide +kernel
theorem dL_told_17 : decode cL_told 17 = .ok (.iconst 0, 1) := by decide +kernel
theorem dL_told_18 : decode cL_told 18 = .ok (.ireturn, 1) := by decide +kernel
set_option maxRecDepth 20000 in
theorem ggL_tray_X0_tray : GoodIn wsL_tray wsX0_tray := goodIn_ca (goodIn_r _ [6, 7, 8, 9, 10, 11, 12, 13, 14, 5, 15, 16, 17, 18, 19, 20, 21, 22, 23, 24, 25, 26, 27, 28, 29, 30, 31, 32, 33, 34, 35, 36, 37] (by decide +kernel) (by decide +kernel)) (goodIn_sub (fun _ h => List.mem_cons_of_mem _ (List.mem_append_right _ h)) (by decide +kernel))
set_option maxRecDepth 20000 in
theorem gL_tray_X0_tray : GoodIn wsL_tray (wsV RL 33 RX0 yX0_tray wsX0_tray) := goodIn_app (goodIn_of _ (by decide +kernel)) ggL_tray_X0_tray
theorem dL_tray_0 : decode cL_tray 0 = .ok (.aload_n 3, 1) := by decide +kernel
theorem dL_tray_1 : decode cL_tray 1 = .ok (.iconst 0, 1) := by decide +kernel
theorem dL_tray_2 : decode cL_tray 2 = .ok (.aload_n 0, 1) := by decide +kernel
theorem dL_tray_3 : decode cL_tray 3 = .ok (.iload_n 1, 1) := by decide +kernel
theorem dL_tray_4 : decode cL_tray 4 = .ok (.iload_n 2, 1) := by decide +kernel
theorem dL_tray_5 : decode cL_tray 5 = .ok (.invokevirtual 33, 3) := by decide +kernel
theorem dL_tray_8 : decode cL_tray 8 = .ok (.i2l, 1) := by decide +kernel
theorem dL_tray_9 : decode cL_tray 9 = .ok (.lastore, 1) := by decide +kernel
theorem dL_tray_10 : decode cL_tray 10 = .ok (.goto 7, 3) := by decide +kernel
theorem dL_tray_13 : decode cL_tray 13 = .ok (.astore 4, 2) := by decide +kernel
theorem dL_tray_15 : decode cL_tray 15 = .ok (.iconst 1, 1) := by decide +kernel
theorem dL_tray_16 : decode cL_tray 16 = .ok (.ireturn, 1) := by decide +kernel
theorem dL_tray_17 : decode cL_tray 17 = .ok (.iconst 0, 1) := by decide +kernel
theorem dL_tray_18 : decode cL_tray 18 = .ok (.ireturn, 1) := by decide +kernel
set_option maxRecDepth 20000 in
theorem ggL_cell_X0_cell : GoodIn wsL_cell wsX0_cell := goodIn_ca (goodIn_r _ [6, 7, 8, 9, 10, 11, 12, 5, 13, 14, 15, 16, 17, 18, 19, 20, 21, 22, 23, 24, 25, 26, 27, 28, 29, 30, 31, 32, 33, 34, 35] (by decide +kernel) (by decide +kernel)) (goodIn_sub (fun _ h => List.mem_cons_of_mem _ (List.mem_append_right _ h)) (by decide +kernel))
set_option maxRecDepth 20000 in
theorem gL_cell_X0_cell : GoodIn wsL_cell (wsV RL 36 RX0 yX0_cell wsX0_cell) := goodIn_app (goodIn_of _ (by decide +kernel)) ggL_cell_X0_cell
theorem dL_cell_0 : decode cL_cell 0 = .ok (.aload_n 3, 1) := by decide +kernel
theorem dL_cell_1 : decode cL_cell 1 = .ok (.iconst 0, 1) := by decide +kernel
theorem dL_cell_2 : decode cL_cell 2 = .ok (.aload_n 0, 1) := by decide +kernel
theorem dL_cell_3 : decode cL_cell 3 = .ok (.iload_n 1, 1) := by decide +kernel
theorem dL_cell_4 : decode cL_cell 4 = .ok (.iload_n 2, 1) := by decide +kernel
theorem dL_cell_5 : decode cL_cell 5 = .ok (.invokevirtual 36, 3) := by decide +kernel
theorem dL_cell_8 : decode cL_cell 8 = .ok (.i2l, 1) := by decide +kernel
theorem dL_cell_9 : decode cL_cell 9 = .ok (.lastore, 1) := by decide +kernel
theorem dL_cell_10 : decode cL_cell 10 = .ok (.goto 7, 3) := by decide +kernel
theorem dL_cell_13 : decode cL_cell 13 = .ok (.astore 4, 2) := by decide +kernel
theorem dL_cell_15 : decode cL_cell 15 = .ok (.iconst 1, 1) := by decide +kernel
theorem dL_cell_16 : decode cL_cell 16 = .ok (.ireturn, 1) := by decide +kernel
theorem dL_cell_17 : decode cL_cell 17 = .ok (.iconst 0, 1) := by decide +kernel
theorem dL_cell_18 : decode cL_cell 18 = .ok (.ireturn, 1) := by decide +kernel
set_option maxRecDepth 20000 in
theorem ggL_about_X0_about : GoodIn wsL_about wsX0_about := goodIn_ca (goodIn_r _ [6, 7, 8, 9, 10, 11, 12, 13, 5, 14, 15, 16, 17, 18, 19, 20, 21, 22, 23, 24, 25, 26, 27, 28, 29, 30, 31, 32, 33, 34, 35, 36, 37, 38, 39, 40, 41, 42, 43, 44, 45, 46, 47, 48, 49, 50, 51, 52, 53, 54, 55] (by decide +kernel) (by decide +kernel)) (goodIn_sub (fun _ h => List.mem_cons_of_mem _ (List.mem_append_right _ h)) (by decide +kernel))
set_option maxRecDepth 20000 in
theorem gL_about_X0_about : GoodIn wsL_about (wsV RL 39 RX0 yX0_about wsX0_about) := goodIn_app (goodIn_of _ (by decide +kernel)) ggL_about_X0_about
theorem dL_about_0 : decode cL_about 0 = .ok (.aload_n 3, 1) := by decide +kernel
theorem dL_about_1 : decode cL_about 1 = .ok (.iconst 0, 1) := by decide +kernel
theorem dL_about_2 : decode cL_about 2 = .ok (.aload_n 0, 1) := by decide +kernel
theorem dL_about_3 : decode cL_about 3 = .ok (.iload_n 1, 1) := by decide +kernel
theorem dL_about_4 : decode cL_about 4 = .ok (.iload_n 2, 1) := by decide +kernel
theorem dL_about_5 : decode cL_about 5 = .ok (.invokevirtual 39, 3) := by decide +kernel
theorem dL_about_8 : decode cL_about 8 = .ok (.i2l, 1) := by decide +kernel
theorem dL_about_9 : decode cL_about 9 = .ok (.lastore, 1) := by decide +kernel
theorem dL_about_10 : decode cL_about 10 = .ok (.goto 7, 3) := by decide +kernel
theorem dL_about_13 : decode cL_about 13 = .ok (.astore 4, 2) := by decide +kernel
theorem dL_about_15 : decode cL_about 15 = .ok (.iconst 1, 1) := by decide +kernel
theorem dL_about_16 : decode cL_about 16 = .ok (.ireturn, 1) := by decide +kernel
theorem dL_about_17 : decode cL_about 17 = .ok (.iconst 0, 1) := by decide +kernel
theorem dL_about_18 : decode cL_about 18 = .ok (.ireturn, 1) := by decide +kernel
set_option maxRecDepth 20000 in
theorem ggL_count_X0_count : GoodIn wsL_count wsX0_count := goodIn_ca (goodIn_r _ [6, 7, 8, 9, 10, 11, 12, 13, 5, 14, 15, 16, 17, 18, 19, 20, 21, 22, 23, 24, 25, 26, 27, 28, 29, 30, 31, 32, 33, 34, 35, 36, 37, 38, 39, 40, 41, 42, 43, 44, 45, 46, 47, 48, 49, 50, 51, 52, 53, 54, 55] (by decide +kernel) (by decide +kernel)) (goodIn_sub (fun _ h => List.mem_cons_of_mem _ (List.mem_append_right _ h)) (by decide +kernel))
set_option maxRecDepth 20000 in
theorem gL_count_X0_count : GoodIn wsL_count (wsV RL 42 RX0 yX0_count wsX0_count) := goodIn_app (goodIn_of _ (by decide +kernel)) ggL_count_X0_count
theorem dL_count_0 : decode cL_count 0 = .ok (.aload_n 2, 1) := by decide +kernel
theorem dL_count_1 : decode cL_count 1 = .ok (.iconst 0, 1) := by decide +kernel
theorem dL_count_2 : decode cL_count 2 = .ok (.aload_n 0, 1) := by decide +kernel
theorem dL_count_3 : decode cL_count 3 = .ok (.iload_n 1, 1) := by decide +kernel
theorem dL_count_4 : decode cL_count 4 = .ok (.invokevirtual 42, 3) := by decide +kernel
theorem dL_count_7 : decode cL_count 7 = .ok (.i2l, 1) := by decide +kernel
theorem dL_count_8 : decode cL_count 8 = .ok (.lastore, 1) := by decide +kernel
theorem dL_count_9 : decode cL_count 9 = .ok (.goto 6, 3) := by decide +kernel
theorem dL_count_12 : decode cL_count 12 = .ok (.astore_n 3, 1) := by decide +kernel
theorem dL_count_13 : decode cL_count 13 = .ok (.iconst 1, 1) := by decide +kernel
theorem dL_count_14 : decode cL_count 14 = .ok (.ireturn, 1) := by decide +kernel
theorem dL_count_15 : decode cL_count 15 = .ok (.iconst 0, 1) := by decide +kernel
theorem dL_count_16 : decode cL_count 16 = .ok (.ireturn, 1) := by decide +kernel
set_option maxRecDepth 20000 in
theorem ggL_would_X0_would : GoodIn wsL_would wsX0_would := goodIn_ca (goodIn_r _ [6, 7, 8, 9, 5, 10, 11, 12, 13, 14, 15, 16, 17, 18, 19, 20, 21, 22, 23, 24, 25, 26, 27, 28, 29, 30, 31, 32, 33, 34, 35, 36, 37, 38, 39, 40, 41, 42, 43, 44, 45, 46, 47, 48, 49, 50, 51, 52] (by decide +kernel) (by decide +kernel)) (goodIn_sub (fun _ h => List.mem_cons_of_mem _ (List.mem_append_right _ h)) (by decide +kernel))
set_option maxRecDepth 20000 in
theorem gL_would_X0_would : GoodIn wsL_would (wsV RL 45 RX0 yX0_would wsX0_would) := goodIn_app (goodIn_of _ (by decide +kernel)) ggL_would_X0_would
theorem dL_would_0 : decode cL_would 0 = .ok (.aload_n 2, 1) := by decide +kernel
theorem dL_would_1 : decode cL_would 1 = .ok (.iconst 0, 1) := by decide +kernel
theorem dL_would_2 : decode cL_would 2 = .ok (.aload_n 0, 1) := by decide +kernel
theorem dL_would_3 : decode cL_would 3 = .ok (.iload_n 1, 1) := by decide +kernel
theorem dL_would_4 : decode cL_would 4 = .ok (.invokevirtual 45, 3) := by decide +kernel
theorem dL_would_7 : decode cL_would 7 = .ok (.i2l, 1) := by decide +kernel
theorem dL_would_8 : decode cL_would 8 = .ok (.lastore, 1) := by decide +kernel
theorem dL_would_9 : decode cL_would 9 = .ok (.goto 6, 3) := by decide +kernel
theorem dL_would_12 : decode cL_would 12 = .ok (.astore_n 3, 1) := by decide +kernel
theorem dL_would_13 : decode cL_would 13 = .ok (.iconst 1, 1) := by decide +kernel
theorem dL_would_14 : decode cL_would 14 = .ok (.ireturn, 1) := by decide +kernel
theorem dL_would_15 : decode cL_would 15 = .ok (.iconst 0, 1) := by decide +kernel
theorem dL_would_16 : decode cL_would 16 = .ok (.ireturn, 1) := by decide +kernel
set_option maxRecDepth 20000 in
theorem ggL_spares_X0_spares : GoodIn wsL_spares wsX0_spares := goodIn_ca (goodIn_r _ [6, 7, 8, 9, 10, 11, 5, 12, 13, 14, 15, 16, 17, 18, 19, 20, 21, 22, 23, 24, 25, 26, 27, 28, 29, 30, 31, 32, 33, 34, 35, 36] (by decide +kernel) (by decide +kernel)) (goodIn_sub (fun _ h => List.mem_cons_of_mem _ (List.mem_append_right _ h)) (by decide +kernel))
set_option maxRecDepth 20000 in
theorem gL_spares_X0_spares : GoodIn wsL_spares (wsV RL 48 RX0 yX0_spares wsX0_spares) := goodIn_app (goodIn_of _ (by decide +kernel)) ggL_spares_X0_spares
theorem dL_spares_0 : decode cL_spares 0 = .ok (.aload_n 2, 1) := by decide +kernel
theorem dL_spares_1 : decode cL_spares 1 = .ok (.iconst 0, 1) := by decide +kernel
theorem dL_spares_2 : decode cL_spares 2 = .ok (.aload_n 0, 1) := by decide +kernel
theorem dL_spares_3 : decode cL_spares 3 = .ok (.iload_n 1, 1) := by decide +kernel
theorem dL_spares_4 : decode cL_spares 4 = .ok (.invokevirtual 48, 3) := by decide +kernel
theorem dL_spares_7 : decode cL_spares 7 = .ok (.i2l, 1) := by decide +kernel
theorem dL_spares_8 : decode cL_spares 8 = .ok (.lastore, 1) := by decide +kernel
theorem dL_spares_9 : decode cL_spares 9 = .ok (.goto 6, 3) := by decide +kernel
theorem dL_spares_12 : decode cL_spares 12 = .ok (.astore_n 3, 1) := by decide +kernel
theorem dL_spares_13 : decode cL_spares 13 = .ok (.iconst 1, 1) := by decide +kernel
theorem dL_spares_14 : decode cL_spares 14 = .ok (.ireturn, 1) := by decide +kernel
theorem dL_spares_15 : decode cL_spares 15 = .ok (.iconst 0, 1) := by decide +kernel
theorem dL_spares_16 : decode cL_spares 16 = .ok (.ireturn, 1) := by decide +kernel
set_option maxRecDepth 20000 in
theorem ggL_room_X0_room : GoodIn wsL_room wsX0_room := goodIn_ca (goodIn_r _ [6, 7, 8, 9, 10, 5, 11, 12, 13, 14, 15, 16, 17, 18, 19, 20, 21, 22, 23, 24, 25, 26, 27, 28, 29, 30, 31, 32, 33, 34, 35, 36, 37, 38, 39, 40, 41, 42, 43, 44] (by decide +kernel) (by decide +kernel)) (goodIn_sub (fun _ h => List.mem_cons_of_mem _ (List.mem_append_right _ h)) (by decide +kernel))
set_option maxRecDepth 20000 in
theorem gL_room_X0_room : GoodIn wsL_room (wsV RL 51 RX0 yX0_room wsX0_room) := goodIn_app (goodIn_of _ (by decide +kernel)) ggL_room_X0_room
theorem dL_room_0 : decode cL_room 0 = .ok (.aload_n 2, 1) := by decide +kernel
theorem dL_room_1 : decode cL_room 1 = .ok (.iconst 0, 1) := by decide +kernel
theorem dL_room_2 : decode cL_room 2 = .ok (.aload_n 0, 1) := by decide +kernel
theorem dL_room_3 : decode cL_room 3 = .ok (.iload_n 1, 1) := by decide +kernel
theorem dL_room_4 : decode cL_room 4 = .ok (.invokevirtual 51, 3) := by decide +kernel
theorem dL_room_7 : decode cL_room 7 = .ok (.i2l, 1) := by decide +kernel
theorem dL_room_8 : decode cL_room 8 = .ok (.lastore, 1) := by decide +kernel
theorem dL_room_9 : decode cL_room 9 = .ok (.goto 6, 3) := by decide +kernel
theorem dL_room_12 : decode cL_room 12 = .ok (.astore_n 3, 1) := by decide +kernel
theorem dL_room_13 : decode cL_room 13 = .ok (.iconst 1, 1) := by decide +kernel
theorem dL_room_14 : decode cL_room 14 = .ok (.ireturn, 1) := by decide +kernel
theorem dL_room_15 : decode cL_room 15 = .ok (.iconst 0, 1) := by decide +kernel
theorem dL_room_16 : decode cL_room 16 = .ok (.ireturn, 1) := by decide +kernel
set_option maxRecDepth 20000 in
theorem ggL_law_X0_init : GoodIn wsL_law wsX0_init := goodIn_r _ [9, 10, 11, 12, 13, 14, 15, 16, 17, 18, 19, 20, 21, 22, 23, 24, 25, 437, 438, 439, 440, 441, 442, 443, 444, 445, 446, 447, 448, 449, 450, 451, 452] (by decide +kernel) (by decide +kernel)
set_option maxRecDepth 20000 in
theorem gL_law_X0_init : GoodIn wsL_law (wsX0_init) := ggL_law_X0_init
set_option maxRecDepth 20000 in
theorem ggL_law_X1_init : GoodIn wsL_law wsX1_init := goodIn_r _ [28, 29, 11, 12, 13, 30, 31, 32, 33, 34, 35, 36, 37, 38, 39, 453, 454, 455, 456, 457, 458, 459, 460, 461, 462, 463, 464, 465, 466, 467] (by decide +kernel) (by decide +kernel)
set_option maxRecDepth 20000 in
theorem gL_law_X1_init : GoodIn wsL_law (wsX1_init) := ggL_law_X1_init
set_option maxRecDepth 20000 in
theorem ggL_law_L_kind : GoodIn wsL_law wsL_kind := goodIn_ca (goodIn_ca (goodIn_r _ [43, 44, 45, 46, 47, 48, 2, 49, 50, 51, 52, 53, 54, 14, 15, 16, 17, 437, 438, 439, 440, 441, 442, 443, 444, 445, 446, 447, 448, 449, 450, 451, 452] (by decide +kernel) (by decide +kernel)) (goodIn_sub (fun _ h => List.mem_append_left _ (List.mem_append_left _ (List.mem_append_right _ h))) (by decide +kernel))) (goodIn_sub (fun _ h => List.mem_append_left _ (List.mem_append_right _ h)) (by decide +kernel))
set_option maxRecDepth 20000 in
theorem gL_law_L_kind : GoodIn wsL_law (va_wsS RL 58 yL_kind wsL_kind) := goodIn_app (goodIn_of _ (by decide +kernel)) ggL_law_L_kind
set_option maxRecDepth 20000 in
theorem ggL_law_X1_kind : GoodIn wsL_law wsX1_kind := goodIn_r _ [58, 59, 60, 30, 31, 61, 62, 5, 63, 64, 65, 66, 67, 453, 454, 455, 456, 457, 458, 459, 460, 461, 462, 463, 464, 465, 466, 467] (by decide +kernel) (by decide +kernel)
set_option maxRecDepth 20000 in
theorem gL_law_X1_kind : GoodIn wsL_law (wsV RL 63 RX1 yX1_kind wsX1_kind) := goodIn_app (goodIn_of _ (by decide +kernel)) ggL_law_X1_kind
set_option maxRecDepth 20000 in
theorem ggL_law_X1_thrown : GoodIn wsL_law wsX1_thrown := goodIn_r _ [71, 59, 453, 454, 455, 456, 457, 458, 459, 460, 461, 462, 463, 464, 465, 466, 467] (by decide +kernel) (by decide +kernel)
set_option maxRecDepth 20000 in
theorem gL_law_X1_thrown : GoodIn wsL_law (wsV RL 64 RX1 yX1_thrown wsX1_thrown) := goodIn_app (goodIn_of _ (by decide +kernel)) ggL_law_X1_thrown
set_option maxRecDepth 20000 in
theorem ggL_law_L_put : GoodIn wsL_law wsL_put := goodIn_ca (goodIn_ca (goodIn_r _ [74, 75, 45, 76, 77, 78, 2, 79, 52, 53, 80, 19, 23, 81, 82, 83, 84, 85, 86, 54, 87, 88, 89, 90, 91, 92, 93, 94, 21, 95, 96, 97, 98, 16, 99, 100, 101, 102, 103, 104, 105, 106, 107, 108, 109, 110, 20, 18, 15, 17, 111, 112, 113, 114, 22, 24, 25, 115, 116, 117, 118, 437, 438, 439, 440, 441, 442, 443, 444, 445, 446, 447, 448, 449, 450, 451, 452] (by decide +kernel) (by decide +kernel)) (goodIn_sub (fun _ h => List.mem_append_left _ (List.mem_append_right _ h)) (by decide +kernel))) (goodIn_sub (fun _ h => List.mem_append_right _ h) (by decide +kernel))
set_option maxRecDepth 20000 in
theorem gL_law_L_put : GoodIn wsL_law (va_wsS RL 68 yL_put wsL_put) := goodIn_app (goodIn_of _ (by decide +kernel)) ggL_law_L_put
set_option maxRecDepth 20000 in
theorem ggL_law_X1_put : GoodIn wsL_law wsX1_put := goodIn_r _ [122, 59, 123, 33, 37, 124, 125, 126, 5, 127, 60, 61, 62, 63, 64, 65, 66, 67, 128, 129, 130, 131, 132, 133, 134, 135, 35, 136, 137, 138, 139, 140, 141, 142, 143, 30, 144, 145, 146, 147, 148, 149, 150, 151, 152, 153, 154, 155, 156, 157, 158, 159, 34, 32, 36, 31, 160, 161, 162, 163, 164, 165, 166, 167, 38, 39, 453, 454, 455, 456, 457, 458, 459, 460, 461, 462, 463, 464, 465, 466, 467] (by decide +kernel) (by decide +kernel)
set_option maxRecDepth 20000 in
theorem gL_law_X1_put : GoodIn wsL_law (wsV RL 71 RX1 yX1_put wsX1_put) := goodIn_app (goodIn_of _ (by decide +kernel)) ggL_law_X1_put
set_option maxRecDepth 20000 in
theorem ggL_law_L_take : GoodIn wsL_law wsL_take := goodIn_ca (goodIn_ca (goodIn_r _ [170, 75, 45, 171, 172, 173, 2, 174, 52, 53, 24, 23, 21, 175, 176, 177, 178, 85, 86, 80, 99, 100, 101, 102, 19, 179, 180, 181, 182, 22, 25, 183, 184, 185, 186, 187, 437, 438, 439, 440, 441, 442, 443, 444, 445, 446, 447, 448, 449, 450, 451, 452] (by decide +kernel) (by decide +kernel)) (goodIn_sub (fun _ h => List.mem_append_left _ (List.mem_append_right _ h)) (by decide +kernel))) (goodIn_sub (fun _ h => List.mem_append_right _ h) (by decide +kernel))
set_option maxRecDepth 20000 in
theorem gL_law_L_take : GoodIn wsL_law (va_wsS RL 72 yL_take wsL_take) := goodIn_app (goodIn_of _ (by decide +kernel)) ggL_law_L_take
set_option maxRecDepth 20000 in
theorem ggL_law_X1_take : GoodIn wsL_law wsX1_take := goodIn_r _ [191, 38, 59, 35, 33, 192, 193, 194, 5, 195, 123, 61, 62, 63, 196, 197, 198, 199, 36, 39, 200, 201, 202, 203, 148, 149, 150, 151, 204, 205, 206, 207, 208, 453, 454, 455, 456, 457, 458, 459, 460, 461, 462, 463, 464, 465, 466, 467] (by decide +kernel) (by decide +kernel)
set_option maxRecDepth 20000 in
theorem gL_law_X1_take : GoodIn wsL_law (wsV RL 74 RX1 yX1_take wsX1_take) := goodIn_app (goodIn_of _ (by decide +kernel)) ggL_law_X1_take
set_option maxRecDepth 20000 in
theorem ggL_law_X0_sweep : GoodIn wsL_law wsX0_sweep := goodIn_r _ [212, 19, 21, 183, 184, 185, 2, 186, 187, 437, 438, 439, 440, 441, 442, 443, 444, 445, 446, 447, 448, 449, 450, 451, 452] (by decide +kernel) (by decide +kernel)
set_option maxRecDepth 20000 in
theorem gL_law_X0_sweep : GoodIn wsL_law (wsV RL 75 RX0 yX0_sweep wsX0_sweep) := goodIn_app (goodIn_of _ (by decide +kernel)) ggL_law_X0_sweep
set_option maxRecDepth 20000 in
theorem ggL_law_X1_sweep : GoodIn wsL_law wsX1_sweep := goodIn_r _ [216, 59, 208, 33, 35, 204, 205, 206, 5, 207, 453, 454, 455, 456, 457, 458, 459, 460, 461, 462, 463, 464, 465, 466, 467] (by decide +kernel) (by decide +kernel)
set_option maxRecDepth 20000 in
theorem gL_law_X1_sweep : GoodIn wsL_law (wsV RL 78 RX1 yX1_sweep wsX1_sweep) := goodIn_app (goodIn_of _ (by decide +kernel)) ggL_law_X1_sweep
set_option maxRecDepth 20000 in
theorem ggL_law_L_pack : GoodIn wsL_law wsL_pack := goodIn_ca (goodIn_r _ [219, 75, 220, 221, 222, 2, 223, 224, 81, 82, 83, 84, 85, 86, 54, 225, 226, 227, 228, 21, 95, 96, 97, 98, 19, 16, 91, 92, 93, 94, 229, 230, 231, 232, 22, 115, 116, 117, 118, 179, 180, 181, 182, 24, 25, 111, 112, 113, 114, 437, 438, 439, 440, 441, 442, 443, 444, 445, 446, 447, 448, 449, 450, 451, 452] (by decide +kernel) (by decide +kernel)) (goodIn_sub (fun _ h => List.mem_append_right _ h) (by decide +kernel))
set_option maxRecDepth 20000 in
theorem gL_law_L_pack : GoodIn wsL_law (va_wsS RL 79 yL_pack wsL_pack) := goodIn_app (goodIn_of _ (by decide +kernel)) ggL_law_L_pack
set_option maxRecDepth 20000 in
theorem ggL_law_X1_pack : GoodIn wsL_law wsX1_pack := goodIn_r _ [236, 59, 237, 124, 125, 126, 5, 127, 60, 61, 62, 63, 64, 65, 66, 67, 132, 133, 134, 135, 35, 136, 137, 138, 139, 33, 140, 141, 142, 143, 30, 238, 239, 240, 241, 242, 243, 244, 245, 36, 196, 197, 198, 199, 38, 39, 160, 161, 162, 163, 164, 165, 166, 167, 453, 454, 455, 456, 457, 458, 459, 460, 461, 462, 463, 464, 465, 466, 467] (by decide +kernel) (by decide +kernel)
set_option maxRecDepth 20000 in
theorem gL_law_X1_pack : GoodIn wsL_law (wsV RL 81 RX1 yX1_pack wsX1_pack) := goodIn_app (goodIn_of _ (by decide +kernel)) ggL_law_X1_pack
set_option maxRecDepth 20000 in
theorem ggL_law_L_told : GoodIn wsL_law wsL_told := goodIn_ca (goodIn_r _ [248, 75, 249, 250, 251, 2, 252, 23, 24, 25, 20, 14, 175, 176, 177, 178, 85, 86, 80, 253, 254, 255, 256, 437, 438, 439, 440, 441, 442, 443, 444, 445, 446, 447, 448, 449, 450, 451, 452] (by decide +kernel) (by decide +kernel)) (goodIn_sub (fun _ h => List.mem_append_right _ h) (by decide +kernel))
set_option maxRecDepth 20000 in
theorem gL_law_L_told : GoodIn wsL_law (va_wsS RL 82 yL_told wsL_told) := goodIn_app (goodIn_of _ (by decide +kernel)) ggL_law_L_told
set_option maxRecDepth 20000 in
theorem ggL_law_X1_told : GoodIn wsL_law wsX1_told := goodIn_r _ [260, 59, 192, 193, 194, 5, 195, 123, 61, 62, 63, 261, 262, 263, 264, 37, 38, 34, 39, 30, 64, 65, 66, 67, 453, 454, 455, 456, 457, 458, 459, 460, 461, 462, 463, 464, 465, 466, 467] (by decide +kernel) (by decide +kernel)
set_option maxRecDepth 20000 in
theorem gL_law_X1_told : GoodIn wsL_law (wsV RL 84 RX1 yX1_told wsX1_told) := goodIn_app (goodIn_of _ (by decide +kernel)) ggL_law_X1_told
set_option maxRecDepth 20000 in
theorem ggL_law_L_tray : GoodIn wsL_law wsL_tray := goodIn_ca (goodIn_r _ [267, 75, 268, 269, 270, 2, 271, 19, 20, 16, 21, 14, 272, 273, 274, 275, 85, 86, 253, 254, 255, 256, 437, 438, 439, 440, 441, 442, 443, 444, 445, 446, 447, 448, 449, 450, 451, 452] (by decide +kernel) (by decide +kernel)) (goodIn_sub (fun _ h => List.mem_append_right _ h) (by decide +kernel))
set_option maxRecDepth 20000 in
theorem gL_law_L_tray : GoodIn wsL_law (va_wsS RL 85 yL_tray wsL_tray) := goodIn_app (goodIn_of _ (by decide +kernel)) ggL_law_L_tray
set_option maxRecDepth 20000 in
theorem ggL_law_X1_tray : GoodIn wsL_law wsX1_tray := goodIn_r _ [279, 59, 61, 62, 5, 63, 280, 281, 282, 283, 33, 34, 35, 140, 141, 142, 143, 30, 284, 285, 286, 287, 64, 65, 66, 67, 453, 454, 455, 456, 457, 458, 459, 460, 461, 462, 463, 464, 465, 466, 467] (by decide +kernel) (by decide +kernel)
set_option maxRecDepth 20000 in
theorem gL_law_X1_tray : GoodIn wsL_law (wsV RL 87 RX1 yX1_tray wsX1_tray) := goodIn_app (goodIn_of _ (by decide +kernel)) ggL_law_X1_tray
set_option maxRecDepth 20000 in
theorem ggL_law_L_cell : GoodIn wsL_law wsL_cell := goodIn_ca (goodIn_r _ [290, 75, 291, 292, 293, 2, 294, 85, 86, 22, 272, 273, 274, 275, 115, 116, 117, 118, 19, 16, 437, 438, 439, 440, 441, 442, 443, 444, 445, 446, 447, 448, 449, 450, 451, 452] (by decide +kernel) (by decide +kernel)) (goodIn_sub (fun _ h => List.mem_append_right _ h) (by decide +kernel))
set_option maxRecDepth 20000 in
theorem gL_law_L_cell : GoodIn wsL_law (va_wsS RL 88 yL_cell wsL_cell) := goodIn_app (goodIn_of _ (by decide +kernel)) ggL_law_L_cell
set_option maxRecDepth 20000 in
theorem ggL_law_X1_cell : GoodIn wsL_law wsX1_cell := goodIn_r _ [298, 59, 33, 36, 61, 62, 5, 63, 140, 141, 142, 143, 30, 64, 65, 66, 67, 453, 454, 455, 456, 457, 458, 459, 460, 461, 462, 463, 464, 465, 466, 467] (by decide +kernel) (by decide +kernel)
set_option maxRecDepth 20000 in
theorem gL_law_X1_cell : GoodIn wsL_law (wsV RL 90 RX1 yX1_cell wsX1_cell) := goodIn_app (goodIn_of _ (by decide +kernel)) ggL_law_X1_cell
set_option maxRecDepth 20000 in
theorem ggL_law_L_about : GoodIn wsL_law wsL_about := goodIn_ca (goodIn_r _ [301, 75, 302, 303, 304, 2, 305, 14, 15, 16, 18, 81, 82, 83, 84, 85, 86, 54, 253, 254, 255, 256, 306, 307, 308, 309, 19, 310, 311, 312, 313, 21, 314, 315, 316, 317, 318, 319, 320, 321, 437, 438, 439, 440, 441, 442, 443, 444, 445, 446, 447, 448, 449, 450, 451, 452] (by decide +kernel) (by decide +kernel)) (goodIn_sub (fun _ h => List.mem_append_right _ h) (by decide +kernel))
set_option maxRecDepth 20000 in
theorem gL_law_L_about : GoodIn wsL_law (va_wsS RL 91 yL_about wsL_about) := goodIn_app (goodIn_of _ (by decide +kernel)) ggL_law_L_about
set_option maxRecDepth 20000 in
theorem ggL_law_X1_about : GoodIn wsL_law wsX1_about := goodIn_r _ [325, 59, 124, 125, 126, 5, 127, 60, 61, 62, 63, 326, 327, 328, 329, 13, 30, 31, 32, 330, 331, 332, 333, 33, 200, 201, 202, 203, 148, 149, 150, 151, 35, 334, 335, 336, 337, 140, 141, 142, 143, 338, 339, 340, 341, 64, 65, 66, 67, 453, 454, 455, 456, 457, 458, 459, 460, 461, 462, 463, 464, 465, 466, 467] (by decide +kernel) (by decide +kernel)
set_option maxRecDepth 20000 in
theorem gL_law_X1_about : GoodIn wsL_law (wsV RL 93 RX1 yX1_about wsX1_about) := goodIn_app (goodIn_of _ (by decide +kernel)) ggL_law_X1_about
set_option maxRecDepth 20000 in
theorem ggL_law_L_count : GoodIn wsL_law wsL_count := goodIn_ca (goodIn_r _ [344, 75, 345, 346, 347, 2, 348, 54, 80, 187, 224, 253, 254, 255, 256, 85, 86, 306, 307, 308, 309, 19, 349, 350, 351, 352, 314, 315, 316, 317, 21, 353, 354, 355, 356, 357, 358, 359, 360, 14, 437, 438, 439, 440, 441, 442, 443, 444, 445, 446, 447, 448, 449, 450, 451, 452] (by decide +kernel) (by decide +kernel)) (goodIn_sub (fun _ h => List.mem_append_right _ h) (by decide +kernel))
set_option maxRecDepth 20000 in
theorem gL_law_L_count : GoodIn wsL_law (va_wsS RL 94 yL_count wsL_count) := goodIn_app (goodIn_of _ (by decide +kernel)) ggL_law_L_count
set_option maxRecDepth 20000 in
theorem ggL_law_X1_count : GoodIn wsL_law wsX1_count := goodIn_r _ [364, 59, 61, 62, 5, 63, 365, 366, 367, 368, 33, 35, 13, 60, 123, 208, 237, 284, 285, 286, 287, 30, 64, 65, 66, 67, 453, 454, 455, 456, 457, 458, 459, 460, 461, 462, 463, 464, 465, 466, 467] (by decide +kernel) (by decide +kernel)
set_option maxRecDepth 20000 in
theorem gL_law_X1_count : GoodIn wsL_law (wsV RL 96 RX1 yX1_count wsX1_count) := goodIn_app (goodIn_of _ (by decide +kernel)) ggL_law_X1_count
set_option maxRecDepth 20000 in
theorem ggL_law_L_would : GoodIn wsL_law wsL_would := goodIn_ca (goodIn_r _ [371, 75, 372, 373, 374, 2, 375, 81, 82, 83, 84, 85, 86, 54, 87, 88, 89, 90, 91, 92, 93, 94, 21, 95, 96, 97, 98, 19, 16, 99, 100, 101, 102, 103, 104, 105, 106, 437, 438, 439, 440, 441, 442, 443, 444, 445, 446, 447, 448, 449, 450, 451, 452] (by decide +kernel) (by decide +kernel)) (goodIn_sub (fun _ h => List.mem_append_right _ h) (by decide +kernel))
set_option maxRecDepth 20000 in
theorem gL_law_L_would : GoodIn wsL_law (va_wsS RL 97 yL_would wsL_would) := goodIn_app (goodIn_of _ (by decide +kernel)) ggL_law_L_would
set_option maxRecDepth 20000 in
theorem ggL_law_X1_would : GoodIn wsL_law wsX1_would := goodIn_r _ [379, 59, 124, 125, 126, 5, 127, 60, 61, 62, 63, 128, 129, 130, 131, 132, 133, 134, 135, 35, 136, 137, 138, 139, 33, 140, 141, 142, 143, 30, 144, 145, 146, 147, 148, 149, 150, 151, 152, 153, 154, 155, 64, 65, 66, 67, 453, 454, 455, 456, 457, 458, 459, 460, 461, 462, 463, 464, 465, 466, 467] (by decide +kernel) (by decide +kernel)
set_option maxRecDepth 20000 in
theorem gL_law_X1_would : GoodIn wsL_law (wsV RL 99 RX1 yX1_would wsX1_would) := goodIn_app (goodIn_of _ (by decide +kernel)) ggL_law_X1_would
set_option maxRecDepth 20000 in
theorem ggL_law_L_spares : GoodIn wsL_law wsL_spares := goodIn_ca (goodIn_r _ [382, 75, 383, 384, 385, 2, 386, 19, 16, 81, 82, 83, 84, 85, 86, 54, 314, 315, 316, 317, 21, 437, 438, 439, 440, 441, 442, 443, 444, 445, 446, 447, 448, 449, 450, 451, 452] (by decide +kernel) (by decide +kernel)) (goodIn_sub (fun _ h => List.mem_append_right _ h) (by decide +kernel))
set_option maxRecDepth 20000 in
theorem gL_law_L_spares : GoodIn wsL_law (va_wsS RL 100 yL_spares wsL_spares) := goodIn_app (goodIn_of _ (by decide +kernel)) ggL_law_L_spares
set_option maxRecDepth 20000 in
theorem ggL_law_X1_spares : GoodIn wsL_law wsX1_spares := goodIn_r _ [390, 59, 124, 125, 126, 5, 127, 60, 61, 62, 63, 64, 65, 66, 67, 330, 331, 332, 333, 33, 338, 339, 340, 341, 35, 140, 141, 142, 143, 30, 453, 454, 455, 456, 457, 458, 459, 460, 461, 462, 463, 464, 465, 466, 467] (by decide +kernel) (by decide +kernel)
set_option maxRecDepth 20000 in
theorem gL_law_X1_spares : GoodIn wsL_law (wsV RL 102 RX1 yX1_spares wsX1_spares) := goodIn_app (goodIn_of _ (by decide +kernel)) ggL_law_X1_spares
set_option maxRecDepth 20000 in
theorem ggL_law_L_room : GoodIn wsL_law wsL_room := goodIn_ca (goodIn_r _ [393, 75, 394, 395, 396, 2, 397, 16, 81, 82, 83, 84, 85, 86, 54, 318, 319, 320, 321, 306, 307, 308, 309, 19, 314, 315, 316, 317, 21, 437, 438, 439, 440, 441, 442, 443, 444, 445, 446, 447, 448, 449, 450, 451, 452] (by decide +kernel) (by decide +kernel)) (goodIn_sub (fun _ h => List.mem_append_right _ h) (by decide +kernel))
set_option maxRecDepth 20000 in
theorem gL_law_L_room : GoodIn wsL_law (va_wsS RL 103 yL_room wsL_room) := goodIn_app (goodIn_of _ (by decide +kernel)) ggL_law_L_room
set_option maxRecDepth 20000 in
theorem ggL_law_X1_room : GoodIn wsL_law wsX1_room := goodIn_r _ [401, 59, 124, 125, 126, 5, 127, 60, 61, 62, 63, 330, 331, 332, 333, 33, 140, 141, 142, 143, 30, 338, 339, 340, 341, 35, 64, 65, 66, 67, 453, 454, 455, 456, 457, 458, 459, 460, 461, 462, 463, 464, 465, 466, 467] (by decide +kernel) (by decide +kernel)
set_option maxRecDepth 20000 in
theorem gL_law_X1_room : GoodIn wsL_law (wsV RL 105 RX1 yX1_room wsX1_room) := goodIn_app (goodIn_of _ (by decide +kernel)) ggL_law_X1_room
set_option maxRecDepth 20000 in
theorem ggL_law_X0_worst : GoodIn wsL_law wsX0_worst := goodIn_r _ [405, 54, 357, 358, 359, 2, 360, 14, 306, 307, 308, 309, 19, 314, 315, 316, 317, 21, 437, 438, 439, 440, 441, 442, 443, 444, 445, 446, 447, 448, 449, 450, 451, 452] (by decide +kernel) (by decide +kernel)
set_option maxRecDepth 20000 in
theorem gL_law_X0_worst : GoodIn wsL_law (wsV RL 106 RX0 yX0_worst wsX0_worst) := goodIn_app (goodIn_of _ (by decide +kernel)) ggL_law_X0_worst
set_option maxRecDepth 20000 in
theorem ggL_law_X1_worst : GoodIn wsL_law wsX1_worst := goodIn_r _ [409, 59, 60, 30, 330, 331, 332, 5, 333, 33, 338, 339, 340, 341, 35, 453, 454, 455, 456, 457, 458, 459, 460, 461, 462, 463, 464, 465, 466, 467] (by decide +kernel) (by decide +kernel)
set_option maxRecDepth 20000 in
theorem gL_law_X1_worst : GoodIn wsL_law (wsV RL 109 RX1 yX1_worst wsX1_worst) := goodIn_app (goodIn_of _ (by decide +kernel)) ggL_law_X1_worst
set_option maxRecDepth 20000 in
theorem ggL_law_X0_mean : GoodIn wsL_law wsX0_mean := goodIn_r _ [413, 306, 307, 308, 2, 309, 19, 349, 350, 351, 352, 54, 314, 315, 316, 317, 21, 437, 438, 439, 440, 441, 442, 443, 444, 445, 446, 447, 448, 449, 450, 451, 452] (by decide +kernel) (by decide +kernel)
set_option maxRecDepth 20000 in
theorem gL_law_X0_mean : GoodIn wsL_law (wsV RL 110 RX0 yX0_mean wsX0_mean) := goodIn_app (goodIn_of _ (by decide +kernel)) ggL_law_X0_mean
set_option maxRecDepth 20000 in
theorem ggL_law_X1_mean : GoodIn wsL_law wsX1_mean := goodIn_r _ [417, 59, 365, 366, 367, 5, 368, 33, 35, 13, 60, 123, 208, 237, 284, 285, 286, 287, 30, 453, 454, 455, 456, 457, 458, 459, 460, 461, 462, 463, 464, 465, 466, 467] (by decide +kernel) (by decide +kernel)
set_option maxRecDepth 20000 in
theorem gL_law_X1_mean : GoodIn wsL_law (wsV RL 114 RX1 yX1_mean wsX1_mean) := goodIn_app (goodIn_of _ (by decide +kernel)) ggL_law_X1_mean
set_option maxRecDepth 20000 in
theorem ggL_law_X0_digest : GoodIn wsL_law wsX0_digest := goodIn_ca (goodIn_r _ [421, 422, 423, 54, 424, 346, 347, 2, 348, 80, 187, 224, 253, 254, 255, 256, 85, 86, 306, 307, 308, 309, 19, 349, 350, 351, 352, 314, 315, 316, 317, 21, 353, 354, 355, 356, 357, 358, 359, 360, 14, 425, 303, 304, 305, 15, 16, 18, 81, 82, 83, 84, 310, 311, 312, 313, 318, 319, 320, 321, 426, 427, 428, 429, 22, 430, 269, 270, 271, 20, 272, 273, 274, 275, 115, 116, 117, 118, 437, 438, 439, 440, 441, 442, 443, 444, 445, 446, 447, 448, 449, 450, 451, 452] (by decide +kernel) (by decide +kernel)) (goodIn_sub (fun _ h => List.mem_append_right _ h) (by decide +kernel))
set_option maxRecDepth 20000 in
theorem gL_law_X0_digest : GoodIn wsL_law (wsV RL 115 RX0 yX0_digest wsX0_digest) := goodIn_app (goodIn_of _ (by decide +kernel)) ggL_law_X0_digest
set_option maxRecDepth 20000 in
theorem ggL_law_X1_digest : GoodIn wsL_law wsX1_digest := goodIn_r _ [434, 59, 435, 436, 60, 33, 36, 365, 366, 367, 5, 368, 35, 13, 123, 208, 237, 284, 285, 286, 287, 30, 326, 327, 328, 329, 31, 32, 330, 331, 332, 333, 200, 201, 202, 203, 148, 149, 150, 151, 334, 335, 336, 337, 140, 141, 142, 143, 338, 339, 340, 341, 280, 281, 282, 283, 34, 453, 454, 455, 456, 457, 458, 459, 460, 461, 462, 463, 464, 465, 466, 467] (by decide +kernel) (by decide +kernel)
set_option maxRecDepth 20000 in
theorem gL_law_X1_digest : GoodIn wsL_law (wsV RL 119 RX1 yX1_digest wsX1_digest) := goodIn_app (goodIn_of _ (by decide +kernel)) ggL_law_X1_digest
end
section
theorem dL_law_0 : decode cL_law 0 = .ok (.new 8, 3) := by decide +kernel
theorem dL_law_3 : decode cL_law 3 = .ok (.dup, 1) := by decide +kernel
theorem dL_law_4 : decode cL_law 4 = .ok (.invokespecial 54, 3) := by decide +kernel
theorem dL_law_7 : decode cL_law 7 = .ok (.astore_n 1, 1) := by decide +kernel
theorem dL_law_8 : decode cL_law 8 = .ok (.new 55, 3) := by decide +kernel
theorem dL_law_11 : decode cL_law 11 = .ok (.dup, 1) := by decide +kernel
theorem dL_law_12 : decode cL_law 12 = .ok (.invokespecial 57, 3) := by decide +kernel
theorem dL_law_15 : decode cL_law 15 = .ok (.astore_n 2, 1) := by decide +kernel
theorem dL_law_16 : decode cL_law 16 = .ok (.iconst 1, 1) := by decide +kernel
theorem dL_law_17 : decode cL_law 17 = .ok (.newarray .long, 2) := by decide +kernel
theorem dL_law_19 : decode cL_law 19 = .ok (.astore_n 3, 1) := by decide +kernel
theorem dL_law_20 : decode cL_law 20 = .ok (.iconst 0, 1) := by decide +kernel
theorem dL_law_21 : decode cL_law 21 = .ok (.istore 4, 2) := by decide +kernel
theorem dL_law_23 : decode cL_law 23 = .ok (.iload 4, 2) := by decide +kernel
theorem dL_law_25 : decode cL_law 25 = .ok (.aload_n 0, 1) := by decide +kernel
theorem dL_law_26 : decode cL_law 26 = .ok (.arraylength, 1) := by decide +kernel
theorem dL_law_27 : decode cL_law 27 = .ok (.iconst 3, 1) := by decide +kernel
theorem dL_law_28 : decode cL_law 28 = .ok (.isub, 1) := by decide +kernel
theorem dL_law_29 : decode cL_law 29 = .ok (.if_icmp .gt 913, 3) := by decide +kernel
theorem dL_law_32 : decode cL_law 32 = .ok (.aload_n 0, 1) := by decide +kernel
theorem dL_law_33 : decode cL_law 33 = .ok (.iload 4, 2) := by decide +kernel
theorem dL_law_35 : decode cL_law 35 = .ok (.iaload, 1) := by decide +kernel
theorem dL_law_36 : decode cL_law 36 = .ok (.bipush 15, 2) := by decide +kernel
theorem dL_law_38 : decode cL_law 38 = .ok (.iand, 1) := by decide +kernel
theorem dL_law_39 : decode cL_law 39 = .ok (.tableswitch 897 0 15 #[77, 145, 201, 264, 277, 333, 401, 469, 537, 605, 661, 717, 773, 829, 842, 883], 77) := by decide +kernel
theorem dL_law_116 : decode cL_law 116 = .ok (.aload_n 1, 1) := by decide +kernel
theorem dL_law_117 : decode cL_law 117 = .ok (.aload_n 0, 1) := by decide +kernel
theorem dL_law_118 : decode cL_law 118 = .ok (.iload 4, 2) := by decide +kernel
theorem dL_law_120 : decode cL_law 120 = .ok (.iconst 1, 1) := by decide +kernel
theorem dL_law_121 : decode cL_law 121 = .ok (.iadd, 1) := by decide +kernel
theorem dL_law_122 : decode cL_law 122 = .ok (.iaload, 1) := by decide +kernel
theorem dL_law_123 : decode cL_law 123 = .ok (.aload_n 0, 1) := by decide +kernel
theorem dL_law_124 : decode cL_law 124 = .ok (.iload 4, 2) := by decide +kernel
theorem dL_law_126 : decode cL_law 126 = .ok (.iconst 2, 1) := by decide +kernel
theorem dL_law_127 : decode cL_law 127 = .ok (.iadd, 1) := by decide +kernel
theorem dL_law_128 : decode cL_law 128 = .ok (.iaload, 1) := by decide +kernel
theorem dL_law_129 : decode cL_law 129 = .ok (.aload_n 3, 1) := by decide +kernel
theorem dL_law_130 : decode cL_law 130 = .ok (.invokestatic 58, 3) := by decide +kernel
theorem dL_law_133 : decode cL_law 133 = .ok (.istore 5, 2) := by decide +kernel
theorem dL_law_135 : decode cL_law 135 = .ok (.aload_n 2, 1) := by decide +kernel
theorem dL_law_136 : decode cL_law 136 = .ok (.aload_n 0, 1) := by decide +kernel
theorem dL_law_137 : decode cL_law 137 = .ok (.iload 4, 2) := by decide +kernel
theorem dL_law_139 : decode cL_law 139 = .ok (.iconst 1, 1) := by decide +kernel
theorem dL_law_140 : decode cL_law 140 = .ok (.iadd, 1) := by decide +kernel
theorem dL_law_141 : decode cL_law 141 = .ok (.iaload, 1) := by decide +kernel
theorem dL_law_142 : decode cL_law 142 = .ok (.aload_n 0, 1) := by decide +kernel
theorem dL_law_143 : decode cL_law 143 = .ok (.iload 4, 2) := by decide +kernel
theorem dL_law_145 : decode cL_law 145 = .ok (.iconst 2, 1) := by decide +kernel
theorem dL_law_146 : decode cL_law 146 = .ok (.iadd, 1) := by decide +kernel
theorem dL_law_147 : decode cL_law 147 = .ok (.iaload, 1) := by decide +kernel
theorem dL_law_148 : decode cL_law 148 = .ok (.invokevirtual 63, 3) := by decide +kernel
theorem dL_law_151 : decode cL_law 151 = .ok (.istore 6, 2) := by decide +kernel
theorem dL_law_153 : decode cL_law 153 = .ok (.aload_n 2, 1) := by decide +kernel
theorem dL_law_154 : decode cL_law 154 = .ok (.invokevirtual 64, 3) := by decide +kernel
theorem dL_law_157 : decode cL_law 157 = .ok (.iload 5, 2) := by decide +kernel
theorem dL_law_159 : decode cL_law 159 = .ok (.if_icmp .eq 5, 3) := by decide +kernel
theorem dL_law_162 : decode cL_law 162 = .ok (.iconst 0, 1) := by decide +kernel
theorem dL_law_163 : decode cL_law 163 = .ok (.ireturn, 1) := by decide +kernel
theorem dL_law_164 : decode cL_law 164 = .ok (.iload 5, 2) := by decide +kernel
theorem dL_law_166 : decode cL_law 166 = .ok (.ifCond .ne 15, 3) := by decide +kernel
theorem dL_law_169 : decode cL_law 169 = .ok (.aload_n 3, 1) := by decide +kernel
theorem dL_law_170 : decode cL_law 170 = .ok (.iconst 0, 1) := by decide +kernel
theorem dL_law_171 : decode cL_law 171 = .ok (.laload, 1) := by decide +kernel
theorem dL_law_172 : decode cL_law 172 = .ok (.iload 6, 2) := by decide +kernel
theorem dL_law_174 : decode cL_law 174 = .ok (.i2l, 1) := by decide +kernel
theorem dL_law_175 : decode cL_law 175 = .ok (.lcmp, 1) := by decide +kernel
theorem dL_law_176 : decode cL_law 176 = .ok (.ifCond .eq 5, 3) := by decide +kernel
theorem dL_law_179 : decode cL_law 179 = .ok (.iconst 0, 1) := by decide +kernel
theorem dL_law_180 : decode cL_law 180 = .ok (.ireturn, 1) := by decide +kernel
theorem dL_law_181 : decode cL_law 181 = .ok (.goto 755, 3) := by decide +kernel
theorem dL_law_184 : decode cL_law 184 = .ok (.aload_n 1, 1) := by decide +kernel
theorem dL_law_185 : decode cL_law 185 = .ok (.aload_n 0, 1) := by decide +kernel
theorem dL_law_186 : decode cL_law 186 = .ok (.iload 4, 2) := by decide +kernel
theorem dL_law_188 : decode cL_law 188 = .ok (.iconst 1, 1) := by decide +kernel
theorem dL_law_189 : decode cL_law 189 = .ok (.iadd, 1) := by decide +kernel
theorem dL_law_190 : decode cL_law 190 = .ok (.iaload, 1) := by decide +kernel
theorem dL_law_191 : decode cL_law 191 = .ok (.aload_n 3, 1) := by decide +kernel
theorem dL_law_192 : decode cL_law 192 = .ok (.invokestatic 68, 3) := by decide +kernel
theorem dL_law_195 : decode cL_law 195 = .ok (.istore 5, 2) := by decide +kernel
theorem dL_law_197 : decode cL_law 197 = .ok (.aload_n 2, 1) := by decide +kernel
theorem dL_law_198 : decode cL_law 198 = .ok (.aload_n 0, 1) := by decide +kernel
theorem dL_law_199 : decode cL_law 199 = .ok (.iload 4, 2) := by decide +kernel
theorem dL_law_201 : decode cL_law 201 = .ok (.iconst 1, 1) := by decide +kernel
theorem dL_law_202 : decode cL_law 202 = .ok (.iadd, 1) := by decide +kernel
theorem dL_law_203 : decode cL_law 203 = .ok (.iaload, 1) := by decide +kernel
theorem dL_law_204 : decode cL_law 204 = .ok (.invokevirtual 71, 3) := by decide +kernel
theorem dL_law_207 : decode cL_law 207 = .ok (.istore 6, 2) := by decide +kernel
theorem dL_law_209 : decode cL_law 209 = .ok (.aload_n 2, 1) := by decide +kernel
theorem dL_law_210 : decode cL_law 210 = .ok (.invokevirtual 64, 3) := by decide +kernel
theorem dL_law_213 : decode cL_law 213 = .ok (.iload 5, 2) := by decide +kernel
theorem dL_law_215 : decode cL_law 215 = .ok (.if_icmp .eq 5, 3) := by decide +kernel
theorem dL_law_218 : decode cL_law 218 = .ok (.iconst 0, 1) := by decide +kernel
theorem dL_law_219 : decode cL_law 219 = .ok (.ireturn, 1) := by decide +kernel
theorem dL_law_220 : decode cL_law 220 = .ok (.iload 5, 2) := by decide +kernel
theorem dL_law_222 : decode cL_law 222 = .ok (.ifCond .ne 15, 3) := by decide +kernel
theorem dL_law_225 : decode cL_law 225 = .ok (.aload_n 3, 1) := by decide +kernel
theorem dL_law_226 : decode cL_law 226 = .ok (.iconst 0, 1) := by decide +kernel
theorem dL_law_227 : decode cL_law 227 = .ok (.laload, 1) := by decide +kernel
theorem dL_law_228 : decode cL_law 228 = .ok (.iload 6, 2) := by decide +kernel
theorem dL_law_230 : decode cL_law 230 = .ok (.i2l, 1) := by decide +kernel
theorem dL_law_231 : decode cL_law 231 = .ok (.lcmp, 1) := by decide +kernel
theorem dL_law_232 : decode cL_law 232 = .ok (.ifCond .eq 5, 3) := by decide +kernel
theorem dL_law_235 : decode cL_law 235 = .ok (.iconst 0, 1) := by decide +kernel
theorem dL_law_236 : decode cL_law 236 = .ok (.ireturn, 1) := by decide +kernel
theorem dL_law_237 : decode cL_law 237 = .ok (.goto 699, 3) := by decide +kernel
theorem dL_law_240 : decode cL_law 240 = .ok (.aload_n 1, 1) := by decide +kernel
theorem dL_law_241 : decode cL_law 241 = .ok (.aload_n 0, 1) := by decide +kernel
theorem dL_law_242 : decode cL_law 242 = .ok (.iload 4, 2) := by decide +kernel
theorem dL_law_244 : decode cL_law 244 = .ok (.iconst 1, 1) := by decide +kernel
theorem dL_law_245 : decode cL_law 245 = .ok (.iadd, 1) := by decide +kernel
end
section
theorem dL_law_246 : decode cL_law 246 = .ok (.iaload, 1) := by decide +kernel
theorem dL_law_247 : decode cL_law 247 = .ok (.aload_n 3, 1) := by decide +kernel
theorem dL_law_248 : decode cL_law 248 = .ok (.invokestatic 72, 3) := by decide +kernel
theorem dL_law_251 : decode cL_law 251 = .ok (.istore 5, 2) := by decide +kernel
theorem dL_law_253 : decode cL_law 253 = .ok (.aload_n 2, 1) := by decide +kernel
theorem dL_law_254 : decode cL_law 254 = .ok (.aload_n 0, 1) := by decide +kernel
theorem dL_law_255 : decode cL_law 255 = .ok (.iload 4, 2) := by decide +kernel
theorem dL_law_257 : decode cL_law 257 = .ok (.iconst 1, 1) := by decide +kernel
theorem dL_law_258 : decode cL_law 258 = .ok (.iadd, 1) := by decide +kernel
theorem dL_law_259 : decode cL_law 259 = .ok (.iaload, 1) := by decide +kernel
theorem dL_law_260 : decode cL_law 260 = .ok (.invokevirtual 74, 3) := by decide +kernel
theorem dL_law_263 : decode cL_law 263 = .ok (.istore 6, 2) := by decide +kernel
theorem dL_law_265 : decode cL_law 265 = .ok (.aload_n 2, 1) := by decide +kernel
theorem dL_law_266 : decode cL_law 266 = .ok (.invokevirtual 64, 3) := by decide +kernel
theorem dL_law_269 : decode cL_law 269 = .ok (.iload 5, 2) := by decide +kernel
theorem dL_law_271 : decode cL_law 271 = .ok (.if_icmp .eq 5, 3) := by decide +kernel
theorem dL_law_274 : decode cL_law 274 = .ok (.iconst 0, 1) := by decide +kernel
theorem dL_law_275 : decode cL_law 275 = .ok (.ireturn, 1) := by decide +kernel
theorem dL_law_276 : decode cL_law 276 = .ok (.iload 5, 2) := by decide +kernel
theorem dL_law_278 : decode cL_law 278 = .ok (.ifCond .ne 22, 3) := by decide +kernel
theorem dL_law_281 : decode cL_law 281 = .ok (.aload_n 3, 1) := by decide +kernel
theorem dL_law_282 : decode cL_law 282 = .ok (.iconst 0, 1) := by decide +kernel
theorem dL_law_283 : decode cL_law 283 = .ok (.laload, 1) := by decide +kernel
theorem dL_law_284 : decode cL_law 284 = .ok (.iload 6, 2) := by decide +kernel
theorem dL_law_286 : decode cL_law 286 = .ok (.ifCond .eq 7, 3) := by decide +kernel
theorem dL_law_289 : decode cL_law 289 = .ok (.lconst 1, 1) := by decide +kernel
theorem dL_law_290 : decode cL_law 290 = .ok (.goto 4, 3) := by decide +kernel
theorem dL_law_293 : decode cL_law 293 = .ok (.lconst 0, 1) := by decide +kernel
theorem dL_law_294 : decode cL_law 294 = .ok (.lcmp, 1) := by decide +kernel
theorem dL_law_295 : decode cL_law 295 = .ok (.ifCond .eq 5, 3) := by decide +kernel
theorem dL_law_298 : decode cL_law 298 = .ok (.iconst 0, 1) := by decide +kernel
theorem dL_law_299 : decode cL_law 299 = .ok (.ireturn, 1) := by decide +kernel
theorem dL_law_300 : decode cL_law 300 = .ok (.goto 636, 3) := by decide +kernel
theorem dL_law_303 : decode cL_law 303 = .ok (.aload_n 1, 1) := by decide +kernel
theorem dL_law_304 : decode cL_law 304 = .ok (.invokevirtual 75, 3) := by decide +kernel
theorem dL_law_307 : decode cL_law 307 = .ok (.aload_n 2, 1) := by decide +kernel
theorem dL_law_308 : decode cL_law 308 = .ok (.invokevirtual 78, 3) := by decide +kernel
theorem dL_law_311 : decode cL_law 311 = .ok (.if_icmp .eq 625, 3) := by decide +kernel
theorem dL_law_314 : decode cL_law 314 = .ok (.iconst 0, 1) := by decide +kernel
theorem dL_law_315 : decode cL_law 315 = .ok (.ireturn, 1) := by decide +kernel
theorem dL_law_316 : decode cL_law 316 = .ok (.aload_n 1, 1) := by decide +kernel
theorem dL_law_317 : decode cL_law 317 = .ok (.aload_n 0, 1) := by decide +kernel
theorem dL_law_318 : decode cL_law 318 = .ok (.iload 4, 2) := by decide +kernel
theorem dL_law_320 : decode cL_law 320 = .ok (.iconst 1, 1) := by decide +kernel
theorem dL_law_321 : decode cL_law 321 = .ok (.iadd, 1) := by decide +kernel
theorem dL_law_322 : decode cL_law 322 = .ok (.iaload, 1) := by decide +kernel
theorem dL_law_323 : decode cL_law 323 = .ok (.aload_n 3, 1) := by decide +kernel
theorem dL_law_324 : decode cL_law 324 = .ok (.invokestatic 79, 3) := by decide +kernel
theorem dL_law_327 : decode cL_law 327 = .ok (.istore 5, 2) := by decide +kernel
theorem dL_law_329 : decode cL_law 329 = .ok (.aload_n 2, 1) := by decide +kernel
theorem dL_law_330 : decode cL_law 330 = .ok (.aload_n 0, 1) := by decide +kernel
theorem dL_law_331 : decode cL_law 331 = .ok (.iload 4, 2) := by decide +kernel
theorem dL_law_333 : decode cL_law 333 = .ok (.iconst 1, 1) := by decide +kernel
theorem dL_law_334 : decode cL_law 334 = .ok (.iadd, 1) := by decide +kernel
theorem dL_law_335 : decode cL_law 335 = .ok (.iaload, 1) := by decide +kernel
theorem dL_law_336 : decode cL_law 336 = .ok (.invokevirtual 81, 3) := by decide +kernel
theorem dL_law_339 : decode cL_law 339 = .ok (.istore 6, 2) := by decide +kernel
theorem dL_law_341 : decode cL_law 341 = .ok (.aload_n 2, 1) := by decide +kernel
theorem dL_law_342 : decode cL_law 342 = .ok (.invokevirtual 64, 3) := by decide +kernel
theorem dL_law_345 : decode cL_law 345 = .ok (.iload 5, 2) := by decide +kernel
theorem dL_law_347 : decode cL_law 347 = .ok (.if_icmp .eq 5, 3) := by decide +kernel
theorem dL_law_350 : decode cL_law 350 = .ok (.iconst 0, 1) := by decide +kernel
theorem dL_law_351 : decode cL_law 351 = .ok (.ireturn, 1) := by decide +kernel
theorem dL_law_352 : decode cL_law 352 = .ok (.iload 5, 2) := by decide +kernel
theorem dL_law_354 : decode cL_law 354 = .ok (.ifCond .ne 15, 3) := by decide +kernel
theorem dL_law_357 : decode cL_law 357 = .ok (.aload_n 3, 1) := by decide +kernel
theorem dL_law_358 : decode cL_law 358 = .ok (.iconst 0, 1) := by decide +kernel
theorem dL_law_359 : decode cL_law 359 = .ok (.laload, 1) := by decide +kernel
theorem dL_law_360 : decode cL_law 360 = .ok (.iload 6, 2) := by decide +kernel
theorem dL_law_362 : decode cL_law 362 = .ok (.i2l, 1) := by decide +kernel
theorem dL_law_363 : decode cL_law 363 = .ok (.lcmp, 1) := by decide +kernel
theorem dL_law_364 : decode cL_law 364 = .ok (.ifCond .eq 5, 3) := by decide +kernel
theorem dL_law_367 : decode cL_law 367 = .ok (.iconst 0, 1) := by decide +kernel
theorem dL_law_368 : decode cL_law 368 = .ok (.ireturn, 1) := by decide +kernel
theorem dL_law_369 : decode cL_law 369 = .ok (.goto 567, 3) := by decide +kernel
theorem dL_law_372 : decode cL_law 372 = .ok (.aload_n 1, 1) := by decide +kernel
theorem dL_law_373 : decode cL_law 373 = .ok (.aload_n 0, 1) := by decide +kernel
theorem dL_law_374 : decode cL_law 374 = .ok (.iload 4, 2) := by decide +kernel
theorem dL_law_376 : decode cL_law 376 = .ok (.iconst 1, 1) := by decide +kernel
theorem dL_law_377 : decode cL_law 377 = .ok (.iadd, 1) := by decide +kernel
theorem dL_law_378 : decode cL_law 378 = .ok (.iaload, 1) := by decide +kernel
theorem dL_law_379 : decode cL_law 379 = .ok (.aload_n 0, 1) := by decide +kernel
theorem dL_law_380 : decode cL_law 380 = .ok (.iload 4, 2) := by decide +kernel
theorem dL_law_382 : decode cL_law 382 = .ok (.iconst 2, 1) := by decide +kernel
theorem dL_law_383 : decode cL_law 383 = .ok (.iadd, 1) := by decide +kernel
theorem dL_law_384 : decode cL_law 384 = .ok (.iaload, 1) := by decide +kernel
theorem dL_law_385 : decode cL_law 385 = .ok (.aload_n 3, 1) := by decide +kernel
theorem dL_law_386 : decode cL_law 386 = .ok (.invokestatic 82, 3) := by decide +kernel
theorem dL_law_389 : decode cL_law 389 = .ok (.istore 5, 2) := by decide +kernel
theorem dL_law_391 : decode cL_law 391 = .ok (.aload_n 2, 1) := by decide +kernel
theorem dL_law_392 : decode cL_law 392 = .ok (.aload_n 0, 1) := by decide +kernel
theorem dL_law_393 : decode cL_law 393 = .ok (.iload 4, 2) := by decide +kernel
theorem dL_law_395 : decode cL_law 395 = .ok (.iconst 1, 1) := by decide +kernel
theorem dL_law_396 : decode cL_law 396 = .ok (.iadd, 1) := by decide +kernel
theorem dL_law_397 : decode cL_law 397 = .ok (.iaload, 1) := by decide +kernel
theorem dL_law_398 : decode cL_law 398 = .ok (.aload_n 0, 1) := by decide +kernel
theorem dL_law_399 : decode cL_law 399 = .ok (.iload 4, 2) := by decide +kernel
theorem dL_law_401 : decode cL_law 401 = .ok (.iconst 2, 1) := by decide +kernel
theorem dL_law_402 : decode cL_law 402 = .ok (.iadd, 1) := by decide +kernel
theorem dL_law_403 : decode cL_law 403 = .ok (.iaload, 1) := by decide +kernel
theorem dL_law_404 : decode cL_law 404 = .ok (.invokevirtual 84, 3) := by decide +kernel
theorem dL_law_407 : decode cL_law 407 = .ok (.istore 6, 2) := by decide +kernel
theorem dL_law_409 : decode cL_law 409 = .ok (.aload_n 2, 1) := by decide +kernel
theorem dL_law_410 : decode cL_law 410 = .ok (.invokevirtual 64, 3) := by decide +kernel
theorem dL_law_413 : decode cL_law 413 = .ok (.iload 5, 2) := by decide +kernel
theorem dL_law_415 : decode cL_law 415 = .ok (.if_icmp .eq 5, 3) := by decide +kernel
theorem dL_law_418 : decode cL_law 418 = .ok (.iconst 0, 1) := by decide +kernel
theorem dL_law_419 : decode cL_law 419 = .ok (.ireturn, 1) := by decide +kernel
theorem dL_law_420 : decode cL_law 420 = .ok (.iload 5, 2) := by decide +kernel
theorem dL_law_422 : decode cL_law 422 = .ok (.ifCond .ne 15, 3) := by decide +kernel
end
section
theorem dL_law_425 : decode cL_law 425 = .ok (.aload_n 3, 1) := by decide +kernel
theorem dL_law_426 : decode cL_law 426 = .ok (.iconst 0, 1) := by decide +kernel
theorem dL_law_427 : decode cL_law 427 = .ok (.laload, 1) := by decide +kernel
theorem dL_law_428 : decode cL_law 428 = .ok (.iload 6, 2) := by decide +kernel
theorem dL_law_430 : decode cL_law 430 = .ok (.i2l, 1) := by decide +kernel
theorem dL_law_431 : decode cL_law 431 = .ok (.lcmp, 1) := by decide +kernel
theorem dL_law_432 : decode cL_law 432 = .ok (.ifCond .eq 5, 3) := by decide +kernel
theorem dL_law_435 : decode cL_law 435 = .ok (.iconst 0, 1) := by decide +kernel
theorem dL_law_436 : decode cL_law 436 = .ok (.ireturn, 1) := by decide +kernel
theorem dL_law_437 : decode cL_law 437 = .ok (.goto 499, 3) := by decide +kernel
theorem dL_law_440 : decode cL_law 440 = .ok (.aload_n 1, 1) := by decide +kernel
theorem dL_law_441 : decode cL_law 441 = .ok (.aload_n 0, 1) := by decide +kernel
theorem dL_law_442 : decode cL_law 442 = .ok (.iload 4, 2) := by decide +kernel
theorem dL_law_444 : decode cL_law 444 = .ok (.iconst 1, 1) := by decide +kernel
theorem dL_law_445 : decode cL_law 445 = .ok (.iadd, 1) := by decide +kernel
theorem dL_law_446 : decode cL_law 446 = .ok (.iaload, 1) := by decide +kernel
theorem dL_law_447 : decode cL_law 447 = .ok (.aload_n 0, 1) := by decide +kernel
theorem dL_law_448 : decode cL_law 448 = .ok (.iload 4, 2) := by decide +kernel
theorem dL_law_450 : decode cL_law 450 = .ok (.iconst 2, 1) := by decide +kernel
theorem dL_law_451 : decode cL_law 451 = .ok (.iadd, 1) := by decide +kernel
theorem dL_law_452 : decode cL_law 452 = .ok (.iaload, 1) := by decide +kernel
theorem dL_law_453 : decode cL_law 453 = .ok (.aload_n 3, 1) := by decide +kernel
theorem dL_law_454 : decode cL_law 454 = .ok (.invokestatic 85, 3) := by decide +kernel
theorem dL_law_457 : decode cL_law 457 = .ok (.istore 5, 2) := by decide +kernel
theorem dL_law_459 : decode cL_law 459 = .ok (.aload_n 2, 1) := by decide +kernel
theorem dL_law_460 : decode cL_law 460 = .ok (.aload_n 0, 1) := by decide +kernel
theorem dL_law_461 : decode cL_law 461 = .ok (.iload 4, 2) := by decide +kernel
theorem dL_law_463 : decode cL_law 463 = .ok (.iconst 1, 1) := by decide +kernel
theorem dL_law_464 : decode cL_law 464 = .ok (.iadd, 1) := by decide +kernel
theorem dL_law_465 : decode cL_law 465 = .ok (.iaload, 1) := by decide +kernel
theorem dL_law_466 : decode cL_law 466 = .ok (.aload_n 0, 1) := by decide +kernel
theorem dL_law_467 : decode cL_law 467 = .ok (.iload 4, 2) := by decide +kernel
theorem dL_law_469 : decode cL_law 469 = .ok (.iconst 2, 1) := by decide +kernel
theorem dL_law_470 : decode cL_law 470 = .ok (.iadd, 1) := by decide +kernel
theorem dL_law_471 : decode cL_law 471 = .ok (.iaload, 1) := by decide +kernel
theorem dL_law_472 : decode cL_law 472 = .ok (.invokevirtual 87, 3) := by decide +kernel
theorem dL_law_475 : decode cL_law 475 = .ok (.istore 6, 2) := by decide +kernel
theorem dL_law_477 : decode cL_law 477 = .ok (.aload_n 2, 1) := by decide +kernel
theorem dL_law_478 : decode cL_law 478 = .ok (.invokevirtual 64, 3) := by decide +kernel
theorem dL_law_481 : decode cL_law 481 = .ok (.iload 5, 2) := by decide +kernel
theorem dL_law_483 : decode cL_law 483 = .ok (.if_icmp .eq 5, 3) := by decide +kernel
theorem dL_law_486 : decode cL_law 486 = .ok (.iconst 0, 1) := by decide +kernel
theorem dL_law_487 : decode cL_law 487 = .ok (.ireturn, 1) := by decide +kernel
theorem dL_law_488 : decode cL_law 488 = .ok (.iload 5, 2) := by decide +kernel
theorem dL_law_490 : decode cL_law 490 = .ok (.ifCond .ne 15, 3) := by decide +kernel
theorem dL_law_493 : decode cL_law 493 = .ok (.aload_n 3, 1) := by decide +kernel
theorem dL_law_494 : decode cL_law 494 = .ok (.iconst 0, 1) := by decide +kernel
theorem dL_law_495 : decode cL_law 495 = .ok (.laload, 1) := by decide +kernel
theorem dL_law_496 : decode cL_law 496 = .ok (.iload 6, 2) := by decide +kernel
theorem dL_law_498 : decode cL_law 498 = .ok (.i2l, 1) := by decide +kernel
theorem dL_law_499 : decode cL_law 499 = .ok (.lcmp, 1) := by decide +kernel
theorem dL_law_500 : decode cL_law 500 = .ok (.ifCond .eq 5, 3) := by decide +kernel
theorem dL_law_503 : decode cL_law 503 = .ok (.iconst 0, 1) := by decide +kernel
theorem dL_law_504 : decode cL_law 504 = .ok (.ireturn, 1) := by decide +kernel
theorem dL_law_505 : decode cL_law 505 = .ok (.goto 431, 3) := by decide +kernel
theorem dL_law_508 : decode cL_law 508 = .ok (.aload_n 1, 1) := by decide +kernel
theorem dL_law_509 : decode cL_law 509 = .ok (.aload_n 0, 1) := by decide +kernel
theorem dL_law_510 : decode cL_law 510 = .ok (.iload 4, 2) := by decide +kernel
theorem dL_law_512 : decode cL_law 512 = .ok (.iconst 1, 1) := by decide +kernel
theorem dL_law_513 : decode cL_law 513 = .ok (.iadd, 1) := by decide +kernel
theorem dL_law_514 : decode cL_law 514 = .ok (.iaload, 1) := by decide +kernel
theorem dL_law_515 : decode cL_law 515 = .ok (.aload_n 0, 1) := by decide +kernel
theorem dL_law_516 : decode cL_law 516 = .ok (.iload 4, 2) := by decide +kernel
theorem dL_law_518 : decode cL_law 518 = .ok (.iconst 2, 1) := by decide +kernel
theorem dL_law_519 : decode cL_law 519 = .ok (.iadd, 1) := by decide +kernel
theorem dL_law_520 : decode cL_law 520 = .ok (.iaload, 1) := by decide +kernel
theorem dL_law_521 : decode cL_law 521 = .ok (.aload_n 3, 1) := by decide +kernel
theorem dL_law_522 : decode cL_law 522 = .ok (.invokestatic 88, 3) := by decide +kernel
theorem dL_law_525 : decode cL_law 525 = .ok (.istore 5, 2) := by decide +kernel
theorem dL_law_527 : decode cL_law 527 = .ok (.aload_n 2, 1) := by decide +kernel
theorem dL_law_528 : decode cL_law 528 = .ok (.aload_n 0, 1) := by decide +kernel
theorem dL_law_529 : decode cL_law 529 = .ok (.iload 4, 2) := by decide +kernel
theorem dL_law_531 : decode cL_law 531 = .ok (.iconst 1, 1) := by decide +kernel
theorem dL_law_532 : decode cL_law 532 = .ok (.iadd, 1) := by decide +kernel
theorem dL_law_533 : decode cL_law 533 = .ok (.iaload, 1) := by decide +kernel
theorem dL_law_534 : decode cL_law 534 = .ok (.aload_n 0, 1) := by decide +kernel
theorem dL_law_535 : decode cL_law 535 = .ok (.iload 4, 2) := by decide +kernel
theorem dL_law_537 : decode cL_law 537 = .ok (.iconst 2, 1) := by decide +kernel
theorem dL_law_538 : decode cL_law 538 = .ok (.iadd, 1) := by decide +kernel
theorem dL_law_539 : decode cL_law 539 = .ok (.iaload, 1) := by decide +kernel
theorem dL_law_540 : decode cL_law 540 = .ok (.invokevirtual 90, 3) := by decide +kernel
theorem dL_law_543 : decode cL_law 543 = .ok (.istore 6, 2) := by decide +kernel
theorem dL_law_545 : decode cL_law 545 = .ok (.aload_n 2, 1) := by decide +kernel
theorem dL_law_546 : decode cL_law 546 = .ok (.invokevirtual 64, 3) := by decide +kernel
theorem dL_law_549 : decode cL_law 549 = .ok (.iload 5, 2) := by decide +kernel
theorem dL_law_551 : decode cL_law 551 = .ok (.if_icmp .eq 5, 3) := by decide +kernel
theorem dL_law_554 : decode cL_law 554 = .ok (.iconst 0, 1) := by decide +kernel
theorem dL_law_555 : decode cL_law 555 = .ok (.ireturn, 1) := by decide +kernel
theorem dL_law_556 : decode cL_law 556 = .ok (.iload 5, 2) := by decide +kernel
theorem dL_law_558 : decode cL_law 558 = .ok (.ifCond .ne 15, 3) := by decide +kernel
theorem dL_law_561 : decode cL_law 561 = .ok (.aload_n 3, 1) := by decide +kernel
theorem dL_law_562 : decode cL_law 562 = .ok (.iconst 0, 1) := by decide +kernel
theorem dL_law_563 : decode cL_law 563 = .ok (.laload, 1) := by decide +kernel
theorem dL_law_564 : decode cL_law 564 = .ok (.iload 6, 2) := by decide +kernel
theorem dL_law_566 : decode cL_law 566 = .ok (.i2l, 1) := by decide +kernel
theorem dL_law_567 : decode cL_law 567 = .ok (.lcmp, 1) := by decide +kernel
theorem dL_law_568 : decode cL_law 568 = .ok (.ifCond .eq 5, 3) := by decide +kernel
theorem dL_law_571 : decode cL_law 571 = .ok (.iconst 0, 1) := by decide +kernel
theorem dL_law_572 : decode cL_law 572 = .ok (.ireturn, 1) := by decide +kernel
theorem dL_law_573 : decode cL_law 573 = .ok (.goto 363, 3) := by decide +kernel
theorem dL_law_576 : decode cL_law 576 = .ok (.aload_n 1, 1) := by decide +kernel
theorem dL_law_577 : decode cL_law 577 = .ok (.aload_n 0, 1) := by decide +kernel
theorem dL_law_578 : decode cL_law 578 = .ok (.iload 4, 2) := by decide +kernel
theorem dL_law_580 : decode cL_law 580 = .ok (.iconst 1, 1) := by decide +kernel
theorem dL_law_581 : decode cL_law 581 = .ok (.iadd, 1) := by decide +kernel
theorem dL_law_582 : decode cL_law 582 = .ok (.iaload, 1) := by decide +kernel
theorem dL_law_583 : decode cL_law 583 = .ok (.aload_n 0, 1) := by decide +kernel
theorem dL_law_584 : decode cL_law 584 = .ok (.iload 4, 2) := by decide +kernel
theorem dL_law_586 : decode cL_law 586 = .ok (.iconst 2, 1) := by decide +kernel
theorem dL_law_587 : decode cL_law 587 = .ok (.iadd, 1) := by decide +kernel
end
section
theorem dL_law_588 : decode cL_law 588 = .ok (.iaload, 1) := by decide +kernel
theorem dL_law_589 : decode cL_law 589 = .ok (.aload_n 3, 1) := by decide +kernel
theorem dL_law_590 : decode cL_law 590 = .ok (.invokestatic 91, 3) := by decide +kernel
theorem dL_law_593 : decode cL_law 593 = .ok (.istore 5, 2) := by decide +kernel
theorem dL_law_595 : decode cL_law 595 = .ok (.aload_n 2, 1) := by decide +kernel
theorem dL_law_596 : decode cL_law 596 = .ok (.aload_n 0, 1) := by decide +kernel
theorem dL_law_597 : decode cL_law 597 = .ok (.iload 4, 2) := by decide +kernel
theorem dL_law_599 : decode cL_law 599 = .ok (.iconst 1, 1) := by decide +kernel
theorem dL_law_600 : decode cL_law 600 = .ok (.iadd, 1) := by decide +kernel
theorem dL_law_601 : decode cL_law 601 = .ok (.iaload, 1) := by decide +kernel
theorem dL_law_602 : decode cL_law 602 = .ok (.aload_n 0, 1) := by decide +kernel
theorem dL_law_603 : decode cL_law 603 = .ok (.iload 4, 2) := by decide +kernel
theorem dL_law_605 : decode cL_law 605 = .ok (.iconst 2, 1) := by decide +kernel
theorem dL_law_606 : decode cL_law 606 = .ok (.iadd, 1) := by decide +kernel
theorem dL_law_607 : decode cL_law 607 = .ok (.iaload, 1) := by decide +kernel
theorem dL_law_608 : decode cL_law 608 = .ok (.invokevirtual 93, 3) := by decide +kernel
theorem dL_law_611 : decode cL_law 611 = .ok (.istore 6, 2) := by decide +kernel
theorem dL_law_613 : decode cL_law 613 = .ok (.aload_n 2, 1) := by decide +kernel
theorem dL_law_614 : decode cL_law 614 = .ok (.invokevirtual 64, 3) := by decide +kernel
theorem dL_law_617 : decode cL_law 617 = .ok (.iload 5, 2) := by decide +kernel
theorem dL_law_619 : decode cL_law 619 = .ok (.if_icmp .eq 5, 3) := by decide +kernel
theorem dL_law_622 : decode cL_law 622 = .ok (.iconst 0, 1) := by decide +kernel
theorem dL_law_623 : decode cL_law 623 = .ok (.ireturn, 1) := by decide +kernel
theorem dL_law_624 : decode cL_law 624 = .ok (.iload 5, 2) := by decide +kernel
theorem dL_law_626 : decode cL_law 626 = .ok (.ifCond .ne 15, 3) := by decide +kernel
theorem dL_law_629 : decode cL_law 629 = .ok (.aload_n 3, 1) := by decide +kernel
theorem dL_law_630 : decode cL_law 630 = .ok (.iconst 0, 1) := by decide +kernel
theorem dL_law_631 : decode cL_law 631 = .ok (.laload, 1) := by decide +kernel
theorem dL_law_632 : decode cL_law 632 = .ok (.iload 6, 2) := by decide +kernel
theorem dL_law_634 : decode cL_law 634 = .ok (.i2l, 1) := by decide +kernel
theorem dL_law_635 : decode cL_law 635 = .ok (.lcmp, 1) := by decide +kernel
theorem dL_law_636 : decode cL_law 636 = .ok (.ifCond .eq 5, 3) := by decide +kernel
theorem dL_law_639 : decode cL_law 639 = .ok (.iconst 0, 1) := by decide +kernel
theorem dL_law_640 : decode cL_law 640 = .ok (.ireturn, 1) := by decide +kernel
theorem dL_law_641 : decode cL_law 641 = .ok (.goto 295, 3) := by decide +kernel
theorem dL_law_644 : decode cL_law 644 = .ok (.aload_n 1, 1) := by decide +kernel
theorem dL_law_645 : decode cL_law 645 = .ok (.aload_n 0, 1) := by decide +kernel
theorem dL_law_646 : decode cL_law 646 = .ok (.iload 4, 2) := by decide +kernel
theorem dL_law_648 : decode cL_law 648 = .ok (.iconst 1, 1) := by decide +kernel
theorem dL_law_649 : decode cL_law 649 = .ok (.iadd, 1) := by decide +kernel
theorem dL_law_650 : decode cL_law 650 = .ok (.iaload, 1) := by decide +kernel
theorem dL_law_651 : decode cL_law 651 = .ok (.aload_n 3, 1) := by decide +kernel
theorem dL_law_652 : decode cL_law 652 = .ok (.invokestatic 94, 3) := by decide +kernel
theorem dL_law_655 : decode cL_law 655 = .ok (.istore 5, 2) := by decide +kernel
theorem dL_law_657 : decode cL_law 657 = .ok (.aload_n 2, 1) := by decide +kernel
theorem dL_law_658 : decode cL_law 658 = .ok (.aload_n 0, 1) := by decide +kernel
theorem dL_law_659 : decode cL_law 659 = .ok (.iload 4, 2) := by decide +kernel
theorem dL_law_661 : decode cL_law 661 = .ok (.iconst 1, 1) := by decide +kernel
theorem dL_law_662 : decode cL_law 662 = .ok (.iadd, 1) := by decide +kernel
theorem dL_law_663 : decode cL_law 663 = .ok (.iaload, 1) := by decide +kernel
theorem dL_law_664 : decode cL_law 664 = .ok (.invokevirtual 96, 3) := by decide +kernel
theorem dL_law_667 : decode cL_law 667 = .ok (.istore 6, 2) := by decide +kernel
theorem dL_law_669 : decode cL_law 669 = .ok (.aload_n 2, 1) := by decide +kernel
theorem dL_law_670 : decode cL_law 670 = .ok (.invokevirtual 64, 3) := by decide +kernel
theorem dL_law_673 : decode cL_law 673 = .ok (.iload 5, 2) := by decide +kernel
theorem dL_law_675 : decode cL_law 675 = .ok (.if_icmp .eq 5, 3) := by decide +kernel
theorem dL_law_678 : decode cL_law 678 = .ok (.iconst 0, 1) := by decide +kernel
theorem dL_law_679 : decode cL_law 679 = .ok (.ireturn, 1) := by decide +kernel
theorem dL_law_680 : decode cL_law 680 = .ok (.iload 5, 2) := by decide +kernel
theorem dL_law_682 : decode cL_law 682 = .ok (.ifCond .ne 15, 3) := by decide +kernel
theorem dL_law_685 : decode cL_law 685 = .ok (.aload_n 3, 1) := by decide +kernel
theorem dL_law_686 : decode cL_law 686 = .ok (.iconst 0, 1) := by decide +kernel
theorem dL_law_687 : decode cL_law 687 = .ok (.laload, 1) := by decide +kernel
theorem dL_law_688 : decode cL_law 688 = .ok (.iload 6, 2) := by decide +kernel
theorem dL_law_690 : decode cL_law 690 = .ok (.i2l, 1) := by decide +kernel
theorem dL_law_691 : decode cL_law 691 = .ok (.lcmp, 1) := by decide +kernel
theorem dL_law_692 : decode cL_law 692 = .ok (.ifCond .eq 5, 3) := by decide +kernel
theorem dL_law_695 : decode cL_law 695 = .ok (.iconst 0, 1) := by decide +kernel
theorem dL_law_696 : decode cL_law 696 = .ok (.ireturn, 1) := by decide +kernel
theorem dL_law_697 : decode cL_law 697 = .ok (.goto 239, 3) := by decide +kernel
theorem dL_law_700 : decode cL_law 700 = .ok (.aload_n 1, 1) := by decide +kernel
theorem dL_law_701 : decode cL_law 701 = .ok (.aload_n 0, 1) := by decide +kernel
theorem dL_law_702 : decode cL_law 702 = .ok (.iload 4, 2) := by decide +kernel
theorem dL_law_704 : decode cL_law 704 = .ok (.iconst 1, 1) := by decide +kernel
theorem dL_law_705 : decode cL_law 705 = .ok (.iadd, 1) := by decide +kernel
theorem dL_law_706 : decode cL_law 706 = .ok (.iaload, 1) := by decide +kernel
theorem dL_law_707 : decode cL_law 707 = .ok (.aload_n 3, 1) := by decide +kernel
theorem dL_law_708 : decode cL_law 708 = .ok (.invokestatic 97, 3) := by decide +kernel
theorem dL_law_711 : decode cL_law 711 = .ok (.istore 5, 2) := by decide +kernel
theorem dL_law_713 : decode cL_law 713 = .ok (.aload_n 2, 1) := by decide +kernel
theorem dL_law_714 : decode cL_law 714 = .ok (.aload_n 0, 1) := by decide +kernel
theorem dL_law_715 : decode cL_law 715 = .ok (.iload 4, 2) := by decide +kernel
theorem dL_law_717 : decode cL_law 717 = .ok (.iconst 1, 1) := by decide +kernel
theorem dL_law_718 : decode cL_law 718 = .ok (.iadd, 1) := by decide +kernel
theorem dL_law_719 : decode cL_law 719 = .ok (.iaload, 1) := by decide +kernel
theorem dL_law_720 : decode cL_law 720 = .ok (.invokevirtual 99, 3) := by decide +kernel
theorem dL_law_723 : decode cL_law 723 = .ok (.istore 6, 2) := by decide +kernel
theorem dL_law_725 : decode cL_law 725 = .ok (.aload_n 2, 1) := by decide +kernel
theorem dL_law_726 : decode cL_law 726 = .ok (.invokevirtual 64, 3) := by decide +kernel
theorem dL_law_729 : decode cL_law 729 = .ok (.iload 5, 2) := by decide +kernel
theorem dL_law_731 : decode cL_law 731 = .ok (.if_icmp .eq 5, 3) := by decide +kernel
theorem dL_law_734 : decode cL_law 734 = .ok (.iconst 0, 1) := by decide +kernel
theorem dL_law_735 : decode cL_law 735 = .ok (.ireturn, 1) := by decide +kernel
theorem dL_law_736 : decode cL_law 736 = .ok (.iload 5, 2) := by decide +kernel
theorem dL_law_738 : decode cL_law 738 = .ok (.ifCond .ne 15, 3) := by decide +kernel
theorem dL_law_741 : decode cL_law 741 = .ok (.aload_n 3, 1) := by decide +kernel
theorem dL_law_742 : decode cL_law 742 = .ok (.iconst 0, 1) := by decide +kernel
theorem dL_law_743 : decode cL_law 743 = .ok (.laload, 1) := by decide +kernel
theorem dL_law_744 : decode cL_law 744 = .ok (.iload 6, 2) := by decide +kernel
theorem dL_law_746 : decode cL_law 746 = .ok (.i2l, 1) := by decide +kernel
theorem dL_law_747 : decode cL_law 747 = .ok (.lcmp, 1) := by decide +kernel
theorem dL_law_748 : decode cL_law 748 = .ok (.ifCond .eq 5, 3) := by decide +kernel
theorem dL_law_751 : decode cL_law 751 = .ok (.iconst 0, 1) := by decide +kernel
theorem dL_law_752 : decode cL_law 752 = .ok (.ireturn, 1) := by decide +kernel
theorem dL_law_753 : decode cL_law 753 = .ok (.goto 183, 3) := by decide +kernel
theorem dL_law_756 : decode cL_law 756 = .ok (.aload_n 1, 1) := by decide +kernel
theorem dL_law_757 : decode cL_law 757 = .ok (.aload_n 0, 1) := by decide +kernel
theorem dL_law_758 : decode cL_law 758 = .ok (.iload 4, 2) := by decide +kernel
theorem dL_law_760 : decode cL_law 760 = .ok (.iconst 1, 1) := by decide +kernel
theorem dL_law_761 : decode cL_law 761 = .ok (.iadd, 1) := by decide +kernel
end
section
theorem dL_law_762 : decode cL_law 762 = .ok (.iaload, 1) := by decide +kernel
theorem dL_law_763 : decode cL_law 763 = .ok (.aload_n 3, 1) := by decide +kernel
theorem dL_law_764 : decode cL_law 764 = .ok (.invokestatic 100, 3) := by decide +kernel
theorem dL_law_767 : decode cL_law 767 = .ok (.istore 5, 2) := by decide +kernel
theorem dL_law_769 : decode cL_law 769 = .ok (.aload_n 2, 1) := by decide +kernel
theorem dL_law_770 : decode cL_law 770 = .ok (.aload_n 0, 1) := by decide +kernel
theorem dL_law_771 : decode cL_law 771 = .ok (.iload 4, 2) := by decide +kernel
theorem dL_law_773 : decode cL_law 773 = .ok (.iconst 1, 1) := by decide +kernel
theorem dL_law_774 : decode cL_law 774 = .ok (.iadd, 1) := by decide +kernel
theorem dL_law_775 : decode cL_law 775 = .ok (.iaload, 1) := by decide +kernel
theorem dL_law_776 : decode cL_law 776 = .ok (.invokevirtual 102, 3) := by decide +kernel
theorem dL_law_779 : decode cL_law 779 = .ok (.istore 6, 2) := by decide +kernel
theorem dL_law_781 : decode cL_law 781 = .ok (.aload_n 2, 1) := by decide +kernel
theorem dL_law_782 : decode cL_law 782 = .ok (.invokevirtual 64, 3) := by decide +kernel
theorem dL_law_785 : decode cL_law 785 = .ok (.iload 5, 2) := by decide +kernel
theorem dL_law_787 : decode cL_law 787 = .ok (.if_icmp .eq 5, 3) := by decide +kernel
theorem dL_law_790 : decode cL_law 790 = .ok (.iconst 0, 1) := by decide +kernel
theorem dL_law_791 : decode cL_law 791 = .ok (.ireturn, 1) := by decide +kernel
theorem dL_law_792 : decode cL_law 792 = .ok (.iload 5, 2) := by decide +kernel
theorem dL_law_794 : decode cL_law 794 = .ok (.ifCond .ne 15, 3) := by decide +kernel
theorem dL_law_797 : decode cL_law 797 = .ok (.aload_n 3, 1) := by decide +kernel
theorem dL_law_798 : decode cL_law 798 = .ok (.iconst 0, 1) := by decide +kernel
theorem dL_law_799 : decode cL_law 799 = .ok (.laload, 1) := by decide +kernel
theorem dL_law_800 : decode cL_law 800 = .ok (.iload 6, 2) := by decide +kernel
theorem dL_law_802 : decode cL_law 802 = .ok (.i2l, 1) := by decide +kernel
theorem dL_law_803 : decode cL_law 803 = .ok (.lcmp, 1) := by decide +kernel
theorem dL_law_804 : decode cL_law 804 = .ok (.ifCond .eq 5, 3) := by decide +kernel
theorem dL_law_807 : decode cL_law 807 = .ok (.iconst 0, 1) := by decide +kernel
theorem dL_law_808 : decode cL_law 808 = .ok (.ireturn, 1) := by decide +kernel
theorem dL_law_809 : decode cL_law 809 = .ok (.goto 127, 3) := by decide +kernel
theorem dL_law_812 : decode cL_law 812 = .ok (.aload_n 1, 1) := by decide +kernel
theorem dL_law_813 : decode cL_law 813 = .ok (.aload_n 0, 1) := by decide +kernel
theorem dL_law_814 : decode cL_law 814 = .ok (.iload 4, 2) := by decide +kernel
theorem dL_law_816 : decode cL_law 816 = .ok (.iconst 1, 1) := by decide +kernel
theorem dL_law_817 : decode cL_law 817 = .ok (.iadd, 1) := by decide +kernel
theorem dL_law_818 : decode cL_law 818 = .ok (.iaload, 1) := by decide +kernel
theorem dL_law_819 : decode cL_law 819 = .ok (.aload_n 3, 1) := by decide +kernel
theorem dL_law_820 : decode cL_law 820 = .ok (.invokestatic 103, 3) := by decide +kernel
theorem dL_law_823 : decode cL_law 823 = .ok (.istore 5, 2) := by decide +kernel
theorem dL_law_825 : decode cL_law 825 = .ok (.aload_n 2, 1) := by decide +kernel
theorem dL_law_826 : decode cL_law 826 = .ok (.aload_n 0, 1) := by decide +kernel
theorem dL_law_827 : decode cL_law 827 = .ok (.iload 4, 2) := by decide +kernel
theorem dL_law_829 : decode cL_law 829 = .ok (.iconst 1, 1) := by decide +kernel
theorem dL_law_830 : decode cL_law 830 = .ok (.iadd, 1) := by decide +kernel
theorem dL_law_831 : decode cL_law 831 = .ok (.iaload, 1) := by decide +kernel
theorem dL_law_832 : decode cL_law 832 = .ok (.invokevirtual 105, 3) := by decide +kernel
theorem dL_law_835 : decode cL_law 835 = .ok (.istore 6, 2) := by decide +kernel
theorem dL_law_837 : decode cL_law 837 = .ok (.aload_n 2, 1) := by decide +kernel
theorem dL_law_838 : decode cL_law 838 = .ok (.invokevirtual 64, 3) := by decide +kernel
theorem dL_law_841 : decode cL_law 841 = .ok (.iload 5, 2) := by decide +kernel
theorem dL_law_843 : decode cL_law 843 = .ok (.if_icmp .eq 5, 3) := by decide +kernel
theorem dL_law_846 : decode cL_law 846 = .ok (.iconst 0, 1) := by decide +kernel
theorem dL_law_847 : decode cL_law 847 = .ok (.ireturn, 1) := by decide +kernel
theorem dL_law_848 : decode cL_law 848 = .ok (.iload 5, 2) := by decide +kernel
theorem dL_law_850 : decode cL_law 850 = .ok (.ifCond .ne 15, 3) := by decide +kernel
theorem dL_law_853 : decode cL_law 853 = .ok (.aload_n 3, 1) := by decide +kernel
theorem dL_law_854 : decode cL_law 854 = .ok (.iconst 0, 1) := by decide +kernel
theorem dL_law_855 : decode cL_law 855 = .ok (.laload, 1) := by decide +kernel
theorem dL_law_856 : decode cL_law 856 = .ok (.iload 6, 2) := by decide +kernel
theorem dL_law_858 : decode cL_law 858 = .ok (.i2l, 1) := by decide +kernel
theorem dL_law_859 : decode cL_law 859 = .ok (.lcmp, 1) := by decide +kernel
theorem dL_law_860 : decode cL_law 860 = .ok (.ifCond .eq 5, 3) := by decide +kernel
theorem dL_law_863 : decode cL_law 863 = .ok (.iconst 0, 1) := by decide +kernel
theorem dL_law_864 : decode cL_law 864 = .ok (.ireturn, 1) := by decide +kernel
theorem dL_law_865 : decode cL_law 865 = .ok (.goto 71, 3) := by decide +kernel
theorem dL_law_868 : decode cL_law 868 = .ok (.aload_n 1, 1) := by decide +kernel
theorem dL_law_869 : decode cL_law 869 = .ok (.invokevirtual 106, 3) := by decide +kernel
theorem dL_law_872 : decode cL_law 872 = .ok (.aload_n 2, 1) := by decide +kernel
theorem dL_law_873 : decode cL_law 873 = .ok (.invokevirtual 109, 3) := by decide +kernel
theorem dL_law_876 : decode cL_law 876 = .ok (.if_icmp .eq 60, 3) := by decide +kernel
theorem dL_law_879 : decode cL_law 879 = .ok (.iconst 0, 1) := by decide +kernel
theorem dL_law_880 : decode cL_law 880 = .ok (.ireturn, 1) := by decide +kernel
theorem dL_law_881 : decode cL_law 881 = .ok (.aload_n 1, 1) := by decide +kernel
theorem dL_law_882 : decode cL_law 882 = .ok (.invokevirtual 110, 3) := by decide +kernel
theorem dL_law_885 : decode cL_law 885 = .ok (.dstore 5, 2) := by decide +kernel
theorem dL_law_887 : decode cL_law 887 = .ok (.aload_n 2, 1) := by decide +kernel
theorem dL_law_888 : decode cL_law 888 = .ok (.invokevirtual 114, 3) := by decide +kernel
theorem dL_law_891 : decode cL_law 891 = .ok (.dstore 7, 2) := by decide +kernel
theorem dL_law_893 : decode cL_law 893 = .ok (.dload 5, 2) := by decide +kernel
theorem dL_law_895 : decode cL_law 895 = .ok (.dload 7, 2) := by decide +kernel
theorem dL_law_897 : decode cL_law 897 = .ok (.dcmp .l, 1) := by decide +kernel
theorem dL_law_898 : decode cL_law 898 = .ok (.ifCond .eq 21, 3) := by decide +kernel
theorem dL_law_901 : decode cL_law 901 = .ok (.dload 5, 2) := by decide +kernel
theorem dL_law_903 : decode cL_law 903 = .ok (.dload 5, 2) := by decide +kernel
theorem dL_law_905 : decode cL_law 905 = .ok (.dcmp .l, 1) := by decide +kernel
theorem dL_law_906 : decode cL_law 906 = .ok (.ifCond .eq 11, 3) := by decide +kernel
theorem dL_law_909 : decode cL_law 909 = .ok (.dload 7, 2) := by decide +kernel
theorem dL_law_911 : decode cL_law 911 = .ok (.dload 7, 2) := by decide +kernel
theorem dL_law_913 : decode cL_law 913 = .ok (.dcmp .l, 1) := by decide +kernel
theorem dL_law_914 : decode cL_law 914 = .ok (.ifCond .ne 5, 3) := by decide +kernel
theorem dL_law_917 : decode cL_law 917 = .ok (.iconst 0, 1) := by decide +kernel
theorem dL_law_918 : decode cL_law 918 = .ok (.ireturn, 1) := by decide +kernel
theorem dL_law_919 : decode cL_law 919 = .ok (.goto 17, 3) := by decide +kernel
theorem dL_law_922 : decode cL_law 922 = .ok (.aload_n 1, 1) := by decide +kernel
theorem dL_law_923 : decode cL_law 923 = .ok (.invokevirtual 115, 3) := by decide +kernel
theorem dL_law_926 : decode cL_law 926 = .ok (.aload_n 2, 1) := by decide +kernel
theorem dL_law_927 : decode cL_law 927 = .ok (.invokevirtual 119, 3) := by decide +kernel
theorem dL_law_930 : decode cL_law 930 = .ok (.lcmp, 1) := by decide +kernel
theorem dL_law_931 : decode cL_law 931 = .ok (.ifCond .eq 5, 3) := by decide +kernel
theorem dL_law_934 : decode cL_law 934 = .ok (.iconst 0, 1) := by decide +kernel
theorem dL_law_935 : decode cL_law 935 = .ok (.ireturn, 1) := by decide +kernel
theorem dL_law_936 : decode cL_law 936 = .ok (.iinc 4 3, 3) := by decide +kernel
theorem dL_law_939 : decode cL_law 939 = .ok (.goto (-916), 3) := by decide +kernel
theorem dL_law_942 : decode cL_law 942 = .ok (.iconst 1, 1) := by decide +kernel
theorem dL_law_943 : decode cL_law 943 = .ok (.ireturn, 1) := by decide +kernel
end
section
/-! ABSTRACT OPERATIONS: numbers are whole (Int), an object is its int fields and its int arrays by field number; an operation says what must hold so that P holds of what follows. -/
abbrev AV : Type := Int ⊕ (Int64 ⊕ (UInt64 ⊕ Nat))
def vI (a : Int) : AV := .inl a
def vL (x : Int64) : AV := .inr (.inl x)
def vD (x : UInt64) : AV := .inr (.inr (.inl x))
def vR (k : Nat) : AV := .inr (.inr (.inr k))
abbrev ST : Type := (Nat → Int) × (Nat → Nat → Int) × Option (Nat × (Nat → Int)) × Nat × Nat
def fF (S : ST) (k : Nat) : Int := S.1 k
def gA (S : ST) (k i : Nat) : Int := S.2.1 k i
def pF (S : ST) (k : Nat) (v : Int) : ST := (fun j => if j = k then v else S.1 j, S.2)
def pA (S : ST) (k i : Nat) (v : Int) : ST := (S.1, fun k' i' => if k' = k ∧ i' = i then v else S.2.1 k' i', S.2.2)
abbrev LV : Type := List (Option AV)
abbrev PT : Type := Nat → LV → List AV → ST → Prop
abbrev AI : Type := LV → List AV → ST → PT → Prop
abbrev rng (a : Int) : Prop := -2147483648 ≤ a ∧ a < 2147483648
def lget (lv : LV) (i : Nat) : Option AV := (lv[i]?).getD none
def lset (lv : LV) (i : Nat) (v : AV) : LV := lv.set i (some v)
def bot1 {α : Type} : α → ST → Prop := fun _ _ => False
/-! the table of a method, and what it runs to: the least P that its operations keep -/
def Mono (a : AI) : Prop := ∀ (P P' : PT), (∀ pc lv st S, P pc lv st S → P' pc lv st S) → ∀ lv st S, a lv st S P → a lv st S P'
def fls : AI := fun _ _ _ _ => False
def tab : List (Nat × AI) → Nat → AI
  | [], _ => fls
  | (k, a) :: r, pc => if pc = k then a else tab r pc
def RR (T : List (Nat × AI)) : PT := fun pc lv st S => ∀ P : PT, (∀ pc lv st S, tab T pc lv st S P → P pc lv st S) → P pc lv st S
theorem m_fls : Mono fls := fun _ _ _ _ _ _ h => h
theorem al {α : Type} {p : α → Prop} {e : α} {l : List α} (h : p e) (t : ∀ x ∈ l, p x) : ∀ x ∈ e :: l, p x := by
  intro x hx
  rcases List.mem_cons.mp hx with rfl | hx
  · exact h
  · exact t x hx
theorem an {α : Type} {p : α → Prop} : ∀ x ∈ ([] : List α), p x := fun _ h => by cases h
theorem tab_mono {T : List (Nat × AI)} (h : ∀ e ∈ T, Mono e.2) (pc : Nat) : Mono (tab T pc) := by
  induction T with
  | nil => exact m_fls
  | cons e r ih =>
    obtain ⟨k, a⟩ := e
    unfold tab
    by_cases hk : pc = k
    · rw [if_pos hk]; exact h (k, a) List.mem_cons_self
    · rw [if_neg hk]; exact ih (fun e he => h e (List.mem_cons_of_mem _ he))
theorem tab_closed {T : List (Nat × AI)} {P : PT} (h : ∀ e ∈ T, ∀ lv st S, e.2 lv st S P → P e.1 lv st S) : ∀ pc lv st S, tab T pc lv st S P → P pc lv st S := by
  induction T with
  | nil => intro pc lv st S q; exact q.elim
  | cons e r ih =>
    obtain ⟨k, a⟩ := e
    intro pc lv st S q
    unfold tab at q
    by_cases hk : pc = k
    · rw [if_pos hk] at q; subst hk; exact h (pc, a) List.mem_cons_self lv st S q
    · rw [if_neg hk] at q; exact ih (fun e he => h e (List.mem_cons_of_mem _ he)) pc lv st S q
theorem RR_closed {T : List (Nat × AI)} (h : ∀ e ∈ T, Mono e.2) : ∀ pc lv st S, tab T pc lv st S (RR T) → RR T pc lv st S :=
  fun pc lv st S q P hP => hP pc lv st S (tab_mono h pc _ _ (fun _ _ _ _ r => r P hP) lv st S q)
theorem RR_fix {T : List (Nat × AI)} (h : ∀ e ∈ T, Mono e.2) (pc : Nat) (lv : LV) (st : List AV) (S : ST) : RR T pc lv st S = tab T pc lv st S (RR T) := by
  refine propext ⟨fun q => q (fun pc lv st S => tab T pc lv st S (RR T)) (fun pc lv st S r => ?_), RR_closed h pc lv st S⟩
  exact tab_mono h pc _ _ (fun _ _ _ _ z => RR_closed h _ _ _ _ z) lv st S r
/-- one row of a table, as an equation -/
theorem RR_at {T : List (Nat × AI)} (h : ∀ e ∈ T, Mono e.2) {pc : Nat} {a : AI} (ha : tab T pc = a) (lv : LV) (st : List AV) (S : ST) : RR T pc lv st S = a lv st S (RR T) := by
  rw [RR_fix h, ha]
/-! operations -/
def i_const (v : Int) (n : Nat) : AI := fun lv st S P => P n lv (vI v :: st) S
def i_lconst (v : Int64) (n : Nat) : AI := fun lv st S P => P n lv (vL v :: st) S
def i_dconst (v : UInt64) (n : Nat) : AI := fun lv st S P => P n lv (vD v :: st) S
def k_iload (n : Nat) (lv : LV) (st : List AV) (S : ST) (P : PT) : Option AV → Prop
  | some (.inl a) => P n lv (vI a :: st) S
  | _ => False
def i_iload (i n : Nat) : AI := fun lv st S P => k_iload n lv st S P (lget lv i)
def k_aload (n : Nat) (lv : LV) (st : List AV) (S : ST) (P : PT) : Option AV → Prop
  | some (.inr (.inr (.inr k))) => P n lv (vR k :: st) S
  | _ => False
def i_aload (i n : Nat) : AI := fun lv st S P => k_aload n lv st S P (lget lv i)
def k_lload (n : Nat) (lv : LV) (st : List AV) (S : ST) (P : PT) : Option AV → Prop
  | some (.inr (.inl x)) => P n lv (vL x :: st) S
  | _ => False
def i_lload (i n : Nat) : AI := fun lv st S P => k_lload n lv st S P (lget lv i)
def k_iinc (i : Nat) (d : Int) (n : Nat) (lv : LV) (st : List AV) (S : ST) (P : PT) : Option AV → Prop
  | some (.inl a) => P n (lset lv i (vI (a + d))) st S
  | _ => False
/-- no long or double stands just below the place i -/
def ok1 : Option AV → Prop
  | some (.inr (.inl _)) => False
  | some (.inr (.inr (.inl _))) => False
  | _ => True
def lok (lv : LV) : Nat → Prop
  | 0 => True
  | i + 1 => ok1 (lget lv i)
def lset2 (lv : LV) (i : Nat) (v : AV) : LV := (lv.set i (some v)).set (i + 1) none
def i_iinc (i : Nat) (d : Int) (n : Nat) : AI := fun lv st S P => k_iinc i d n lv st S P (lget lv i)
def i_istore (i n : Nat) : AI := fun lv st S P => match st with
  | .inl a :: r => lok lv i ∧ P n (lset lv i (vI a)) r S
  | _ => False
def i_astore (i n : Nat) : AI := fun lv st S P => match st with
  | .inr (.inr (.inr k)) :: r => lok lv i ∧ P n (lset lv i (vR k)) r S
  | _ => False
def i_lstore (i n : Nat) : AI := fun lv st S P => match st with
  | .inr (.inl x) :: r => lok lv i ∧ P n (lset2 lv i (vL x)) r S
  | _ => False
def i_dup (n : Nat) : AI := fun lv st S P => match st with
  | .inl a :: r => P n lv (vI a :: vI a :: r) S
  | .inr (.inr (.inr k)) :: r => P n lv (vR k :: vR k :: r) S
  | _ => False
def i_dup2 (n : Nat) : AI := fun lv st S P => match st with
  | .inl a :: .inr (.inr (.inr k)) :: r => P n lv (vI a :: vR k :: vI a :: vR k :: r) S
  | _ => False
def i_iadd (n : Nat) : AI := fun lv st S P => match st with
  | .inl b :: .inl a :: r => P n lv (vI (a + b) :: r) S
  | _ => False
def i_isub (n : Nat) : AI := fun lv st S P => match st with
  | .inl b :: .inl a :: r => P n lv (vI (a - b) :: r) S
  | _ => False
def i_imul (n : Nat) : AI := fun lv st S P => match st with
  | .inl b :: .inl a :: r => P n lv (vI (a * b) :: r) S
  | _ => False
def i_idiv (n : Nat) : AI := fun lv st S P => match st with
  | .inl b :: .inl a :: r => ((0 ≤ a ∧ a < 2147483648) ∧ 0 < b ∧ b < 2147483648) ∧ P n lv (vI (a / b) :: r) S
  | _ => False
def i_irem (n : Nat) : AI := fun lv st S P => match st with
  | .inl b :: .inl a :: r => ((0 ≤ a ∧ a < 2147483648) ∧ 0 < b ∧ b < 2147483648) ∧ P n lv (vI (a % b) :: r) S
  | _ => False
def i_ladd (n : Nat) : AI := fun lv st S P => match st with
  | .inr (.inl b) :: .inr (.inl a) :: r => P n lv (vL (a + b) :: r) S
  | _ => False
def i_lmul (n : Nat) : AI := fun lv st S P => match st with
  | .inr (.inl b) :: .inr (.inl a) :: r => P n lv (vL (a * b) :: r) S
  | _ => False
def iI (a : Int) : Int32 := Int32.ofInt a
def i_i2l (n : Nat) : AI := fun lv st S P => match st with
  | .inl a :: r => P n lv (vL (iI a).toInt64 :: r) S
  | _ => False
def i_i2d (n : Nat) : AI := fun lv st S P => match st with
  | .inl a :: r => P n lv (vD (FP.i2d (iI a)) :: r) S
  | _ => False
def i_ddiv (n : Nat) : AI := fun lv st S P => match st with
  | .inr (.inr (.inl b)) :: .inr (.inr (.inl a)) :: r => vf_n64 (FP.ddiv a b) ∧ P n lv (vD (FP.ddiv a b) :: r) S
  | _ => False
/-- compare two ints: what is asked of them, where it goes on if so, if not -/
def i_icmp (f : Int → Int → Prop) (t n : Nat) : AI := fun lv st S P => match st with
  | .inl b :: .inl a :: r => (rng a ∧ rng b) ∧ (f a b → P t lv r S) ∧ (¬ f a b → P n lv r S)
  | _ => False
def i_if (f : Int → Prop) (t n : Nat) : AI := fun lv st S P => match st with
  | .inl a :: r => rng a ∧ (f a → P t lv r S) ∧ (¬ f a → P n lv r S)
  | _ => False
def i_goto (t : Nat) : AI := fun lv st S P => P t lv st S
def tsw (P : PT) (lv : LV) (r : List AV) (S : ST) (a : Int) (d : Nat) : List (Int × Nat) → Prop
  | [] => P d lv r S
  | (k, t) :: q => (a = k → P t lv r S) ∧ (a ≠ k → tsw P lv r S a d q)
def i_switch (ts : List (Int × Nat)) (d : Nat) : AI := fun lv st S P => match st with
  | .inl a :: r => rng a ∧ tsw P lv r S a d ts
  | _ => False
def i_getI (k n : Nat) : AI := fun lv st S P => match st with
  | .inr (.inr (.inr 0)) :: r => P n lv (vI (fF S k) :: r) S
  | _ => False
def i_getA (k n : Nat) : AI := fun lv st S P => match st with
  | .inr (.inr (.inr 0)) :: r => P n lv (vR k :: r) S
  | _ => False
def i_putI (k n : Nat) : AI := fun lv st S P => match st with
  | .inl v :: .inr (.inr (.inr 0)) :: r => P n lv r (pF S k v)
  | _ => False
def i_iald (ln : Nat → Nat) (n : Nat) : AI := fun lv st S P => match st with
  | .inl i :: .inr (.inr (.inr k)) :: r => (0 ≤ i ∧ i < ln k) ∧ P n lv (vI (gA S k i.toNat) :: r) S
  | _ => False
def i_iast (ln : Nat → Nat) (n : Nat) : AI := fun lv st S P => match st with
  | .inl v :: .inl i :: .inr (.inr (.inr k)) :: r => (0 ≤ i ∧ i < ln k) ∧ P n lv r (pA S k i.toNat v)
  | _ => False
/-- a row of its own, made by the method (one at most): number 99 -/
def tput (S : ST) (i : Nat) (v : Int) : ST := (S.1, S.2.1, S.2.2.1.map (fun q => (q.1, fun j => if j = i then v else q.2 j)), S.2.2.2)
def tnew (S : ST) (n : Nat) : ST := (S.1, S.2.1, some (n, fun _ => 0), S.2.2.2.1 + 1, S.2.2.2.2 + n)
def tget (S : ST) (i : Nat) : Int := match S.2.2.1 with
  | some q => q.2 i
  | none => 0
def tlen (S : ST) : Nat := match S.2.2.1 with
  | some q => q.1
  | none => 0
def i_tnew (w K M n : Nat) : AI := fun lv st S P => match st with
  | [.inl a] => (a = (w : Int) ∧ S.2.2.1 = none ∧ w ≤ 100 ∧ (∀ v ∈ lv, v ≠ some (vR 99)) ∧ S.2.2.2.1 + 1 ≤ K ∧ S.2.2.2.2 + w ≤ M) ∧ P n lv [vR 99] (tnew S w)
  | _ => False
def i_tald (n : Nat) : AI := fun lv st S P => match st with
  | .inl i :: .inr (.inr (.inr 99)) :: r => (0 ≤ i ∧ i < tlen S ∧ tlen S ≤ 100) ∧ P n lv (vI (tget S i.toNat) :: r) S
  | _ => False
def i_tast (n : Nat) : AI := fun lv st S P => match st with
  | .inl v :: .inl i :: .inr (.inr (.inr 99)) :: r => (0 ≤ i ∧ i < tlen S ∧ tlen S ≤ 100) ∧ P n lv r (tput S i.toNat v)
  | _ => False
/-! ends -/
def i_iret (Q : Int → ST → Prop) : AI := fun _ st S _ => match st with
  | [.inl v] => Q v S
  | _ => False
def i_zret (Q : Int → ST → Prop) : AI := fun _ st S _ => match st with
  | [.inl v] => (v = 0 ∨ v = 1) ∧ Q v S
  | _ => False
def i_lret (Q : Int64 → ST → Prop) : AI := fun _ st S _ => match st with
  | [.inr (.inl v)] => Q v S
  | _ => False
def i_dret (Q : UInt64 → ST → Prop) : AI := fun _ st S _ => match st with
  | [.inr (.inr (.inl v))] => Q v S
  | _ => False
def i_vret (Q : ST → Prop) : AI := fun _ st S _ => match st with
  | [] => Q S
  | _ => False
def i_throw (Qx : String → ST → Prop) (E : String) : AI := fun _ st S _ => match st with
  | [] => Qx E S
  | _ => False
/-! calls: n arguments above the receiver (w of them all, the receiver too, taken off the stack); what the callee runs to stands in X -/
abbrev RI : Type := List AV → ST → (Int → ST → Prop) → (String → ST → Prop) → Prop
abbrev RJ : Type := List AV → ST → (Int64 → ST → Prop) → (String → ST → Prop) → Prop
abbrev RD : Type := List AV → ST → (UInt64 → ST → Prop) → (String → ST → Prop) → Prop
abbrev RV : Type := List AV → ST → (ST → Prop) → (String → ST → Prop) → Prop
def nox : String → ST → Prop := fun _ _ => False
/-- the receiver is the object; not much stands below -/
def isR0 : List AV → Prop
  | .inr (.inr (.inr 0)) :: _ => True
  | _ => False
def sh4 : List AV → Prop
  | [] => True
  | [_] => True
  | [_, _] => True
  | [_, _, _] => True
  | [_, _, _, _] => True
  | _ => False
def i_calli (X : RI) (w n : Nat) : AI := fun lv st S P => (isR0 (st.take w).reverse ∧ w ≤ st.length) ∧ sh4 (st.drop w) ∧ ∃ Q, X (st.take w).reverse S Q nox ∧ ∀ r S', Q r S' → P n lv (vI r :: st.drop w) S'
def i_calll (X : RJ) (w n : Nat) : AI := fun lv st S P => (isR0 (st.take w).reverse ∧ w ≤ st.length) ∧ sh4 (st.drop w) ∧ ∃ Q, X (st.take w).reverse S Q nox ∧ ∀ r S', Q r S' → P n lv (vL r :: st.drop w) S'
def i_callv (X : RV) (w n : Nat) : AI := fun lv st S P => (isR0 (st.take w).reverse ∧ w ≤ st.length) ∧ sh4 (st.drop w) ∧ ∃ Q, X (st.take w).reverse S Q nox ∧ ∀ S', Q S' → P n lv (st.drop w) S'
/-- .. of a static one -/
def i_scalli (X : RI) (w n : Nat) : AI := fun lv st S P => w ≤ st.length ∧ sh4 (st.drop w) ∧ ∃ Q, X (st.take w).reverse S Q nox ∧ ∀ r S', Q r S' → P n lv (vI r :: st.drop w) S'
/-- .. of a method that may throw: it either returns, or throws -/
def i_xcalli (X : RI) (Qx : String → ST → Prop) (w n : Nat) : AI := fun lv st S P => (isR0 (st.take w).reverse ∧ w ≤ st.length) ∧ sh4 (st.drop w) ∧ ((∃ Q, X (st.take w).reverse S Q nox ∧ ∀ r S', Q r S' → P n lv (vI r :: st.drop w) S') ∨ (∃ Q, X (st.take w).reverse S (fun _ _ => False) Q ∧ ∀ E S', Q E S' → Qx E S'))
def i_xcallv (X : RV) (Qx : String → ST → Prop) (w n : Nat) : AI := fun lv st S P => (isR0 (st.take w).reverse ∧ w ≤ st.length) ∧ sh4 (st.drop w) ∧ ((∃ Q, X (st.take w).reverse S Q nox ∧ ∀ S', Q S' → P n lv (st.drop w) S') ∨ (∃ Q, X (st.take w).reverse S (fun _ => False) Q ∧ ∀ E S', Q E S' → Qx E S'))
/-- .. of a method that makes rows: k of them, of m places -/
def cut0 (S : ST) : ST := (S.1, S.2.1, none, 0, 0)
def glue (S S' : ST) (k m : Nat) : ST := (S'.1, S'.2.1, none, S.2.2.2.1 + k, S.2.2.2.2 + m)
def i_acalli (X : RI) (k m K M w n : Nat) : AI := fun lv st S P => (isR0 (st.take w).reverse ∧ w ≤ st.length) ∧ sh4 (st.drop w) ∧ (S.2.2.1 = none ∧ S.2.2.2.1 + k ≤ K ∧ S.2.2.2.2 + m ≤ M) ∧ ∃ Q, X (st.take w).reverse (cut0 S) Q nox ∧ ∀ r S', Q r S' → P n lv (vI r :: st.drop w) (glue S S' k m)
/-! every operation keeps the order of P -/
theorem m_const (v : Int) (n : Nat) : Mono (i_const v n) := fun _ _ h _ _ _ q => h _ _ _ _ q
theorem m_lconst (v : Int64) (n : Nat) : Mono (i_lconst v n) := fun _ _ h _ _ _ q => h _ _ _ _ q
theorem m_dconst (v : UInt64) (n : Nat) : Mono (i_dconst v n) := fun _ _ h _ _ _ q => h _ _ _ _ q
theorem m_goto (t : Nat) : Mono (i_goto t) := fun _ _ h _ _ _ q => h _ _ _ _ q
theorem m_iload (i n : Nat) : Mono (i_iload i n) := by
  intro P P' h lv st S q
  unfold i_iload at q ⊢
  generalize lget lv i = o at q ⊢
  unfold k_iload at q ⊢
  split at q
  · exact h _ _ _ _ q
  · exact q.elim
theorem m_aload (i n : Nat) : Mono (i_aload i n) := by
  intro P P' h lv st S q
  unfold i_aload at q ⊢
  generalize lget lv i = o at q ⊢
  unfold k_aload at q ⊢
  split at q
  · exact h _ _ _ _ q
  · exact q.elim
theorem m_lload (i n : Nat) : Mono (i_lload i n) := by
  intro P P' h lv st S q
  unfold i_lload at q ⊢
  generalize lget lv i = o at q ⊢
  unfold k_lload at q ⊢
  split at q
  · exact h _ _ _ _ q
  · exact q.elim
theorem m_iinc (i : Nat) (d : Int) (n : Nat) : Mono (i_iinc i d n) := by
  intro P P' h lv st S q
  unfold i_iinc at q ⊢
  generalize lget lv i = o at q ⊢
  unfold k_iinc at q ⊢
  split at q
  · exact h _ _ _ _ q
  · exact q.elim
theorem m_istore (i n : Nat) : Mono (i_istore i n) := by
  intro P P' h lv st S q
  unfold i_istore at q ⊢
  split at q <;> first | exact h _ _ _ _ q | exact ⟨q.1, h _ _ _ _ q.2⟩ | exact ⟨q.1, fun z => h _ _ _ _ (q.2.1 z), fun z => h _ _ _ _ (q.2.2 z)⟩ | exact q | exact q.elim
theorem m_astore (i n : Nat) : Mono (i_astore i n) := by
  intro P P' h lv st S q
  unfold i_astore at q ⊢
  split at q <;> first | exact h _ _ _ _ q | exact ⟨q.1, h _ _ _ _ q.2⟩ | exact ⟨q.1, fun z => h _ _ _ _ (q.2.1 z), fun z => h _ _ _ _ (q.2.2 z)⟩ | exact q | exact q.elim
theorem m_lstore (i n : Nat) : Mono (i_lstore i n) := by
  intro P P' h lv st S q
  unfold i_lstore at q ⊢
  split at q <;> first | exact h _ _ _ _ q | exact ⟨q.1, h _ _ _ _ q.2⟩ | exact ⟨q.1, fun z => h _ _ _ _ (q.2.1 z), fun z => h _ _ _ _ (q.2.2 z)⟩ | exact q | exact q.elim
theorem m_dup (n : Nat) : Mono (i_dup n) := by
  intro P P' h lv st S q
  unfold i_dup at q ⊢
  split at q <;> first | exact h _ _ _ _ q | exact ⟨q.1, h _ _ _ _ q.2⟩ | exact ⟨q.1, fun z => h _ _ _ _ (q.2.1 z), fun z => h _ _ _ _ (q.2.2 z)⟩ | exact q | exact q.elim
theorem m_dup2 (n : Nat) : Mono (i_dup2 n) := by
  intro P P' h lv st S q
  unfold i_dup2 at q ⊢
  split at q <;> first | exact h _ _ _ _ q | exact ⟨q.1, h _ _ _ _ q.2⟩ | exact ⟨q.1, fun z => h _ _ _ _ (q.2.1 z), fun z => h _ _ _ _ (q.2.2 z)⟩ | exact q | exact q.elim
theorem m_iadd (n : Nat) : Mono (i_iadd n) := by
  intro P P' h lv st S q
  unfold i_iadd at q ⊢
  split at q <;> first | exact h _ _ _ _ q | exact ⟨q.1, h _ _ _ _ q.2⟩ | exact ⟨q.1, fun z => h _ _ _ _ (q.2.1 z), fun z => h _ _ _ _ (q.2.2 z)⟩ | exact q | exact q.elim
theorem m_isub (n : Nat) : Mono (i_isub n) := by
  intro P P' h lv st S q
  unfold i_isub at q ⊢
  split at q <;> first | exact h _ _ _ _ q | exact ⟨q.1, h _ _ _ _ q.2⟩ | exact ⟨q.1, fun z => h _ _ _ _ (q.2.1 z), fun z => h _ _ _ _ (q.2.2 z)⟩ | exact q | exact q.elim
theorem m_imul (n : Nat) : Mono (i_imul n) := by
  intro P P' h lv st S q
  unfold i_imul at q ⊢
  split at q <;> first | exact h _ _ _ _ q | exact ⟨q.1, h _ _ _ _ q.2⟩ | exact ⟨q.1, fun z => h _ _ _ _ (q.2.1 z), fun z => h _ _ _ _ (q.2.2 z)⟩ | exact q | exact q.elim
theorem m_idiv (n : Nat) : Mono (i_idiv n) := by
  intro P P' h lv st S q
  unfold i_idiv at q ⊢
  split at q <;> first | exact h _ _ _ _ q | exact ⟨q.1, h _ _ _ _ q.2⟩ | exact ⟨q.1, fun z => h _ _ _ _ (q.2.1 z), fun z => h _ _ _ _ (q.2.2 z)⟩ | exact q | exact q.elim
theorem m_irem (n : Nat) : Mono (i_irem n) := by
  intro P P' h lv st S q
  unfold i_irem at q ⊢
  split at q <;> first | exact h _ _ _ _ q | exact ⟨q.1, h _ _ _ _ q.2⟩ | exact ⟨q.1, fun z => h _ _ _ _ (q.2.1 z), fun z => h _ _ _ _ (q.2.2 z)⟩ | exact q | exact q.elim
theorem m_ladd (n : Nat) : Mono (i_ladd n) := by
  intro P P' h lv st S q
  unfold i_ladd at q ⊢
  split at q <;> first | exact h _ _ _ _ q | exact ⟨q.1, h _ _ _ _ q.2⟩ | exact ⟨q.1, fun z => h _ _ _ _ (q.2.1 z), fun z => h _ _ _ _ (q.2.2 z)⟩ | exact q | exact q.elim
theorem m_lmul (n : Nat) : Mono (i_lmul n) := by
  intro P P' h lv st S q
  unfold i_lmul at q ⊢
  split at q <;> first | exact h _ _ _ _ q | exact ⟨q.1, h _ _ _ _ q.2⟩ | exact ⟨q.1, fun z => h _ _ _ _ (q.2.1 z), fun z => h _ _ _ _ (q.2.2 z)⟩ | exact q | exact q.elim
theorem m_i2l (n : Nat) : Mono (i_i2l n) := by
  intro P P' h lv st S q
  unfold i_i2l at q ⊢
  split at q <;> first | exact h _ _ _ _ q | exact ⟨q.1, h _ _ _ _ q.2⟩ | exact ⟨q.1, fun z => h _ _ _ _ (q.2.1 z), fun z => h _ _ _ _ (q.2.2 z)⟩ | exact q | exact q.elim
theorem m_i2d (n : Nat) : Mono (i_i2d n) := by
  intro P P' h lv st S q
  unfold i_i2d at q ⊢
  split at q <;> first | exact h _ _ _ _ q | exact ⟨q.1, h _ _ _ _ q.2⟩ | exact ⟨q.1, fun z => h _ _ _ _ (q.2.1 z), fun z => h _ _ _ _ (q.2.2 z)⟩ | exact q | exact q.elim
theorem m_ddiv (n : Nat) : Mono (i_ddiv n) := by
  intro P P' h lv st S q
  unfold i_ddiv at q ⊢
  split at q <;> first | exact h _ _ _ _ q | exact ⟨q.1, h _ _ _ _ q.2⟩ | exact ⟨q.1, fun z => h _ _ _ _ (q.2.1 z), fun z => h _ _ _ _ (q.2.2 z)⟩ | exact q | exact q.elim
theorem m_tald (n : Nat) : Mono (i_tald n) := by
  intro P P' h lv st S q
  unfold i_tald at q ⊢
  split at q <;> first | exact h _ _ _ _ q | exact ⟨q.1, h _ _ _ _ q.2⟩ | exact ⟨q.1, fun z => h _ _ _ _ (q.2.1 z), fun z => h _ _ _ _ (q.2.2 z)⟩ | exact q | exact q.elim
theorem m_tast (n : Nat) : Mono (i_tast n) := by
  intro P P' h lv st S q
  unfold i_tast at q ⊢
  split at q <;> first | exact h _ _ _ _ q | exact ⟨q.1, h _ _ _ _ q.2⟩ | exact ⟨q.1, fun z => h _ _ _ _ (q.2.1 z), fun z => h _ _ _ _ (q.2.2 z)⟩ | exact q | exact q.elim
theorem m_icmp (f : Int → Int → Prop) (t n : Nat) : Mono (i_icmp f t n) := by
  intro P P' h lv st S q
  unfold i_icmp at q ⊢
  split at q <;> first | exact h _ _ _ _ q | exact ⟨q.1, h _ _ _ _ q.2⟩ | exact ⟨q.1, fun z => h _ _ _ _ (q.2.1 z), fun z => h _ _ _ _ (q.2.2 z)⟩ | exact q | exact q.elim
theorem m_if (f : Int → Prop) (t n : Nat) : Mono (i_if f t n) := by
  intro P P' h lv st S q
  unfold i_if at q ⊢
  split at q <;> first | exact h _ _ _ _ q | exact ⟨q.1, h _ _ _ _ q.2⟩ | exact ⟨q.1, fun z => h _ _ _ _ (q.2.1 z), fun z => h _ _ _ _ (q.2.2 z)⟩ | exact q | exact q.elim
theorem m_getI (k n : Nat) : Mono (i_getI k n) := by
  intro P P' h lv st S q
  unfold i_getI at q ⊢
  split at q <;> first | exact h _ _ _ _ q | exact ⟨q.1, h _ _ _ _ q.2⟩ | exact ⟨q.1, fun z => h _ _ _ _ (q.2.1 z), fun z => h _ _ _ _ (q.2.2 z)⟩ | exact q | exact q.elim
theorem m_getA (k n : Nat) : Mono (i_getA k n) := by
  intro P P' h lv st S q
  unfold i_getA at q ⊢
  split at q <;> first | exact h _ _ _ _ q | exact ⟨q.1, h _ _ _ _ q.2⟩ | exact ⟨q.1, fun z => h _ _ _ _ (q.2.1 z), fun z => h _ _ _ _ (q.2.2 z)⟩ | exact q | exact q.elim
theorem m_putI (k n : Nat) : Mono (i_putI k n) := by
  intro P P' h lv st S q
  unfold i_putI at q ⊢
  split at q <;> first | exact h _ _ _ _ q | exact ⟨q.1, h _ _ _ _ q.2⟩ | exact ⟨q.1, fun z => h _ _ _ _ (q.2.1 z), fun z => h _ _ _ _ (q.2.2 z)⟩ | exact q | exact q.elim
theorem m_iald (ln : Nat → Nat) (n : Nat) : Mono (i_iald ln n) := by
  intro P P' h lv st S q
  unfold i_iald at q ⊢
  split at q <;> first | exact h _ _ _ _ q | exact ⟨q.1, h _ _ _ _ q.2⟩ | exact ⟨q.1, fun z => h _ _ _ _ (q.2.1 z), fun z => h _ _ _ _ (q.2.2 z)⟩ | exact q | exact q.elim
theorem m_iast (ln : Nat → Nat) (n : Nat) : Mono (i_iast ln n) := by
  intro P P' h lv st S q
  unfold i_iast at q ⊢
  split at q <;> first | exact h _ _ _ _ q | exact ⟨q.1, h _ _ _ _ q.2⟩ | exact ⟨q.1, fun z => h _ _ _ _ (q.2.1 z), fun z => h _ _ _ _ (q.2.2 z)⟩ | exact q | exact q.elim
theorem m_tnew (w K M n : Nat) : Mono (i_tnew w K M n) := by
  intro P P' h lv st S q
  unfold i_tnew at q ⊢
  split at q <;> first | exact h _ _ _ _ q | exact ⟨q.1, h _ _ _ _ q.2⟩ | exact ⟨q.1, fun z => h _ _ _ _ (q.2.1 z), fun z => h _ _ _ _ (q.2.2 z)⟩ | exact q | exact q.elim
theorem m_iret (Q : Int → ST → Prop) : Mono (i_iret Q) := by
  intro P P' h lv st S q
  unfold i_iret at q ⊢
  split at q <;> first | exact h _ _ _ _ q | exact ⟨q.1, h _ _ _ _ q.2⟩ | exact ⟨q.1, fun z => h _ _ _ _ (q.2.1 z), fun z => h _ _ _ _ (q.2.2 z)⟩ | exact q | exact q.elim
theorem m_zret (Q : Int → ST → Prop) : Mono (i_zret Q) := by
  intro P P' h lv st S q
  unfold i_zret at q ⊢
  split at q <;> first | exact h _ _ _ _ q | exact ⟨q.1, h _ _ _ _ q.2⟩ | exact ⟨q.1, fun z => h _ _ _ _ (q.2.1 z), fun z => h _ _ _ _ (q.2.2 z)⟩ | exact q | exact q.elim
theorem m_lret (Q : Int64 → ST → Prop) : Mono (i_lret Q) := by
  intro P P' h lv st S q
  unfold i_lret at q ⊢
  split at q <;> first | exact h _ _ _ _ q | exact ⟨q.1, h _ _ _ _ q.2⟩ | exact ⟨q.1, fun z => h _ _ _ _ (q.2.1 z), fun z => h _ _ _ _ (q.2.2 z)⟩ | exact q | exact q.elim
theorem m_dret (Q : UInt64 → ST → Prop) : Mono (i_dret Q) := by
  intro P P' h lv st S q
  unfold i_dret at q ⊢
  split at q <;> first | exact h _ _ _ _ q | exact ⟨q.1, h _ _ _ _ q.2⟩ | exact ⟨q.1, fun z => h _ _ _ _ (q.2.1 z), fun z => h _ _ _ _ (q.2.2 z)⟩ | exact q | exact q.elim
theorem m_vret (Q : ST → Prop) : Mono (i_vret Q) := by
  intro P P' h lv st S q
  unfold i_vret at q ⊢
  split at q <;> first | exact h _ _ _ _ q | exact ⟨q.1, h _ _ _ _ q.2⟩ | exact ⟨q.1, fun z => h _ _ _ _ (q.2.1 z), fun z => h _ _ _ _ (q.2.2 z)⟩ | exact q | exact q.elim
theorem tsw_mono {P P' : PT} (h : ∀ pc lv st S, P pc lv st S → P' pc lv st S) (lv : LV) (r : List AV) (S : ST) (a : Int) (d : Nat) : ∀ ts, tsw P lv r S a d ts → tsw P' lv r S a d ts
  | [], q => h _ _ _ _ q
  | (_, _) :: ts, q => ⟨fun z => h _ _ _ _ (q.1 z), fun z => tsw_mono h lv r S a d ts (q.2 z)⟩
theorem m_switch (ts : List (Int × Nat)) (d : Nat) : Mono (i_switch ts d) := by
  intro P P' h lv st S q
  unfold i_switch at q ⊢
  split at q
  · exact ⟨q.1, tsw_mono h _ _ _ _ _ _ q.2⟩
  · exact q.elim
theorem m_throw (Qx : String → ST → Prop) (E : String) : Mono (i_throw Qx E) := fun _ _ _ _ _ _ q => q
theorem m_calli (X : RI) (w n : Nat) : Mono (i_calli X w n) := fun _ _ h _ _ _ ⟨g1, g2, Q, a, b⟩ => ⟨g1, g2, Q, a, fun r S' z => h _ _ _ _ (b r S' z)⟩
theorem m_scalli (X : RI) (w n : Nat) : Mono (i_scalli X w n) := fun _ _ h _ _ _ ⟨g1, g2, Q, a, b⟩ => ⟨g1, g2, Q, a, fun r S' z => h _ _ _ _ (b r S' z)⟩
theorem m_calll (X : RJ) (w n : Nat) : Mono (i_calll X w n) := fun _ _ h _ _ _ ⟨g1, g2, Q, a, b⟩ => ⟨g1, g2, Q, a, fun r S' z => h _ _ _ _ (b r S' z)⟩
theorem m_callv (X : RV) (w n : Nat) : Mono (i_callv X w n) := fun _ _ h _ _ _ ⟨g1, g2, Q, a, b⟩ => ⟨g1, g2, Q, a, fun S' z => h _ _ _ _ (b S' z)⟩
theorem m_xcalli (X : RI) (Qx : String → ST → Prop) (w n : Nat) : Mono (i_xcalli X Qx w n) := fun _ _ h _ _ _ ⟨g1, g2, q⟩ => ⟨g1, g2, q.elim (fun ⟨Q, a, b⟩ => Or.inl ⟨Q, a, fun r S' z => h _ _ _ _ (b r S' z)⟩) (fun z => Or.inr z)⟩
theorem m_xcallv (X : RV) (Qx : String → ST → Prop) (w n : Nat) : Mono (i_xcallv X Qx w n) := fun _ _ h _ _ _ ⟨g1, g2, q⟩ => ⟨g1, g2, q.elim (fun ⟨Q, a, b⟩ => Or.inl ⟨Q, a, fun S' z => h _ _ _ _ (b S' z)⟩) (fun z => Or.inr z)⟩
theorem m_acalli (X : RI) (k m K M w n : Nat) : Mono (i_acalli X k m K M w n) := fun _ _ h _ _ _ ⟨g1, g2, g, Q, a, b⟩ => ⟨g1, g2, g, Q, a, fun r S' z => h _ _ _ _ (b r S' z)⟩
/-! the operations as equations, for the evaluator -/
theorem e_const {v : Int} {n : Nat} {lv : LV} {st : List AV} {S : ST} {P : PT} : i_const v n lv st S P = (P n lv (vI v :: st) S) := rfl
theorem e_lconst {v : Int64} {n : Nat} {lv : LV} {st : List AV} {S : ST} {P : PT} : i_lconst v n lv st S P = (P n lv (vL v :: st) S) := rfl
theorem e_dconst {v : UInt64} {n : Nat} {lv : LV} {st : List AV} {S : ST} {P : PT} : i_dconst v n lv st S P = (P n lv (vD v :: st) S) := rfl
theorem e_iload {i n : Nat} {lv : LV} {st : List AV} {S : ST} {P : PT} : i_iload i n lv st S P = (k_iload n lv st S P (lget lv i)) := rfl
theorem e_kiload {n : Nat} {a : Int} {lv : LV} {st : List AV} {S : ST} {P : PT} : k_iload n lv st S P (some (vI a)) = (P n lv (vI a :: st) S) := rfl
theorem e_aload {i n : Nat} {lv : LV} {st : List AV} {S : ST} {P : PT} : i_aload i n lv st S P = (k_aload n lv st S P (lget lv i)) := rfl
theorem e_kaload {n : Nat} {a : Nat} {lv : LV} {st : List AV} {S : ST} {P : PT} : k_aload n lv st S P (some (vR a)) = (P n lv (vR a :: st) S) := rfl
theorem e_lload {i n : Nat} {lv : LV} {st : List AV} {S : ST} {P : PT} : i_lload i n lv st S P = (k_lload n lv st S P (lget lv i)) := rfl
theorem e_klload {n : Nat} {a : Int64} {lv : LV} {st : List AV} {S : ST} {P : PT} : k_lload n lv st S P (some (vL a)) = (P n lv (vL a :: st) S) := rfl
theorem e_iinc {i n : Nat} {d : Int} {lv : LV} {st : List AV} {S : ST} {P : PT} : i_iinc i d n lv st S P = (k_iinc i d n lv st S P (lget lv i)) := rfl
theorem e_kiinc {i n : Nat} {a d : Int} {lv : LV} {st : List AV} {S : ST} {P : PT} : k_iinc i d n lv st S P (some (vI a)) = (P n (lset lv i (vI (a + d))) st S) := rfl
theorem e_istore {i n : Nat} {a : Int} {lv : LV} {st : List AV} {S : ST} {P : PT} : i_istore i n lv (vI a :: st) S P = (lok lv i ∧ P n (lset lv i (vI a)) st S) := rfl
theorem e_astore {i n : Nat} {a : Nat} {lv : LV} {st : List AV} {S : ST} {P : PT} : i_astore i n lv (vR a :: st) S P = (lok lv i ∧ P n (lset lv i (vR a)) st S) := rfl
theorem e_lstore {i n : Nat} {a : Int64} {lv : LV} {st : List AV} {S : ST} {P : PT} : i_lstore i n lv (vL a :: st) S P = (lok lv i ∧ P n (lset2 lv i (vL a)) st S) := rfl
theorem e_dupI {n : Nat} {a : Int} {lv : LV} {st : List AV} {S : ST} {P : PT} : i_dup n lv (vI a :: st) S P = (P n lv (vI a :: vI a :: st) S) := rfl
theorem e_dupR {n : Nat} {a : Nat} {lv : LV} {st : List AV} {S : ST} {P : PT} : i_dup n lv (vR a :: st) S P = (P n lv (vR a :: vR a :: st) S) := rfl
theorem e_dup2 {n k : Nat} {a : Int} {lv : LV} {st : List AV} {S : ST} {P : PT} : i_dup2 n lv (vI a :: vR k :: st) S P = (P n lv (vI a :: vR k :: vI a :: vR k :: st) S) := rfl
theorem e_iadd {n : Nat} {a b : Int} {lv : LV} {st : List AV} {S : ST} {P : PT} : i_iadd n lv (vI b :: vI a :: st) S P = (P n lv (vI (a + b) :: st) S) := rfl
theorem e_isub {n : Nat} {a b : Int} {lv : LV} {st : List AV} {S : ST} {P : PT} : i_isub n lv (vI b :: vI a :: st) S P = (P n lv (vI (a - b) :: st) S) := rfl
theorem e_imul {n : Nat} {a b : Int} {lv : LV} {st : List AV} {S : ST} {P : PT} : i_imul n lv (vI b :: vI a :: st) S P = (P n lv (vI (a * b) :: st) S) := rfl
theorem e_idiv {n : Nat} {a b : Int} {lv : LV} {st : List AV} {S : ST} {P : PT} : i_idiv n lv (vI b :: vI a :: st) S P = (((0 ≤ a ∧ a < 2147483648) ∧ 0 < b ∧ b < 2147483648) ∧ P n lv (vI (a / b) :: st) S) := rfl
theorem e_irem {n : Nat} {a b : Int} {lv : LV} {st : List AV} {S : ST} {P : PT} : i_irem n lv (vI b :: vI a :: st) S P = (((0 ≤ a ∧ a < 2147483648) ∧ 0 < b ∧ b < 2147483648) ∧ P n lv (vI (a % b) :: st) S) := rfl
theorem e_ladd {n : Nat} {a b : Int64} {lv : LV} {st : List AV} {S : ST} {P : PT} : i_ladd n lv (vL b :: vL a :: st) S P = (P n lv (vL (a + b) :: st) S) := rfl
theorem e_lmul {n : Nat} {a b : Int64} {lv : LV} {st : List AV} {S : ST} {P : PT} : i_lmul n lv (vL b :: vL a :: st) S P = (P n lv (vL (a * b) :: st) S) := rfl
theorem e_i2l {n : Nat} {a : Int} {lv : LV} {st : List AV} {S : ST} {P : PT} : i_i2l n lv (vI a :: st) S P = (P n lv (vL (iI a).toInt64 :: st) S) := rfl
theorem e_i2d {n : Nat} {a : Int} {lv : LV} {st : List AV} {S : ST} {P : PT} : i_i2d n lv (vI a :: st) S P = (P n lv (vD (FP.i2d (iI a)) :: st) S) := rfl
theorem e_ddiv {n : Nat} {a b : UInt64} {lv : LV} {st : List AV} {S : ST} {P : PT} : i_ddiv n lv (vD b :: vD a :: st) S P = (vf_n64 (FP.ddiv a b) ∧ P n lv (vD (FP.ddiv a b) :: st) S) := rfl
theorem e_icmp {f : Int → Int → Prop} {t n : Nat} {a b : Int} {lv : LV} {st : List AV} {S : ST} {P : PT} : i_icmp f t n lv (vI b :: vI a :: st) S P = ((rng a ∧ rng b) ∧ (f a b → P t lv st S) ∧ (¬ f a b → P n lv st S)) := rfl
theorem e_if {f : Int → Prop} {t n : Nat} {a : Int} {lv : LV} {st : List AV} {S : ST} {P : PT} : i_if f t n lv (vI a :: st) S P = (rng a ∧ (f a → P t lv st S) ∧ (¬ f a → P n lv st S)) := rfl
theorem e_goto {t : Nat} {lv : LV} {st : List AV} {S : ST} {P : PT} : i_goto t lv st S P = (P t lv st S) := rfl
theorem e_switch {ts : List (Int × Nat)} {d : Nat} {a : Int} {lv : LV} {st : List AV} {S : ST} {P : PT} : i_switch ts d lv (vI a :: st) S P = (rng a ∧ tsw P lv st S a d ts) := rfl
theorem e_tsw0 {d : Nat} {a : Int} {lv : LV} {st : List AV} {S : ST} {P : PT} : tsw P lv st S a d [] = (P d lv st S) := rfl
theorem e_tsw1 {ts : List (Int × Nat)} {d t : Nat} {a k : Int} {lv : LV} {st : List AV} {S : ST} {P : PT} : tsw P lv st S a d ((k, t) :: ts) = ((a = k → P t lv st S) ∧ (a ≠ k → tsw P lv st S a d ts)) := rfl
theorem e_getI {k n : Nat} {lv : LV} {st : List AV} {S : ST} {P : PT} : i_getI k n lv (vR 0 :: st) S P = (P n lv (vI (fF S k) :: st) S) := rfl
theorem e_getA {k n : Nat} {lv : LV} {st : List AV} {S : ST} {P : PT} : i_getA k n lv (vR 0 :: st) S P = (P n lv (vR k :: st) S) := rfl
theorem e_putI {k n : Nat} {v : Int} {lv : LV} {st : List AV} {S : ST} {P : PT} : i_putI k n lv (vI v :: vR 0 :: st) S P = (P n lv st (pF S k v)) := rfl
theorem e_iald {ln : Nat → Nat} {k n : Nat} {i : Int} {lv : LV} {st : List AV} {S : ST} {P : PT} : i_iald ln n lv (vI i :: vR k :: st) S P = ((0 ≤ i ∧ i < ln k) ∧ P n lv (vI (gA S k i.toNat) :: st) S) := rfl
theorem e_iast {ln : Nat → Nat} {k n : Nat} {i v : Int} {lv : LV} {st : List AV} {S : ST} {P : PT} : i_iast ln n lv (vI v :: vI i :: vR k :: st) S P = ((0 ≤ i ∧ i < ln k) ∧ P n lv st (pA S k i.toNat v)) := rfl
theorem e_tnew {w K M n : Nat} {a : Int} {lv : LV} {S : ST} {P : PT} : i_tnew w K M n lv [vI a] S P = ((a = (w : Int) ∧ S.2.2.1 = none ∧ w ≤ 100 ∧ (∀ v ∈ lv, v ≠ some (vR 99)) ∧ S.2.2.2.1 + 1 ≤ K ∧ S.2.2.2.2 + w ≤ M) ∧ P n lv [vR 99] (tnew S w)) := rfl
theorem e_tald {n : Nat} {i : Int} {lv : LV} {st : List AV} {S : ST} {P : PT} : i_tald n lv (vI i :: vR 99 :: st) S P = ((0 ≤ i ∧ i < tlen S ∧ tlen S ≤ 100) ∧ P n lv (vI (tget S i.toNat) :: st) S) := rfl
theorem e_tast {n : Nat} {i v : Int} {lv : LV} {st : List AV} {S : ST} {P : PT} : i_tast n lv (vI v :: vI i :: vR 99 :: st) S P = ((0 ≤ i ∧ i < tlen S ∧ tlen S ≤ 100) ∧ P n lv st (tput S i.toNat v)) := rfl
theorem e_iret {Q : Int → ST → Prop} {v : Int} {lv : LV} {S : ST} {P : PT} : i_iret Q lv [vI v] S P = (Q v S) := rfl
theorem e_zret {Q : Int → ST → Prop} {v : Int} {lv : LV} {S : ST} {P : PT} : i_zret Q lv [vI v] S P = ((v = 0 ∨ v = 1) ∧ Q v S) := rfl
theorem e_lret {Q : Int64 → ST → Prop} {v : Int64} {lv : LV} {S : ST} {P : PT} : i_lret Q lv [vL v] S P = (Q v S) := rfl
theorem e_dret {Q : UInt64 → ST → Prop} {v : UInt64} {lv : LV} {S : ST} {P : PT} : i_dret Q lv [vD v] S P = (Q v S) := rfl
theorem e_vret {Q : ST → Prop} {lv : LV} {S : ST} {P : PT} : i_vret Q lv [] S P = (Q S) := rfl
theorem e_throw {Qx : String → ST → Prop} {E : String} {lv : LV} {S : ST} {P : PT} : i_throw Qx E lv [] S P = (Qx E S) := rfl
theorem lg0 {a0 : Option AV} {l : LV} : lget (a0 :: l) 0 = (a0) := rfl
theorem ls0 {v : AV} {a0 : Option AV} {l : LV} : lset (a0 :: l) 0 v = (some v :: l) := rfl
theorem lt0 {v : AV} {a0 a1 : Option AV} {l : LV} : lset2 (a0 :: a1 :: l) 0 v = (some v :: none :: l) := rfl
theorem lg1 {a0 a1 : Option AV} {l : LV} : lget (a0 :: a1 :: l) 1 = (a1) := rfl
theorem ls1 {v : AV} {a0 a1 : Option AV} {l : LV} : lset (a0 :: a1 :: l) 1 v = (a0 :: some v :: l) := rfl
theorem lo1 {a0 a1 : Option AV} {l : LV} : lok (a0 :: a1 :: l) 1 = (ok1 a0) := rfl
theorem lt1 {v : AV} {a0 a1 a2 : Option AV} {l : LV} : lset2 (a0 :: a1 :: a2 :: l) 1 v = (a0 :: some v :: none :: l) := rfl
theorem lg2 {a0 a1 a2 : Option AV} {l : LV} : lget (a0 :: a1 :: a2 :: l) 2 = (a2) := rfl
theorem ls2 {v : AV} {a0 a1 a2 : Option AV} {l : LV} : lset (a0 :: a1 :: a2 :: l) 2 v = (a0 :: a1 :: some v :: l) := rfl
theorem lo2 {a0 a1 a2 : Option AV} {l : LV} : lok (a0 :: a1 :: a2 :: l) 2 = (ok1 a1) := rfl
theorem lt2 {v : AV} {a0 a1 a2 a3 : Option AV} {l : LV} : lset2 (a0 :: a1 :: a2 :: a3 :: l) 2 v = (a0 :: a1 :: some v :: none :: l) := rfl
theorem lg3 {a0 a1 a2 a3 : Option AV} {l : LV} : lget (a0 :: a1 :: a2 :: a3 :: l) 3 = (a3) := rfl
theorem ls3 {v : AV} {a0 a1 a2 a3 : Option AV} {l : LV} : lset (a0 :: a1 :: a2 :: a3 :: l) 3 v = (a0 :: a1 :: a2 :: some v :: l) := rfl
theorem lo3 {a0 a1 a2 a3 : Option AV} {l : LV} : lok (a0 :: a1 :: a2 :: a3 :: l) 3 = (ok1 a2) := rfl
theorem lt3 {v : AV} {a0 a1 a2 a3 a4 : Option AV} {l : LV} : lset2 (a0 :: a1 :: a2 :: a3 :: a4 :: l) 3 v = (a0 :: a1 :: a2 :: some v :: none :: l) := rfl
theorem lg4 {a0 a1 a2 a3 a4 : Option AV} {l : LV} : lget (a0 :: a1 :: a2 :: a3 :: a4 :: l) 4 = (a4) := rfl
theorem ls4 {v : AV} {a0 a1 a2 a3 a4 : Option AV} {l : LV} : lset (a0 :: a1 :: a2 :: a3 :: a4 :: l) 4 v = (a0 :: a1 :: a2 :: a3 :: some v :: l) := rfl
theorem lo4 {a0 a1 a2 a3 a4 : Option AV} {l : LV} : lok (a0 :: a1 :: a2 :: a3 :: a4 :: l) 4 = (ok1 a3) := rfl
theorem lt4 {v : AV} {a0 a1 a2 a3 a4 a5 : Option AV} {l : LV} : lset2 (a0 :: a1 :: a2 :: a3 :: a4 :: a5 :: l) 4 v = (a0 :: a1 :: a2 :: a3 :: some v :: none :: l) := rfl
theorem lg5 {a0 a1 a2 a3 a4 a5 : Option AV} {l : LV} : lget (a0 :: a1 :: a2 :: a3 :: a4 :: a5 :: l) 5 = (a5) := rfl
theorem ls5 {v : AV} {a0 a1 a2 a3 a4 a5 : Option AV} {l : LV} : lset (a0 :: a1 :: a2 :: a3 :: a4 :: a5 :: l) 5 v = (a0 :: a1 :: a2 :: a3 :: a4 :: some v :: l) := rfl
theorem lo5 {a0 a1 a2 a3 a4 a5 : Option AV} {l : LV} : lok (a0 :: a1 :: a2 :: a3 :: a4 :: a5 :: l) 5 = (ok1 a4) := rfl
theorem lt5 {v : AV} {a0 a1 a2 a3 a4 a5 a6 : Option AV} {l : LV} : lset2 (a0 :: a1 :: a2 :: a3 :: a4 :: a5 :: a6 :: l) 5 v = (a0 :: a1 :: a2 :: a3 :: a4 :: some v :: none :: l) := rfl
theorem lg6 {a0 a1 a2 a3 a4 a5 a6 : Option AV} {l : LV} : lget (a0 :: a1 :: a2 :: a3 :: a4 :: a5 :: a6 :: l) 6 = (a6) := rfl
theorem ls6 {v : AV} {a0 a1 a2 a3 a4 a5 a6 : Option AV} {l : LV} : lset (a0 :: a1 :: a2 :: a3 :: a4 :: a5 :: a6 :: l) 6 v = (a0 :: a1 :: a2 :: a3 :: a4 :: a5 :: some v :: l) := rfl
theorem lo6 {a0 a1 a2 a3 a4 a5 a6 : Option AV} {l : LV} : lok (a0 :: a1 :: a2 :: a3 :: a4 :: a5 :: a6 :: l) 6 = (ok1 a5) := rfl
theorem lt6 {v : AV} {a0 a1 a2 a3 a4 a5 a6 a7 : Option AV} {l : LV} : lset2 (a0 :: a1 :: a2 :: a3 :: a4 :: a5 :: a6 :: a7 :: l) 6 v = (a0 :: a1 :: a2 :: a3 :: a4 :: a5 :: some v :: none :: l) := rfl
theorem lg7 {a0 a1 a2 a3 a4 a5 a6 a7 : Option AV} {l : LV} : lget (a0 :: a1 :: a2 :: a3 :: a4 :: a5 :: a6 :: a7 :: l) 7 = (a7) := rfl
theorem ls7 {v : AV} {a0 a1 a2 a3 a4 a5 a6 a7 : Option AV} {l : LV} : lset (a0 :: a1 :: a2 :: a3 :: a4 :: a5 :: a6 :: a7 :: l) 7 v = (a0 :: a1 :: a2 :: a3 :: a4 :: a5 :: a6 :: some v :: l) := rfl
theorem lo7 {a0 a1 a2 a3 a4 a5 a6 a7 : Option AV} {l : LV} : lok (a0 :: a1 :: a2 :: a3 :: a4 :: a5 :: a6 :: a7 :: l) 7 = (ok1 a6) := rfl
theorem lt7 {v : AV} {a0 a1 a2 a3 a4 a5 a6 a7 a8 : Option AV} {l : LV} : lset2 (a0 :: a1 :: a2 :: a3 :: a4 :: a5 :: a6 :: a7 :: a8 :: l) 7 v = (a0 :: a1 :: a2 :: a3 :: a4 :: a5 :: a6 :: some v :: none :: l) := rfl
theorem lg8 {a0 a1 a2 a3 a4 a5 a6 a7 a8 : Option AV} {l : LV} : lget (a0 :: a1 :: a2 :: a3 :: a4 :: a5 :: a6 :: a7 :: a8 :: l) 8 = (a8) := rfl
theorem ls8 {v : AV} {a0 a1 a2 a3 a4 a5 a6 a7 a8 : Option AV} {l : LV} : lset (a0 :: a1 :: a2 :: a3 :: a4 :: a5 :: a6 :: a7 :: a8 :: l) 8 v = (a0 :: a1 :: a2 :: a3 :: a4 :: a5 :: a6 :: a7 :: some v :: l) := rfl
theorem lo8 {a0 a1 a2 a3 a4 a5 a6 a7 a8 : Option AV} {l : LV} : lok (a0 :: a1 :: a2 :: a3 :: a4 :: a5 :: a6 :: a7 :: a8 :: l) 8 = (ok1 a7) := rfl
theorem lo0 {lv : LV} : lok lv 0 = (True) := rfl
theorem okI {a : Int} : ok1 (some (vI a)) = (True) := rfl
theorem okR {a : Nat} : ok1 (some (vR a)) = (True) := rfl
theorem okN  : ok1 none = (True) := rfl
theorem e_calli1 {X : RI} {n : Nat} {lv : LV} {st : List AV} {S : ST} {P : PT} : i_calli X 1 n lv (vR 0 :: st) S P = (sh4 st ∧ ∃ Q, X [vR 0] S Q nox ∧ ∀ r S', Q r S' → P n lv (vI r :: st) S') := propext (and_iff_right ⟨trivial, by simp⟩)
theorem e_calll1 {X : RJ} {n : Nat} {lv : LV} {st : List AV} {S : ST} {P : PT} : i_calll X 1 n lv (vR 0 :: st) S P = (sh4 st ∧ ∃ Q, X [vR 0] S Q nox ∧ ∀ r S', Q r S' → P n lv (vL r :: st) S') := propext (and_iff_right ⟨trivial, by simp⟩)
theorem e_callv1 {X : RV} {n : Nat} {lv : LV} {st : List AV} {S : ST} {P : PT} : i_callv X 1 n lv (vR 0 :: st) S P = (sh4 st ∧ ∃ Q, X [vR 0] S Q nox ∧ ∀ S', Q S' → P n lv st S') := propext (and_iff_right ⟨trivial, by simp⟩)
theorem e_xcalli1 {X : RI} {Qx : String → ST → Prop} {n : Nat} {lv : LV} {st : List AV} {S : ST} {P : PT} : i_xcalli X Qx 1 n lv (vR 0 :: st) S P = (sh4 st ∧ ((∃ Q, X [vR 0] S Q nox ∧ ∀ r S', Q r S' → P n lv (vI r :: st) S') ∨ (∃ Q, X [vR 0] S (fun _ _ => False) Q ∧ ∀ E S', Q E S' → Qx E S'))) := propext (and_iff_right ⟨trivial, by simp⟩)
theorem e_xcallv1 {X : RV} {Qx : String → ST → Prop} {n : Nat} {lv : LV} {st : List AV} {S : ST} {P : PT} : i_xcallv X Qx 1 n lv (vR 0 :: st) S P = (sh4 st ∧ ((∃ Q, X [vR 0] S Q nox ∧ ∀ S', Q S' → P n lv st S') ∨ (∃ Q, X [vR 0] S (fun _ => False) Q ∧ ∀ E S', Q E S' → Qx E S'))) := propext (and_iff_right ⟨trivial, by simp⟩)
theorem e_acalli1 {X : RI} {k m K M : Nat} {n : Nat} {lv : LV} {st : List AV} {S : ST} {P : PT} : i_acalli X k m K M 1 n lv (vR 0 :: st) S P = (sh4 st ∧ ((S.2.2.1 = none ∧ S.2.2.2.1 + k ≤ K ∧ S.2.2.2.2 + m ≤ M) ∧ ∃ Q, X [vR 0] (cut0 S) Q nox ∧ ∀ r S', Q r S' → P n lv (vI r :: st) (glue S S' k m))) := propext (and_iff_right ⟨trivial, by simp⟩)
theorem e_calli2 {X : RI} {a : AV} {n : Nat} {lv : LV} {st : List AV} {S : ST} {P : PT} : i_calli X 2 n lv (a :: vR 0 :: st) S P = (sh4 st ∧ ∃ Q, X [vR 0, a] S Q nox ∧ ∀ r S', Q r S' → P n lv (vI r :: st) S') := propext (and_iff_right ⟨trivial, by simp⟩)
theorem e_calll2 {X : RJ} {a : AV} {n : Nat} {lv : LV} {st : List AV} {S : ST} {P : PT} : i_calll X 2 n lv (a :: vR 0 :: st) S P = (sh4 st ∧ ∃ Q, X [vR 0, a] S Q nox ∧ ∀ r S', Q r S' → P n lv (vL r :: st) S') := propext (and_iff_right ⟨trivial, by simp⟩)
theorem e_callv2 {X : RV} {a : AV} {n : Nat} {lv : LV} {st : List AV} {S : ST} {P : PT} : i_callv X 2 n lv (a :: vR 0 :: st) S P = (sh4 st ∧ ∃ Q, X [vR 0, a] S Q nox ∧ ∀ S', Q S' → P n lv st S') := propext (and_iff_right ⟨trivial, by simp⟩)
theorem e_xcalli2 {X : RI} {Qx : String → ST → Prop} {a : AV} {n : Nat} {lv : LV} {st : List AV} {S : ST} {P : PT} : i_xcalli X Qx 2 n lv (a :: vR 0 :: st) S P = (sh4 st ∧ ((∃ Q, X [vR 0, a] S Q nox ∧ ∀ r S', Q r S' → P n lv (vI r :: st) S') ∨ (∃ Q, X [vR 0, a] S (fun _ _ => False) Q ∧ ∀ E S', Q E S' → Qx E S'))) := propext (and_iff_right ⟨trivial, by simp⟩)
theorem e_xcallv2 {X : RV} {Qx : String → ST → Prop} {a : AV} {n : Nat} {lv : LV} {st : List AV} {S : ST} {P : PT} : i_xcallv X Qx 2 n lv (a :: vR 0 :: st) S P = (sh4 st ∧ ((∃ Q, X [vR 0, a] S Q nox ∧ ∀ S', Q S' → P n lv st S') ∨ (∃ Q, X [vR 0, a] S (fun _ => False) Q ∧ ∀ E S', Q E S' → Qx E S'))) := propext (and_iff_right ⟨trivial, by simp⟩)
theorem e_acalli2 {X : RI} {k m K M : Nat} {a : AV} {n : Nat} {lv : LV} {st : List AV} {S : ST} {P : PT} : i_acalli X k m K M 2 n lv (a :: vR 0 :: st) S P = (sh4 st ∧ ((S.2.2.1 = none ∧ S.2.2.2.1 + k ≤ K ∧ S.2.2.2.2 + m ≤ M) ∧ ∃ Q, X [vR 0, a] (cut0 S) Q nox ∧ ∀ r S', Q r S' → P n lv (vI r :: st) (glue S S' k m))) := propext (and_iff_right ⟨trivial, by simp⟩)
theorem e_calli3 {X : RI} {a b : AV} {n : Nat} {lv : LV} {st : List AV} {S : ST} {P : PT} : i_calli X 3 n lv (a :: b :: vR 0 :: st) S P = (sh4 st ∧ ∃ Q, X [vR 0, b, a] S Q nox ∧ ∀ r S', Q r S' → P n lv (vI r :: st) S') := propext (and_iff_right ⟨trivial, by simp⟩)
theorem e_calll3 {X : RJ} {a b : AV} {n : Nat} {lv : LV} {st : List AV} {S : ST} {P : PT} : i_calll X 3 n lv (a :: b :: vR 0 :: st) S P = (sh4 st ∧ ∃ Q, X [vR 0, b, a] S Q nox ∧ ∀ r S', Q r S' → P n lv (vL r :: st) S') := propext (and_iff_right ⟨trivial, by simp⟩)
theorem e_callv3 {X : RV} {a b : AV} {n : Nat} {lv : LV} {st : List AV} {S : ST} {P : PT} : i_callv X 3 n lv (a :: b :: vR 0 :: st) S P = (sh4 st ∧ ∃ Q, X [vR 0, b, a] S Q nox ∧ ∀ S', Q S' → P n lv st S') := propext (and_iff_right ⟨trivial, by simp⟩)
theorem e_xcalli3 {X : RI} {Qx : String → ST → Prop} {a b : AV} {n : Nat} {lv : LV} {st : List AV} {S : ST} {P : PT} : i_xcalli X Qx 3 n lv (a :: b :: vR 0 :: st) S P = (sh4 st ∧ ((∃ Q, X [vR 0, b, a] S Q nox ∧ ∀ r S', Q r S' → P n lv (vI r :: st) S') ∨ (∃ Q, X [vR 0, b, a] S (fun _ _ => False) Q ∧ ∀ E S', Q E S' → Qx E S'))) := propext (and_iff_right ⟨trivial, by simp⟩)
theorem e_xcallv3 {X : RV} {Qx : String → ST → Prop} {a b : AV} {n : Nat} {lv : LV} {st : List AV} {S : ST} {P : PT} : i_xcallv X Qx 3 n lv (a :: b :: vR 0 :: st) S P = (sh4 st ∧ ((∃ Q, X [vR 0, b, a] S Q nox ∧ ∀ S', Q S' → P n lv st S') ∨ (∃ Q, X [vR 0, b, a] S (fun _ => False) Q ∧ ∀ E S', Q E S' → Qx E S'))) := propext (and_iff_right ⟨trivial, by simp⟩)
theorem e_acalli3 {X : RI} {k m K M : Nat} {a b : AV} {n : Nat} {lv : LV} {st : List AV} {S : ST} {P : PT} : i_acalli X k m K M 3 n lv (a :: b :: vR 0 :: st) S P = (sh4 st ∧ ((S.2.2.1 = none ∧ S.2.2.2.1 + k ≤ K ∧ S.2.2.2.2 + m ≤ M) ∧ ∃ Q, X [vR 0, b, a] (cut0 S) Q nox ∧ ∀ r S', Q r S' → P n lv (vI r :: st) (glue S S' k m))) := propext (and_iff_right ⟨trivial, by simp⟩)
theorem e_calli4 {X : RI} {a b d : AV} {n : Nat} {lv : LV} {st : List AV} {S : ST} {P : PT} : i_calli X 4 n lv (a :: b :: d :: vR 0 :: st) S P = (sh4 st ∧ ∃ Q, X [vR 0, d, b, a] S Q nox ∧ ∀ r S', Q r S' → P n lv (vI r :: st) S') := propext (and_iff_right ⟨trivial, by simp⟩)
theorem e_calll4 {X : RJ} {a b d : AV} {n : Nat} {lv : LV} {st : List AV} {S : ST} {P : PT} : i_calll X 4 n lv (a :: b :: d :: vR 0 :: st) S P = (sh4 st ∧ ∃ Q, X [vR 0, d, b, a] S Q nox ∧ ∀ r S', Q r S' → P n lv (vL r :: st) S') := propext (and_iff_right ⟨trivial, by simp⟩)
theorem e_callv4 {X : RV} {a b d : AV} {n : Nat} {lv : LV} {st : List AV} {S : ST} {P : PT} : i_callv X 4 n lv (a :: b :: d :: vR 0 :: st) S P = (sh4 st ∧ ∃ Q, X [vR 0, d, b, a] S Q nox ∧ ∀ S', Q S' → P n lv st S') := propext (and_iff_right ⟨trivial, by simp⟩)
theorem e_xcalli4 {X : RI} {Qx : String → ST → Prop} {a b d : AV} {n : Nat} {lv : LV} {st : List AV} {S : ST} {P : PT} : i_xcalli X Qx 4 n lv (a :: b :: d :: vR 0 :: st) S P = (sh4 st ∧ ((∃ Q, X [vR 0, d, b, a] S Q nox ∧ ∀ r S', Q r S' → P n lv (vI r :: st) S') ∨ (∃ Q, X [vR 0, d, b, a] S (fun _ _ => False) Q ∧ ∀ E S', Q E S' → Qx E S'))) := propext (and_iff_right ⟨trivial, by simp⟩)
theorem e_xcallv4 {X : RV} {Qx : String → ST → Prop} {a b d : AV} {n : Nat} {lv : LV} {st : List AV} {S : ST} {P : PT} : i_xcallv X Qx 4 n lv (a :: b :: d :: vR 0 :: st) S P = (sh4 st ∧ ((∃ Q, X [vR 0, d, b, a] S Q nox ∧ ∀ S', Q S' → P n lv st S') ∨ (∃ Q, X [vR 0, d, b, a] S (fun _ => False) Q ∧ ∀ E S', Q E S' → Qx E S'))) := propext (and_iff_right ⟨trivial, by simp⟩)
theorem e_acalli4 {X : RI} {k m K M : Nat} {a b d : AV} {n : Nat} {lv : LV} {st : List AV} {S : ST} {P : PT} : i_acalli X k m K M 4 n lv (a :: b :: d :: vR 0 :: st) S P = (sh4 st ∧ ((S.2.2.1 = none ∧ S.2.2.2.1 + k ≤ K ∧ S.2.2.2.2 + m ≤ M) ∧ ∃ Q, X [vR 0, d, b, a] (cut0 S) Q nox ∧ ∀ r S', Q r S' → P n lv (vI r :: st) (glue S S' k m))) := propext (and_iff_right ⟨trivial, by simp⟩)
theorem e_scalli3 {X : RI} {a b d : AV} {n : Nat} {lv : LV} {st : List AV} {S : ST} {P : PT} : i_scalli X 3 n lv (a :: b :: d :: st) S P = (sh4 st ∧ ∃ Q, X [d, b, a] S Q nox ∧ ∀ r S', Q r S' → P n lv (vI r :: st) S') := propext (and_iff_right (by simp))
theorem sh4_0  : sh4 [] = True := rfl
theorem sh4_1 {a : AV} : sh4 [a] = True := rfl
theorem sh4_2 {a b : AV} : sh4 [a, b] = True := rfl
theorem sh4_3 {a b d : AV} : sh4 [a, b, d] = True := rfl
theorem sh4_4 {a b d g : AV} : sh4 [a, b, d, g] = True := rfl
end
section
/-! THE OPERATIONS OVER THE MACHINE: what the heap holds for an abstract state, and each operation's law -/
theorem iI_add (a b : Int) : iI a + iI b = iI (a + b) := (Int32.ofInt_add a b).symm
theorem iI_sub (a b : Int) : iI a - iI b = iI (a - b) := (Int32.ofInt_sub a b).symm
theorem iI_mul (a b : Int) : iI a * iI b = iI (a * b) := (Int32.ofInt_mul a b).symm
theorem iI_toInt {a : Int} (h : rng a) : (iI a).toInt = a := Int32.toInt_ofInt_of_le (by have := h.1; omega) (by have := h.2; omega)
theorem iI_lt {a b : Int} (ha : rng a) (hb : rng b) : iI a < iI b ↔ a < b := by rw [Int32.lt_iff_toInt_lt, iI_toInt ha, iI_toInt hb]
theorem iI_le {a b : Int} (ha : rng a) (hb : rng b) : iI a ≤ iI b ↔ a ≤ b := by rw [Int32.le_iff_toInt_le, iI_toInt ha, iI_toInt hb]
theorem iI_eq {a b : Int} (ha : rng a) (hb : rng b) : iI a = iI b ↔ a = b := by
  refine ⟨fun h => ?_, fun h => by rw [h]⟩
  rw [← iI_toInt ha, ← iI_toInt hb, h]
theorem rng0 : rng 0 := ⟨by decide, by decide⟩
theorem iI_0 : iI 0 = 0 := by decide
theorem iI_in {a : Int} {n : Nat} (h0 : 0 ≤ a) (h1 : a < n) (hn : n ≤ 2000) : vp_in (iI a) n := vp_in_iff.mpr (by rw [iI_toInt ⟨by omega, by omega⟩]; exact ⟨h0, h1⟩)
theorem iI_cl {a : Int} (h0 : 0 ≤ a) (h1 : a < 2147483648) : (iI a).toNatClampNeg = a.toNat := by
  have h : (iI a).toInt = a := iI_toInt ⟨by omega, by omega⟩
  show (iI a).toInt.toNat = a.toNat
  rw [h]
theorem iI_div {a b : Int} (ha : 0 ≤ a ∧ a < 2147483648) (hb : 0 < b ∧ b < 2147483648) : iI a / iI b = iI (a / b) := by
  have h2 : a / b ≤ a := Int.ediv_le_self b ha.1
  have h3 : 0 ≤ a / b := Int.ediv_nonneg ha.1 (by omega)
  have e1 : (iI a).toInt = a := iI_toInt ⟨by omega, by omega⟩
  have e2 : (iI b).toInt = b := iI_toInt ⟨by omega, by omega⟩
  have e3 : (iI (a / b)).toInt = a / b := iI_toInt ⟨by omega, by omega⟩
  have h9 : (-1 : Int32).toInt = -1 := by decide
  have hne : iI b ≠ -1 := by
    intro h
    have := congrArg Int32.toInt h
    rw [e2, h9] at this
    omega
  rw [← Int32.toInt_inj, Int32.toInt_div_of_ne_right _ _ hne, e1, e2, e3, Int.tdiv_eq_ediv_of_nonneg ha.1]
theorem iI_ne0 {b : Int} (hb : 0 < b ∧ b < 2147483648) : ¬ iI b = 0 := by
  intro h
  rw [← iI_0] at h
  have := (iI_eq (a := b) (b := 0) ⟨by omega, by omega⟩ rng0).mp h
  omega
theorem iI_rem {a b : Int} (ha : 0 ≤ a ∧ a < 2147483648) (hb : 0 < b ∧ b < 2147483648) : iI a - iI a / iI b * iI b = iI (a % b) := by
  rw [iI_div ha hb, iI_mul, iI_sub]
  congr 1
  have := Int.emod_add_mul_ediv a b
  rw [Int.mul_comm] at this
  omega
/-- what an abstract value is: an object or row by its number's address -/
def conc (ad : Nat → Nat) : AV → Value
  | .inl a => .int (iI a)
  | .inr (.inl x) => .long x
  | .inr (.inr (.inl d)) => .double d
  | .inr (.inr (.inr k)) => .ref (ad k)
theorem lget_lt {lv : LV} {i : Nat} {v : AV} (h : lget lv i = some v) : i < lv.length := by
  rcases Nat.lt_or_ge i lv.length with q | q
  · exact q
  · unfold lget at h
    rw [List.getElem?_eq_none q] at h
    cases h
def LR (ad : Nat → Nat) (nL : Nat) (lv : LV) (ls : Array Slot) : Prop := ls.size = nL ∧ lv_wf ls ∧ ∀ (i : Nat) (v : AV), lget lv i = some v → ls[i]? = some (.val (conc ad v))
def prs (ad : Nat → Nat) (lv : LV) : List (Nat × Value) := (List.range lv.length).filterMap (fun i => (lget lv i).map (fun v => (i, conc ad v)))
theorem mem_prs {ad : Nat → Nat} {lv : LV} {q : Nat × Value} : q ∈ prs ad lv ↔ ∃ v, lget lv q.1 = some v ∧ q.2 = conc ad v := by
  unfold prs
  rw [List.mem_filterMap]
  constructor
  · rintro ⟨i, -, h⟩
    cases hv : lget lv i with
    | none => rw [hv] at h; cases h
    | some v =>
      rw [hv] at h
      cases h
      exact ⟨v, hv, rfl⟩
  · rintro ⟨v, h1, h2⟩
    refine ⟨q.1, List.mem_range.mpr (lget_lt h1), ?_⟩
    rw [h1, Option.map_some, ← h2]
theorem LR.has {ad : Nat → Nat} {nL : Nat} {lv : LV} {ls : Array Slot} (h : LR ad nL lv ls) : lv_has ls nL (prs ad lv) := by
  refine ⟨h.1, h.2.1, fun q hq => ?_⟩
  obtain ⟨v, h1, h2⟩ := mem_prs.mp hq
  rw [h2]
  exact h.2.2 _ _ h1
theorem lget_lset {lv : LV} {i : Nat} {v w : AV} {j : Nat} (h : lget (lset lv i v) j = some w) : (j = i ∧ w = v) ∨ (j ≠ i ∧ lget lv j = some w) := by
  unfold lset lget at h
  rw [List.getElem?_set] at h
  by_cases hj : i = j
  · subst hj
    rw [if_pos rfl] at h
    by_cases hl : i < lv.length
    · rw [if_pos hl] at h
      exact Or.inl ⟨rfl, (Option.some.inj h).symm⟩
    · rw [if_neg hl] at h
      cases h
  · rw [if_neg hj] at h
    exact Or.inr ⟨fun q => hj q.symm, h⟩
theorem lget_lset2 {lv : LV} {i : Nat} {v w : AV} {j : Nat} (h : lget (lset2 lv i v) j = some w) : (j = i ∧ w = v) ∨ (j ≠ i ∧ j ≠ i + 1 ∧ lget lv j = some w) := by
  unfold lset2 at h
  have h1 : j ≠ i + 1 := by
    intro q
    subst q
    unfold lget at h
    rw [List.getElem?_set] at h
    by_cases hl : i + 1 < (lv.set i (some v)).length
    · rw [if_pos rfl, if_pos hl] at h; cases h
    · rw [if_pos rfl, if_neg hl] at h; cases h
  have h2 : lget (lset lv i v) j = some w := by
    unfold lset
    unfold lget at h ⊢
    rw [List.getElem?_set_ne (fun q => h1 q.symm)] at h
    exact h
  rcases lget_lset h2 with q | q
  · exact Or.inl q
  · exact Or.inr ⟨q.1, h1, q.2⟩
theorem cat_ok {ad : Nat → Nat} {v : AV} (h : ok1 (some v)) : (conc ad v).category = 1 := by
  rcases v with a | x | d | k
  · rfl
  · exact h.elim
  · exact h.elim
  · rfl
theorem LR.st1 {ad : Nat → Nat} {nL : Nat} {lv : LV} {ls' : Array Slot} {i : Nat} {v : AV} (hok : lok lv i) (h : lv_has ls' nL ((i, conc ad v) :: (prs ad lv).filter (fun q => !(q.1 == i) && !(q.1 + 1 == i && q.2.category == 2)))) : LR ad nL (lset lv i v) ls' := by
  refine ⟨h.1, h.2.1, fun j w hj => ?_⟩
  rcases lget_lset hj with ⟨rfl, rfl⟩ | ⟨hne, hg⟩
  · exact h.2.2 _ List.mem_cons_self
  · refine h.2.2 (j, conc ad w) (List.mem_cons_of_mem _ (List.mem_filter.mpr ⟨mem_prs.mpr ⟨w, hg, rfl⟩, ?_⟩))
    have h1 : (j == i) = false := by simpa using hne
    by_cases hji : j + 1 = i
    · subst hji
      have hc := cat_ok (ad := ad) (v := w) (by rw [← hg]; exact hok)
      simp [h1, hc]
    · simp [h1, hji]
theorem LR.st2 {ad : Nat → Nat} {nL : Nat} {lv : LV} {ls' : Array Slot} {i : Nat} {v : AV} (hok : lok lv i) (h : lv_has ls' nL ((i, conc ad v) :: (prs ad lv).filter (fun q => !(q.1 == i) && (!(q.1 == i + 1) && !(q.1 + 1 == i && q.2.category == 2))))) : LR ad nL (lset2 lv i v) ls' := by
  refine ⟨h.1, h.2.1, fun j w hj => ?_⟩
  rcases lget_lset2 hj with ⟨rfl, rfl⟩ | ⟨hne, hne2, hg⟩
  · exact h.2.2 _ List.mem_cons_self
  · refine h.2.2 (j, conc ad w) (List.mem_cons_of_mem _ (List.mem_filter.mpr ⟨mem_prs.mpr ⟨w, hg, rfl⟩, ?_⟩))
    have h1 : (j == i) = false := by simpa using hne
    have h2 : (j == i + 1) = false := by simpa using hne2
    by_cases hji : j + 1 = i
    · subst hji
      have hc := cat_ok (ad := ad) (v := w) (by rw [← hg]; exact hok)
      simp [hc]
      omega
    · simp [h1, h2, hji]
/-- an int where it stands: nothing of two words just below -/
theorem LR.lok {ad : Nat → Nat} {nL : Nat} {lv : LV} {ls : Array Slot} (h : LR ad nL lv ls) {i : Nat} {u : AV} (hu : lget lv i = some u) : lok lv i := by
  cases i with
  | zero => trivial
  | succ i =>
    show ok1 (lget lv i)
    cases hg : lget lv i with
    | none => trivial
    | some w =>
      have h1 := h.2.2 _ _ hu
      have h2 := h.2.2 _ _ hg
      rcases w with a | x | d | k
      · trivial
      · have h3 := h.2.1.1 i _ h2 rfl
        rw [h1] at h3; cases h3
      · have h3 := h.2.1.1 i _ h2 rfl
        rw [h1] at h3; cases h3
      · trivial
/-! the world: the object, its rows, the row made meanwhile -/
def tw (cA : ClassId) (ad : Nat → Nat) (S : ST) : va_W := match S.2.2.1 with
  | none => []
  | some q => [(ad 99, .inl (cA, q.1, .inl (fun i => iI (q.2 i))))]
def o_f (ad : Nat → Nat) (S : ST) (ly : List Bool) : List Value := ly.mapIdx (fun j b => bif b then .ref (ad j) else .int (iI (fF S j)))
def o_r (cA : ClassId) (ad : Nat → Nat) (S : ST) (q : Nat × Nat) : Nat × va_E := (ad q.1, .inl (cA, q.2, .inl (fun i => iI (gA S q.1 i))))
def wdO (cA : ClassId) (ci : Nat) (ly : List Bool) (ja : List (Nat × Nat)) (ad : Nat → Nat) (S : ST) : va_W := (ad 0, .inr (ci, o_f ad S ly)) :: (ja.map (o_r cA ad S) ++ tw cA ad S)
theorem o_f_get {ad : Nat → Nat} {S : ST} {ly : List Bool} {k : Nat} {b : Bool} (h : ly[k]? = some b) : (o_f ad S ly)[k]? = some (bif b then .ref (ad k) else .int (iI (fF S k))) := by
  unfold o_f
  rw [List.getElem?_mapIdx, h]
  rfl
theorem o_f_set {ad : Nat → Nat} {S : ST} {ly : List Bool} {k : Nat} {v : Int} (h : ly[k]? = some false) : (o_f ad S ly).set k (.int (iI v)) = o_f ad (pF S k v) ly := by
  unfold o_f
  apply List.ext_getElem?
  intro i
  rw [List.getElem?_set]
  simp only [List.getElem?_mapIdx]
  by_cases hi : k = i
  · subst hi
    rw [if_pos rfl, h, if_pos (by rw [List.length_mapIdx]; exact (List.getElem?_eq_some_iff.mp h).1)]
    simp [fF, pF]
  · rw [if_neg hi]
    cases ly[i]? with
    | none => rfl
    | some b => cases b <;> simp [fF, pF, Ne.symm hi]
theorem o_r_keep {cA : ClassId} {ad : Nat → Nat} {S : ST} {k i : Nat} {v : Int} {q : Nat × Nat} (h : q.1 ≠ k) : o_r cA ad (pA S k i v) q = o_r cA ad S q := by
  unfold o_r
  have : (fun i' => iI (gA (pA S k i v) q.1 i')) = fun i' => iI (gA S q.1 i') := by
    funext i'
    simp [gA, pA, h]
  rw [this]
theorem o_r_set {cA : ClassId} {ad : Nat → Nat} {S : ST} {i : Nat} {v : Int} {q : Nat × Nat} : o_r cA ad (pA S q.1 i v) q = (ad q.1, .inl (cA, q.2, .inl (upd (fun i => iI (gA S q.1 i)) i (iI v)))) := by
  unfold o_r
  have : (fun i' => iI (gA (pA S q.1 i v) q.1 i')) = upd (fun i => iI (gA S q.1 i)) i (iI v) := by
    funext i'
    by_cases h : i' = i <;> simp [gA, pA, upd, h]
  rw [this]
theorem wd_set {cA : ClassId} {ci : Nat} {ly : List Bool} {ja : List (Nat × Nat)} {ad : Nat → Nat} {S : ST} {t k n i : Nat} {v : Int} (ht : ja[t]? = some (k, n)) (hu : ∀ (a b : Nat) (q q' : Nat × Nat), ja[a]? = some q → ja[b]? = some q' → q.1 = q'.1 → a = b) :
    (wdO cA ci ly ja ad S).set (t + 1) (ad k, .inl (cA, n, .inl (upd (fun i => iI (gA S k i)) i (iI v)))) = wdO cA ci ly ja ad (pA S k i v) := by
  unfold wdO
  rw [List.set_cons_succ, List.set_append_left _ _ (by rw [List.length_map]; exact (List.getElem?_eq_some_iff.mp ht).1)]
  congr 2
  apply List.ext_getElem?
  intro j
  rw [List.getElem?_set]
  simp only [List.getElem?_map]
  by_cases hj : t = j
  · subst hj
    rw [if_pos rfl, if_pos (by rw [List.length_map]; exact (List.getElem?_eq_some_iff.mp ht).1), ht]
    exact congrArg some (o_r_set (q := (k, n))).symm
  · rw [if_neg hj]
    cases hq : ja[j]? with
    | none => rfl
    | some q => exact congrArg some (o_r_keep (fun e => hj (hu t j (k, n) q ht hq e.symm))).symm
theorem wd_get {cA : ClassId} {ci : Nat} {ly : List Bool} {ja : List (Nat × Nat)} {ad : Nat → Nat} {S : ST} {t k n : Nat} (ht : ja[t]? = some (k, n)) : (wdO cA ci ly ja ad S)[t + 1]? = some (ad k, .inl (cA, n, .inl (fun i => iI (gA S k i)))) := by
  unfold wdO
  rw [List.getElem?_cons_succ, List.getElem?_append_left (by rw [List.length_map]; exact (List.getElem?_eq_some_iff.mp ht).1), List.getElem?_map, ht]
  rfl
theorem wd_tget {cA : ClassId} {ci : Nat} {ly : List Bool} {ja : List (Nat × Nat)} {ad : Nat → Nat} {S : ST} {q : Nat × (Nat → Int)} (ht : S.2.2.1 = some q) : (wdO cA ci ly ja ad S)[ja.length + 1]? = some (ad 99, .inl (cA, q.1, .inl (fun i => iI (q.2 i)))) := by
  unfold wdO tw
  rw [List.getElem?_cons_succ, List.getElem?_append_right (by rw [List.length_map]; exact Nat.le_refl _), List.length_map, Nat.sub_self, ht]
  rfl
theorem wd_tset {cA : ClassId} {ci : Nat} {ly : List Bool} {ja : List (Nat × Nat)} {ad : Nat → Nat} {S : ST} {q : Nat × (Nat → Int)} {i : Nat} {v : Int} (ht : S.2.2.1 = some q) : (wdO cA ci ly ja ad S).set (ja.length + 1) (ad 99, .inl (cA, q.1, .inl (upd (fun i => iI (q.2 i)) i (iI v)))) = wdO cA ci ly ja ad (tput S i v) := by
  have h1 : (tput S i v).2.2.1 = some (q.1, fun j => if j = i then v else q.2 j) := by
    show S.2.2.1.map _ = _
    rw [ht]; rfl
  have h2 : (fun j => iI (if j = i then v else q.2 j)) = upd (fun i => iI (q.2 i)) i (iI v) := by
    funext j
    by_cases h : j = i <;> simp [upd, h]
  unfold wdO tw
  rw [h1, ht, List.set_cons_succ, List.set_append_right _ _ (by rw [List.length_map]; exact Nat.le_refl _), List.length_map, Nat.sub_self]
  show _ = (ad 0, _) :: (ja.map (o_r cA ad (tput S i v)) ++ [(ad 99, .inl (cA, q.1, .inl (fun j => iI (if j = i then v else q.2 j))))])
  rw [h2]
  rfl
/-! what P is over the machine -/
theorem lget_mem {lv : LV} {i : Nat} {v : AV} (h : lget lv i = some v) : some v ∈ lv := by
  unfold lget at h
  cases hg : lv[i]? with
  | none => rw [hg] at h; cases h
  | some o =>
    rw [hg] at h
    have h2 : o = some v := h
    subst h2
    exact List.mem_of_getElem? hg
/-- the count of what the method has made: none, or as the abstract state has it -/
def rel0 (k0 : Nat × Nat) : Nat × Nat → Nat → Nat → Prop := fun k c n => k = k0 ∧ c = 0 ∧ n = 0
def relA (K M : Nat) : Nat × Nat → Nat → Nat → Prop := fun k c n => c = k.1 ∧ n = k.2 ∧ c ≤ K ∧ n ≤ M
def OK (p : Program) (l : Launch) (e : Env) (R : Room) (s : State) (m : MethodId) (args : Array Value) (below : List Frame) (meth : Method) (c : Code) (Q : State → Prop) (D : va_G) (cA : ClassId) (A : Nat → Prop) (ci : Nat) (ly : List Bool) (ja : List (Nat × Nat)) (AD : (Nat → Nat) → Prop) (rel : Nat × Nat → Nat → Nat → Prop) (nL : Nat) : PT := fun pc lv st S =>
  ∀ (ad : Nat → Nat), AD ad → ∀ (H : Heap) (locs : List Loc) (ls : Array Slot) (cells slots : Nat), rel S.2.2.2 cells slots → va_P D vwCl (wdO cA ci ly ja ad S) H → va_D A (wdO cA ci ly ja ad S) → va_S A s.heap H locs → LR ad nL lv ls →
    W p l e R s m args below meth c H locs cells slots Q (F0 m pc ls (st.map (conc ad)))
section SND
variable {p : Program} {l : Launch} {e : Env} {R : Room} {s : State} {m : MethodId} {args : Array Value} {below : List Frame} {meth : Method} {c : Code} {Q : State → Prop}
variable {D : va_G} {cA : ClassId} {A : Nat → Prop} {ci : Nat} {ly : List Bool} {ja : List (Nat × Nat)} {AD : (Nat → Nat) → Prop} {rel : Nat × Nat → Nat → Nat → Prop} {nL : Nat}
variable {cc : ByteArray} {pc n : Nat}
theorem s_iconst (hx : p.tables.exec = Jvm.exec) (hb : c.code = cc) {v : Int} (hd : decode cc pc = .ok (.iconst v, 1)) (hn : n = pc + 1) : ∀ lv st S, i_const v n lv st S (OK p l e R s m args below meth c Q D cA A ci ly ja AD rel nL) → (OK p l e R s m args below meth c Q D cA A ci ly ja AD rel nL) pc lv st S := by
  intro lv st S h
  subst hn
  intro ad ha H locs ls cells slots hr hP hD hS hL
  exact lv_iconst hx hb hd rfl (h ad ha H locs ls cells slots hr hP hD hS hL)
theorem s_bipush (hx : p.tables.exec = Jvm.exec) (hb : c.code = cc) {v : Int} (hd : decode cc pc = .ok (.bipush v, 2)) (hn : n = pc + 2) (hv : (Int8.ofInt v).toInt32 = iI v) : ∀ lv st S, i_const v n lv st S (OK p l e R s m args below meth c Q D cA A ci ly ja AD rel nL) → (OK p l e R s m args below meth c Q D cA A ci ly ja AD rel nL) pc lv st S := by
  intro lv st S h
  subst hn
  intro ad ha H locs ls cells slots hr hP hD hS hL
  exact lv_bipush hx hb hd hv (h ad ha H locs ls cells slots hr hP hD hS hL)
theorem s_sipush (hx : p.tables.exec = Jvm.exec) (hb : c.code = cc) {v : Int} (hd : decode cc pc = .ok (.sipush v, 3)) (hn : n = pc + 3) (hv : (Int16.ofInt v).toInt32 = iI v) : ∀ lv st S, i_const v n lv st S (OK p l e R s m args below meth c Q D cA A ci ly ja AD rel nL) → (OK p l e R s m args below meth c Q D cA A ci ly ja AD rel nL) pc lv st S := by
  intro lv st S h
  subst hn
  intro ad ha H locs ls cells slots hr hP hD hS hL
  exact lv_sipush hx hb hd hv (h ad ha H locs ls cells slots hr hP hD hS hL)
theorem s_dconst0 (hx : p.tables.exec = Jvm.exec) (hb : c.code = cc) (hd : decode cc pc = .ok (.dconst 0, 1)) (hn : n = pc + 1) : ∀ lv st S, i_dconst FP.dconst0 n lv st S (OK p l e R s m args below meth c Q D cA A ci ly ja AD rel nL) → (OK p l e R s m args below meth c Q D cA A ci ly ja AD rel nL) pc lv st S := by
  intro lv st S h
  subst hn
  intro ad ha H locs ls cells slots hr hP hD hS hL
  exact lv_dconst0 hx hb hd (h ad ha H locs ls cells slots hr hP hD hS hL)
theorem s_ldc2 (hx : p.tables.exec = Jvm.exec) (hb : c.code = cc) {own : String} {index : Nat} {v : Int64} (hown : s.vm.findClass own = some m.cls) (hc : (Jvm.Cond.constantLong own index v).before args s = true) (hd : decode cc pc = .ok (.ldc2_w index, 3)) (hn : n = pc + 3) : ∀ lv st S, i_lconst v n lv st S (OK p l e R s m args below meth c Q D cA A ci ly ja AD rel nL) → (OK p l e R s m args below meth c Q D cA A ci ly ja AD rel nL) pc lv st S := by
  intro lv st S h
  subst hn
  intro ad ha H locs ls cells slots hr hP hD hS hL
  exact lv_ldc2 hx hb hown hc hd (h ad ha H locs ls cells slots hr hP hD hS hL)
theorem s_iload_n (hx : p.tables.exec = Jvm.exec) (hb : c.code = cc) {i : Nat} {k : Fin 4} (hk : (k : Nat) = i) (hd : decode cc pc = .ok (.iload_n k, 1)) (hn : n = pc + 1) : ∀ lv st S, i_iload i n lv st S (OK p l e R s m args below meth c Q D cA A ci ly ja AD rel nL) → (OK p l e R s m args below meth c Q D cA A ci ly ja AD rel nL) pc lv st S := by
  intro lv st S h
  subst hn
  change k_iload _ lv st S _ (lget lv i) at h
  rcases hg : lget lv i with _ | (a | x | d | k9)
  all_goals rw [hg] at h
  · exact h.elim
  · intro ad ha H locs ls cells slots hr hP hD hS hL
    exact lv_iload_n hx hb hd hk (hL.2.2 _ _ hg) (h ad ha H locs ls cells slots hr hP hD hS hL)
  · exact h.elim
  · exact h.elim
  · exact h.elim
theorem s_iload (hx : p.tables.exec = Jvm.exec) (hb : c.code = cc) {i : Nat} (hd : decode cc pc = .ok (.iload i, 2)) (hn : n = pc + 2) : ∀ lv st S, i_iload i n lv st S (OK p l e R s m args below meth c Q D cA A ci ly ja AD rel nL) → (OK p l e R s m args below meth c Q D cA A ci ly ja AD rel nL) pc lv st S := by
  intro lv st S h
  subst hn
  change k_iload _ lv st S _ (lget lv i) at h
  rcases hg : lget lv i with _ | (a | x | d | k9)
  all_goals rw [hg] at h
  · exact h.elim
  · intro ad ha H locs ls cells slots hr hP hD hS hL
    exact lv_iload hx hb hd (hL.2.2 _ _ hg) (h ad ha H locs ls cells slots hr hP hD hS hL)
  · exact h.elim
  · exact h.elim
  · exact h.elim
theorem s_aload_n (hx : p.tables.exec = Jvm.exec) (hb : c.code = cc) {i : Nat} {k : Fin 4} (hk : (k : Nat) = i) (hd : decode cc pc = .ok (.aload_n k, 1)) (hn : n = pc + 1) : ∀ lv st S, i_aload i n lv st S (OK p l e R s m args below meth c Q D cA A ci ly ja AD rel nL) → (OK p l e R s m args below meth c Q D cA A ci ly ja AD rel nL) pc lv st S := by
  intro lv st S h
  subst hn
  change k_aload _ lv st S _ (lget lv i) at h
  rcases hg : lget lv i with _ | (a | x | d | k9)
  all_goals rw [hg] at h
  · exact h.elim
  · exact h.elim
  · exact h.elim
  · exact h.elim
  · intro ad ha H locs ls cells slots hr hP hD hS hL
    exact lv_aload_n hx hb hd hk (hL.2.2 _ _ hg) (h ad ha H locs ls cells slots hr hP hD hS hL)
theorem s_aload (hx : p.tables.exec = Jvm.exec) (hb : c.code = cc) {i : Nat} (hd : decode cc pc = .ok (.aload i, 2)) (hn : n = pc + 2) : ∀ lv st S, i_aload i n lv st S (OK p l e R s m args below meth c Q D cA A ci ly ja AD rel nL) → (OK p l e R s m args below meth c Q D cA A ci ly ja AD rel nL) pc lv st S := by
  intro lv st S h
  subst hn
  change k_aload _ lv st S _ (lget lv i) at h
  rcases hg : lget lv i with _ | (a | x | d | k9)
  all_goals rw [hg] at h
  · exact h.elim
  · exact h.elim
  · exact h.elim
  · exact h.elim
  · intro ad ha H locs ls cells slots hr hP hD hS hL
    exact lv_aload hx hb hd (hL.2.2 _ _ hg) (h ad ha H locs ls cells slots hr hP hD hS hL)
theorem s_lload_n (hx : p.tables.exec = Jvm.exec) (hb : c.code = cc) {i : Nat} {k : Fin 4} (hk : (k : Nat) = i) (hd : decode cc pc = .ok (.lload_n k, 1)) (hn : n = pc + 1) : ∀ lv st S, i_lload i n lv st S (OK p l e R s m args below meth c Q D cA A ci ly ja AD rel nL) → (OK p l e R s m args below meth c Q D cA A ci ly ja AD rel nL) pc lv st S := by
  intro lv st S h
  subst hn
  change k_lload _ lv st S _ (lget lv i) at h
  rcases hg : lget lv i with _ | (a | x | d | k9)
  all_goals rw [hg] at h
  · exact h.elim
  · exact h.elim
  · intro ad ha H locs ls cells slots hr hP hD hS hL
    exact lv_lload_n hx hb hd hk (hL.2.2 _ _ hg) (h ad ha H locs ls cells slots hr hP hD hS hL)
  · exact h.elim
  · exact h.elim
theorem s_lload (hx : p.tables.exec = Jvm.exec) (hb : c.code = cc) {i : Nat} (hd : decode cc pc = .ok (.lload i, 2)) (hn : n = pc + 2) : ∀ lv st S, i_lload i n lv st S (OK p l e R s m args below meth c Q D cA A ci ly ja AD rel nL) → (OK p l e R s m args below meth c Q D cA A ci ly ja AD rel nL) pc lv st S := by
  intro lv st S h
  subst hn
  change k_lload _ lv st S _ (lget lv i) at h
  rcases hg : lget lv i with _ | (a | x | d | k9)
  all_goals rw [hg] at h
  · exact h.elim
  · exact h.elim
  · intro ad ha H locs ls cells slots hr hP hD hS hL
    exact lv_lload hx hb hd (hL.2.2 _ _ hg) (h ad ha H locs ls cells slots hr hP hD hS hL)
  · exact h.elim
  · exact h.elim
theorem s_istore_n (hx : p.tables.exec = Jvm.exec) (hb : c.code = cc) {i : Nat} {k : Fin 4} (hk : (k : Nat) = i) (hd : decode cc pc = .ok (.istore_n k, 1)) (hn : n = pc + 1) (hi : i < nL) : ∀ lv st S, i_istore i n lv st S (OK p l e R s m args below meth c Q D cA A ci ly ja AD rel nL) → (OK p l e R s m args below meth c Q D cA A ci ly ja AD rel nL) pc lv st S := by
  intro lv st S h
  subst hn
  rcases st with _ | ⟨a | x | d | k9, r⟩
  · exact h.elim
  · obtain ⟨hok, h⟩ := h
    intro ad ha H locs ls cells slots hr hP hD hS hL
    exact lv_istore_n hx hb hd hk hL.has (by omega) rfl (fun ls' hl' => h ad ha H locs ls' cells slots hr hP hD hS (LR.st1 hok hl'))
  · exact h.elim
  · exact h.elim
  · exact h.elim
theorem s_istore (hx : p.tables.exec = Jvm.exec) (hb : c.code = cc) {i : Nat} (hd : decode cc pc = .ok (.istore i, 2)) (hn : n = pc + 2) (hi : i < nL) : ∀ lv st S, i_istore i n lv st S (OK p l e R s m args below meth c Q D cA A ci ly ja AD rel nL) → (OK p l e R s m args below meth c Q D cA A ci ly ja AD rel nL) pc lv st S := by
  intro lv st S h
  subst hn
  rcases st with _ | ⟨a | x | d | k9, r⟩
  · exact h.elim
  · obtain ⟨hok, h⟩ := h
    intro ad ha H locs ls cells slots hr hP hD hS hL
    exact lv_istore hx hb hd hL.has (by omega) rfl (fun ls' hl' => h ad ha H locs ls' cells slots hr hP hD hS (LR.st1 hok hl'))
  · exact h.elim
  · exact h.elim
  · exact h.elim
theorem s_astore_n (hx : p.tables.exec = Jvm.exec) (hb : c.code = cc) {i : Nat} {k : Fin 4} (hk : (k : Nat) = i) (hd : decode cc pc = .ok (.astore_n k, 1)) (hn : n = pc + 1) (hi : i < nL) : ∀ lv st S, i_astore i n lv st S (OK p l e R s m args below meth c Q D cA A ci ly ja AD rel nL) → (OK p l e R s m args below meth c Q D cA A ci ly ja AD rel nL) pc lv st S := by
  intro lv st S h
  subst hn
  rcases st with _ | ⟨a | x | d | k9, r⟩
  · exact h.elim
  · exact h.elim
  · exact h.elim
  · exact h.elim
  · obtain ⟨hok, h⟩ := h
    intro ad ha H locs ls cells slots hr hP hD hS hL
    exact lv_astore_n hx hb hd hk hL.has (by omega) rfl (fun ls' hl' => h ad ha H locs ls' cells slots hr hP hD hS (LR.st1 hok hl'))
theorem s_astore (hx : p.tables.exec = Jvm.exec) (hb : c.code = cc) {i : Nat} (hd : decode cc pc = .ok (.astore i, 2)) (hn : n = pc + 2) (hi : i < nL) : ∀ lv st S, i_astore i n lv st S (OK p l e R s m args below meth c Q D cA A ci ly ja AD rel nL) → (OK p l e R s m args below meth c Q D cA A ci ly ja AD rel nL) pc lv st S := by
  intro lv st S h
  subst hn
  rcases st with _ | ⟨a | x | d | k9, r⟩
  · exact h.elim
  · exact h.elim
  · exact h.elim
  · exact h.elim
  · obtain ⟨hok, h⟩ := h
    intro ad ha H locs ls cells slots hr hP hD hS hL
    exact lv_astore hx hb hd hL.has (by omega) rfl (fun ls' hl' => h ad ha H locs ls' cells slots hr hP hD hS (LR.st1 hok hl'))
theorem s_lstore_n (hx : p.tables.exec = Jvm.exec) (hb : c.code = cc) {i : Nat} {k : Fin 4} (hk : (k : Nat) = i) (hd : decode cc pc = .ok (.lstore_n k, 1)) (hn : n = pc + 1) (hi : i + 1 < nL) : ∀ lv st S, i_lstore i n lv st S (OK p l e R s m args below meth c Q D cA A ci ly ja AD rel nL) → (OK p l e R s m args below meth c Q D cA A ci ly ja AD rel nL) pc lv st S := by
  intro lv st S h
  subst hn
  rcases st with _ | ⟨a | x | d | k9, r⟩
  · exact h.elim
  · exact h.elim
  · obtain ⟨hok, h⟩ := h
    intro ad ha H locs ls cells slots hr hP hD hS hL
    exact lv_lstore_n hx hb hd hk hL.has (by omega) rfl (fun ls' hl' => h ad ha H locs ls' cells slots hr hP hD hS (LR.st2 hok hl'))
  · exact h.elim
  · exact h.elim
theorem s_lstore (hx : p.tables.exec = Jvm.exec) (hb : c.code = cc) {i : Nat} (hd : decode cc pc = .ok (.lstore i, 2)) (hn : n = pc + 2) (hi : i + 1 < nL) : ∀ lv st S, i_lstore i n lv st S (OK p l e R s m args below meth c Q D cA A ci ly ja AD rel nL) → (OK p l e R s m args below meth c Q D cA A ci ly ja AD rel nL) pc lv st S := by
  intro lv st S h
  subst hn
  rcases st with _ | ⟨a | x | d | k9, r⟩
  · exact h.elim
  · exact h.elim
  · obtain ⟨hok, h⟩ := h
    intro ad ha H locs ls cells slots hr hP hD hS hL
    exact lv_lstore hx hb hd hL.has (by omega) rfl (fun ls' hl' => h ad ha H locs ls' cells slots hr hP hD hS (LR.st2 hok hl'))
  · exact h.elim
  · exact h.elim
theorem s_iinc (hx : p.tables.exec = Jvm.exec) (hb : c.code = cc) {i : Nat} {d : Int} (hd : decode cc pc = .ok (.iinc i d, 3)) (hn : n = pc + 3) (hi : i < nL) : ∀ lv st S, i_iinc i d n lv st S (OK p l e R s m args below meth c Q D cA A ci ly ja AD rel nL) → (OK p l e R s m args below meth c Q D cA A ci ly ja AD rel nL) pc lv st S := by
  intro lv st S h
  subst hn
  change k_iinc i d _ lv st S _ (lget lv i) at h
  rcases hg : lget lv i with _ | (a | x | d9 | k9)
  all_goals rw [hg] at h
  · exact h.elim
  · intro ad ha H locs ls cells slots hr hP hD hS hL
    have hL2 := hL.has
    obtain ⟨k, hk⟩ : ∃ k, (prs ad lv)[k]? = some (i, Value.int (iI a)) := List.getElem?_of_mem (mem_prs.mpr ⟨_, hg, rfl⟩)
    exact lv_iinc (v := iI (a + d)) hx hb hd hL2 hk (iI_add a d) hi rfl (fun ls' hl' => h ad ha H locs ls' cells slots hr hP hD hS (LR.st1 (v := vI (a + d)) (hL.lok hg) hl'))
  · exact h.elim
  · exact h.elim
  · exact h.elim
theorem s_dup (hx : p.tables.exec = Jvm.exec) (hb : c.code = cc) (hd : decode cc pc = .ok (.dup, 1)) (hn : n = pc + 1) : ∀ lv st S, i_dup n lv st S (OK p l e R s m args below meth c Q D cA A ci ly ja AD rel nL) → (OK p l e R s m args below meth c Q D cA A ci ly ja AD rel nL) pc lv st S := by
  intro lv st S h
  subst hn
  rcases st with _ | ⟨a | x | d | k9, r⟩
  · exact h.elim
  · intro ad ha H locs ls cells slots hr hP hD hS hL
    exact lv_dup hx hb hd rfl (h ad ha H locs ls cells slots hr hP hD hS hL)
  · exact h.elim
  · exact h.elim
  · intro ad ha H locs ls cells slots hr hP hD hS hL
    exact lv_dup hx hb hd rfl (h ad ha H locs ls cells slots hr hP hD hS hL)
theorem s_iadd (hx : p.tables.exec = Jvm.exec) (hb : c.code = cc) (hd : decode cc pc = .ok (.iadd, 1)) (hn : n = pc + 1) : ∀ lv st S, i_iadd n lv st S (OK p l e R s m args below meth c Q D cA A ci ly ja AD rel nL) → (OK p l e R s m args below meth c Q D cA A ci ly ja AD rel nL) pc lv st S := by
  intro lv st S h
  subst hn
  rcases st with _ | ⟨b | b | b | b, st⟩
  · exact h.elim
  · rcases st with _ | ⟨a | a | a | a, r⟩
    · exact h.elim
    · intro ad ha H locs ls cells slots hr hP hD hS hL
      refine lv_iadd hx hb hd ?_
      rw [iI_add]
      exact h ad ha H locs ls cells slots hr hP hD hS hL
    · exact h.elim
    · exact h.elim
    · exact h.elim
  · exact h.elim
  · exact h.elim
  · exact h.elim
theorem s_isub (hx : p.tables.exec = Jvm.exec) (hb : c.code = cc) (hd : decode cc pc = .ok (.isub, 1)) (hn : n = pc + 1) : ∀ lv st S, i_isub n lv st S (OK p l e R s m args below meth c Q D cA A ci ly ja AD rel nL) → (OK p l e R s m args below meth c Q D cA A ci ly ja AD rel nL) pc lv st S := by
  intro lv st S h
  subst hn
  rcases st with _ | ⟨b | b | b | b, st⟩
  · exact h.elim
  · rcases st with _ | ⟨a | a | a | a, r⟩
    · exact h.elim
    · intro ad ha H locs ls cells slots hr hP hD hS hL
      refine lv_isub hx hb hd ?_
      rw [iI_sub]
      exact h ad ha H locs ls cells slots hr hP hD hS hL
    · exact h.elim
    · exact h.elim
    · exact h.elim
  · exact h.elim
  · exact h.elim
  · exact h.elim
theorem s_imul (hx : p.tables.exec = Jvm.exec) (hb : c.code = cc) (hd : decode cc pc = .ok (.imul, 1)) (hn : n = pc + 1) : ∀ lv st S, i_imul n lv st S (OK p l e R s m args below meth c Q D cA A ci ly ja AD rel nL) → (OK p l e R s m args below meth c Q D cA A ci ly ja AD rel nL) pc lv st S := by
  intro lv st S h
  subst hn
  rcases st with _ | ⟨b | b | b | b, st⟩
  · exact h.elim
  · rcases st with _ | ⟨a | a | a | a, r⟩
    · exact h.elim
    · intro ad ha H locs ls cells slots hr hP hD hS hL
      refine lv_imul hx hb hd ?_
      rw [iI_mul]
      exact h ad ha H locs ls cells slots hr hP hD hS hL
    · exact h.elim
    · exact h.elim
    · exact h.elim
  · exact h.elim
  · exact h.elim
  · exact h.elim
theorem s_idiv (hx : p.tables.exec = Jvm.exec) (hb : c.code = cc) (hd : decode cc pc = .ok (.idiv, 1)) (hn : n = pc + 1) : ∀ lv st S, i_idiv n lv st S (OK p l e R s m args below meth c Q D cA A ci ly ja AD rel nL) → (OK p l e R s m args below meth c Q D cA A ci ly ja AD rel nL) pc lv st S := by
  intro lv st S h
  subst hn
  rcases st with _ | ⟨b | b | b | b, st⟩
  · exact h.elim
  · rcases st with _ | ⟨a | a | a | a, r⟩
    · exact h.elim
    · obtain ⟨⟨ha', hb'⟩, h⟩ := h
      intro ad ha H locs ls cells slots hr hP hD hS hL
      refine lv_idiv hx hb hd (iI_ne0 hb') ?_
      rw [iI_div ha' hb']
      exact h ad ha H locs ls cells slots hr hP hD hS hL
    · exact h.elim
    · exact h.elim
    · exact h.elim
  · exact h.elim
  · exact h.elim
  · exact h.elim
theorem s_irem (hx : p.tables.exec = Jvm.exec) (hb : c.code = cc) (hd : decode cc pc = .ok (.irem, 1)) (hn : n = pc + 1) : ∀ lv st S, i_irem n lv st S (OK p l e R s m args below meth c Q D cA A ci ly ja AD rel nL) → (OK p l e R s m args below meth c Q D cA A ci ly ja AD rel nL) pc lv st S := by
  intro lv st S h
  subst hn
  rcases st with _ | ⟨b | b | b | b, st⟩
  · exact h.elim
  · rcases st with _ | ⟨a | a | a | a, r⟩
    · exact h.elim
    · obtain ⟨⟨ha', hb'⟩, h⟩ := h
      intro ad ha H locs ls cells slots hr hP hD hS hL
      refine lv_irem hx hb hd (iI_ne0 hb') ?_
      rw [iI_rem ha' hb']
      exact h ad ha H locs ls cells slots hr hP hD hS hL
    · exact h.elim
    · exact h.elim
    · exact h.elim
  · exact h.elim
  · exact h.elim
  · exact h.elim
theorem s_ladd (hx : p.tables.exec = Jvm.exec) (hb : c.code = cc) (hd : decode cc pc = .ok (.ladd, 1)) (hn : n = pc + 1) : ∀ lv st S, i_ladd n lv st S (OK p l e R s m args below meth c Q D cA A ci ly ja AD rel nL) → (OK p l e R s m args below meth c Q D cA A ci ly ja AD rel nL) pc lv st S := by
  intro lv st S h
  subst hn
  rcases st with _ | ⟨b | b | b | b, st⟩
  · exact h.elim
  · exact h.elim
  · rcases st with _ | ⟨a | a | a | a, r⟩
    · exact h.elim
    · exact h.elim
    · intro ad ha H locs ls cells slots hr hP hD hS hL
      exact lv_ladd hx hb hd (h ad ha H locs ls cells slots hr hP hD hS hL)
    · exact h.elim
    · exact h.elim
  · exact h.elim
  · exact h.elim
theorem s_lmul (hx : p.tables.exec = Jvm.exec) (hb : c.code = cc) (hd : decode cc pc = .ok (.lmul, 1)) (hn : n = pc + 1) : ∀ lv st S, i_lmul n lv st S (OK p l e R s m args below meth c Q D cA A ci ly ja AD rel nL) → (OK p l e R s m args below meth c Q D cA A ci ly ja AD rel nL) pc lv st S := by
  intro lv st S h
  subst hn
  rcases st with _ | ⟨b | b | b | b, st⟩
  · exact h.elim
  · exact h.elim
  · rcases st with _ | ⟨a | a | a | a, r⟩
    · exact h.elim
    · exact h.elim
    · intro ad ha H locs ls cells slots hr hP hD hS hL
      exact lv_lmul hx hb hd (h ad ha H locs ls cells slots hr hP hD hS hL)
    · exact h.elim
    · exact h.elim
  · exact h.elim
  · exact h.elim
theorem s_ddiv (hx : p.tables.exec = Jvm.exec) (hb : c.code = cc) (hd : decode cc pc = .ok (.ddiv, 1)) (hn : n = pc + 1) : ∀ lv st S, i_ddiv n lv st S (OK p l e R s m args below meth c Q D cA A ci ly ja AD rel nL) → (OK p l e R s m args below meth c Q D cA A ci ly ja AD rel nL) pc lv st S := by
  intro lv st S h
  subst hn
  rcases st with _ | ⟨b | b | b | b, st⟩
  · exact h.elim
  · exact h.elim
  · exact h.elim
  · rcases st with _ | ⟨a | a | a | a, r⟩
    · exact h.elim
    · exact h.elim
    · exact h.elim
    · obtain ⟨hne, h⟩ := h
      intro ad ha H locs ls cells slots hr hP hD hS hL
      exact lv_ddiv hx hb hd hne (h ad ha H locs ls cells slots hr hP hD hS hL)
    · exact h.elim
  · exact h.elim
theorem s_i2l (hx : p.tables.exec = Jvm.exec) (hb : c.code = cc) (hd : decode cc pc = .ok (.i2l, 1)) (hn : n = pc + 1) : ∀ lv st S, i_i2l n lv st S (OK p l e R s m args below meth c Q D cA A ci ly ja AD rel nL) → (OK p l e R s m args below meth c Q D cA A ci ly ja AD rel nL) pc lv st S := by
  intro lv st S h
  subst hn
  rcases st with _ | ⟨a | x | d | k9, r⟩
  · exact h.elim
  · intro ad ha H locs ls cells slots hr hP hD hS hL
    exact lv_i2l hx hb hd rfl (h ad ha H locs ls cells slots hr hP hD hS hL)
  · exact h.elim
  · exact h.elim
  · exact h.elim
theorem s_i2d (hx : p.tables.exec = Jvm.exec) (hb : c.code = cc) (hd : decode cc pc = .ok (.i2d, 1)) (hn : n = pc + 1) : ∀ lv st S, i_i2d n lv st S (OK p l e R s m args below meth c Q D cA A ci ly ja AD rel nL) → (OK p l e R s m args below meth c Q D cA A ci ly ja AD rel nL) pc lv st S := by
  intro lv st S h
  subst hn
  rcases st with _ | ⟨a | x | d | k9, r⟩
  · exact h.elim
  · intro ad ha H locs ls cells slots hr hP hD hS hL
    exact lv_i2d hx hb hd (h ad ha H locs ls cells slots hr hP hD hS hL)
  · exact h.elim
  · exact h.elim
  · exact h.elim
theorem s_dup2 (hx : p.tables.exec = Jvm.exec) (hb : c.code = cc) (hd : decode cc pc = .ok (.dup2, 1)) (hn : n = pc + 1) : ∀ lv st S, i_dup2 n lv st S (OK p l e R s m args below meth c Q D cA A ci ly ja AD rel nL) → (OK p l e R s m args below meth c Q D cA A ci ly ja AD rel nL) pc lv st S := by
  intro lv st S h
  subst hn
  rcases st with _ | ⟨b | b | b | b, st⟩
  · exact h.elim
  · rcases st with _ | ⟨a | a | a | a, r⟩
    · exact h.elim
    · exact h.elim
    · exact h.elim
    · exact h.elim
    · intro ad ha H locs ls cells slots hr hP hD hS hL
      exact lv_dup2_11 hx hb hd rfl rfl (h ad ha H locs ls cells slots hr hP hD hS hL)
  · exact h.elim
  · exact h.elim
  · exact h.elim
theorem s_icmp_eq (hx : p.tables.exec = Jvm.exec) (hb : c.code = cc) {off : Int} {t : Nat} (htg : (pc : Int) + off = (t : Int)) (hd : decode cc pc = .ok (.if_icmp .eq off, 3)) (hn : n = pc + 3) : ∀ lv st S, i_icmp (fun a b => a = b) t n lv st S (OK p l e R s m args below meth c Q D cA A ci ly ja AD rel nL) → (OK p l e R s m args below meth c Q D cA A ci ly ja AD rel nL) pc lv st S := by
  intro lv st S h
  subst hn
  rcases st with _ | ⟨b | b | b | b, st⟩
  · exact h.elim
  · rcases st with _ | ⟨a | a | a | a, r⟩
    · exact h.elim
    · obtain ⟨⟨hr1, hr2⟩, ht, hf⟩ := h
      intro ad ha H locs ls cells slots hr hP hD hS hL
      exact lv_icmp_eq hx hb hd htg (fun z => ht ((iI_eq hr1 hr2).mp z) ad ha H locs ls cells slots hr hP hD hS hL) (fun z => hf (fun y => z ((iI_eq hr1 hr2).mpr y)) ad ha H locs ls cells slots hr hP hD hS hL)
    · exact h.elim
    · exact h.elim
    · exact h.elim
  · exact h.elim
  · exact h.elim
  · exact h.elim
theorem s_if_eq (hx : p.tables.exec = Jvm.exec) (hb : c.code = cc) {off : Int} {t : Nat} (htg : (pc : Int) + off = (t : Int)) (hd : decode cc pc = .ok (.ifCond .eq off, 3)) (hn : n = pc + 3) : ∀ lv st S, i_if (fun a => a = 0) t n lv st S (OK p l e R s m args below meth c Q D cA A ci ly ja AD rel nL) → (OK p l e R s m args below meth c Q D cA A ci ly ja AD rel nL) pc lv st S := by
  intro lv st S h
  subst hn
  rcases st with _ | ⟨a | x | d | k9, r⟩
  · exact h.elim
  · obtain ⟨hr1, ht, hf⟩ := h
    intro ad ha H locs ls cells slots hr hP hD hS hL
    refine lv_if_eq hx hb hd htg (fun z => ?_) (fun z => ?_)
    · rw [← iI_0] at z
      exact ht ((iI_eq hr1 rng0).mp z) ad ha H locs ls cells slots hr hP hD hS hL
    · rw [← iI_0] at z
      exact hf (fun y => z ((iI_eq hr1 rng0).mpr y)) ad ha H locs ls cells slots hr hP hD hS hL
  · exact h.elim
  · exact h.elim
  · exact h.elim
theorem s_icmp_ne (hx : p.tables.exec = Jvm.exec) (hb : c.code = cc) {off : Int} {t : Nat} (htg : (pc : Int) + off = (t : Int)) (hd : decode cc pc = .ok (.if_icmp .ne off, 3)) (hn : n = pc + 3) : ∀ lv st S, i_icmp (fun a b => a ≠ b) t n lv st S (OK p l e R s m args below meth c Q D cA A ci ly ja AD rel nL) → (OK p l e R s m args below meth c Q D cA A ci ly ja AD rel nL) pc lv st S := by
  intro lv st S h
  subst hn
  rcases st with _ | ⟨b | b | b | b, st⟩
  · exact h.elim
  · rcases st with _ | ⟨a | a | a | a, r⟩
    · exact h.elim
    · obtain ⟨⟨hr1, hr2⟩, ht, hf⟩ := h
      intro ad ha H locs ls cells slots hr hP hD hS hL
      exact lv_icmp_ne hx hb hd htg (fun z => ht ((not_congr (iI_eq hr1 hr2)).mp z) ad ha H locs ls cells slots hr hP hD hS hL) (fun z => hf (fun y => y ((iI_eq hr1 hr2).mp z)) ad ha H locs ls cells slots hr hP hD hS hL)
    · exact h.elim
    · exact h.elim
    · exact h.elim
  · exact h.elim
  · exact h.elim
  · exact h.elim
theorem s_if_ne (hx : p.tables.exec = Jvm.exec) (hb : c.code = cc) {off : Int} {t : Nat} (htg : (pc : Int) + off = (t : Int)) (hd : decode cc pc = .ok (.ifCond .ne off, 3)) (hn : n = pc + 3) : ∀ lv st S, i_if (fun a => a ≠ 0) t n lv st S (OK p l e R s m args below meth c Q D cA A ci ly ja AD rel nL) → (OK p l e R s m args below meth c Q D cA A ci ly ja AD rel nL) pc lv st S := by
  intro lv st S h
  subst hn
  rcases st with _ | ⟨a | x | d | k9, r⟩
  · exact h.elim
  · obtain ⟨hr1, ht, hf⟩ := h
    intro ad ha H locs ls cells slots hr hP hD hS hL
    refine lv_if_ne hx hb hd htg (fun z => ?_) (fun z => ?_)
    · rw [← iI_0] at z
      exact ht ((not_congr (iI_eq hr1 rng0)).mp z) ad ha H locs ls cells slots hr hP hD hS hL
    · rw [← iI_0] at z
      exact hf (fun y => y ((iI_eq hr1 rng0).mp z)) ad ha H locs ls cells slots hr hP hD hS hL
  · exact h.elim
  · exact h.elim
  · exact h.elim
theorem s_icmp_lt (hx : p.tables.exec = Jvm.exec) (hb : c.code = cc) {off : Int} {t : Nat} (htg : (pc : Int) + off = (t : Int)) (hd : decode cc pc = .ok (.if_icmp .lt off, 3)) (hn : n = pc + 3) : ∀ lv st S, i_icmp (fun a b => a < b) t n lv st S (OK p l e R s m args below meth c Q D cA A ci ly ja AD rel nL) → (OK p l e R s m args below meth c Q D cA A ci ly ja AD rel nL) pc lv st S := by
  intro lv st S h
  subst hn
  rcases st with _ | ⟨b | b | b | b, st⟩
  · exact h.elim
  · rcases st with _ | ⟨a | a | a | a, r⟩
    · exact h.elim
    · obtain ⟨⟨hr1, hr2⟩, ht, hf⟩ := h
      intro ad ha H locs ls cells slots hr hP hD hS hL
      exact lv_icmp_lt hx hb hd htg (fun z => ht ((iI_lt hr1 hr2).mp z) ad ha H locs ls cells slots hr hP hD hS hL) (fun z => hf (fun y => z ((iI_lt hr1 hr2).mpr y)) ad ha H locs ls cells slots hr hP hD hS hL)
    · exact h.elim
    · exact h.elim
    · exact h.elim
  · exact h.elim
  · exact h.elim
  · exact h.elim
theorem s_if_lt (hx : p.tables.exec = Jvm.exec) (hb : c.code = cc) {off : Int} {t : Nat} (htg : (pc : Int) + off = (t : Int)) (hd : decode cc pc = .ok (.ifCond .lt off, 3)) (hn : n = pc + 3) : ∀ lv st S, i_if (fun a => a < 0) t n lv st S (OK p l e R s m args below meth c Q D cA A ci ly ja AD rel nL) → (OK p l e R s m args below meth c Q D cA A ci ly ja AD rel nL) pc lv st S := by
  intro lv st S h
  subst hn
  rcases st with _ | ⟨a | x | d | k9, r⟩
  · exact h.elim
  · obtain ⟨hr1, ht, hf⟩ := h
    intro ad ha H locs ls cells slots hr hP hD hS hL
    refine lv_if_lt hx hb hd htg (fun z => ?_) (fun z => ?_)
    · rw [← iI_0] at z
      exact ht ((iI_lt hr1 rng0).mp z) ad ha H locs ls cells slots hr hP hD hS hL
    · rw [← iI_0] at z
      exact hf (fun y => z ((iI_lt hr1 rng0).mpr y)) ad ha H locs ls cells slots hr hP hD hS hL
  · exact h.elim
  · exact h.elim
  · exact h.elim
theorem s_icmp_ge (hx : p.tables.exec = Jvm.exec) (hb : c.code = cc) {off : Int} {t : Nat} (htg : (pc : Int) + off = (t : Int)) (hd : decode cc pc = .ok (.if_icmp .ge off, 3)) (hn : n = pc + 3) : ∀ lv st S, i_icmp (fun a b => a ≥ b) t n lv st S (OK p l e R s m args below meth c Q D cA A ci ly ja AD rel nL) → (OK p l e R s m args below meth c Q D cA A ci ly ja AD rel nL) pc lv st S := by
  intro lv st S h
  subst hn
  rcases st with _ | ⟨b | b | b | b, st⟩
  · exact h.elim
  · rcases st with _ | ⟨a | a | a | a, r⟩
    · exact h.elim
    · obtain ⟨⟨hr1, hr2⟩, ht, hf⟩ := h
      intro ad ha H locs ls cells slots hr hP hD hS hL
      exact lv_icmp_ge hx hb hd htg (fun z => ht ((iI_le hr2 hr1).mp z) ad ha H locs ls cells slots hr hP hD hS hL) (fun z => hf (fun y => z ((iI_le hr2 hr1).mpr y)) ad ha H locs ls cells slots hr hP hD hS hL)
    · exact h.elim
    · exact h.elim
    · exact h.elim
  · exact h.elim
  · exact h.elim
  · exact h.elim
theorem s_if_ge (hx : p.tables.exec = Jvm.exec) (hb : c.code = cc) {off : Int} {t : Nat} (htg : (pc : Int) + off = (t : Int)) (hd : decode cc pc = .ok (.ifCond .ge off, 3)) (hn : n = pc + 3) : ∀ lv st S, i_if (fun a => a ≥ 0) t n lv st S (OK p l e R s m args below meth c Q D cA A ci ly ja AD rel nL) → (OK p l e R s m args below meth c Q D cA A ci ly ja AD rel nL) pc lv st S := by
  intro lv st S h
  subst hn
  rcases st with _ | ⟨a | x | d | k9, r⟩
  · exact h.elim
  · obtain ⟨hr1, ht, hf⟩ := h
    intro ad ha H locs ls cells slots hr hP hD hS hL
    refine lv_if_ge hx hb hd htg (fun z => ?_) (fun z => ?_)
    · rw [← iI_0] at z
      exact ht ((iI_le rng0 hr1).mp z) ad ha H locs ls cells slots hr hP hD hS hL
    · rw [← iI_0] at z
      exact hf (fun y => z ((iI_le rng0 hr1).mpr y)) ad ha H locs ls cells slots hr hP hD hS hL
  · exact h.elim
  · exact h.elim
  · exact h.elim
theorem s_icmp_gt (hx : p.tables.exec = Jvm.exec) (hb : c.code = cc) {off : Int} {t : Nat} (htg : (pc : Int) + off = (t : Int)) (hd : decode cc pc = .ok (.if_icmp .gt off, 3)) (hn : n = pc + 3) : ∀ lv st S, i_icmp (fun a b => a > b) t n lv st S (OK p l e R s m args below meth c Q D cA A ci ly ja AD rel nL) → (OK p l e R s m args below meth c Q D cA A ci ly ja AD rel nL) pc lv st S := by
  intro lv st S h
  subst hn
  rcases st with _ | ⟨b | b | b | b, st⟩
  · exact h.elim
  · rcases st with _ | ⟨a | a | a | a, r⟩
    · exact h.elim
    · obtain ⟨⟨hr1, hr2⟩, ht, hf⟩ := h
      intro ad ha H locs ls cells slots hr hP hD hS hL
      exact lv_icmp_gt hx hb hd htg (fun z => ht ((iI_lt hr2 hr1).mp z) ad ha H locs ls cells slots hr hP hD hS hL) (fun z => hf (fun y => z ((iI_lt hr2 hr1).mpr y)) ad ha H locs ls cells slots hr hP hD hS hL)
    · exact h.elim
    · exact h.elim
    · exact h.elim
  · exact h.elim
  · exact h.elim
  · exact h.elim
theorem s_if_gt (hx : p.tables.exec = Jvm.exec) (hb : c.code = cc) {off : Int} {t : Nat} (htg : (pc : Int) + off = (t : Int)) (hd : decode cc pc = .ok (.ifCond .gt off, 3)) (hn : n = pc + 3) : ∀ lv st S, i_if (fun a => a > 0) t n lv st S (OK p l e R s m args below meth c Q D cA A ci ly ja AD rel nL) → (OK p l e R s m args below meth c Q D cA A ci ly ja AD rel nL) pc lv st S := by
  intro lv st S h
  subst hn
  rcases st with _ | ⟨a | x | d | k9, r⟩
  · exact h.elim
  · obtain ⟨hr1, ht, hf⟩ := h
    intro ad ha H locs ls cells slots hr hP hD hS hL
    refine lv_if_gt hx hb hd htg (fun z => ?_) (fun z => ?_)
    · rw [← iI_0] at z
      exact ht ((iI_lt rng0 hr1).mp z) ad ha H locs ls cells slots hr hP hD hS hL
    · rw [← iI_0] at z
      exact hf (fun y => z ((iI_lt rng0 hr1).mpr y)) ad ha H locs ls cells slots hr hP hD hS hL
  · exact h.elim
  · exact h.elim
  · exact h.elim
theorem s_icmp_le (hx : p.tables.exec = Jvm.exec) (hb : c.code = cc) {off : Int} {t : Nat} (htg : (pc : Int) + off = (t : Int)) (hd : decode cc pc = .ok (.if_icmp .le off, 3)) (hn : n = pc + 3) : ∀ lv st S, i_icmp (fun a b => a ≤ b) t n lv st S (OK p l e R s m args below meth c Q D cA A ci ly ja AD rel nL) → (OK p l e R s m args below meth c Q D cA A ci ly ja AD rel nL) pc lv st S := by
  intro lv st S h
  subst hn
  rcases st with _ | ⟨b | b | b | b, st⟩
  · exact h.elim
  · rcases st with _ | ⟨a | a | a | a, r⟩
    · exact h.elim
    · obtain ⟨⟨hr1, hr2⟩, ht, hf⟩ := h
      intro ad ha H locs ls cells slots hr hP hD hS hL
      exact lv_icmp_le hx hb hd htg (fun z => ht ((iI_le hr1 hr2).mp z) ad ha H locs ls cells slots hr hP hD hS hL) (fun z => hf (fun y => z ((iI_le hr1 hr2).mpr y)) ad ha H locs ls cells slots hr hP hD hS hL)
    · exact h.elim
    · exact h.elim
    · exact h.elim
  · exact h.elim
  · exact h.elim
  · exact h.elim
theorem s_if_le (hx : p.tables.exec = Jvm.exec) (hb : c.code = cc) {off : Int} {t : Nat} (htg : (pc : Int) + off = (t : Int)) (hd : decode cc pc = .ok (.ifCond .le off, 3)) (hn : n = pc + 3) : ∀ lv st S, i_if (fun a => a ≤ 0) t n lv st S (OK p l e R s m args below meth c Q D cA A ci ly ja AD rel nL) → (OK p l e R s m args below meth c Q D cA A ci ly ja AD rel nL) pc lv st S := by
  intro lv st S h
  subst hn
  rcases st with _ | ⟨a | x | d | k9, r⟩
  · exact h.elim
  · obtain ⟨hr1, ht, hf⟩ := h
    intro ad ha H locs ls cells slots hr hP hD hS hL
    refine lv_if_le hx hb hd htg (fun z => ?_) (fun z => ?_)
    · rw [← iI_0] at z
      exact ht ((iI_le hr1 rng0).mp z) ad ha H locs ls cells slots hr hP hD hS hL
    · rw [← iI_0] at z
      exact hf (fun y => z ((iI_le hr1 rng0).mpr y)) ad ha H locs ls cells slots hr hP hD hS hL
  · exact h.elim
  · exact h.elim
  · exact h.elim
theorem s_goto (hx : p.tables.exec = Jvm.exec) (hb : c.code = cc) {off : Int} {t : Nat} (htg : (pc : Int) + off = (t : Int)) (hd : decode cc pc = .ok (.goto off, 3)) : ∀ lv st S, i_goto t lv st S (OK p l e R s m args below meth c Q D cA A ci ly ja AD rel nL) → (OK p l e R s m args below meth c Q D cA A ci ly ja AD rel nL) pc lv st S := by
  intro lv st S h
  intro ad ha H locs ls cells slots hr hP hD hS hL
  exact lv_goto hx hb hd htg (h ad ha H locs ls cells slots hr hP hD hS hL)
theorem s_switch (hx : p.tables.exec = Jvm.exec) (hb : c.code = cc) {dflt lo hi : Int} {offs : Array Int} {len d : Nat} {ts : List (Int × Nat)} (hd : decode cc pc = .ok (.tableswitch dflt lo hi offs, len)) (hdf : (pc : Int) + dflt = (d : Int)) (hts : ∀ q ∈ ts, lo ≤ q.1 ∧ q.1 ≤ hi ∧ ∃ off, offs[(q.1 - lo).toNat]? = some off ∧ (pc : Int) + off = (q.2 : Int)) (hall : ∀ a : Int, lo ≤ a → a ≤ hi → ∃ q ∈ ts, q.1 = a) : ∀ lv st S, i_switch ts d lv st S (OK p l e R s m args below meth c Q D cA A ci ly ja AD rel nL) → (OK p l e R s m args below meth c Q D cA A ci ly ja AD rel nL) pc lv st S := by
  intro lv st S h
  rcases st with _ | ⟨a | x | d | k9, r⟩
  · exact h.elim
  · obtain ⟨hr1, h⟩ := h
    intro ad ha H locs ls cells slots hr hP hD hS hL
    have key : ∀ ts' : List (Int × Nat), (∀ q ∈ ts', q ∈ ts) → tsw (OK p l e R s m args below meth c Q D cA A ci ly ja AD rel nL) lv r S a d ts' → (∃ q ∈ ts', q.1 = a ∧ (OK p l e R s m args below meth c Q D cA A ci ly ja AD rel nL) q.2 lv r S) ∨ ((∀ q ∈ ts', q.1 ≠ a) ∧ (OK p l e R s m args below meth c Q D cA A ci ly ja AD rel nL) d lv r S) := by
      intro ts'
      induction ts' with
      | nil => intro _ z; exact Or.inr ⟨fun q hq => (by cases hq), z⟩
      | cons q qs ih =>
        intro hm z
        obtain ⟨k, t⟩ := q
        by_cases hk : a = k
        · exact Or.inl ⟨(k, t), List.mem_cons_self, hk.symm, z.1 hk⟩
        · rcases ih (fun q hq => hm q (List.mem_cons_of_mem _ hq)) (z.2 hk) with ⟨q, h1, h2⟩ | ⟨h1, h2⟩
          · exact Or.inl ⟨q, List.mem_cons_of_mem _ h1, h2⟩
          · refine Or.inr ⟨fun q hq => ?_, h2⟩
            rcases List.mem_cons.mp hq with rfl | hq
            · exact fun e => hk e.symm
            · exact h1 q hq
    have hai : (iI a).toInt = a := iI_toInt hr1
    rcases key ts (fun q hq => hq) h with ⟨q, hq, hqa, hw⟩ | ⟨hno, hw⟩
    · obtain ⟨h1, h2, off, h3, h4⟩ := hts q hq
      subst hqa
      exact lv_tableIn hx hb hd (by rw [hai]; omega) (by rw [hai]; omega) (by rw [hai]; exact h3) h4 (hw ad ha H locs ls cells slots hr hP hD hS hL)
    · refine lv_tableOut hx hb hd ?_ hdf (hw ad ha H locs ls cells slots hr hP hD hS hL)
      rw [hai]
      rcases Int.lt_or_le a lo with q | q
      · exact Or.inl q
      · rcases Int.lt_or_le hi a with q2 | q2
        · exact Or.inr q2
        · obtain ⟨z, hz, hza⟩ := hall a q q2
          exact absurd hza (hno z hz)
  · exact h.elim
  · exact h.elim
  · exact h.elim
theorem s_getI (hx : p.tables.exec = Jvm.exec) (hb : c.code = cc) {C : String} {T : u_T} {N index k : Nat} {Ts : List Cond} (hts : ∀ w ∈ Ts, w.before args s = true) (hin : ∀ w ∈ u_ws C T N, w ∈ Ts) (hown : s.vm.findClass C = some m.cls) (hK : va_K D vwCl [(cA, .int)] s) (hc : vwCl[ci]? = some (C, T, N)) (hk : k < N) (hlink : (Cond.fieldLink C index C (T k).2.1 (T k).2.2.1).before args s = true) (hsame : (T k).1 = C) (hd : decode cc pc = .ok (.getfield index, 3)) (hn : n = pc + 3) (hly : ly[k]? = some false) : ∀ lv st S, i_getI k n lv st S (OK p l e R s m args below meth c Q D cA A ci ly ja AD rel nL) → (OK p l e R s m args below meth c Q D cA A ci ly ja AD rel nL) pc lv st S := by
  intro lv st S h
  subst hn
  rcases st with _ | ⟨a | x | d | k9, r⟩
  · exact h.elim
  · exact h.elim
  · exact h.elim
  · exact h.elim
  · cases k9 with
    | succ k8 => exact h.elim
    | zero =>
      intro ad ha H locs ls cells slots hr hP hD hS hL
      exact va_get hx hb hts hin hown hK hP 0 rfl hc k hk hlink (fun _ h9 => by rw [hsame] at h9; exact h9) (o_f_get hly) hd (h ad ha H locs ls cells slots hr hP hD hS hL)
theorem s_getA (hx : p.tables.exec = Jvm.exec) (hb : c.code = cc) {C : String} {T : u_T} {N index k : Nat} {Ts : List Cond} (hts : ∀ w ∈ Ts, w.before args s = true) (hin : ∀ w ∈ u_ws C T N, w ∈ Ts) (hown : s.vm.findClass C = some m.cls) (hK : va_K D vwCl [(cA, .int)] s) (hc : vwCl[ci]? = some (C, T, N)) (hk : k < N) (hlink : (Cond.fieldLink C index C (T k).2.1 (T k).2.2.1).before args s = true) (hsame : (T k).1 = C) (hd : decode cc pc = .ok (.getfield index, 3)) (hn : n = pc + 3) (hly : ly[k]? = some true) (hk9 : k < 99) : ∀ lv st S, i_getA k n lv st S (OK p l e R s m args below meth c Q D cA A ci ly ja AD rel nL) → (OK p l e R s m args below meth c Q D cA A ci ly ja AD rel nL) pc lv st S := by
  intro lv st S h
  subst hn
  rcases st with _ | ⟨a | x | d | k9, r⟩
  · exact h.elim
  · exact h.elim
  · exact h.elim
  · exact h.elim
  · cases k9 with
    | succ k8 => exact h.elim
    | zero =>
      intro ad ha H locs ls cells slots hr hP hD hS hL
      exact va_get hx hb hts hin hown hK hP 0 rfl hc k hk hlink (fun _ h9 => by rw [hsame] at h9; exact h9) (o_f_get hly) hd (h ad ha H locs ls cells slots hr hP hD hS hL)
theorem s_putI (hx : p.tables.exec = Jvm.exec) (hb : c.code = cc) {C : String} {T : u_T} {N index k : Nat} {Ts : List Cond} (hts : ∀ w ∈ Ts, w.before args s = true) (hin : ∀ w ∈ u_ws C T N, w ∈ Ts) (hown : s.vm.findClass C = some m.cls) (hK : va_K D vwCl [(cA, .int)] s) (hc : vwCl[ci]? = some (C, T, N)) (hk : k < N) (hlink : (Cond.fieldLink C index C (T k).2.1 (T k).2.2.1).before args s = true) (hsame : (T k).1 = C) (ty0 : Nat → FieldType) (hty : ∀ k, k < N → parseFieldDescriptor (T k).2.2.1 = some (ty0 k)) (hnm : ∀ a, a < N → ∀ b, b < N → a ≠ b → (T a).2.1 ≠ (T b).2.1) (hfin : (T k).2.2.2 = false) (hdsc : parseFieldDescriptor (T k).2.2.1 = some .int) (hd : decode cc pc = .ok (.putfield index, 3)) (hn : n = pc + 3) (hly : ly[k]? = some false) : ∀ lv st S, i_putI k n lv st S (OK p l e R s m args below meth c Q D cA A ci ly ja AD rel nL) → (OK p l e R s m args below meth c Q D cA A ci ly ja AD rel nL) pc lv st S := by
  intro lv st S h
  subst hn
  rcases st with _ | ⟨v | x | d | k9, st⟩
  · exact h.elim
  · rcases st with _ | ⟨a | x | d | k9, r⟩
    · exact h.elim
    · exact h.elim
    · exact h.elim
    · exact h.elim
    · cases k9 with
      | succ k8 => exact h.elim
      | zero =>
        intro ad ha H locs ls cells slots hr hP hD hS hL
        refine va_put hx hb hts hin ty0 hty hnm hown hK hP hD hS 0 rfl hc k hk hlink (fun _ h9 => by rw [hsame] at h9; exact h9) hfin (ty := .int) (v := .int (iI v)) hdsc rfl rfl (by unfold o_f; rw [List.length_mapIdx]; exact (List.getElem?_eq_some_iff.mp hly).1) hd (fun H1 locs1 hP1 hD1 hS1 => ?_)
        have hw : (wdO cA ci ly ja ad S).set 0 (ad 0, .inr (ci, (o_f ad S ly).set k (.int (iI v)))) = wdO cA ci ly ja ad (pF S k v) := by
          rw [o_f_set hly]; rfl
        rw [hw] at hP1 hD1
        exact h ad ha H1 locs1 ls cells slots hr hP1 hD1 hS1 hL
  · exact h.elim
  · exact h.elim
  · exact h.elim
theorem s_iald (hx : p.tables.exec = Jvm.exec) (hb : c.code = cc) {ln : Nat → Nat} (hK : va_K D vwCl [(cA, .int)] s) (hln : ∀ k : Nat, 0 < ln k → ln k ≤ 2000 ∧ ∃ t : Nat, ja[t]? = some (k, ln k)) (hd : decode cc pc = .ok (.iaload, 1)) (hn : n = pc + 1) : ∀ lv st S, i_iald ln n lv st S (OK p l e R s m args below meth c Q D cA A ci ly ja AD rel nL) → (OK p l e R s m args below meth c Q D cA A ci ly ja AD rel nL) pc lv st S := by
  intro lv st S h
  subst hn
  rcases st with _ | ⟨i | x | d | k9, st⟩
  · exact h.elim
  · skip
    rcases st with _ | ⟨a | x | d | k, r⟩
    · exact h.elim
    · exact h.elim
    · exact h.elim
    · exact h.elim
    · obtain ⟨⟨h0, h1⟩, h⟩ := h
      intro ad ha H locs ls cells slots hr hP hD hS hL
      obtain ⟨h2, t, ht⟩ := hln k (by omega)
      refine va_iald hx hb hK hP (t + 1) 0 (wd_get ht) rfl (iI_in h0 h1 h2) hd ?_
      rw [iI_cl h0 (by omega)]
      exact h ad ha H locs ls cells slots hr hP hD hS hL
  · exact h.elim
  · exact h.elim
  · exact h.elim
theorem s_iast (hx : p.tables.exec = Jvm.exec) (hb : c.code = cc) {ln : Nat → Nat} (hK : va_K D vwCl [(cA, .int)] s) (hln : ∀ k : Nat, 0 < ln k → ln k ≤ 2000 ∧ ∃ t : Nat, ja[t]? = some (k, ln k)) (hu : ∀ (a b : Nat) (q q' : Nat × Nat), ja[a]? = some q → ja[b]? = some q' → q.1 = q'.1 → a = b) (hd : decode cc pc = .ok (.iastore, 1)) (hn : n = pc + 1) : ∀ lv st S, i_iast ln n lv st S (OK p l e R s m args below meth c Q D cA A ci ly ja AD rel nL) → (OK p l e R s m args below meth c Q D cA A ci ly ja AD rel nL) pc lv st S := by
  intro lv st S h
  subst hn
  rcases st with _ | ⟨v | x | d | k9, st⟩
  · exact h.elim
  · skip
    rcases st with _ | ⟨i | x | d | k9, st⟩
    · exact h.elim
    · skip
      rcases st with _ | ⟨a | x | d | k, r⟩
      · exact h.elim
      · exact h.elim
      · exact h.elim
      · exact h.elim
      · obtain ⟨⟨h0, h1⟩, h⟩ := h
        intro ad ha H locs ls cells slots hr hP hD hS hL
        obtain ⟨h2, t, ht⟩ := hln k (by omega)
        refine va_iast hx hb hK hP hD hS (t + 1) 0 (wd_get ht) rfl (iI_in h0 h1 h2) hd (fun H1 locs1 hP1 hD1 hS1 => ?_)
        rw [iI_cl h0 (by omega), wd_set ht hu] at hP1 hD1
        exact h ad ha H1 locs1 ls cells slots hr hP1 hD1 hS1 hL
    · exact h.elim
    · exact h.elim
    · exact h.elim
  · exact h.elim
  · exact h.elim
  · exact h.elim
theorem s_tald (hx : p.tables.exec = Jvm.exec) (hb : c.code = cc) (hK : va_K D vwCl [(cA, .int)] s) (hd : decode cc pc = .ok (.iaload, 1)) (hn : n = pc + 1) : ∀ lv st S, i_tald n lv st S (OK p l e R s m args below meth c Q D cA A ci ly ja AD rel nL) → (OK p l e R s m args below meth c Q D cA A ci ly ja AD rel nL) pc lv st S := by
  intro lv st S h
  subst hn
  unfold i_tald at h
  split at h
  · rename_i i r
    obtain ⟨⟨h0, h1⟩, h⟩ := h
    intro ad ha H locs ls cells slots hr hP hD hS hL
    have hlt : ∃ q, S.2.2.1 = some q ∧ i < (q.1 : Int) ∧ q.1 ≤ 2000 ∧ tget S i.toNat = q.2 i.toNat := by
      unfold tlen at h1
      cases hq : S.2.2.1 with
      | none => rw [hq] at h1; have h3 := h1.1; simp only at h3; omega
      | some q => rw [hq] at h1; exact ⟨q, rfl, h1.1, by have h3 : (q.1 : Nat) ≤ 100 := h1.2; omega, by unfold tget; rw [hq]⟩
    obtain ⟨q, hq, hi, hsz, hg⟩ := hlt
    refine va_iald hx hb hK hP (ja.length + 1) 0 (wd_tget hq) rfl (iI_in h0 hi hsz) hd ?_
    rw [iI_cl h0 (by omega), ← hg]
    exact h ad ha H locs ls cells slots hr hP hD hS hL
  · exact h.elim
theorem s_tast (hx : p.tables.exec = Jvm.exec) (hb : c.code = cc) (hK : va_K D vwCl [(cA, .int)] s) (hd : decode cc pc = .ok (.iastore, 1)) (hn : n = pc + 1) : ∀ lv st S, i_tast n lv st S (OK p l e R s m args below meth c Q D cA A ci ly ja AD rel nL) → (OK p l e R s m args below meth c Q D cA A ci ly ja AD rel nL) pc lv st S := by
  intro lv st S h
  subst hn
  unfold i_tast at h
  split at h
  · rename_i v i r
    obtain ⟨⟨h0, h1⟩, h⟩ := h
    intro ad ha H locs ls cells slots hr hP hD hS hL
    have hlt : ∃ q, S.2.2.1 = some q ∧ i < (q.1 : Int) ∧ q.1 ≤ 2000 ∧ tget S i.toNat = q.2 i.toNat := by
      unfold tlen at h1
      cases hq : S.2.2.1 with
      | none => rw [hq] at h1; have h3 := h1.1; simp only at h3; omega
      | some q => rw [hq] at h1; exact ⟨q, rfl, h1.1, by have h3 : (q.1 : Nat) ≤ 100 := h1.2; omega, by unfold tget; rw [hq]⟩
    obtain ⟨q, hq, hi, hsz, hg⟩ := hlt
    refine va_iast hx hb hK hP hD hS (ja.length + 1) 0 (wd_tget hq) rfl (iI_in h0 hi hsz) hd (fun H1 locs1 hP1 hD1 hS1 => ?_)
    rw [iI_cl h0 (by omega), wd_tset hq] at hP1 hD1
    exact h ad ha H1 locs1 ls cells slots hr hP1 hD1 hS1 hL
  · exact h.elim
theorem s_tnew (hx : p.tables.exec = Jvm.exec) (hb : c.code = cc) {w K M : Nat} (hAD : ∀ ad q, AD ad → AD (va_up ad 99 q)) (hK : va_K D vwCl [(cA, .int)] s) (hA : ∀ q, s.heap.size ≤ q → A q) (hRc : K ≤ R.cells) (hRs : M ≤ R.slots) (hrel : rel = relA K M) (harr : (Cond.arrayClass .int).before args s = true) (hly9 : ly.length ≤ 99) (hja : ∀ z ∈ ja, z.1 ≠ 99) (hd : decode cc pc = .ok (.newarray .int, 2)) (hn : n = pc + 2) : ∀ lv st S, i_tnew w K M n lv st S (OK p l e R s m args below meth c Q D cA A ci ly ja AD rel nL) → (OK p l e R s m args below meth c Q D cA A ci ly ja AD rel nL) pc lv st S := by
  intro lv st S h
  subst hn
  unfold i_tnew at h
  split at h
  · rename_i a
    obtain ⟨⟨rfl, hT, hw, hlv, hc1, hc2⟩, h⟩ := h
    intro ad ha H locs ls cells slots hr hP hD hS hL
    subst hrel
    obtain ⟨rfl, rfl, hc3, hc4⟩ := hr
    refine va_newa hx hb (atype := .int) (ty := .int) (a0 := (w, .inl (fun _ => iI 0))) harr rfl hK hP hD hS hA (fun _ => by rw [iI_0]; rfl) (N' := w) (by rw [← iI_0, iI_lt ⟨by omega, by omega⟩ rng0]; omega) (by rw [iI_cl (by omega) (by omega)]; omega) (by show w * 4 ≤ _; omega) (by omega) (by omega) hd (fun q cA' H1 hK1 hP1 hD1 hS1 => ?_)
    have hcA : cA' = cA := by
      have h1 : s.vm.findClass ("[" ++ FieldType.int.toString) = some cA' := (hK1.2 1 (cA', .int) rfl).2
      have h2 : s.vm.findClass ("[" ++ FieldType.int.toString) = some cA := (hK.2 0 (cA, .int) rfl).2
      exact Option.some.inj (h1.symm.trans h2)
    subst hcA
    have hcc : ∀ v : AV, v ≠ vR 99 → conc (va_up ad 99 q) v = conc ad v := by
      intro v hv
      rcases v with a | x | d | k9
      · rfl
      · rfl
      · rfl
      · have hk : k9 ≠ 99 := fun e => hv (by subst e; rfl)
        show Value.ref (va_up ad 99 q k9) = Value.ref (ad k9)
        simp [va_up, hk]
    have hw2 : wdO cA' ci ly ja ad S ++ [(q, .inl (cA', (w, .inl (fun _ => iI 0))))] = wdO cA' ci ly ja (va_up ad 99 q) (tnew S w) := by
      unfold wdO tw
      rw [hT]
      have e1 : o_f (va_up ad 99 q) (tnew S w) ly = o_f ad S ly := by
        unfold o_f
        apply List.ext_getElem?
        intro i
        simp only [List.getElem?_mapIdx]
        cases hb9 : ly[i]? with
        | none => rfl
        | some b =>
          cases b with
          | false => rfl
          | true =>
            have hi : i ≠ 99 := fun e => by
              subst e
              have := (List.getElem?_eq_some_iff.mp hb9).1
              omega
            simp [va_up, hi]
      have e2 : ja.map (o_r cA' (va_up ad 99 q) (tnew S w)) = ja.map (o_r cA' ad S) := by
        apply List.map_congr_left
        intro z hz
        have hi := hja z hz
        unfold o_r
        simp [va_up, hi, gA, tnew]
      rw [e1, e2]
      have e3 : va_up ad 99 q 0 = ad 0 := by simp [va_up]
      have e4 : va_up ad 99 q 99 = q := by simp [va_up]
      simp only [tnew, e3, e4, List.append_nil, List.cons_append, List.append_assoc]
    rw [hw2] at hP1 hD1
    have hk99 : va_up ad 99 q 99 = q := by simp [va_up]
    have h9 := h (va_up ad 99 q) (hAD ad q ha) H1 locs ls _ _ ⟨rfl, rfl, hc1, hc2⟩ hP1 hD1 hS1 ⟨hL.1, hL.2.1, fun i v hv => by
      have h5 := hL.2.2 i v hv
      rw [hcc v (fun e => hlv (some v) (by
        have h6 := lget_mem hv
        exact h6) (by rw [e]))]
      exact h5⟩
    have h10 : List.map (conc (va_up ad 99 q)) [vR 99] = [Value.ref q] := by
      show [Value.ref (va_up ad 99 q 99)] = _
      rw [hk99]
    rw [h10] at h9
    exact h9
  · exact h.elim
end SND
end
section
/-! CONTRACTS over the abstract states, calls, ends, throws -/
def AtW (D : va_G) (cA : ClassId) (ci : Nat) (ly : List Bool) (ja : List (Nat × Nat)) (ad : Nat → Nat) (A : Nat → Prop) (u : ST) (t : State) : Prop := va_P D vwCl (wdO cA ci ly ja ad u) t.heap ∧ va_K D vwCl [(cA, .int)] t ∧ va_D A (wdO cA ci ly ja ad u)
def Pre0 (D : va_G) (cA : ClassId) (ci : Nat) (ly : List Bool) (ja : List (Nat × Nat)) (ad : Nat → Nat) (S : ST) (sz : Nat) (U : State) : Prop := U.heap.size = sz ∧ va_P D vwCl (wdO cA ci ly ja ad S) U.heap ∧ va_K D vwCl [(cA, .int)] U ∧ va_D (fun _ => True) (wdO cA ci ly ja ad S)
/-- the texts of the class's throws -/
def xstrs : List (Nat × String) := [(48, "the size is not 1 to 32"), (53, "the step is not 1 to 16"), (61, "there are 6 kinds"), (71, "there were 150 things"), (77, "there is no room"), (89, "the thing was taken out"), (123, "there is no such kind")]
/-- what a throw wants of the start: Throwable's two statics, the texts' own objects -/
def XEv (own : String) (strs : List (Nat × String)) (A : Nat → Prop) (U : State) : Prop := vx_Zq Bundle.tN "UNASSIGNED_STACK" Bundle.steD A U U.heap ∧ vx_Zq Bundle.tN "SUPPRESSED_SENTINEL" Bundle.listD A U U.heap ∧ ∀ q ∈ strs, ∃ a, vk_R own q.1 q.2 a U
theorem XEv.calling {own : String} {strs : List (Nat × String)} {A : Nat → Prop} {U : State} {g : JFrame} {mk : MethodId} {a : Array Value} (h : XEv own strs A U) : XEv own strs A (U.calling g mk a) :=
  ⟨vx_Zq.moved (u := U) (U := U.calling g mk a) (Vm.Alike.refl U.vm) h.1, vx_Zq.moved (u := U) (U := U.calling g mk a) (Vm.Alike.refl U.vm) h.2.1, fun q hq => by obtain ⟨z, hz⟩ := h.2.2 q hq; exact ⟨z, vk_R.same (u := U) (U := U.calling g mk a) rfl hz⟩⟩
theorem XEv.at {own : String} {strs : List (Nat × String)} {A B : Nat → Prop} {s U : State} {H : Heap} {locs : List Loc} (h : XEv own strs A s) (hS : va_S A s.heap H locs) (hU : U.heap = H) (hW : s.WarmedH U.vm) (hB : ∀ q, B q → A q) : XEv own strs B U := by
  refine ⟨?_, ?_, fun q hq => by obtain ⟨z, hz⟩ := h.2.2 q hq; exact ⟨z, vk_R.warm hW hz⟩⟩
  · rw [hU]; exact (vx_Zq.moved hW.alike (vx_Zq.kept h.1 hS.2.1)).narrow hB
  · rw [hU]; exact (vx_Zq.moved hW.alike (vx_Zq.kept h.2.1 hS.2.1)).narrow hB
/-- a method that returns an int, a long, a double, nothing: whatever its table runs to -/
def CtI (ci : Nat) (ly : List Bool) (ja : List (Nat × Nat)) (y : MethodName) (ws : List Cond) (rm : Room) (X : RI) : Prop := ∀ (l : Launch) (D : va_G) (cA : ClassId) (ad : Nat → Nat) (av : List AV) (S : ST) (Q : Int → ST → Prop) (sz : Nat), X av S Q nox →
  Met l y ws rm (va_Pc (av.map (conc ad)) (Pre0 D cA ci ly ja ad S sz)) (va_Qi (fun (r : Int32) (u : ST) => (∃ a : Int, r = iI a ∧ Q a u) ∧ u.2.2.2 = S.2.2.2) (AtW D cA ci ly ja ad (va_A (wdO cA ci ly ja ad S) sz)) (va_A (wdO cA ci ly ja ad S) sz)) 0 0 (va_A (wdO cA ci ly ja ad S) sz)
def CtJ (ci : Nat) (ly : List Bool) (ja : List (Nat × Nat)) (y : MethodName) (ws : List Cond) (rm : Room) (X : RJ) : Prop := ∀ (l : Launch) (D : va_G) (cA : ClassId) (ad : Nat → Nat) (av : List AV) (S : ST) (Q : Int64 → ST → Prop) (sz : Nat), X av S Q nox →
  Met l y ws rm (va_Pc (av.map (conc ad)) (Pre0 D cA ci ly ja ad S sz)) (va_Ql (fun (r : Int64) (u : ST) => Q r u ∧ u.2.2.2 = S.2.2.2) (AtW D cA ci ly ja ad (va_A (wdO cA ci ly ja ad S) sz)) (va_A (wdO cA ci ly ja ad S) sz)) 0 0 (va_A (wdO cA ci ly ja ad S) sz)
def CtD (ci : Nat) (ly : List Bool) (ja : List (Nat × Nat)) (y : MethodName) (ws : List Cond) (rm : Room) (X : RD) : Prop := ∀ (l : Launch) (D : va_G) (cA : ClassId) (ad : Nat → Nat) (av : List AV) (S : ST) (Q : UInt64 → ST → Prop) (sz : Nat), X av S Q nox →
  Met l y ws rm (va_Pc (av.map (conc ad)) (Pre0 D cA ci ly ja ad S sz)) (va_Qd (fun (r : UInt64) (u : ST) => Q r u ∧ u.2.2.2 = S.2.2.2) (AtW D cA ci ly ja ad (va_A (wdO cA ci ly ja ad S) sz)) (va_A (wdO cA ci ly ja ad S) sz)) 0 0 (va_A (wdO cA ci ly ja ad S) sz)
def CtV (ci : Nat) (ly : List Bool) (ja : List (Nat × Nat)) (y : MethodName) (ws : List Cond) (rm : Room) (X : RV) : Prop := ∀ (l : Launch) (D : va_G) (cA : ClassId) (ad : Nat → Nat) (av : List AV) (S : ST) (Q : ST → Prop) (sz : Nat), X av S Q nox →
  Met l y ws rm (va_Pc (av.map (conc ad)) (Pre0 D cA ci ly ja ad S sz)) (va_Qv (fun (u : ST) => Q u ∧ u.2.2.2 = S.2.2.2) (AtW D cA ci ly ja ad (va_A (wdO cA ci ly ja ad S) sz)) (va_A (wdO cA ci ly ja ad S) sz)) 0 0 (va_A (wdO cA ci ly ja ad S) sz)
/-- .. that makes rows: they are forgotten at its end -/
def dropT (u : ST) : ST := (u.1, u.2.1, none, u.2.2.2)
def CtAI (ci : Nat) (ly : List Bool) (ja : List (Nat × Nat)) (y : MethodName) (ws : List Cond) (rm : Room) (K M : Nat) (X : RI) : Prop := ∀ (l : Launch) (D : va_G) (cA : ClassId) (ad : Nat → Nat) (av : List AV) (S : ST) (Q : Int → ST → Prop) (sz : Nat), X av (cut0 S) Q nox →
  Met l y ws rm (va_Pc (av.map (conc ad)) (Pre0 D cA ci ly ja ad (cut0 S) sz)) (va_Qi (fun (r : Int32) (u : ST) => ∃ a : Int, r = iI a ∧ Q a u) (fun u => AtW D cA ci ly ja ad (va_A (wdO cA ci ly ja ad (cut0 S)) sz) (dropT u)) (va_A (wdO cA ci ly ja ad (cut0 S)) sz)) K M (va_A (wdO cA ci ly ja ad (cut0 S)) sz)
def CtAJ (ci : Nat) (ly : List Bool) (ja : List (Nat × Nat)) (y : MethodName) (ws : List Cond) (rm : Room) (K M : Nat) (X : RJ) : Prop := ∀ (l : Launch) (D : va_G) (cA : ClassId) (ad : Nat → Nat) (av : List AV) (S : ST) (Q : Int64 → ST → Prop) (sz : Nat), X av (cut0 S) Q nox →
  Met l y ws rm (va_Pc (av.map (conc ad)) (Pre0 D cA ci ly ja ad (cut0 S) sz)) (va_Ql (fun (r : Int64) (u : ST) => Q r u) (fun u => AtW D cA ci ly ja ad (va_A (wdO cA ci ly ja ad (cut0 S)) sz) (dropT u)) (va_A (wdO cA ci ly ja ad (cut0 S)) sz)) K M (va_A (wdO cA ci ly ja ad (cut0 S)) sz)
def CtAD (ci : Nat) (ly : List Bool) (ja : List (Nat × Nat)) (y : MethodName) (ws : List Cond) (rm : Room) (K M : Nat) (X : RD) : Prop := ∀ (l : Launch) (D : va_G) (cA : ClassId) (ad : Nat → Nat) (av : List AV) (S : ST) (Q : UInt64 → ST → Prop) (sz : Nat), X av (cut0 S) Q nox →
  Met l y ws rm (va_Pc (av.map (conc ad)) (Pre0 D cA ci ly ja ad (cut0 S) sz)) (va_Qd (fun (r : UInt64) (u : ST) => Q r u) (fun u => AtW D cA ci ly ja ad (va_A (wdO cA ci ly ja ad (cut0 S)) sz) (dropT u)) (va_A (wdO cA ci ly ja ad (cut0 S)) sz)) K M (va_A (wdO cA ci ly ja ad (cut0 S)) sz)
/-- .. that throws -/
def CtXI (own : String) (strs : List (Nat × String)) (ci : Nat) (ly : List Bool) (ja : List (Nat × Nat)) (y : MethodName) (ws : List Cond) (rm : Room) (X : RI) : Prop := ∀ (l : Launch), l.stackTraces = false → ∀ (D : va_G) (cA : ClassId) (ad : Nat → Nat) (av : List AV) (S : ST) (Q : String → ST → Prop) (sz : Nat), X av S (fun _ _ => False) Q →
  vx_Met l y ws rm (va_Pc (av.map (conc ad)) (fun U => Pre0 D cA ci ly ja ad S sz U ∧ XEv own strs (va_A (wdO cA ci ly ja ad S) sz) U)) (va_Qi (fun (_ : Int32) (_ : ST) => False) (AtW D cA ci ly ja ad (va_A (wdO cA ci ly ja ad S) sz)) (va_A (wdO cA ci ly ja ad S) sz)) (vx_X (fun q : String × ST => Q q.1 q.2 ∧ q.2.2.2.2 = S.2.2.2) (fun E q t => E = q.1 ∧ AtW D cA ci ly ja ad (va_A (wdO cA ci ly ja ad S) sz) q.2 t) (va_A (wdO cA ci ly ja ad S) sz)) 1 6 (va_A (wdO cA ci ly ja ad S) sz)
def CtXV (own : String) (strs : List (Nat × String)) (ci : Nat) (ly : List Bool) (ja : List (Nat × Nat)) (y : MethodName) (ws : List Cond) (rm : Room) (X : RV) : Prop := ∀ (l : Launch), l.stackTraces = false → ∀ (D : va_G) (cA : ClassId) (ad : Nat → Nat) (av : List AV) (S : ST) (Q : String → ST → Prop) (sz : Nat), X av S (fun _ => False) Q →
  vx_Met l y ws rm (va_Pc (av.map (conc ad)) (fun U => Pre0 D cA ci ly ja ad S sz U ∧ XEv own strs (va_A (wdO cA ci ly ja ad S) sz) U)) (va_Qv (fun (_ : ST) => False) (AtW D cA ci ly ja ad (va_A (wdO cA ci ly ja ad S) sz)) (va_A (wdO cA ci ly ja ad S) sz)) (vx_X (fun q : String × ST => Q q.1 q.2 ∧ q.2.2.2.2 = S.2.2.2) (fun E q t => E = q.1 ∧ AtW D cA ci ly ja ad (va_A (wdO cA ci ly ja ad S) sz) q.2 t) (va_A (wdO cA ci ly ja ad S) sz)) 1 6 (va_A (wdO cA ci ly ja ad S) sz)
theorem pre0_blind {D : va_G} {cA : ClassId} {ci : Nat} {ly : List Bool} {ja : List (Nat × Nat)} {ad : Nat → Nat} {S : ST} {sz : Nat} {av : List Value} : FrameBlind (va_Pc av (Pre0 D cA ci ly ja ad S sz)) := by
  intro a U g mk q
  obtain ⟨q0, q1, qP, qK, qD⟩ := q
  exact ⟨q0, q1, qP, va_K.moved (u := U) (U := U.calling g mk a) (Vm.Alike.refl U.vm) qK, qD⟩
theorem prex_blind {D : va_G} {cA : ClassId} {ci : Nat} {ly : List Bool} {ja : List (Nat × Nat)} {ad : Nat → Nat} {S : ST} {sz : Nat} {av : List Value} {own : String} {strs : List (Nat × String)} {A : Nat → Prop} : FrameBlind (va_Pc av (fun U => Pre0 D cA ci ly ja ad S sz U ∧ XEv own strs A U)) := by
  intro a U g mk q
  obtain ⟨q0, ⟨q1, qP, qK, qD⟩, qX⟩ := q
  exact ⟨q0, ⟨q1, qP, va_K.moved (u := U) (U := U.calling g mk a) (Vm.Alike.refl U.vm) qK, qD⟩, qX.calling⟩
theorem isR0_of {st : List AV} (h : isR0 st) : ∃ as, st = vR 0 :: as := by
  rcases st with _ | ⟨a | x | d | k, as⟩
  · exact h.elim
  · exact h.elim
  · exact h.elim
  · exact h.elim
  · cases k with
    | zero => exact ⟨as, rfl⟩
    | succ k => exact h.elim
theorem cat_le (ad : Nat → Nat) (v : AV) : (conc ad v).category ≤ 2 := by
  rcases v with a | x | d | k <;> exact Nat.le_of_ble_eq_true rfl
theorem sh4_sum {ad : Nat → Nat} {st : List AV} (h : sh4 st) : ((st.map (conc ad)).map fun v => v.category).sum ≤ 8 := by
  have c := cat_le ad
  rcases st with _ | ⟨a, _ | ⟨b, _ | ⟨d, _ | ⟨g, _ | ⟨z, r⟩⟩⟩⟩⟩
  · simp
  · have := c a; simp; omega
  · have := c a; have := c b; simp; omega
  · have := c a; have := c b; have := c d; simp; omega
  · have := c a; have := c b; have := c d; have := c g; simp; omega
  · exact h.elim
/-- the stack at a call -/
theorem call_st {ad : Nat → Nat} {st as : List AV} {w nA : Nat} (hw : w = nA + 1) (has : (st.take w).reverse = vR 0 :: as) (hl : w ≤ st.length) : as.length = nA ∧ st.map (conc ad) = (as.map (conc ad)).reverse ++ Value.ref (ad 0) :: (st.drop w).map (conc ad) := by
  have h1 : st.take w = as.reverse ++ [vR 0] := by
    have := congrArg List.reverse has
    rw [List.reverse_reverse, List.reverse_cons] at this
    exact this
  refine ⟨?_, ?_⟩
  · have := congrArg List.length has
    rw [List.length_reverse, List.length_take, List.length_cons] at this
    omega
  · have h2 : st = (as.reverse ++ [vR 0]) ++ st.drop w := by rw [← h1]; exact (List.take_append_drop w st).symm
    have h3 := congrArg (List.map (conc ad)) h2
    rw [List.map_append, List.map_append, List.map_reverse, List.append_assoc] at h3
    exact h3
theorem scall_st {ad : Nat → Nat} {st as : List AV} {w : Nat} (has : (st.take w).reverse = as) (hl : w ≤ st.length) : as.length = w ∧ st.map (conc ad) = (as.map (conc ad)).reverse ++ (st.drop w).map (conc ad) := by
  have h1 : st.take w = as.reverse := by rw [← has, List.reverse_reverse]
  refine ⟨by rw [← has, List.length_reverse, List.length_take]; omega, ?_⟩
  have h2 : st = as.reverse ++ st.drop w := by rw [← h1]; exact (List.take_append_drop w st).symm
  have h3 := congrArg (List.map (conc ad)) h2
  rw [List.map_append, List.map_reverse] at h3
  exact h3
section CALLS
variable {p : Program} {l : Launch} {e : Env} {R : Room} {s : State} {m : MethodId} {args : Array Value} {below : List Frame} {meth : Method} {c : Code} {Q : State → Prop}
variable {D : va_G} {cA : ClassId} {A : Nat → Prop} {ci : Nat} {ly : List Bool} {ja : List (Nat × Nat)} {AD : (Nat → Nat) → Prop} {rel : Nat × Nat → Nat → Nat → Prop} {nL : Nat}
variable {cc : ByteArray} {pc n : Nat}
theorem own_free {H : Heap} {locs : List Loc} {ws : va_W} (hA : ∀ q, s.heap.size ≤ q → A q) (hD : va_D A ws) (hS : va_S A s.heap H locs) : ∀ q, va_A ws H.size q → A q := by
  intro q hq
  rcases hq with ⟨k, e, hk⟩ | h
  · exact hD.2 k (q, e) hk
  · exact hA q (Nat.le_trans hS.1 h)
theorem s_calli {Ts : List Cond} {own C : String} {T : u_T} {N index maxL w nA : Nat} {y : MethodName} {bytes : ByteArray} {ret : Option FieldType} {ws : List Cond} {rm : Room} (S0 : CallFix p m c cc nL s args Ts own) (hA : ∀ q, s.heap.size ≤ q → A q) (hK : va_K D vwCl [(cA, .int)] s) (hrR : ∀ k c n, rel k c n → c ≤ R.cells ∧ n ≤ R.slots) (hw : w = nA + 1) {X : RI} (hC : CtI ci ly ja y ws rm X) (cw : CallW R s args own C index y bytes maxL ret ws rm 0 0 nA) (hcl : vwCl[ci]? = some (C, T, N)) (hd : decode cc pc = .ok (.invokevirtual index, 3)) (hn : n = pc + 3) : ∀ lv st S, i_calli X w n lv st S (OK p l e R s m args below meth c Q D cA A ci ly ja AD rel nL) → (OK p l e R s m args below meth c Q D cA A ci ly ja AD rel nL) pc lv st S := by
  intro lv st S h
  obtain ⟨⟨h1, h2⟩, h3, Qc, hX, hk⟩ := h
  subst hn
  obtain ⟨as, has⟩ := isR0_of h1
  rw [has] at hX
  intro ad ha H locs ls cells slots hr hP hD hS hL
  obtain ⟨hlen, hst⟩ := call_st (ad := ad) hw has h2
  have hF := own_free hA hD hS
  have hbd := hrR _ _ _ hr
  rw [hst]
  refine va_calli (va_runV (As := as.map (conc ad)) (rest := (st.drop w).map (conc ad)) S0 (hC l D cA ad (vR 0 :: as) S Qc H.size hX) cw ⟨pre0_blind, va_recv hK hP hcl rfl (q0 := 0), fun U hU hW => ⟨rfl, by rw [hU], by rw [hU]; exact hP, va_K.moved hW.alike hK, hD.weaken (fun _ _ _ _ => trivial)⟩⟩ rfl (by rw [List.length_map]; exact hlen) hL.1 rfl (lv_room (sh4_sum h3)) hd ⟨hbd.1, hbd.2⟩) hS (fun q _ z => hF q z) hF (fun r u t H1 locs1 ht hvm hw1 hB hz1 hk1 hS1 => ?_)
  obtain ⟨⟨a, rfl, hq⟩, hku⟩ := hw1
  obtain ⟨hP1, hK1, hD1⟩ := hB
  rw [ht] at hP1
  exact hk a u hq ad ha H1 locs1 ls cells slots (by rw [hku]; exact hr) hP1 (hD1.weaken (fun k q _ z => hF q.1 z)) hS1 hL
theorem s_calll {Ts : List Cond} {own C : String} {T : u_T} {N index maxL w nA : Nat} {y : MethodName} {bytes : ByteArray} {ret : Option FieldType} {ws : List Cond} {rm : Room} (S0 : CallFix p m c cc nL s args Ts own) (hA : ∀ q, s.heap.size ≤ q → A q) (hK : va_K D vwCl [(cA, .int)] s) (hrR : ∀ k c n, rel k c n → c ≤ R.cells ∧ n ≤ R.slots) (hw : w = nA + 1) {X : RJ} (hC : CtJ ci ly ja y ws rm X) (cw : CallW R s args own C index y bytes maxL ret ws rm 0 0 nA) (hcl : vwCl[ci]? = some (C, T, N)) (hd : decode cc pc = .ok (.invokevirtual index, 3)) (hn : n = pc + 3) : ∀ lv st S, i_calll X w n lv st S (OK p l e R s m args below meth c Q D cA A ci ly ja AD rel nL) → (OK p l e R s m args below meth c Q D cA A ci ly ja AD rel nL) pc lv st S := by
  intro lv st S h
  obtain ⟨⟨h1, h2⟩, h3, Qc, hX, hk⟩ := h
  subst hn
  obtain ⟨as, has⟩ := isR0_of h1
  rw [has] at hX
  intro ad ha H locs ls cells slots hr hP hD hS hL
  obtain ⟨hlen, hst⟩ := call_st (ad := ad) hw has h2
  have hF := own_free hA hD hS
  have hbd := hrR _ _ _ hr
  rw [hst]
  refine va_calll (va_runV (As := as.map (conc ad)) (rest := (st.drop w).map (conc ad)) S0 (hC l D cA ad (vR 0 :: as) S Qc H.size hX) cw ⟨pre0_blind, va_recv hK hP hcl rfl (q0 := 0), fun U hU hW => ⟨rfl, by rw [hU], by rw [hU]; exact hP, va_K.moved hW.alike hK, hD.weaken (fun _ _ _ _ => trivial)⟩⟩ rfl (by rw [List.length_map]; exact hlen) hL.1 rfl (lv_room (sh4_sum h3)) hd ⟨hbd.1, hbd.2⟩) hS (fun q _ z => hF q z) hF (fun r u t H1 locs1 ht hvm hw1 hB hz1 hk1 hS1 => ?_)
  obtain ⟨hq, hku⟩ := hw1
  obtain ⟨hP1, hK1, hD1⟩ := hB
  rw [ht] at hP1
  exact hk r u hq ad ha H1 locs1 ls cells slots (by rw [hku]; exact hr) hP1 (hD1.weaken (fun k q _ z => hF q.1 z)) hS1 hL
theorem s_callv {Ts : List Cond} {own C : String} {T : u_T} {N index maxL w nA : Nat} {y : MethodName} {bytes : ByteArray} {ret : Option FieldType} {ws : List Cond} {rm : Room} (S0 : CallFix p m c cc nL s args Ts own) (hA : ∀ q, s.heap.size ≤ q → A q) (hK : va_K D vwCl [(cA, .int)] s) (hrR : ∀ k c n, rel k c n → c ≤ R.cells ∧ n ≤ R.slots) (hw : w = nA + 1) {X : RV} (hC : CtV ci ly ja y ws rm X) (cw : CallW R s args own C index y bytes maxL ret ws rm 0 0 nA) (hcl : vwCl[ci]? = some (C, T, N)) (hd : decode cc pc = .ok (.invokevirtual index, 3)) (hn : n = pc + 3) : ∀ lv st S, i_callv X w n lv st S (OK p l e R s m args below meth c Q D cA A ci ly ja AD rel nL) → (OK p l e R s m args below meth c Q D cA A ci ly ja AD rel nL) pc lv st S := by
  intro lv st S h
  obtain ⟨⟨h1, h2⟩, h3, Qc, hX, hk⟩ := h
  subst hn
  obtain ⟨as, has⟩ := isR0_of h1
  rw [has] at hX
  intro ad ha H locs ls cells slots hr hP hD hS hL
  obtain ⟨hlen, hst⟩ := call_st (ad := ad) hw has h2
  have hF := own_free hA hD hS
  have hbd := hrR _ _ _ hr
  rw [hst]
  refine va_callv (va_runV (As := as.map (conc ad)) (rest := (st.drop w).map (conc ad)) S0 (hC l D cA ad (vR 0 :: as) S Qc H.size hX) cw ⟨pre0_blind, va_recv hK hP hcl rfl (q0 := 0), fun U hU hW => ⟨rfl, by rw [hU], by rw [hU]; exact hP, va_K.moved hW.alike hK, hD.weaken (fun _ _ _ _ => trivial)⟩⟩ rfl (by rw [List.length_map]; exact hlen) hL.1 rfl (lv_room (sh4_sum h3)) hd ⟨hbd.1, hbd.2⟩) hS (fun q _ z => hF q z) hF (fun u t H1 locs1 ht hvm hw1 hB hz1 hk1 hS1 => ?_)
  obtain ⟨hq, hku⟩ := hw1
  obtain ⟨hP1, hK1, hD1⟩ := hB
  rw [ht] at hP1
  exact hk u hq ad ha H1 locs1 ls cells slots (by rw [hku]; exact hr) hP1 (hD1.weaken (fun k q _ z => hF q.1 z)) hS1 hL
theorem s_scalli {Ts : List Cond} {own : String} {index maxL w : Nat} {y : MethodName} {bytes : ByteArray} {ret : Option FieldType} {ws : List Cond} {rm : Room} (S0 : CallFix p m c cc nL s args Ts own) (hA : ∀ q, s.heap.size ≤ q → A q) (hK : va_K D vwCl [(cA, .int)] s) (hrR : ∀ k c n, rel k c n → c ≤ R.cells ∧ n ≤ R.slots) {X : RI} (hC : CtI ci ly ja y ws rm X) (cw : CallB R s args own index y bytes maxL ret ws rm 0 0 w ∧ (Cond.static y).before args s = true) (hd : decode cc pc = .ok (.invokestatic index, 3)) (hn : n = pc + 3) : ∀ lv st S, i_scalli X w n lv st S (OK p l e R s m args below meth c Q D cA A ci ly ja AD rel nL) → (OK p l e R s m args below meth c Q D cA A ci ly ja AD rel nL) pc lv st S := by
  intro lv st S h
  obtain ⟨h2, h3, Qc, hX, hk⟩ := h
  subst hn
  obtain ⟨as, has⟩ : ∃ as, (st.take w).reverse = as := ⟨_, rfl⟩
  rw [has] at hX
  intro ad ha H locs ls cells slots hr hP hD hS hL
  obtain ⟨hlen, hst⟩ := scall_st (ad := ad) has h2
  have hF := own_free hA hD hS
  have hbd := hrR _ _ _ hr
  rw [hst]
  refine va_calli (va_runS (As := as.map (conc ad)) (rest := (st.drop w).map (conc ad)) S0 (hC l D cA ad as S Qc H.size hX) cw ⟨pre0_blind, fun U hU hW => ⟨rfl, by rw [hU], by rw [hU]; exact hP, va_K.moved hW.alike hK, hD.weaken (fun _ _ _ _ => trivial)⟩⟩ rfl (by rw [List.length_map]; exact hlen) hL.1 rfl (lv_room (sh4_sum h3)) hd ⟨hbd.1, hbd.2⟩) hS (fun q _ z => hF q z) hF (fun r u t H1 locs1 ht hvm hw1 hB hz1 hk1 hS1 => ?_)
  obtain ⟨⟨a, rfl, hq⟩, hku⟩ := hw1
  obtain ⟨hP1, hK1, hD1⟩ := hB
  rw [ht] at hP1
  exact hk a u hq ad ha H1 locs1 ls cells slots (by rw [hku]; exact hr) hP1 (hD1.weaken (fun k q _ z => hF q.1 z)) hS1 hL
theorem wd_cut {ad : Nat → Nat} {S : ST} (h : S.2.2.1 = none) : wdO cA ci ly ja ad S = wdO cA ci ly ja ad (cut0 S) := by
  unfold wdO tw
  rw [h]
  rfl
theorem wd_glue {ad : Nat → Nat} {S u : ST} {k m : Nat} : wdO cA ci ly ja ad (glue S u k m) = wdO cA ci ly ja ad (dropT u) := rfl
theorem s_acalli {Ts : List Cond} {own C : String} {T : u_T} {N index maxL w nA : Nat} {y : MethodName} {bytes : ByteArray} {ret : Option FieldType} {ws : List Cond} {rm : Room} {k9 m9 K M : Nat} (S0 : CallFix p m c cc nL s args Ts own) (hA : ∀ q, s.heap.size ≤ q → A q) (hK : va_K D vwCl [(cA, .int)] s) (hrel : rel = relA K M) (hRc : K ≤ R.cells) (hRs : M ≤ R.slots) (hw : w = nA + 1) {X : RI} (hC : CtAI ci ly ja y ws rm k9 m9 X) (cw : CallW R s args own C index y bytes maxL ret ws rm k9 m9 nA) (hcl : vwCl[ci]? = some (C, T, N)) (hd : decode cc pc = .ok (.invokevirtual index, 3)) (hn : n = pc + 3) : ∀ lv st S, i_acalli X k9 m9 K M w n lv st S (OK p l e R s m args below meth c Q D cA A ci ly ja AD rel nL) → (OK p l e R s m args below meth c Q D cA A ci ly ja AD rel nL) pc lv st S := by
  intro lv st S h
  obtain ⟨⟨h1, h2⟩, h3, ⟨hT, hg1, hg2⟩, Qc, hX, hk⟩ := h
  subst hn
  subst hrel
  obtain ⟨as, has⟩ := isR0_of h1
  rw [has] at hX
  intro ad ha H locs ls cells slots hr hP hD hS hL
  obtain ⟨hlen, hst⟩ := call_st (ad := ad) hw has h2
  rw [wd_cut hT] at hP hD
  have hF := own_free hA hD hS
  obtain ⟨rfl, rfl, hb1, hb2⟩ := hr
  rw [hst]
  refine va_calli (va_runV (As := as.map (conc ad)) (rest := (st.drop w).map (conc ad)) S0 (hC l D cA ad (vR 0 :: as) S Qc H.size hX) cw ⟨pre0_blind, va_recv hK hP hcl rfl (q0 := 0), fun U hU hW => ⟨rfl, by rw [hU], by rw [hU]; exact hP, va_K.moved hW.alike hK, hD.weaken (fun _ _ _ _ => trivial)⟩⟩ rfl (by rw [List.length_map]; exact hlen) hL.1 rfl (lv_room (sh4_sum h3)) hd ⟨by omega, by omega⟩) hS (fun q _ z => hF q z) hF (fun r u t H1 locs1 ht hvm hw1 hB hz1 hk1 hS1 => ?_)
  obtain ⟨a, rfl, hq⟩ := hw1
  obtain ⟨hP1, hK1, hD1⟩ := hB
  rw [ht] at hP1
  exact hk a u hq ad ha H1 locs1 ls _ _ ⟨rfl, rfl, hg1, hg2⟩ hP1 (hD1.weaken (fun k q _ z => hF q.1 z)) hS1 hL
/-- the two ways in which a method of the class is walked: nothing is thrown; or it may throw -/
def TC (own : String) (strs : List (Nat × String)) (l : Launch) (R : Room) (s : State) (args : Array Value) (below : List Frame) (meth : Method) (c : Code) (Q : State → Prop) (D : va_G) (cA : ClassId) (A : Nat → Prop) (ci : Nat) (ly : List Bool) (ja : List (Nat × Nat)) (AD : (Nat → Nat) → Prop) (rel : Nat × Nat → Nat → Nat → Prop) (Qx : String → ST → Prop) : Prop :=
  Qx = nox ∨ ∃ (ad0 : Nat → Nat) (k0 : Nat × Nat) (Qc : Array Value → State → Outcome → State → Prop), Q = vx_MQ below Qc (vx_X (fun q : String × ST => Qx q.1 q.2 ∧ q.2.2.2.2 = k0) (fun E q t => E = q.1 ∧ AtW D cA ci ly ja ad0 A q.2 t) A) args s 1 6 A ∧ (∀ ad, AD ad → ad = ad0) ∧ (∀ k c n, rel k c n → k = k0 ∧ c = 0 ∧ n = 0) ∧ XEv own strs A s ∧ (∀ x ∈ c.exceptionTable.toList, False) ∧ l.stackTraces = false ∧ meth.locks = false ∧ 6 ≤ R.frames ∧ 82 ≤ R.locals ∧ 1 ≤ R.cells ∧ 6 ≤ R.slots
theorem nox_of {Q9 : String → ST → Prop} (h : ∀ E S', Q9 E S' → nox E S') : Q9 = nox := by
  funext E S'
  exact propext ⟨fun z => h E S' z, fun z => z.elim⟩
theorem s_xcalli {Ts : List Cond} {own C : String} {T : u_T} {N index maxL w nA : Nat} {y : MethodName} {bytes : ByteArray} {ret : Option FieldType} {ws : List Cond} {rm : Room} {rmx : Room} {strs : List (Nat × String)} {Qx : String → ST → Prop} (S0 : CallFix p m c cc nL s args Ts own) (hA : ∀ q, s.heap.size ≤ q → A q) (hK : va_K D vwCl [(cA, .int)] s) (hrR : ∀ k c n, rel k c n → c ≤ R.cells ∧ n ≤ R.slots) (hT : TC own strs l R s args below meth c Q D cA A ci ly ja AD rel Qx) (hw : w = nA + 1) {X : RI} (hC : CtI ci ly ja y ws rm X) (hCx : CtXI own strs ci ly ja y ws rmx X) (cw : CallW R s args own C index y bytes maxL ret ws rm 0 0 nA) (cwx : CallW R s args own C index y bytes maxL ret ws rmx 1 6 nA) (hcl : vwCl[ci]? = some (C, T, N)) (hd : decode cc pc = .ok (.invokevirtual index, 3)) (hn : n = pc + 3) : ∀ lv st S, i_xcalli X Qx w n lv st S (OK p l e R s m args below meth c Q D cA A ci ly ja AD rel nL) → (OK p l e R s m args below meth c Q D cA A ci ly ja AD rel nL) pc lv st S := by
  intro lv st S h
  obtain ⟨⟨h1, h2⟩, h3, h⟩ := h
  subst hn
  obtain ⟨as, has⟩ := isR0_of h1
  rw [has] at h
  have left : (∃ Qc, X (vR 0 :: as) S Qc nox ∧ ∀ r u, Qc r u → (OK p l e R s m args below meth c Q D cA A ci ly ja AD rel nL) (pc + 3) lv (vI r :: st.drop w) u) → (OK p l e R s m args below meth c Q D cA A ci ly ja AD rel nL) pc lv st S := by
    rintro ⟨Qc, hX, hk⟩
    intro ad ha H locs ls cells slots hr hP hD hS hL
    obtain ⟨hlen, hst⟩ := call_st (ad := ad) hw has h2
    have hF := own_free hA hD hS
    have hbd := hrR _ _ _ hr
    rw [hst]
    refine va_calli (va_runV (As := as.map (conc ad)) (rest := (st.drop w).map (conc ad)) S0 (hC l D cA ad (vR 0 :: as) S Qc H.size hX) cw ⟨pre0_blind, va_recv hK hP hcl rfl (q0 := 0), fun U hU hW => ⟨rfl, by rw [hU], by rw [hU]; exact hP, va_K.moved hW.alike hK, hD.weaken (fun _ _ _ _ => trivial)⟩⟩ rfl (by rw [List.length_map]; exact hlen) hL.1 rfl (lv_room (sh4_sum h3)) hd ⟨hbd.1, hbd.2⟩) hS (fun q _ z => hF q z) hF (fun r u t H1 locs1 ht hvm hw1 hB hz1 hk1 hS1 => ?_)
    obtain ⟨⟨a, rfl, hq⟩, hku⟩ := hw1
    obtain ⟨hP1, hK1, hD1⟩ := hB
    rw [ht] at hP1
    exact hk a u hq ad ha H1 locs1 ls cells slots (by rw [hku]; exact hr) hP1 (hD1.weaken (fun k q _ z => hF q.1 z)) hS1 hL
  rcases h with h | ⟨Q9, hX, hk⟩
  · exact left h
  · rcases hT with rfl | ⟨ad0, k0, Qc0, rfl, hAD, hrel, hXE, hnt, hlt, hlk, hR1, hR2, hR3, hR4⟩
    · rw [nox_of hk] at hX
      exact left ⟨_, hX, fun r u z => z.elim⟩
    · intro ad ha H locs ls cells slots hr hP hD hS hL
      have hae := hAD ad ha
      subst hae
      obtain ⟨hlen, hst⟩ := call_st (ad := ad) hw has h2
      have hF := own_free hA hD hS
      obtain ⟨hk0, rfl, rfl⟩ := hrel _ _ _ hr
      rw [hst]
      refine vx_calli (vx_runV (As := as.map (conc ad)) (rest := (st.drop w).map (conc ad)) S0 (hCx l hlt D cA ad (vR 0 :: as) S Q9 H.size hX) cwx ⟨prex_blind, va_recv hK hP hcl rfl (q0 := 0), fun U hU hW => ⟨rfl, ⟨by rw [hU], by rw [hU]; exact hP, va_K.moved hW.alike hK, hD.weaken (fun _ _ _ _ => trivial)⟩, hXE.at hS hU hW hF⟩⟩ rfl (by rw [List.length_map]; exact hlen) hL.1 rfl (lv_room (sh4_sum h3)) hd ⟨by omega, by omega⟩) hS (fun q _ z => hF q z) hF (fun q _ z => hF q z) (fun E ce q9 u t H1 locs1 ht hvm hpx hBX hz1 hk1 hS1 hce hcv hcl9 => ?_) (fun r u t H1 locs1 ht hvm hw1 hB hz1 hk1 hS1 => hw1.elim)
      obtain ⟨hq, hku⟩ := hpx
      obtain ⟨rfl, hP1, hK1, hD1⟩ := hBX
      rw [ht] at hP1
      refine vx_out (fun x hx => (hnt x hx).elim) hlk hce hcv hcl9 (fun t1 ht1 hal => ⟨u, ⟨hk _ _ hq, by rw [hku, hk0]⟩, ⟨rfl, by rw [ht1]; exact hP1, va_K.moved hal hK, hD1.weaken (fun k q _ z => hF q.1 z)⟩, hS1.F ht1⟩) hS1.2.2 (by omega) (by omega)
theorem s_xcallv {Ts : List Cond} {own C : String} {T : u_T} {N index maxL w nA : Nat} {y : MethodName} {bytes : ByteArray} {ret : Option FieldType} {ws : List Cond} {rm : Room} {rmx : Room} {strs : List (Nat × String)} {Qx : String → ST → Prop} (S0 : CallFix p m c cc nL s args Ts own) (hA : ∀ q, s.heap.size ≤ q → A q) (hK : va_K D vwCl [(cA, .int)] s) (hrR : ∀ k c n, rel k c n → c ≤ R.cells ∧ n ≤ R.slots) (hT : TC own strs l R s args below meth c Q D cA A ci ly ja AD rel Qx) (hw : w = nA + 1) {X : RV} (hC : CtV ci ly ja y ws rm X) (hCx : CtXV own strs ci ly ja y ws rmx X) (cw : CallW R s args own C index y bytes maxL ret ws rm 0 0 nA) (cwx : CallW R s args own C index y bytes maxL ret ws rmx 1 6 nA) (hcl : vwCl[ci]? = some (C, T, N)) (hd : decode cc pc = .ok (.invokevirtual index, 3)) (hn : n = pc + 3) : ∀ lv st S, i_xcallv X Qx w n lv st S (OK p l e R s m args below meth c Q D cA A ci ly ja AD rel nL) → (OK p l e R s m args below meth c Q D cA A ci ly ja AD rel nL) pc lv st S := by
  intro lv st S h
  obtain ⟨⟨h1, h2⟩, h3, h⟩ := h
  subst hn
  obtain ⟨as, has⟩ := isR0_of h1
  rw [has] at h
  have left : (∃ Qc, X (vR 0 :: as) S Qc nox ∧ ∀ u, Qc u → (OK p l e R s m args below meth c Q D cA A ci ly ja AD rel nL) (pc + 3) lv (st.drop w) u) → (OK p l e R s m args below meth c Q D cA A ci ly ja AD rel nL) pc lv st S := by
    rintro ⟨Qc, hX, hk⟩
    intro ad ha H locs ls cells slots hr hP hD hS hL
    obtain ⟨hlen, hst⟩ := call_st (ad := ad) hw has h2
    have hF := own_free hA hD hS
    have hbd := hrR _ _ _ hr
    rw [hst]
    refine va_callv (va_runV (As := as.map (conc ad)) (rest := (st.drop w).map (conc ad)) S0 (hC l D cA ad (vR 0 :: as) S Qc H.size hX) cw ⟨pre0_blind, va_recv hK hP hcl rfl (q0 := 0), fun U hU hW => ⟨rfl, by rw [hU], by rw [hU]; exact hP, va_K.moved hW.alike hK, hD.weaken (fun _ _ _ _ => trivial)⟩⟩ rfl (by rw [List.length_map]; exact hlen) hL.1 rfl (lv_room (sh4_sum h3)) hd ⟨hbd.1, hbd.2⟩) hS (fun q _ z => hF q z) hF (fun u t H1 locs1 ht hvm hw1 hB hz1 hk1 hS1 => ?_)
    obtain ⟨hq, hku⟩ := hw1
    obtain ⟨hP1, hK1, hD1⟩ := hB
    rw [ht] at hP1
    exact hk u hq ad ha H1 locs1 ls cells slots (by rw [hku]; exact hr) hP1 (hD1.weaken (fun k q _ z => hF q.1 z)) hS1 hL
  rcases h with h | ⟨Q9, hX, hk⟩
  · exact left h
  · rcases hT with rfl | ⟨ad0, k0, Qc0, rfl, hAD, hrel, hXE, hnt, hlt, hlk, hR1, hR2, hR3, hR4⟩
    · rw [nox_of hk] at hX
      exact left ⟨_, hX, fun u z => z.elim⟩
    · intro ad ha H locs ls cells slots hr hP hD hS hL
      have hae := hAD ad ha
      subst hae
      obtain ⟨hlen, hst⟩ := call_st (ad := ad) hw has h2
      have hF := own_free hA hD hS
      obtain ⟨hk0, rfl, rfl⟩ := hrel _ _ _ hr
      rw [hst]
      refine vx_callv (vx_runV (As := as.map (conc ad)) (rest := (st.drop w).map (conc ad)) S0 (hCx l hlt D cA ad (vR 0 :: as) S Q9 H.size hX) cwx ⟨prex_blind, va_recv hK hP hcl rfl (q0 := 0), fun U hU hW => ⟨rfl, ⟨by rw [hU], by rw [hU]; exact hP, va_K.moved hW.alike hK, hD.weaken (fun _ _ _ _ => trivial)⟩, hXE.at hS hU hW hF⟩⟩ rfl (by rw [List.length_map]; exact hlen) hL.1 rfl (lv_room (sh4_sum h3)) hd ⟨by omega, by omega⟩) hS (fun q _ z => hF q z) hF (fun q _ z => hF q z) (fun E ce q9 u t H1 locs1 ht hvm hpx hBX hz1 hk1 hS1 hce hcv hcl9 => ?_) (fun u t H1 locs1 ht hvm hw1 hB hz1 hk1 hS1 => hw1.elim)
      obtain ⟨hq, hku⟩ := hpx
      obtain ⟨rfl, hP1, hK1, hD1⟩ := hBX
      rw [ht] at hP1
      refine vx_out (fun x hx => (hnt x hx).elim) hlk hce hcv hcl9 (fun t1 ht1 hal => ⟨u, ⟨hk _ _ hq, by rw [hku, hk0]⟩, ⟨rfl, by rw [ht1]; exact hP1, va_K.moved hal hK, hD1.weaken (fun k q _ z => hF q.1 z)⟩, hS1.F ht1⟩) hS1.2.2 (by omega) (by omega)
theorem s_throw {own E text : String} {strs : List (Nat × String)} {names : List String} {ik is ic : Nat} {Qx : String → ST → Prop} (hx : p.tables.exec = Jvm.exec) (hb : c.code = cc) (hml : c.maxLocals = nL) (hK : va_K D vwCl [(cA, .int)] s) (hT : TC own strs l R s args below meth c Q D cA A ci ly ja AD rel Qx) (hown : s.vm.findClass own = some m.cls) (hcls : Bundle.fit E = true) (hnames : ∀ n ∈ names, Bundle.fit n = true) (hn3 : names.length = 2)
    (hk : (Cond.classLink own ik E).before args s = true) (hini : (Cond.initialized E).before args s = true) (hstr : (is, text) ∈ strs) (hat : ∀ w ∈ vx_atS own ic E names, w.before args s = true) (hgood : ∀ w ∈ Cond.classLink own ik E :: Cond.initialized E :: vx_atS own ic E names, vx_ot w = true)
    (d0 : decode cc pc = .ok (.new ik, 3)) (d3 : decode cc (pc + 3) = .ok (.dup, 1)) (d4 : decode cc (pc + 4) = .ok (.ldc is, 2)) (d6 : decode cc (pc + 6) = .ok (.invokespecial ic, 3)) (d9 : decode cc (pc + 9) = .ok (.athrow, 1)) : ∀ lv st S, i_throw Qx E lv st S (OK p l e R s m args below meth c Q D cA A ci ly ja AD rel nL) → (OK p l e R s m args below meth c Q D cA A ci ly ja AD rel nL) pc lv st S := by
  intro lv st S h
  rcases st with _ | ⟨v, r⟩
  · rcases hT with rfl | ⟨ad0, k0, Qc0, rfl, hAD, hrel, hXE, hnt, hlt, hlk, hR1, hR2, hR3, hR4⟩
    · exact h.elim
    · intro ad ha H locs ls cells slots hr hP hD hS hL
      have hae := hAD ad ha
      subst hae
      obtain ⟨hk0, rfl, rfl⟩ := hrel _ _ _ hr
      obtain ⟨sa, hsa⟩ := hXE.2.2 _ hstr
      refine vx_throwS hx hb hlt hown hcls hnames hk hini hsa hat hgood hXE.1 hXE.2.1 hS (hL.1.trans hml.symm) d0 d3 d4 d6 d9 (fun x hx => (hnt x hx).elim) (by omega) (by rw [hn3]; exact Nat.le_trans (Nat.le_of_ble_eq_true rfl) hR2) (by omega) (by omega) hlk (fun t hal hz hk1 => ⟨(E, S), ⟨h, hk0⟩, ⟨rfl, fun k q hq => (hP k q hq).kept (hk1 _ (hP k q hq).lt), va_K.moved hal hK, hD⟩, Nat.le_trans hS.1 hz, fun q h1 h2 => by rw [hk1 q (Nat.lt_of_lt_of_le h1 hS.1)]; exact hS.2.1 q h1 h2⟩) hS.2.2 (by omega) (by omega)
  · exact h.elim
/-! ends -/
theorem va_P_left {cl : List vw_C} {a b : va_W} {H : Heap} (h : va_P D cl (a ++ b) H) : va_P D cl a H := fun k q hq => h k q (by rw [List.getElem?_append_left (List.getElem?_eq_some_iff.mp hq).1]; exact hq)
theorem va_D_left {a b : va_W} (h : va_D A (a ++ b)) : va_D A a := by
  have up : ∀ (k : Nat) (q : Nat × va_E), a[k]? = some q → (a ++ b)[k]? = some q := fun k q hq => by rw [List.getElem?_append_left (List.getElem?_eq_some_iff.mp hq).1]; exact hq
  exact ⟨fun i j p q hp hq e => h.1 i j p q (up i p hp) (up j q hq) e, fun k q hq => h.2 k q (up k q hq)⟩
theorem wd_drop {ad ad0 : Nat → Nat} {S : ST} (h : ∀ k, k < 99 → ad k = ad0 k) (hly9 : ly.length ≤ 99) (hja : ∀ z ∈ ja, z.1 < 99) : wdO cA ci ly ja ad S = wdO cA ci ly ja ad0 (dropT S) ++ tw cA ad S := by
  have e1 : o_f ad S ly = o_f ad0 (dropT S) ly := by
    unfold o_f
    apply List.ext_getElem?
    intro i
    simp only [List.getElem?_mapIdx]
    cases hb9 : ly[i]? with
    | none => rfl
    | some b =>
      cases b with
      | false => rfl
      | true =>
        have hi : i < ly.length := (List.getElem?_eq_some_iff.mp hb9).1
        simp [h i (by omega)]
  have e2 : ja.map (o_r cA ad S) = ja.map (o_r cA ad0 (dropT S)) := by
    apply List.map_congr_left
    intro z hz
    unfold o_r
    rw [h z.1 (hja z hz)]
    rfl
  have e3 : tw cA ad0 (dropT S) = [] := rfl
  have e4 : ad 0 = ad0 0 := h 0 (by omega)
  unfold wdO
  rw [e1, e2, e3, e4, List.append_nil, List.cons_append]
theorem s_iret {ad0 : Nat → Nat} {k0 : Nat × Nat} {Qi : Int → ST → Prop} (hx : p.tables.exec = Jvm.exec) (hb : c.code = cc) (hret : meth.sig.returnType = some .int) (hlk : meth.locks = false) (hK : va_K D vwCl [(cA, .int)] s) (hQ : Q = MQ below (va_Qi (fun (r : Int32) (u : ST) => (∃ a : Int, r = iI a ∧ Qi a u) ∧ u.2.2.2 = k0) (AtW D cA ci ly ja ad0 A) A) args s 0 0 A) (hAD : ∀ ad, AD ad → ad = ad0) (hrel : ∀ k c n, rel k c n → k = k0 ∧ c = 0 ∧ n = 0) : ∀ pc lv st S, decode cc pc = .ok (.ireturn, 1) → i_iret Qi lv st S (OK p l e R s m args below meth c Q D cA A ci ly ja AD rel nL) → (OK p l e R s m args below meth c Q D cA A ci ly ja AD rel nL) pc lv st S := by
  intro pc lv st S hd h
  subst hQ
  rcases st with _ | ⟨v | v | v | v, r⟩
  · exact h.elim
  · rcases r with _ | ⟨w9, r⟩
    · intro ad ha H locs ls cells slots hr hP hD hS hL
      have hae := hAD ad ha
      subst hae
      obtain ⟨hk0, rfl, rfl⟩ := hrel _ _ _ hr
      exact W.iret (v := iI v) hx hb hret (fun t ht hW => ⟨⟨iI v, S, rfl, ⟨⟨v, rfl, h⟩, hk0⟩, by rw [ht]; exact hP, va_K.moved hW.alike hK, hD⟩, hS.F ht⟩) hS.2.2 hd hlk
    · exact h.elim
  · exact h.elim
  · exact h.elim
  · exact h.elim
theorem s_ireta {ad0 : Nat → Nat} {K M : Nat} {Qi : Int → ST → Prop} (hx : p.tables.exec = Jvm.exec) (hb : c.code = cc) (hret : meth.sig.returnType = some .int) (hlk : meth.locks = false) (hK : va_K D vwCl [(cA, .int)] s) (hQ : Q = MQ below (va_Qi (fun (r : Int32) (u : ST) => ∃ a : Int, r = iI a ∧ Qi a u) (fun u => AtW D cA ci ly ja ad0 A (dropT u)) A) args s K M A) (hAD : ∀ ad, AD ad → ∀ k, k < 99 → ad k = ad0 k) (hrel : rel = relA K M) (hly9 : ly.length ≤ 99) (hja : ∀ z ∈ ja, z.1 < 99) : ∀ pc lv st S, decode cc pc = .ok (.ireturn, 1) → i_iret Qi lv st S (OK p l e R s m args below meth c Q D cA A ci ly ja AD rel nL) → (OK p l e R s m args below meth c Q D cA A ci ly ja AD rel nL) pc lv st S := by
  intro pc lv st S hd h
  subst hQ
  rcases st with _ | ⟨v | v | v | v, r⟩
  · exact h.elim
  · rcases r with _ | ⟨w9, r⟩
    · intro ad ha H locs ls cells slots hr hP hD hS hL
      subst hrel
      obtain ⟨rfl, rfl, hb1, hb2⟩ := hr
      have hwd : wdO cA ci ly ja ad S = wdO cA ci ly ja ad0 (dropT S) ++ tw cA ad S := wd_drop (hAD ad ha) hly9 hja
      rw [hwd] at hP hD
      have hP9 := va_P_left hP
      have hD9 := va_D_left hD
      refine W.widen (k := K) (n := M) hb1 hb2 ?_
      exact W.iret (v := iI v) hx hb hret (fun t ht hW => ⟨⟨iI v, S, rfl, ⟨v, rfl, h⟩, by rw [ht]; exact hP9, va_K.moved hW.alike hK, hD9⟩, hS.F ht⟩) hS.2.2 hd hlk
    · exact h.elim
  · exact h.elim
  · exact h.elim
  · exact h.elim
theorem s_zret {ad0 : Nat → Nat} {k0 : Nat × Nat} {Qi : Int → ST → Prop} (hx : p.tables.exec = Jvm.exec) (hb : c.code = cc) (hret : meth.sig.returnType = some .boolean) (hlk : meth.locks = false) (hK : va_K D vwCl [(cA, .int)] s) (hQ : Q = MQ below (va_Qi (fun (r : Int32) (u : ST) => (∃ a : Int, r = iI a ∧ Qi a u) ∧ u.2.2.2 = k0) (AtW D cA ci ly ja ad0 A) A) args s 0 0 A) (hAD : ∀ ad, AD ad → ad = ad0) (hrel : ∀ k c n, rel k c n → k = k0 ∧ c = 0 ∧ n = 0) : ∀ pc lv st S, decode cc pc = .ok (.ireturn, 1) → i_zret Qi lv st S (OK p l e R s m args below meth c Q D cA A ci ly ja AD rel nL) → (OK p l e R s m args below meth c Q D cA A ci ly ja AD rel nL) pc lv st S := by
  intro pc lv st S hd h
  subst hQ
  rcases st with _ | ⟨v | v | v | v, r⟩
  · exact h.elim
  · rcases r with _ | ⟨w9, r⟩
    · have hz : ∀ {z : Int}, z = 0 ∨ z = 1 → narrow .boolean (.int (iI z)) = .int (iI z) := fun {z} hz => by rcases hz with rfl | rfl <;> decide
      intro ad ha H locs ls cells slots hr hP hD hS hL
      have hae := hAD ad ha
      subst hae
      obtain ⟨hk0, rfl, rfl⟩ := hrel _ _ _ hr
      exact W.zret (v := iI v) hx hb hret (hz h.1) (fun t ht hW => ⟨⟨iI v, S, rfl, ⟨⟨v, rfl, h.2⟩, hk0⟩, by rw [ht]; exact hP, va_K.moved hW.alike hK, hD⟩, hS.F ht⟩) hS.2.2 hd hlk
    · exact h.elim
  · exact h.elim
  · exact h.elim
  · exact h.elim
theorem s_lret {ad0 : Nat → Nat} {k0 : Nat × Nat} {Qi : Int64 → ST → Prop} (hx : p.tables.exec = Jvm.exec) (hb : c.code = cc) (hret : meth.sig.returnType = some .long) (hlk : meth.locks = false) (hK : va_K D vwCl [(cA, .int)] s) (hQ : Q = MQ below (va_Ql (fun (r : Int64) (u : ST) => Qi r u ∧ u.2.2.2 = k0) (AtW D cA ci ly ja ad0 A) A) args s 0 0 A) (hAD : ∀ ad, AD ad → ad = ad0) (hrel : ∀ k c n, rel k c n → k = k0 ∧ c = 0 ∧ n = 0) : ∀ pc lv st S, decode cc pc = .ok (.lreturn, 1) → i_lret Qi lv st S (OK p l e R s m args below meth c Q D cA A ci ly ja AD rel nL) → (OK p l e R s m args below meth c Q D cA A ci ly ja AD rel nL) pc lv st S := by
  intro pc lv st S hd h
  subst hQ
  rcases st with _ | ⟨v | v | v | v, r⟩
  · exact h.elim
  · exact h.elim
  · rcases r with _ | ⟨w9, r⟩
    · intro ad ha H locs ls cells slots hr hP hD hS hL
      have hae := hAD ad ha
      subst hae
      obtain ⟨hk0, rfl, rfl⟩ := hrel _ _ _ hr
      exact W.lret (v := v) hx hb hret (fun t ht hW => ⟨⟨v, S, rfl, ⟨h, hk0⟩, by rw [ht]; exact hP, va_K.moved hW.alike hK, hD⟩, hS.F ht⟩) hS.2.2 hd hlk
    · exact h.elim
  · exact h.elim
  · exact h.elim
theorem s_lreta {ad0 : Nat → Nat} {K M : Nat} {Qi : Int64 → ST → Prop} (hx : p.tables.exec = Jvm.exec) (hb : c.code = cc) (hret : meth.sig.returnType = some .long) (hlk : meth.locks = false) (hK : va_K D vwCl [(cA, .int)] s) (hQ : Q = MQ below (va_Ql (fun (r : Int64) (u : ST) => Qi r u) (fun u => AtW D cA ci ly ja ad0 A (dropT u)) A) args s K M A) (hAD : ∀ ad, AD ad → ∀ k, k < 99 → ad k = ad0 k) (hrel : rel = relA K M) (hly9 : ly.length ≤ 99) (hja : ∀ z ∈ ja, z.1 < 99) : ∀ pc lv st S, decode cc pc = .ok (.lreturn, 1) → i_lret Qi lv st S (OK p l e R s m args below meth c Q D cA A ci ly ja AD rel nL) → (OK p l e R s m args below meth c Q D cA A ci ly ja AD rel nL) pc lv st S := by
  intro pc lv st S hd h
  subst hQ
  rcases st with _ | ⟨v | v | v | v, r⟩
  · exact h.elim
  · exact h.elim
  · rcases r with _ | ⟨w9, r⟩
    · intro ad ha H locs ls cells slots hr hP hD hS hL
      subst hrel
      obtain ⟨rfl, rfl, hb1, hb2⟩ := hr
      have hwd : wdO cA ci ly ja ad S = wdO cA ci ly ja ad0 (dropT S) ++ tw cA ad S := wd_drop (hAD ad ha) hly9 hja
      rw [hwd] at hP hD
      have hP9 := va_P_left hP
      have hD9 := va_D_left hD
      refine W.widen (k := K) (n := M) hb1 hb2 ?_
      exact W.lret (v := v) hx hb hret (fun t ht hW => ⟨⟨v, S, rfl, h, by rw [ht]; exact hP9, va_K.moved hW.alike hK, hD9⟩, hS.F ht⟩) hS.2.2 hd hlk
    · exact h.elim
  · exact h.elim
  · exact h.elim
theorem s_dret {ad0 : Nat → Nat} {k0 : Nat × Nat} {Qi : UInt64 → ST → Prop} (hx : p.tables.exec = Jvm.exec) (hb : c.code = cc) (hret : meth.sig.returnType = some .double) (hlk : meth.locks = false) (hK : va_K D vwCl [(cA, .int)] s) (hQ : Q = MQ below (va_Qd (fun (r : UInt64) (u : ST) => Qi r u ∧ u.2.2.2 = k0) (AtW D cA ci ly ja ad0 A) A) args s 0 0 A) (hAD : ∀ ad, AD ad → ad = ad0) (hrel : ∀ k c n, rel k c n → k = k0 ∧ c = 0 ∧ n = 0) : ∀ pc lv st S, decode cc pc = .ok (.dreturn, 1) → i_dret Qi lv st S (OK p l e R s m args below meth c Q D cA A ci ly ja AD rel nL) → (OK p l e R s m args below meth c Q D cA A ci ly ja AD rel nL) pc lv st S := by
  intro pc lv st S hd h
  subst hQ
  rcases st with _ | ⟨v | v | v | v, r⟩
  · exact h.elim
  · exact h.elim
  · exact h.elim
  · rcases r with _ | ⟨w9, r⟩
    · intro ad ha H locs ls cells slots hr hP hD hS hL
      have hae := hAD ad ha
      subst hae
      obtain ⟨hk0, rfl, rfl⟩ := hrel _ _ _ hr
      exact W.dret (v := v) hx hb hret (fun t ht hW => ⟨⟨v, S, rfl, ⟨h, hk0⟩, by rw [ht]; exact hP, va_K.moved hW.alike hK, hD⟩, hS.F ht⟩) hS.2.2 hd hlk
    · exact h.elim
  · exact h.elim
theorem s_dreta {ad0 : Nat → Nat} {K M : Nat} {Qi : UInt64 → ST → Prop} (hx : p.tables.exec = Jvm.exec) (hb : c.code = cc) (hret : meth.sig.returnType = some .double) (hlk : meth.locks = false) (hK : va_K D vwCl [(cA, .int)] s) (hQ : Q = MQ below (va_Qd (fun (r : UInt64) (u : ST) => Qi r u) (fun u => AtW D cA ci ly ja ad0 A (dropT u)) A) args s K M A) (hAD : ∀ ad, AD ad → ∀ k, k < 99 → ad k = ad0 k) (hrel : rel = relA K M) (hly9 : ly.length ≤ 99) (hja : ∀ z ∈ ja, z.1 < 99) : ∀ pc lv st S, decode cc pc = .ok (.dreturn, 1) → i_dret Qi lv st S (OK p l e R s m args below meth c Q D cA A ci ly ja AD rel nL) → (OK p l e R s m args below meth c Q D cA A ci ly ja AD rel nL) pc lv st S := by
  intro pc lv st S hd h
  subst hQ
  rcases st with _ | ⟨v | v | v | v, r⟩
  · exact h.elim
  · exact h.elim
  · exact h.elim
  · rcases r with _ | ⟨w9, r⟩
    · intro ad ha H locs ls cells slots hr hP hD hS hL
      subst hrel
      obtain ⟨rfl, rfl, hb1, hb2⟩ := hr
      have hwd : wdO cA ci ly ja ad S = wdO cA ci ly ja ad0 (dropT S) ++ tw cA ad S := wd_drop (hAD ad ha) hly9 hja
      rw [hwd] at hP hD
      have hP9 := va_P_left hP
      have hD9 := va_D_left hD
      refine W.widen (k := K) (n := M) hb1 hb2 ?_
      exact W.dret (v := v) hx hb hret (fun t ht hW => ⟨⟨v, S, rfl, h, by rw [ht]; exact hP9, va_K.moved hW.alike hK, hD9⟩, hS.F ht⟩) hS.2.2 hd hlk
    · exact h.elim
  · exact h.elim
theorem s_vret {ad0 : Nat → Nat} {k0 : Nat × Nat} {Qi : ST → Prop} (hx : p.tables.exec = Jvm.exec) (hb : c.code = cc) (hret : meth.sig.returnType = none) (hlk : meth.locks = false) (hK : va_K D vwCl [(cA, .int)] s) (hQ : Q = MQ below (va_Qv (fun (u : ST) => Qi u ∧ u.2.2.2 = k0) (AtW D cA ci ly ja ad0 A) A) args s 0 0 A) (hAD : ∀ ad, AD ad → ad = ad0) (hrel : ∀ k c n, rel k c n → k = k0 ∧ c = 0 ∧ n = 0) : ∀ pc lv st S, decode cc pc = .ok (.return_, 1) → i_vret Qi lv st S (OK p l e R s m args below meth c Q D cA A ci ly ja AD rel nL) → (OK p l e R s m args below meth c Q D cA A ci ly ja AD rel nL) pc lv st S := by
  intro pc lv st S hd h
  subst hQ
  rcases st with _ | ⟨v, r⟩
  · intro ad ha H locs ls cells slots hr hP hD hS hL
    have hae := hAD ad ha
    subst hae
    obtain ⟨hk0, rfl, rfl⟩ := hrel _ _ _ hr
    exact W.vret hx hb hret (fun t ht hW => ⟨⟨S, rfl, ⟨h, hk0⟩, by rw [ht]; exact hP, va_K.moved hW.alike hK, hD⟩, hS.F ht⟩) hS.2.2 hd hlk
  · exact h.elim
end CALLS
end
section
/-! FROM A TABLE TO A CONTRACT -/
def lvA : List AV → LV
  | [] => []
  | .inl a :: r => some (.inl a) :: lvA r
  | .inr (.inl x) :: r => some (.inr (.inl x)) :: none :: lvA r
  | .inr (.inr (.inl x)) :: r => some (.inr (.inr (.inl x))) :: none :: lvA r
  | .inr (.inr (.inr k)) :: r => some (.inr (.inr (.inr k))) :: lvA r
def eLV (n : Nat) (av : List AV) : LV := lvA av ++ List.replicate (n - (lvA av).length) none
theorem lvA_len {ad : Nat → Nat} : ∀ av : List AV, (lg_sl (av.map (conc ad))).length = (lvA av).length
  | [] => rfl
  | .inl a :: r => by
    have := lvA_len (ad := ad) r
    simp only [lvA, List.length_cons, ← this]
    rfl
  | .inr (.inl x) :: r => by
    have := lvA_len (ad := ad) r
    simp only [lvA, List.length_cons, ← this]
    rfl
  | .inr (.inr (.inl x)) :: r => by
    have := lvA_len (ad := ad) r
    simp only [lvA, List.length_cons, ← this]
    rfl
  | .inr (.inr (.inr k)) :: r => by
    have := lvA_len (ad := ad) r
    simp only [lvA, List.length_cons, ← this]
    rfl
theorem lvA_mem {ad : Nat → Nat} : ∀ (av : List AV) (i j : Nat) (v : AV), (lvA av)[j]? = some (some v) → (i + j, conc ad v) ∈ lv_args i (av.map (conc ad))
  | [], i, j, v, h => by simp [lvA] at h
  | .inl a :: r, i, j, v, h => by
    cases j with
    | zero => simp [lvA] at h; subst h; exact List.mem_cons_self
    | succ j =>
      have h2 : (lvA r)[j]? = some (some v) := h
      have := lvA_mem (ad := ad) r (i + 1) j v h2
      rw [show i + (j + 1) = i + 1 + j by omega]
      exact List.mem_cons_of_mem _ this
  | .inr (.inl x) :: r, i, j, v, h => by
    match j, h with
    | 0, h => simp [lvA] at h; subst h; exact List.mem_cons_self
    | 1, h => simp [lvA] at h
    | j + 2, h =>
      have h2 : (lvA r)[j]? = some (some v) := h
      have := lvA_mem (ad := ad) r (i + 2) j v h2
      rw [show i + (j + 2) = i + 2 + j by omega]
      exact List.mem_cons_of_mem _ this
  | .inr (.inr (.inl x)) :: r, i, j, v, h => by
    match j, h with
    | 0, h => simp [lvA] at h; subst h; exact List.mem_cons_self
    | 1, h => simp [lvA] at h
    | j + 2, h =>
      have h2 : (lvA r)[j]? = some (some v) := h
      have := lvA_mem (ad := ad) r (i + 2) j v h2
      rw [show i + (j + 2) = i + 2 + j by omega]
      exact List.mem_cons_of_mem _ this
  | .inr (.inr (.inr k)) :: r, i, j, v, h => by
    cases j with
    | zero => simp [lvA] at h; subst h; exact List.mem_cons_self
    | succ j =>
      have h2 : (lvA r)[j]? = some (some v) := h
      have := lvA_mem (ad := ad) r (i + 1) j v h2
      rw [show i + (j + 1) = i + 1 + j by omega]
      exact List.mem_cons_of_mem _ this
theorem eLV_LR {ad : Nat → Nat} {n : Nat} {av : List AV} {ls : Array Slot} (h : lv_has ls n (lv_args 0 (av.map (conc ad)))) : LR ad n (eLV n av) ls := by
  refine ⟨h.1, h.2.1, fun i v hv => ?_⟩
  have h1 : (lvA av)[i]? = some (some v) := by
    unfold lget eLV at hv
    rcases Nat.lt_or_ge i (lvA av).length with q | q
    · rw [List.getElem?_append_left q] at hv
      rw [List.getElem?_eq_getElem q] at hv ⊢
      exact congrArg some hv
    · rw [List.getElem?_append_right q, List.getElem?_replicate] at hv
      split at hv <;> cases hv
  have h2 := h.2.2 _ (lvA_mem (ad := ad) av 0 i v h1)
  rw [Nat.zero_add] at h2
  exact h2
/-- what a method's body stands on -/
def CtxF (p : Program) (m : MethodId) (c : Code) (s : State) (args : Array Value) (meth : Method) (cc : ByteArray) (nL : Nat) (ret : Option FieldType) (ws : List Cond) (C : String) : Prop :=
  (CallFix p m c cc nL s args ws C) ∧ meth.locks = false ∧ meth.sig.returnType = ret
/-- a table is sound for a method -/
def SndT (own : String) (strs : List (Nat × String)) (ci : Nat) (ly : List Bool) (ja : List (Nat × Nat)) (cc : ByteArray) (nL : Nat) (ret : Option FieldType) (ws : List Cond) (Fr Lo : Nat) (Qx : String → ST → Prop) (hE : PT → Prop) (relok : Room → (Nat × Nat → Nat → Nat → Prop) → ((Nat → Nat) → Prop) → Prop) (T : List (Nat × AI)) : Prop :=
  ∀ (p : Program) (l : Launch) (e : Env) (R : Room) (s : State) (m : MethodId) (args : Array Value) (below : List Frame) (meth : Method) (c : Code) (Q : State → Prop) (D : va_G) (cA : ClassId) (A : Nat → Prop) (AD : (Nat → Nat) → Prop) (rel : Nat × Nat → Nat → Nat → Prop), CtxF p m c s args meth cc nL ret ws own → Fr ≤ R.frames → Lo ≤ R.locals → va_K D vwCl [(cA, .int)] s → (∀ q, s.heap.size ≤ q → A q) → relok R rel AD → TC own strs l R s args below meth c Q D cA A ci ly ja AD rel Qx → hE (OK p l e R s m args below meth c Q D cA A ci ly ja AD rel nL) →
    ∀ e9 ∈ T, ∀ lv st S, e9.2 lv st S (OK p l e R s m args below meth c Q D cA A ci ly ja AD rel nL) → OK p l e R s m args below meth c Q D cA A ci ly ja AD rel nL e9.1 lv st S
/-- the count stays within the room -/
def relP : Room → (Nat × Nat → Nat → Nat → Prop) → ((Nat → Nat) → Prop) → Prop := fun R rel _ => ∀ k c n, rel k c n → c ≤ R.cells ∧ n ≤ R.slots
def relQ (K M : Nat) : Room → (Nat × Nat → Nat → Nat → Prop) → ((Nat → Nat) → Prop) → Prop := fun R rel AD => rel = relA K M ∧ K ≤ R.cells ∧ M ≤ R.slots ∧ ∀ ad q, AD ad → AD (va_up ad 99 q)
def EI (cc : ByteArray) (Q : Int → ST → Prop) (P : PT) : Prop := ∀ pc lv st S, decode cc pc = .ok (.ireturn, 1) → i_iret Q lv st S P → P pc lv st S
def EZ (cc : ByteArray) (Q : Int → ST → Prop) (P : PT) : Prop := ∀ pc lv st S, decode cc pc = .ok (.ireturn, 1) → i_zret Q lv st S P → P pc lv st S
def EJ (cc : ByteArray) (Q : Int64 → ST → Prop) (P : PT) : Prop := ∀ pc lv st S, decode cc pc = .ok (.lreturn, 1) → i_lret Q lv st S P → P pc lv st S
def ED (cc : ByteArray) (Q : UInt64 → ST → Prop) (P : PT) : Prop := ∀ pc lv st S, decode cc pc = .ok (.dreturn, 1) → i_dret Q lv st S P → P pc lv st S
def EV (cc : ByteArray) (Q : ST → Prop) (P : PT) : Prop := ∀ pc lv st S, decode cc pc = .ok (.return_, 1) → i_vret Q lv st S P → P pc lv st S
def XI (n : Nat) (T : (Int → ST → Prop) → (String → ST → Prop) → List (Nat × AI)) : RI := fun av S Q Qx => (lvA av).length ≤ n ∧ RR (T Q Qx) 0 (eLV n av) [] S
def XJ (n : Nat) (T : (Int64 → ST → Prop) → (String → ST → Prop) → List (Nat × AI)) : RJ := fun av S Q Qx => (lvA av).length ≤ n ∧ RR (T Q Qx) 0 (eLV n av) [] S
def XD (n : Nat) (T : (UInt64 → ST → Prop) → (String → ST → Prop) → List (Nat × AI)) : RD := fun av S Q Qx => (lvA av).length ≤ n ∧ RR (T Q Qx) 0 (eLV n av) [] S
def XV (n : Nat) (T : (ST → Prop) → (String → ST → Prop) → List (Nat × AI)) : RV := fun av S Q Qx => (lvA av).length ≤ n ∧ RR (T Q Qx) 0 (eLV n av) [] S
theorem nEI {cc : ByteArray} {P : PT} : EI cc (fun _ _ => False) P := by
  intro pc lv st S9 _ h
  rcases st with _ | ⟨v | v | v | v, _ | ⟨w9, r⟩⟩ <;> exact (show False from h).elim
theorem nEZ {cc : ByteArray} {P : PT} : EZ cc (fun _ _ => False) P := by
  intro pc lv st S9 _ h
  rcases st with _ | ⟨v | v | v | v, _ | ⟨w9, r⟩⟩ <;> first | exact (show False from h).elim | exact (show False from h.2).elim
theorem nEV {cc : ByteArray} {P : PT} : EV cc (fun _ => False) P := by
  intro pc lv st S9 _ h
  rcases st with _ | ⟨v, r⟩ <;> exact (show False from h).elim
section ASM
variable {ci : Nat} {ly : List Bool} {ja : List (Nat × Nat)} {C : String} {strs : List (Nat × String)} {y : MethodName} {ws ws' : List Cond} {rm : Room} {cc : ByteArray} {maxL Fr Lo : Nat}
theorem mk_I (T : (Int → ST → Prop) → (String → ST → Prop) → List (Nat × AI)) (hy : plainName y.cls = true) (hyc : y.cls = C) (hw : ws = Cond.code y cc maxL (some .int) :: ws') (hc0 : rm.cells = 0) (hs0 : rm.slots = 0) (hFr : Fr ≤ rm.frames) (hLo : Lo ≤ rm.locals) (hS : ∀ Q, SndT C strs ci ly ja cc maxL (some .int) ws Fr Lo nox (EI cc Q) relP (T Q nox)) : CtI ci ly ja y ws rm (XI maxL T) := by
  intro l D cA ad av S Q sz hX
  obtain ⟨hlen, hX⟩ := hX
  refine Met.ofW (cc := cc) (maxL := maxL) (ret := some .int) hy hw ?_
  intro p e s m args below meth c s₁ B hml hv
  obtain ⟨rfl, hsz, hP, hK, hD0⟩ := hv
  have hx := B.exec
  have hb := B.bytes
  have hr := B.returns
  have hts := atoms_spec (ws := ws) B.pre
  have hown : s.vm.findClass C = some m.cls := hyc ▸ findClass_of_methodNamed B.named
  have hlocks := B.notSynchronized
  subst hsz
  have hD := hD0.self (sz := s.heap.size)
  have hA : ∀ q : Nat, s.heap.size ≤ q → va_A (wdO cA ci ly ja ad S) s.heap.size q := fun q h => Or.inr h
  have hS0 : va_S (va_A (wdO cA ci ly ja ad S) s.heap.size) s.heap s.heap [] := va_S.rf
  have hl := lv_entry (av.map (conc ad)) (n := maxL) (by rw [lvA_len]; exact hlen)
  rw [lg_entry_eq]
  generalize (lg_sl (av.map (conc ad)) ++ List.replicate (maxL - (lg_sl (av.map (conc ad))).length) Slot.unset).toArray = ls at hl ⊢
  have key := hS Q p l e (headSpec ws rm).room s m _ below meth c _ D cA _ (fun a => a = ad) (fun k c n => k = S.2.2.2 ∧ c = 0 ∧ n = 0) ⟨⟨hx, hb, hml, hown, hts⟩, hlocks, hr⟩ hFr hLo hK hA (fun k c n h => ⟨by rw [h.2.1]; exact Nat.zero_le _, by rw [h.2.2]; exact Nat.zero_le _⟩) (Or.inl rfl) (s_iret (ad0 := ad) (k0 := S.2.2.2) hx hb hr hlocks hK rfl (fun a h => h) (fun k c n h => h))
  exact hX _ (tab_closed key) ad rfl s.heap [] ls 0 0 ⟨rfl, rfl, rfl⟩ hP hD hS0 (eLV_LR hl)
theorem mk_Z (T : (Int → ST → Prop) → (String → ST → Prop) → List (Nat × AI)) (hy : plainName y.cls = true) (hyc : y.cls = C) (hw : ws = Cond.code y cc maxL (some .boolean) :: ws') (hc0 : rm.cells = 0) (hs0 : rm.slots = 0) (hFr : Fr ≤ rm.frames) (hLo : Lo ≤ rm.locals) (hS : ∀ Q, SndT C strs ci ly ja cc maxL (some .boolean) ws Fr Lo nox (EZ cc Q) relP (T Q nox)) : CtI ci ly ja y ws rm (XI maxL T) := by
  intro l D cA ad av S Q sz hX
  obtain ⟨hlen, hX⟩ := hX
  refine Met.ofW (cc := cc) (maxL := maxL) (ret := some .boolean) hy hw ?_
  intro p e s m args below meth c s₁ B hml hv
  obtain ⟨rfl, hsz, hP, hK, hD0⟩ := hv
  have hx := B.exec
  have hb := B.bytes
  have hr := B.returns
  have hts := atoms_spec (ws := ws) B.pre
  have hown : s.vm.findClass C = some m.cls := hyc ▸ findClass_of_methodNamed B.named
  have hlocks := B.notSynchronized
  subst hsz
  have hD := hD0.self (sz := s.heap.size)
  have hA : ∀ q : Nat, s.heap.size ≤ q → va_A (wdO cA ci ly ja ad S) s.heap.size q := fun q h => Or.inr h
  have hS0 : va_S (va_A (wdO cA ci ly ja ad S) s.heap.size) s.heap s.heap [] := va_S.rf
  have hl := lv_entry (av.map (conc ad)) (n := maxL) (by rw [lvA_len]; exact hlen)
  rw [lg_entry_eq]
  generalize (lg_sl (av.map (conc ad)) ++ List.replicate (maxL - (lg_sl (av.map (conc ad))).length) Slot.unset).toArray = ls at hl ⊢
  have key := hS Q p l e (headSpec ws rm).room s m _ below meth c _ D cA _ (fun a => a = ad) (fun k c n => k = S.2.2.2 ∧ c = 0 ∧ n = 0) ⟨⟨hx, hb, hml, hown, hts⟩, hlocks, hr⟩ hFr hLo hK hA (fun k c n h => ⟨by rw [h.2.1]; exact Nat.zero_le _, by rw [h.2.2]; exact Nat.zero_le _⟩) (Or.inl rfl) (s_zret (ad0 := ad) (k0 := S.2.2.2) hx hb hr hlocks hK rfl (fun a h => h) (fun k c n h => h))
  exact hX _ (tab_closed key) ad rfl s.heap [] ls 0 0 ⟨rfl, rfl, rfl⟩ hP hD hS0 (eLV_LR hl)
theorem mk_J (T : (Int64 → ST → Prop) → (String → ST → Prop) → List (Nat × AI)) (hy : plainName y.cls = true) (hyc : y.cls = C) (hw : ws = Cond.code y cc maxL (some .long) :: ws') (hc0 : rm.cells = 0) (hs0 : rm.slots = 0) (hFr : Fr ≤ rm.frames) (hLo : Lo ≤ rm.locals) (hS : ∀ Q, SndT C strs ci ly ja cc maxL (some .long) ws Fr Lo nox (EJ cc Q) relP (T Q nox)) : CtJ ci ly ja y ws rm (XJ maxL T) := by
  intro l D cA ad av S Q sz hX
  obtain ⟨hlen, hX⟩ := hX
  refine Met.ofW (cc := cc) (maxL := maxL) (ret := some .long) hy hw ?_
  intro p e s m args below meth c s₁ B hml hv
  obtain ⟨rfl, hsz, hP, hK, hD0⟩ := hv
  have hx := B.exec
  have hb := B.bytes
  have hr := B.returns
  have hts := atoms_spec (ws := ws) B.pre
  have hown : s.vm.findClass C = some m.cls := hyc ▸ findClass_of_methodNamed B.named
  have hlocks := B.notSynchronized
  subst hsz
  have hD := hD0.self (sz := s.heap.size)
  have hA : ∀ q : Nat, s.heap.size ≤ q → va_A (wdO cA ci ly ja ad S) s.heap.size q := fun q h => Or.inr h
  have hS0 : va_S (va_A (wdO cA ci ly ja ad S) s.heap.size) s.heap s.heap [] := va_S.rf
  have hl := lv_entry (av.map (conc ad)) (n := maxL) (by rw [lvA_len]; exact hlen)
  rw [lg_entry_eq]
  generalize (lg_sl (av.map (conc ad)) ++ List.replicate (maxL - (lg_sl (av.map (conc ad))).length) Slot.unset).toArray = ls at hl ⊢
  have key := hS Q p l e (headSpec ws rm).room s m _ below meth c _ D cA _ (fun a => a = ad) (fun k c n => k = S.2.2.2 ∧ c = 0 ∧ n = 0) ⟨⟨hx, hb, hml, hown, hts⟩, hlocks, hr⟩ hFr hLo hK hA (fun k c n h => ⟨by rw [h.2.1]; exact Nat.zero_le _, by rw [h.2.2]; exact Nat.zero_le _⟩) (Or.inl rfl) (s_lret (ad0 := ad) (k0 := S.2.2.2) hx hb hr hlocks hK rfl (fun a h => h) (fun k c n h => h))
  exact hX _ (tab_closed key) ad rfl s.heap [] ls 0 0 ⟨rfl, rfl, rfl⟩ hP hD hS0 (eLV_LR hl)
theorem mk_D (T : (UInt64 → ST → Prop) → (String → ST → Prop) → List (Nat × AI)) (hy : plainName y.cls = true) (hyc : y.cls = C) (hw : ws = Cond.code y cc maxL (some .double) :: ws') (hc0 : rm.cells = 0) (hs0 : rm.slots = 0) (hFr : Fr ≤ rm.frames) (hLo : Lo ≤ rm.locals) (hS : ∀ Q, SndT C strs ci ly ja cc maxL (some .double) ws Fr Lo nox (ED cc Q) relP (T Q nox)) : CtD ci ly ja y ws rm (XD maxL T) := by
  intro l D cA ad av S Q sz hX
  obtain ⟨hlen, hX⟩ := hX
  refine Met.ofW (cc := cc) (maxL := maxL) (ret := some .double) hy hw ?_
  intro p e s m args below meth c s₁ B hml hv
  obtain ⟨rfl, hsz, hP, hK, hD0⟩ := hv
  have hx := B.exec
  have hb := B.bytes
  have hr := B.returns
  have hts := atoms_spec (ws := ws) B.pre
  have hown : s.vm.findClass C = some m.cls := hyc ▸ findClass_of_methodNamed B.named
  have hlocks := B.notSynchronized
  subst hsz
  have hD := hD0.self (sz := s.heap.size)
  have hA : ∀ q : Nat, s.heap.size ≤ q → va_A (wdO cA ci ly ja ad S) s.heap.size q := fun q h => Or.inr h
  have hS0 : va_S (va_A (wdO cA ci ly ja ad S) s.heap.size) s.heap s.heap [] := va_S.rf
  have hl := lv_entry (av.map (conc ad)) (n := maxL) (by rw [lvA_len]; exact hlen)
  rw [lg_entry_eq]
  generalize (lg_sl (av.map (conc ad)) ++ List.replicate (maxL - (lg_sl (av.map (conc ad))).length) Slot.unset).toArray = ls at hl ⊢
  have key := hS Q p l e (headSpec ws rm).room s m _ below meth c _ D cA _ (fun a => a = ad) (fun k c n => k = S.2.2.2 ∧ c = 0 ∧ n = 0) ⟨⟨hx, hb, hml, hown, hts⟩, hlocks, hr⟩ hFr hLo hK hA (fun k c n h => ⟨by rw [h.2.1]; exact Nat.zero_le _, by rw [h.2.2]; exact Nat.zero_le _⟩) (Or.inl rfl) (s_dret (ad0 := ad) (k0 := S.2.2.2) hx hb hr hlocks hK rfl (fun a h => h) (fun k c n h => h))
  exact hX _ (tab_closed key) ad rfl s.heap [] ls 0 0 ⟨rfl, rfl, rfl⟩ hP hD hS0 (eLV_LR hl)
theorem mk_V (T : (ST → Prop) → (String → ST → Prop) → List (Nat × AI)) (hy : plainName y.cls = true) (hyc : y.cls = C) (hw : ws = Cond.code y cc maxL (none) :: ws') (hc0 : rm.cells = 0) (hs0 : rm.slots = 0) (hFr : Fr ≤ rm.frames) (hLo : Lo ≤ rm.locals) (hS : ∀ Q, SndT C strs ci ly ja cc maxL (none) ws Fr Lo nox (EV cc Q) relP (T Q nox)) : CtV ci ly ja y ws rm (XV maxL T) := by
  intro l D cA ad av S Q sz hX
  obtain ⟨hlen, hX⟩ := hX
  refine Met.ofW (cc := cc) (maxL := maxL) (ret := none) hy hw ?_
  intro p e s m args below meth c s₁ B hml hv
  obtain ⟨rfl, hsz, hP, hK, hD0⟩ := hv
  have hx := B.exec
  have hb := B.bytes
  have hr := B.returns
  have hts := atoms_spec (ws := ws) B.pre
  have hown : s.vm.findClass C = some m.cls := hyc ▸ findClass_of_methodNamed B.named
  have hlocks := B.notSynchronized
  subst hsz
  have hD := hD0.self (sz := s.heap.size)
  have hA : ∀ q : Nat, s.heap.size ≤ q → va_A (wdO cA ci ly ja ad S) s.heap.size q := fun q h => Or.inr h
  have hS0 : va_S (va_A (wdO cA ci ly ja ad S) s.heap.size) s.heap s.heap [] := va_S.rf
  have hl := lv_entry (av.map (conc ad)) (n := maxL) (by rw [lvA_len]; exact hlen)
  rw [lg_entry_eq]
  generalize (lg_sl (av.map (conc ad)) ++ List.replicate (maxL - (lg_sl (av.map (conc ad))).length) Slot.unset).toArray = ls at hl ⊢
  have key := hS Q p l e (headSpec ws rm).room s m _ below meth c _ D cA _ (fun a => a = ad) (fun k c n => k = S.2.2.2 ∧ c = 0 ∧ n = 0) ⟨⟨hx, hb, hml, hown, hts⟩, hlocks, hr⟩ hFr hLo hK hA (fun k c n h => ⟨by rw [h.2.1]; exact Nat.zero_le _, by rw [h.2.2]; exact Nat.zero_le _⟩) (Or.inl rfl) (s_vret (ad0 := ad) (k0 := S.2.2.2) hx hb hr hlocks hK rfl (fun a h => h) (fun k c n h => h))
  exact hX _ (tab_closed key) ad rfl s.heap [] ls 0 0 ⟨rfl, rfl, rfl⟩ hP hD hS0 (eLV_LR hl)
theorem mk_Ia {K M : Nat} (T : (Int → ST → Prop) → (String → ST → Prop) → List (Nat × AI)) (hy : plainName y.cls = true) (hyc : y.cls = C) (hw : ws = Cond.code y cc maxL (some .int) :: ws') (hc0 : K ≤ rm.cells) (hs0 : M ≤ rm.slots) (hFr : Fr ≤ rm.frames) (hLo : Lo ≤ rm.locals) (hly9 : ly.length ≤ 99) (hja : ∀ z ∈ ja, z.1 < 99) (hS : ∀ Q, SndT C strs ci ly ja cc maxL (some .int) ws Fr Lo nox (EI cc Q) (relQ K M) (T Q nox)) : CtAI ci ly ja y ws rm K M (XI maxL T) := by
  intro l D cA ad av S Q sz hX
  obtain ⟨hlen, hX⟩ := hX
  refine Met.ofW (cc := cc) (maxL := maxL) (ret := some .int) hy hw ?_
  intro p e s m args below meth c s₁ B hml hv
  obtain ⟨rfl, hsz, hP, hK, hD0⟩ := hv
  have hx := B.exec
  have hb := B.bytes
  have hr := B.returns
  have hts := atoms_spec (ws := ws) B.pre
  have hown : s.vm.findClass C = some m.cls := hyc ▸ findClass_of_methodNamed B.named
  have hlocks := B.notSynchronized
  subst hsz
  have hD := hD0.self (sz := s.heap.size)
  have hA : ∀ q : Nat, s.heap.size ≤ q → va_A (wdO cA ci ly ja ad (cut0 S)) s.heap.size q := fun q h => Or.inr h
  have hS0 : va_S (va_A (wdO cA ci ly ja ad (cut0 S)) s.heap.size) s.heap s.heap [] := va_S.rf
  have hl := lv_entry (av.map (conc ad)) (n := maxL) (by rw [lvA_len]; exact hlen)
  rw [lg_entry_eq]
  generalize (lg_sl (av.map (conc ad)) ++ List.replicate (maxL - (lg_sl (av.map (conc ad))).length) Slot.unset).toArray = ls at hl ⊢
  have key := hS Q p l e (headSpec ws rm).room s m _ below meth c _ D cA _ (fun a => ∀ k, k < 99 → a k = ad k) (relA K M) ⟨⟨hx, hb, hml, hown, hts⟩, hlocks, hr⟩ hFr hLo hK hA ⟨rfl, hc0, hs0, fun a q h k hk => by rw [← h k hk]; simp [va_up]; omega⟩ (Or.inl rfl) (s_ireta (ad0 := ad) hx hb hr hlocks hK rfl (fun a h => h) rfl hly9 hja)
  exact hX _ (tab_closed key) ad (fun _ _ => rfl) s.heap [] ls 0 0 ⟨rfl, rfl, Nat.zero_le _, Nat.zero_le _⟩ hP hD hS0 (eLV_LR hl)
theorem mk_Ja {K M : Nat} (T : (Int64 → ST → Prop) → (String → ST → Prop) → List (Nat × AI)) (hy : plainName y.cls = true) (hyc : y.cls = C) (hw : ws = Cond.code y cc maxL (some .long) :: ws') (hc0 : K ≤ rm.cells) (hs0 : M ≤ rm.slots) (hFr : Fr ≤ rm.frames) (hLo : Lo ≤ rm.locals) (hly9 : ly.length ≤ 99) (hja : ∀ z ∈ ja, z.1 < 99) (hS : ∀ Q, SndT C strs ci ly ja cc maxL (some .long) ws Fr Lo nox (EJ cc Q) (relQ K M) (T Q nox)) : CtAJ ci ly ja y ws rm K M (XJ maxL T) := by
  intro l D cA ad av S Q sz hX
  obtain ⟨hlen, hX⟩ := hX
  refine Met.ofW (cc := cc) (maxL := maxL) (ret := some .long) hy hw ?_
  intro p e s m args below meth c s₁ B hml hv
  obtain ⟨rfl, hsz, hP, hK, hD0⟩ := hv
  have hx := B.exec
  have hb := B.bytes
  have hr := B.returns
  have hts := atoms_spec (ws := ws) B.pre
  have hown : s.vm.findClass C = some m.cls := hyc ▸ findClass_of_methodNamed B.named
  have hlocks := B.notSynchronized
  subst hsz
  have hD := hD0.self (sz := s.heap.size)
  have hA : ∀ q : Nat, s.heap.size ≤ q → va_A (wdO cA ci ly ja ad (cut0 S)) s.heap.size q := fun q h => Or.inr h
  have hS0 : va_S (va_A (wdO cA ci ly ja ad (cut0 S)) s.heap.size) s.heap s.heap [] := va_S.rf
  have hl := lv_entry (av.map (conc ad)) (n := maxL) (by rw [lvA_len]; exact hlen)
  rw [lg_entry_eq]
  generalize (lg_sl (av.map (conc ad)) ++ List.replicate (maxL - (lg_sl (av.map (conc ad))).length) Slot.unset).toArray = ls at hl ⊢
  have key := hS Q p l e (headSpec ws rm).room s m _ below meth c _ D cA _ (fun a => ∀ k, k < 99 → a k = ad k) (relA K M) ⟨⟨hx, hb, hml, hown, hts⟩, hlocks, hr⟩ hFr hLo hK hA ⟨rfl, hc0, hs0, fun a q h k hk => by rw [← h k hk]; simp [va_up]; omega⟩ (Or.inl rfl) (s_lreta (ad0 := ad) hx hb hr hlocks hK rfl (fun a h => h) rfl hly9 hja)
  exact hX _ (tab_closed key) ad (fun _ _ => rfl) s.heap [] ls 0 0 ⟨rfl, rfl, Nat.zero_le _, Nat.zero_le _⟩ hP hD hS0 (eLV_LR hl)
theorem mk_Da {K M : Nat} (T : (UInt64 → ST → Prop) → (String → ST → Prop) → List (Nat × AI)) (hy : plainName y.cls = true) (hyc : y.cls = C) (hw : ws = Cond.code y cc maxL (some .double) :: ws') (hc0 : K ≤ rm.cells) (hs0 : M ≤ rm.slots) (hFr : Fr ≤ rm.frames) (hLo : Lo ≤ rm.locals) (hly9 : ly.length ≤ 99) (hja : ∀ z ∈ ja, z.1 < 99) (hS : ∀ Q, SndT C strs ci ly ja cc maxL (some .double) ws Fr Lo nox (ED cc Q) (relQ K M) (T Q nox)) : CtAD ci ly ja y ws rm K M (XD maxL T) := by
  intro l D cA ad av S Q sz hX
  obtain ⟨hlen, hX⟩ := hX
  refine Met.ofW (cc := cc) (maxL := maxL) (ret := some .double) hy hw ?_
  intro p e s m args below meth c s₁ B hml hv
  obtain ⟨rfl, hsz, hP, hK, hD0⟩ := hv
  have hx := B.exec
  have hb := B.bytes
  have hr := B.returns
  have hts := atoms_spec (ws := ws) B.pre
  have hown : s.vm.findClass C = some m.cls := hyc ▸ findClass_of_methodNamed B.named
  have hlocks := B.notSynchronized
  subst hsz
  have hD := hD0.self (sz := s.heap.size)
  have hA : ∀ q : Nat, s.heap.size ≤ q → va_A (wdO cA ci ly ja ad (cut0 S)) s.heap.size q := fun q h => Or.inr h
  have hS0 : va_S (va_A (wdO cA ci ly ja ad (cut0 S)) s.heap.size) s.heap s.heap [] := va_S.rf
  have hl := lv_entry (av.map (conc ad)) (n := maxL) (by rw [lvA_len]; exact hlen)
  rw [lg_entry_eq]
  generalize (lg_sl (av.map (conc ad)) ++ List.replicate (maxL - (lg_sl (av.map (conc ad))).length) Slot.unset).toArray = ls at hl ⊢
  have key := hS Q p l e (headSpec ws rm).room s m _ below meth c _ D cA _ (fun a => ∀ k, k < 99 → a k = ad k) (relA K M) ⟨⟨hx, hb, hml, hown, hts⟩, hlocks, hr⟩ hFr hLo hK hA ⟨rfl, hc0, hs0, fun a q h k hk => by rw [← h k hk]; simp [va_up]; omega⟩ (Or.inl rfl) (s_dreta (ad0 := ad) hx hb hr hlocks hK rfl (fun a h => h) rfl hly9 hja)
  exact hX _ (tab_closed key) ad (fun _ _ => rfl) s.heap [] ls 0 0 ⟨rfl, rfl, Nat.zero_le _, Nat.zero_le _⟩ hP hD hS0 (eLV_LR hl)
theorem mk_Ix (T : (Int → ST → Prop) → (String → ST → Prop) → List (Nat × AI)) (hy : plainName y.cls = true) (hyc : y.cls = C) (hw : ws = Cond.code y cc maxL (some .int) :: ws') (hc0 : rm.cells = 1) (hs0 : rm.slots = 6) (hFr : Fr ≤ rm.frames) (hLo : Lo ≤ rm.locals) (hFr6 : 6 ≤ rm.frames) (hLo82 : 82 ≤ rm.locals) (hS : ∀ Qx, SndT C strs ci ly ja cc maxL (some .int) ws Fr Lo Qx (EI cc (fun _ _ => False)) relP (T (fun _ _ => False) Qx)) : CtXI C strs ci ly ja y ws rm (XI maxL T) := by
  intro l hlt D cA ad av S Q sz hX
  obtain ⟨hlen, hX⟩ := hX
  refine vx_ofW (cc := cc) (maxL := maxL) (ret := some .int) hy hw ?_
  intro p e s m args below meth c s₁ B hml hnt hv
  obtain ⟨rfl, ⟨hsz, hP, hK, hD0⟩, hXE⟩ := hv
  have hx := B.exec
  have hb := B.bytes
  have hr := B.returns
  have hts := atoms_spec (ws := ws) B.pre
  have hown : s.vm.findClass C = some m.cls := hyc ▸ findClass_of_methodNamed B.named
  have hlocks := B.notSynchronized
  subst hsz
  have hD := hD0.self (sz := s.heap.size)
  have hA : ∀ q : Nat, s.heap.size ≤ q → va_A (wdO cA ci ly ja ad S) s.heap.size q := fun q h => Or.inr h
  have hS0 : va_S (va_A (wdO cA ci ly ja ad S) s.heap.size) s.heap s.heap [] := va_S.rf
  have hl := lv_entry (av.map (conc ad)) (n := maxL) (by rw [lvA_len]; exact hlen)
  rw [lg_entry_eq]
  generalize (lg_sl (av.map (conc ad)) ++ List.replicate (maxL - (lg_sl (av.map (conc ad))).length) Slot.unset).toArray = ls at hl ⊢
  have key := hS Q p l e (headSpec ws rm).room s m _ below meth c _ D cA _ (fun a => a = ad) (fun k c n => k = S.2.2.2 ∧ c = 0 ∧ n = 0) ⟨⟨hx, hb, hml, hown, hts⟩, hlocks, hr⟩ hFr hLo hK hA (fun k c n h => ⟨by rw [h.2.1]; exact Nat.zero_le _, by rw [h.2.2]; exact Nat.zero_le _⟩) (Or.inr ⟨ad, S.2.2.2, (va_Qi (fun (_ : Int32) (_ : ST) => False) (AtW D cA ci ly ja ad (va_A (wdO cA ci ly ja ad S) s.heap.size)) (va_A (wdO cA ci ly ja ad S) s.heap.size)), rfl, fun a h => h, fun k c n h => h, hXE, hnt, hlt, hlocks, hFr6, hLo82, Nat.le_of_eq hc0.symm, Nat.le_of_eq hs0.symm⟩) (nEI)
  exact hX _ (tab_closed key) ad rfl s.heap [] ls 0 0 ⟨rfl, rfl, rfl⟩ hP hD hS0 (eLV_LR hl)
theorem mk_Zx (T : (Int → ST → Prop) → (String → ST → Prop) → List (Nat × AI)) (hy : plainName y.cls = true) (hyc : y.cls = C) (hw : ws = Cond.code y cc maxL (some .boolean) :: ws') (hc0 : rm.cells = 1) (hs0 : rm.slots = 6) (hFr : Fr ≤ rm.frames) (hLo : Lo ≤ rm.locals) (hFr6 : 6 ≤ rm.frames) (hLo82 : 82 ≤ rm.locals) (hS : ∀ Qx, SndT C strs ci ly ja cc maxL (some .boolean) ws Fr Lo Qx (EZ cc (fun _ _ => False)) relP (T (fun _ _ => False) Qx)) : CtXI C strs ci ly ja y ws rm (XI maxL T) := by
  intro l hlt D cA ad av S Q sz hX
  obtain ⟨hlen, hX⟩ := hX
  refine vx_ofW (cc := cc) (maxL := maxL) (ret := some .boolean) hy hw ?_
  intro p e s m args below meth c s₁ B hml hnt hv
  obtain ⟨rfl, ⟨hsz, hP, hK, hD0⟩, hXE⟩ := hv
  have hx := B.exec
  have hb := B.bytes
  have hr := B.returns
  have hts := atoms_spec (ws := ws) B.pre
  have hown : s.vm.findClass C = some m.cls := hyc ▸ findClass_of_methodNamed B.named
  have hlocks := B.notSynchronized
  subst hsz
  have hD := hD0.self (sz := s.heap.size)
  have hA : ∀ q : Nat, s.heap.size ≤ q → va_A (wdO cA ci ly ja ad S) s.heap.size q := fun q h => Or.inr h
  have hS0 : va_S (va_A (wdO cA ci ly ja ad S) s.heap.size) s.heap s.heap [] := va_S.rf
  have hl := lv_entry (av.map (conc ad)) (n := maxL) (by rw [lvA_len]; exact hlen)
  rw [lg_entry_eq]
  generalize (lg_sl (av.map (conc ad)) ++ List.replicate (maxL - (lg_sl (av.map (conc ad))).length) Slot.unset).toArray = ls at hl ⊢
  have key := hS Q p l e (headSpec ws rm).room s m _ below meth c _ D cA _ (fun a => a = ad) (fun k c n => k = S.2.2.2 ∧ c = 0 ∧ n = 0) ⟨⟨hx, hb, hml, hown, hts⟩, hlocks, hr⟩ hFr hLo hK hA (fun k c n h => ⟨by rw [h.2.1]; exact Nat.zero_le _, by rw [h.2.2]; exact Nat.zero_le _⟩) (Or.inr ⟨ad, S.2.2.2, (va_Qi (fun (_ : Int32) (_ : ST) => False) (AtW D cA ci ly ja ad (va_A (wdO cA ci ly ja ad S) s.heap.size)) (va_A (wdO cA ci ly ja ad S) s.heap.size)), rfl, fun a h => h, fun k c n h => h, hXE, hnt, hlt, hlocks, hFr6, hLo82, Nat.le_of_eq hc0.symm, Nat.le_of_eq hs0.symm⟩) (nEZ)
  exact hX _ (tab_closed key) ad rfl s.heap [] ls 0 0 ⟨rfl, rfl, rfl⟩ hP hD hS0 (eLV_LR hl)
theorem mk_Vx (T : (ST → Prop) → (String → ST → Prop) → List (Nat × AI)) (hy : plainName y.cls = true) (hyc : y.cls = C) (hw : ws = Cond.code y cc maxL (none) :: ws') (hc0 : rm.cells = 1) (hs0 : rm.slots = 6) (hFr : Fr ≤ rm.frames) (hLo : Lo ≤ rm.locals) (hFr6 : 6 ≤ rm.frames) (hLo82 : 82 ≤ rm.locals) (hS : ∀ Qx, SndT C strs ci ly ja cc maxL (none) ws Fr Lo Qx (EV cc (fun _ => False)) relP (T (fun _ => False) Qx)) : CtXV C strs ci ly ja y ws rm (XV maxL T) := by
  intro l hlt D cA ad av S Q sz hX
  obtain ⟨hlen, hX⟩ := hX
  refine vx_ofW (cc := cc) (maxL := maxL) (ret := none) hy hw ?_
  intro p e s m args below meth c s₁ B hml hnt hv
  obtain ⟨rfl, ⟨hsz, hP, hK, hD0⟩, hXE⟩ := hv
  have hx := B.exec
  have hb := B.bytes
  have hr := B.returns
  have hts := atoms_spec (ws := ws) B.pre
  have hown : s.vm.findClass C = some m.cls := hyc ▸ findClass_of_methodNamed B.named
  have hlocks := B.notSynchronized
  subst hsz
  have hD := hD0.self (sz := s.heap.size)
  have hA : ∀ q : Nat, s.heap.size ≤ q → va_A (wdO cA ci ly ja ad S) s.heap.size q := fun q h => Or.inr h
  have hS0 : va_S (va_A (wdO cA ci ly ja ad S) s.heap.size) s.heap s.heap [] := va_S.rf
  have hl := lv_entry (av.map (conc ad)) (n := maxL) (by rw [lvA_len]; exact hlen)
  rw [lg_entry_eq]
  generalize (lg_sl (av.map (conc ad)) ++ List.replicate (maxL - (lg_sl (av.map (conc ad))).length) Slot.unset).toArray = ls at hl ⊢
  have key := hS Q p l e (headSpec ws rm).room s m _ below meth c _ D cA _ (fun a => a = ad) (fun k c n => k = S.2.2.2 ∧ c = 0 ∧ n = 0) ⟨⟨hx, hb, hml, hown, hts⟩, hlocks, hr⟩ hFr hLo hK hA (fun k c n h => ⟨by rw [h.2.1]; exact Nat.zero_le _, by rw [h.2.2]; exact Nat.zero_le _⟩) (Or.inr ⟨ad, S.2.2.2, (va_Qv (fun (_ : ST) => False) (AtW D cA ci ly ja ad (va_A (wdO cA ci ly ja ad S) s.heap.size)) (va_A (wdO cA ci ly ja ad S) s.heap.size)), rfl, fun a h => h, fun k c n h => h, hXE, hnt, hlt, hlocks, hFr6, hLo82, Nat.le_of_eq hc0.symm, Nat.le_of_eq hs0.symm⟩) (nEV)
  exact hX _ (tab_closed key) ad rfl s.heap [] ls 0 0 ⟨rfl, rfl, rfl⟩ hP hD hS0 (eLV_LR hl)
end ASM
end
