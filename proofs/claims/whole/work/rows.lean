section
-- ===== PART A: goes FIRST, ahead of the names: the tables' words, and 'selects' of the private methods out of them =====
/-- a private method of a class that the tables say can be made, by its rows of tables_1 -/
def lw_okq (q : MethodName × Nat) : Prop := (q.1.cls ≠ "java/lang/invoke/MethodHandle" ∧ q.1.cls ≠ "java/lang/invoke/VarHandle") ∧ Cond.instantiable q.1.cls q.2 ∈ tables_1 ∧ Cond.privateMethod q.1 ∈ tables_1 ∧ Cond.instanceMethod q.1 ∈ tables_1
theorem lw_p0 : lw_okq (⟨"MixedCells", "bodyAt", "(I)LMixedCells$Body;"⟩, 6) := ⟨⟨by decide +kernel, by decide +kernel⟩, List.mem_of_getElem? (i := 10) (by decide +kernel), List.mem_of_getElem? (i := 160) (by decide +kernel), List.mem_of_getElem? (i := 161) (by decide +kernel)⟩
theorem lw_p1 : lw_okq (⟨"MixedCells$Region", "include", "(II)V"⟩, 5) := ⟨⟨by decide +kernel, by decide +kernel⟩, List.mem_of_getElem? (i := 20) (by decide +kernel), List.mem_of_getElem? (i := 208) (by decide +kernel), List.mem_of_getElem? (i := 209) (by decide +kernel)⟩
theorem lw_p2 : lw_okq (⟨"MixedCells$Region", "comesBehind", "(III)Z"⟩, 5) := ⟨⟨by decide +kernel, by decide +kernel⟩, List.mem_of_getElem? (i := 20) (by decide +kernel), List.mem_of_getElem? (i := 212) (by decide +kernel), List.mem_of_getElem? (i := 213) (by decide +kernel)⟩
theorem lw_p3 : lw_okq (⟨"MixedCells$Region", "findCorners", "()LMixedCells$Region;"⟩, 5) := ⟨⟨by decide +kernel, by decide +kernel⟩, List.mem_of_getElem? (i := 20) (by decide +kernel), List.mem_of_getElem? (i := 216) (by decide +kernel), List.mem_of_getElem? (i := 217) (by decide +kernel)⟩
theorem lw_p4 : lw_okq (⟨"MixedCells$Region", "turnTo", "(II)V"⟩, 5) := ⟨⟨by decide +kernel, by decide +kernel⟩, List.mem_of_getElem? (i := 20) (by decide +kernel), List.mem_of_getElem? (i := 220) (by decide +kernel), List.mem_of_getElem? (i := 221) (by decide +kernel)⟩
theorem lw_p5 : lw_okq (⟨"MixedCells$Region", "turnsLeft", "(III)Z"⟩, 5) := ⟨⟨by decide +kernel, by decide +kernel⟩, List.mem_of_getElem? (i := 20) (by decide +kernel), List.mem_of_getElem? (i := 224) (by decide +kernel), List.mem_of_getElem? (i := 225) (by decide +kernel)⟩
theorem lw_p6 : lw_okq (⟨"MixedCells$Region", "next", "(I)I"⟩, 5) := ⟨⟨by decide +kernel, by decide +kernel⟩, List.mem_of_getElem? (i := 20) (by decide +kernel), List.mem_of_getElem? (i := 232) (by decide +kernel), List.mem_of_getElem? (i := 233) (by decide +kernel)⟩
theorem lw_p7 : lw_okq (⟨"MixedCells$Region", "stepsRound", "()I"⟩, 5) := ⟨⟨by decide +kernel, by decide +kernel⟩, List.mem_of_getElem? (i := 20) (by decide +kernel), List.mem_of_getElem? (i := 253) (by decide +kernel), List.mem_of_getElem? (i := 254) (by decide +kernel)⟩
theorem lw_p8 : lw_okq (⟨"MixedCells", "mixedOf", "(LMixedCells$Body;ILMixedCells$Body;I)I"⟩, 6) := ⟨⟨by decide +kernel, by decide +kernel⟩, List.mem_of_getElem? (i := 10) (by decide +kernel), List.mem_of_getElem? (i := 286) (by decide +kernel), List.mem_of_getElem? (i := 287) (by decide +kernel)⟩
theorem lw_p9 : lw_okq (⟨"MixedCells$Cutting", "addPairs", "(LMixedCells$Body;I)V"⟩, 7) := ⟨⟨by decide +kernel, by decide +kernel⟩, List.mem_of_getElem? (i := 45) (by decide +kernel), List.mem_of_getElem? (i := 309) (by decide +kernel), List.mem_of_getElem? (i := 310) (by decide +kernel)⟩
theorem lw_p10 : lw_okq (⟨"MixedCells$Cutting", "firstEnd", "(I)I"⟩, 7) := ⟨⟨by decide +kernel, by decide +kernel⟩, List.mem_of_getElem? (i := 45) (by decide +kernel), List.mem_of_getElem? (i := 313) (by decide +kernel), List.mem_of_getElem? (i := 314) (by decide +kernel)⟩
theorem lw_p11 : lw_okq (⟨"MixedCells$Cutting", "tryPairs", "(LMixedCells$Body;LMixedCells$Body;II)V"⟩, 7) := ⟨⟨by decide +kernel, by decide +kernel⟩, List.mem_of_getElem? (i := 45) (by decide +kernel), List.mem_of_getElem? (i := 321) (by decide +kernel), List.mem_of_getElem? (i := 322) (by decide +kernel)⟩
theorem lw_p12 : lw_okq (⟨"MixedCells$Cutting", "sortIn", "(LMixedCells$Cell;)V"⟩, 7) := ⟨⟨by decide +kernel, by decide +kernel⟩, List.mem_of_getElem? (i := 45) (by decide +kernel), List.mem_of_getElem? (i := 338) (by decide +kernel), List.mem_of_getElem? (i := 339) (by decide +kernel)⟩
theorem lw_p13 : lw_okq (⟨"MixedCells", "shareOf", "(LMixedCells$Cell;LMixedCells$Body;LMixedCells$Body;I)I"⟩, 6) := ⟨⟨by decide +kernel, by decide +kernel⟩, List.mem_of_getElem? (i := 10) (by decide +kernel), List.mem_of_getElem? (i := 353) (by decide +kernel), List.mem_of_getElem? (i := 354) (by decide +kernel)⟩
theorem lw_p14 : lw_okq (⟨"MixedCells", "kindOf", "(LMixedCells$Cell;LMixedCells$Body;LMixedCells$Body;)I"⟩, 6) := ⟨⟨by decide +kernel, by decide +kernel⟩, List.mem_of_getElem? (i := 10) (by decide +kernel), List.mem_of_getElem? (i := 357) (by decide +kernel), List.mem_of_getElem? (i := 358) (by decide +kernel)⟩
theorem lw_p15 : lw_okq (⟨"MixedCells", "fillPowers", "(I)V"⟩, 6) := ⟨⟨by decide +kernel, by decide +kernel⟩, List.mem_of_getElem? (i := 10) (by decide +kernel), List.mem_of_getElem? (i := 391) (by decide +kernel), List.mem_of_getElem? (i := 392) (by decide +kernel)⟩
def lw_privs_1 : List (MethodName × Nat) := [(⟨"MixedCells", "bodyAt", "(I)LMixedCells$Body;"⟩, 6), (⟨"MixedCells$Region", "include", "(II)V"⟩, 5), (⟨"MixedCells$Region", "comesBehind", "(III)Z"⟩, 5), (⟨"MixedCells$Region", "findCorners", "()LMixedCells$Region;"⟩, 5), (⟨"MixedCells$Region", "turnTo", "(II)V"⟩, 5), (⟨"MixedCells$Region", "turnsLeft", "(III)Z"⟩, 5), (⟨"MixedCells$Region", "next", "(I)I"⟩, 5), (⟨"MixedCells$Region", "stepsRound", "()I"⟩, 5), (⟨"MixedCells", "mixedOf", "(LMixedCells$Body;ILMixedCells$Body;I)I"⟩, 6), (⟨"MixedCells$Cutting", "addPairs", "(LMixedCells$Body;I)V"⟩, 7), (⟨"MixedCells$Cutting", "firstEnd", "(I)I"⟩, 7), (⟨"MixedCells$Cutting", "tryPairs", "(LMixedCells$Body;LMixedCells$Body;II)V"⟩, 7), (⟨"MixedCells$Cutting", "sortIn", "(LMixedCells$Cell;)V"⟩, 7), (⟨"MixedCells", "shareOf", "(LMixedCells$Cell;LMixedCells$Body;LMixedCells$Body;I)I"⟩, 6), (⟨"MixedCells", "kindOf", "(LMixedCells$Cell;LMixedCells$Body;LMixedCells$Body;)I"⟩, 6), (⟨"MixedCells", "fillPowers", "(I)V"⟩, 6)]
theorem lw_r1 : ∀ q ∈ lw_privs_1, lw_okq q := List.forall_mem_cons.mpr ⟨lw_p0, List.forall_mem_cons.mpr ⟨lw_p1, List.forall_mem_cons.mpr ⟨lw_p2, List.forall_mem_cons.mpr ⟨lw_p3, List.forall_mem_cons.mpr ⟨lw_p4, List.forall_mem_cons.mpr ⟨lw_p5, List.forall_mem_cons.mpr ⟨lw_p6, List.forall_mem_cons.mpr ⟨lw_p7, List.forall_mem_cons.mpr ⟨lw_p8, List.forall_mem_cons.mpr ⟨lw_p9, List.forall_mem_cons.mpr ⟨lw_p10, List.forall_mem_cons.mpr ⟨lw_p11, List.forall_mem_cons.mpr ⟨lw_p12, List.forall_mem_cons.mpr ⟨lw_p13, List.forall_mem_cons.mpr ⟨lw_p14, List.forall_mem_cons.mpr ⟨lw_p15, fun _ h => absurd h List.not_mem_nil⟩⟩⟩⟩⟩⟩⟩⟩⟩⟩⟩⟩⟩⟩⟩⟩
theorem lw_p16 : lw_okq (⟨"MixedCells", "isRoot", "(LMixedCells$Body;III)Z"⟩, 6) := ⟨⟨by decide +kernel, by decide +kernel⟩, List.mem_of_getElem? (i := 10) (by decide +kernel), List.mem_of_getElem? (i := 395) (by decide +kernel), List.mem_of_getElem? (i := 396) (by decide +kernel)⟩
theorem lw_p17 : lw_okq (⟨"MixedCells", "pointsOfAll", "()I"⟩, 6) := ⟨⟨by decide +kernel, by decide +kernel⟩, List.mem_of_getElem? (i := 10) (by decide +kernel), List.mem_of_getElem? (i := 415) (by decide +kernel), List.mem_of_getElem? (i := 416) (by decide +kernel)⟩
theorem lw_p18 : lw_okq (⟨"MixedCells", "filledBodies", "()I"⟩, 6) := ⟨⟨by decide +kernel, by decide +kernel⟩, List.mem_of_getElem? (i := 10) (by decide +kernel), List.mem_of_getElem? (i := 419) (by decide +kernel), List.mem_of_getElem? (i := 420) (by decide +kernel)⟩
theorem lw_p19 : lw_okq (⟨"MixedCellsModel", "many", "(I)I"⟩, 14) := ⟨⟨by decide +kernel, by decide +kernel⟩, List.mem_of_getElem? (i := 423) (by decide +kernel), List.mem_of_getElem? (i := 483) (by decide +kernel), List.mem_of_getElem? (i := 484) (by decide +kernel)⟩
theorem lw_p20 : lw_okq (⟨"MixedCellsModel", "of", "(III)I"⟩, 14) := ⟨⟨by decide +kernel, by decide +kernel⟩, List.mem_of_getElem? (i := 423) (by decide +kernel), List.mem_of_getElem? (i := 487) (by decide +kernel), List.mem_of_getElem? (i := 488) (by decide +kernel)⟩
theorem lw_p21 : lw_okq (⟨"MixedCellsModel", "layBody", "(II)V"⟩, 14) := ⟨⟨by decide +kernel, by decide +kernel⟩, List.mem_of_getElem? (i := 423) (by decide +kernel), List.mem_of_getElem? (i := 510) (by decide +kernel), List.mem_of_getElem? (i := 511) (by decide +kernel)⟩
theorem lw_p22 : lw_okq (⟨"MixedCellsModel", "addPoint", "(II)V"⟩, 14) := ⟨⟨by decide +kernel, by decide +kernel⟩, List.mem_of_getElem? (i := 423) (by decide +kernel), List.mem_of_getElem? (i := 517) (by decide +kernel), List.mem_of_getElem? (i := 518) (by decide +kernel)⟩
theorem lw_p23 : lw_okq (⟨"MixedCellsModel", "layCorners", "()V"⟩, 14) := ⟨⟨by decide +kernel, by decide +kernel⟩, List.mem_of_getElem? (i := 423) (by decide +kernel), List.mem_of_getElem? (i := 521) (by decide +kernel), List.mem_of_getElem? (i := 522) (by decide +kernel)⟩
theorem lw_p24 : lw_okq (⟨"MixedCellsModel", "nextCorner", "(I)I"⟩, 14) := ⟨⟨by decide +kernel, by decide +kernel⟩, List.mem_of_getElem? (i := 423) (by decide +kernel), List.mem_of_getElem? (i := 525) (by decide +kernel), List.mem_of_getElem? (i := 526) (by decide +kernel)⟩
theorem lw_p25 : lw_okq (⟨"MixedCellsModel", "turn", "(III)I"⟩, 14) := ⟨⟨by decide +kernel, by decide +kernel⟩, List.mem_of_getElem? (i := 423) (by decide +kernel), List.mem_of_getElem? (i := 529) (by decide +kernel), List.mem_of_getElem? (i := 530) (by decide +kernel)⟩
theorem lw_p26 : lw_okq (⟨"MixedCellsModel", "far", "(II)I"⟩, 14) := ⟨⟨by decide +kernel, by decide +kernel⟩, List.mem_of_getElem? (i := 423) (by decide +kernel), List.mem_of_getElem? (i := 533) (by decide +kernel), List.mem_of_getElem? (i := 534) (by decide +kernel)⟩
theorem lw_p27 : lw_okq (⟨"MixedCellsModel", "area", "()I"⟩, 14) := ⟨⟨by decide +kernel, by decide +kernel⟩, List.mem_of_getElem? (i := 423) (by decide +kernel), List.mem_of_getElem? (i := 537) (by decide +kernel), List.mem_of_getElem? (i := 538) (by decide +kernel)⟩
theorem lw_p28 : lw_okq (⟨"MixedCellsModel", "lattice", "(I)I"⟩, 14) := ⟨⟨by decide +kernel, by decide +kernel⟩, List.mem_of_getElem? (i := 423) (by decide +kernel), List.mem_of_getElem? (i := 541) (by decide +kernel), List.mem_of_getElem? (i := 542) (by decide +kernel)⟩
theorem lw_p29 : lw_okq (⟨"MixedCellsModel", "lies", "(II)I"⟩, 14) := ⟨⟨by decide +kernel, by decide +kernel⟩, List.mem_of_getElem? (i := 423) (by decide +kernel), List.mem_of_getElem? (i := 545) (by decide +kernel), List.mem_of_getElem? (i := 546) (by decide +kernel)⟩
theorem lw_p30 : lw_okq (⟨"MixedCellsModel", "span", "()I"⟩, 14) := ⟨⟨by decide +kernel, by decide +kernel⟩, List.mem_of_getElem? (i := 423) (by decide +kernel), List.mem_of_getElem? (i := 549) (by decide +kernel), List.mem_of_getElem? (i := 550) (by decide +kernel)⟩
theorem lw_p31 : lw_okq (⟨"MixedCellsModel", "areaOfSums", "(IIII)I"⟩, 14) := ⟨⟨by decide +kernel, by decide +kernel⟩, List.mem_of_getElem? (i := 423) (by decide +kernel), List.mem_of_getElem? (i := 561) (by decide +kernel), List.mem_of_getElem? (i := 562) (by decide +kernel)⟩
def lw_privs_2 : List (MethodName × Nat) := [(⟨"MixedCells", "isRoot", "(LMixedCells$Body;III)Z"⟩, 6), (⟨"MixedCells", "pointsOfAll", "()I"⟩, 6), (⟨"MixedCells", "filledBodies", "()I"⟩, 6), (⟨"MixedCellsModel", "many", "(I)I"⟩, 14), (⟨"MixedCellsModel", "of", "(III)I"⟩, 14), (⟨"MixedCellsModel", "layBody", "(II)V"⟩, 14), (⟨"MixedCellsModel", "addPoint", "(II)V"⟩, 14), (⟨"MixedCellsModel", "layCorners", "()V"⟩, 14), (⟨"MixedCellsModel", "nextCorner", "(I)I"⟩, 14), (⟨"MixedCellsModel", "turn", "(III)I"⟩, 14), (⟨"MixedCellsModel", "far", "(II)I"⟩, 14), (⟨"MixedCellsModel", "area", "()I"⟩, 14), (⟨"MixedCellsModel", "lattice", "(I)I"⟩, 14), (⟨"MixedCellsModel", "lies", "(II)I"⟩, 14), (⟨"MixedCellsModel", "span", "()I"⟩, 14), (⟨"MixedCellsModel", "areaOfSums", "(IIII)I"⟩, 14)]
theorem lw_r2 : ∀ q ∈ lw_privs_2, lw_okq q := List.forall_mem_cons.mpr ⟨lw_p16, List.forall_mem_cons.mpr ⟨lw_p17, List.forall_mem_cons.mpr ⟨lw_p18, List.forall_mem_cons.mpr ⟨lw_p19, List.forall_mem_cons.mpr ⟨lw_p20, List.forall_mem_cons.mpr ⟨lw_p21, List.forall_mem_cons.mpr ⟨lw_p22, List.forall_mem_cons.mpr ⟨lw_p23, List.forall_mem_cons.mpr ⟨lw_p24, List.forall_mem_cons.mpr ⟨lw_p25, List.forall_mem_cons.mpr ⟨lw_p26, List.forall_mem_cons.mpr ⟨lw_p27, List.forall_mem_cons.mpr ⟨lw_p28, List.forall_mem_cons.mpr ⟨lw_p29, List.forall_mem_cons.mpr ⟨lw_p30, List.forall_mem_cons.mpr ⟨lw_p31, fun _ h => absurd h List.not_mem_nil⟩⟩⟩⟩⟩⟩⟩⟩⟩⟩⟩⟩⟩⟩⟩⟩
theorem lw_p32 : lw_okq (⟨"MixedCellsModel", "laySums", "(IIII)V"⟩, 14) := ⟨⟨by decide +kernel, by decide +kernel⟩, List.mem_of_getElem? (i := 423) (by decide +kernel), List.mem_of_getElem? (i := 565) (by decide +kernel), List.mem_of_getElem? (i := 566) (by decide +kernel)⟩
theorem lw_p33 : lw_okq (⟨"MixedCellsModel", "areaOf", "(II)I"⟩, 14) := ⟨⟨by decide +kernel, by decide +kernel⟩, List.mem_of_getElem? (i := 423) (by decide +kernel), List.mem_of_getElem? (i := 569) (by decide +kernel), List.mem_of_getElem? (i := 570) (by decide +kernel)⟩
theorem lw_p34 : lw_okq (⟨"MixedCellsModel", "layCells", "(II)V"⟩, 14) := ⟨⟨by decide +kernel, by decide +kernel⟩, List.mem_of_getElem? (i := 423) (by decide +kernel), List.mem_of_getElem? (i := 584) (by decide +kernel), List.mem_of_getElem? (i := 585) (by decide +kernel)⟩
theorem lw_p35 : lw_okq (⟨"MixedCellsModel", "tryThree", "(IIIII)V"⟩, 14) := ⟨⟨by decide +kernel, by decide +kernel⟩, List.mem_of_getElem? (i := 423) (by decide +kernel), List.mem_of_getElem? (i := 588) (by decide +kernel), List.mem_of_getElem? (i := 589) (by decide +kernel)⟩
theorem lw_p36 : lw_okq (⟨"MixedCellsModel", "sumOf", "(IIII)I"⟩, 14) := ⟨⟨by decide +kernel, by decide +kernel⟩, List.mem_of_getElem? (i := 423) (by decide +kernel), List.mem_of_getElem? (i := 592) (by decide +kernel), List.mem_of_getElem? (i := 593) (by decide +kernel)⟩
theorem lw_p37 : lw_okq (⟨"MixedCellsModel", "lowBy", "(IIII)I"⟩, 14) := ⟨⟨by decide +kernel, by decide +kernel⟩, List.mem_of_getElem? (i := 423) (by decide +kernel), List.mem_of_getElem? (i := 596) (by decide +kernel), List.mem_of_getElem? (i := 597) (by decide +kernel)⟩
theorem lw_p38 : lw_okq (⟨"MixedCellsModel", "isLow", "(III)Z"⟩, 14) := ⟨⟨by decide +kernel, by decide +kernel⟩, List.mem_of_getElem? (i := 423) (by decide +kernel), List.mem_of_getElem? (i := 600) (by decide +kernel), List.mem_of_getElem? (i := 601) (by decide +kernel)⟩
theorem lw_p39 : lw_okq (⟨"MixedCellsModel", "addCell", "(III)V"⟩, 14) := ⟨⟨by decide +kernel, by decide +kernel⟩, List.mem_of_getElem? (i := 423) (by decide +kernel), List.mem_of_getElem? (i := 604) (by decide +kernel), List.mem_of_getElem? (i := 605) (by decide +kernel)⟩
theorem lw_p40 : lw_okq (⟨"MixedCellsModel", "compare", "(IIII)I"⟩, 14) := ⟨⟨by decide +kernel, by decide +kernel⟩, List.mem_of_getElem? (i := 423) (by decide +kernel), List.mem_of_getElem? (i := 608) (by decide +kernel), List.mem_of_getElem? (i := 609) (by decide +kernel)⟩
theorem lw_p41 : lw_okq (⟨"MixedCellsModel", "cellArea", "(III)I"⟩, 14) := ⟨⟨by decide +kernel, by decide +kernel⟩, List.mem_of_getElem? (i := 423) (by decide +kernel), List.mem_of_getElem? (i := 612) (by decide +kernel), List.mem_of_getElem? (i := 613) (by decide +kernel)⟩
theorem lw_p42 : lw_okq (⟨"MixedCellsModel", "lowOf", "(II)I"⟩, 14) := ⟨⟨by decide +kernel, by decide +kernel⟩, List.mem_of_getElem? (i := 423) (by decide +kernel), List.mem_of_getElem? (i := 616) (by decide +kernel), List.mem_of_getElem? (i := 617) (by decide +kernel)⟩
theorem lw_p43 : lw_okq (⟨"MixedCellsModel", "cellMixed", "(III)I"⟩, 14) := ⟨⟨by decide +kernel, by decide +kernel⟩, List.mem_of_getElem? (i := 423) (by decide +kernel), List.mem_of_getElem? (i := 620) (by decide +kernel), List.mem_of_getElem? (i := 621) (by decide +kernel)⟩
theorem lw_p44 : lw_okq (⟨"MixedCellsModel", "kindOf", "(III)I"⟩, 14) := ⟨⟨by decide +kernel, by decide +kernel⟩, List.mem_of_getElem? (i := 423) (by decide +kernel), List.mem_of_getElem? (i := 624) (by decide +kernel), List.mem_of_getElem? (i := 625) (by decide +kernel)⟩
theorem lw_p45 : lw_okq (⟨"MixedCellsModel", "spanOf", "(II)I"⟩, 14) := ⟨⟨by decide +kernel, by decide +kernel⟩, List.mem_of_getElem? (i := 423) (by decide +kernel), List.mem_of_getElem? (i := 628) (by decide +kernel), List.mem_of_getElem? (i := 629) (by decide +kernel)⟩
theorem lw_p46 : lw_okq (⟨"MixedCellsModel", "holds", "(IIII)Z"⟩, 14) := ⟨⟨by decide +kernel, by decide +kernel⟩, List.mem_of_getElem? (i := 423) (by decide +kernel), List.mem_of_getElem? (i := 656) (by decide +kernel), List.mem_of_getElem? (i := 657) (by decide +kernel)⟩
def lw_privs_3 : List (MethodName × Nat) := [(⟨"MixedCellsModel", "laySums", "(IIII)V"⟩, 14), (⟨"MixedCellsModel", "areaOf", "(II)I"⟩, 14), (⟨"MixedCellsModel", "layCells", "(II)V"⟩, 14), (⟨"MixedCellsModel", "tryThree", "(IIIII)V"⟩, 14), (⟨"MixedCellsModel", "sumOf", "(IIII)I"⟩, 14), (⟨"MixedCellsModel", "lowBy", "(IIII)I"⟩, 14), (⟨"MixedCellsModel", "isLow", "(III)Z"⟩, 14), (⟨"MixedCellsModel", "addCell", "(III)V"⟩, 14), (⟨"MixedCellsModel", "compare", "(IIII)I"⟩, 14), (⟨"MixedCellsModel", "cellArea", "(III)I"⟩, 14), (⟨"MixedCellsModel", "lowOf", "(II)I"⟩, 14), (⟨"MixedCellsModel", "cellMixed", "(III)I"⟩, 14), (⟨"MixedCellsModel", "kindOf", "(III)I"⟩, 14), (⟨"MixedCellsModel", "spanOf", "(II)I"⟩, 14), (⟨"MixedCellsModel", "holds", "(IIII)Z"⟩, 14)]
theorem lw_r3 : ∀ q ∈ lw_privs_3, lw_okq q := List.forall_mem_cons.mpr ⟨lw_p32, List.forall_mem_cons.mpr ⟨lw_p33, List.forall_mem_cons.mpr ⟨lw_p34, List.forall_mem_cons.mpr ⟨lw_p35, List.forall_mem_cons.mpr ⟨lw_p36, List.forall_mem_cons.mpr ⟨lw_p37, List.forall_mem_cons.mpr ⟨lw_p38, List.forall_mem_cons.mpr ⟨lw_p39, List.forall_mem_cons.mpr ⟨lw_p40, List.forall_mem_cons.mpr ⟨lw_p41, List.forall_mem_cons.mpr ⟨lw_p42, List.forall_mem_cons.mpr ⟨lw_p43, List.forall_mem_cons.mpr ⟨lw_p44, List.forall_mem_cons.mpr ⟨lw_p45, List.forall_mem_cons.mpr ⟨lw_p46, fun _ h => absurd h List.not_mem_nil⟩⟩⟩⟩⟩⟩⟩⟩⟩⟩⟩⟩⟩⟩⟩
def lw_privs : List (MethodName × Nat) := lw_privs_1 ++ (lw_privs_2 ++ (lw_privs_3))
def lw_tbl : List Cond := k2_sels lw_privs ++ tables_1
theorem lw_privs_ok : ∀ q ∈ lw_privs, lw_okq q := by
  show ∀ q ∈ lw_privs_1 ++ (lw_privs_2 ++ (lw_privs_3)), lw_okq q
  exact List.forall_mem_append.mpr ⟨lw_r1, List.forall_mem_append.mpr ⟨lw_r2, lw_r3⟩⟩
end
section
def RX0 : String := "MixedCells$Body"
def TX0 : u_T := fun k => match k with
  | 0 => ("MixedCells$Body", "x", "[I", true)
  | 1 => ("MixedCells$Body", "y", "[I", true)
  | 2 => ("MixedCells$Body", "weight", "[I", true)
  | _ => ("MixedCells$Body", "size", "I", false)
def tyX0 : Nat → FieldType := fun k => match k with
  | 0 => .array .int
  | 1 => .array .int
  | 2 => .array .int
  | _ => .int
abbrev wsX00 : List Cond := u_ws RX0 TX0 4
theorem nmX0 : ∀ a, a < 4 → ∀ b, b < 4 → a ≠ b → (TX0 a).2.1 ≠ (TX0 b).2.1 := by decide +kernel
theorem tyX0_ok : ∀ k, k < 4 → parseFieldDescriptor (TX0 k).2.2.1 = some (tyX0 k) := by decide +kernel
abbrev cX0_init : ByteArray := prog_2_method_1_code
def yX0_init : MethodName := ⟨RX0, "<init>", "()V"⟩
abbrev cX0_has : ByteArray := prog_2_method_2_code
def yX0_has : MethodName := ⟨RX0, "has", "(I)Z"⟩
abbrev cX0_all : ByteArray := prog_2_method_3_code
def yX0_all : MethodName := ⟨RX0, "all", "()I"⟩
abbrev cX0_find : ByteArray := prog_2_method_4_code
def yX0_find : MethodName := ⟨RX0, "find", "(II)I"⟩
abbrev cX0_append : ByteArray := prog_2_method_5_code
def yX0_append : MethodName := ⟨RX0, "append", "(III)I"⟩
abbrev cX0_remove : ByteArray := prog_2_method_6_code
def yX0_remove : MethodName := ⟨RX0, "remove", "(I)V"⟩
abbrev cX0_copyFrom : ByteArray := prog_2_method_7_code
def yX0_copyFrom : MethodName := ⟨RX0, "copyFrom", "(LMixedCells$Body;)V"⟩
abbrev cX0_lowest : ByteArray := prog_2_method_8_code
def yX0_lowest : MethodName := ⟨RX0, "lowest", "(III)I"⟩
def RX1 : String := "MixedCells$Cell"
def TX1 : u_T := fun k => match k with
  | 0 => ("MixedCells$Cell", "uUpper", "I", false)
  | 1 => ("MixedCells$Cell", "uLower", "I", false)
  | 2 => ("MixedCells$Cell", "vUpper", "I", false)
  | 3 => ("MixedCells$Cell", "vLower", "I", false)
  | 4 => ("MixedCells$Cell", "firstLow", "I", false)
  | _ => ("MixedCells$Cell", "secondLow", "I", false)
def tyX1 : Nat → FieldType := fun k => match k with
  | 0 => .int
  | 1 => .int
  | 2 => .int
  | 3 => .int
  | 4 => .int
  | _ => .int
abbrev wsX10 : List Cond := u_ws RX1 TX1 6
theorem nmX1 : ∀ a, a < 6 → ∀ b, b < 6 → a ≠ b → (TX1 a).2.1 ≠ (TX1 b).2.1 := by decide +kernel
theorem tyX1_ok : ∀ k, k < 6 → parseFieldDescriptor (TX1 k).2.2.1 = some (tyX1 k) := by decide +kernel
abbrev cX1_init : ByteArray := prog_3_method_1_code
def yX1_init : MethodName := ⟨RX1, "<init>", "()V"⟩
abbrev cX1_setSlope : ByteArray := prog_3_method_2_code
def yX1_setSlope : MethodName := ⟨RX1, "setSlope", "(III)V"⟩
abbrev cX1_compareSlope : ByteArray := prog_3_method_3_code
def yX1_compareSlope : MethodName := ⟨RX1, "compareSlope", "(LMixedCells$Cell;)I"⟩
def RX2 : String := "MixedCells$Cutting"
def TX2 : u_T := fun k => match k with
  | 0 => ("MixedCells$Cutting", "found", "[LMixedCells$Cell;", true)
  | 1 => ("MixedCells$Cutting", "size", "I", false)
  | 2 => ("MixedCells$Cutting", "dx", "[I", true)
  | 3 => ("MixedCells$Cutting", "dy", "[I", true)
  | 4 => ("MixedCells$Cutting", "dw", "[I", true)
  | 5 => ("MixedCells$Cutting", "ends", "[I", true)
  | _ => ("MixedCells$Cutting", "pairs", "I", false)
def tyX2 : Nat → FieldType := fun k => match k with
  | 0 => .array (.object "MixedCells$Cell")
  | 1 => .int
  | 2 => .array .int
  | 3 => .array .int
  | 4 => .array .int
  | 5 => .array .int
  | _ => .int
abbrev wsX20 : List Cond := u_ws RX2 TX2 7
theorem nmX2 : ∀ a, a < 7 → ∀ b, b < 7 → a ≠ b → (TX2 a).2.1 ≠ (TX2 b).2.1 := by decide +kernel
theorem tyX2_ok : ∀ k, k < 7 → parseFieldDescriptor (TX2 k).2.2.1 = some (tyX2 k) := by decide +kernel
abbrev cX2_init : ByteArray := prog_4_method_1_code
def yX2_init : MethodName := ⟨RX2, "<init>", "()V"⟩
abbrev cX2_get : ByteArray := prog_4_method_2_code
def yX2_get : MethodName := ⟨RX2, "get", "(I)LMixedCells$Cell;"⟩
abbrev cX2_cut : ByteArray := prog_4_method_3_code
def yX2_cut : MethodName := ⟨RX2, "cut", "(LMixedCells$Body;LMixedCells$Body;)V"⟩
abbrev cX2_addPairs : ByteArray := prog_4_method_4_code
def yX2_addPairs : MethodName := ⟨RX2, "addPairs", "(LMixedCells$Body;I)V"⟩
abbrev cX2_firstEnd : ByteArray := prog_4_method_5_code
def yX2_firstEnd : MethodName := ⟨RX2, "firstEnd", "(I)I"⟩
abbrev cX2_tryPairs : ByteArray := prog_4_method_6_code
def yX2_tryPairs : MethodName := ⟨RX2, "tryPairs", "(LMixedCells$Body;LMixedCells$Body;II)V"⟩
abbrev cX2_sortIn : ByteArray := prog_4_method_7_code
def yX2_sortIn : MethodName := ⟨RX2, "sortIn", "(LMixedCells$Cell;)V"⟩
def RX3 : String := "MixedCells$Region"
def TX3 : u_T := fun k => match k with
  | 0 => ("MixedCells$Region", "xs", "[I", true)
  | 1 => ("MixedCells$Region", "ys", "[I", true)
  | 2 => ("MixedCells$Region", "size", "I", false)
  | 3 => ("MixedCells$Region", "round", "[I", true)
  | _ => ("MixedCells$Region", "corners", "I", false)
def tyX3 : Nat → FieldType := fun k => match k with
  | 0 => .array .int
  | 1 => .array .int
  | 2 => .int
  | 3 => .array .int
  | _ => .int
abbrev wsX30 : List Cond := u_ws RX3 TX3 5
theorem nmX3 : ∀ a, a < 5 → ∀ b, b < 5 → a ≠ b → (TX3 a).2.1 ≠ (TX3 b).2.1 := by decide +kernel
theorem tyX3_ok : ∀ k, k < 5 → parseFieldDescriptor (TX3 k).2.2.1 = some (tyX3 k) := by decide +kernel
abbrev cX3_init : ByteArray := prog_5_method_1_code
def yX3_init : MethodName := ⟨RX3, "<init>", "()V"⟩
abbrev cX3_gather : ByteArray := prog_5_method_2_code
def yX3_gather : MethodName := ⟨RX3, "gather", "(LMixedCells$Body;I)LMixedCells$Region;"⟩
abbrev cX3_gatherSums : ByteArray := prog_5_method_3_code
def yX3_gatherSums : MethodName := ⟨RX3, "gatherSums", "(LMixedCells$Body;ILMixedCells$Body;I)LMixedCells$Region;"⟩
abbrev cX3_gatherFan : ByteArray := prog_5_method_4_code
def yX3_gatherFan : MethodName := ⟨RX3, "gatherFan", "(LMixedCells$Body;)LMixedCells$Region;"⟩
abbrev cX3_include : ByteArray := prog_5_method_5_code
def yX3_include : MethodName := ⟨RX3, "include", "(II)V"⟩
abbrev cX3_comesBehind : ByteArray := prog_5_method_6_code
def yX3_comesBehind : MethodName := ⟨RX3, "comesBehind", "(III)Z"⟩
abbrev cX3_findCorners : ByteArray := prog_5_method_7_code
def yX3_findCorners : MethodName := ⟨RX3, "findCorners", "()LMixedCells$Region;"⟩
abbrev cX3_turnTo : ByteArray := prog_5_method_8_code
def yX3_turnTo : MethodName := ⟨RX3, "turnTo", "(II)V"⟩
abbrev cX3_turnsLeft : ByteArray := prog_5_method_9_code
def yX3_turnsLeft : MethodName := ⟨RX3, "turnsLeft", "(III)Z"⟩
abbrev cX3_hasCorner : ByteArray := prog_5_method_10_code
def yX3_hasCorner : MethodName := ⟨RX3, "hasCorner", "(I)Z"⟩
abbrev cX3_cornerX : ByteArray := prog_5_method_11_code
def yX3_cornerX : MethodName := ⟨RX3, "cornerX", "(I)I"⟩
abbrev cX3_cornerY : ByteArray := prog_5_method_12_code
def yX3_cornerY : MethodName := ⟨RX3, "cornerY", "(I)I"⟩
abbrev cX3_next : ByteArray := prog_5_method_13_code
def yX3_next : MethodName := ⟨RX3, "next", "(I)I"⟩
abbrev cX3_area : ByteArray := prog_5_method_14_code
def yX3_area : MethodName := ⟨RX3, "area", "()I"⟩
abbrev cX3_span : ByteArray := prog_5_method_15_code
def yX3_span : MethodName := ⟨RX3, "span", "()I"⟩
abbrev cX3_stepsRound : ByteArray := prog_5_method_16_code
def yX3_stepsRound : MethodName := ⟨RX3, "stepsRound", "()I"⟩
abbrev cX3_wholePoints : ByteArray := prog_5_method_17_code
def yX3_wholePoints : MethodName := ⟨RX3, "wholePoints", "()I"⟩
abbrev cX3_rimPoints : ByteArray := prog_5_method_18_code
def yX3_rimPoints : MethodName := ⟨RX3, "rimPoints", "()I"⟩
def RX4 : String := "MixedCells"
def TX4 : u_T := fun k => match k with
  | 0 => ("MixedCells", "bodies", "[LMixedCells$Body;", true)
  | 1 => ("MixedCells", "kept", "[LMixedCells$Body;", true)
  | 2 => ("MixedCells", "keptImages", "I", false)
  | 3 => ("MixedCells", "region", "LMixedCells$Region;", true)
  | 4 => ("MixedCells", "cutting", "LMixedCells$Cutting;", true)
  | _ => ("MixedCells", "powers", "[[I", true)
def tyX4 : Nat → FieldType := fun k => match k with
  | 0 => .array (.object "MixedCells$Body")
  | 1 => .array (.object "MixedCells$Body")
  | 2 => .int
  | 3 => .object "MixedCells$Region"
  | 4 => .object "MixedCells$Cutting"
  | _ => .array (.array .int)
abbrev wsX40 : List Cond := u_ws RX4 TX4 6
theorem nmX4 : ∀ a, a < 6 → ∀ b, b < 6 → a ≠ b → (TX4 a).2.1 ≠ (TX4 b).2.1 := by decide +kernel
theorem tyX4_ok : ∀ k, k < 6 → parseFieldDescriptor (TX4 k).2.2.1 = some (tyX4 k) := by decide +kernel
abbrev cX4_init : ByteArray := prog_1_method_1_code
def yX4_init : MethodName := ⟨RX4, "<init>", "()V"⟩
abbrev cX4_put : ByteArray := prog_1_method_2_code
def yX4_put : MethodName := ⟨RX4, "put", "(IIII)I"⟩
abbrev cX4_take : ByteArray := prog_1_method_3_code
def yX4_take : MethodName := ⟨RX4, "take", "(II)I"⟩
abbrev cX4_clear : ByteArray := prog_1_method_4_code
def yX4_clear : MethodName := ⟨RX4, "clear", "(I)I"⟩
abbrev cX4_point : ByteArray := prog_1_method_5_code
def yX4_point : MethodName := ⟨RX4, "point", "(III)I"⟩
abbrev cX4_hull : ByteArray := prog_1_method_6_code
def yX4_hull : MethodName := ⟨RX4, "hull", "(II)I"⟩
abbrev cX4_corner : ByteArray := prog_1_method_7_code
def yX4_corner : MethodName := ⟨RX4, "corner", "(II)I"⟩
abbrev cX4_sum : ByteArray := prog_1_method_8_code
def yX4_sum : MethodName := ⟨RX4, "sum", "(III)I"⟩
abbrev cX4_sumCorner : ByteArray := prog_1_method_9_code
def yX4_sumCorner : MethodName := ⟨RX4, "sumCorner", "(IIII)I"⟩
abbrev cX4_cells : ByteArray := prog_1_method_10_code
def yX4_cells : MethodName := ⟨RX4, "cells", "(III)I"⟩
abbrev cX4_cell : ByteArray := prog_1_method_11_code
def yX4_cell : MethodName := ⟨RX4, "cell", "(IIII)I"⟩
abbrev cX4_slope : ByteArray := prog_1_method_12_code
def yX4_slope : MethodName := ⟨RX4, "slope", "(IIII)I"⟩
abbrev cX4_low : ByteArray := prog_1_method_13_code
def yX4_low : MethodName := ⟨RX4, "low", "(III)I"⟩
abbrev cX4_fan : ByteArray := prog_1_method_14_code
def yX4_fan : MethodName := ⟨RX4, "fan", "(II)I"⟩
abbrev cX4_roots : ByteArray := prog_1_method_15_code
def yX4_roots : MethodName := ⟨RX4, "roots", "(III)I"⟩
abbrev cX4_image : ByteArray := prog_1_method_16_code
def yX4_image : MethodName := ⟨RX4, "image", "(I)I"⟩
abbrev cX4_restore : ByteArray := prog_1_method_17_code
def yX4_restore : MethodName := ⟨RX4, "restore", "(I)I"⟩
abbrev cX4_count : ByteArray := prog_1_method_18_code
def yX4_count : MethodName := ⟨RX4, "count", "(I)I"⟩
abbrev cX4_bodyAt : ByteArray := prog_1_method_19_code
def yX4_bodyAt : MethodName := ⟨RX4, "bodyAt", "(I)LMixedCells$Body;"⟩
abbrev cX4_isWithin : ByteArray := prog_1_method_20_code
def yX4_isWithin : MethodName := ⟨RX4, "isWithin", "(III)Z"⟩
abbrev cX4_isKindAsked : ByteArray := prog_1_method_21_code
def yX4_isKindAsked : MethodName := ⟨RX4, "isKindAsked", "(I)Z"⟩
abbrev cX4_isSmallPrime : ByteArray := prog_1_method_22_code
def yX4_isSmallPrime : MethodName := ⟨RX4, "isSmallPrime", "(I)Z"⟩
abbrev cX4_pointsOfAll : ByteArray := prog_1_method_23_code
def yX4_pointsOfAll : MethodName := ⟨RX4, "pointsOfAll", "()I"⟩
abbrev cX4_filledBodies : ByteArray := prog_1_method_24_code
def yX4_filledBodies : MethodName := ⟨RX4, "filledBodies", "()I"⟩
abbrev cX4_mixedOf : ByteArray := prog_1_method_25_code
def yX4_mixedOf : MethodName := ⟨RX4, "mixedOf", "(LMixedCells$Body;ILMixedCells$Body;I)I"⟩
abbrev cX4_kindOf : ByteArray := prog_1_method_26_code
def yX4_kindOf : MethodName := ⟨RX4, "kindOf", "(LMixedCells$Cell;LMixedCells$Body;LMixedCells$Body;)I"⟩
abbrev cX4_shareOf : ByteArray := prog_1_method_27_code
def yX4_shareOf : MethodName := ⟨RX4, "shareOf", "(LMixedCells$Cell;LMixedCells$Body;LMixedCells$Body;I)I"⟩
abbrev cX4_fillPowers : ByteArray := prog_1_method_28_code
def yX4_fillPowers : MethodName := ⟨RX4, "fillPowers", "(I)V"⟩
abbrev cX4_isRoot : ByteArray := prog_1_method_29_code
def yX4_isRoot : MethodName := ⟨RX4, "isRoot", "(LMixedCells$Body;III)Z"⟩
abbrev cX4_commonDivisor : ByteArray := prog_1_method_30_code
def yX4_commonDivisor : MethodName := ⟨RX4, "commonDivisor", "(II)I"⟩
def RX5 : String := "MixedCellsModel"
def TX5 : u_T := fun k => match k with
  | 0 => ("MixedCellsModel", "state", "[I", true)
  | 1 => ("MixedCellsModel", "images", "[I", true)
  | 2 => ("MixedCellsModel", "isKept", "[Z", true)
  | 3 => ("MixedCellsModel", "xs", "[I", true)
  | 4 => ("MixedCellsModel", "ys", "[I", true)
  | 5 => ("MixedCellsModel", "points", "I", false)
  | 6 => ("MixedCellsModel", "corners", "[I", true)
  | 7 => ("MixedCellsModel", "cornerCount", "I", false)
  | 8 => ("MixedCellsModel", "us", "[I", true)
  | 9 => ("MixedCellsModel", "vs", "[I", true)
  | 10 => ("MixedCellsModel", "lows", "[I", true)
  | 11 => ("MixedCellsModel", "cells", "I", false)
  | 12 => ("MixedCellsModel", "firsts", "[I", true)
  | _ => ("MixedCellsModel", "seconds", "[I", true)
def tyX5 : Nat → FieldType := fun k => match k with
  | 0 => .array .int
  | 1 => .array .int
  | 2 => .array .boolean
  | 3 => .array .int
  | 4 => .array .int
  | 5 => .int
  | 6 => .array .int
  | 7 => .int
  | 8 => .array .int
  | 9 => .array .int
  | 10 => .array .int
  | 11 => .int
  | 12 => .array .int
  | _ => .array .int
abbrev wsX50 : List Cond := u_ws RX5 TX5 14
theorem nmX5 : ∀ a, a < 14 → ∀ b, b < 14 → a ≠ b → (TX5 a).2.1 ≠ (TX5 b).2.1 := by decide +kernel
theorem tyX5_ok : ∀ k, k < 14 → parseFieldDescriptor (TX5 k).2.2.1 = some (tyX5 k) := by decide +kernel
abbrev cX5_init : ByteArray := prog_7_method_1_code
def yX5_init : MethodName := ⟨RX5, "<init>", "()V"⟩
abbrev cX5_in : ByteArray := prog_7_method_2_code
def yX5_in : MethodName := ⟨RX5, "in", "(III)Z"⟩
abbrev cX5_isBody : ByteArray := prog_7_method_3_code
def yX5_isBody : MethodName := ⟨RX5, "isBody", "(I)Z"⟩
abbrev cX5_has : ByteArray := prog_7_method_4_code
def yX5_has : MethodName := ⟨RX5, "has", "(II)Z"⟩
abbrev cX5_many : ByteArray := prog_7_method_5_code
def yX5_many : MethodName := ⟨RX5, "many", "(I)I"⟩
abbrev cX5_at : ByteArray := prog_7_method_6_code
def yX5_at : MethodName := ⟨RX5, "at", "(III)I"⟩
abbrev cX5_of : ByteArray := prog_7_method_7_code
def yX5_of : MethodName := ⟨RX5, "of", "(III)I"⟩
abbrev cX5_put : ByteArray := prog_7_method_8_code
def yX5_put : MethodName := ⟨RX5, "put", "(IIII)I"⟩
abbrev cX5_take : ByteArray := prog_7_method_9_code
def yX5_take : MethodName := ⟨RX5, "take", "(II)I"⟩
abbrev cX5_clear : ByteArray := prog_7_method_10_code
def yX5_clear : MethodName := ⟨RX5, "clear", "(I)I"⟩
abbrev cX5_point : ByteArray := prog_7_method_11_code
def yX5_point : MethodName := ⟨RX5, "point", "(III)I"⟩
abbrev cX5_addPoint : ByteArray := prog_7_method_12_code
def yX5_addPoint : MethodName := ⟨RX5, "addPoint", "(II)V"⟩
abbrev cX5_turn : ByteArray := prog_7_method_13_code
def yX5_turn : MethodName := ⟨RX5, "turn", "(III)I"⟩
abbrev cX5_far : ByteArray := prog_7_method_14_code
def yX5_far : MethodName := ⟨RX5, "far", "(II)I"⟩
abbrev cX5_nextCorner : ByteArray := prog_7_method_15_code
def yX5_nextCorner : MethodName := ⟨RX5, "nextCorner", "(I)I"⟩
abbrev cX5_layCorners : ByteArray := prog_7_method_16_code
def yX5_layCorners : MethodName := ⟨RX5, "layCorners", "()V"⟩
abbrev cX5_area : ByteArray := prog_7_method_17_code
def yX5_area : MethodName := ⟨RX5, "area", "()I"⟩
abbrev cX5_span : ByteArray := prog_7_method_18_code
def yX5_span : MethodName := ⟨RX5, "span", "()I"⟩
abbrev cX5_layBody : ByteArray := prog_7_method_19_code
def yX5_layBody : MethodName := ⟨RX5, "layBody", "(II)V"⟩
abbrev cX5_laySums : ByteArray := prog_7_method_20_code
def yX5_laySums : MethodName := ⟨RX5, "laySums", "(IIII)V"⟩
abbrev cX5_lies : ByteArray := prog_7_method_21_code
def yX5_lies : MethodName := ⟨RX5, "lies", "(II)I"⟩
abbrev cX5_lattice : ByteArray := prog_7_method_22_code
def yX5_lattice : MethodName := ⟨RX5, "lattice", "(I)I"⟩
abbrev cX5_hull : ByteArray := prog_7_method_23_code
def yX5_hull : MethodName := ⟨RX5, "hull", "(II)I"⟩
abbrev cX5_corner : ByteArray := prog_7_method_24_code
def yX5_corner : MethodName := ⟨RX5, "corner", "(II)I"⟩
abbrev cX5_areaOf : ByteArray := prog_7_method_25_code
def yX5_areaOf : MethodName := ⟨RX5, "areaOf", "(II)I"⟩
abbrev cX5_areaOfSums : ByteArray := prog_7_method_26_code
def yX5_areaOfSums : MethodName := ⟨RX5, "areaOfSums", "(IIII)I"⟩
abbrev cX5_sum : ByteArray := prog_7_method_27_code
def yX5_sum : MethodName := ⟨RX5, "sum", "(III)I"⟩
abbrev cX5_sumCorner : ByteArray := prog_7_method_28_code
def yX5_sumCorner : MethodName := ⟨RX5, "sumCorner", "(IIII)I"⟩
abbrev cX5_lowBy : ByteArray := prog_7_method_29_code
def yX5_lowBy : MethodName := ⟨RX5, "lowBy", "(IIII)I"⟩
abbrev cX5_compare : ByteArray := prog_7_method_30_code
def yX5_compare : MethodName := ⟨RX5, "compare", "(IIII)I"⟩
abbrev cX5_addCell : ByteArray := prog_7_method_31_code
def yX5_addCell : MethodName := ⟨RX5, "addCell", "(III)V"⟩
abbrev cX5_tryThree : ByteArray := prog_7_method_32_code
def yX5_tryThree : MethodName := ⟨RX5, "tryThree", "(IIIII)V"⟩
abbrev cX5_sumOf : ByteArray := prog_7_method_33_code
def yX5_sumOf : MethodName := ⟨RX5, "sumOf", "(IIII)I"⟩
abbrev cX5_isLow : ByteArray := prog_7_method_34_code
def yX5_isLow : MethodName := ⟨RX5, "isLow", "(III)Z"⟩
abbrev cX5_layCells : ByteArray := prog_7_method_35_code
def yX5_layCells : MethodName := ⟨RX5, "layCells", "(II)V"⟩
abbrev cX5_lowOf : ByteArray := prog_7_method_36_code
def yX5_lowOf : MethodName := ⟨RX5, "lowOf", "(II)I"⟩
abbrev cX5_spanOf : ByteArray := prog_7_method_37_code
def yX5_spanOf : MethodName := ⟨RX5, "spanOf", "(II)I"⟩
abbrev cX5_kindOf : ByteArray := prog_7_method_38_code
def yX5_kindOf : MethodName := ⟨RX5, "kindOf", "(III)I"⟩
abbrev cX5_cellArea : ByteArray := prog_7_method_39_code
def yX5_cellArea : MethodName := ⟨RX5, "cellArea", "(III)I"⟩
abbrev cX5_cellMixed : ByteArray := prog_7_method_40_code
def yX5_cellMixed : MethodName := ⟨RX5, "cellMixed", "(III)I"⟩
abbrev cX5_isKind : ByteArray := prog_7_method_41_code
def yX5_isKind : MethodName := ⟨RX5, "isKind", "(I)Z"⟩
abbrev cX5_cells : ByteArray := prog_7_method_42_code
def yX5_cells : MethodName := ⟨RX5, "cells", "(III)I"⟩
abbrev cX5_cell : ByteArray := prog_7_method_43_code
def yX5_cell : MethodName := ⟨RX5, "cell", "(IIII)I"⟩
abbrev cX5_common : ByteArray := prog_7_method_44_code
def yX5_common : MethodName := ⟨RX5, "common", "(II)I"⟩
abbrev cX5_slope : ByteArray := prog_7_method_45_code
def yX5_slope : MethodName := ⟨RX5, "slope", "(IIII)I"⟩
abbrev cX5_low : ByteArray := prog_7_method_46_code
def yX5_low : MethodName := ⟨RX5, "low", "(III)I"⟩
abbrev cX5_fan : ByteArray := prog_7_method_47_code
def yX5_fan : MethodName := ⟨RX5, "fan", "(II)I"⟩
abbrev cX5_power : ByteArray := prog_7_method_48_code
def yX5_power : MethodName := ⟨RX5, "power", "(III)I"⟩
abbrev cX5_holds : ByteArray := prog_7_method_49_code
def yX5_holds : MethodName := ⟨RX5, "holds", "(IIII)Z"⟩
abbrev cX5_roots : ByteArray := prog_7_method_50_code
def yX5_roots : MethodName := ⟨RX5, "roots", "(III)I"⟩
abbrev cX5_image : ByteArray := prog_7_method_51_code
def yX5_image : MethodName := ⟨RX5, "image", "(I)I"⟩
abbrev cX5_restore : ByteArray := prog_7_method_52_code
def yX5_restore : MethodName := ⟨RX5, "restore", "(I)I"⟩
abbrev cX5_count : ByteArray := prog_7_method_53_code
def yX5_count : MethodName := ⟨RX5, "count", "(I)I"⟩
def RJ6 : String := "java/lang/Integer"
def TJ6 : u_T := fun k => match k with
  | _ => ("", "", "", false)
def tyJ6 : Nat → FieldType := fun k => match k with
  | _ => .int
abbrev wsJ60 : List Cond := u_ws RJ6 TJ6 0
theorem nmJ6 : ∀ a, a < 0 → ∀ b, b < 0 → a ≠ b → (TJ6 a).2.1 ≠ (TJ6 b).2.1 := by decide +kernel
theorem tyJ6_ok : ∀ k, k < 0 → parseFieldDescriptor (TJ6 k).2.2.1 = some (tyJ6 k) := by decide +kernel
abbrev cJ6_compare_7cf53 : ByteArray := prog_8_method_40_code
def yJ6_compare_7cf53 : MethodName := ⟨RJ6, "compare", "(II)I"⟩
abbrev cJ6_numberOfTrailingZeros_0f7a4 : ByteArray := prog_8_method_48_code
def yJ6_numberOfTrailingZeros_0f7a4 : MethodName := ⟨RJ6, "numberOfTrailingZeros", "(I)I"⟩
def RJ9 : String := "java/lang/Math"
def TJ9 : u_T := fun k => match k with
  | _ => ("", "", "", false)
def tyJ9 : Nat → FieldType := fun k => match k with
  | _ => .int
abbrev wsJ90 : List Cond := u_ws RJ9 TJ9 0
theorem nmJ9 : ∀ a, a < 0 → ∀ b, b < 0 → a ≠ b → (TJ9 a).2.1 ≠ (TJ9 b).2.1 := by decide +kernel
theorem tyJ9_ok : ∀ k, k < 0 → parseFieldDescriptor (TJ9 k).2.2.1 = some (tyJ9 k) := by decide +kernel
abbrev cJ9_abs_0f7a4 : ByteArray := prog_9_method_59_code
def yJ9_abs_0f7a4 : MethodName := ⟨RJ9, "abs", "(I)I"⟩
abbrev cJ9_max_7cf53 : ByteArray := prog_9_method_65_code
def yJ9_max_7cf53 : MethodName := ⟨RJ9, "max", "(II)I"⟩
abbrev cJ9_min_7cf53 : ByteArray := prog_9_method_69_code
def yJ9_min_7cf53 : MethodName := ⟨RJ9, "min", "(II)I"⟩
def RL : String := "MixedCellsLaw"
abbrev cL_law : ByteArray := code
def yL_law : MethodName := ⟨RL, "law", "([I)Z"⟩
theorem inX0 : ∀ w ∈ wsX00, w ∈ lw_tbl := fun w h => by
  have e : wsX00 = ([127, 129, 131, 133] : List Nat).filterMap (fun i => tables_1[i]?) := by decide +kernel
  rw [e] at h
  obtain ⟨i, -, hi⟩ := List.mem_filterMap.mp h
  exact List.mem_append_right _ (List.mem_of_getElem? hi)
theorem inX1 : ∀ w ∈ wsX10, w ∈ lw_tbl := fun w h => by
  have e : wsX10 = ([69, 71, 73, 75, 77, 79] : List Nat).filterMap (fun i => tables_1[i]?) := by decide +kernel
  rw [e] at h
  obtain ⟨i, -, hi⟩ := List.mem_filterMap.mp h
  exact List.mem_append_right _ (List.mem_of_getElem? hi)
theorem inX2 : ∀ w ∈ wsX20, w ∈ lw_tbl := fun w h => by
  have e : wsX20 = ([90, 92, 94, 96, 98, 100, 102] : List Nat).filterMap (fun i => tables_1[i]?) := by decide +kernel
  rw [e] at h
  obtain ⟨i, -, hi⟩ := List.mem_filterMap.mp h
  exact List.mem_append_right _ (List.mem_of_getElem? hi)
theorem inX3 : ∀ w ∈ wsX30, w ∈ lw_tbl := fun w h => by
  have e : wsX30 = ([32, 34, 36, 38, 40] : List Nat).filterMap (fun i => tables_1[i]?) := by decide +kernel
  rw [e] at h
  obtain ⟨i, -, hi⟩ := List.mem_filterMap.mp h
  exact List.mem_append_right _ (List.mem_of_getElem? hi)
theorem inX4 : ∀ w ∈ wsX40, w ∈ lw_tbl := fun w h => by
  have e : wsX40 = ([142, 144, 146, 148, 150, 152] : List Nat).filterMap (fun i => tables_1[i]?) := by decide +kernel
  rw [e] at h
  obtain ⟨i, -, hi⟩ := List.mem_filterMap.mp h
  exact List.mem_append_right _ (List.mem_of_getElem? hi)
theorem inX5 : ∀ w ∈ wsX50, w ∈ lw_tbl := fun w h => by
  have e : wsX50 = ([442, 444, 446, 448, 450, 452, 454, 456, 458, 460, 462, 464, 466, 468] : List Nat).filterMap (fun i => tables_1[i]?) := by decide +kernel
  rw [e] at h
  obtain ⟨i, -, hi⟩ := List.mem_filterMap.mp h
  exact List.mem_append_right _ (List.mem_of_getElem? hi)
abbrev vwCl : List vw_C := [(RX0, TX0, 4), (RX1, TX1, 6), (RX2, TX2, 7), (RX3, TX3, 5), (RX4, TX4, 6), (RX5, TX5, 14)]
end
section
/-! A machine of plain numbers over the machine: values are whole numbers or places of a list of cells; the list is the heap from the cell b on. -/
abbrev ax_V : Type := Int ⊕ Option Nat
abbrev ax_A : Type := (Nat → Int) ⊕ (Nat → Option Nat)
abbrev ax_E : Type := (Nat × Nat × ax_A) ⊕ (Nat × List ax_V)
abbrev ax_H : Type := List ax_E
abbrev iv (z : Int) : ax_V := .inl z
abbrev rv (a : Nat) : ax_V := .inr (some a)
abbrev nv : ax_V := .inr none
def ax_v (b : Nat) : ax_V → Value
  | .inl z => .int (Int32.ofInt z)
  | .inr none => .null
  | .inr (some a) => .ref (b + a)
theorem ax_cat (b : Nat) (v : ax_V) : (ax_v b v).category = 1 := by rcases v with z | (_ | a) <;> rfl
def ax_e (b : Nat) (dA : Nat → ClassId) : ax_E → va_E
  | .inl (t, n, .inl f) => .inl (dA t, n, .inl (fun k => Int32.ofInt (f k)))
  | .inl (t, n, .inr g) => .inl (dA t, n, .inr (.inr (.inr (.inr (fun k => (g k).map (fun a => b + a))))))
  | .inr (c, fs) => .inr (c, fs.map (ax_v b))
def ax_w (b : Nat) (dA : Nat → ClassId) (h : ax_H) : va_W := h.mapIdx (fun k e => (b + k, ax_e b dA e))
theorem ax_w_get (b : Nat) (dA : Nat → ClassId) (h : ax_H) (k : Nat) : (ax_w b dA h)[k]? = (h[k]?).map (fun e => (b + k, ax_e b dA e)) := by
  simp [ax_w]
theorem ax_w_at {b : Nat} {dA : Nat → ClassId} {h : ax_H} {k : Nat} {e : ax_E} (hk : h[k]? = some e) : (ax_w b dA h)[k]? = some (b + k, ax_e b dA e) := by
  rw [ax_w_get, hk]; rfl
theorem ax_w_set (b : Nat) (dA : Nat → ClassId) (h : ax_H) (k : Nat) (e : ax_E) : (ax_w b dA h).set k (b + k, ax_e b dA e) = ax_w b dA (h.set k e) := by
  apply List.ext_getElem?
  intro i
  rw [ax_w_get, List.getElem?_set, List.getElem?_set, ax_w_get]
  by_cases hi : k = i
  · subst hi
    by_cases hl : k < h.length
    · simp [ax_w, hl]
    · simp [ax_w, hl]
  · simp [hi]
theorem ax_w_push (b : Nat) (dA : Nat → ClassId) (h : ax_H) (e : ax_E) : ax_w b dA h ++ [(b + h.length, ax_e b dA e)] = ax_w b dA (h ++ [e]) := by
  simp [ax_w, List.mapIdx_append]
theorem ax_D (b : Nat) (dA : Nat → ClassId) (h : ax_H) : va_D (fun q => b ≤ q) (ax_w b dA h) := by
  have key : ∀ (k : Nat) (q : Nat × va_E), (ax_w b dA h)[k]? = some q → q.1 = b + k := by
    intro k q hq
    rw [ax_w_get] at hq
    cases hk : h[k]? with
    | none => rw [hk] at hq; cases hq
    | some e => rw [hk] at hq; cases hq; rfl
  refine ⟨fun i j p q hp hq e => ?_, fun k q hq => ?_⟩
  · have := key i p hp
    have := key j q hq
    omega
  · have := key k q hq
    omega
/-! sizes -/
def ax_z : ax_E → Nat
  | .inl (_, n, _) => n
  | .inr (_, fs) => fs.length
def ax_sz (h : ax_H) : Nat := (h.map ax_z).sum
theorem ax_sz_push (h : ax_H) (e : ax_E) : ax_sz (h ++ [e]) = ax_sz h + ax_z e := by simp [ax_sz]
theorem ax_sz_set : ∀ (h : ax_H) (k : Nat) (e e0 : ax_E), h[k]? = some e0 → ax_z e = ax_z e0 → ax_sz (h.set k e) = ax_sz h
  | [], k, e, e0, hk, _ => by simp at hk
  | x :: h, 0, e, e0, hk, hz => by
    simp at hk
    subst hk
    simp [ax_sz, hz]
  | x :: h, k + 1, e, e0, hk, hz => by
    simp at hk
    have := ax_sz_set h k e e0 hk hz
    simp [ax_sz] at this ⊢
    omega
def ax_tys (dA : Nat → ClassId) : List (ClassId × FieldType) := [(dA 0, .int), (dA 1, .boolean), (dA 2, .object RX0), (dA 3, .object RX1), (dA 4, .array .int)]
/-! the words of the tables stay as classes warm up -/
theorem ax_aoa {args a' : Array Value} {u U : State} (hvm : u.vm.Alike U.vm) (h : (Cond.arrayOver (.array .int)).before args u = true) : (Cond.arrayOver (.array .int)).before a' U = true := by
  simp only [Cond.before, Cond.holds, Cond.value, beq_iff_eq] at h ⊢
  rw [hvm.findClass, hvm.findClass]
  cases hc : u.vm.findClass (FieldType.array .int).toString with
  | none => simp [hc] at h
  | some comp =>
    simp only [hc, Option.bind_some, Option.bind_eq_some_iff, Option.map_eq_some_iff] at h ⊢
    obtain ⟨ci, hi, k, hk, hb⟩ := h
    obtain ⟨k', hk', he⟩ := hvm.2.2 _ _ hk
    have hkind : k'.kind = k.kind := by rw [he]
    refine ⟨ci, ?_, k', hk', ?_⟩
    · have e1 := va_idx_bare U.vm comp
      have e2 := va_idx_bare u.vm comp
      refine e1.symm.trans (Eq.trans ?_ (e2.trans hi))
      first | rw [hvm.bare_eq] | rw [← hvm.bare_eq]
    · rw [hkind]
      exact hb
def ax_good (w : Cond) : Bool := match w with
  | .methodLinkNest _ _ _ _ => true
  | .arrayOver (.object _) => true
  | .arrayOver (.array .int) => true
  | w => goodWord w
def ax_tb : List Cond := lw_tbl.filter ax_good
theorem ax_all : ax_tb.all ax_good = true := List.all_eq_true.mpr (fun w hw => (List.mem_filter.mp hw).2)
theorem ax_t (i : Nat) {w : Cond} (h : tables_1[i]? = some w) (hg : ax_good w = true) : w ∈ ax_tb := List.mem_filter.mpr ⟨List.mem_append_right _ (List.mem_of_getElem? h), hg⟩
theorem ax_p (i : Nat) {w : Cond} (h : (k2_sels lw_privs)[i]? = some w) (hg : ax_good w = true) : w ∈ ax_tb := List.mem_filter.mpr ⟨List.mem_append_left _ (List.mem_of_getElem? h), hg⟩
theorem inbX0 : ∀ w ∈ wsX00, w ∈ ax_tb := fun w h => List.mem_filter.mpr ⟨inX0 w h, List.all_eq_true.mp (by decide +kernel : wsX00.all ax_good = true) w h⟩
theorem inbX1 : ∀ w ∈ wsX10, w ∈ ax_tb := fun w h => List.mem_filter.mpr ⟨inX1 w h, List.all_eq_true.mp (by decide +kernel : wsX10.all ax_good = true) w h⟩
theorem inbX2 : ∀ w ∈ wsX20, w ∈ ax_tb := fun w h => List.mem_filter.mpr ⟨inX2 w h, List.all_eq_true.mp (by decide +kernel : wsX20.all ax_good = true) w h⟩
theorem inbX3 : ∀ w ∈ wsX30, w ∈ ax_tb := fun w h => List.mem_filter.mpr ⟨inX3 w h, List.all_eq_true.mp (by decide +kernel : wsX30.all ax_good = true) w h⟩
theorem inbX4 : ∀ w ∈ wsX40, w ∈ ax_tb := fun w h => List.mem_filter.mpr ⟨inX4 w h, List.all_eq_true.mp (by decide +kernel : wsX40.all ax_good = true) w h⟩
theorem inbX5 : ∀ w ∈ wsX50, w ∈ ax_tb := fun w h => List.mem_filter.mpr ⟨inX5 w h, List.all_eq_true.mp (by decide +kernel : wsX50.all ax_good = true) w h⟩
theorem ax_stable {w : Cond} (hw : ax_good w = true) {args a' : Array Value} {s U : State} (hW : s.WarmedH U.vm) (h : w.before args s = true) : w.before a' U = true := by
  unfold ax_good at hw
  split at hw
  · exact va_Nw.use rfl (va_Nw.warmM hW (va_Nw.of rfl h))
  · exact va_AO.use (va_AO.moved hW.alike (va_AO.of h))
  · exact ax_aoa hW.alike h
  · exact word_at hW (good_of_word hw) h
theorem ax_words {args : Array Value} {s : State} (hts : ∀ w ∈ ax_tb, w.before args s = true) : ∀ w ∈ ax_tb, ∀ (a' : Array Value) (U : State), s.WarmedH U.vm → w.before a' U = true := fun w hw a' U hW => ax_stable (List.all_eq_true.mp ax_all w hw) hW (hts w hw)
/-- what stays the same while a method runs -/
def ax_C (p : Program) (R : Room) (s : State) (m : MethodId) (args : Array Value) (meth : Method) (c : Code) (b : Nat) (D : va_G) (dA : Nat → ClassId) (nL n0 : Nat) (cc : ByteArray) (own : String) (ht : Nat) : Prop :=
  p.tables.exec = Jvm.exec ∧ c.code = cc ∧ c.maxLocals = nL ∧ s.vm.findClass own = some m.cls ∧ (∀ w ∈ ax_tb, w.before args s = true) ∧ va_K D vwCl (ax_tys dA) s ∧ R.frames = ht ∧ R.locals = 38 * ht ∧ s.heap.size = b + n0 ∧ meth.locks = false
/-- what holds between two instructions -/
def ax_I (R : Room) (s : State) (b : Nat) (D : va_G) (dA : Nat → ClassId) (nL n0 z0 : Nat) (L : List (Option ax_V)) (h : ax_H) (H : Heap) (ls : Array Slot) (locs : List Loc) (cells slots : Nat) : Prop :=
  H.size = b + h.length ∧ va_P D vwCl (ax_w b dA h) H ∧ (∀ q, q < b → H[q]? = s.heap[q]?) ∧ (∀ x ∈ locs, b ≤ x.base) ∧ (ls.size = nL ∧ lv_wf ls ∧ ∀ (i : Nat) (v : ax_V), L[i]? = some (some v) → ls[i]? = some (.val (ax_v b v))) ∧ cells + n0 = h.length ∧ slots + z0 = ax_sz h ∧ h.length ≤ n0 + R.cells ∧ ax_sz h ≤ z0 + R.slots
def ax_G (p : Program) (l : Launch) (e : Env) (R : Room) (s : State) (m : MethodId) (args : Array Value) (below : List Frame) (meth : Method) (c : Code) (b : Nat) (D : va_G) (dA : Nat → ClassId) (nL n0 z0 : Nat) (Q : State → Prop) (pc : Nat) (L : List (Option ax_V)) (st : List ax_V) (h : ax_H) : Prop :=
  ∀ (H : Heap) (ls : Array Slot) (locs : List Loc) (cells slots : Nat), ax_I R s b D dA nL n0 z0 L h H ls locs cells slots → W p l e R s m args below meth c H locs cells slots Q (F0 m pc ls (st.map (ax_v b)))

section AXR
variable {p : Program} {l : Launch} {e : Env} {R : Room} {s : State} {m : MethodId} {args : Array Value} {below : List Frame} {meth : Method} {c : Code} {b : Nat} {D : va_G} {dA : Nat → ClassId} {nL n0 z0 : Nat} {Q : State → Prop} {cc : ByteArray} {own : String} {ht : Nat} {pc : Nat} {L : List (Option ax_V)} {st : List ax_V} {h : ax_H}
theorem ax_top {H : Heap} {locs : List Loc} {cells slots : Nat} {ls : Array Slot} {rest : List Value} {z z' : Int32} (hz : z = z') (k : W p l e R s m args below meth c H locs cells slots Q (F0 m pc ls (.int z' :: rest))) : W p l e R s m args below meth c H locs cells slots Q (F0 m pc ls (.int z :: rest)) := hz ▸ k
theorem ax_I.loc {H : Heap} {ls : Array Slot} {locs : List Loc} {cells slots : Nat} (I : ax_I R s b D dA nL n0 z0 L h H ls locs cells slots) {i : Nat} {v : ax_V} (hi : L[i]? = some (some v)) : ls[i]? = some (.val (ax_v b v)) := I.2.2.2.2.1.2.2 i v hi
theorem ax_ti {z : Int} (hz : -2147483648 ≤ z ∧ z < 2147483648) : (Int32.ofInt z).toInt = z := Int32.toInt_ofInt_of_le (by omega) (by omega)
theorem ax_lt {x y : Int} (hx : -2147483648 ≤ x ∧ x < 2147483648) (hy : -2147483648 ≤ y ∧ y < 2147483648) : Int32.ofInt x < Int32.ofInt y ↔ x < y := by rw [Int32.lt_iff_toInt_lt, ax_ti hx, ax_ti hy]
theorem ax_le {x y : Int} (hx : -2147483648 ≤ x ∧ x < 2147483648) (hy : -2147483648 ≤ y ∧ y < 2147483648) : Int32.ofInt x ≤ Int32.ofInt y ↔ x ≤ y := by rw [Int32.le_iff_toInt_le, ax_ti hx, ax_ti hy]
theorem ax_eq {x y : Int} (hx : -2147483648 ≤ x ∧ x < 2147483648) (hy : -2147483648 ≤ y ∧ y < 2147483648) : Int32.ofInt x = Int32.ofInt y ↔ x = y := by rw [← Int32.toInt_inj, ax_ti hx, ax_ti hy]
theorem ax_0 : (0 : Int32) = Int32.ofInt 0 := rfl
theorem ax_ir0 : (-2147483648 : Int) ≤ 0 ∧ (0 : Int) < 2147483648 := by decide
theorem ax_in {i : Int} {n j : Nat} (hi : i = (j : Int)) (hj : j < n) (hn : n ≤ 1000000) : ¬ (Int32.ofInt i < 0 ∨ n ≤ (Int32.ofInt i).toNatClampNeg) ∧ (Int32.ofInt i).toNatClampNeg = j := by
  subst hi
  have h1 : (Int32.ofInt (j : Int)).toNatClampNeg = j := by
    rw [Int32.toNatClampNeg_ofInt_of_le (by omega) (by omega)]; omega
  refine ⟨fun q => ?_, h1⟩
  rw [h1] at q
  rcases q with q | q
  · rw [ax_0, ax_lt (by omega) (by omega)] at q
    omega
  · omega
/-! constants, locals -/
theorem g_iconst (C : ax_C p R s m args meth c b D dA nL n0 cc own ht) {z : Int} (hd : decode cc pc = .ok (.iconst z, 1)) (k : ax_G p l e R s m args below meth c b D dA nL n0 z0 Q (pc + 1) (L) (iv z :: st) (h)) : ax_G p l e R s m args below meth c b D dA nL n0 z0 Q (pc) (L) (st) (h) := fun H ls locs cells slots I => lv_iconst C.1 C.2.1 hd rfl (k H ls locs cells slots I)
theorem g_bipush (C : ax_C p R s m args meth c b D dA nL n0 cc own ht) {z : Int} (hd : decode cc pc = .ok (.bipush z, 2)) (hv : (Int8.ofInt z).toInt32 = Int32.ofInt z) (k : ax_G p l e R s m args below meth c b D dA nL n0 z0 Q (pc + 2) (L) (iv z :: st) (h)) : ax_G p l e R s m args below meth c b D dA nL n0 z0 Q (pc) (L) (st) (h) := fun H ls locs cells slots I => lv_bipush C.1 C.2.1 hd hv (k H ls locs cells slots I)
theorem g_sipush (C : ax_C p R s m args meth c b D dA nL n0 cc own ht) {z : Int} (hd : decode cc pc = .ok (.sipush z, 3)) (hv : (Int16.ofInt z).toInt32 = Int32.ofInt z) (k : ax_G p l e R s m args below meth c b D dA nL n0 z0 Q (pc + 3) (L) (iv z :: st) (h)) : ax_G p l e R s m args below meth c b D dA nL n0 z0 Q (pc) (L) (st) (h) := fun H ls locs cells slots I => lv_sipush C.1 C.2.1 hd hv (k H ls locs cells slots I)
theorem g_ldc (C : ax_C p R s m args meth c b D dA nL n0 cc own ht) {z : Int} {idx : Nat} {v : Int32} (hd : decode cc pc = .ok (.ldc idx, 2)) (hw : Cond.constant own idx v ∈ ax_tb) (hv : v = Int32.ofInt z) (k : ax_G p l e R s m args below meth c b D dA nL n0 z0 Q (pc + 2) (L) (iv z :: st) (h)) : ax_G p l e R s m args below meth c b D dA nL n0 z0 Q (pc) (L) (st) (h) := fun H ls locs cells slots I => lv_ldc C.1 C.2.1 C.2.2.2.1 (C.2.2.2.2.1 _ hw) hd (by subst hv; exact k H ls locs cells slots I)
theorem g_iload_n (C : ax_C p R s m args meth c b D dA nL n0 cc own ht) {i : Fin 4} {z : Int} (hd : decode cc pc = .ok (.iload_n i, 1)) (hi : L[(i : Nat)]? = some (some (.inl z))) (k : ax_G p l e R s m args below meth c b D dA nL n0 z0 Q (pc + 1) (L) (iv z :: st) (h)) : ax_G p l e R s m args below meth c b D dA nL n0 z0 Q (pc) (L) (st) (h) := fun H ls locs cells slots I => lv_iload_n C.1 C.2.1 hd rfl (I.loc hi) (k H ls locs cells slots I)
theorem g_iload (C : ax_C p R s m args meth c b D dA nL n0 cc own ht) {i : Nat} {z : Int} (hd : decode cc pc = .ok (.iload i, 2)) (hi : L[i]? = some (some (.inl z))) (k : ax_G p l e R s m args below meth c b D dA nL n0 z0 Q (pc + 2) (L) (iv z :: st) (h)) : ax_G p l e R s m args below meth c b D dA nL n0 z0 Q (pc) (L) (st) (h) := fun H ls locs cells slots I => lv_iload C.1 C.2.1 hd (I.loc hi) (k H ls locs cells slots I)
theorem g_aload_n (C : ax_C p R s m args meth c b D dA nL n0 cc own ht) {i : Fin 4} {o : Option Nat} (hd : decode cc pc = .ok (.aload_n i, 1)) (hi : L[(i : Nat)]? = some (some (.inr o))) (k : ax_G p l e R s m args below meth c b D dA nL n0 z0 Q (pc + 1) (L) (.inr o :: st) (h)) : ax_G p l e R s m args below meth c b D dA nL n0 z0 Q (pc) (L) (st) (h) := fun H ls locs cells slots I => by
  cases o with
  | none => exact lv_aload_nN C.1 C.2.1 hd rfl (I.loc hi) (k H ls locs cells slots I)
  | some a => exact lv_aload_n C.1 C.2.1 hd rfl (I.loc hi) (k H ls locs cells slots I)
theorem g_aload (C : ax_C p R s m args meth c b D dA nL n0 cc own ht) {i : Nat} {o : Option Nat} (hd : decode cc pc = .ok (.aload i, 2)) (hi : L[i]? = some (some (.inr o))) (k : ax_G p l e R s m args below meth c b D dA nL n0 z0 Q (pc + 2) (L) (.inr o :: st) (h)) : ax_G p l e R s m args below meth c b D dA nL n0 z0 Q (pc) (L) (st) (h) := fun H ls locs cells slots I => by
  cases o with
  | none => exact lv_aloadN C.1 C.2.1 hd (I.loc hi) (k H ls locs cells slots I)
  | some a => exact lv_aload C.1 C.2.1 hd (I.loc hi) (k H ls locs cells slots I)
theorem g_null (C : ax_C p R s m args meth c b D dA nL n0 cc own ht) (hd : decode cc pc = .ok (.aconst_null, 1)) (k : ax_G p l e R s m args below meth c b D dA nL n0 z0 Q (pc + 1) (L) (nv :: st) (h)) : ax_G p l e R s m args below meth c b D dA nL n0 z0 Q (pc) (L) (st) (h) := fun H ls locs cells slots I => lv_null C.1 C.2.1 hd (k H ls locs cells slots I)
/-- the locals as a list with places -/
def ax_l (b : Nat) (L : List (Option ax_V)) : List (Nat × Value) := (List.range L.length).filterMap (fun i => match L[i]? with | some (some v) => some (i, ax_v b v) | _ => none)
theorem ax_l_mem {q : Nat × Value} (hq : q ∈ ax_l b L) : ∃ v, L[q.1]? = some (some v) ∧ q.2 = ax_v b v := by
  obtain ⟨i, -, hi⟩ := List.mem_filterMap.mp hq
  cases hL : L[i]? with
  | none => simp [hL] at hi
  | some o =>
    cases o with
    | none => simp [hL] at hi
    | some v =>
      simp [hL] at hi
      subst hi
      exact ⟨v, hL, rfl⟩
theorem ax_l_of {i : Nat} {v : ax_V} (hi : L[i]? = some (some v)) : (i, ax_v b v) ∈ ax_l b L := by
  refine List.mem_filterMap.mpr ⟨i, List.mem_range.mpr (List.getElem?_eq_some_iff.mp hi).1, ?_⟩
  simp [hi]
theorem ax_I.has {H : Heap} {ls : Array Slot} {locs : List Loc} {cells slots : Nat} (I : ax_I R s b D dA nL n0 z0 L h H ls locs cells slots) : lv_has ls nL (ax_l b L) := ⟨I.2.2.2.2.1.1, I.2.2.2.2.1.2.1, fun q hq => by
  obtain ⟨v, h1, h2⟩ := ax_l_mem hq
  rw [h2]
  exact I.loc h1⟩
theorem ax_I.stored {H : Heap} {ls ls' : Array Slot} {locs : List Loc} {cells slots : Nat} (I : ax_I R s b D dA nL n0 z0 L h H ls locs cells slots) {i : Nat} {v : ax_V} {L' : List (Option ax_V)} (hL : L.set i (some v) = L') (hl : lv_has ls' nL ((i, ax_v b v) :: (ax_l b L).filter (fun q => !(q.1 == i) && !(q.1 + 1 == i && q.2.category == 2)))) : ax_I R s b D dA nL n0 z0 L' h H ls' locs cells slots := by
  obtain ⟨a1, a2, a3, a4, a5, a6, a7, a8, a9⟩ := I
  refine ⟨a1, a2, a3, a4, ⟨hl.1, hl.2.1, fun j w hj => ?_⟩, a6, a7, a8, a9⟩
  subst hL
  rw [List.getElem?_set] at hj
  by_cases hij : i = j
  · subst hij
    rw [if_pos rfl] at hj
    split at hj
    · cases hj
      exact hl.2.2 _ List.mem_cons_self
    · cases hj
  · rw [if_neg hij] at hj
    refine hl.2.2 (j, ax_v b w) (List.mem_cons_of_mem _ (List.mem_filter.mpr ⟨ax_l_of hj, ?_⟩))
    have := ax_cat b w
    simp [this, Ne.symm hij]
theorem g_istore_n (C : ax_C p R s m args meth c b D dA nL n0 cc own ht) {i : Fin 4} {z : Int} {L' : List (Option ax_V)} (hd : decode cc pc = .ok (.istore_n i, 1)) (hn : (i : Nat) < nL) (hL : L.set (i : Nat) (some (.inl z)) = L') (k : ax_G p l e R s m args below meth c b D dA nL n0 z0 Q (pc + 1) (L') (st) (h)) : ax_G p l e R s m args below meth c b D dA nL n0 z0 Q (pc) (L) (iv z :: st) (h) := fun H ls locs cells slots I => lv_istore_n C.1 C.2.1 hd rfl I.has hn rfl (fun ls' hl => k H ls' locs cells slots (I.stored hL hl))
theorem g_istore (C : ax_C p R s m args meth c b D dA nL n0 cc own ht) {i : Nat} {z : Int} {L' : List (Option ax_V)} (hd : decode cc pc = .ok (.istore i, 2)) (hn : i < nL) (hL : L.set i (some (.inl z)) = L') (k : ax_G p l e R s m args below meth c b D dA nL n0 z0 Q (pc + 2) (L') (st) (h)) : ax_G p l e R s m args below meth c b D dA nL n0 z0 Q (pc) (L) (iv z :: st) (h) := fun H ls locs cells slots I => lv_istore C.1 C.2.1 hd I.has hn rfl (fun ls' hl => k H ls' locs cells slots (I.stored hL hl))
theorem g_astore_n (C : ax_C p R s m args meth c b D dA nL n0 cc own ht) {i : Fin 4} {o : Option Nat} {L' : List (Option ax_V)} (hd : decode cc pc = .ok (.astore_n i, 1)) (hn : (i : Nat) < nL) (hL : L.set (i : Nat) (some (.inr o)) = L') (k : ax_G p l e R s m args below meth c b D dA nL n0 z0 Q (pc + 1) (L') (st) (h)) : ax_G p l e R s m args below meth c b D dA nL n0 z0 Q (pc) (L) (.inr o :: st) (h) := fun H ls locs cells slots I => by
  cases o with
  | none => exact lv_astore_nN C.1 C.2.1 hd rfl I.has hn rfl (fun ls' hl => k H ls' locs cells slots (I.stored hL hl))
  | some a => exact lv_astore_n C.1 C.2.1 hd rfl I.has hn rfl (fun ls' hl => k H ls' locs cells slots (I.stored hL hl))
theorem g_astore (C : ax_C p R s m args meth c b D dA nL n0 cc own ht) {i : Nat} {o : Option Nat} {L' : List (Option ax_V)} (hd : decode cc pc = .ok (.astore i, 2)) (hn : i < nL) (hL : L.set i (some (.inr o)) = L') (k : ax_G p l e R s m args below meth c b D dA nL n0 z0 Q (pc + 2) (L') (st) (h)) : ax_G p l e R s m args below meth c b D dA nL n0 z0 Q (pc) (L) (.inr o :: st) (h) := fun H ls locs cells slots I => by
  cases o with
  | none => exact lv_astoreN C.1 C.2.1 hd I.has hn rfl (fun ls' hl => k H ls' locs cells slots (I.stored hL hl))
  | some a => exact lv_astore C.1 C.2.1 hd I.has hn rfl (fun ls' hl => k H ls' locs cells slots (I.stored hL hl))
theorem g_iinc (C : ax_C p R s m args meth c b D dA nL n0 cc own ht) {i : Nat} {n z : Int} {L' : List (Option ax_V)} (hd : decode cc pc = .ok (.iinc i n, 3)) (hn : i < nL) (hi : L[i]? = some (some (.inl z))) (hL : L.set i (some (.inl (z + n))) = L') (k : ax_G p l e R s m args below meth c b D dA nL n0 z0 Q (pc + 3) (L') (st) (h)) : ax_G p l e R s m args below meth c b D dA nL n0 z0 Q (pc) (L) (st) (h) := fun H ls locs cells slots I => by
  obtain ⟨j, hj⟩ := List.getElem?_of_mem (ax_l_of (b := b) hi)
  exact lv_iinc C.1 C.2.1 hd I.has hj (Int32.ofInt_add z n).symm hn rfl (fun ls' hl => k H ls' locs cells slots (I.stored (v := .inl (z + n)) hL hl))
/-! arithmetic -/
theorem g_iadd (C : ax_C p R s m args meth c b D dA nL n0 cc own ht) {x y : Int} (hd : decode cc pc = .ok (.iadd, 1)) (k : ax_G p l e R s m args below meth c b D dA nL n0 z0 Q (pc + 1) (L) (iv (x + y) :: st) (h)) : ax_G p l e R s m args below meth c b D dA nL n0 z0 Q (pc) (L) (iv y :: iv x :: st) (h) := fun H ls locs cells slots I => lv_iadd C.1 C.2.1 hd (ax_top (Int32.ofInt_add x y).symm (k H ls locs cells slots I))
theorem g_isub (C : ax_C p R s m args meth c b D dA nL n0 cc own ht) {x y : Int} (hd : decode cc pc = .ok (.isub, 1)) (k : ax_G p l e R s m args below meth c b D dA nL n0 z0 Q (pc + 1) (L) (iv (x - y) :: st) (h)) : ax_G p l e R s m args below meth c b D dA nL n0 z0 Q (pc) (L) (iv y :: iv x :: st) (h) := fun H ls locs cells slots I => lv_isub C.1 C.2.1 hd (ax_top (Int32.ofInt_sub x y).symm (k H ls locs cells slots I))
theorem g_imul (C : ax_C p R s m args meth c b D dA nL n0 cc own ht) {x y : Int} (hd : decode cc pc = .ok (.imul, 1)) (k : ax_G p l e R s m args below meth c b D dA nL n0 z0 Q (pc + 1) (L) (iv (x * y) :: st) (h)) : ax_G p l e R s m args below meth c b D dA nL n0 z0 Q (pc) (L) (iv y :: iv x :: st) (h) := fun H ls locs cells slots I => lv_imul C.1 C.2.1 hd (ax_top (Int32.ofInt_mul x y).symm (k H ls locs cells slots I))
theorem g_ineg (C : ax_C p R s m args meth c b D dA nL n0 cc own ht) {x : Int} (hd : decode cc pc = .ok (.ineg, 1)) (k : ax_G p l e R s m args below meth c b D dA nL n0 z0 Q (pc + 1) (L) (iv (-x) :: st) (h)) : ax_G p l e R s m args below meth c b D dA nL n0 z0 Q (pc) (L) (iv x :: st) (h) := fun H ls locs cells slots I => lv_ineg C.1 C.2.1 hd (ax_top (Int32.ofInt_neg x).symm (k H ls locs cells slots I))
theorem ax_div {x y : Int} (hx : -2147483648 ≤ x ∧ x < 2147483648) (hy : -2147483648 ≤ y ∧ y < 2147483648) : Int32.ofInt x / Int32.ofInt y = Int32.ofInt (x.tdiv y) := by
  have e1 : Int32.minValue.toInt = -2147483648 := rfl
  have e2 : Int32.maxValue.toInt = 2147483647 := rfl
  exact (Int32.ofInt_tdiv (by omega) (by omega) (by omega) (by omega)).symm
theorem g_idiv (C : ax_C p R s m args meth c b D dA nL n0 cc own ht) {x y : Int} (hd : decode cc pc = .ok (.idiv, 1)) (hx : -2147483648 ≤ x ∧ x < 2147483648) (hy : -2147483648 ≤ y ∧ y < 2147483648) (h0 : y ≠ 0) (k : ax_G p l e R s m args below meth c b D dA nL n0 z0 Q (pc + 1) (L) (iv (x.tdiv y) :: st) (h)) : ax_G p l e R s m args below meth c b D dA nL n0 z0 Q (pc) (L) (iv y :: iv x :: st) (h) := fun H ls locs cells slots I => lv_idiv C.1 C.2.1 hd (fun q => h0 ((ax_eq hy ax_ir0).mp q)) (ax_top (ax_div hx hy) (k H ls locs cells slots I))
theorem ax_rem {x y : Int} (hx : -2147483648 ≤ x ∧ x < 2147483648) (hy : -2147483648 ≤ y ∧ y < 2147483648) : Int32.ofInt x - Int32.ofInt x / Int32.ofInt y * Int32.ofInt y = Int32.ofInt (x.tmod y) := by
  rw [ax_div hx hy, ← Int32.ofInt_mul, ← Int32.ofInt_sub]
  congr 1
  have := Int.mul_tdiv_add_tmod x y
  rw [Int.mul_comm] at this
  omega
theorem g_irem (C : ax_C p R s m args meth c b D dA nL n0 cc own ht) {x y : Int} (hd : decode cc pc = .ok (.irem, 1)) (hx : -2147483648 ≤ x ∧ x < 2147483648) (hy : -2147483648 ≤ y ∧ y < 2147483648) (h0 : y ≠ 0) (k : ax_G p l e R s m args below meth c b D dA nL n0 z0 Q (pc + 1) (L) (iv (x.tmod y) :: st) (h)) : ax_G p l e R s m args below meth c b D dA nL n0 z0 Q (pc) (L) (iv y :: iv x :: st) (h) := fun H ls locs cells slots I => lv_irem C.1 C.2.1 hd (fun q => h0 ((ax_eq hy ax_ir0).mp q)) (ax_top (ax_rem hx hy) (k H ls locs cells slots I))
theorem ax_s31 : ∀ n : Nat, n < 32 → ((Int32.ofInt (n : Int) &&& 31).toBitVec.smod 32).toNat = n := by decide +kernel
theorem ax_shl (x : Int) {n : Nat} (hn : n < 32) : Int32.ofInt x <<< (Int32.ofInt (n : Int) &&& 31) = Int32.ofInt (x * 2 ^ n) := by
  apply Int32.toBitVec_inj.mp
  apply BitVec.eq_of_toNat_eq
  rw [pk_shl _ _ n (ax_s31 n hn), Int32.toBitVec_ofInt, Int32.toBitVec_ofInt, BitVec.toNat_ofInt, BitVec.toNat_ofInt]
  have hp : (0 : Int) < ((2 ^ 32 : Nat) : Int) := by decide
  have h1 := Int.emod_nonneg x (Int.ne_of_gt hp)
  have h2 := Int.emod_nonneg (x * 2 ^ n) (Int.ne_of_gt hp)
  apply Int.ofNat_inj.mp
  rw [Int.toNat_of_nonneg h2, Int.natCast_emod, Int.natCast_mul, Int.toNat_of_nonneg h1, Int.natCast_pow, Int.natCast_pow, Int.mul_emod, Int.emod_emod, ← Int.mul_emod]
  rfl
theorem g_ishl (C : ax_C p R s m args meth c b D dA nL n0 cc own ht) {x : Int} {n : Nat} (hd : decode cc pc = .ok (.ishl, 1)) (hn : n < 32) (k : ax_G p l e R s m args below meth c b D dA nL n0 z0 Q (pc + 1) (L) (iv (x * 2 ^ n) :: st) (h)) : ax_G p l e R s m args below meth c b D dA nL n0 z0 Q (pc) (L) (iv (n : Int) :: iv x :: st) (h) := fun H ls locs cells slots I => lv_ishl C.1 C.2.1 hd (ax_top (ax_shl x hn) (k H ls locs cells slots I))
theorem ax_shr {x : Int} (hx : -2147483648 ≤ x ∧ x < 2147483648) {n : Nat} (hn : n < 32) : Int32.ofInt x >>> (Int32.ofInt (n : Int) &&& 31) = Int32.ofInt (x / 2 ^ n) := by
  apply Int32.toInt_inj.mp
  have hp : (0 : Int) < 2 ^ n := Int.pow_pos (by decide)
  have hle : x / 2 ^ n < 2147483648 := by
    rcases Int.le_total 0 x with h0 | h0
    · have := Int.ediv_le_self (2 ^ n) h0
      omega
    · have h9 : x / 2 ^ n ≤ 0 / 2 ^ n := Int.ediv_le_ediv hp h0
      rw [Int.zero_ediv] at h9
      omega
  have hge : -2147483648 ≤ x / 2 ^ n := by
    rw [Int.le_ediv_iff_mul_le hp]
    have : (1 : Int) ≤ 2 ^ n := hp
    omega
  rw [pk_shr _ _ n (ax_s31 n hn), ax_ti hx, ax_ti ⟨hge, hle⟩, Int.shiftRight_eq_div_pow]
  rfl
theorem g_ishr (C : ax_C p R s m args meth c b D dA nL n0 cc own ht) {x : Int} {n : Nat} (hd : decode cc pc = .ok (.ishr, 1)) (hx : -2147483648 ≤ x ∧ x < 2147483648) (hn : n < 32) (k : ax_G p l e R s m args below meth c b D dA nL n0 z0 Q (pc + 1) (L) (iv (x / 2 ^ n) :: st) (h)) : ax_G p l e R s m args below meth c b D dA nL n0 z0 Q (pc) (L) (iv (n : Int) :: iv x :: st) (h) := fun H ls locs cells slots I => lv_ishr C.1 C.2.1 hd (ax_top (ax_shr hx hn) (k H ls locs cells slots I))
theorem g_iand (C : ax_C p R s m args meth c b D dA nL n0 cc own ht) {x y z : Int} (hd : decode cc pc = .ok (.iand, 1)) (hz : Int32.ofInt x &&& Int32.ofInt y = Int32.ofInt z) (k : ax_G p l e R s m args below meth c b D dA nL n0 z0 Q (pc + 1) (L) (iv z :: st) (h)) : ax_G p l e R s m args below meth c b D dA nL n0 z0 Q (pc) (L) (iv y :: iv x :: st) (h) := fun H ls locs cells slots I => lv_iand C.1 C.2.1 hd (ax_top hz (k H ls locs cells slots I))
theorem g_ior (C : ax_C p R s m args meth c b D dA nL n0 cc own ht) {x y z : Int} (hd : decode cc pc = .ok (.ior, 1)) (hz : Int32.ofInt x ||| Int32.ofInt y = Int32.ofInt z) (k : ax_G p l e R s m args below meth c b D dA nL n0 z0 Q (pc + 1) (L) (iv z :: st) (h)) : ax_G p l e R s m args below meth c b D dA nL n0 z0 Q (pc) (L) (iv y :: iv x :: st) (h) := fun H ls locs cells slots I => lv_ior C.1 C.2.1 hd (ax_top hz (k H ls locs cells slots I))
theorem g_ixor (C : ax_C p R s m args meth c b D dA nL n0 cc own ht) {x y z : Int} (hd : decode cc pc = .ok (.ixor, 1)) (hz : Int32.ofInt x ^^^ Int32.ofInt y = Int32.ofInt z) (k : ax_G p l e R s m args below meth c b D dA nL n0 z0 Q (pc + 1) (L) (iv z :: st) (h)) : ax_G p l e R s m args below meth c b D dA nL n0 z0 Q (pc) (L) (iv y :: iv x :: st) (h) := fun H ls locs cells slots I => lv_ixor C.1 C.2.1 hd (ax_top hz (k H ls locs cells slots I))
theorem g_iushr (C : ax_C p R s m args meth c b D dA nL n0 cc own ht) {x y z : Int} (hd : decode cc pc = .ok (.iushr, 1)) (hz : ((Int32.ofInt x).toUInt32 >>> ((Int32.ofInt y).toUInt32 &&& Int32.toUInt32 31)).toInt32 = Int32.ofInt z) (k : ax_G p l e R s m args below meth c b D dA nL n0 z0 Q (pc + 1) (L) (iv z :: st) (h)) : ax_G p l e R s m args below meth c b D dA nL n0 z0 Q (pc) (L) (iv y :: iv x :: st) (h) := fun H ls locs cells slots I => lv_iushr C.1 C.2.1 hd hz (k H ls locs cells slots I)
/-! the stack -/
theorem g_dup (C : ax_C p R s m args meth c b D dA nL n0 cc own ht) {v : ax_V} (hd : decode cc pc = .ok (.dup, 1)) (k : ax_G p l e R s m args below meth c b D dA nL n0 z0 Q (pc + 1) (L) (v :: v :: st) (h)) : ax_G p l e R s m args below meth c b D dA nL n0 z0 Q (pc) (L) (v :: st) (h) := fun H ls locs cells slots I => lv_dup C.1 C.2.1 hd (ax_cat b v) (k H ls locs cells slots I)
theorem g_pop (C : ax_C p R s m args meth c b D dA nL n0 cc own ht) {v : ax_V} (hd : decode cc pc = .ok (.pop, 1)) (k : ax_G p l e R s m args below meth c b D dA nL n0 z0 Q (pc + 1) (L) (st) (h)) : ax_G p l e R s m args below meth c b D dA nL n0 z0 Q (pc) (L) (v :: st) (h) := fun H ls locs cells slots I => lv_pop C.1 C.2.1 hd (ax_cat b v) (k H ls locs cells slots I)
theorem g_dup2 (C : ax_C p R s m args meth c b D dA nL n0 cc own ht) {v w : ax_V} (hd : decode cc pc = .ok (.dup2, 1)) (k : ax_G p l e R s m args below meth c b D dA nL n0 z0 Q (pc + 1) (L) (v :: w :: v :: w :: st) (h)) : ax_G p l e R s m args below meth c b D dA nL n0 z0 Q (pc) (L) (v :: w :: st) (h) := fun H ls locs cells slots I => lv_dup2_11 C.1 C.2.1 hd (ax_cat b v) (ax_cat b w) (k H ls locs cells slots I)
/-! branches -/
theorem g_goto (C : ax_C p R s m args meth c b D dA nL n0 cc own ht) {off : Int} {tgt : Nat} (hd : decode cc pc = .ok (.goto off, 3)) (ht : (pc : Int) + off = (tgt : Int)) (k : ax_G p l e R s m args below meth c b D dA nL n0 z0 Q (tgt) (L) (st) (h)) : ax_G p l e R s m args below meth c b D dA nL n0 z0 Q (pc) (L) (st) (h) := fun H ls locs cells slots I => lv_goto C.1 C.2.1 hd ht (k H ls locs cells slots I)
theorem g_icmp_eq (C : ax_C p R s m args meth c b D dA nL n0 cc own ht) {x y off : Int} {tgt : Nat} (hd : decode cc pc = .ok (.if_icmp .eq off, 3)) (ht : (pc : Int) + off = (tgt : Int)) (hx : -2147483648 ≤ x ∧ x < 2147483648) (hy : -2147483648 ≤ y ∧ y < 2147483648) (kt : x = y → ax_G p l e R s m args below meth c b D dA nL n0 z0 Q (tgt) (L) (st) (h)) (kf : ¬ (x = y) → ax_G p l e R s m args below meth c b D dA nL n0 z0 Q (pc + 3) (L) (st) (h)) : ax_G p l e R s m args below meth c b D dA nL n0 z0 Q (pc) (L) (iv y :: iv x :: st) (h) := fun H ls locs cells slots I => lv_icmp_eq C.1 C.2.1 hd ht (fun q => kt ((ax_eq hx hy).mp q) H ls locs cells slots I) (fun q => kf (fun z => q ((ax_eq hx hy).mpr z)) H ls locs cells slots I)
theorem g_icmp_ne (C : ax_C p R s m args meth c b D dA nL n0 cc own ht) {x y off : Int} {tgt : Nat} (hd : decode cc pc = .ok (.if_icmp .ne off, 3)) (ht : (pc : Int) + off = (tgt : Int)) (hx : -2147483648 ≤ x ∧ x < 2147483648) (hy : -2147483648 ≤ y ∧ y < 2147483648) (kt : ¬ x = y → ax_G p l e R s m args below meth c b D dA nL n0 z0 Q (tgt) (L) (st) (h)) (kf : x = y → ax_G p l e R s m args below meth c b D dA nL n0 z0 Q (pc + 3) (L) (st) (h)) : ax_G p l e R s m args below meth c b D dA nL n0 z0 Q (pc) (L) (iv y :: iv x :: st) (h) := fun H ls locs cells slots I => lv_icmp_ne C.1 C.2.1 hd ht (fun q => kt (((not_congr (ax_eq hx hy))).mp q) H ls locs cells slots I) (fun q => kf ((ax_eq hx hy).mp q) H ls locs cells slots I)
theorem g_icmp_lt (C : ax_C p R s m args meth c b D dA nL n0 cc own ht) {x y off : Int} {tgt : Nat} (hd : decode cc pc = .ok (.if_icmp .lt off, 3)) (ht : (pc : Int) + off = (tgt : Int)) (hx : -2147483648 ≤ x ∧ x < 2147483648) (hy : -2147483648 ≤ y ∧ y < 2147483648) (kt : x < y → ax_G p l e R s m args below meth c b D dA nL n0 z0 Q (tgt) (L) (st) (h)) (kf : ¬ (x < y) → ax_G p l e R s m args below meth c b D dA nL n0 z0 Q (pc + 3) (L) (st) (h)) : ax_G p l e R s m args below meth c b D dA nL n0 z0 Q (pc) (L) (iv y :: iv x :: st) (h) := fun H ls locs cells slots I => lv_icmp_lt C.1 C.2.1 hd ht (fun q => kt ((ax_lt hx hy).mp q) H ls locs cells slots I) (fun q => kf (fun z => q ((ax_lt hx hy).mpr z)) H ls locs cells slots I)
theorem g_icmp_ge (C : ax_C p R s m args meth c b D dA nL n0 cc own ht) {x y off : Int} {tgt : Nat} (hd : decode cc pc = .ok (.if_icmp .ge off, 3)) (ht : (pc : Int) + off = (tgt : Int)) (hx : -2147483648 ≤ x ∧ x < 2147483648) (hy : -2147483648 ≤ y ∧ y < 2147483648) (kt : y ≤ x → ax_G p l e R s m args below meth c b D dA nL n0 z0 Q (tgt) (L) (st) (h)) (kf : ¬ (y ≤ x) → ax_G p l e R s m args below meth c b D dA nL n0 z0 Q (pc + 3) (L) (st) (h)) : ax_G p l e R s m args below meth c b D dA nL n0 z0 Q (pc) (L) (iv y :: iv x :: st) (h) := fun H ls locs cells slots I => lv_icmp_ge C.1 C.2.1 hd ht (fun q => kt ((ax_le hy hx).mp q) H ls locs cells slots I) (fun q => kf (fun z => q ((ax_le hy hx).mpr z)) H ls locs cells slots I)
theorem g_icmp_gt (C : ax_C p R s m args meth c b D dA nL n0 cc own ht) {x y off : Int} {tgt : Nat} (hd : decode cc pc = .ok (.if_icmp .gt off, 3)) (ht : (pc : Int) + off = (tgt : Int)) (hx : -2147483648 ≤ x ∧ x < 2147483648) (hy : -2147483648 ≤ y ∧ y < 2147483648) (kt : y < x → ax_G p l e R s m args below meth c b D dA nL n0 z0 Q (tgt) (L) (st) (h)) (kf : ¬ (y < x) → ax_G p l e R s m args below meth c b D dA nL n0 z0 Q (pc + 3) (L) (st) (h)) : ax_G p l e R s m args below meth c b D dA nL n0 z0 Q (pc) (L) (iv y :: iv x :: st) (h) := fun H ls locs cells slots I => lv_icmp_gt C.1 C.2.1 hd ht (fun q => kt ((ax_lt hy hx).mp q) H ls locs cells slots I) (fun q => kf (fun z => q ((ax_lt hy hx).mpr z)) H ls locs cells slots I)
theorem g_icmp_le (C : ax_C p R s m args meth c b D dA nL n0 cc own ht) {x y off : Int} {tgt : Nat} (hd : decode cc pc = .ok (.if_icmp .le off, 3)) (ht : (pc : Int) + off = (tgt : Int)) (hx : -2147483648 ≤ x ∧ x < 2147483648) (hy : -2147483648 ≤ y ∧ y < 2147483648) (kt : x ≤ y → ax_G p l e R s m args below meth c b D dA nL n0 z0 Q (tgt) (L) (st) (h)) (kf : ¬ (x ≤ y) → ax_G p l e R s m args below meth c b D dA nL n0 z0 Q (pc + 3) (L) (st) (h)) : ax_G p l e R s m args below meth c b D dA nL n0 z0 Q (pc) (L) (iv y :: iv x :: st) (h) := fun H ls locs cells slots I => lv_icmp_le C.1 C.2.1 hd ht (fun q => kt ((ax_le hx hy).mp q) H ls locs cells slots I) (fun q => kf (fun z => q ((ax_le hx hy).mpr z)) H ls locs cells slots I)
theorem g_if_eq (C : ax_C p R s m args meth c b D dA nL n0 cc own ht) {x off : Int} {tgt : Nat} (hd : decode cc pc = .ok (.ifCond .eq off, 3)) (ht : (pc : Int) + off = (tgt : Int)) (hx : -2147483648 ≤ x ∧ x < 2147483648) (kt : x = 0 → ax_G p l e R s m args below meth c b D dA nL n0 z0 Q (tgt) (L) (st) (h)) (kf : ¬ (x = 0) → ax_G p l e R s m args below meth c b D dA nL n0 z0 Q (pc + 3) (L) (st) (h)) : ax_G p l e R s m args below meth c b D dA nL n0 z0 Q (pc) (L) (iv x :: st) (h) := fun H ls locs cells slots I => lv_if_eq C.1 C.2.1 hd ht (fun q => kt ((ax_eq hx ax_ir0).mp q) H ls locs cells slots I) (fun q => kf (fun z => q ((ax_eq hx ax_ir0).mpr z)) H ls locs cells slots I)
theorem g_if_ne (C : ax_C p R s m args meth c b D dA nL n0 cc own ht) {x off : Int} {tgt : Nat} (hd : decode cc pc = .ok (.ifCond .ne off, 3)) (ht : (pc : Int) + off = (tgt : Int)) (hx : -2147483648 ≤ x ∧ x < 2147483648) (kt : ¬ x = 0 → ax_G p l e R s m args below meth c b D dA nL n0 z0 Q (tgt) (L) (st) (h)) (kf : x = 0 → ax_G p l e R s m args below meth c b D dA nL n0 z0 Q (pc + 3) (L) (st) (h)) : ax_G p l e R s m args below meth c b D dA nL n0 z0 Q (pc) (L) (iv x :: st) (h) := fun H ls locs cells slots I => lv_if_ne C.1 C.2.1 hd ht (fun q => kt (((not_congr (ax_eq hx ax_ir0))).mp q) H ls locs cells slots I) (fun q => kf ((ax_eq hx ax_ir0).mp q) H ls locs cells slots I)
theorem g_if_lt (C : ax_C p R s m args meth c b D dA nL n0 cc own ht) {x off : Int} {tgt : Nat} (hd : decode cc pc = .ok (.ifCond .lt off, 3)) (ht : (pc : Int) + off = (tgt : Int)) (hx : -2147483648 ≤ x ∧ x < 2147483648) (kt : x < 0 → ax_G p l e R s m args below meth c b D dA nL n0 z0 Q (tgt) (L) (st) (h)) (kf : ¬ (x < 0) → ax_G p l e R s m args below meth c b D dA nL n0 z0 Q (pc + 3) (L) (st) (h)) : ax_G p l e R s m args below meth c b D dA nL n0 z0 Q (pc) (L) (iv x :: st) (h) := fun H ls locs cells slots I => lv_if_lt C.1 C.2.1 hd ht (fun q => kt ((ax_lt hx ax_ir0).mp q) H ls locs cells slots I) (fun q => kf (fun z => q ((ax_lt hx ax_ir0).mpr z)) H ls locs cells slots I)
theorem g_if_ge (C : ax_C p R s m args meth c b D dA nL n0 cc own ht) {x off : Int} {tgt : Nat} (hd : decode cc pc = .ok (.ifCond .ge off, 3)) (ht : (pc : Int) + off = (tgt : Int)) (hx : -2147483648 ≤ x ∧ x < 2147483648) (kt : 0 ≤ x → ax_G p l e R s m args below meth c b D dA nL n0 z0 Q (tgt) (L) (st) (h)) (kf : ¬ (0 ≤ x) → ax_G p l e R s m args below meth c b D dA nL n0 z0 Q (pc + 3) (L) (st) (h)) : ax_G p l e R s m args below meth c b D dA nL n0 z0 Q (pc) (L) (iv x :: st) (h) := fun H ls locs cells slots I => lv_if_ge C.1 C.2.1 hd ht (fun q => kt ((ax_le ax_ir0 hx).mp q) H ls locs cells slots I) (fun q => kf (fun z => q ((ax_le ax_ir0 hx).mpr z)) H ls locs cells slots I)
theorem g_if_gt (C : ax_C p R s m args meth c b D dA nL n0 cc own ht) {x off : Int} {tgt : Nat} (hd : decode cc pc = .ok (.ifCond .gt off, 3)) (ht : (pc : Int) + off = (tgt : Int)) (hx : -2147483648 ≤ x ∧ x < 2147483648) (kt : 0 < x → ax_G p l e R s m args below meth c b D dA nL n0 z0 Q (tgt) (L) (st) (h)) (kf : ¬ (0 < x) → ax_G p l e R s m args below meth c b D dA nL n0 z0 Q (pc + 3) (L) (st) (h)) : ax_G p l e R s m args below meth c b D dA nL n0 z0 Q (pc) (L) (iv x :: st) (h) := fun H ls locs cells slots I => lv_if_gt C.1 C.2.1 hd ht (fun q => kt ((ax_lt ax_ir0 hx).mp q) H ls locs cells slots I) (fun q => kf (fun z => q ((ax_lt ax_ir0 hx).mpr z)) H ls locs cells slots I)
theorem g_if_le (C : ax_C p R s m args meth c b D dA nL n0 cc own ht) {x off : Int} {tgt : Nat} (hd : decode cc pc = .ok (.ifCond .le off, 3)) (ht : (pc : Int) + off = (tgt : Int)) (hx : -2147483648 ≤ x ∧ x < 2147483648) (kt : x ≤ 0 → ax_G p l e R s m args below meth c b D dA nL n0 z0 Q (tgt) (L) (st) (h)) (kf : ¬ (x ≤ 0) → ax_G p l e R s m args below meth c b D dA nL n0 z0 Q (pc + 3) (L) (st) (h)) : ax_G p l e R s m args below meth c b D dA nL n0 z0 Q (pc) (L) (iv x :: st) (h) := fun H ls locs cells slots I => lv_if_le C.1 C.2.1 hd ht (fun q => kt ((ax_le hx ax_ir0).mp q) H ls locs cells slots I) (fun q => kf (fun z => q ((ax_le hx ax_ir0).mpr z)) H ls locs cells slots I)
theorem g_ifnonnull (C : ax_C p R s m args meth c b D dA nL n0 cc own ht) {a : Nat} {off : Int} {tgt : Nat} (hd : decode cc pc = .ok (.ifnonnull off, 3)) (ht : (pc : Int) + off = (tgt : Int)) (k : ax_G p l e R s m args below meth c b D dA nL n0 z0 Q (tgt) (L) (st) (h)) : ax_G p l e R s m args below meth c b D dA nL n0 z0 Q (pc) (L) (rv a :: st) (h) := fun H ls locs cells slots I => lv_ifnonnull C.1 C.2.1 hd ht (k H ls locs cells slots I)
theorem g_ifnonnullN (C : ax_C p R s m args meth c b D dA nL n0 cc own ht) {off : Int} (hd : decode cc pc = .ok (.ifnonnull off, 3)) (k : ax_G p l e R s m args below meth c b D dA nL n0 z0 Q (pc + 3) (L) (st) (h)) : ax_G p l e R s m args below meth c b D dA nL n0 z0 Q (pc) (L) (nv :: st) (h) := fun H ls locs cells slots I => lv_ifnonnullN C.1 C.2.1 hd (k H ls locs cells slots I)
theorem g_ifnull (C : ax_C p R s m args meth c b D dA nL n0 cc own ht) {a : Nat} {off : Int} (hd : decode cc pc = .ok (.ifnull off, 3)) (k : ax_G p l e R s m args below meth c b D dA nL n0 z0 Q (pc + 3) (L) (st) (h)) : ax_G p l e R s m args below meth c b D dA nL n0 z0 Q (pc) (L) (rv a :: st) (h) := fun H ls locs cells slots I => lv_ifnull C.1 C.2.1 hd (k H ls locs cells slots I)
theorem g_ifnullN (C : ax_C p R s m args meth c b D dA nL n0 cc own ht) {off : Int} {tgt : Nat} (hd : decode cc pc = .ok (.ifnull off, 3)) (ht : (pc : Int) + off = (tgt : Int)) (k : ax_G p l e R s m args below meth c b D dA nL n0 z0 Q (tgt) (L) (st) (h)) : ax_G p l e R s m args below meth c b D dA nL n0 z0 Q (pc) (L) (nv :: st) (h) := fun H ls locs cells slots I => lv_ifnullN C.1 C.2.1 hd ht (k H ls locs cells slots I)
theorem g_lookup (C : ax_C p R s m args meth c b D dA nL n0 cc own ht) {x dflt off : Int} {ps : Array (Int × Int)} {len tgt : Nat} (hd : decode cc pc = .ok (.lookupswitch dflt ps, len)) (hx : -2147483648 ≤ x ∧ x < 2147483648) (hp : (ps.toList.zip (ps.toList.drop 1)).all (fun (a, next) => a.1 < next.1) = true) (ho : Op.lookupswitch.offset ps.toList dflt x = off) (ht : (pc : Int) + off = (tgt : Int)) (k : ax_G p l e R s m args below meth c b D dA nL n0 z0 Q (tgt) (L) (st) (h)) : ax_G p l e R s m args below meth c b D dA nL n0 z0 Q (pc) (L) (iv x :: st) (h) := fun H ls locs cells slots I => lv_lookup C.1 C.2.1 hd hp (by rw [ax_ti hx]; exact ho) ht (k H ls locs cells slots I)
theorem g_tableOut (C : ax_C p R s m args meth c b D dA nL n0 cc own ht) {x dflt lo hi : Int} {offs : Array Int} {len tgt : Nat} (hd : decode cc pc = .ok (.tableswitch dflt lo hi offs, len)) (hx : -2147483648 ≤ x ∧ x < 2147483648) (ho : x < lo ∨ hi < x) (ht : (pc : Int) + dflt = (tgt : Int)) (k : ax_G p l e R s m args below meth c b D dA nL n0 z0 Q (tgt) (L) (st) (h)) : ax_G p l e R s m args below meth c b D dA nL n0 z0 Q (pc) (L) (iv x :: st) (h) := fun H ls locs cells slots I => lv_tableOut C.1 C.2.1 hd (by rw [ax_ti hx]; exact ho) ht (k H ls locs cells slots I)
theorem g_tableIn (C : ax_C p R s m args meth c b D dA nL n0 cc own ht) {x dflt lo hi off : Int} {offs : Array Int} {len tgt : Nat} (hd : decode cc pc = .ok (.tableswitch dflt lo hi offs, len)) (hx : -2147483648 ≤ x ∧ x < 2147483648) (h1 : ¬ x < lo) (h2 : ¬ hi < x) (ho : offs[(x - lo).toNat]? = some off) (ht : (pc : Int) + off = (tgt : Int)) (k : ax_G p l e R s m args below meth c b D dA nL n0 z0 Q (tgt) (L) (st) (h)) : ax_G p l e R s m args below meth c b D dA nL n0 z0 Q (pc) (L) (iv x :: st) (h) := fun H ls locs cells slots I => lv_tableIn C.1 C.2.1 hd (by rw [ax_ti hx]; exact h1) (by rw [ax_ti hx]; exact h2) (by rw [ax_ti hx]; exact ho) ht (k H ls locs cells slots I)
end AXR
end
section
section AXH
variable {p : Program} {l : Launch} {e : Env} {R : Room} {s : State} {m : MethodId} {args : Array Value} {below : List Frame} {meth : Method} {c : Code} {b : Nat} {D : va_G} {dA : Nat → ClassId} {nL n0 z0 : Nat} {Q : State → Prop} {cc : ByteArray} {own : String} {ht : Nat} {pc : Nat} {L : List (Option ax_V)} {st : List ax_V} {h : ax_H}
/-- a field as an instruction of the class own names it: field k of the objects of kind ci -/
def ax_fld (own : String) (idx ci k : Nat) (ty : FieldType) (fin : Bool) : Prop :=
  ∃ (Cn : String) (T : u_T) (N : Nat) (ty0 : Nat → FieldType), vwCl[ci]? = some (Cn, T, N) ∧ k < N ∧ (∀ w ∈ u_ws Cn T N, w ∈ ax_tb) ∧ (∀ k, k < N → parseFieldDescriptor (T k).2.2.1 = some (ty0 k)) ∧ (∀ a, a < N → ∀ b, b < N → a ≠ b → (T a).2.1 ≠ (T b).2.1) ∧ Cond.fieldLink own idx (T k).1 (T k).2.1 (T k).2.2.1 ∈ ax_tb ∧ (T k).2.2.2 = fin ∧ parseFieldDescriptor (T k).2.2.1 = some ty ∧ (T k).1 = Cn
theorem g_get (C : ax_C p R s m args meth c b D dA nL n0 cc own ht) {idx ci k a : Nat} {ty : FieldType} {fin : Bool} {fs : List ax_V} {v : ax_V} (F : ax_fld own idx ci k ty fin) (hd : decode cc pc = .ok (.getfield idx, 3)) (ha : h[a]? = some (.inr (ci, fs))) (hv : fs[k]? = some v) (kk : ax_G p l e R s m args below meth c b D dA nL n0 z0 Q (pc + 3) (L) (v :: st) (h)) : ax_G p l e R s m args below meth c b D dA nL n0 z0 Q (pc) (L) (rv a :: st) (h) := by
  obtain ⟨Cn, T, N, ty0, f1, f2, f3, f4, f5, f6, f7, f8, f9⟩ := F
  intro H ls locs cells slots I
  exact va_get (D := D) (ci := ci) (v := ax_v b v) (C := Cn) (T := T) (N := N) C.1 C.2.1 C.2.2.2.2.1 f3 C.2.2.2.1 C.2.2.2.2.2.1 I.2.1 a (ax_w_at ha) f1 k f2 (C.2.2.2.2.1 _ f6) (fun _ h9 => h9) (by simp [hv]) hd (kk H ls locs cells slots I)
theorem ax_I.wrote {H H' : Heap} {ls : Array Slot} {locs : List Loc} {cells slots : Nat} (I : ax_I R s b D dA nL n0 z0 L h H ls locs cells slots) {a : Nat} {e0 e1 : ax_E} (ha : h[a]? = some e0) (hz : ax_z e1 = ax_z e0) (he : va_at D vwCl (b + a, ax_e b dA e1) H') (h2 : H'.size = H.size) (h3 : ∀ q, q ≠ b + a → H'[q]? = H[q]?) (x : Loc) (hx : x.base = b + a) : ax_I R s b D dA nL n0 z0 L (h.set a e1) H' ls (locs ++ [x]) cells slots := by
  obtain ⟨a1, a2, a3, a4, a5, a6, a7, a8, a9⟩ := I
  have hsz := ax_sz_set h a e1 e0 ha hz
  refine ⟨by rw [h2, a1, List.length_set], ?_, fun q hq => ?_, fun y hy => ?_, a5, by rw [List.length_set]; exact a6, by rw [hsz]; exact a7, by rw [List.length_set]; exact a8, by rw [hsz]; exact a9⟩
  · have := a2.set (ax_D b dA h) (ax_w_at ha) he h3
    rw [ax_w_set] at this
    exact this
  · rw [h3 q (by omega)]
    exact a3 q hq
  · rcases List.mem_append.mp hy with q | q
    · exact a4 y q
    · rw [List.mem_singleton.mp q, hx]
      omega
theorem g_put (C : ax_C p R s m args meth c b D dA nL n0 cc own ht) {idx ci k a : Nat} {ty : FieldType} {fs : List ax_V} {v : ax_V} (F : ax_fld own idx ci k ty false) (hd : decode cc pc = .ok (.putfield idx, 3)) (ha : h[a]? = some (.inr (ci, fs))) (hn : narrow ty (ax_v b v) = ax_v b v) (hfit : fits ty (ax_v b v) = true) (hl : k < fs.length) (kk : ax_G p l e R s m args below meth c b D dA nL n0 z0 Q (pc + 3) (L) (st) (h.set a (.inr (ci, fs.set k v)))) : ax_G p l e R s m args below meth c b D dA nL n0 z0 Q (pc) (L) (v :: rv a :: st) (h) := by
  obtain ⟨Cn, T, N, ty0, f1, f2, f3, f4, f5, f6, f7, f8, f9⟩ := F
  intro H ls locs cells slots I
  have hts := C.2.2.2.2.1
  have hK := C.2.2.2.2.2.1
  have hap := va_apart (own := own) hts f3 ty0 f4 f5 hK f1
  obtain ⟨r, h1, cell, q1, q2, q3, q4⟩ := I.2.1 a _ (ax_w_at ha)
  have hr : r = (Cn, T, N) := Option.some.inj (h1.symm.trans f1)
  subst hr
  obtain ⟨hS, hfc, kC, hkC, hkind⟩ := hK.1 ci _ f1
  obtain ⟨cf, kf, fi, f, hi, hsl⟩ := hS k f2
  have hlay := hts _ (f3 _ (u_in_lay f2))
  unfold u_lay at hlay
  rw [if_neg (by rw [f7]; decide)] at hlay
  have hst := (u_facts hfc hkC (u_lays hts f3 f2) hi).1
  have h6 := u_store hfc hkC hkind hlay hi f8 hn hfit
  refine W.putK C.1 C.2.1 (f := f) ⟨C.2.2.2.1, hts _ f6, ⟨_, _, _, hi⟩, hst⟩ (by rw [q2]; exact h6) q1 q3 (by rw [hsl]; exact k2_hasslot (q4 k f2)) rfl rfl hd fun H' e1 e2 e3 => ?_
  rw [hsl] at e1 ⊢
  refine kk H' ls _ cells slots (I.wrote ha (by simp [ax_z]) ?_ e2 e3 _ rfl)
  have hE : ax_e b dA (.inr (ci, fs.set k v)) = .inr (ci, (fs.map (ax_v b)).set k (ax_v b v)) := by simp [ax_e, List.map_set]
  rw [hE]
  exact ⟨_, f1, t_OB.to (V := updV (vp_V (fs.map (ax_v b))) k (ax_v b v)) ⟨_, e1, q2, q3, t_set q4 hap f2 (ax_v b v)⟩ (fun j _ => vp_updV_set (by rw [List.length_map]; exact hl) (ax_v b v) j)⟩
theorem g_putF (C : ax_C p R s m args meth c b D dA nL n0 cc own ht) {idx ci k a : Nat} {ty : FieldType} {fs : List ax_V} {v : ax_V} (F : ax_fld own idx ci k ty true) (hin2 : meth.name = "<init>") (hcn : ∀ q : vw_C, vwCl[ci]? = some q → q.1 = own) (hd : decode cc pc = .ok (.putfield idx, 3)) (ha : h[a]? = some (.inr (ci, fs))) (hn : narrow ty (ax_v b v) = ax_v b v) (hfit : fits ty (ax_v b v) = true) (hl : k < fs.length) (kk : ax_G p l e R s m args below meth c b D dA nL n0 z0 Q (pc + 3) (L) (st) (h.set a (.inr (ci, fs.set k v)))) : ax_G p l e R s m args below meth c b D dA nL n0 z0 Q (pc) (L) (v :: rv a :: st) (h) := by
  obtain ⟨Cn, T, N, ty0, f1, f2, f3, f4, f5, f6, f7, f8, f9⟩ := F
  intro H ls locs cells slots I
  have hts := C.2.2.2.2.1
  have hK := C.2.2.2.2.2.1
  have hap := va_apart (own := own) hts f3 ty0 f4 f5 hK f1
  obtain ⟨r, h1, cell, q1, q2, q3, q4⟩ := I.2.1 a _ (ax_w_at ha)
  have hr : r = (Cn, T, N) := Option.some.inj (h1.symm.trans f1)
  subst hr
  obtain ⟨hS, hfc, kC, hkC, hkind⟩ := hK.1 ci _ f1
  obtain ⟨cf, kf, fi, f, hi, hsl⟩ := hS k f2
  have hlay := hts _ (f3 _ (u_in_lay f2))
  unfold u_lay at hlay
  rw [if_pos f7] at hlay
  have hst := (u_facts hfc hkC (u_lays hts f3 f2) hi).1
  have hcf : m.cls = cf := by
    obtain ⟨_, _, c', _, _, _, -, -, hf', -, -, -, hown2, -⟩ := Cond.laysFinal_spec hlay
    have e1 : c' = cf := by have := hi.symm.trans hf'; simp at this; exact this.1.symm
    have hcn' : Cn = own := hcn _ f1
    rw [f9, hcn'] at hown2
    rw [← e1]; exact Option.some.inj (C.2.2.2.1.symm.trans hown2)
  have h6 := u_fits hfc hkC hkind (Or.inr hlay) hi f8 hn hfit
  refine W.putFinK C.1 C.2.1 C.2.2.2.1 (hts _ f6) hi hst hcf hin2 (by rw [q2]; exact h6) q1 q3 (by rw [hsl]; exact k2_hasslot (q4 k f2)) rfl rfl hd fun H' e1 e2 e3 => ?_
  rw [hsl] at e1 ⊢
  refine kk H' ls _ cells slots (I.wrote ha (by simp [ax_z]) ?_ e2 e3 _ rfl)
  have hE : ax_e b dA (.inr (ci, fs.set k v)) = .inr (ci, (fs.map (ax_v b)).set k (ax_v b v)) := by simp [ax_e, List.map_set]
  rw [hE]
  exact ⟨_, f1, t_OB.to (V := updV (vp_V (fs.map (ax_v b))) k (ax_v b v)) ⟨_, e1, q2, q3, t_set q4 hap f2 (ax_v b v)⟩ (fun j _ => vp_updV_set (by rw [List.length_map]; exact hl) (ax_v b v) j)⟩
/-! rows of numbers -/
theorem g_iald (C : ax_C p R s m args meth c b D dA nL n0 cc own ht) {a n j : Nat} {i : Int} {f : Nat → Int} (hd : decode cc pc = .ok (.iaload, 1)) (ha : h[a]? = some (.inl (0, n, .inl f))) (hi : i = (j : Int)) (hj : j < n) (hn : n ≤ 1000000) (kk : ax_G p l e R s m args below meth c b D dA nL n0 z0 Q (pc + 1) (L) (iv (f j) :: st) (h)) : ax_G p l e R s m args below meth c b D dA nL n0 z0 Q (pc) (L) (iv i :: rv a :: st) (h) := fun H ls locs cells slots I => va_iald C.1 C.2.1 C.2.2.2.2.2.1 I.2.1 a 0 (ax_w_at ha) rfl (ax_in hi hj hn).1 hd (by rw [(ax_in hi hj hn).2]; exact kk H ls locs cells slots I)
theorem g_zald (C : ax_C p R s m args meth c b D dA nL n0 cc own ht) {a n j : Nat} {i : Int} {f : Nat → Int} (hd : decode cc pc = .ok (.baload, 1)) (ha : h[a]? = some (.inl (1, n, .inl f))) (hi : i = (j : Int)) (hj : j < n) (hn : n ≤ 1000000) (kk : ax_G p l e R s m args below meth c b D dA nL n0 z0 Q (pc + 1) (L) (iv (f j) :: st) (h)) : ax_G p l e R s m args below meth c b D dA nL n0 z0 Q (pc) (L) (iv i :: rv a :: st) (h) := fun H ls locs cells slots I => va_zald C.1 C.2.1 C.2.2.2.2.2.1 I.2.1 a 1 (ax_w_at ha) rfl (ax_in hi hj hn).1 hd (by rw [(ax_in hi hj hn).2]; exact kk H ls locs cells slots I)
theorem ax_updI (f : Nat → Int) (j : Nat) (x : Int) : updV (fun k => Value.int (Int32.ofInt (f k))) j (.int (Int32.ofInt x)) = fun k => Value.int (Int32.ofInt (va_up f j x k)) := by
  funext q
  by_cases hq : q = j
  · subst hq; simp [updV, va_up]
  · simp [updV, va_up, hq]
theorem g_iast (C : ax_C p R s m args meth c b D dA nL n0 cc own ht) {a n j : Nat} {i x : Int} {f : Nat → Int} (hd : decode cc pc = .ok (.iastore, 1)) (ha : h[a]? = some (.inl (0, n, .inl f))) (hi : i = (j : Int)) (hj : j < n) (hn : n ≤ 1000000) (kk : ax_G p l e R s m args below meth c b D dA nL n0 z0 Q (pc + 1) (L) (st) (h.set a (.inl (0, n, .inl (va_up f j x))))) : ax_G p l e R s m args below meth c b D dA nL n0 z0 Q (pc) (L) (iv x :: iv i :: rv a :: st) (h) := fun H ls locs cells slots I => by
  refine W.iast C.1 C.2.1 (I.2.1 a _ (ax_w_at ha)) ((C.2.2.2.2.2.1.2 0 _ rfl).1 n (fun k => .int (Int32.ofInt (f k)))) (fun q => by cases q) (by show ¬ (_ ∨ (arrV _ _ _).slots.size ≤ _); rw [arrV_size]; exact (ax_in hi hj hn).1) rfl rfl hd fun H1 e1 e2 e3 => ?_
  refine kk H1 ls _ cells slots (I.wrote (e1 := .inl (0, n, .inl (va_up f j x))) ha rfl ?_ e2 e3 _ rfl)
  show H1[b + a]? = some (vp_cell _ _)
  rw [e1, (ax_in hi hj hn).2]
  dsimp only
  rw [vp_cell_i, vp_cell_i, arrV_store, ax_updI]
theorem g_zast (C : ax_C p R s m args meth c b D dA nL n0 cc own ht) {a n j : Nat} {i x : Int} {f : Nat → Int} (hd : decode cc pc = .ok (.bastore, 1)) (ha : h[a]? = some (.inl (1, n, .inl f))) (hx : x = 0 ∨ x = 1) (hi : i = (j : Int)) (hj : j < n) (hn : n ≤ 1000000) (kk : ax_G p l e R s m args below meth c b D dA nL n0 z0 Q (pc + 1) (L) (st) (h.set a (.inl (1, n, .inl (va_up f j x))))) : ax_G p l e R s m args below meth c b D dA nL n0 z0 Q (pc) (L) (iv x :: iv i :: rv a :: st) (h) := fun H ls locs cells slots I => by
  have hnr : narrow .boolean (.int (Int32.ofInt x)) = .int (Int32.ofInt x) := by rcases hx with rfl | rfl <;> rfl
  refine W.zast C.1 C.2.1 (I.2.1 a _ (ax_w_at ha)) ((C.2.2.2.2.2.1.2 1 _ rfl).1 n (fun k => .int (Int32.ofInt (f k)))) (fun q => by cases q) (by show ¬ (_ ∨ (arrV _ _ _).slots.size ≤ _); rw [arrV_size]; exact (ax_in hi hj hn).1) rfl rfl hd fun H1 e1 e2 e3 => ?_
  refine kk H1 ls _ cells slots (I.wrote (e1 := .inl (1, n, .inl (va_up f j x))) ha rfl ?_ e2 e3 _ rfl)
  show H1[b + a]? = some (vp_cell _ _)
  rw [e1, (ax_in hi hj hn).2, hnr]
  dsimp only
  rw [vp_cell_i, vp_cell_i, arrV_store, ax_updI]
/-! rows of references -/
theorem ax_rf (b : Nat) (o : Option Nat) : va_rf (o.map (fun a => b + a)) = ax_v b (.inr o) := by cases o <;> rfl
theorem g_aald (C : ax_C p R s m args meth c b D dA nL n0 cc own ht) {a n j t : Nat} {i : Int} {f : Nat → Option Nat} {ty : FieldType} (hd : decode cc pc = .ok (.aaload, 1)) (ha : h[a]? = some (.inl (t, n, .inr f))) (ht : (ax_tys dA)[t]? = some (dA t, ty)) (hty : ty.isReference = true) (hi : i = (j : Int)) (hj : j < n) (hn : n ≤ 1000000) (kk : ax_G p l e R s m args below meth c b D dA nL n0 z0 Q (pc + 1) (L) (.inr (f j) :: st) (h)) : ax_G p l e R s m args below meth c b D dA nL n0 z0 Q (pc) (L) (iv i :: rv a :: st) (h) := fun H ls locs cells slots I => by
  refine W.aald (v := ax_v b (.inr (f j))) (ty := ty) C.1 C.2.1 (I.2.1 a _ (ax_w_at ha)) ((C.2.2.2.2.2.1.2 t _ ht).1 n (fun k => va_rf ((f k).map (fun a => b + a)))) hty (fun q => by cases q) (by show ¬ (_ ∨ (arrV _ _ _).slots.size ≤ _); rw [arrV_size]; exact (ax_in hi hj hn).1) ?_ rfl rfl hd (kk H ls locs cells slots I)
  rw [(ax_in hi hj hn).2]
  show (arrV _ _ _).slots[_]? = _
  rw [arrV_read _ _ hj, ax_rf]
theorem ax_updQ (b : Nat) (f : Nat → Option Nat) (j v : Nat) : updV (fun k => va_rf ((f k).map (fun a => b + a))) j (.ref (b + v)) = fun k => va_rf ((va_up f j (some v) k).map (fun a => b + a)) := by
  funext q
  by_cases hq : q = j
  · subst hq; simp [updV, va_up, va_rf]
  · simp [updV, va_up, hq]
theorem g_aast (C : ax_C p R s m args meth c b D dA nL n0 cc own ht) {a n j t v ci : Nat} {i : Int} {f : Nat → Option Nat} {vs : List ax_V} {r : vw_C} (hd : decode cc pc = .ok (.aastore, 1)) (ha : h[a]? = some (.inl (t, n, .inr f))) (ht : (ax_tys dA)[t]? = some (dA t, .object r.1)) (hv : h[v]? = some (.inr (ci, vs))) (hc : vwCl[ci]? = some r) (hi : i = (j : Int)) (hj : j < n) (hn : n ≤ 1000000) (kk : ax_G p l e R s m args below meth c b D dA nL n0 z0 Q (pc + 1) (L) (st) (h.set a (.inl (t, n, .inr (va_up f j (some v)))))) : ax_G p l e R s m args below meth c b D dA nL n0 z0 Q (pc) (L) (rv v :: iv i :: rv a :: st) (h) := fun H ls locs cells slots I => by
  have hK := C.2.2.2.2.2.1
  have hx := ax_in hi hj hn
  obtain ⟨r', hr', cellV, g1, g2, g3, -⟩ := I.2.1 v _ (ax_w_at hv)
  have hcls := (hK.1 ci r hc).2
  obtain ⟨kA, comp, k1, k2, k3, -⟩ := (hK.2 t _ ht).2
  have hcomp : comp = D.1 ci := Option.some.inj (k3.symm.trans hcls.1)
  subst hcomp
  obtain ⟨kC, hkC, -⟩ := hcls.2
  refine W.aast C.1 C.2.1 (I.2.1 a _ (ax_w_at ha)) (fun q h => by cases h) (fun h => by cases h) k1 k2 rfl hkC ⟨fun q => hx.1 (Or.inl q), by show _ < (arrV _ _ _).slots.size; rw [arrV_size, hx.2]; exact hj⟩ g1 (fun q h => by rw [g3] at h; cases h) (by rw [g2]; exact hkC) (by rw [g2]; exact va_assign hcls) rfl rfl hd fun H1 e1 e2 e3 => ?_
  refine kk H1 ls _ cells slots (I.wrote (e1 := .inl (t, n, .inr (va_up f j (some v)))) ha rfl ?_ e2 e3 _ rfl)
  show H1[b + a]? = some (vp_cell _ _)
  rw [e1, hx.2]
  dsimp only
  rw [vp_cell_q, vp_cell_q, arrV_store, ax_updQ]
theorem g_alen (C : ax_C p R s m args meth c b D dA nL n0 cc own ht) {a n t : Nat} {x : ax_A} {ty : FieldType} (hd : decode cc pc = .ok (.arraylength, 1)) (ha : h[a]? = some (.inl (t, n, x))) (ht : (ax_tys dA)[t]? = some (dA t, ty)) (kk : ax_G p l e R s m args below meth c b D dA nL n0 z0 Q (pc + 1) (L) (iv (n : Int) :: st) (h)) : ax_G p l e R s m args below meth c b D dA nL n0 z0 Q (pc) (L) (rv a :: st) (h) := fun H ls locs cells slots I => by
  rcases x with f | f
  · exact va_alen C.1 C.2.1 C.2.2.2.2.2.1 I.2.1 a t (ax_w_at ha) ht (Int32.ofInt_eq_ofNat (n := n)).symm hd (kk H ls locs cells slots I)
  · exact va_alen C.1 C.2.1 C.2.2.2.2.2.1 I.2.1 a t (ax_w_at ha) ht (Int32.ofInt_eq_ofNat (n := n)).symm hd (kk H ls locs cells slots I)
/-! new cells -/
theorem ax_I.made {H H' : Heap} {ls : Array Slot} {locs : List Loc} {cells slots : Nat} (I : ax_I R s b D dA nL n0 z0 L h H ls locs cells slots) {e1 : ax_E} {k : Nat} (hk : ax_z e1 = k) (hc : h.length + 1 ≤ n0 + R.cells) (hs : ax_sz h + k ≤ z0 + R.slots) (he : va_at D vwCl (b + h.length, ax_e b dA e1) H') (h2 : H'.size = H.size + 1) (h3 : ∀ q, q < H.size → H'[q]? = H[q]?) : ax_I R s b D dA nL n0 z0 L (h ++ [e1]) H' ls locs (cells + 1) (slots + k) := by
  obtain ⟨a1, a2, a3, a4, a5, a6, a7, a8, a9⟩ := I
  subst hk
  have hz := ax_sz_push h e1
  have hl : (h ++ [e1]).length = h.length + 1 := by simp
  refine ⟨by rw [h2, a1, hl]; omega, ?_, fun q hq => ?_, a4, a5, by rw [hl]; omega, by rw [hz]; omega, by rw [hl]; exact hc, by rw [hz]; exact hs⟩
  · rw [← ax_w_push]
    refine va_P.app (a2.kept fun k q hq => h3 _ (a2 k q hq).lt) ?_
    intro k q hq
    have h0 : k < 1 := (List.getElem?_eq_some_iff.mp hq).1
    have h00 : k = 0 := by omega
    subst h00
    cases hq
    exact he
  · rw [h3 q (by omega)]
    exact a3 q hq
def ax_nw (own : String) (idx ci N : Nat) (fs : List ax_V) : Prop :=
  ∃ (Cn : String) (T : u_T) (ty : Nat → FieldType), vwCl[ci]? = some (Cn, T, N) ∧ (∀ w ∈ u_ws Cn T N, w ∈ ax_tb) ∧ (∀ k, k < N → parseFieldDescriptor (T k).2.2.1 = some (ty k)) ∧ Cond.classLink own idx Cn ∈ ax_tb ∧ Cond.instantiable Cn N ∈ ax_tb ∧ Cond.initialized Cn ∈ ax_tb ∧ fs.length = N ∧ (∀ (b : Nat) (j : Nat), j < N → defaultValue (ty j) = vp_V (fs.map (ax_v b)) j)
theorem g_new (C : ax_C p R s m args meth c b D dA nL n0 cc own ht) {idx ci N : Nat} {fs : List ax_V} (F : ax_nw own idx ci N fs) (hd : decode cc pc = .ok (.new idx, 3)) (hc : h.length + 1 ≤ n0 + R.cells) (hs : ax_sz h + N ≤ z0 + R.slots) (kk : ax_G p l e R s m args below meth c b D dA nL n0 z0 Q (pc + 3) (L) (rv h.length :: st) (h ++ [.inr (ci, fs)])) : ax_G p l e R s m args below meth c b D dA nL n0 z0 Q (pc) (L) (st) (h) := by
  obtain ⟨Cn, T, ty, f1, f2, f3, f4, f5, f6, f7, f8⟩ := F
  intro H ls locs cells slots I
  have hts := C.2.2.2.2.1
  have hKn := C.2.2.2.2.2.1.1 ci _ f1
  have i6 := I.2.2.2.2.2.1
  have i7 := I.2.2.2.2.2.2.1
  refine W.newcK C.1 C.2.1 C.2.2.2.1 (hts _ f4) (hts _ f5) (hts _ f6) rfl hd (by omega) (by omega) hKn.2.1 rfl fun H1 kC hkC e1 z1 o1 => ?_
  rw [I.1] at e1
  have I2 := I.made (H' := H1) (e1 := .inr (ci, fs)) (k := N) f7 hc hs ⟨_, f1, (u_born ty hts f2 hKn hkC e1 f3).to (fun j hj => f8 b j hj)⟩ z1 o1
  have := kk H1 ls locs _ _ I2
  show W p l e R s m args below meth c H1 locs (cells + 1) (slots + N) Q (F0 m (pc + 3) ls (.ref H.size :: st.map (ax_v b)))
  rw [I.1]
  exact this
theorem g_newi (C : ax_C p R s m args meth c b D dA nL n0 cc own ht) {n : Nat} {i : Int} (hd : decode cc pc = .ok (.newarray .int, 2)) (hw : Cond.arrayClass .int ∈ ax_tb) (hi : i = (n : Int)) (hn : n < 1000000) (hc : h.length + 1 ≤ n0 + R.cells) (hs : ax_sz h + n ≤ z0 + R.slots) (kk : ax_G p l e R s m args below meth c b D dA nL n0 z0 Q (pc + 2) (L) (rv h.length :: st) (h ++ [.inl (0, n, .inl (fun _ => 0))])) : ax_G p l e R s m args below meth c b D dA nL n0 z0 Q (pc) (L) (iv i :: st) (h) := fun H ls locs cells slots I => by
  have hx := ax_in (n := n + 1) hi (Nat.lt_succ_self n) (by omega)
  have i6 := I.2.2.2.2.2.1
  have i7 := I.2.2.2.2.2.2.1
  have hb4 : componentBytes (newarray.typeOf .int) ≤ 4 := by decide
  refine va_newaK (atype := .int) C.1 C.2.1 (C.2.2.2.2.1 _ hw) rfl hd rfl (fun q => hx.1 (Or.inl q)) hx.2 (Nat.le_trans (Nat.mul_le_mul (Nat.le_of_lt hn) hb4) (by decide)) (by omega) (by omega) rfl fun H1 cA e1 z1 o1 hAr hNm => ?_
  have hcA : cA = dA 0 := Option.some.inj (hNm.symm.trans (C.2.2.2.2.2.1.2 0 _ rfl).2)
  subst hcA
  rw [I.1] at e1
  have I2 := I.made (H' := H1) (e1 := .inl (0, n, .inl (fun _ => 0))) (k := n) rfl hc hs e1 z1 o1
  show W p l e R s m args below meth c H1 locs (cells + 1) (slots + n) Q (F0 m (pc + 2) ls (.ref H.size :: st.map (ax_v b)))
  rw [I.1]
  exact kk H1 ls locs _ _ I2
theorem g_newz (C : ax_C p R s m args meth c b D dA nL n0 cc own ht) {n : Nat} {i : Int} (hd : decode cc pc = .ok (.newarray .boolean, 2)) (hw : Cond.arrayClass .boolean ∈ ax_tb) (hi : i = (n : Int)) (hn : n < 1000000) (hc : h.length + 1 ≤ n0 + R.cells) (hs : ax_sz h + n ≤ z0 + R.slots) (kk : ax_G p l e R s m args below meth c b D dA nL n0 z0 Q (pc + 2) (L) (rv h.length :: st) (h ++ [.inl (1, n, .inl (fun _ => 0))])) : ax_G p l e R s m args below meth c b D dA nL n0 z0 Q (pc) (L) (iv i :: st) (h) := fun H ls locs cells slots I => by
  have hx := ax_in (n := n + 1) hi (Nat.lt_succ_self n) (by omega)
  have i6 := I.2.2.2.2.2.1
  have i7 := I.2.2.2.2.2.2.1
  have hb4 : componentBytes (newarray.typeOf .boolean) ≤ 4 := by decide
  refine va_newaK (atype := .boolean) C.1 C.2.1 (C.2.2.2.2.1 _ hw) rfl hd rfl (fun q => hx.1 (Or.inl q)) hx.2 (Nat.le_trans (Nat.mul_le_mul (Nat.le_of_lt hn) hb4) (by decide)) (by omega) (by omega) rfl fun H1 cA e1 z1 o1 hAr hNm => ?_
  have hcA : cA = dA 1 := Option.some.inj (hNm.symm.trans (C.2.2.2.2.2.1.2 1 _ rfl).2)
  subst hcA
  rw [I.1] at e1
  have I2 := I.made (H' := H1) (e1 := .inl (1, n, .inl (fun _ => 0))) (k := n) rfl hc hs e1 z1 o1
  show W p l e R s m args below meth c H1 locs (cells + 1) (slots + n) Q (F0 m (pc + 2) ls (.ref H.size :: st.map (ax_v b)))
  rw [I.1]
  exact kk H1 ls locs _ _ I2
theorem g_newq (C : ax_C p R s m args meth c b D dA nL n0 cc own ht) {n t idx : Nat} {i : Int} {Cn : String} (hd : decode cc pc = .ok (.anewarray idx, 3)) (hw : Cond.classLink own idx Cn ∈ ax_tb) (ho : Cond.arrayOver (.object Cn) ∈ ax_tb) (ht : (ax_tys dA)[t]? = some (dA t, .object Cn)) (hi : i = (n : Int)) (hn : n < 1000000) (hc : h.length + 1 ≤ n0 + R.cells) (hs : ax_sz h + n ≤ z0 + R.slots) (kk : ax_G p l e R s m args below meth c b D dA nL n0 z0 Q (pc + 3) (L) (rv h.length :: st) (h ++ [.inl (t, n, .inr (fun _ => none))])) : ax_G p l e R s m args below meth c b D dA nL n0 z0 Q (pc) (L) (iv i :: st) (h) := fun H ls locs cells slots I => by
  have hx := ax_in (n := n + 1) hi (Nat.lt_succ_self n) (by omega)
  have i6 := I.2.2.2.2.2.1
  have i7 := I.2.2.2.2.2.2.1
  refine W.anew C.1 C.2.1 C.2.2.2.1 (C.2.2.2.2.1 _ hw) (C.2.2.2.2.1 _ ho) rfl hd rfl (fun q => hx.1 (Or.inl q)) (by rw [hx.2]; omega) (by omega) (by rw [hx.2]; omega) fun cA kA comp f1 f2 f3 f4 => ?_
  obtain ⟨kA', comp', k1, k2, k3, k4⟩ := (C.2.2.2.2.2.1.2 t _ ht).2
  have hcA : cA = dA t := Option.some.inj (f1.symm.trans k4)
  subst hcA
  rw [hx.2]
  generalize hH1 : H.push ({ cls := dA t, slots := Array.replicate n .null, vm := .none } : Cell) = H1
  have z1 : H1.size = H.size + 1 := by rw [← hH1, Array.size_push]
  have e1 : H1[b + h.length]? = some (arrV (dA t) n (fun _ => .null)) := by rw [← I.1, ← hH1, Array.getElem?_push_size, ← arrV_new]
  have o1 : ∀ q : Nat, q < H.size → H1[q]? = H[q]? := fun q hq => by rw [← hH1, Array.getElem?_push, if_neg (Nat.ne_of_lt hq)]
  have I2 := I.made (H' := H1) (e1 := .inl (t, n, .inr (fun _ => none))) (k := n) rfl hc hs e1 z1 o1
  show W p l e R s m args below meth c H1 locs (cells + 1) (slots + n) Q (F0 m (pc + 3) ls (.ref H.size :: st.map (ax_v b)))
  rw [I.1]
  exact kk H1 ls locs _ _ I2
end AXH
end
section
section AXM
variable {p : Program} {l : Launch} {e : Env} {R : Room} {s : State} {m : MethodId} {args : Array Value} {below : List Frame} {meth : Method} {c : Code} {b : Nat} {D : va_G} {dA : Nat → ClassId} {nL n0 z0 : Nat} {Q : State → Prop} {cc : ByteArray} {own : String} {ht : Nat} {pc : Nat} {L : List (Option ax_V)} {st : List ax_V} {h : ax_H}
/-- a method: its name, its bytes, its locals, what it returns, how deep its calls go -/
abbrev ax_M : Type := MethodName × ByteArray × Nat × Option FieldType × Nat
def ax_ws (y : ax_M) : List Cond := Cond.code y.1 y.2.1 y.2.2.1 y.2.2.2.1 :: ax_tb
def ax_rm (y : ax_M) (mc ms : Nat) : Room := { frames := y.2.2.2.2, cells := mc, slots := ms, locals := 38 * y.2.2.2.2 }
def ax_Pc (b : Nat) (D : va_G) (dA : Nat → ClassId) (av : List ax_V) (h : ax_H) : Array Value → State → Prop := fun v U => v = (av.map (ax_v b)).toArray ∧ U.heap.size = b + h.length ∧ va_P D vwCl (ax_w b dA h) U.heap ∧ va_K D vwCl (ax_tys dA) U
def ax_Qc (b : Nat) (D : va_G) (dA : Nat → ClassId) (r : Option ax_V) (h' : ax_H) : Array Value → State → Outcome → State → Prop := fun _ u o t => o = .returned (r.map (ax_v b)) ∧ t.heap.size = b + h'.length ∧ va_P D vwCl (ax_w b dA h') t.heap ∧ ∀ q, q < b → t.heap[q]? = u.heap[q]?
/-- what a method does at these values in this heap: it answers r and leaves the heap h' -/
def ax_Met (y : ax_M) (av : List ax_V) (h : ax_H) (r : Option ax_V) (h' : ax_H) : Prop :=
  h.length ≤ h'.length ∧ ax_sz h ≤ ax_sz h' ∧ ∀ (l : Launch) (b : Nat) (D : va_G) (dA : Nat → ClassId), Met l y.1 (ax_ws y) (ax_rm y (h'.length - h.length) (ax_sz h' - ax_sz h)) (ax_Pc b D dA av h) (ax_Qc b D dA r h') (h'.length - h.length) (ax_sz h' - ax_sz h) (fun q => b ≤ q)
theorem lv_args1 : ∀ (vs : List Value) (i j : Nat) (v : Value), (∀ w ∈ vs, w.category = 1) → vs[j]? = some v → (i + j, v) ∈ lv_args i vs
  | [], i, j, v, _, hv => by simp at hv
  | w :: vs, i, 0, v, _, hv => by
    simp at hv
    subst hv
    simp [lv_args]
  | w :: vs, i, j + 1, v, hc, hv => by
    simp at hv
    have h1 : w.category = 1 := hc w List.mem_cons_self
    have := lv_args1 vs (i + 1) j v (fun x hx => hc x (List.mem_cons_of_mem _ hx)) hv
    simp only [lv_args, h1]
    refine List.mem_cons_of_mem _ ?_
    rw [show i + (j + 1) = i + 1 + j by omega]
    exact this
theorem lg_sl1 : ∀ (vs : List Value), (∀ w ∈ vs, w.category = 1) → (lg_sl vs).length = vs.length
  | [], _ => rfl
  | w :: vs, hc => by
    have h1 : w.category = 1 := hc w List.mem_cons_self
    have := lg_sl1 vs (fun x hx => hc x (List.mem_cons_of_mem _ hx))
    simp only [lg_sl] at this
    simp [lg_sl, h1, this]
theorem ax_met0 {y : ax_M} {av : List ax_V} {h' : ax_H} {r : Option ax_V} (hpl : plainName y.1.cls = true) (hl : h.length ≤ h'.length) (hs : ax_sz h ≤ ax_sz h') (hn : av.length ≤ y.2.2.1)
    (body : ∀ (p : Program) (l : Launch) (e : Env) (R : Room) (s : State) (m : MethodId) (args : Array Value) (below : List Frame) (meth : Method) (c : Code) (b : Nat) (D : va_G) (dA : Nat → ClassId), ax_C p R s m args meth c b D dA y.2.2.1 h.length y.2.1 y.1.cls y.2.2.2.2 → meth.name = y.1.name → meth.sig.returnType = y.2.2.2.1 → h'.length ≤ h.length + R.cells → ax_sz h' ≤ ax_sz h + R.slots →
      ax_G p l e R s m args below meth c b D dA y.2.2.1 h.length (ax_sz h) (MQ below (ax_Qc b D dA r h') args s (h'.length - h.length) (ax_sz h' - ax_sz h) (fun q => b ≤ q)) 0 (av.map some ++ List.replicate (y.2.2.1 - av.length) none) [] h) : ax_Met y av h r h' := by
  refine ⟨hl, hs, fun l b D dA => ?_⟩
  refine Met.ofW (cc := y.2.1) (maxL := y.2.2.1) (ret := y.2.2.2.1) hpl rfl ?_
  intro p e s m args below meth c s₁ B hml hv
  obtain ⟨rfl, hsz, hP, hK⟩ := hv
  have hts := atoms_spec (ws := ax_ws y) B.pre
  have hown : s.vm.findClass y.1.cls = some m.cls := findClass_of_methodNamed B.named
  have hcat : ∀ w ∈ av.map (ax_v b), w.category = 1 := fun w hw => by
    obtain ⟨v, -, rfl⟩ := List.mem_map.mp hw
    exact ax_cat b v
  have hlen := lg_sl1 (av.map (ax_v b)) hcat
  rw [List.length_map] at hlen
  have hle := lv_entry (av.map (ax_v b)) (n := y.2.2.1) (by rw [hlen]; exact hn)
  rw [lg_entry_eq]
  generalize (lg_sl (av.map (ax_v b)) ++ List.replicate (y.2.2.1 - (lg_sl (av.map (ax_v b))).length) Slot.unset).toArray = ls at hle ⊢
  refine body p l e _ s m _ below meth c b D dA ⟨B.exec, B.bytes, hml, hown, fun w hw => hts w (List.mem_cons_of_mem _ hw), hK, rfl, rfl, hsz, B.notSynchronized⟩ (name_of_methodNamed B.named B.method).1 B.returns (by show _ ≤ h.length + (h'.length - h.length); omega) (by show _ ≤ ax_sz h + (ax_sz h' - ax_sz h); omega) s.heap ls [] 0 0 ?_
  refine ⟨hsz, hP, fun _ _ => rfl, (fun _ h => by cases h), ⟨hle.1, hle.2.1, fun i v hi => ?_⟩, by omega, by omega, by omega, by omega⟩
  have hi2 : av[i]? = some v := by
    by_cases hq : i < (av.map some).length
    · rw [List.getElem?_append_left hq, List.getElem?_map] at hi
      cases hx : av[i]? with
      | none => rw [hx] at hi; cases hi
      | some w => rw [hx] at hi; cases hi; rfl
    · rw [List.getElem?_append_right (by omega)] at hi
      have := List.mem_of_getElem? hi
      have := List.eq_of_mem_replicate this
      cases this
  have := lv_args1 (av.map (ax_v b)) 0 i (ax_v b v) hcat (by rw [List.getElem?_map, hi2]; rfl)
  rw [Nat.zero_add] at this
  exact hle.2.2 _ this
theorem ax_q {h' : ax_H} {r : Option ax_V} {H : Heap} {ls : Array Slot} {locs : List Loc} {cells slots : Nat} (I : ax_I R s b D dA nL n0 z0 L h' H ls locs cells slots) {t : State} (ht : t.heap = H) {a : Array Value} {o : Outcome} (ho : o = .returned (r.map (ax_v b))) : ax_Qc b D dA r h' a s o t := by
  subst ht
  exact ⟨ho, I.1, I.2.1, I.2.2.1⟩
theorem g_iret0 {h' : ax_H} {r : Option ax_V} {x : Int} {mc ms : Nat} {ty : FieldType} (C : ax_C p R s m args meth c b D dA nL n0 cc own ht) (hd : decode cc pc = .ok (.ireturn, 1)) (hr : meth.sig.returnType = some ty) (hn : narrow ty (.int (Int32.ofInt x)) = .int (Int32.ofInt x)) (hc : mc + n0 = h'.length) (hs : ms + z0 = ax_sz h') (hx : r = some (iv x)) : ax_G p l e R s m args below meth c b D dA nL n0 z0 (MQ below (ax_Qc b D dA r h') args s mc ms (fun q => b ≤ q)) pc L [iv x] h' := fun H ls locs cells slots I => by
  subst hx
  have e1 : cells = mc := by have := I.2.2.2.2.2.1; omega
  have e2 : slots = ms := by have := I.2.2.2.2.2.2.1; omega
  subst e1; subst e2
  exact W.zret C.1 C.2.1 hr hn (fun t ht _ => ax_q I ht rfl) I.2.2.2.1 hd C.2.2.2.2.2.2.2.2.2
theorem g_vret0 {h' : ax_H} {r : Option ax_V} {mc ms : Nat} (C : ax_C p R s m args meth c b D dA nL n0 cc own ht) (hd : decode cc pc = .ok (.return_, 1)) (hr : meth.sig.returnType = none) (hc : mc + n0 = h'.length) (hs : ms + z0 = ax_sz h') (hx : r = none) : ax_G p l e R s m args below meth c b D dA nL n0 z0 (MQ below (ax_Qc b D dA r h') args s mc ms (fun q => b ≤ q)) pc L [] h' := fun H ls locs cells slots I => by
  subst hx
  have e1 : cells = mc := by have := I.2.2.2.2.2.1; omega
  have e2 : slots = ms := by have := I.2.2.2.2.2.2.1; omega
  subst e1; subst e2
  exact W.vret C.1 C.2.1 hr (fun t ht _ => ax_q I ht rfl) I.2.2.2.1 hd C.2.2.2.2.2.2.2.2.2
theorem g_aret0 {h' : ax_H} {r : Option ax_V} {o : Option Nat} {mc ms : Nat} {ty : FieldType} (C : ax_C p R s m args meth c b D dA nL n0 cc own ht) (hd : decode cc pc = .ok (.areturn, 1)) (hr : meth.sig.returnType = some ty) (hrt : (∃ n, ty = .object n) ∨ ∃ t, ty = .array t) (hc : mc + n0 = h'.length) (hs : ms + z0 = ax_sz h') (hx : r = some (.inr o)) : ax_G p l e R s m args below meth c b D dA nL n0 z0 (MQ below (ax_Qc b D dA r h') args s mc ms (fun q => b ≤ q)) pc L [.inr o] h' := fun H ls locs cells slots I => by
  subst hx
  have e1 : cells = mc := by have := I.2.2.2.2.2.1; omega
  have e2 : slots = ms := by have := I.2.2.2.2.2.2.1; omega
  subst e1; subst e2
  exact W.aret C.1 C.2.1 hr hrt (by cases o with
    | none => exact Or.inl rfl
    | some a => exact Or.inr ⟨_, rfl⟩) (fun t ht _ => ax_q I ht rfl) I.2.2.2.1 hd C.2.2.2.2.2.2.2.2.2
/-! a method's theorem out of a walk of its body, by what it returns: an int, a boolean, nothing, a reference -/
theorem ax_meti {y : ax_M} {av : List ax_V} {h' : ax_H} {r : Option ax_V} (hpl : plainName y.1.cls = true) (hty : y.2.2.2.1 = some .int) (hl : h.length ≤ h'.length) (hs : ax_sz h ≤ ax_sz h') (hn : av.length ≤ y.2.2.1)
    (body : ∀ (p : Program) (l : Launch) (e : Env) (R : Room) (s : State) (m : MethodId) (args : Array Value) (below : List Frame) (meth : Method) (c : Code) (b : Nat) (D : va_G) (dA : Nat → ClassId) (Q : State → Prop), ax_C p R s m args meth c b D dA y.2.2.1 h.length y.2.1 y.1.cls y.2.2.2.2 →
      (∀ (pc : Nat) (L : List (Option ax_V)) (x : Int), decode y.2.1 pc = .ok (.ireturn, 1) → r = some (iv x) → ax_G p l e R s m args below meth c b D dA y.2.2.1 h.length (ax_sz h) Q pc L [iv x] h') →
      ax_G p l e R s m args below meth c b D dA y.2.2.1 h.length (ax_sz h) Q 0 (av.map some ++ List.replicate (y.2.2.1 - av.length) none) [] h) : ax_Met y av h r h' :=
  ax_met0 hpl hl hs hn (fun p l e R s m args below meth c b D dA C _ hr _ _ => body p l e R s m args below meth c b D dA _ C (fun pc L x hd hx => g_iret0 C hd (hr.trans hty) rfl (by omega) (by omega) hx))
theorem ax_metz {y : ax_M} {av : List ax_V} {h' : ax_H} {r : Option ax_V} (hpl : plainName y.1.cls = true) (hty : y.2.2.2.1 = some .boolean) (hl : h.length ≤ h'.length) (hs : ax_sz h ≤ ax_sz h') (hn : av.length ≤ y.2.2.1)
    (body : ∀ (p : Program) (l : Launch) (e : Env) (R : Room) (s : State) (m : MethodId) (args : Array Value) (below : List Frame) (meth : Method) (c : Code) (b : Nat) (D : va_G) (dA : Nat → ClassId) (Q : State → Prop), ax_C p R s m args meth c b D dA y.2.2.1 h.length y.2.1 y.1.cls y.2.2.2.2 →
      (∀ (pc : Nat) (L : List (Option ax_V)) (x : Int), decode y.2.1 pc = .ok (.ireturn, 1) → (x = 0 ∨ x = 1) → r = some (iv x) → ax_G p l e R s m args below meth c b D dA y.2.2.1 h.length (ax_sz h) Q pc L [iv x] h') →
      ax_G p l e R s m args below meth c b D dA y.2.2.1 h.length (ax_sz h) Q 0 (av.map some ++ List.replicate (y.2.2.1 - av.length) none) [] h) : ax_Met y av h r h' :=
  ax_met0 hpl hl hs hn (fun p l e R s m args below meth c b D dA C _ hr _ _ => body p l e R s m args below meth c b D dA _ C (fun pc L x hd h01 hx => g_iret0 C hd (hr.trans hty) (by rcases h01 with rfl | rfl <;> rfl) (by omega) (by omega) hx))
theorem ax_metv {y : ax_M} {av : List ax_V} {h' : ax_H} (hpl : plainName y.1.cls = true) (hty : y.2.2.2.1 = none) (hl : h.length ≤ h'.length) (hs : ax_sz h ≤ ax_sz h') (hn : av.length ≤ y.2.2.1)
    (body : ∀ (p : Program) (l : Launch) (e : Env) (R : Room) (s : State) (m : MethodId) (args : Array Value) (below : List Frame) (meth : Method) (c : Code) (b : Nat) (D : va_G) (dA : Nat → ClassId) (Q : State → Prop), ax_C p R s m args meth c b D dA y.2.2.1 h.length y.2.1 y.1.cls y.2.2.2.2 → meth.name = y.1.name → h'.length ≤ h.length + R.cells → ax_sz h' ≤ ax_sz h + R.slots →
      (∀ (pc : Nat) (L : List (Option ax_V)), decode y.2.1 pc = .ok (.return_, 1) → ax_G p l e R s m args below meth c b D dA y.2.2.1 h.length (ax_sz h) Q pc L [] h') →
      ax_G p l e R s m args below meth c b D dA y.2.2.1 h.length (ax_sz h) Q 0 (av.map some ++ List.replicate (y.2.2.1 - av.length) none) [] h) : ax_Met y av h none h' :=
  ax_met0 hpl hl hs hn (fun p l e R s m args below meth c b D dA C hnm hr h1 h2 => body p l e R s m args below meth c b D dA _ C hnm h1 h2 (fun pc L hd => g_vret0 C hd (hr.trans hty) (by omega) (by omega) rfl))
theorem ax_meta {y : ax_M} {av : List ax_V} {h' : ax_H} {r : Option ax_V} {ty : FieldType} (hpl : plainName y.1.cls = true) (hty : y.2.2.2.1 = some ty) (hrt : (∃ n, ty = .object n) ∨ ∃ t, ty = .array t) (hl : h.length ≤ h'.length) (hs : ax_sz h ≤ ax_sz h') (hn : av.length ≤ y.2.2.1)
    (body : ∀ (p : Program) (l : Launch) (e : Env) (R : Room) (s : State) (m : MethodId) (args : Array Value) (below : List Frame) (meth : Method) (c : Code) (b : Nat) (D : va_G) (dA : Nat → ClassId) (Q : State → Prop), ax_C p R s m args meth c b D dA y.2.2.1 h.length y.2.1 y.1.cls y.2.2.2.2 →
      (∀ (pc : Nat) (L : List (Option ax_V)) (o : Option Nat), decode y.2.1 pc = .ok (.areturn, 1) → r = some (.inr o) → ax_G p l e R s m args below meth c b D dA y.2.2.1 h.length (ax_sz h) Q pc L [.inr o] h') →
      ax_G p l e R s m args below meth c b D dA y.2.2.1 h.length (ax_sz h) Q 0 (av.map some ++ List.replicate (y.2.2.1 - av.length) none) [] h) : ax_Met y av h r h' :=
  ax_met0 hpl hl hs hn (fun p l e R s m args below meth c b D dA C _ hr _ _ => body p l e R s m args below meth c b D dA _ C (fun pc L o hd hx => g_aret0 C hd (hr.trans hty) hrt (by omega) (by omega) hx))
/-! calls -/
theorem ax_catsum (b : Nat) : ∀ (rest : List ax_V), ((rest.map (ax_v b)).map fun v => v.category).sum = rest.length
  | [] => rfl
  | v :: rest => by
    have := ax_catsum b rest
    simp only [List.map_cons, List.sum_cons, ax_cat, List.length_cons, this]
    omega
/-- what a call of y needs of the tables, whatever the instruction -/
def ax_cw (y : ax_M) (n : Nat) : Prop := Cond.code y.1 y.2.1 y.2.2.1 y.2.2.2.1 ∈ ax_tb ∧ Cond.initialized y.1.cls ∈ ax_tb ∧ (y.1.cls ≠ "java/lang/invoke/MethodHandle" ∧ y.1.cls ≠ "java/lang/invoke/VarHandle") ∧ (parseMethodDescriptor y.1.desc).map (fun d => d.parameters.length) = some n ∧ y.2.2.1 ≤ 19
theorem ax_blind (b : Nat) (D : va_G) (dA : Nat → ClassId) (av : List ax_V) (h : ax_H) : FrameBlind (ax_Pc b D dA av h) := fun a U g mk q => ⟨q.1, q.2.1, q.2.2.1, va_K.moved (u := U) (U := U.calling g mk a) (Vm.Alike.refl U.vm) q.2.2.2⟩
theorem ax_pre (C : ax_C p R s m args meth c b D dA nL n0 cc own ht) {H : Heap} {ls : Array Slot} {locs : List Loc} {cells slots : Nat} (I : ax_I R s b D dA nL n0 z0 L h H ls locs cells slots) (av : List ax_V) : PreS s H (ax_Pc b D dA av h) (av.map (ax_v b)) := ⟨ax_blind b D dA av h, fun U hU hW => ⟨rfl, by rw [hU]; exact I.1, by rw [hU]; exact I.2.1, va_K.moved hW.alike C.2.2.2.2.2.1⟩⟩
theorem ax_wd (C : ax_C p R s m args meth c b D dA nL n0 cc own ht) {y : ax_M} {n : Nat} (cw : ax_cw y n) : ∀ w ∈ ax_ws y, ∀ (a' : Array Value) (U : State), s.WarmedH U.vm → w.before a' U = true := fun w hw => by
  rcases List.mem_cons.mp hw with rfl | hw
  · exact ax_words C.2.2.2.2.1 _ cw.1
  · exact ax_words C.2.2.2.2.1 _ hw
theorem ax_sg {y : ax_M} {n : Nat} (cw : ax_cw y n) : ∀ sig, parseMethodDescriptor y.1.desc = some sig → n = sig.parameters.length := fun sig hs => by
  have h2 := cw.2.2.2.1
  rw [hs] at h2
  exact (Option.some.inj h2).symm
theorem ax_rmf (C : ax_C p R s m args meth c b D dA nL n0 cc own ht) {y : ax_M} {n mc ms : Nat} (cw : ax_cw y n) (hh : y.2.2.2.2 + 1 ≤ ht) : (ax_rm y mc ms).frames + 1 ≤ R.frames ∧ 8 + (y.2.2.1 + 11) + (ax_rm y mc ms).locals ≤ R.locals := by
  have e1 := C.2.2.2.2.2.2.1
  have e2 := C.2.2.2.2.2.2.2.1
  have e3 := cw.2.2.2.2
  refine ⟨by rw [e1]; exact hh, ?_⟩
  show 8 + (y.2.2.1 + 11) + 38 * y.2.2.2.2 ≤ R.locals
  omega
theorem ax_cb (C : ax_C p R s m args meth c b D dA nL n0 cc own ht) {y : ax_M} {n mc ms idx : Nat} (cw : ax_cw y n) (hl : Cond.methodLink own idx y.1 ∈ ax_tb) (hh : y.2.2.2.2 + 1 ≤ ht) : CallB R s args own idx y.1 y.2.1 y.2.2.1 y.2.2.2.1 (ax_ws y) (ax_rm y mc ms) mc ms n :=
  ⟨rfl, rfl, (ax_rmf C cw hh).1, (ax_rmf C cw hh).2, ax_wd C cw, List.mem_cons_self, C.2.2.2.2.1 _ cw.1, C.2.2.2.2.1 _ cw.2.1, cw.2.2.1, ax_sg cw, C.2.2.2.2.1 _ hl⟩
theorem ax_cn (C : ax_C p R s m args meth c b D dA nL n0 cc own ht) {y : ax_M} {n mc ms idx : Nat} {host : String} (cw : ax_cw y n) (hl : Cond.methodLinkNest own idx y.1 host ∈ ax_tb) (hh : y.2.2.2.2 + 1 ≤ ht) : va_CN R s args own idx y.1 host y.2.1 y.2.2.1 y.2.2.2.1 (ax_ws y) (ax_rm y mc ms) mc ms n :=
  ⟨⟨rfl, rfl, (ax_rmf C cw hh).1, (ax_rmf C cw hh).2, ax_wd C cw, List.mem_cons_self⟩, C.2.2.2.2.1 _ cw.1, C.2.2.2.2.1 _ cw.2.1, cw.2.2.1, ax_sg cw, C.2.2.2.2.1 _ hl⟩
theorem ax_after (C : ax_C p R s m args meth c b D dA nL n0 cc own ht) {H : Heap} {ls : Array Slot} {locs : List Loc} {cells slots : Nat} (I : ax_I R s b D dA nL n0 z0 L h H ls locs cells slots) {stk : List Value} {rest : List ax_V} {r : Option ax_V} {h1 : ax_H} {a : Array Value} (hl : h.length ≤ h1.length) (hz : ax_sz h ≤ ax_sz h1)
    (run : va_Run p l e R s m args below meth c H locs cells slots (h1.length - h.length) (ax_sz h1 - ax_sz h) (F0 m pc ls stk) (rest.map (ax_v b)) (ax_Qc b D dA r h1 a) (fun q => b ≤ q)) (hc : h1.length ≤ n0 + R.cells) (hs : ax_sz h1 ≤ z0 + R.slots) (k : ax_G p l e R s m args below meth c b D dA nL n0 z0 Q (pc + 3) (L) (r.toList ++ rest) (h1)) : W p l e R s m args below meth c H locs cells slots Q (F0 m pc ls stk) := by
  intro T hT X
  obtain ⟨v, st₀, t, T', Lc, e0, X', hL, e1, e2, ⟨hv, hz1, hp1, hq1⟩, go⟩ := run T hT X
  obtain ⟨i1, i2, i3, i4, i5, i6, i7, i8, i9⟩ := I
  have I' : ax_I R s b D dA nL n0 z0 L h1 T'.heap ls (locs ++ Lc) (cells + (h1.length - h.length)) (slots + (ax_sz h1 - ax_sz h)) := by
    refine ⟨by rw [e1]; exact hz1, by rw [e1]; exact hp1, fun q hq => ?_, fun x hx => ?_, i5, by omega, by omega, hc, hs⟩
    · rw [e1, hq1 q hq, e0]
      exact i3 q hq
    · rcases List.mem_append.mp hx with q | q
      · exact i4 x q
      · exact hL x q
  obtain ⟨t2, a1, b1⟩ := k T'.heap ls _ _ _ I' T' rfl X'
  refine ⟨t2, go t2 ?_, b1⟩
  have hv2 : v = r.map (ax_v b) := by cases hv; rfl
  have hstk : v.toList ++ rest.map (ax_v b) = (r.toList ++ rest).map (ax_v b) := by subst hv2; cases r <;> rfl
  rw [hstk]
  exact a1
theorem g_callV (C : ax_C p R s m args meth c b D dA nL n0 cc own ht) {y : ax_M} {n a ci idx : Nat} {av rest : List ax_V} {fs : List ax_V} {r : Option ax_V} {h1 : ax_H} {q : vw_C} (M : ax_Met y (rv a :: av) h r h1) (hd : decode cc pc = .ok (.invokevirtual idx, 3)) (cw : ax_cw y n) (hl : Cond.methodLink own idx y.1 ∈ ax_tb) (hi : Cond.instanceMethod y.1 ∈ ax_tb) (hse : Cond.selects y.1.cls y.1 y.1 ∈ ax_tb) (hh : y.2.2.2.2 + 1 ≤ ht) (hn : av.length = n) (ha : h[a]? = some (.inr (ci, fs))) (hq : vwCl[ci]? = some q) (hq1 : q.1 = y.1.cls) (hst : st = av.reverse ++ rv a :: rest) (hr : rest.length ≤ 8) (hc : h1.length ≤ n0 + R.cells) (hs : ax_sz h1 ≤ z0 + R.slots) (k : ax_G p l e R s m args below meth c b D dA nL n0 z0 Q (pc + 3) (L) (r.toList ++ rest) (h1)) : ax_G p l e R s m args below meth c b D dA nL n0 z0 Q (pc) (L) (st) (h) := fun H ls locs cells slots I => by
  obtain ⟨m1, m2, m3⟩ := M
  obtain ⟨cell, g1, g2, g3⟩ := va_recv C.2.2.2.2.2.1 I.2.1 hq (ax_w_at ha)
  rw [hq1] at g3
  have hp := ax_pre C I (rv a :: av)
  have hR : cells + (h1.length - h.length) ≤ R.cells ∧ slots + (ax_sz h1 - ax_sz h) ≤ R.slots := by have := I.2.2.2.2.2.1; have := I.2.2.2.2.2.2.1; omega
  refine ax_after C I m1 m2 (va_runV (As := av.map (ax_v b)) (rest := rest.map (ax_v b)) ⟨C.1, C.2.1, C.2.2.1, C.2.2.2.1, C.2.2.2.2.1⟩ (m3 l b D dA) ⟨ax_cb C cw hl hh, C.2.2.2.2.1 _ hi, C.2.2.2.2.1 _ hse⟩ ⟨hp.1, ⟨cell, g1, g2, g3⟩, hp.2⟩ rfl (by rw [List.length_map]; exact hn) I.2.2.2.2.1.1 (by rw [hst]; simp [ax_v]) (lv_room (by rw [ax_catsum]; exact hr)) hd hR) hc hs k
theorem g_callS (C : ax_C p R s m args meth c b D dA nL n0 cc own ht) {y : ax_M} {n idx : Nat} {av rest : List ax_V} {r : Option ax_V} {h1 : ax_H} (M : ax_Met y av h r h1) (hd : decode cc pc = .ok (.invokestatic idx, 3)) (cw : ax_cw y n) (hl : Cond.methodLink own idx y.1 ∈ ax_tb) (hi : Cond.static y.1 ∈ ax_tb) (hh : y.2.2.2.2 + 1 ≤ ht) (hn : av.length = n) (hst : st = av.reverse ++ rest) (hr : rest.length ≤ 8) (hc : h1.length ≤ n0 + R.cells) (hs : ax_sz h1 ≤ z0 + R.slots) (k : ax_G p l e R s m args below meth c b D dA nL n0 z0 Q (pc + 3) (L) (r.toList ++ rest) (h1)) : ax_G p l e R s m args below meth c b D dA nL n0 z0 Q (pc) (L) (st) (h) := fun H ls locs cells slots I => by
  obtain ⟨m1, m2, m3⟩ := M
  have hR : cells + (h1.length - h.length) ≤ R.cells ∧ slots + (ax_sz h1 - ax_sz h) ≤ R.slots := by have := I.2.2.2.2.2.1; have := I.2.2.2.2.2.2.1; omega
  refine ax_after C I m1 m2 (va_runS (As := av.map (ax_v b)) (rest := rest.map (ax_v b)) ⟨C.1, C.2.1, C.2.2.1, C.2.2.2.1, C.2.2.2.2.1⟩ (m3 l b D dA) ⟨ax_cb C cw hl hh, C.2.2.2.2.1 _ hi⟩ (ax_pre C I av) rfl (by rw [List.length_map]; exact hn) I.2.2.2.2.1.1 (by rw [hst]; simp) (lv_room (by rw [ax_catsum]; exact hr)) hd hR) hc hs k
theorem g_callSN (C : ax_C p R s m args meth c b D dA nL n0 cc own ht) {y : ax_M} {n idx : Nat} {host : String} {av rest : List ax_V} {r : Option ax_V} {h1 : ax_H} (M : ax_Met y av h r h1) (hd : decode cc pc = .ok (.invokestatic idx, 3)) (cw : ax_cw y n) (hl : Cond.methodLinkNest own idx y.1 host ∈ ax_tb) (hi : Cond.static y.1 ∈ ax_tb) (hh : y.2.2.2.2 + 1 ≤ ht) (hn : av.length = n) (hst : st = av.reverse ++ rest) (hr : rest.length ≤ 8) (hc : h1.length ≤ n0 + R.cells) (hs : ax_sz h1 ≤ z0 + R.slots) (k : ax_G p l e R s m args below meth c b D dA nL n0 z0 Q (pc + 3) (L) (r.toList ++ rest) (h1)) : ax_G p l e R s m args below meth c b D dA nL n0 z0 Q (pc) (L) (st) (h) := fun H ls locs cells slots I => by
  obtain ⟨m1, m2, m3⟩ := M
  have hR : cells + (h1.length - h.length) ≤ R.cells ∧ slots + (ax_sz h1 - ax_sz h) ≤ R.slots := by have := I.2.2.2.2.2.1; have := I.2.2.2.2.2.2.1; omega
  refine ax_after C I m1 m2 (va_runSN (As := av.map (ax_v b)) (rest := rest.map (ax_v b)) ⟨C.1, C.2.1, C.2.2.1, C.2.2.2.1, C.2.2.2.2.1⟩ (m3 l b D dA) ⟨ax_cn C cw hl hh, C.2.2.2.2.1 _ hi, trivial⟩ (ax_pre C I av) rfl (by rw [List.length_map]; exact hn) I.2.2.2.2.1.1 (by rw [hst]; simp) (lv_room (by rw [ax_catsum]; exact hr)) hd hR) hc hs k
theorem g_callI (C : ax_C p R s m args meth c b D dA nL n0 cc own ht) {y : ax_M} {n a idx : Nat} {av rest : List ax_V} {h1 : ax_H} (M : ax_Met y (rv a :: av) h none h1) (hd : decode cc pc = .ok (.invokespecial idx, 3)) (cw : ax_cw y n) (hv : y.2.2.2.1 = none) (hnm : y.1.name = "<init>") (hl : Cond.methodLink own idx y.1 ∈ ax_tb) (hi : Cond.instanceMethod y.1 ∈ ax_tb) (hh : y.2.2.2.2 + 1 ≤ ht) (hn : av.length = n) (hst : st = av.reverse ++ rv a :: rest) (hr : rest.length ≤ 8) (hc : h1.length ≤ n0 + R.cells) (hs : ax_sz h1 ≤ z0 + R.slots) (k : ax_G p l e R s m args below meth c b D dA nL n0 z0 Q (pc + 3) (L) (rest) (h1)) : ax_G p l e R s m args below meth c b D dA nL n0 z0 Q (pc) (L) (st) (h) := fun H ls locs cells slots I => by
  obtain ⟨m1, m2, m3⟩ := M
  have hR : cells + (h1.length - h.length) ≤ R.cells ∧ slots + (ax_sz h1 - ax_sz h) ≤ R.slots := by have := I.2.2.2.2.2.1; have := I.2.2.2.2.2.2.1; omega
  have cb := ax_cb (mc := h1.length - h.length) (ms := ax_sz h1 - ax_sz h) C cw hl hh
  rw [hv] at cb
  exact ax_after (r := none) C I m1 m2 (va_runI (As := av.map (ax_v b)) (rest := rest.map (ax_v b)) ⟨C.1, C.2.1, C.2.2.1, C.2.2.2.1, C.2.2.2.2.1⟩ (m3 l b D dA) ⟨cb, hnm, C.2.2.2.2.1 _ hi⟩ (ax_pre C I (rv a :: av)) rfl (by rw [List.length_map]; exact hn) I.2.2.2.2.1.1 (by rw [hst]; simp [ax_v]) (lv_room (by rw [ax_catsum]; exact hr)) hd hR) hc hs k
theorem g_callIN (C : ax_C p R s m args meth c b D dA nL n0 cc own ht) {y : ax_M} {n a idx : Nat} {host : String} {av rest : List ax_V} {h1 : ax_H} (M : ax_Met y (rv a :: av) h none h1) (hd : decode cc pc = .ok (.invokespecial idx, 3)) (cw : ax_cw y n) (hv : y.2.2.2.1 = none) (hnm : y.1.name = "<init>") (hl : Cond.methodLinkNest own idx y.1 host ∈ ax_tb) (hi : Cond.instanceMethod y.1 ∈ ax_tb) (hh : y.2.2.2.2 + 1 ≤ ht) (hn : av.length = n) (hst : st = av.reverse ++ rv a :: rest) (hr : rest.length ≤ 8) (hc : h1.length ≤ n0 + R.cells) (hs : ax_sz h1 ≤ z0 + R.slots) (k : ax_G p l e R s m args below meth c b D dA nL n0 z0 Q (pc + 3) (L) (rest) (h1)) : ax_G p l e R s m args below meth c b D dA nL n0 z0 Q (pc) (L) (st) (h) := fun H ls locs cells slots I => by
  obtain ⟨m1, m2, m3⟩ := M
  have hR : cells + (h1.length - h.length) ≤ R.cells ∧ slots + (ax_sz h1 - ax_sz h) ≤ R.slots := by have := I.2.2.2.2.2.1; have := I.2.2.2.2.2.2.1; omega
  have cb := ax_cn (mc := h1.length - h.length) (ms := ax_sz h1 - ax_sz h) C cw hl hh
  rw [hv] at cb
  exact ax_after (r := none) C I m1 m2 (va_runIN (As := av.map (ax_v b)) (rest := rest.map (ax_v b)) ⟨C.1, C.2.1, C.2.2.1, C.2.2.2.1, C.2.2.2.2.1⟩ (m3 l b D dA) ⟨cb, hnm, C.2.2.2.2.1 _ hi⟩ (ax_pre C I (rv a :: av)) rfl (by rw [List.length_map]; exact hn) I.2.2.2.2.1.1 (by rw [hst]; simp [ax_v]) (lv_room (by rw [ax_catsum]; exact hr)) hd hR) hc hs k
theorem g_objInit (C : ax_C p R s m args meth c b D dA nL n0 cc own ht) {a idx : Nat} {rest : List ax_V} (hd : decode cc pc = .ok (.invokespecial idx, 3)) (hl : Cond.methodLink own idx objectInit ∈ ax_tb) (hi : Cond.instanceMethod objectInit ∈ ax_tb) (hcd : Cond.code objectInit ⟨#[0xb1]⟩ 1 none ∈ ax_tb) (hh : 1 ≤ ht) (hr : rest.length ≤ 8) (k : ax_G p l e R s m args below meth c b D dA nL n0 z0 Q (pc + 3) (L) (rest) (h)) : ax_G p l e R s m args below meth c b D dA nL n0 z0 Q (pc) (L) (rv a :: rest) (h) := fun H ls locs cells slots I => by
  have e1 := C.2.2.2.2.2.2.1
  have e2 := C.2.2.2.2.2.2.2.1
  refine W.objInit C.1 C.2.1 C.2.2.2.1 (C.2.2.2.2.1 _ hl) (C.2.2.2.2.1 _ hi) (C.2.2.2.2.1 _ hcd) rfl (by rw [C.2.2.1]; exact I.2.2.2.2.1.1) rfl hd (by omega) ?_ (k H ls locs cells slots I)
  have := lv_room (m := m) (pc := pc) (ls := ls) (rest := (rv a :: rest).map (ax_v b)) (st := rest.map (ax_v b)) (by rw [ax_catsum]; exact hr)
  have h8 : 8 + 12 ≤ R.locals := by omega
  exact Nat.le_trans (Nat.add_le_add_right this 12) h8
/-! Math -/
def ax_mw (own : String) (idx : Nat) (x : MethodName) (cd : ByteArray) (n : Nat) : Prop := Cond.methodLink own idx x ∈ ax_tb ∧ Cond.static x ∈ ax_tb ∧ Cond.initialized "java/lang/Math" ∈ ax_tb ∧ Cond.code x cd n (some .int) ∈ ax_tb
theorem g_mabs (C : ax_C p R s m args meth c b D dA nL n0 cc own ht) {idx : Nat} {x : Int} {rest : List ax_V} (hd : decode cc pc = .ok (.invokestatic idx, 3)) (w : ax_mw own idx Lib.Math.abs.name Lib.Math.abs.code 1) (hh : 1 ≤ ht) (hr : rest.length ≤ 8) (hx : -2147483647 ≤ x ∧ x < 2147483648) (k : ax_G p l e R s m args below meth c b D dA nL n0 z0 Q (pc + 3) (L) (iv (if 0 ≤ x then x else -x) :: rest) (h)) : ax_G p l e R s m args below meth c b D dA nL n0 z0 Q (pc) (L) (iv x :: rest) (h) := fun H ls locs cells slots I => by
  have e1 := C.2.2.2.2.2.2.1
  have e2 := C.2.2.2.2.2.2.2.1
  have i6 := I.2.2.2.2.2.1
  have i7 := I.2.2.2.2.2.2.1
  have i8 := I.2.2.2.2.2.2.2.1
  have i9 := I.2.2.2.2.2.2.2.2
  refine va_mabs C.1 C.2.1 (by rw [C.2.2.1, I.2.2.2.2.1.1]) C.2.2.2.1 (C.2.2.2.2.1 _ w.1) (C.2.2.2.2.1 _ w.2.1) (C.2.2.2.2.1 _ w.2.2.1) (C.2.2.2.2.1 _ w.2.2.2) (by omega) (by rw [ax_catsum]; omega) (by omega) (by omega) hd ?_
  have hz : (if 0 ≤ Int32.ofInt x then Int32.ofInt x else 0 - Int32.ofInt x) = Int32.ofInt (if 0 ≤ x then x else -x) := by
    have hle : (0 ≤ Int32.ofInt x) ↔ 0 ≤ x := by rw [ax_0]; exact ax_le ax_ir0 (by omega)
    by_cases h0 : 0 ≤ x
    · rw [if_pos (hle.mpr h0), if_pos h0]
    · rw [if_neg (fun q => h0 (hle.mp q)), if_neg h0, ax_0, ← Int32.ofInt_sub]
      congr 1
      omega
  exact ax_top hz (k H ls locs cells slots I)
theorem g_mmax (C : ax_C p R s m args meth c b D dA nL n0 cc own ht) {idx : Nat} {x y : Int} {rest : List ax_V} (hd : decode cc pc = .ok (.invokestatic idx, 3)) (w : ax_mw own idx Lib.Math.max.name Lib.Math.max.code 2) (hh : 1 ≤ ht) (hr : rest.length ≤ 8) (hx : -2147483648 ≤ x ∧ x < 2147483648) (hy : -2147483648 ≤ y ∧ y < 2147483648) (k : ax_G p l e R s m args below meth c b D dA nL n0 z0 Q (pc + 3) (L) (iv (if x < y then y else x) :: rest) (h)) : ax_G p l e R s m args below meth c b D dA nL n0 z0 Q (pc) (L) (iv y :: iv x :: rest) (h) := fun H ls locs cells slots I => by
  have e1 := C.2.2.2.2.2.2.1
  have e2 := C.2.2.2.2.2.2.2.1
  have i6 := I.2.2.2.2.2.1
  have i7 := I.2.2.2.2.2.2.1
  have i8 := I.2.2.2.2.2.2.2.1
  have i9 := I.2.2.2.2.2.2.2.2
  refine va_mmax C.1 C.2.1 (by rw [C.2.2.1, I.2.2.2.2.1.1]) C.2.2.2.1 (C.2.2.2.2.1 _ w.1) (C.2.2.2.2.1 _ w.2.1) (C.2.2.2.2.1 _ w.2.2.1) (C.2.2.2.2.1 _ w.2.2.2) (by omega) (by rw [ax_catsum]; omega) (by omega) (by omega) hd ?_
  have hz : (if Int32.ofInt x < Int32.ofInt y then Int32.ofInt y else Int32.ofInt x) = Int32.ofInt (if x < y then y else x) := by
    by_cases h0 : x < y
    · rw [if_pos ((ax_lt hx hy).mpr h0), if_pos h0]
    · rw [if_neg (fun q => h0 ((ax_lt hx hy).mp q)), if_neg h0]
  exact ax_top hz (k H ls locs cells slots I)
theorem g_mmin (C : ax_C p R s m args meth c b D dA nL n0 cc own ht) {idx : Nat} {x y : Int} {rest : List ax_V} (hd : decode cc pc = .ok (.invokestatic idx, 3)) (w : ax_mw own idx Lib.Math.min.name Lib.Math.min.code 2) (hh : 1 ≤ ht) (hr : rest.length ≤ 8) (hx : -2147483648 ≤ x ∧ x < 2147483648) (hy : -2147483648 ≤ y ∧ y < 2147483648) (k : ax_G p l e R s m args below meth c b D dA nL n0 z0 Q (pc + 3) (L) (iv (if y < x then y else x) :: rest) (h)) : ax_G p l e R s m args below meth c b D dA nL n0 z0 Q (pc) (L) (iv y :: iv x :: rest) (h) := fun H ls locs cells slots I => by
  have e1 := C.2.2.2.2.2.2.1
  have e2 := C.2.2.2.2.2.2.2.1
  have i6 := I.2.2.2.2.2.1
  have i7 := I.2.2.2.2.2.2.1
  have i8 := I.2.2.2.2.2.2.2.1
  have i9 := I.2.2.2.2.2.2.2.2
  refine va_mmin C.1 C.2.1 (by rw [C.2.2.1, I.2.2.2.2.1.1]) C.2.2.2.1 (C.2.2.2.2.1 _ w.1) (C.2.2.2.2.1 _ w.2.1) (C.2.2.2.2.1 _ w.2.2.1) (C.2.2.2.2.1 _ w.2.2.2) (by omega) (by rw [ax_catsum]; omega) (by omega) (by omega) hd ?_
  have hz : (if Int32.ofInt y < Int32.ofInt x then Int32.ofInt y else Int32.ofInt x) = Int32.ofInt (if y < x then y else x) := by
    by_cases h0 : y < x
    · rw [if_pos ((ax_lt hy hx).mpr h0), if_pos h0]
    · rw [if_neg (fun q => h0 ((ax_lt hy hx).mp q)), if_neg h0]
  exact ax_top hz (k H ls locs cells slots I)
end AXM
end
