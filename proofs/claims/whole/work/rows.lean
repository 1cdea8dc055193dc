section
-- ===== PART A: goes FIRST, ahead of the names: the tables' words, and 'selects' of the private methods out of them =====
/-- a private method of a class that the tables say can be made, by its rows of tables_1 -/
def lw_okq (q : MethodName × Nat) : Prop := (q.1.cls ≠ "java/lang/invoke/MethodHandle" ∧ q.1.cls ≠ "java/lang/invoke/VarHandle") ∧ Cond.instantiable q.1.cls q.2 ∈ tables_1 ∧ Cond.privateMethod q.1 ∈ tables_1 ∧ Cond.instanceMethod q.1 ∈ tables_1
theorem lw_p0 : lw_okq (⟨"MixedCells", "bodyAt", "(I)LMixedCells$Body;"⟩, 6) := ⟨⟨by decide +kernel, by decide +kernel⟩, List.mem_of_getElem? (i := 10) (by decide +kernel), List.mem_of_getElem? (i := 160) (by decide +kernel), List.mem_of_getElem? (i := 161) (by decide +kernel)⟩
theorem lw_p1 : lw_okq (⟨"MixedCells$Region", "include", "(II)V"⟩, 5) := ⟨⟨by decide +kernel, by decide +kernel⟩, List.mem_of_getElem? (i := 20) (by decide +kernel), List.mem_of_getElem? (i := 208) (by decide +kernel), List.mem_of_getElem? (i := 209) (by decide +kernel)⟩
theorem lw_p2 : lw_okq (⟨"MixedCells$Region", "comesBehind", "(III)Z"⟩, 5) := ⟨⟨by decide +kernel, by decide +kernel⟩, List.mem_of_getElem? (i := 20) (by decide +kernel), List.mem_of_getElem? (i := 212) (by decide +kernel), List.mem_of_getElem? (i := 213) (by decide +kernel)⟩
theorem lw_p3 : lw_okq (⟨"MixedCells$Region", "findCorners", "()LMixedCells$Region;"⟩, 5) := ⟨⟨by decide +kernel, by decide +kernel⟩, List.mem_of_getElem? (i := 20) (by decide +kernel), List.mem_of_getElem? (i := 216) (by decide +kernel), List.mem_of_getElem? (i := 217) (by decide +kernel)⟩
theorem lw_p4 : lw_okq (⟨"MixedCells$Region", "turnTo", "(II)V"⟩, 5) := ⟨⟨by decide +kernel, by decide +kernel⟩, List.mem_of_getElem? (i := 20) (by decide +kernel), List.mem_of_getElem? (i := 220) (by decide +kernel), List.mem_of_getElem? (i := 221) (by decide +kernel)⟩
theorem lw_p5 : lw_okq (⟨"MixedCells$Region", "turnsLeft", "(III)Z"⟩, 5) := ⟨⟨by decide +kernel, by decide +kernel⟩, List.mem_of_getElem? (i := 20) (by decide +kernel), List.mem_of_getElem? (i := 224) (by decide +kernel), List.mem_of_getElem? (i := 225) (by decide +kernel)⟩
theorem lw_p6 : lw_okq (⟨"MixedCells$Region", "next", "(I)I"⟩, 5) := ⟨⟨by decide +kernel, by decide +kernel⟩, List.mem_of_getElem? (i := 20) (by decide +kernel), List.mem_of_getElem? (i := 232) (by decide +kernel), List.mem_of_getElem? (i := 233) (by decide +kernel)⟩
theorem lw_p7 : lw_okq (⟨"MixedCells$Region", "stepsRound", "()I"⟩, 5) := ⟨⟨by decide +kernel, by decide +kernel⟩, List.mem_of_getElem? (i := 20) (by decide +kernel), List.mem_of_getElem? (i := 253) (by decide +kernel), List.mem_of_getElem? (i := 254) (by decide +kernel)⟩
theorem lw_p8 : lw_okq (⟨"MixedCells", "mixedOf", "(LMixedCells$Body;ILMixedCells$Body;I)I"⟩, 6) := ⟨⟨by decide +kernel, by decide +kernel⟩, List.mem_of_getElem? (i := 10) (by decide +kernel), List.mem_of_getElem? (i := 286) (by decide +kernel), List.mem_of_getElem? (i := 287) (by decide +kernel)⟩
theorem lw_p9 : lw_okq (⟨"MixedCells$Cutting", "addPairs", "(LMixedCells$Body;I)V"⟩, 7) := ⟨⟨by decide +kernel, by decide +kernel⟩, List.mem_of_getElem? (i := 45) (by decide +kernel), List.mem_of_getElem? (i := 309) (by decide +kernel), List.mem_of_getElem? (i := 310) (by decide +kernel)⟩
theorem lw_p10 : lw_okq (⟨"MixedCells$Cutting", "firstEnd", "(I)I"⟩, 7) := ⟨⟨by decide +kernel, by decide +kernel⟩, List.mem_of_getElem? (i := 45) (by decide +kernel), List.mem_of_getElem? (i := 313) (by decide +kernel), List.mem_of_getElem? (i := 314) (by decide +kernel)⟩
theorem lw_p11 : lw_okq (⟨"MixedCells$Cutting", "tryPairs", "(LMixedCells$Body;LMixedCells$Body;II)V"⟩, 7) := ⟨⟨by decide +kernel, by decide +kernel⟩, List.mem_of_getElem? (i := 45) (by decide +kernel), List.mem_of_getElem? (i := 321) (by decide +kernel), List.mem_of_getElem? (i := 322) (by decide +kernel)⟩
theorem lw_p12 : lw_okq (⟨"MixedCells$Cutting", "sortIn", "(LMixedCells$Cell;)V"⟩, 7) := ⟨⟨by decide +kernel, by decide +kernel⟩, List.mem_of_getElem? (i := 45) (by decide +kernel), List.mem_of_getElem? (i := 338) (by decide +kernel), List.mem_of_getElem? (i := 339) (by decide +kernel)⟩
theorem lw_p13 : lw_okq (⟨"MixedCells", "shareOf", "(LMixedCells$Cell;LMixedCells$Body;LMixedCells$Body;I)I"⟩, 6) := ⟨⟨by decide +kernel, by decide +kernel⟩, List.mem_of_getElem? (i := 10) (by decide +kernel), List.mem_of_getElem? (i := 353) (by decide +kernel), List.mem_of_getElem? (i := 354) (by decide +kernel)⟩
theorem lw_p14 : lw_okq (⟨"MixedCells", "kindOf", "(LMixedCells$Cell;LMixedCells$Body;LMixedCells$Body;)I"⟩, 6) := ⟨⟨by decide +kernel, by decide +kernel⟩, List.mem_of_getElem? (i := 10) (by decide +kernel), List.mem_of_getElem? (i := 357) (by decide +kernel), List.mem_of_getElem? (i := 358) (by decide +kernel)⟩
theorem lw_p15 : lw_okq (⟨"MixedCells", "fillPowers", "(I)V"⟩, 6) := ⟨⟨by decide +kernel, by decide +kernel⟩, List.mem_of_getElem? (i := 10) (by decide +kernel), List.mem_of_getElem? (i := 391) (by decide +kernel), List.mem_of_getElem? (i := 392) (by decide +kernel)⟩
def lw_privs_1 : List (MethodName × Nat) := [(⟨"MixedCells", "bodyAt", "(I)LMixedCells$Body;"⟩, 6), (⟨"MixedCells$Region", "include", "(II)V"⟩, 5), (⟨"MixedCells$Region", "comesBehind", "(III)Z"⟩, 5), (⟨"MixedCells$Region", "findCorners", "()LMixedCells$Region;"⟩, 5), (⟨"MixedCells$Region", "turnTo", "(II)V"⟩, 5), (⟨"MixedCells$Region", "turnsLeft", "(III)Z"⟩, 5), (⟨"MixedCells$Region", "next", "(I)I"⟩, 5), (⟨"MixedCells$Region", "stepsRound", "()I"⟩, 5), (⟨"MixedCells", "mixedOf", "(LMixedCells$Body;ILMixedCells$Body;I)I"⟩, 6), (⟨"MixedCells$Cutting", "addPairs", "(LMixedCells$Body;I)V"⟩, 7), (⟨"MixedCells$Cutting", "firstEnd", "(I)I"⟩, 7), (⟨"MixedCells$Cutting", "tryPairs", "(LMixedCells$Body;LMixedCells$Body;II)V"⟩, 7), (⟨"MixedCells$Cutting", "sortIn", "(LMixedCells$Cell;)V"⟩, 7), (⟨"MixedCells", "shareOf", "(LMixedCells$Cell;LMixedCells$Body;LMixedCells$Body;I)I"⟩, 6), (⟨"MixedCells", "kindOf", "(LMixedCells$Cell;LMixedCells$Body;LMixedCells$Body;)I"⟩, 6), (⟨"MixedCells", "fillPowers", "(I)V"⟩, 6)]
theorem lw_r1 : ∀ q ∈ lw_privs_1, lw_okq q := List.forall_mem_cons.mpr ⟨lw_p0, List.forall_mem_cons.mpr ⟨lw_p1, List.forall_mem_cons.mpr ⟨lw_p2, List.forall_mem_cons.mpr ⟨lw_p3, List.forall_mem_cons.mpr ⟨lw_p4, List.forall_mem_cons.mpr ⟨lw_p5, List.forall_mem_cons.mpr ⟨lw_p6, List.forall_mem_cons.mpr ⟨lw_p7, List.forall_mem_cons.mpr ⟨lw_p8, List.forall_mem_cons.mpr ⟨lw_p9, List.forall_mem_cons.mpr ⟨lw_p10, List.forall_mem_cons.mpr ⟨lw_p11, List.forall_mem_cons.mpr ⟨lw_p12, List.forall_mem_cons.mpr ⟨lw_p13, List.forall_mem_cons.mpr ⟨lw_p14, List.forall_mem_cons.mpr ⟨lw_p15, fun _ h => absurd h List.not_mem_nil⟩⟩⟩⟩⟩⟩⟩⟩⟩⟩⟩⟩⟩⟩⟩⟩
theorem lw_p16 : lw_okq (⟨"MixedCells", "isRoot", "(LMixedCells$Body;III)Z"⟩, 6) := ⟨⟨by decide +kernel, by decide +kernel⟩, List.mem_of_getElem? (i := 10) (by decide +kernel), List.mem_of_getElem? (i := 395) (by decide +kernel), List.mem_of_getElem? (i := 396) (by decide +kernel)⟩
theorem lw_p17 : lw_okq (⟨"MixedCells", "pointsOfAll", "()I"⟩, 6) := ⟨⟨by decide +kernel, by decide +kernel⟩, List.mem_of_getElem? (i := 10) (by decide +kernel), List.mem_of_getElem? (i := 415) (by decide +kernel), List.mem_of_getElem? (i := 416) (by decide +kernel)⟩
theorem lw_p18 : lw_okq (⟨"MixedCells", "filledBodies", "()I"⟩, 6) := ⟨⟨by decide +kernel, by decide +kernel⟩, List.mem_of_getElem? (i := 10) (by decide +kernel), List.mem_of_getElem? (i := 419) (by decide +kernel), List.mem_of_getElem? (i := 420) (by decide +kernel)⟩
theorem lw_p19 : lw_okq (⟨"MixedCellsModel", "many", "(I)I"⟩, 14) := ⟨⟨by decide +kernel, by decide +kernel⟩, List.mem_of_getElem? (i := 423) (by decide +kernel), List.mem_of_getElem? (i := 483) (by decide +kernel), List.mem_of_getElem? (i := 484) (by decide +kernel)⟩
theorem lw_p20 : lw_okq (⟨"MixedCellsModel", "of", "(III)I"⟩, 14) := ⟨⟨by decide +kernel, by decide +kernel⟩, List.mem_of_getElem? (i := 423) (by decide +kernel), List.mem_of_getElem? (i := 487) (by decide +kernel), List.mem_of_getElem? (i := 488) (by decide +kernel)⟩
theorem lw_p21 : lw_okq (⟨"MixedCellsModel", "layBody", "(II)V"⟩, 14) := ⟨⟨by decide +kernel, by decide +kernel⟩, List.mem_of_getElem? (i := 423) (by decide +kernel), List.mem_of_getElem? (i := 510) (by decide +kernel), List.mem_of_getElem? (i := 511) (by decide +kernel)⟩
theorem lw_p22 : lw_okq (⟨"MixedCellsModel", "addPoint", "(II)V"⟩, 14) := ⟨⟨by decide +kernel, by decide +kernel⟩, List.mem_of_getElem? (i := 423) (by decide +kernel), List.mem_of_getElem? (i := 517) (by decide +kernel), List.mem_of_getElem? (i := 518) (by decide +kernel)⟩
theorem lw_p23 : lw_okq (⟨"MixedCellsModel", "layCorners", "()V"⟩, 14) := ⟨⟨by decide +kernel, by decide +kernel⟩, List.mem_of_getElem? (i := 423) (by decide +kernel), List.mem_of_getElem? (i := 521) (by decide +kernel), List.mem_of_getElem? (i := 522) (by decide +kernel)⟩
theorem lw_p24 : lw_okq (⟨"MixedCellsModel", "nextCorner", "(I)I"⟩, 14) := ⟨⟨by decide +kernel, by decide +kernel⟩, List.mem_of_getElem? (i := 423) (by decide +kernel), List.mem_of_getElem? (i := 525) (by decide +kernel), List.mem_of_getElem? (i := 526) (by decide +kernel)⟩
theorem lw_p25 : lw_okq (⟨"MixedCellsModel", "turn", "(III)I"⟩, 14) := ⟨⟨by decide +kernel, by decide +kernel⟩, List.mem_of_getElem? (i := 423) (by decide +kernel), List.mem_of_getElem? (i := 529) (by decide +kernel), List.mem_of_getElem? (i := 530) (by decide +kernel)⟩
theorem lw_p26 : lw_okq (⟨"MixedCellsModel", "far", "(II)I"⟩, 14) := ⟨⟨by decide +kernel, by decide +kernel⟩, List.mem_of_getElem? (i := 423) (by decide +kernel), List.mem_of_getElem? (i := 533) (by decide +kernel), List.mem_of_getElem? (i := 534) (by decide +kernel)⟩
theorem lw_p27 : lw_okq (⟨"MixedCellsModel", "area", "()I"⟩, 14) := ⟨⟨by decide +kernel, by decide +kernel⟩, List.mem_of_getElem? (i := 423) (by decide +kernel), List.mem_of_getElem? (i := 537) (by decide +kernel), List.mem_of_getElem? (i := 538) (by decide +kernel)⟩
theorem lw_p28 : lw_okq (⟨"MixedCellsModel", "lattice", "(I)I"⟩, 14) := ⟨⟨by decide +kernel, by decide +kernel⟩, List.mem_of_getElem? (i := 423) (by decide +kernel), List.mem_of_getElem? (i := 541) (by decide +kernel), List.mem_of_getElem? (i := 542) (by decide +kernel)⟩
theorem lw_p29 : lw_okq (⟨"MixedCellsModel", "lies", "(II)I"⟩, 14) := ⟨⟨by decide +kernel, by decide +kernel⟩, List.mem_of_getElem? (i := 423) (by decide +kernel), List.mem_of_getElem? (i := 545) (by decide +kernel), List.mem_of_getElem? (i := 546) (by decide +kernel)⟩
theorem lw_p30 : lw_okq (⟨"MixedCellsModel", "span", "()I"⟩, 14) := ⟨⟨by decide +kernel, by decide +kernel⟩, List.mem_of_getElem? (i := 423) (by decide +kernel), List.mem_of_getElem? (i := 549) (by decide +kernel), List.mem_of_getElem? (i := 550) (by decide +kernel)⟩
theorem lw_p31 : lw_okq (⟨"MixedCellsModel", "areaOfSums", "(IIII)I"⟩, 14) := ⟨⟨by decide +kernel, by decide +kernel⟩, List.mem_of_getElem? (i := 423) (by decide +kernel), List.mem_of_getElem? (i := 561) (by decide +kernel), List.mem_of_getElem? (i := 562) (by decide +kernel)⟩
def lw_privs_2 : List (MethodName × Nat) := [(⟨"MixedCells", "isRoot", "(LMixedCells$Body;III)Z"⟩, 6), (⟨"MixedCells", "pointsOfAll", "()I"⟩, 6), (⟨"MixedCells", "filledBodies", "()I"⟩, 6), (⟨"MixedCellsModel", "many", "(I)I"⟩, 14), (⟨"MixedCellsModel", "of", "(III)I"⟩, 14), (⟨"MixedCellsModel", "layBody", "(II)V"⟩, 14), (⟨"MixedCellsModel", "addPoint", "(II)V"⟩, 14), (⟨"MixedCellsModel", "layCorners", "()V"⟩, 14), (⟨"MixedCellsModel", "nextCorner", "(I)I"⟩, 14), (⟨"MixedCellsModel", "turn", "(III)I"⟩, 14), (⟨"MixedCellsModel", "far", "(II)I"⟩, 14), (⟨"MixedCellsModel", "area", "()I"⟩, 14), (⟨"MixedCellsModel", "lattice", "(I)I"⟩, 14), (⟨"MixedCellsModel", "lies", "(II)I"⟩, 14), (⟨"MixedCellsModel", "span", "()I"⟩, 14), (⟨"MixedCellsModel", "areaOfSums", "(IIII)I"⟩, 14)]
theorem lw_r2 : ∀ q ∈ lw_privs_2, lw_okq q := List.forall_mem_cons.mpr ⟨lw_p16, List.forall_mem_cons.mpr ⟨lw_p17, List.forall_mem_cons.mpr ⟨lw_p18, List.forall_mem_cons.mpr ⟨lw_p19, List.forall_mem_cons.mpr ⟨lw_p20, List.forall_mem_cons.mpr ⟨lw_p21, List.forall_mem_cons.mpr ⟨lw_p22, List.forall_mem_cons.mpr ⟨lw_p23, List.forall_mem_cons.mpr ⟨lw_p24, List.forall_mem_cons.mpr ⟨lw_p25, List.forall_mem_cons.mpr ⟨lw_p26, List.forall_mem_cons.mpr ⟨lw_p27, List.forall_mem_cons.mpr ⟨lw_p28, List.forall_mem_cons.mpr ⟨lw_p29, List.forall_mem_cons.mpr ⟨lw_p30, List.forall_mem_cons.mpr ⟨lw_p31, fun _ h => absurd h List.not_mem_nil⟩⟩⟩⟩⟩⟩⟩⟩⟩⟩⟩⟩⟩⟩⟩⟩
theorem lw_p32 : lw_okq (⟨"MixedCellsModel", "laySums", "(IIII)V"⟩, 14) := ⟨⟨by decide +kernel, by decide +kernel⟩, List.mem_of_getElem? (i := 423) (by decide +kernel), List.mem_of_getElem? (i := 565) (by decide +kernel), List.mem_of_getElem? (i := 566) (by decide +kernel)⟩
theorem lw_p33 : lw_okq (⟨"MixedCellsModel", "areaOf", "(II)I"⟩, 14) := ⟨⟨by decide +kernel, by decide +kernel⟩, List.mem_of_getElem? (i := 423) (by decide +kernel), List.mem_of_getElem? (i := 569) (by decide +kernel), List.mem_of_getElem? (i := 570) (by decide +kernel)⟩
theorem lw_p34 : lw_okq (⟨"MixedCellsModel", "layCells", "(II)V"⟩, 14) := ⟨⟨by decide +kernel, by decide +kernel⟩, List.mem_of_getElem? (i := 423) (by decide +kernel), List.mem_of_getElem? (i := 584) (by decide +kernel), List.mem_of_getElem? (i := 585) (by decide +kernel)⟩
theorem lw_p35 : lw_okq (⟨"MixedCellsModel", "tryThree", "(IIIII)V"⟩, 14) := ⟨⟨by decide +kernel, by decide +kernel⟩, List.mem_of_getElem? (i := 423) (by decide +kernel), List.mem_of_getElem? (i := 588) (by decide +kernel), List.mem_of_getElem? (i := 589) (by decide +kernel)⟩
theorem lw_p36 : lw_okq (⟨"MixedCellsModel", "sumOf", "(IIII)I"⟩, 14) := ⟨⟨by decide +kernel, by decide +kernel⟩, List.mem_of_getElem? (i := 423) (by decide +kernel), List.mem_of_getElem? (i := 592) (by decide +kernel), List.mem_of_getElem? (i := 593) (by decide +kernel)⟩
theorem lw_p37 : lw_okq (⟨"MixedCellsModel", "lowBy", "(IIII)I"⟩, 14) := ⟨⟨by decide +kernel, by decide +kernel⟩, List.mem_of_getElem? (i := 423) (by decide +kernel), List.mem_of_getElem? (i := 596) (by decide +kernel), List.mem_of_getElem? (i := 597) (by decide +kernel)⟩
theorem lw_p38 : lw_okq (⟨"MixedCellsModel", "isLow", "(III)Z"⟩, 14) := ⟨⟨by decide +kernel, by decide +kernel⟩, List.mem_of_getElem? (i := 423) (by decide +kernel), List.mem_of_getElem? (i := 600) (by decide +kernel), List.mem_of_getElem? (i := 601) (by decide +kernel)⟩
theorem lw_p39 : lw_okq (⟨"MixedCellsModel", "addCell", "(III)V"⟩, 14) := ⟨⟨by decide +kernel, by decide +kernel⟩, List.mem_of_getElem? (i := 423) (by decide +kernel), List.mem_of_getElem? (i := 604) (by decide +kernel), List.mem_of_getElem? (i := 605) (by decide +kernel)⟩
theorem lw_p40 : lw_okq (⟨"MixedCellsModel", "compare", "(IIII)I"⟩, 14) := ⟨⟨by decide +kernel, by decide +kernel⟩, List.mem_of_getElem? (i := 423) (by decide +kernel), List.mem_of_getElem? (i := 608) (by decide +kernel), List.mem_of_getElem? (i := 609) (by decide +kernel)⟩
theorem lw_p41 : lw_okq (⟨"MixedCellsModel", "cellArea", "(III)I"⟩, 14) := ⟨⟨by decide +kernel, by decide +kernel⟩, List.mem_of_getElem? (i := 423) (by decide +kernel), List.mem_of_getElem? (i := 612) (by decide +kernel), List.mem_of_getElem? (i := 613) (by decide +kernel)⟩
theorem lw_p42 : lw_okq (⟨"MixedCellsModel", "lowOf", "(II)I"⟩, 14) := ⟨⟨by decide +kernel, by decide +kernel⟩, List.mem_of_getElem? (i := 423) (by decide +kernel), List.mem_of_getElem? (i := 616) (by decide +kernel), List.mem_of_getElem? (i := 617) (by decide +kernel)⟩
theorem lw_p43 : lw_okq (⟨"MixedCellsModel", "cellMixed", "(III)I"⟩, 14) := ⟨⟨by decide +kernel, by decide +kernel⟩, List.mem_of_getElem? (i := 423) (by decide +kernel), List.mem_of_getElem? (i := 620) (by decide +kernel), List.mem_of_getElem? (i := 621) (by decide +kernel)⟩
theorem lw_p44 : lw_okq (⟨"MixedCellsModel", "kindOf", "(III)I"⟩, 14) := ⟨⟨by decide +kernel, by decide +kernel⟩, List.mem_of_getElem? (i := 423) (by decide +kernel), List.mem_of_getElem? (i := 624) (by decide +kernel), List.mem_of_getElem? (i := 625) (by decide +kernel)⟩
theorem lw_p45 : lw_okq (⟨"MixedCellsModel", "spanOf", "(II)I"⟩, 14) := ⟨⟨by decide +kernel, by decide +kernel⟩, List.mem_of_getElem? (i := 423) (by decide +kernel), List.mem_of_getElem? (i := 628) (by decide +kernel), List.mem_of_getElem? (i := 629) (by decide +kernel)⟩
theorem lw_p46 : lw_okq (⟨"MixedCellsModel", "holds", "(IIII)Z"⟩, 14) := ⟨⟨by decide +kernel, by decide +kernel⟩, List.mem_of_getElem? (i := 423) (by decide +kernel), List.mem_of_getElem? (i := 656) (by decide +kernel), List.mem_of_getElem? (i := 657) (by decide +kernel)⟩
def lw_privs_3 : List (MethodName × Nat) := [(⟨"MixedCellsModel", "laySums", "(IIII)V"⟩, 14), (⟨"MixedCellsModel", "areaOf", "(II)I"⟩, 14), (⟨"MixedCellsModel", "layCells", "(II)V"⟩, 14), (⟨"MixedCellsModel", "tryThree", "(IIIII)V"⟩, 14), (⟨"MixedCellsModel", "sumOf", "(IIII)I"⟩, 14), (⟨"MixedCellsModel", "lowBy", "(IIII)I"⟩, 14), (⟨"MixedCellsModel", "isLow", "(III)Z"⟩, 14), (⟨"MixedCellsModel", "addCell", "(III)V"⟩, 14), (⟨"MixedCellsModel", "compare", "(IIII)I"⟩, 14), (⟨"MixedCellsModel", "cellArea", "(III)I"⟩, 14), (⟨"MixedCellsModel", "lowOf", "(II)I"⟩, 14), (⟨"MixedCellsModel", "cellMixed", "(III)I"⟩, 14), (⟨"MixedCellsModel", "kindOf", "(III)I"⟩, 14), (⟨"MixedCellsModel", "spanOf", "(II)I"⟩, 14), (⟨"MixedCellsModel", "holds", "(IIII)Z"⟩, 14)]
theorem lw_r3 : ∀ q ∈ lw_privs_3, lw_okq q := List.forall_mem_cons.mpr ⟨lw_p32, List.forall_mem_cons.mpr ⟨lw_p33, List.forall_mem_cons.mpr ⟨lw_p34, List.forall_mem_cons.mpr ⟨lw_p35, List.forall_mem_cons.mpr ⟨lw_p36, List.forall_mem_cons.mpr ⟨lw_p37, List.forall_mem_cons.mpr ⟨lw_p38, List.forall_mem_cons.mpr ⟨lw_p39, List.forall_mem_cons.mpr ⟨lw_p40, List.forall_mem_cons.mpr ⟨lw_p41, List.forall_mem_cons.mpr ⟨lw_p42, List.forall_mem_cons.mpr ⟨lw_p43, List.forall_mem_cons.mpr ⟨lw_p44, List.forall_mem_cons.mpr ⟨lw_p45, List.forall_mem_cons.mpr ⟨lw_p46, fun _ h => absurd h List.not_mem_nil⟩⟩⟩⟩⟩⟩⟩⟩⟩⟩⟩⟩⟩⟩⟩
def lw_privs : List (MethodName × Nat) := lw_privs_1 ++ (lw_privs_2 ++ (lw_privs_3))
def lw_tbl : List Cond := k2_sels lw_privs ++ tables_1
theorem lw_privs_ok : ∀ q ∈ lw_privs, lw_okq q := by
  show ∀ q ∈ lw_privs_1 ++ (lw_privs_2 ++ (lw_privs_3)), lw_okq q
  exact List.forall_mem_append.mpr ⟨lw_r1, List.forall_mem_append.mpr ⟨lw_r2, lw_r3⟩⟩
end
section
def RX0 : String := "MixedCells$Body"
def TX0 : u_T := fun k => match k with
  | 0 => ("MixedCells$Body", "x", "[I", true)
  | 1 => ("MixedCells$Body", "y", "[I", true)
  | 2 => ("MixedCells$Body", "weight", "[I", true)
  | _ => ("MixedCells$Body", "size", "I", false)
def tyX0 : Nat → FieldType := fun k => match k with
  | 0 => .array .int
  | 1 => .array .int
  | 2 => .array .int
  | _ => .int
abbrev wsX00 : List Cond := u_ws RX0 TX0 4
theorem nmX0 : ∀ a, a < 4 → ∀ b, b < 4 → a ≠ b → (TX0 a).2.1 ≠ (TX0 b).2.1 := by decide +kernel
theorem tyX0_ok : ∀ k, k < 4 → parseFieldDescriptor (TX0 k).2.2.1 = some (tyX0 k) := by decide +kernel
abbrev cX0_init : ByteArray := prog_2_method_1_code
def yX0_init : MethodName := ⟨RX0, "<init>", "()V"⟩
abbrev cX0_has : ByteArray := prog_2_method_2_code
def yX0_has : MethodName := ⟨RX0, "has", "(I)Z"⟩
abbrev cX0_all : ByteArray := prog_2_method_3_code
def yX0_all : MethodName := ⟨RX0, "all", "()I"⟩
abbrev cX0_find : ByteArray := prog_2_method_4_code
def yX0_find : MethodName := ⟨RX0, "find", "(II)I"⟩
abbrev cX0_append : ByteArray := prog_2_method_5_code
def yX0_append : MethodName := ⟨RX0, "append", "(III)I"⟩
abbrev cX0_remove : ByteArray := prog_2_method_6_code
def yX0_remove : MethodName := ⟨RX0, "remove", "(I)V"⟩
abbrev cX0_copyFrom : ByteArray := prog_2_method_7_code
def yX0_copyFrom : MethodName := ⟨RX0, "copyFrom", "(LMixedCells$Body;)V"⟩
abbrev cX0_lowest : ByteArray := prog_2_method_8_code
def yX0_lowest : MethodName := ⟨RX0, "lowest", "(III)I"⟩
def RX1 : String := "MixedCells$Cell"
def TX1 : u_T := fun k => match k with
  | 0 => ("MixedCells$Cell", "uUpper", "I", false)
  | 1 => ("MixedCells$Cell", "uLower", "I", false)
  | 2 => ("MixedCells$Cell", "vUpper", "I", false)
  | 3 => ("MixedCells$Cell", "vLower", "I", false)
  | 4 => ("MixedCells$Cell", "firstLow", "I", false)
  | _ => ("MixedCells$Cell", "secondLow", "I", false)
def tyX1 : Nat → FieldType := fun k => match k with
  | 0 => .int
  | 1 => .int
  | 2 => .int
  | 3 => .int
  | 4 => .int
  | _ => .int
abbrev wsX10 : List Cond := u_ws RX1 TX1 6
theorem nmX1 : ∀ a, a < 6 → ∀ b, b < 6 → a ≠ b → (TX1 a).2.1 ≠ (TX1 b).2.1 := by decide +kernel
theorem tyX1_ok : ∀ k, k < 6 → parseFieldDescriptor (TX1 k).2.2.1 = some (tyX1 k) := by decide +kernel
abbrev cX1_init : ByteArray := prog_3_method_1_code
def yX1_init : MethodName := ⟨RX1, "<init>", "()V"⟩
abbrev cX1_setSlope : ByteArray := prog_3_method_2_code
def yX1_setSlope : MethodName := ⟨RX1, "setSlope", "(III)V"⟩
abbrev cX1_compareSlope : ByteArray := prog_3_method_3_code
def yX1_compareSlope : MethodName := ⟨RX1, "compareSlope", "(LMixedCells$Cell;)I"⟩
def RX2 : String := "MixedCells$Cutting"
def TX2 : u_T := fun k => match k with
  | 0 => ("MixedCells$Cutting", "found", "[LMixedCells$Cell;", true)
  | 1 => ("MixedCells$Cutting", "size", "I", false)
  | 2 => ("MixedCells$Cutting", "dx", "[I", true)
  | 3 => ("MixedCells$Cutting", "dy", "[I", true)
  | 4 => ("MixedCells$Cutting", "dw", "[I", true)
  | 5 => ("MixedCells$Cutting", "ends", "[I", true)
  | _ => ("MixedCells$Cutting", "pairs", "I", false)
def tyX2 : Nat → FieldType := fun k => match k with
  | 0 => .array (.object "MixedCells$Cell")
  | 1 => .int
  | 2 => .array .int
  | 3 => .array .int
  | 4 => .array .int
  | 5 => .array .int
  | _ => .int
abbrev wsX20 : List Cond := u_ws RX2 TX2 7
theorem nmX2 : ∀ a, a < 7 → ∀ b, b < 7 → a ≠ b → (TX2 a).2.1 ≠ (TX2 b).2.1 := by decide +kernel
theorem tyX2_ok : ∀ k, k < 7 → parseFieldDescriptor (TX2 k).2.2.1 = some (tyX2 k) := by decide +kernel
abbrev cX2_init : ByteArray := prog_4_method_1_code
def yX2_init : MethodName := ⟨RX2, "<init>", "()V"⟩
abbrev cX2_get : ByteArray := prog_4_method_2_code
def yX2_get : MethodName := ⟨RX2, "get", "(I)LMixedCells$Cell;"⟩
abbrev cX2_cut : ByteArray := prog_4_method_3_code
def yX2_cut : MethodName := ⟨RX2, "cut", "(LMixedCells$Body;LMixedCells$Body;)V"⟩
abbrev cX2_addPairs : ByteArray := prog_4_method_4_code
def yX2_addPairs : MethodName := ⟨RX2, "addPairs", "(LMixedCells$Body;I)V"⟩
abbrev cX2_firstEnd : ByteArray := prog_4_method_5_code
def yX2_firstEnd : MethodName := ⟨RX2, "firstEnd", "(I)I"⟩
abbrev cX2_tryPairs : ByteArray := prog_4_method_6_code
def yX2_tryPairs : MethodName := ⟨RX2, "tryPairs", "(LMixedCells$Body;LMixedCells$Body;II)V"⟩
abbrev cX2_sortIn : ByteArray := prog_4_method_7_code
def yX2_sortIn : MethodName := ⟨RX2, "sortIn", "(LMixedCells$Cell;)V"⟩
def RX3 : String := "MixedCells$Region"
def TX3 : u_T := fun k => match k with
  | 0 => ("MixedCells$Region", "xs", "[I", true)
  | 1 => ("MixedCells$Region", "ys", "[I", true)
  | 2 => ("MixedCells$Region", "size", "I", false)
  | 3 => ("MixedCells$Region", "round", "[I", true)
  | _ => ("MixedCells$Region", "corners", "I", false)
def tyX3 : Nat → FieldType := fun k => match k with
  | 0 => .array .int
  | 1 => .array .int
  | 2 => .int
  | 3 => .array .int
  | _ => .int
abbrev wsX30 : List Cond := u_ws RX3 TX3 5
theorem nmX3 : ∀ a, a < 5 → ∀ b, b < 5 → a ≠ b → (TX3 a).2.1 ≠ (TX3 b).2.1 := by decide +kernel
theorem tyX3_ok : ∀ k, k < 5 → parseFieldDescriptor (TX3 k).2.2.1 = some (tyX3 k) := by decide +kernel
abbrev cX3_init : ByteArray := prog_5_method_1_code
def yX3_init : MethodName := ⟨RX3, "<init>", "()V"⟩
abbrev cX3_gather : ByteArray := prog_5_method_2_code
def yX3_gather : MethodName := ⟨RX3, "gather", "(LMixedCells$Body;I)LMixedCells$Region;"⟩
abbrev cX3_gatherSums : ByteArray := prog_5_method_3_code
def yX3_gatherSums : MethodName := ⟨RX3, "gatherSums", "(LMixedCells$Body;ILMixedCells$Body;I)LMixedCells$Region;"⟩
abbrev cX3_gatherFan : ByteArray := prog_5_method_4_code
def yX3_gatherFan : MethodName := ⟨RX3, "gatherFan", "(LMixedCells$Body;)LMixedCells$Region;"⟩
abbrev cX3_include : ByteArray := prog_5_method_5_code
def yX3_include : MethodName := ⟨RX3, "include", "(II)V"⟩
abbrev cX3_comesBehind : ByteArray := prog_5_method_6_code
def yX3_comesBehind : MethodName := ⟨RX3, "comesBehind", "(III)Z"⟩
abbrev cX3_findCorners : ByteArray := prog_5_method_7_code
def yX3_findCorners : MethodName := ⟨RX3, "findCorners", "()LMixedCells$Region;"⟩
abbrev cX3_turnTo : ByteArray := prog_5_method_8_code
def yX3_turnTo : MethodName := ⟨RX3, "turnTo", "(II)V"⟩
abbrev cX3_turnsLeft : ByteArray := prog_5_method_9_code
def yX3_turnsLeft : MethodName := ⟨RX3, "turnsLeft", "(III)Z"⟩
abbrev cX3_hasCorner : ByteArray := prog_5_method_10_code
def yX3_hasCorner : MethodName := ⟨RX3, "hasCorner", "(I)Z"⟩
abbrev cX3_cornerX : ByteArray := prog_5_method_11_code
def yX3_cornerX : MethodName := ⟨RX3, "cornerX", "(I)I"⟩
abbrev cX3_cornerY : ByteArray := prog_5_method_12_code
def yX3_cornerY : MethodName := ⟨RX3, "cornerY", "(I)I"⟩
abbrev cX3_next : ByteArray := prog_5_method_13_code
def yX3_next : MethodName := ⟨RX3, "next", "(I)I"⟩
abbrev cX3_area : ByteArray := prog_5_method_14_code
def yX3_area : MethodName := ⟨RX3, "area", "()I"⟩
abbrev cX3_span : ByteArray := prog_5_method_15_code
def yX3_span : MethodName := ⟨RX3, "span", "()I"⟩
abbrev cX3_stepsRound : ByteArray := prog_5_method_16_code
def yX3_stepsRound : MethodName := ⟨RX3, "stepsRound", "()I"⟩
abbrev cX3_wholePoints : ByteArray := prog_5_method_17_code
def yX3_wholePoints : MethodName := ⟨RX3, "wholePoints", "()I"⟩
abbrev cX3_rimPoints : ByteArray := prog_5_method_18_code
def yX3_rimPoints : MethodName := ⟨RX3, "rimPoints", "()I"⟩
def RX4 : String := "MixedCells"
def TX4 : u_T := fun k => match k with
  | 0 => ("MixedCells", "bodies", "[LMixedCells$Body;", true)
  | 1 => ("MixedCells", "kept", "[LMixedCells$Body;", true)
  | 2 => ("MixedCells", "keptImages", "I", false)
  | 3 => ("MixedCells", "region", "LMixedCells$Region;", true)
  | 4 => ("MixedCells", "cutting", "LMixedCells$Cutting;", true)
  | _ => ("MixedCells", "powers", "[[I", true)
def tyX4 : Nat → FieldType := fun k => match k with
  | 0 => .array (.object "MixedCells$Body")
  | 1 => .array (.object "MixedCells$Body")
  | 2 => .int
  | 3 => .object "MixedCells$Region"
  | 4 => .object "MixedCells$Cutting"
  | _ => .array (.array .int)
abbrev wsX40 : List Cond := u_ws RX4 TX4 6
theorem nmX4 : ∀ a, a < 6 → ∀ b, b < 6 → a ≠ b → (TX4 a).2.1 ≠ (TX4 b).2.1 := by decide +kernel
theorem tyX4_ok : ∀ k, k < 6 → parseFieldDescriptor (TX4 k).2.2.1 = some (tyX4 k) := by decide +kernel
abbrev cX4_init : ByteArray := prog_1_method_1_code
def yX4_init : MethodName := ⟨RX4, "<init>", "()V"⟩
abbrev cX4_put : ByteArray := prog_1_method_2_code
def yX4_put : MethodName := ⟨RX4, "put", "(IIII)I"⟩
abbrev cX4_take : ByteArray := prog_1_method_3_code
def yX4_take : MethodName := ⟨RX4, "take", "(II)I"⟩
abbrev cX4_clear : ByteArray := prog_1_method_4_code
def yX4_clear : MethodName := ⟨RX4, "clear", "(I)I"⟩
abbrev cX4_point : ByteArray := prog_1_method_5_code
def yX4_point : MethodName := ⟨RX4, "point", "(III)I"⟩
abbrev cX4_hull : ByteArray := prog_1_method_6_code
def yX4_hull : MethodName := ⟨RX4, "hull", "(II)I"⟩
abbrev cX4_corner : ByteArray := prog_1_method_7_code
def yX4_corner : MethodName := ⟨RX4, "corner", "(II)I"⟩
abbrev cX4_sum : ByteArray := prog_1_method_8_code
def yX4_sum : MethodName := ⟨RX4, "sum", "(III)I"⟩
abbrev cX4_sumCorner : ByteArray := prog_1_method_9_code
def yX4_sumCorner : MethodName := ⟨RX4, "sumCorner", "(IIII)I"⟩
abbrev cX4_cells : ByteArray := prog_1_method_10_code
def yX4_cells : MethodName := ⟨RX4, "cells", "(III)I"⟩
abbrev cX4_cell : ByteArray := prog_1_method_11_code
def yX4_cell : MethodName := ⟨RX4, "cell", "(IIII)I"⟩
abbrev cX4_slope : ByteArray := prog_1_method_12_code
def yX4_slope : MethodName := ⟨RX4, "slope", "(IIII)I"⟩
abbrev cX4_low : ByteArray := prog_1_method_13_code
def yX4_low : MethodName := ⟨RX4, "low", "(III)I"⟩
abbrev cX4_fan : ByteArray := prog_1_method_14_code
def yX4_fan : MethodName := ⟨RX4, "fan", "(II)I"⟩
abbrev cX4_roots : ByteArray := prog_1_method_15_code
def yX4_roots : MethodName := ⟨RX4, "roots", "(III)I"⟩
abbrev cX4_image : ByteArray := prog_1_method_16_code
def yX4_image : MethodName := ⟨RX4, "image", "(I)I"⟩
abbrev cX4_restore : ByteArray := prog_1_method_17_code
def yX4_restore : MethodName := ⟨RX4, "restore", "(I)I"⟩
abbrev cX4_count : ByteArray := prog_1_method_18_code
def yX4_count : MethodName := ⟨RX4, "count", "(I)I"⟩
abbrev cX4_bodyAt : ByteArray := prog_1_method_19_code
def yX4_bodyAt : MethodName := ⟨RX4, "bodyAt", "(I)LMixedCells$Body;"⟩
abbrev cX4_isWithin : ByteArray := prog_1_method_20_code
def yX4_isWithin : MethodName := ⟨RX4, "isWithin", "(III)Z"⟩
abbrev cX4_isKindAsked : ByteArray := prog_1_method_21_code
def yX4_isKindAsked : MethodName := ⟨RX4, "isKindAsked", "(I)Z"⟩
abbrev cX4_isSmallPrime : ByteArray := prog_1_method_22_code
def yX4_isSmallPrime : MethodName := ⟨RX4, "isSmallPrime", "(I)Z"⟩
abbrev cX4_pointsOfAll : ByteArray := prog_1_method_23_code
def yX4_pointsOfAll : MethodName := ⟨RX4, "pointsOfAll", "()I"⟩
abbrev cX4_filledBodies : ByteArray := prog_1_method_24_code
def yX4_filledBodies : MethodName := ⟨RX4, "filledBodies", "()I"⟩
abbrev cX4_mixedOf : ByteArray := prog_1_method_25_code
def yX4_mixedOf : MethodName := ⟨RX4, "mixedOf", "(LMixedCells$Body;ILMixedCells$Body;I)I"⟩
abbrev cX4_kindOf : ByteArray := prog_1_method_26_code
def yX4_kindOf : MethodName := ⟨RX4, "kindOf", "(LMixedCells$Cell;LMixedCells$Body;LMixedCells$Body;)I"⟩
abbrev cX4_shareOf : ByteArray := prog_1_method_27_code
def yX4_shareOf : MethodName := ⟨RX4, "shareOf", "(LMixedCells$Cell;LMixedCells$Body;LMixedCells$Body;I)I"⟩
abbrev cX4_fillPowers : ByteArray := prog_1_method_28_code
def yX4_fillPowers : MethodName := ⟨RX4, "fillPowers", "(I)V"⟩
abbrev cX4_isRoot : ByteArray := prog_1_method_29_code
def yX4_isRoot : MethodName := ⟨RX4, "isRoot", "(LMixedCells$Body;III)Z"⟩
abbrev cX4_commonDivisor : ByteArray := prog_1_method_30_code
def yX4_commonDivisor : MethodName := ⟨RX4, "commonDivisor", "(II)I"⟩
def RX5 : String := "MixedCellsModel"
def TX5 : u_T := fun k => match k with
  | 0 => ("MixedCellsModel", "state", "[I", true)
  | 1 => ("MixedCellsModel", "images", "[I", true)
  | 2 => ("MixedCellsModel", "isKept", "[Z", true)
  | 3 => ("MixedCellsModel", "xs", "[I", true)
  | 4 => ("MixedCellsModel", "ys", "[I", true)
  | 5 => ("MixedCellsModel", "points", "I", false)
  | 6 => ("MixedCellsModel", "corners", "[I", true)
  | 7 => ("MixedCellsModel", "cornerCount", "I", false)
  | 8 => ("MixedCellsModel", "us", "[I", true)
  | 9 => ("MixedCellsModel", "vs", "[I", true)
  | 10 => ("MixedCellsModel", "lows", "[I", true)
  | 11 => ("MixedCellsModel", "cells", "I", false)
  | 12 => ("MixedCellsModel", "firsts", "[I", true)
  | _ => ("MixedCellsModel", "seconds", "[I", true)
def tyX5 : Nat → FieldType := fun k => match k with
  | 0 => .array .int
  | 1 => .array .int
  | 2 => .array .boolean
  | 3 => .array .int
  | 4 => .array .int
  | 5 => .int
  | 6 => .array .int
  | 7 => .int
  | 8 => .array .int
  | 9 => .array .int
  | 10 => .array .int
  | 11 => .int
  | 12 => .array .int
  | _ => .array .int
abbrev wsX50 : List Cond := u_ws RX5 TX5 14
theorem nmX5 : ∀ a, a < 14 → ∀ b, b < 14 → a ≠ b → (TX5 a).2.1 ≠ (TX5 b).2.1 := by decide +kernel
theorem tyX5_ok : ∀ k, k < 14 → parseFieldDescriptor (TX5 k).2.2.1 = some (tyX5 k) := by decide +kernel
abbrev cX5_init : ByteArray := prog_7_method_1_code
def yX5_init : MethodName := ⟨RX5, "<init>", "()V"⟩
abbrev cX5_in : ByteArray := prog_7_method_2_code
def yX5_in : MethodName := ⟨RX5, "in", "(III)Z"⟩
abbrev cX5_isBody : ByteArray := prog_7_method_3_code
def yX5_isBody : MethodName := ⟨RX5, "isBody", "(I)Z"⟩
abbrev cX5_has : ByteArray := prog_7_method_4_code
def yX5_has : MethodName := ⟨RX5, "has", "(II)Z"⟩
abbrev cX5_many : ByteArray := prog_7_method_5_code
def yX5_many : MethodName := ⟨RX5, "many", "(I)I"⟩
abbrev cX5_at : ByteArray := prog_7_method_6_code
def yX5_at : MethodName := ⟨RX5, "at", "(III)I"⟩
abbrev cX5_of : ByteArray := prog_7_method_7_code
def yX5_of : MethodName := ⟨RX5, "of", "(III)I"⟩
abbrev cX5_put : ByteArray := prog_7_method_8_code
def yX5_put : MethodName := ⟨RX5, "put", "(IIII)I"⟩
abbrev cX5_take : ByteArray := prog_7_method_9_code
def yX5_take : MethodName := ⟨RX5, "take", "(II)I"⟩
abbrev cX5_clear : ByteArray := prog_7_method_10_code
def yX5_clear : MethodName := ⟨RX5, "clear", "(I)I"⟩
abbrev cX5_point : ByteArray := prog_7_method_11_code
def yX5_point : MethodName := ⟨RX5, "point", "(III)I"⟩
abbrev cX5_addPoint : ByteArray := prog_7_method_12_code
def yX5_addPoint : MethodName := ⟨RX5, "addPoint", "(II)V"⟩
abbrev cX5_turn : ByteArray := prog_7_method_13_code
def yX5_turn : MethodName := ⟨RX5, "turn", "(III)I"⟩
abbrev cX5_far : ByteArray := prog_7_method_14_code
def yX5_far : MethodName := ⟨RX5, "far", "(II)I"⟩
abbrev cX5_nextCorner : ByteArray := prog_7_method_15_code
def yX5_nextCorner : MethodName := ⟨RX5, "nextCorner", "(I)I"⟩
abbrev cX5_layCorners : ByteArray := prog_7_method_16_code
def yX5_layCorners : MethodName := ⟨RX5, "layCorners", "()V"⟩
abbrev cX5_area : ByteArray := prog_7_method_17_code
def yX5_area : MethodName := ⟨RX5, "area", "()I"⟩
abbrev cX5_span : ByteArray := prog_7_method_18_code
def yX5_span : MethodName := ⟨RX5, "span", "()I"⟩
abbrev cX5_layBody : ByteArray := prog_7_method_19_code
def yX5_layBody : MethodName := ⟨RX5, "layBody", "(II)V"⟩
abbrev cX5_laySums : ByteArray := prog_7_method_20_code
def yX5_laySums : MethodName := ⟨RX5, "laySums", "(IIII)V"⟩
abbrev cX5_lies : ByteArray := prog_7_method_21_code
def yX5_lies : MethodName := ⟨RX5, "lies", "(II)I"⟩
abbrev cX5_lattice : ByteArray := prog_7_method_22_code
def yX5_lattice : MethodName := ⟨RX5, "lattice", "(I)I"⟩
abbrev cX5_hull : ByteArray := prog_7_method_23_code
def yX5_hull : MethodName := ⟨RX5, "hull", "(II)I"⟩
abbrev cX5_corner : ByteArray := prog_7_method_24_code
def yX5_corner : MethodName := ⟨RX5, "corner", "(II)I"⟩
abbrev cX5_areaOf : ByteArray := prog_7_method_25_code
def yX5_areaOf : MethodName := ⟨RX5, "areaOf", "(II)I"⟩
abbrev cX5_areaOfSums : ByteArray := prog_7_method_26_code
def yX5_areaOfSums : MethodName := ⟨RX5, "areaOfSums", "(IIII)I"⟩
abbrev cX5_sum : ByteArray := prog_7_method_27_code
def yX5_sum : MethodName := ⟨RX5, "sum", "(III)I"⟩
abbrev cX5_sumCorner : ByteArray := prog_7_method_28_code
def yX5_sumCorner : MethodName := ⟨RX5, "sumCorner", "(IIII)I"⟩
abbrev cX5_lowBy : ByteArray := prog_7_method_29_code
def yX5_lowBy : MethodName := ⟨RX5, "lowBy", "(IIII)I"⟩
abbrev cX5_compare : ByteArray := prog_7_method_30_code
def yX5_compare : MethodName := ⟨RX5, "compare", "(IIII)I"⟩
abbrev cX5_addCell : ByteArray := prog_7_method_31_code
def yX5_addCell : MethodName := ⟨RX5, "addCell", "(III)V"⟩
abbrev cX5_tryThree : ByteArray := prog_7_method_32_code
def yX5_tryThree : MethodName := ⟨RX5, "tryThree", "(IIIII)V"⟩
abbrev cX5_sumOf : ByteArray := prog_7_method_33_code
def yX5_sumOf : MethodName := ⟨RX5, "sumOf", "(IIII)I"⟩
abbrev cX5_isLow : ByteArray := prog_7_method_34_code
def yX5_isLow : MethodName := ⟨RX5, "isLow", "(III)Z"⟩
abbrev cX5_layCells : ByteArray := prog_7_method_35_code
def yX5_layCells : MethodName := ⟨RX5, "layCells", "(II)V"⟩
abbrev cX5_lowOf : ByteArray := prog_7_method_36_code
def yX5_lowOf : MethodName := ⟨RX5, "lowOf", "(II)I"⟩
abbrev cX5_spanOf : ByteArray := prog_7_method_37_code
def yX5_spanOf : MethodName := ⟨RX5, "spanOf", "(II)I"⟩
abbrev cX5_kindOf : ByteArray := prog_7_method_38_code
def yX5_kindOf : MethodName := ⟨RX5, "kindOf", "(III)I"⟩
abbrev cX5_cellArea : ByteArray := prog_7_method_39_code
def yX5_cellArea : MethodName := ⟨RX5, "cellArea", "(III)I"⟩
abbrev cX5_cellMixed : ByteArray := prog_7_method_40_code
def yX5_cellMixed : MethodName := ⟨RX5, "cellMixed", "(III)I"⟩
abbrev cX5_isKind : ByteArray := prog_7_method_41_code
def yX5_isKind : MethodName := ⟨RX5, "isKind", "(I)Z"⟩
abbrev cX5_cells : ByteArray := prog_7_method_42_code
def yX5_cells : MethodName := ⟨RX5, "cells", "(III)I"⟩
abbrev cX5_cell : ByteArray := prog_7_method_43_code
def yX5_cell : MethodName := ⟨RX5, "cell", "(IIII)I"⟩
abbrev cX5_common : ByteArray := prog_7_method_44_code
def yX5_common : MethodName := ⟨RX5, "common", "(II)I"⟩
abbrev cX5_slope : ByteArray := prog_7_method_45_code
def yX5_slope : MethodName := ⟨RX5, "slope", "(IIII)I"⟩
abbrev cX5_low : ByteArray := prog_7_method_46_code
def yX5_low : MethodName := ⟨RX5, "low", "(III)I"⟩
abbrev cX5_fan : ByteArray := prog_7_method_47_code
def yX5_fan : MethodName := ⟨RX5, "fan", "(II)I"⟩
abbrev cX5_power : ByteArray := prog_7_method_48_code
def yX5_power : MethodName := ⟨RX5, "power", "(III)I"⟩
abbrev cX5_holds : ByteArray := prog_7_method_49_code
def yX5_holds : MethodName := ⟨RX5, "holds", "(IIII)Z"⟩
abbrev cX5_roots : ByteArray := prog_7_method_50_code
def yX5_roots : MethodName := ⟨RX5, "roots", "(III)I"⟩
abbrev cX5_image : ByteArray := prog_7_method_51_code
def yX5_image : MethodName := ⟨RX5, "image", "(I)I"⟩
abbrev cX5_restore : ByteArray := prog_7_method_52_code
def yX5_restore : MethodName := ⟨RX5, "restore", "(I)I"⟩
abbrev cX5_count : ByteArray := prog_7_method_53_code
def yX5_count : MethodName := ⟨RX5, "count", "(I)I"⟩
def RJ6 : String := "java/lang/Integer"
def TJ6 : u_T := fun k => match k with
  | _ => ("", "", "", false)
def tyJ6 : Nat → FieldType := fun k => match k with
  | _ => .int
abbrev wsJ60 : List Cond := u_ws RJ6 TJ6 0
theorem nmJ6 : ∀ a, a < 0 → ∀ b, b < 0 → a ≠ b → (TJ6 a).2.1 ≠ (TJ6 b).2.1 := by decide +kernel
theorem tyJ6_ok : ∀ k, k < 0 → parseFieldDescriptor (TJ6 k).2.2.1 = some (tyJ6 k) := by decide +kernel
abbrev cJ6_compare_7cf53 : ByteArray := prog_8_method_40_code
def yJ6_compare_7cf53 : MethodName := ⟨RJ6, "compare", "(II)I"⟩
abbrev cJ6_numberOfTrailingZeros_0f7a4 : ByteArray := prog_8_method_48_code
def yJ6_numberOfTrailingZeros_0f7a4 : MethodName := ⟨RJ6, "numberOfTrailingZeros", "(I)I"⟩
def RJ9 : String := "java/lang/Math"
def TJ9 : u_T := fun k => match k with
  | _ => ("", "", "", false)
def tyJ9 : Nat → FieldType := fun k => match k with
  | _ => .int
abbrev wsJ90 : List Cond := u_ws RJ9 TJ9 0
theorem nmJ9 : ∀ a, a < 0 → ∀ b, b < 0 → a ≠ b → (TJ9 a).2.1 ≠ (TJ9 b).2.1 := by decide +kernel
theorem tyJ9_ok : ∀ k, k < 0 → parseFieldDescriptor (TJ9 k).2.2.1 = some (tyJ9 k) := by decide +kernel
abbrev cJ9_abs_0f7a4 : ByteArray := prog_9_method_59_code
def yJ9_abs_0f7a4 : MethodName := ⟨RJ9, "abs", "(I)I"⟩
abbrev cJ9_max_7cf53 : ByteArray := prog_9_method_65_code
def yJ9_max_7cf53 : MethodName := ⟨RJ9, "max", "(II)I"⟩
abbrev cJ9_min_7cf53 : ByteArray := prog_9_method_69_code
def yJ9_min_7cf53 : MethodName := ⟨RJ9, "min", "(II)I"⟩
def RL : String := "MixedCellsLaw"
abbrev cL_law : ByteArray := code
def yL_law : MethodName := ⟨RL, "law", "([I)Z"⟩
theorem inX0 : ∀ w ∈ wsX00, w ∈ lw_tbl := fun w h => by
  have e : wsX00 = ([127, 129, 131, 133] : List Nat).filterMap (fun i => tables_1[i]?) := by decide +kernel
  rw [e] at h
  obtain ⟨i, -, hi⟩ := List.mem_filterMap.mp h
  exact List.mem_append_right _ (List.mem_of_getElem? hi)
theorem inX1 : ∀ w ∈ wsX10, w ∈ lw_tbl := fun w h => by
  have e : wsX10 = ([69, 71, 73, 75, 77, 79] : List Nat).filterMap (fun i => tables_1[i]?) := by decide +kernel
  rw [e] at h
  obtain ⟨i, -, hi⟩ := List.mem_filterMap.mp h
  exact List.mem_append_right _ (List.mem_of_getElem? hi)
theorem inX2 : ∀ w ∈ wsX20, w ∈ lw_tbl := fun w h => by
  have e : wsX20 = ([90, 92, 94, 96, 98, 100, 102] : List Nat).filterMap (fun i => tables_1[i]?) := by decide +kernel
  rw [e] at h
  obtain ⟨i, -, hi⟩ := List.mem_filterMap.mp h
  exact List.mem_append_right _ (List.mem_of_getElem? hi)
theorem inX3 : ∀ w ∈ wsX30, w ∈ lw_tbl := fun w h => by
  have e : wsX30 = ([32, 34, 36, 38, 40] : List Nat).filterMap (fun i => tables_1[i]?) := by decide +kernel
  rw [e] at h
  obtain ⟨i, -, hi⟩ := List.mem_filterMap.mp h
  exact List.mem_append_right _ (List.mem_of_getElem? hi)
theorem inX4 : ∀ w ∈ wsX40, w ∈ lw_tbl := fun w h => by
  have e : wsX40 = ([142, 144, 146, 148, 150, 152] : List Nat).filterMap (fun i => tables_1[i]?) := by decide +kernel
  rw [e] at h
  obtain ⟨i, -, hi⟩ := List.mem_filterMap.mp h
  exact List.mem_append_right _ (List.mem_of_getElem? hi)
theorem inX5 : ∀ w ∈ wsX50, w ∈ lw_tbl := fun w h => by
  have e : wsX50 = ([442, 444, 446, 448, 450, 452, 454, 456, 458, 460, 462, 464, 466, 468] : List Nat).filterMap (fun i => tables_1[i]?) := by decide +kernel
  rw [e] at h
  obtain ⟨i, -, hi⟩ := List.mem_filterMap.mp h
  exact List.mem_append_right _ (List.mem_of_getElem? hi)
abbrev vwCl : List vw_C := [(RX0, TX0, 4), (RX1, TX1, 6), (RX2, TX2, 7), (RX3, TX3, 5), (RX4, TX4, 6), (RX5, TX5, 14)]
end
section
/-! A machine of plain numbers over the machine: values are whole numbers or places of a list of cells; the list is the heap from the cell b on. -/
abbrev ax_V : Type := Int ⊕ Option Nat
abbrev ax_A : Type := (Nat → Int) ⊕ (Nat → Option Nat)
abbrev ax_E : Type := (Nat × Nat × ax_A) ⊕ (Nat × List ax_V)
abbrev ax_H : Type := List ax_E
abbrev iv (z : Int) : ax_V := .inl z
abbrev rv (a : Nat) : ax_V := .inr (some a)
abbrev nv : ax_V := .inr none
def ax_v (b : Nat) : ax_V → Value
  | .inl z => .int (Int32.ofInt z)
  | .inr none => .null
  | .inr (some a) => .ref (b + a)
theorem ax_cat (b : Nat) (v : ax_V) : (ax_v b v).category = 1 := by rcases v with z | (_ | a) <;> rfl
def ax_e (b : Nat) (dA : Nat → ClassId) : ax_E → va_E
  | .inl (t, n, .inl f) => .inl (dA t, n, .inl (fun k => Int32.ofInt (f k)))
  | .inl (t, n, .inr g) => .inl (dA t, n, .inr (.inr (.inr (.inr (fun k => (g k).map (fun a => b + a))))))
  | .inr (c, fs) => .inr (c, fs.map (ax_v b))
def ax_w (b : Nat) (dA : Nat → ClassId) (h : ax_H) : va_W := h.mapIdx (fun k e => (b + k, ax_e b dA e))
theorem ax_w_get (b : Nat) (dA : Nat → ClassId) (h : ax_H) (k : Nat) : (ax_w b dA h)[k]? = (h[k]?).map (fun e => (b + k, ax_e b dA e)) := by
  simp [ax_w]
theorem ax_w_at {b : Nat} {dA : Nat → ClassId} {h : ax_H} {k : Nat} {e : ax_E} (hk : h[k]? = some e) : (ax_w b dA h)[k]? = some (b + k, ax_e b dA e) := by
  rw [ax_w_get, hk]; rfl
theorem ax_w_set (b : Nat) (dA : Nat → ClassId) (h : ax_H) (k : Nat) (e : ax_E) : (ax_w b dA h).set k (b + k, ax_e b dA e) = ax_w b dA (h.set k e) := by
  apply List.ext_getElem?
  intro i
  rw [ax_w_get, List.getElem?_set, List.getElem?_set, ax_w_get]
  by_cases hi : k = i
  · subst hi
    by_cases hl : k < h.length
    · simp [ax_w, hl]
    · simp [ax_w, hl]
  · simp [hi]
theorem ax_w_push (b : Nat) (dA : Nat → ClassId) (h : ax_H) (e : ax_E) : ax_w b dA h ++ [(b + h.length, ax_e b dA e)] = ax_w b dA (h ++ [e]) := by
  simp [ax_w, List.mapIdx_append]
theorem ax_D (b : Nat) (dA : Nat → ClassId) (h : ax_H) : va_D (fun q => b ≤ q) (ax_w b dA h) := by
  have key : ∀ (k : Nat) (q : Nat × va_E), (ax_w b dA h)[k]? = some q → q.1 = b + k := by
    intro k q hq
    rw [ax_w_get] at hq
    cases hk : h[k]? with
    | none => rw [hk] at hq; cases hq
    | some e => rw [hk] at hq; cases hq; rfl
  refine ⟨fun i j p q hp hq e => ?_, fun k q hq => ?_⟩
  · have := key i p hp
    have := key j q hq
    omega
  · have := key k q hq
    omega
/-! sizes -/
def ax_z : ax_E → Nat
  | .inl (_, n, _) => n
  | .inr (_, fs) => fs.length
def ax_sz (h : ax_H) : Nat := (h.map ax_z).sum
theorem ax_sz_push (h : ax_H) (e : ax_E) : ax_sz (h ++ [e]) = ax_sz h + ax_z e := by simp [ax_sz]
theorem ax_sz_set : ∀ (h : ax_H) (k : Nat) (e e0 : ax_E), h[k]? = some e0 → ax_z e = ax_z e0 → ax_sz (h.set k e) = ax_sz h
  | [], k, e, e0, hk, _ => by simp at hk
  | x :: h, 0, e, e0, hk, hz => by
    simp at hk
    subst hk
    simp [ax_sz, hz]
  | x :: h, k + 1, e, e0, hk, hz => by
    simp at hk
    have := ax_sz_set h k e e0 hk hz
    simp [ax_sz] at this ⊢
    omega
def ax_tys (dA : Nat → ClassId) : List (ClassId × FieldType) := [(dA 0, .int), (dA 1, .boolean), (dA 2, .object RX0), (dA 3, .object RX1), (dA 4, .array .int)]
/-! the words of the tables stay as classes warm up -/
theorem ax_aoa {args a' : Array Value} {u U : State} (hvm : u.vm.Alike U.vm) (h : (Cond.arrayOver (.array .int)).before args u = true) : (Cond.arrayOver (.array .int)).before a' U = true := by
  simp only [Cond.before, Cond.holds, Cond.value, beq_iff_eq] at h ⊢
  rw [hvm.findClass, hvm.findClass]
  cases hc : u.vm.findClass (FieldType.array .int).toString with
  | none => simp [hc] at h
  | some comp =>
    simp only [hc, Option.bind_some, Option.bind_eq_some_iff, Option.map_eq_some_iff] at h ⊢
    obtain ⟨ci, hi, k, hk, hb⟩ := h
    obtain ⟨k', hk', he⟩ := hvm.2.2 _ _ hk
    have hkind : k'.kind = k.kind := by rw [he]
    refine ⟨ci, ?_, k', hk', ?_⟩
    · have e1 := va_idx_bare U.vm comp
      have e2 := va_idx_bare u.vm comp
      refine e1.symm.trans (Eq.trans ?_ (e2.trans hi))
      first | rw [hvm.bare_eq] | rw [← hvm.bare_eq]
    · rw [hkind]
      exact hb
def ax_good (w : Cond) : Bool := match w with
  | .methodLinkNest _ _ _ _ => true
  | .arrayOver (.object _) => true
  | .arrayOver (.array .int) => true
  | w => goodWord w
def ax_tb : List Cond := lw_tbl.filter ax_good
theorem ax_all : ax_tb.all ax_good = true := List.all_eq_true.mpr (fun w hw => (List.mem_filter.mp hw).2)
theorem ax_t (i : Nat) {w : Cond} (h : tables_1[i]? = some w) (hg : ax_good w = true) : w ∈ ax_tb := List.mem_filter.mpr ⟨List.mem_append_right _ (List.mem_of_getElem? h), hg⟩
theorem ax_p (i : Nat) {w : Cond} (h : (k2_sels lw_privs)[i]? = some w) (hg : ax_good w = true) : w ∈ ax_tb := List.mem_filter.mpr ⟨List.mem_append_left _ (List.mem_of_getElem? h), hg⟩
theorem inbX0 : ∀ w ∈ wsX00, w ∈ ax_tb := fun w h => List.mem_filter.mpr ⟨inX0 w h, List.all_eq_true.mp (by decide +kernel : wsX00.all ax_good = true) w h⟩
theorem inbX1 : ∀ w ∈ wsX10, w ∈ ax_tb := fun w h => List.mem_filter.mpr ⟨inX1 w h, List.all_eq_true.mp (by decide +kernel : wsX10.all ax_good = true) w h⟩
theorem inbX2 : ∀ w ∈ wsX20, w ∈ ax_tb := fun w h => List.mem_filter.mpr ⟨inX2 w h, List.all_eq_true.mp (by decide +kernel : wsX20.all ax_good = true) w h⟩
theorem inbX3 : ∀ w ∈ wsX30, w ∈ ax_tb := fun w h => List.mem_filter.mpr ⟨inX3 w h, List.all_eq_true.mp (by decide +kernel : wsX30.all ax_good = true) w h⟩
theorem inbX4 : ∀ w ∈ wsX40, w ∈ ax_tb := fun w h => List.mem_filter.mpr ⟨inX4 w h, List.all_eq_true.mp (by decide +kernel : wsX40.all ax_good = true) w h⟩
theorem inbX5 : ∀ w ∈ wsX50, w ∈ ax_tb := fun w h => List.mem_filter.mpr ⟨inX5 w h, List.all_eq_true.mp (by decide +kernel : wsX50.all ax_good = true) w h⟩
theorem ax_stable {w : Cond} (hw : ax_good w = true) {args a' : Array Value} {s U : State} (hW : s.WarmedH U.vm) (h : w.before args s = true) : w.before a' U = true := by
  unfold ax_good at hw
  split at hw
  · exact va_Nw.use rfl (va_Nw.warmM hW (va_Nw.of rfl h))
  · exact va_AO.use (va_AO.moved hW.alike (va_AO.of h))
  · exact ax_aoa hW.alike h
  · exact word_at hW (good_of_word hw) h
theorem ax_words {args : Array Value} {s : State} (hts : ∀ w ∈ ax_tb, w.before args s = true) : ∀ w ∈ ax_tb, ∀ (a' : Array Value) (U : State), s.WarmedH U.vm → w.before a' U = true := fun w hw a' U hW => ax_stable (List.all_eq_true.mp ax_all w hw) hW (hts w hw)
/-- what stays the same while a method runs -/
def ax_C (p : Program) (R : Room) (s : State) (m : MethodId) (args : Array Value) (meth : Method) (c : Code) (b : Nat) (D : va_G) (dA : Nat → ClassId) (nL n0 : Nat) (cc : ByteArray) (own : String) (ht : Nat) : Prop :=
  p.tables.exec = Jvm.exec ∧ c.code = cc ∧ c.maxLocals = nL ∧ s.vm.findClass own = some m.cls ∧ (∀ w ∈ ax_tb, w.before args s = true) ∧ va_K D vwCl (ax_tys dA) s ∧ R.frames = ht ∧ R.locals = 38 * ht ∧ s.heap.size = b + n0 ∧ meth.locks = false
/-- what holds between two instructions -/
def ax_I (R : Room) (s : State) (b : Nat) (D : va_G) (dA : Nat → ClassId) (nL n0 z0 : Nat) (L : List (Option ax_V)) (h : ax_H) (H : Heap) (ls : Array Slot) (locs : List Loc) (cells slots : Nat) : Prop :=
  H.size = b + h.length ∧ va_P D vwCl (ax_w b dA h) H ∧ (∀ q, q < b → H[q]? = s.heap[q]?) ∧ (∀ x ∈ locs, b ≤ x.base) ∧ (ls.size = nL ∧ lv_wf ls ∧ ∀ (i : Nat) (v : ax_V), L[i]? = some (some v) → ls[i]? = some (.val (ax_v b v))) ∧ cells + n0 = h.length ∧ slots + z0 = ax_sz h ∧ h.length ≤ n0 + R.cells ∧ ax_sz h ≤ z0 + R.slots
def ax_G (p : Program) (l : Launch) (e : Env) (R : Room) (s : State) (m : MethodId) (args : Array Value) (below : List Frame) (meth : Method) (c : Code) (b : Nat) (D : va_G) (dA : Nat → ClassId) (nL n0 z0 : Nat) (Q : State → Prop) (pc : Nat) (L : List (Option ax_V)) (st : List ax_V) (h : ax_H) : Prop :=
  ∀ (H : Heap) (ls : Array Slot) (locs : List Loc) (cells slots : Nat), ax_I R s b D dA nL n0 z0 L h H ls locs cells slots → W p l e R s m args below meth c H locs cells slots Q (F0 m pc ls (st.map (ax_v b)))

section AXR
variable {p : Program} {l : Launch} {e : Env} {R : Room} {s : State} {m : MethodId} {args : Array Value} {below : List Frame} {meth : Method} {c : Code} {b : Nat} {D : va_G} {dA : Nat → ClassId} {nL n0 z0 : Nat} {Q : State → Prop} {cc : ByteArray} {own : String} {ht : Nat} {pc : Nat} {L : List (Option ax_V)} {st : List ax_V} {h : ax_H}
theorem ax_top {H : Heap} {locs : List Loc} {cells slots : Nat} {ls : Array Slot} {rest : List Value} {z z' : Int32} (hz : z = z') (k : W p l e R s m args below meth c H locs cells slots Q (F0 m pc ls (.int z' :: rest))) : W p l e R s m args below meth c H locs cells slots Q (F0 m pc ls (.int z :: rest)) := hz ▸ k
theorem ax_I.loc {H : Heap} {ls : Array Slot} {locs : List Loc} {cells slots : Nat} (I : ax_I R s b D dA nL n0 z0 L h H ls locs cells slots) {i : Nat} {v : ax_V} (hi : L[i]? = some (some v)) : ls[i]? = some (.val (ax_v b v)) := I.2.2.2.2.1.2.2 i v hi
theorem ax_ti {z : Int} (hz : -2147483648 ≤ z ∧ z < 2147483648) : (Int32.ofInt z).toInt = z := Int32.toInt_ofInt_of_le (by omega) (by omega)
theorem ax_lt {x y : Int} (hx : -2147483648 ≤ x ∧ x < 2147483648) (hy : -2147483648 ≤ y ∧ y < 2147483648) : Int32.ofInt x < Int32.ofInt y ↔ x < y := by rw [Int32.lt_iff_toInt_lt, ax_ti hx, ax_ti hy]
theorem ax_le {x y : Int} (hx : -2147483648 ≤ x ∧ x < 2147483648) (hy : -2147483648 ≤ y ∧ y < 2147483648) : Int32.ofInt x ≤ Int32.ofInt y ↔ x ≤ y := by rw [Int32.le_iff_toInt_le, ax_ti hx, ax_ti hy]
theorem ax_eq {x y : Int} (hx : -2147483648 ≤ x ∧ x < 2147483648) (hy : -2147483648 ≤ y ∧ y < 2147483648) : Int32.ofInt x = Int32.ofInt y ↔ x = y := by rw [← Int32.toInt_inj, ax_ti hx, ax_ti hy]
theorem ax_0 : (0 : Int32) = Int32.ofInt 0 := rfl
theorem ax_ir0 : (-2147483648 : Int) ≤ 0 ∧ (0 : Int) < 2147483648 := by decide
theorem ax_in {i : Int} {n j : Nat} (hi : i = (j : Int)) (hj : j < n) (hn : n ≤ 1000000) : ¬ (Int32.ofInt i < 0 ∨ n ≤ (Int32.ofInt i).toNatClampNeg) ∧ (Int32.ofInt i).toNatClampNeg = j := by
  subst hi
  have h1 : (Int32.ofInt (j : Int)).toNatClampNeg = j := by
    rw [Int32.toNatClampNeg_ofInt_of_le (by omega) (by omega)]; omega
  refine ⟨fun q => ?_, h1⟩
  rw [h1] at q
  rcases q with q | q
  · rw [ax_0, ax_lt (by omega) (by omega)] at q
    omega
  · omega
/-! constants, locals -/
theorem g_iconst (C : ax_C p R s m args meth c b D dA nL n0 cc own ht) {z : Int} (hd : decode cc pc = .ok (.iconst z, 1)) (k : ax_G p l e R s m args below meth c b D dA nL n0 z0 Q (pc + 1) (L) (iv z :: st) (h)) : ax_G p l e R s m args below meth c b D dA nL n0 z0 Q (pc) (L) (st) (h) := fun H ls locs cells slots I => lv_iconst C.1 C.2.1 hd rfl (k H ls locs cells slots I)
theorem g_bipush (C : ax_C p R s m args meth c b D dA nL n0 cc own ht) {z : Int} (hd : decode cc pc = .ok (.bipush z, 2)) (hv : (Int8.ofInt z).toInt32 = Int32.ofInt z) (k : ax_G p l e R s m args below meth c b D dA nL n0 z0 Q (pc + 2) (L) (iv z :: st) (h)) : ax_G p l e R s m args below meth c b D dA nL n0 z0 Q (pc) (L) (st) (h) := fun H ls locs cells slots I => lv_bipush C.1 C.2.1 hd hv (k H ls locs cells slots I)
theorem g_sipush (C : ax_C p R s m args meth c b D dA nL n0 cc own ht) {z : Int} (hd : decode cc pc = .ok (.sipush z, 3)) (hv : (Int16.ofInt z).toInt32 = Int32.ofInt z) (k : ax_G p l e R s m args below meth c b D dA nL n0 z0 Q (pc + 3) (L) (iv z :: st) (h)) : ax_G p l e R s m args below meth c b D dA nL n0 z0 Q (pc) (L) (st) (h) := fun H ls locs cells slots I => lv_sipush C.1 C.2.1 hd hv (k H ls locs cells slots I)
theorem g_ldc (C : ax_C p R s m args meth c b D dA nL n0 cc own ht) {z : Int} {idx : Nat} {v : Int32} (hd : decode cc pc = .ok (.ldc idx, 2)) (hw : Cond.constant own idx v ∈ ax_tb) (hv : v = Int32.ofInt z) (k : ax_G p l e R s m args below meth c b D dA nL n0 z0 Q (pc + 2) (L) (iv z :: st) (h)) : ax_G p l e R s m args below meth c b D dA nL n0 z0 Q (pc) (L) (st) (h) := fun H ls locs cells slots I => lv_ldc C.1 C.2.1 C.2.2.2.1 (C.2.2.2.2.1 _ hw) hd (by subst hv; exact k H ls locs cells slots I)
theorem g_iload_n (C : ax_C p R s m args meth c b D dA nL n0 cc own ht) {i : Fin 4} {z : Int} (hd : decode cc pc = .ok (.iload_n i, 1)) (hi : L[(i : Nat)]? = some (some (.inl z))) (k : ax_G p l e R s m args below meth c b D dA nL n0 z0 Q (pc + 1) (L) (iv z :: st) (h)) : ax_G p l e R s m args below meth c b D dA nL n0 z0 Q (pc) (L) (st) (h) := fun H ls locs cells slots I => lv_iload_n C.1 C.2.1 hd rfl (I.loc hi) (k H ls locs cells slots I)
theorem g_iload (C : ax_C p R s m args meth c b D dA nL n0 cc own ht) {i : Nat} {z : Int} (hd : decode cc pc = .ok (.iload i, 2)) (hi : L[i]? = some (some (.inl z))) (k : ax_G p l e R s m args below meth c b D dA nL n0 z0 Q (pc + 2) (L) (iv z :: st) (h)) : ax_G p l e R s m args below meth c b D dA nL n0 z0 Q (pc) (L) (st) (h) := fun H ls locs cells slots I => lv_iload C.1 C.2.1 hd (I.loc hi) (k H ls locs cells slots I)
theorem g_aload_n (C : ax_C p R s m args meth c b D dA nL n0 cc own ht) {i : Fin 4} {o : Option Nat} (hd : decode cc pc = .ok (.aload_n i, 1)) (hi : L[(i : Nat)]? = some (some (.inr o))) (k : ax_G p l e R s m args below meth c b D dA nL n0 z0 Q (pc + 1) (L) (.inr o :: st) (h)) : ax_G p l e R s m args below meth c b D dA nL n0 z0 Q (pc) (L) (st) (h) := fun H ls locs cells slots I => by
  cases o with
  | none => exact lv_aload_nN C.1 C.2.1 hd rfl (I.loc hi) (k H ls locs cells slots I)
  | some a => exact lv_aload_n C.1 C.2.1 hd rfl (I.loc hi) (k H ls locs cells slots I)
theorem g_aload (C : ax_C p R s m args meth c b D dA nL n0 cc own ht) {i : Nat} {o : Option Nat} (hd : decode cc pc = .ok (.aload i, 2)) (hi : L[i]? = some (some (.inr o))) (k : ax_G p l e R s m args below meth c b D dA nL n0 z0 Q (pc + 2) (L) (.inr o :: st) (h)) : ax_G p l e R s m args below meth c b D dA nL n0 z0 Q (pc) (L) (st) (h) := fun H ls locs cells slots I => by
  cases o with
  | none => exact lv_aloadN C.1 C.2.1 hd (I.loc hi) (k H ls locs cells slots I)
  | some a => exact lv_aload C.1 C.2.1 hd (I.loc hi) (k H ls locs cells slots I)
theorem g_null (C : ax_C p R s m args meth c b D dA nL n0 cc own ht) (hd : decode cc pc = .ok (.aconst_null, 1)) (k : ax_G p l e R s m args below meth c b D dA nL n0 z0 Q (pc + 1) (L) (nv :: st) (h)) : ax_G p l e R s m args below meth c b D dA nL n0 z0 Q (pc) (L) (st) (h) := fun H ls locs cells slots I => lv_null C.1 C.2.1 hd (k H ls locs cells slots I)
/-- the locals as a list with places -/
def ax_l (b : Nat) (L : List (Option ax_V)) : List (Nat × Value) := (List.range L.length).filterMap (fun i => match L[i]? with | some (some v) => some (i, ax_v b v) | _ => none)
theorem ax_l_mem {q : Nat × Value} (hq : q ∈ ax_l b L) : ∃ v, L[q.1]? = some (some v) ∧ q.2 = ax_v b v := by
  obtain ⟨i, -, hi⟩ := List.mem_filterMap.mp hq
  cases hL : L[i]? with
  | none => simp [hL] at hi
  | some o =>
    cases o with
    | none => simp [hL] at hi
    | some v =>
      simp [hL] at hi
      subst hi
      exact ⟨v, hL, rfl⟩
theorem ax_l_of {i : Nat} {v : ax_V} (hi : L[i]? = some (some v)) : (i, ax_v b v) ∈ ax_l b L := by
  refine List.mem_filterMap.mpr ⟨i, List.mem_range.mpr (List.getElem?_eq_some_iff.mp hi).1, ?_⟩
  simp [hi]
theorem ax_I.has {H : Heap} {ls : Array Slot} {locs : List Loc} {cells slots : Nat} (I : ax_I R s b D dA nL n0 z0 L h H ls locs cells slots) : lv_has ls nL (ax_l b L) := ⟨I.2.2.2.2.1.1, I.2.2.2.2.1.2.1, fun q hq => by
  obtain ⟨v, h1, h2⟩ := ax_l_mem hq
  rw [h2]
  exact I.loc h1⟩
theorem ax_I.stored {H : Heap} {ls ls' : Array Slot} {locs : List Loc} {cells slots : Nat} (I : ax_I R s b D dA nL n0 z0 L h H ls locs cells slots) {i : Nat} {v : ax_V} {L' : List (Option ax_V)} (hL : L.set i (some v) = L') (hl : lv_has ls' nL ((i, ax_v b v) :: (ax_l b L).filter (fun q => !(q.1 == i) && !(q.1 + 1 == i && q.2.category == 2)))) : ax_I R s b D dA nL n0 z0 L' h H ls' locs cells slots := by
  obtain ⟨a1, a2, a3, a4, a5, a6, a7, a8, a9⟩ := I
  refine ⟨a1, a2, a3, a4, ⟨hl.1, hl.2.1, fun j w hj => ?_⟩, a6, a7, a8, a9⟩
  subst hL
  rw [List.getElem?_set] at hj
  by_cases hij : i = j
  · subst hij
    rw [if_pos rfl] at hj
    split at hj
    · cases hj
      exact hl.2.2 _ List.mem_cons_self
    · cases hj
  · rw [if_neg hij] at hj
    refine hl.2.2 (j, ax_v b w) (List.mem_cons_of_mem _ (List.mem_filter.mpr ⟨ax_l_of hj, ?_⟩))
    have := ax_cat b w
    simp [this, Ne.symm hij]
theorem g_istore_n (C : ax_C p R s m args meth c b D dA nL n0 cc own ht) {i : Fin 4} {z : Int} {L' : List (Option ax_V)} (hd : decode cc pc = .ok (.istore_n i, 1)) (hn : (i : Nat) < nL) (hL : L.set (i : Nat) (some (.inl z)) = L') (k : ax_G p l e R s m args below meth c b D dA nL n0 z0 Q (pc + 1) (L') (st) (h)) : ax_G p l e R s m args below meth c b D dA nL n0 z0 Q (pc) (L) (iv z :: st) (h) := fun H ls locs cells slots I => lv_istore_n C.1 C.2.1 hd rfl I.has hn rfl (fun ls' hl => k H ls' locs cells slots (I.stored hL hl))
theorem g_istore (C : ax_C p R s m args meth c b D dA nL n0 cc own ht) {i : Nat} {z : Int} {L' : List (Option ax_V)} (hd : decode cc pc = .ok (.istore i, 2)) (hn : i < nL) (hL : L.set i (some (.inl z)) = L') (k : ax_G p l e R s m args below meth c b D dA nL n0 z0 Q (pc + 2) (L') (st) (h)) : ax_G p l e R s m args below meth c b D dA nL n0 z0 Q (pc) (L) (iv z :: st) (h) := fun H ls locs cells slots I => lv_istore C.1 C.2.1 hd I.has hn rfl (fun ls' hl => k H ls' locs cells slots (I.stored hL hl))
theorem g_astore_n (C : ax_C p R s m args meth c b D dA nL n0 cc own ht) {i : Fin 4} {o : Option Nat} {L' : List (Option ax_V)} (hd : decode cc pc = .ok (.astore_n i, 1)) (hn : (i : Nat) < nL) (hL : L.set (i : Nat) (some (.inr o)) = L') (k : ax_G p l e R s m args below meth c b D dA nL n0 z0 Q (pc + 1) (L') (st) (h)) : ax_G p l e R s m args below meth c b D dA nL n0 z0 Q (pc) (L) (.inr o :: st) (h) := fun H ls locs cells slots I => by
  cases o with
  | none => exact lv_astore_nN C.1 C.2.1 hd rfl I.has hn rfl (fun ls' hl => k H ls' locs cells slots (I.stored hL hl))
  | some a => exact lv_astore_n C.1 C.2.1 hd rfl I.has hn rfl (fun ls' hl => k H ls' locs cells slots (I.stored hL hl))
theorem g_astore (C : ax_C p R s m args meth c b D dA nL n0 cc own ht) {i : Nat} {o : Option Nat} {L' : List (Option ax_V)} (hd : decode cc pc = .ok (.astore i, 2)) (hn : i < nL) (hL : L.set i (some (.inr o)) = L') (k : ax_G p l e R s m args below meth c b D dA nL n0 z0 Q (pc + 2) (L') (st) (h)) : ax_G p l e R s m args below meth c b D dA nL n0 z0 Q (pc) (L) (.inr o :: st) (h) := fun H ls locs cells slots I => by
  cases o with
  | none => exact lv_astoreN C.1 C.2.1 hd I.has hn rfl (fun ls' hl => k H ls' locs cells slots (I.stored hL hl))
  | some a => exact lv_astore C.1 C.2.1 hd I.has hn rfl (fun ls' hl => k H ls' locs cells slots (I.stored hL hl))
theorem g_iinc (C : ax_C p R s m args meth c b D dA nL n0 cc own ht) {i : Nat} {n z : Int} {L' : List (Option ax_V)} (hd : decode cc pc = .ok (.iinc i n, 3)) (hn : i < nL) (hi : L[i]? = some (some (.inl z))) (hL : L.set i (some (.inl (z + n))) = L') (k : ax_G p l e R s m args below meth c b D dA nL n0 z0 Q (pc + 3) (L') (st) (h)) : ax_G p l e R s m args below meth c b D dA nL n0 z0 Q (pc) (L) (st) (h) := fun H ls locs cells slots I => by
  obtain ⟨j, hj⟩ := List.getElem?_of_mem (ax_l_of (b := b) hi)
  exact lv_iinc C.1 C.2.1 hd I.has hj (Int32.ofInt_add z n).symm hn rfl (fun ls' hl => k H ls' locs cells slots (I.stored (v := .inl (z + n)) hL hl))
/-! arithmetic -/
theorem g_iadd (C : ax_C p R s m args meth c b D dA nL n0 cc own ht) {x y : Int} (hd : decode cc pc = .ok (.iadd, 1)) (k : ax_G p l e R s m args below meth c b D dA nL n0 z0 Q (pc + 1) (L) (iv (x + y) :: st) (h)) : ax_G p l e R s m args below meth c b D dA nL n0 z0 Q (pc) (L) (iv y :: iv x :: st) (h) := fun H ls locs cells slots I => lv_iadd C.1 C.2.1 hd (ax_top (Int32.ofInt_add x y).symm (k H ls locs cells slots I))
theorem g_isub (C : ax_C p R s m args meth c b D dA nL n0 cc own ht) {x y : Int} (hd : decode cc pc = .ok (.isub, 1)) (k : ax_G p l e R s m args below meth c b D dA nL n0 z0 Q (pc + 1) (L) (iv (x - y) :: st) (h)) : ax_G p l e R s m args below meth c b D dA nL n0 z0 Q (pc) (L) (iv y :: iv x :: st) (h) := fun H ls locs cells slots I => lv_isub C.1 C.2.1 hd (ax_top (Int32.ofInt_sub x y).symm (k H ls locs cells slots I))
theorem g_imul (C : ax_C p R s m args meth c b D dA nL n0 cc own ht) {x y : Int} (hd : decode cc pc = .ok (.imul, 1)) (k : ax_G p l e R s m args below meth c b D dA nL n0 z0 Q (pc + 1) (L) (iv (x * y) :: st) (h)) : ax_G p l e R s m args below meth c b D dA nL n0 z0 Q (pc) (L) (iv y :: iv x :: st) (h) := fun H ls locs cells slots I => lv_imul C.1 C.2.1 hd (ax_top (Int32.ofInt_mul x y).symm (k H ls locs cells slots I))
theorem g_ineg (C : ax_C p R s m args meth c b D dA nL n0 cc own ht) {x : Int} (hd : decode cc pc = .ok (.ineg, 1)) (k : ax_G p l e R s m args below meth c b D dA nL n0 z0 Q (pc + 1) (L) (iv (-x) :: st) (h)) : ax_G p l e R s m args below meth c b D dA nL n0 z0 Q (pc) (L) (iv x :: st) (h) := fun H ls locs cells slots I => lv_ineg C.1 C.2.1 hd (ax_top (Int32.ofInt_neg x).symm (k H ls locs cells slots I))
theorem ax_div {x y : Int} (hx : -2147483648 ≤ x ∧ x < 2147483648) (hy : -2147483648 ≤ y ∧ y < 2147483648) : Int32.ofInt x / Int32.ofInt y = Int32.ofInt (x.tdiv y) := by
  have e1 : Int32.minValue.toInt = -2147483648 := rfl
  have e2 : Int32.maxValue.toInt = 2147483647 := rfl
  exact (Int32.ofInt_tdiv (by omega) (by omega) (by omega) (by omega)).symm
theorem g_idiv (C : ax_C p R s m args meth c b D dA nL n0 cc own ht) {x y : Int} (hd : decode cc pc = .ok (.idiv, 1)) (hx : -2147483648 ≤ x ∧ x < 2147483648) (hy : -2147483648 ≤ y ∧ y < 2147483648) (h0 : y ≠ 0) (k : ax_G p l e R s m args below meth c b D dA nL n0 z0 Q (pc + 1) (L) (iv (x.tdiv y) :: st) (h)) : ax_G p l e R s m args below meth c b D dA nL n0 z0 Q (pc) (L) (iv y :: iv x :: st) (h) := fun H ls locs cells slots I => lv_idiv C.1 C.2.1 hd (fun q => h0 ((ax_eq hy ax_ir0).mp q)) (ax_top (ax_div hx hy) (k H ls locs cells slots I))
theorem ax_rem {x y : Int} (hx : -2147483648 ≤ x ∧ x < 2147483648) (hy : -2147483648 ≤ y ∧ y < 2147483648) : Int32.ofInt x - Int32.ofInt x / Int32.ofInt y * Int32.ofInt y = Int32.ofInt (x.tmod y) := by
  rw [ax_div hx hy, ← Int32.ofInt_mul, ← Int32.ofInt_sub]
  congr 1
  have := Int.mul_tdiv_add_tmod x y
  rw [Int.mul_comm] at this
  omega
theorem g_irem (C : ax_C p R s m args meth c b D dA nL n0 cc own ht) {x y : Int} (hd : decode cc pc = .ok (.irem, 1)) (hx : -2147483648 ≤ x ∧ x < 2147483648) (hy : -2147483648 ≤ y ∧ y < 2147483648) (h0 : y ≠ 0) (k : ax_G p l e R s m args below meth c b D dA nL n0 z0 Q (pc + 1) (L) (iv (x.tmod y) :: st) (h)) : ax_G p l e R s m args below meth c b D dA nL n0 z0 Q (pc) (L) (iv y :: iv x :: st) (h) := fun H ls locs cells slots I => lv_irem C.1 C.2.1 hd (fun q => h0 ((ax_eq hy ax_ir0).mp q)) (ax_top (ax_rem hx hy) (k H ls locs cells slots I))
theorem ax_s31 : ∀ n : Nat, n < 32 → ((Int32.ofInt (n : Int) &&& 31).toBitVec.smod 32).toNat = n := by decide +kernel
theorem ax_shl (x : Int) {n : Nat} (hn : n < 32) : Int32.ofInt x <<< (Int32.ofInt (n : Int) &&& 31) = Int32.ofInt (x * 2 ^ n) := by
  apply Int32.toBitVec_inj.mp
  apply BitVec.eq_of_toNat_eq
  rw [pk_shl _ _ n (ax_s31 n hn), Int32.toBitVec_ofInt, Int32.toBitVec_ofInt, BitVec.toNat_ofInt, BitVec.toNat_ofInt]
  have hp : (0 : Int) < ((2 ^ 32 : Nat) : Int) := by decide
  have h1 := Int.emod_nonneg x (Int.ne_of_gt hp)
  have h2 := Int.emod_nonneg (x * 2 ^ n) (Int.ne_of_gt hp)
  apply Int.ofNat_inj.mp
  rw [Int.toNat_of_nonneg h2, Int.natCast_emod, Int.natCast_mul, Int.toNat_of_nonneg h1, Int.natCast_pow, Int.natCast_pow, Int.mul_emod, Int.emod_emod, ← Int.mul_emod]
  rfl
theorem g_ishl (C : ax_C p R s m args meth c b D dA nL n0 cc own ht) {x : Int} {n : Nat} (hd : decode cc pc = .ok (.ishl, 1)) (hn : n < 32) (k : ax_G p l e R s m args below meth c b D dA nL n0 z0 Q (pc + 1) (L) (iv (x * 2 ^ n) :: st) (h)) : ax_G p l e R s m args below meth c b D dA nL n0 z0 Q (pc) (L) (iv (n : Int) :: iv x :: st) (h) := fun H ls locs cells slots I => lv_ishl C.1 C.2.1 hd (ax_top (ax_shl x hn) (k H ls locs cells slots I))
theorem ax_shr {x : Int} (hx : -2147483648 ≤ x ∧ x < 2147483648) {n : Nat} (hn : n < 32) : Int32.ofInt x >>> (Int32.ofInt (n : Int) &&& 31) = Int32.ofInt (x / 2 ^ n) := by
  apply Int32.toInt_inj.mp
  have hp : (0 : Int) < 2 ^ n := Int.pow_pos (by decide)
  have hle : x / 2 ^ n < 2147483648 := by
    rcases Int.le_total 0 x with h0 | h0
    · have := Int.ediv_le_self (2 ^ n) h0
      omega
    · have h9 : x / 2 ^ n ≤ 0 / 2 ^ n := Int.ediv_le_ediv hp h0
      rw [Int.zero_ediv] at h9
      omega
  have hge : -2147483648 ≤ x / 2 ^ n := by
    rw [Int.le_ediv_iff_mul_le hp]
    have : (1 : Int) ≤ 2 ^ n := hp
    omega
  rw [pk_shr _ _ n (ax_s31 n hn), ax_ti hx, ax_ti ⟨hge, hle⟩, Int.shiftRight_eq_div_pow]
  rfl
theorem g_ishr (C : ax_C p R s m args meth c b D dA nL n0 cc own ht) {x : Int} {n : Nat} (hd : decode cc pc = .ok (.ishr, 1)) (hx : -2147483648 ≤ x ∧ x < 2147483648) (hn : n < 32) (k : ax_G p l e R s m args below meth c b D dA nL n0 z0 Q (pc + 1) (L) (iv (x / 2 ^ n) :: st) (h)) : ax_G p l e R s m args below meth c b D dA nL n0 z0 Q (pc) (L) (iv (n : Int) :: iv x :: st) (h) := fun H ls locs cells slots I => lv_ishr C.1 C.2.1 hd (ax_top (ax_shr hx hn) (k H ls locs cells slots I))
theorem g_iand (C : ax_C p R s m args meth c b D dA nL n0 cc own ht) {x y z : Int} (hd : decode cc pc = .ok (.iand, 1)) (hz : Int32.ofInt x &&& Int32.ofInt y = Int32.ofInt z) (k : ax_G p l e R s m args below meth c b D dA nL n0 z0 Q (pc + 1) (L) (iv z :: st) (h)) : ax_G p l e R s m args below meth c b D dA nL n0 z0 Q (pc) (L) (iv y :: iv x :: st) (h) := fun H ls locs cells slots I => lv_iand C.1 C.2.1 hd (ax_top hz (k H ls locs cells slots I))
theorem g_ior (C : ax_C p R s m args meth c b D dA nL n0 cc own ht) {x y z : Int} (hd : decode cc pc = .ok (.ior, 1)) (hz : Int32.ofInt x ||| Int32.ofInt y = Int32.ofInt z) (k : ax_G p l e R s m args below meth c b D dA nL n0 z0 Q (pc + 1) (L) (iv z :: st) (h)) : ax_G p l e R s m args below meth c b D dA nL n0 z0 Q (pc) (L) (iv y :: iv x :: st) (h) := fun H ls locs cells slots I => lv_ior C.1 C.2.1 hd (ax_top hz (k H ls locs cells slots I))
theorem g_ixor (C : ax_C p R s m args meth c b D dA nL n0 cc own ht) {x y z : Int} (hd : decode cc pc = .ok (.ixor, 1)) (hz : Int32.ofInt x ^^^ Int32.ofInt y = Int32.ofInt z) (k : ax_G p l e R s m args below meth c b D dA nL n0 z0 Q (pc + 1) (L) (iv z :: st) (h)) : ax_G p l e R s m args below meth c b D dA nL n0 z0 Q (pc) (L) (iv y :: iv x :: st) (h) := fun H ls locs cells slots I => lv_ixor C.1 C.2.1 hd (ax_top hz (k H ls locs cells slots I))
theorem g_iushr (C : ax_C p R s m args meth c b D dA nL n0 cc own ht) {x y z : Int} (hd : decode cc pc = .ok (.iushr, 1)) (hz : ((Int32.ofInt x).toUInt32 >>> ((Int32.ofInt y).toUInt32 &&& Int32.toUInt32 31)).toInt32 = Int32.ofInt z) (k : ax_G p l e R s m args below meth c b D dA nL n0 z0 Q (pc + 1) (L) (iv z :: st) (h)) : ax_G p l e R s m args below meth c b D dA nL n0 z0 Q (pc) (L) (iv y :: iv x :: st) (h) := fun H ls locs cells slots I => lv_iushr C.1 C.2.1 hd hz (k H ls locs cells slots I)
/-! the stack -/
theorem g_dup (C : ax_C p R s m args meth c b D dA nL n0 cc own ht) {v : ax_V} (hd : decode cc pc = .ok (.dup, 1)) (k : ax_G p l e R s m args below meth c b D dA nL n0 z0 Q (pc + 1) (L) (v :: v :: st) (h)) : ax_G p l e R s m args below meth c b D dA nL n0 z0 Q (pc) (L) (v :: st) (h) := fun H ls locs cells slots I => lv_dup C.1 C.2.1 hd (ax_cat b v) (k H ls locs cells slots I)
theorem g_pop (C : ax_C p R s m args meth c b D dA nL n0 cc own ht) {v : ax_V} (hd : decode cc pc = .ok (.pop, 1)) (k : ax_G p l e R s m args below meth c b D dA nL n0 z0 Q (pc + 1) (L) (st) (h)) : ax_G p l e R s m args below meth c b D dA nL n0 z0 Q (pc) (L) (v :: st) (h) := fun H ls locs cells slots I => lv_pop C.1 C.2.1 hd (ax_cat b v) (k H ls locs cells slots I)
theorem g_dup2 (C : ax_C p R s m args meth c b D dA nL n0 cc own ht) {v w : ax_V} (hd : decode cc pc = .ok (.dup2, 1)) (k : ax_G p l e R s m args below meth c b D dA nL n0 z0 Q (pc + 1) (L) (v :: w :: v :: w :: st) (h)) : ax_G p l e R s m args below meth c b D dA nL n0 z0 Q (pc) (L) (v :: w :: st) (h) := fun H ls locs cells slots I => lv_dup2_11 C.1 C.2.1 hd (ax_cat b v) (ax_cat b w) (k H ls locs cells slots I)
/-! branches -/
theorem g_goto (C : ax_C p R s m args meth c b D dA nL n0 cc own ht) {off : Int} {tgt : Nat} (hd : decode cc pc = .ok (.goto off, 3)) (ht : (pc : Int) + off = (tgt : Int)) (k : ax_G p l e R s m args below meth c b D dA nL n0 z0 Q (tgt) (L) (st) (h)) : ax_G p l e R s m args below meth c b D dA nL n0 z0 Q (pc) (L) (st) (h) := fun H ls locs cells slots I => lv_goto C.1 C.2.1 hd ht (k H ls locs cells slots I)
theorem g_icmp_eq (C : ax_C p R s m args meth c b D dA nL n0 cc own ht) {x y off : Int} {tgt : Nat} (hd : decode cc pc = .ok (.if_icmp .eq off, 3)) (ht : (pc : Int) + off = (tgt : Int)) (hx : -2147483648 ≤ x ∧ x < 2147483648) (hy : -2147483648 ≤ y ∧ y < 2147483648) (kt : x = y → ax_G p l e R s m args below meth c b D dA nL n0 z0 Q (tgt) (L) (st) (h)) (kf : ¬ (x = y) → ax_G p l e R s m args below meth c b D dA nL n0 z0 Q (pc + 3) (L) (st) (h)) : ax_G p l e R s m args below meth c b D dA nL n0 z0 Q (pc) (L) (iv y :: iv x :: st) (h) := fun H ls locs cells slots I => lv_icmp_eq C.1 C.2.1 hd ht (fun q => kt ((ax_eq hx hy).mp q) H ls locs cells slots I) (fun q => kf (fun z => q ((ax_eq hx hy).mpr z)) H ls locs cells slots I)
theorem g_icmp_ne (C : ax_C p R s m args meth c b D dA nL n0 cc own ht) {x y off : Int} {tgt : Nat} (hd : decode cc pc = .ok (.if_icmp .ne off, 3)) (ht : (pc : Int) + off = (tgt : Int)) (hx : -2147483648 ≤ x ∧ x < 2147483648) (hy : -2147483648 ≤ y ∧ y < 2147483648) (kt : ¬ x = y → ax_G p l e R s m args below meth c b D dA nL n0 z0 Q (tgt) (L) (st) (h)) (kf : x = y → ax_G p l e R s m args below meth c b D dA nL n0 z0 Q (pc + 3) (L) (st) (h)) : ax_G p l e R s m args below meth c b D dA nL n0 z0 Q (pc) (L) (iv y :: iv x :: st) (h) := fun H ls locs cells slots I => lv_icmp_ne C.1 C.2.1 hd ht (fun q => kt (((not_congr (ax_eq hx hy))).mp q) H ls locs cells slots I) (fun q => kf ((ax_eq hx hy).mp q) H ls locs cells slots I)
theorem g_icmp_lt (C : ax_C p R s m args meth c b D dA nL n0 cc own ht) {x y off : Int} {tgt : Nat} (hd : decode cc pc = .ok (.if_icmp .lt off, 3)) (ht : (pc : Int) + off = (tgt : Int)) (hx : -2147483648 ≤ x ∧ x < 2147483648) (hy : -2147483648 ≤ y ∧ y < 2147483648) (kt : x < y → ax_G p l e R s m args below meth c b D dA nL n0 z0 Q (tgt) (L) (st) (h)) (kf : ¬ (x < y) → ax_G p l e R s m args below meth c b D dA nL n0 z0 Q (pc + 3) (L) (st) (h)) : ax_G p l e R s m args below meth c b D dA nL n0 z0 Q (pc) (L) (iv y :: iv x :: st) (h) := fun H ls locs cells slots I => lv_icmp_lt C.1 C.2.1 hd ht (fun q => kt ((ax_lt hx hy).mp q) H ls locs cells slots I) (fun q => kf (fun z => q ((ax_lt hx hy).mpr z)) H ls locs cells slots I)
theorem g_icmp_ge (C : ax_C p R s m args meth c b D dA nL n0 cc own ht) {x y off : Int} {tgt : Nat} (hd : decode cc pc = .ok (.if_icmp .ge off, 3)) (ht : (pc : Int) + off = (tgt : Int)) (hx : -2147483648 ≤ x ∧ x < 2147483648) (hy : -2147483648 ≤ y ∧ y < 2147483648) (kt : y ≤ x → ax_G p l e R s m args below meth c b D dA nL n0 z0 Q (tgt) (L) (st) (h)) (kf : ¬ (y ≤ x) → ax_G p l e R s m args below meth c b D dA nL n0 z0 Q (pc + 3) (L) (st) (h)) : ax_G p l e R s m args below meth c b D dA nL n0 z0 Q (pc) (L) (iv y :: iv x :: st) (h) := fun H ls locs cells slots I => lv_icmp_ge C.1 C.2.1 hd ht (fun q => kt ((ax_le hy hx).mp q) H ls locs cells slots I) (fun q => kf (fun z => q ((ax_le hy hx).mpr z)) H ls locs cells slots I)
theorem g_icmp_gt (C : ax_C p R s m args meth c b D dA nL n0 cc own ht) {x y off : Int} {tgt : Nat} (hd : decode cc pc = .ok (.if_icmp .gt off, 3)) (ht : (pc : Int) + off = (tgt : Int)) (hx : -2147483648 ≤ x ∧ x < 2147483648) (hy : -2147483648 ≤ y ∧ y < 2147483648) (kt : y < x → ax_G p l e R s m args below meth c b D dA nL n0 z0 Q (tgt) (L) (st) (h)) (kf : ¬ (y < x) → ax_G p l e R s m args below meth c b D dA nL n0 z0 Q (pc + 3) (L) (st) (h)) : ax_G p l e R s m args below meth c b D dA nL n0 z0 Q (pc) (L) (iv y :: iv x :: st) (h) := fun H ls locs cells slots I => lv_icmp_gt C.1 C.2.1 hd ht (fun q => kt ((ax_lt hy hx).mp q) H ls locs cells slots I) (fun q => kf (fun z => q ((ax_lt hy hx).mpr z)) H ls locs cells slots I)
theorem g_icmp_le (C : ax_C p R s m args meth c b D dA nL n0 cc own ht) {x y off : Int} {tgt : Nat} (hd : decode cc pc = .ok (.if_icmp .le off, 3)) (ht : (pc : Int) + off = (tgt : Int)) (hx : -2147483648 ≤ x ∧ x < 2147483648) (hy : -2147483648 ≤ y ∧ y < 2147483648) (kt : x ≤ y → ax_G p l e R s m args below meth c b D dA nL n0 z0 Q (tgt) (L) (st) (h)) (kf : ¬ (x ≤ y) → ax_G p l e R s m args below meth c b D dA nL n0 z0 Q (pc + 3) (L) (st) (h)) : ax_G p l e R s m args below meth c b D dA nL n0 z0 Q (pc) (L) (iv y :: iv x :: st) (h) := fun H ls locs cells slots I => lv_icmp_le C.1 C.2.1 hd ht (fun q => kt ((ax_le hx hy).mp q) H ls locs cells slots I) (fun q => kf (fun z => q ((ax_le hx hy).mpr z)) H ls locs cells slots I)
theorem g_if_eq (C : ax_C p R s m args meth c b D dA nL n0 cc own ht) {x off : Int} {tgt : Nat} (hd : decode cc pc = .ok (.ifCond .eq off, 3)) (ht : (pc : Int) + off = (tgt : Int)) (hx : -2147483648 ≤ x ∧ x < 2147483648) (kt : x = 0 → ax_G p l e R s m args below meth c b D dA nL n0 z0 Q (tgt) (L) (st) (h)) (kf : ¬ (x = 0) → ax_G p l e R s m args below meth c b D dA nL n0 z0 Q (pc + 3) (L) (st) (h)) : ax_G p l e R s m args below meth c b D dA nL n0 z0 Q (pc) (L) (iv x :: st) (h) := fun H ls locs cells slots I => lv_if_eq C.1 C.2.1 hd ht (fun q => kt ((ax_eq hx ax_ir0).mp q) H ls locs cells slots I) (fun q => kf (fun z => q ((ax_eq hx ax_ir0).mpr z)) H ls locs cells slots I)
theorem g_if_ne (C : ax_C p R s m args meth c b D dA nL n0 cc own ht) {x off : Int} {tgt : Nat} (hd : decode cc pc = .ok (.ifCond .ne off, 3)) (ht : (pc : Int) + off = (tgt : Int)) (hx : -2147483648 ≤ x ∧ x < 2147483648) (kt : ¬ x = 0 → ax_G p l e R s m args below meth c b D dA nL n0 z0 Q (tgt) (L) (st) (h)) (kf : x = 0 → ax_G p l e R s m args below meth c b D dA nL n0 z0 Q (pc + 3) (L) (st) (h)) : ax_G p l e R s m args below meth c b D dA nL n0 z0 Q (pc) (L) (iv x :: st) (h) := fun H ls locs cells slots I => lv_if_ne C.1 C.2.1 hd ht (fun q => kt (((not_congr (ax_eq hx ax_ir0))).mp q) H ls locs cells slots I) (fun q => kf ((ax_eq hx ax_ir0).mp q) H ls locs cells slots I)
theorem g_if_lt (C : ax_C p R s m args meth c b D dA nL n0 cc own ht) {x off : Int} {tgt : Nat} (hd : decode cc pc = .ok (.ifCond .lt off, 3)) (ht : (pc : Int) + off = (tgt : Int)) (hx : -2147483648 ≤ x ∧ x < 2147483648) (kt : x < 0 → ax_G p l e R s m args below meth c b D dA nL n0 z0 Q (tgt) (L) (st) (h)) (kf : ¬ (x < 0) → ax_G p l e R s m args below meth c b D dA nL n0 z0 Q (pc + 3) (L) (st) (h)) : ax_G p l e R s m args below meth c b D dA nL n0 z0 Q (pc) (L) (iv x :: st) (h) := fun H ls locs cells slots I => lv_if_lt C.1 C.2.1 hd ht (fun q => kt ((ax_lt hx ax_ir0).mp q) H ls locs cells slots I) (fun q => kf (fun z => q ((ax_lt hx ax_ir0).mpr z)) H ls locs cells slots I)
theorem g_if_ge (C : ax_C p R s m args meth c b D dA nL n0 cc own ht) {x off : Int} {tgt : Nat} (hd : decode cc pc = .ok (.ifCond .ge off, 3)) (ht : (pc : Int) + off = (tgt : Int)) (hx : -2147483648 ≤ x ∧ x < 2147483648) (kt : 0 ≤ x → ax_G p l e R s m args below meth c b D dA nL n0 z0 Q (tgt) (L) (st) (h)) (kf : ¬ (0 ≤ x) → ax_G p l e R s m args below meth c b D dA nL n0 z0 Q (pc + 3) (L) (st) (h)) : ax_G p l e R s m args below meth c b D dA nL n0 z0 Q (pc) (L) (iv x :: st) (h) := fun H ls locs cells slots I => lv_if_ge C.1 C.2.1 hd ht (fun q => kt ((ax_le ax_ir0 hx).mp q) H ls locs cells slots I) (fun q => kf (fun z => q ((ax_le ax_ir0 hx).mpr z)) H ls locs cells slots I)
theorem g_if_gt (C : ax_C p R s m args meth c b D dA nL n0 cc own ht) {x off : Int} {tgt : Nat} (hd : decode cc pc = .ok (.ifCond .gt off, 3)) (ht : (pc : Int) + off = (tgt : Int)) (hx : -2147483648 ≤ x ∧ x < 2147483648) (kt : 0 < x → ax_G p l e R s m args below meth c b D dA nL n0 z0 Q (tgt) (L) (st) (h)) (kf : ¬ (0 < x) → ax_G p l e R s m args below meth c b D dA nL n0 z0 Q (pc + 3) (L) (st) (h)) : ax_G p l e R s m args below meth c b D dA nL n0 z0 Q (pc) (L) (iv x :: st) (h) := fun H ls locs cells slots I => lv_if_gt C.1 C.2.1 hd ht (fun q => kt ((ax_lt ax_ir0 hx).mp q) H ls locs cells slots I) (fun q => kf (fun z => q ((ax_lt ax_ir0 hx).mpr z)) H ls locs cells slots I)
theorem g_if_le (C : ax_C p R s m args meth c b D dA nL n0 cc own ht) {x off : Int} {tgt : Nat} (hd : decode cc pc = .ok (.ifCond .le off, 3)) (ht : (pc : Int) + off = (tgt : Int)) (hx : -2147483648 ≤ x ∧ x < 2147483648) (kt : x ≤ 0 → ax_G p l e R s m args below meth c b D dA nL n0 z0 Q (tgt) (L) (st) (h)) (kf : ¬ (x ≤ 0) → ax_G p l e R s m args below meth c b D dA nL n0 z0 Q (pc + 3) (L) (st) (h)) : ax_G p l e R s m args below meth c b D dA nL n0 z0 Q (pc) (L) (iv x :: st) (h) := fun H ls locs cells slots I => lv_if_le C.1 C.2.1 hd ht (fun q => kt ((ax_le hx ax_ir0).mp q) H ls locs cells slots I) (fun q => kf (fun z => q ((ax_le hx ax_ir0).mpr z)) H ls locs cells slots I)
theorem g_ifnonnull (C : ax_C p R s m args meth c b D dA nL n0 cc own ht) {a : Nat} {off : Int} {tgt : Nat} (hd : decode cc pc = .ok (.ifnonnull off, 3)) (ht : (pc : Int) + off = (tgt : Int)) (k : ax_G p l e R s m args below meth c b D dA nL n0 z0 Q (tgt) (L) (st) (h)) : ax_G p l e R s m args below meth c b D dA nL n0 z0 Q (pc) (L) (rv a :: st) (h) := fun H ls locs cells slots I => lv_ifnonnull C.1 C.2.1 hd ht (k H ls locs cells slots I)
theorem g_ifnonnullN (C : ax_C p R s m args meth c b D dA nL n0 cc own ht) {off : Int} (hd : decode cc pc = .ok (.ifnonnull off, 3)) (k : ax_G p l e R s m args below meth c b D dA nL n0 z0 Q (pc + 3) (L) (st) (h)) : ax_G p l e R s m args below meth c b D dA nL n0 z0 Q (pc) (L) (nv :: st) (h) := fun H ls locs cells slots I => lv_ifnonnullN C.1 C.2.1 hd (k H ls locs cells slots I)
theorem g_ifnull (C : ax_C p R s m args meth c b D dA nL n0 cc own ht) {a : Nat} {off : Int} (hd : decode cc pc = .ok (.ifnull off, 3)) (k : ax_G p l e R s m args below meth c b D dA nL n0 z0 Q (pc + 3) (L) (st) (h)) : ax_G p l e R s m args below meth c b D dA nL n0 z0 Q (pc) (L) (rv a :: st) (h) := fun H ls locs cells slots I => lv_ifnull C.1 C.2.1 hd (k H ls locs cells slots I)
theorem g_ifnullN (C : ax_C p R s m args meth c b D dA nL n0 cc own ht) {off : Int} {tgt : Nat} (hd : decode cc pc = .ok (.ifnull off, 3)) (ht : (pc : Int) + off = (tgt : Int)) (k : ax_G p l e R s m args below meth c b D dA nL n0 z0 Q (tgt) (L) (st) (h)) : ax_G p l e R s m args below meth c b D dA nL n0 z0 Q (pc) (L) (nv :: st) (h) := fun H ls locs cells slots I => lv_ifnullN C.1 C.2.1 hd ht (k H ls locs cells slots I)
theorem g_lookup (C : ax_C p R s m args meth c b D dA nL n0 cc own ht) {x dflt off : Int} {ps : Array (Int × Int)} {len tgt : Nat} (hd : decode cc pc = .ok (.lookupswitch dflt ps, len)) (hx : -2147483648 ≤ x ∧ x < 2147483648) (hp : (ps.toList.zip (ps.toList.drop 1)).all (fun (a, next) => a.1 < next.1) = true) (ho : Op.lookupswitch.offset ps.toList dflt x = off) (ht : (pc : Int) + off = (tgt : Int)) (k : ax_G p l e R s m args below meth c b D dA nL n0 z0 Q (tgt) (L) (st) (h)) : ax_G p l e R s m args below meth c b D dA nL n0 z0 Q (pc) (L) (iv x :: st) (h) := fun H ls locs cells slots I => lv_lookup C.1 C.2.1 hd hp (by rw [ax_ti hx]; exact ho) ht (k H ls locs cells slots I)
theorem g_tableOut (C : ax_C p R s m args meth c b D dA nL n0 cc own ht) {x dflt lo hi : Int} {offs : Array Int} {len tgt : Nat} (hd : decode cc pc = .ok (.tableswitch dflt lo hi offs, len)) (hx : -2147483648 ≤ x ∧ x < 2147483648) (ho : x < lo ∨ hi < x) (ht : (pc : Int) + dflt = (tgt : Int)) (k : ax_G p l e R s m args below meth c b D dA nL n0 z0 Q (tgt) (L) (st) (h)) : ax_G p l e R s m args below meth c b D dA nL n0 z0 Q (pc) (L) (iv x :: st) (h) := fun H ls locs cells slots I => lv_tableOut C.1 C.2.1 hd (by rw [ax_ti hx]; exact ho) ht (k H ls locs cells slots I)
theorem g_tableIn (C : ax_C p R s m args meth c b D dA nL n0 cc own ht) {x dflt lo hi off : Int} {offs : Array Int} {len tgt : Nat} (hd : decode cc pc = .ok (.tableswitch dflt lo hi offs, len)) (hx : -2147483648 ≤ x ∧ x < 2147483648) (h1 : ¬ x < lo) (h2 : ¬ hi < x) (ho : offs[(x - lo).toNat]? = some off) (ht : (pc : Int) + off = (tgt : Int)) (k : ax_G p l e R s m args below meth c b D dA nL n0 z0 Q (tgt) (L) (st) (h)) : ax_G p l e R s m args below meth c b D dA nL n0 z0 Q (pc) (L) (iv x :: st) (h) := fun H ls locs cells slots I => lv_tableIn C.1 C.2.1 hd (by rw [ax_ti hx]; exact h1) (by rw [ax_ti hx]; exact h2) (by rw [ax_ti hx]; exact ho) ht (k H ls locs cells slots I)
end AXR
end
section
section AXH
variable {p : Program} {l : Launch} {e : Env} {R : Room} {s : State} {m : MethodId} {args : Array Value} {below : List Frame} {meth : Method} {c : Code} {b : Nat} {D : va_G} {dA : Nat → ClassId} {nL n0 z0 : Nat} {Q : State → Prop} {cc : ByteArray} {own : String} {ht : Nat} {pc : Nat} {L : List (Option ax_V)} {st : List ax_V} {h : ax_H}
/-- a field as an instruction of the class own names it: field k of the objects of kind ci -/
def ax_fld (own : String) (idx ci k : Nat) (ty : FieldType) (fin : Bool) : Prop :=
  ∃ (Cn : String) (T : u_T) (N : Nat) (ty0 : Nat → FieldType), vwCl[ci]? = some (Cn, T, N) ∧ k < N ∧ (∀ w ∈ u_ws Cn T N, w ∈ ax_tb) ∧ (∀ k, k < N → parseFieldDescriptor (T k).2.2.1 = some (ty0 k)) ∧ (∀ a, a < N → ∀ b, b < N → a ≠ b → (T a).2.1 ≠ (T b).2.1) ∧ Cond.fieldLink own idx (T k).1 (T k).2.1 (T k).2.2.1 ∈ ax_tb ∧ (T k).2.2.2 = fin ∧ parseFieldDescriptor (T k).2.2.1 = some ty ∧ (T k).1 = Cn
theorem g_get (C : ax_C p R s m args meth c b D dA nL n0 cc own ht) {idx ci k a : Nat} {ty : FieldType} {fin : Bool} {fs : List ax_V} {v : ax_V} (F : ax_fld own idx ci k ty fin) (hd : decode cc pc = .ok (.getfield idx, 3)) (ha : h[a]? = some (.inr (ci, fs))) (hv : fs[k]? = some v) (kk : ax_G p l e R s m args below meth c b D dA nL n0 z0 Q (pc + 3) (L) (v :: st) (h)) : ax_G p l e R s m args below meth c b D dA nL n0 z0 Q (pc) (L) (rv a :: st) (h) := by
  obtain ⟨Cn, T, N, ty0, f1, f2, f3, f4, f5, f6, f7, f8, f9⟩ := F
  intro H ls locs cells slots I
  exact va_get (D := D) (ci := ci) (v := ax_v b v) (C := Cn) (T := T) (N := N) C.1 C.2.1 C.2.2.2.2.1 f3 C.2.2.2.1 C.2.2.2.2.2.1 I.2.1 a (ax_w_at ha) f1 k f2 (C.2.2.2.2.1 _ f6) (fun _ h9 => h9) (by simp [hv]) hd (kk H ls locs cells slots I)
theorem ax_I.wrote {H H' : Heap} {ls : Array Slot} {locs : List Loc} {cells slots : Nat} (I : ax_I R s b D dA nL n0 z0 L h H ls locs cells slots) {a : Nat} {e0 e1 : ax_E} (ha : h[a]? = some e0) (hz : ax_z e1 = ax_z e0) (he : va_at D vwCl (b + a, ax_e b dA e1) H') (h2 : H'.size = H.size) (h3 : ∀ q, q ≠ b + a → H'[q]? = H[q]?) (x : Loc) (hx : x.base = b + a) : ax_I R s b D dA nL n0 z0 L (h.set a e1) H' ls (locs ++ [x]) cells slots := by
  obtain ⟨a1, a2, a3, a4, a5, a6, a7, a8, a9⟩ := I
  have hsz := ax_sz_set h a e1 e0 ha hz
  refine ⟨by rw [h2, a1, List.length_set], ?_, fun q hq => ?_, fun y hy => ?_, a5, by rw [List.length_set]; exact a6, by rw [hsz]; exact a7, by rw [List.length_set]; exact a8, by rw [hsz]; exact a9⟩
  · have := a2.set (ax_D b dA h) (ax_w_at ha) he h3
    rw [ax_w_set] at this
    exact this
  · rw [h3 q (by omega)]
    exact a3 q hq
  · rcases List.mem_append.mp hy with q | q
    · exact a4 y q
    · rw [List.mem_singleton.mp q, hx]
      omega
theorem g_put (C : ax_C p R s m args meth c b D dA nL n0 cc own ht) {idx ci k a : Nat} {ty : FieldType} {fs : List ax_V} {v : ax_V} (F : ax_fld own idx ci k ty false) (hd : decode cc pc = .ok (.putfield idx, 3)) (ha : h[a]? = some (.inr (ci, fs))) (hn : narrow ty (ax_v b v) = ax_v b v) (hfit : fits ty (ax_v b v) = true) (hl : k < fs.length) (kk : ax_G p l e R s m args below meth c b D dA nL n0 z0 Q (pc + 3) (L) (st) (h.set a (.inr (ci, fs.set k v)))) : ax_G p l e R s m args below meth c b D dA nL n0 z0 Q (pc) (L) (v :: rv a :: st) (h) := by
  obtain ⟨Cn, T, N, ty0, f1, f2, f3, f4, f5, f6, f7, f8, f9⟩ := F
  intro H ls locs cells slots I
  have hts := C.2.2.2.2.1
  have hK := C.2.2.2.2.2.1
  have hap := va_apart (own := own) hts f3 ty0 f4 f5 hK f1
  obtain ⟨r, h1, cell, q1, q2, q3, q4⟩ := I.2.1 a _ (ax_w_at ha)
  have hr : r = (Cn, T, N) := Option.some.inj (h1.symm.trans f1)
  subst hr
  obtain ⟨hS, hfc, kC, hkC, hkind⟩ := hK.1 ci _ f1
  obtain ⟨cf, kf, fi, f, hi, hsl⟩ := hS k f2
  have hlay := hts _ (f3 _ (u_in_lay f2))
  unfold u_lay at hlay
  rw [if_neg (by rw [f7]; decide)] at hlay
  have hst := (u_facts hfc hkC (u_lays hts f3 f2) hi).1
  have h6 := u_store hfc hkC hkind hlay hi f8 hn hfit
  refine W.putK C.1 C.2.1 (f := f) ⟨C.2.2.2.1, hts _ f6, ⟨_, _, _, hi⟩, hst⟩ (by rw [q2]; exact h6) q1 q3 (by rw [hsl]; exact k2_hasslot (q4 k f2)) rfl rfl hd fun H' e1 e2 e3 => ?_
  rw [hsl] at e1 ⊢
  refine kk H' ls _ cells slots (I.wrote ha (by simp [ax_z]) ?_ e2 e3 _ rfl)
  have hE : ax_e b dA (.inr (ci, fs.set k v)) = .inr (ci, (fs.map (ax_v b)).set k (ax_v b v)) := by simp [ax_e, List.map_set]
  rw [hE]
  exact ⟨_, f1, t_OB.to (V := updV (vp_V (fs.map (ax_v b))) k (ax_v b v)) ⟨_, e1, q2, q3, t_set q4 hap f2 (ax_v b v)⟩ (fun j _ => vp_updV_set (by rw [List.length_map]; exact hl) (ax_v b v) j)⟩
theorem g_putF (C : ax_C p R s m args meth c b D dA nL n0 cc own ht) {idx ci k a : Nat} {ty : FieldType} {fs : List ax_V} {v : ax_V} (F : ax_fld own idx ci k ty true) (hin2 : meth.name = "<init>") (hcn : ∀ q : vw_C, vwCl[ci]? = some q → q.1 = own) (hd : decode cc pc = .ok (.putfield idx, 3)) (ha : h[a]? = some (.inr (ci, fs))) (hn : narrow ty (ax_v b v) = ax_v b v) (hfit : fits ty (ax_v b v) = true) (hl : k < fs.length) (kk : ax_G p l e R s m args below meth c b D dA nL n0 z0 Q (pc + 3) (L) (st) (h.set a (.inr (ci, fs.set k v)))) : ax_G p l e R s m args below meth c b D dA nL n0 z0 Q (pc) (L) (v :: rv a :: st) (h) := by
  obtain ⟨Cn, T, N, ty0, f1, f2, f3, f4, f5, f6, f7, f8, f9⟩ := F
  intro H ls locs cells slots I
  have hts := C.2.2.2.2.1
  have hK := C.2.2.2.2.2.1
  have hap := va_apart (own := own) hts f3 ty0 f4 f5 hK f1
  obtain ⟨r, h1, cell, q1, q2, q3, q4⟩ := I.2.1 a _ (ax_w_at ha)
  have hr : r = (Cn, T, N) := Option.some.inj (h1.symm.trans f1)
  subst hr
  obtain ⟨hS, hfc, kC, hkC, hkind⟩ := hK.1 ci _ f1
  obtain ⟨cf, kf, fi, f, hi, hsl⟩ := hS k f2
  have hlay := hts _ (f3 _ (u_in_lay f2))
  unfold u_lay at hlay
  rw [if_pos f7] at hlay
  have hst := (u_facts hfc hkC (u_lays hts f3 f2) hi).1
  have hcf : m.cls = cf := by
    obtain ⟨_, _, c', _, _, _, -, -, hf', -, -, -, hown2, -⟩ := Cond.laysFinal_spec hlay
    have e1 : c' = cf := by have := hi.symm.trans hf'; simp at this; exact this.1.symm
    have hcn' : Cn = own := hcn _ f1
    rw [f9, hcn'] at hown2
    rw [← e1]; exact Option.some.inj (C.2.2.2.1.symm.trans hown2)
  have h6 := u_fits hfc hkC hkind (Or.inr hlay) hi f8 hn hfit
  refine W.putFinK C.1 C.2.1 C.2.2.2.1 (hts _ f6) hi hst hcf hin2 (by rw [q2]; exact h6) q1 q3 (by rw [hsl]; exact k2_hasslot (q4 k f2)) rfl rfl hd fun H' e1 e2 e3 => ?_
  rw [hsl] at e1 ⊢
  refine kk H' ls _ cells slots (I.wrote ha (by simp [ax_z]) ?_ e2 e3 _ rfl)
  have hE : ax_e b dA (.inr (ci, fs.set k v)) = .inr (ci, (fs.map (ax_v b)).set k (ax_v b v)) := by simp [ax_e, List.map_set]
  rw [hE]
  exact ⟨_, f1, t_OB.to (V := updV (vp_V (fs.map (ax_v b))) k (ax_v b v)) ⟨_, e1, q2, q3, t_set q4 hap f2 (ax_v b v)⟩ (fun j _ => vp_updV_set (by rw [List.length_map]; exact hl) (ax_v b v) j)⟩
/-! rows of numbers -/
theorem g_iald (C : ax_C p R s m args meth c b D dA nL n0 cc own ht) {a n j : Nat} {i : Int} {f : Nat → Int} (hd : decode cc pc = .ok (.iaload, 1)) (ha : h[a]? = some (.inl (0, n, .inl f))) (hi : i = (j : Int)) (hj : j < n) (hn : n ≤ 1000000) (kk : ax_G p l e R s m args below meth c b D dA nL n0 z0 Q (pc + 1) (L) (iv (f j) :: st) (h)) : ax_G p l e R s m args below meth c b D dA nL n0 z0 Q (pc) (L) (iv i :: rv a :: st) (h) := fun H ls locs cells slots I => va_iald C.1 C.2.1 C.2.2.2.2.2.1 I.2.1 a 0 (ax_w_at ha) rfl (ax_in hi hj hn).1 hd (by rw [(ax_in hi hj hn).2]; exact kk H ls locs cells slots I)
theorem g_zald (C : ax_C p R s m args meth c b D dA nL n0 cc own ht) {a n j : Nat} {i : Int} {f : Nat → Int} (hd : decode cc pc = .ok (.baload, 1)) (ha : h[a]? = some (.inl (1, n, .inl f))) (hi : i = (j : Int)) (hj : j < n) (hn : n ≤ 1000000) (kk : ax_G p l e R s m args below meth c b D dA nL n0 z0 Q (pc + 1) (L) (iv (f j) :: st) (h)) : ax_G p l e R s m args below meth c b D dA nL n0 z0 Q (pc) (L) (iv i :: rv a :: st) (h) := fun H ls locs cells slots I => va_zald C.1 C.2.1 C.2.2.2.2.2.1 I.2.1 a 1 (ax_w_at ha) rfl (ax_in hi hj hn).1 hd (by rw [(ax_in hi hj hn).2]; exact kk H ls locs cells slots I)
theorem ax_updI (f : Nat → Int) (j : Nat) (x : Int) : updV (fun k => Value.int (Int32.ofInt (f k))) j (.int (Int32.ofInt x)) = fun k => Value.int (Int32.ofInt (va_up f j x k)) := by
  funext q
  by_cases hq : q = j
  · subst hq; simp [updV, va_up]
  · simp [updV, va_up, hq]
theorem g_iast (C : ax_C p R s m args meth c b D dA nL n0 cc own ht) {a n j : Nat} {i x : Int} {f : Nat → Int} (hd : decode cc pc = .ok (.iastore, 1)) (ha : h[a]? = some (.inl (0, n, .inl f))) (hi : i = (j : Int)) (hj : j < n) (hn : n ≤ 1000000) (kk : ax_G p l e R s m args below meth c b D dA nL n0 z0 Q (pc + 1) (L) (st) (h.set a (.inl (0, n, .inl (va_up f j x))))) : ax_G p l e R s m args below meth c b D dA nL n0 z0 Q (pc) (L) (iv x :: iv i :: rv a :: st) (h) := fun H ls locs cells slots I => by
  refine W.iast C.1 C.2.1 (I.2.1 a _ (ax_w_at ha)) ((C.2.2.2.2.2.1.2 0 _ rfl).1 n (fun k => .int (Int32.ofInt (f k)))) (fun q => by cases q) (by show ¬ (_ ∨ (arrV _ _ _).slots.size ≤ _); rw [arrV_size]; exact (ax_in hi hj hn).1) rfl rfl hd fun H1 e1 e2 e3 => ?_
  refine kk H1 ls _ cells slots (I.wrote (e1 := .inl (0, n, .inl (va_up f j x))) ha rfl ?_ e2 e3 _ rfl)
  show H1[b + a]? = some (vp_cell _ _)
  rw [e1, (ax_in hi hj hn).2]
  dsimp only
  rw [vp_cell_i, vp_cell_i, arrV_store, ax_updI]
theorem g_zast (C : ax_C p R s m args meth c b D dA nL n0 cc own ht) {a n j : Nat} {i x : Int} {f : Nat → Int} (hd : decode cc pc = .ok (.bastore, 1)) (ha : h[a]? = some (.inl (1, n, .inl f))) (hx : x = 0 ∨ x = 1) (hi : i = (j : Int)) (hj : j < n) (hn : n ≤ 1000000) (kk : ax_G p l e R s m args below meth c b D dA nL n0 z0 Q (pc + 1) (L) (st) (h.set a (.inl (1, n, .inl (va_up f j x))))) : ax_G p l e R s m args below meth c b D dA nL n0 z0 Q (pc) (L) (iv x :: iv i :: rv a :: st) (h) := fun H ls locs cells slots I => by
  have hnr : narrow .boolean (.int (Int32.ofInt x)) = .int (Int32.ofInt x) := by rcases hx with rfl | rfl <;> rfl
  refine W.zast C.1 C.2.1 (I.2.1 a _ (ax_w_at ha)) ((C.2.2.2.2.2.1.2 1 _ rfl).1 n (fun k => .int (Int32.ofInt (f k)))) (fun q => by cases q) (by show ¬ (_ ∨ (arrV _ _ _).slots.size ≤ _); rw [arrV_size]; exact (ax_in hi hj hn).1) rfl rfl hd fun H1 e1 e2 e3 => ?_
  refine kk H1 ls _ cells slots (I.wrote (e1 := .inl (1, n, .inl (va_up f j x))) ha rfl ?_ e2 e3 _ rfl)
  show H1[b + a]? = some (vp_cell _ _)
  rw [e1, (ax_in hi hj hn).2, hnr]
  dsimp only
  rw [vp_cell_i, vp_cell_i, arrV_store, ax_updI]
/-! rows of references -/
theorem ax_rf (b : Nat) (o : Option Nat) : va_rf (o.map (fun a => b + a)) = ax_v b (.inr o) := by cases o <;> rfl
theorem g_aald (C : ax_C p R s m args meth c b D dA nL n0 cc own ht) {a n j t : Nat} {i : Int} {f : Nat → Option Nat} {ty : FieldType} (hd : decode cc pc = .ok (.aaload, 1)) (ha : h[a]? = some (.inl (t, n, .inr f))) (ht : (ax_tys dA)[t]? = some (dA t, ty)) (hty : ty.isReference = true) (hi : i = (j : Int)) (hj : j < n) (hn : n ≤ 1000000) (kk : ax_G p l e R s m args below meth c b D dA nL n0 z0 Q (pc + 1) (L) (.inr (f j) :: st) (h)) : ax_G p l e R s m args below meth c b D dA nL n0 z0 Q (pc) (L) (iv i :: rv a :: st) (h) := fun H ls locs cells slots I => by
  refine W.aald (v := ax_v b (.inr (f j))) (ty := ty) C.1 C.2.1 (I.2.1 a _ (ax_w_at ha)) ((C.2.2.2.2.2.1.2 t _ ht).1 n (fun k => va_rf ((f k).map (fun a => b + a)))) hty (fun q => by cases q) (by show ¬ (_ ∨ (arrV _ _ _).slots.size ≤ _); rw [arrV_size]; exact (ax_in hi hj hn).1) ?_ rfl rfl hd (kk H ls locs cells slots I)
  rw [(ax_in hi hj hn).2]
  show (arrV _ _ _).slots[_]? = _
  rw [arrV_read _ _ hj, ax_rf]
theorem ax_updQ (b : Nat) (f : Nat → Option Nat) (j v : Nat) : updV (fun k => va_rf ((f k).map (fun a => b + a))) j (.ref (b + v)) = fun k => va_rf ((va_up f j (some v) k).map (fun a => b + a)) := by
  funext q
  by_cases hq : q = j
  · subst hq; simp [updV, va_up, va_rf]
  · simp [updV, va_up, hq]
theorem g_aast (C : ax_C p R s m args meth c b D dA nL n0 cc own ht) {a n j t v ci : Nat} {i : Int} {f : Nat → Option Nat} {vs : List ax_V} {r : vw_C} (hd : decode cc pc = .ok (.aastore, 1)) (ha : h[a]? = some (.inl (t, n, .inr f))) (ht : (ax_tys dA)[t]? = some (dA t, .object r.1)) (hv : h[v]? = some (.inr (ci, vs))) (hc : vwCl[ci]? = some r) (hi : i = (j : Int)) (hj : j < n) (hn : n ≤ 1000000) (kk : ax_G p l e R s m args below meth c b D dA nL n0 z0 Q (pc + 1) (L) (st) (h.set a (.inl (t, n, .inr (va_up f j (some v)))))) : ax_G p l e R s m args below meth c b D dA nL n0 z0 Q (pc) (L) (rv v :: iv i :: rv a :: st) (h) := fun H ls locs cells slots I => by
  have hK := C.2.2.2.2.2.1
  have hx := ax_in hi hj hn
  obtain ⟨r', hr', cellV, g1, g2, g3, -⟩ := I.2.1 v _ (ax_w_at hv)
  have hcls := (hK.1 ci r hc).2
  obtain ⟨kA, comp, k1, k2, k3, -⟩ := (hK.2 t _ ht).2
  have hcomp : comp = D.1 ci := Option.some.inj (k3.symm.trans hcls.1)
  subst hcomp
  obtain ⟨kC, hkC, -⟩ := hcls.2
  refine W.aast C.1 C.2.1 (I.2.1 a _ (ax_w_at ha)) (fun q h => by cases h) (fun h => by cases h) k1 k2 rfl hkC ⟨fun q => hx.1 (Or.inl q), by show _ < (arrV _ _ _).slots.size; rw [arrV_size, hx.2]; exact hj⟩ g1 (fun q h => by rw [g3] at h; cases h) (by rw [g2]; exact hkC) (by rw [g2]; exact va_assign hcls) rfl rfl hd fun H1 e1 e2 e3 => ?_
  refine kk H1 ls _ cells slots (I.wrote (e1 := .inl (t, n, .inr (va_up f j (some v)))) ha rfl ?_ e2 e3 _ rfl)
  show H1[b + a]? = some (vp_cell _ _)
  rw [e1, hx.2]
  dsimp only
  rw [vp_cell_q, vp_cell_q, arrV_store, ax_updQ]
theorem g_alen (C : ax_C p R s m args meth c b D dA nL n0 cc own ht) {a n t : Nat} {x : ax_A} {ty : FieldType} (hd : decode cc pc = .ok (.arraylength, 1)) (ha : h[a]? = some (.inl (t, n, x))) (ht : (ax_tys dA)[t]? = some (dA t, ty)) (kk : ax_G p l e R s m args below meth c b D dA nL n0 z0 Q (pc + 1) (L) (iv (n : Int) :: st) (h)) : ax_G p l e R s m args below meth c b D dA nL n0 z0 Q (pc) (L) (rv a :: st) (h) := fun H ls locs cells slots I => by
  rcases x with f | f
  · exact va_alen C.1 C.2.1 C.2.2.2.2.2.1 I.2.1 a t (ax_w_at ha) ht (Int32.ofInt_eq_ofNat (n := n)).symm hd (kk H ls locs cells slots I)
  · exact va_alen C.1 C.2.1 C.2.2.2.2.2.1 I.2.1 a t (ax_w_at ha) ht (Int32.ofInt_eq_ofNat (n := n)).symm hd (kk H ls locs cells slots I)
/-! new cells -/
theorem ax_I.made {H H' : Heap} {ls : Array Slot} {locs : List Loc} {cells slots : Nat} (I : ax_I R s b D dA nL n0 z0 L h H ls locs cells slots) {e1 : ax_E} {k : Nat} (hk : ax_z e1 = k) (hc : h.length + 1 ≤ n0 + R.cells) (hs : ax_sz h + k ≤ z0 + R.slots) (he : va_at D vwCl (b + h.length, ax_e b dA e1) H') (h2 : H'.size = H.size + 1) (h3 : ∀ q, q < H.size → H'[q]? = H[q]?) : ax_I R s b D dA nL n0 z0 L (h ++ [e1]) H' ls locs (cells + 1) (slots + k) := by
  obtain ⟨a1, a2, a3, a4, a5, a6, a7, a8, a9⟩ := I
  subst hk
  have hz := ax_sz_push h e1
  have hl : (h ++ [e1]).length = h.length + 1 := by simp
  refine ⟨by rw [h2, a1, hl]; omega, ?_, fun q hq => ?_, a4, a5, by rw [hl]; omega, by rw [hz]; omega, by rw [hl]; exact hc, by rw [hz]; exact hs⟩
  · rw [← ax_w_push]
    refine va_P.app (a2.kept fun k q hq => h3 _ (a2 k q hq).lt) ?_
    intro k q hq
    have h0 : k < 1 := (List.getElem?_eq_some_iff.mp hq).1
    have h00 : k = 0 := by omega
    subst h00
    cases hq
    exact he
  · rw [h3 q (by omega)]
    exact a3 q hq
def ax_nw (own : String) (idx ci N : Nat) (fs : List ax_V) : Prop :=
  ∃ (Cn : String) (T : u_T) (ty : Nat → FieldType), vwCl[ci]? = some (Cn, T, N) ∧ (∀ w ∈ u_ws Cn T N, w ∈ ax_tb) ∧ (∀ k, k < N → parseFieldDescriptor (T k).2.2.1 = some (ty k)) ∧ Cond.classLink own idx Cn ∈ ax_tb ∧ Cond.instantiable Cn N ∈ ax_tb ∧ Cond.initialized Cn ∈ ax_tb ∧ fs.length = N ∧ (∀ (b : Nat) (j : Nat), j < N → defaultValue (ty j) = vp_V (fs.map (ax_v b)) j)
theorem g_new (C : ax_C p R s m args meth c b D dA nL n0 cc own ht) {idx ci N : Nat} {fs : List ax_V} (F : ax_nw own idx ci N fs) (hd : decode cc pc = .ok (.new idx, 3)) (hc : h.length + 1 ≤ n0 + R.cells) (hs : ax_sz h + N ≤ z0 + R.slots) (kk : ax_G p l e R s m args below meth c b D dA nL n0 z0 Q (pc + 3) (L) (rv h.length :: st) (h ++ [.inr (ci, fs)])) : ax_G p l e R s m args below meth c b D dA nL n0 z0 Q (pc) (L) (st) (h) := by
  obtain ⟨Cn, T, ty, f1, f2, f3, f4, f5, f6, f7, f8⟩ := F
  intro H ls locs cells slots I
  have hts := C.2.2.2.2.1
  have hKn := C.2.2.2.2.2.1.1 ci _ f1
  have i6 := I.2.2.2.2.2.1
  have i7 := I.2.2.2.2.2.2.1
  refine W.newcK C.1 C.2.1 C.2.2.2.1 (hts _ f4) (hts _ f5) (hts _ f6) rfl hd (by omega) (by omega) hKn.2.1 rfl fun H1 kC hkC e1 z1 o1 => ?_
  rw [I.1] at e1
  have I2 := I.made (H' := H1) (e1 := .inr (ci, fs)) (k := N) f7 hc hs ⟨_, f1, (u_born ty hts f2 hKn hkC e1 f3).to (fun j hj => f8 b j hj)⟩ z1 o1
  have := kk H1 ls locs _ _ I2
  show W p l e R s m args below meth c H1 locs (cells + 1) (slots + N) Q (F0 m (pc + 3) ls (.ref H.size :: st.map (ax_v b)))
  rw [I.1]
  exact this
theorem g_newi (C : ax_C p R s m args meth c b D dA nL n0 cc own ht) {n : Nat} {i : Int} (hd : decode cc pc = .ok (.newarray .int, 2)) (hw : Cond.arrayClass .int ∈ ax_tb) (hi : i = (n : Int)) (hn : n < 1000000) (hc : h.length + 1 ≤ n0 + R.cells) (hs : ax_sz h + n ≤ z0 + R.slots) (kk : ax_G p l e R s m args below meth c b D dA nL n0 z0 Q (pc + 2) (L) (rv h.length :: st) (h ++ [.inl (0, n, .inl (fun _ => 0))])) : ax_G p l e R s m args below meth c b D dA nL n0 z0 Q (pc) (L) (iv i :: st) (h) := fun H ls locs cells slots I => by
  have hx := ax_in (n := n + 1) hi (Nat.lt_succ_self n) (by omega)
  have i6 := I.2.2.2.2.2.1
  have i7 := I.2.2.2.2.2.2.1
  have hb4 : componentBytes (newarray.typeOf .int) ≤ 4 := by decide
  refine va_newaK (atype := .int) C.1 C.2.1 (C.2.2.2.2.1 _ hw) rfl hd rfl (fun q => hx.1 (Or.inl q)) hx.2 (Nat.le_trans (Nat.mul_le_mul (Nat.le_of_lt hn) hb4) (by decide)) (by omega) (by omega) rfl fun H1 cA e1 z1 o1 hAr hNm => ?_
  have hcA : cA = dA 0 := Option.some.inj (hNm.symm.trans (C.2.2.2.2.2.1.2 0 _ rfl).2)
  subst hcA
  rw [I.1] at e1
  have I2 := I.made (H' := H1) (e1 := .inl (0, n, .inl (fun _ => 0))) (k := n) rfl hc hs e1 z1 o1
  show W p l e R s m args below meth c H1 locs (cells + 1) (slots + n) Q (F0 m (pc + 2) ls (.ref H.size :: st.map (ax_v b)))
  rw [I.1]
  exact kk H1 ls locs _ _ I2
theorem g_newz (C : ax_C p R s m args meth c b D dA nL n0 cc own ht) {n : Nat} {i : Int} (hd : decode cc pc = .ok (.newarray .boolean, 2)) (hw : Cond.arrayClass .boolean ∈ ax_tb) (hi : i = (n : Int)) (hn : n < 1000000) (hc : h.length + 1 ≤ n0 + R.cells) (hs : ax_sz h + n ≤ z0 + R.slots) (kk : ax_G p l e R s m args below meth c b D dA nL n0 z0 Q (pc + 2) (L) (rv h.length :: st) (h ++ [.inl (1, n, .inl (fun _ => 0))])) : ax_G p l e R s m args below meth c b D dA nL n0 z0 Q (pc) (L) (iv i :: st) (h) := fun H ls locs cells slots I => by
  have hx := ax_in (n := n + 1) hi (Nat.lt_succ_self n) (by omega)
  have i6 := I.2.2.2.2.2.1
  have i7 := I.2.2.2.2.2.2.1
  have hb4 : componentBytes (newarray.typeOf .boolean) ≤ 4 := by decide
  refine va_newaK (atype := .boolean) C.1 C.2.1 (C.2.2.2.2.1 _ hw) rfl hd rfl (fun q => hx.1 (Or.inl q)) hx.2 (Nat.le_trans (Nat.mul_le_mul (Nat.le_of_lt hn) hb4) (by decide)) (by omega) (by omega) rfl fun H1 cA e1 z1 o1 hAr hNm => ?_
  have hcA : cA = dA 1 := Option.some.inj (hNm.symm.trans (C.2.2.2.2.2.1.2 1 _ rfl).2)
  subst hcA
  rw [I.1] at e1
  have I2 := I.made (H' := H1) (e1 := .inl (1, n, .inl (fun _ => 0))) (k := n) rfl hc hs e1 z1 o1
  show W p l e R s m args below meth c H1 locs (cells + 1) (slots + n) Q (F0 m (pc + 2) ls (.ref H.size :: st.map (ax_v b)))
  rw [I.1]
  exact kk H1 ls locs _ _ I2
theorem g_newq (C : ax_C p R s m args meth c b D dA nL n0 cc own ht) {n t idx : Nat} {i : Int} {Cn : String} (hd : decode cc pc = .ok (.anewarray idx, 3)) (hw : Cond.classLink own idx Cn ∈ ax_tb) (ho : Cond.arrayOver (.object Cn) ∈ ax_tb) (ht : (ax_tys dA)[t]? = some (dA t, .object Cn)) (hi : i = (n : Int)) (hn : n < 1000000) (hc : h.length + 1 ≤ n0 + R.cells) (hs : ax_sz h + n ≤ z0 + R.slots) (kk : ax_G p l e R s m args below meth c b D dA nL n0 z0 Q (pc + 3) (L) (rv h.length :: st) (h ++ [.inl (t, n, .inr (fun _ => none))])) : ax_G p l e R s m args below meth c b D dA nL n0 z0 Q (pc) (L) (iv i :: st) (h) := fun H ls locs cells slots I => by
  have hx := ax_in (n := n + 1) hi (Nat.lt_succ_self n) (by omega)
  have i6 := I.2.2.2.2.2.1
  have i7 := I.2.2.2.2.2.2.1
  refine W.anew C.1 C.2.1 C.2.2.2.1 (C.2.2.2.2.1 _ hw) (C.2.2.2.2.1 _ ho) rfl hd rfl (fun q => hx.1 (Or.inl q)) (by rw [hx.2]; omega) (by omega) (by rw [hx.2]; omega) fun cA kA comp f1 f2 f3 f4 => ?_
  obtain ⟨kA', comp', k1, k2, k3, k4⟩ := (C.2.2.2.2.2.1.2 t _ ht).2
  have hcA : cA = dA t := Option.some.inj (f1.symm.trans k4)
  subst hcA
  rw [hx.2]
  generalize hH1 : H.push ({ cls := dA t, slots := Array.replicate n .null, vm := .none } : Cell) = H1
  have z1 : H1.size = H.size + 1 := by rw [← hH1, Array.size_push]
  have e1 : H1[b + h.length]? = some (arrV (dA t) n (fun _ => .null)) := by rw [← I.1, ← hH1, Array.getElem?_push_size, ← arrV_new]
  have o1 : ∀ q : Nat, q < H.size → H1[q]? = H[q]? := fun q hq => by rw [← hH1, Array.getElem?_push, if_neg (Nat.ne_of_lt hq)]
  have I2 := I.made (H' := H1) (e1 := .inl (t, n, .inr (fun _ => none))) (k := n) rfl hc hs e1 z1 o1
  show W p l e R s m args below meth c H1 locs (cells + 1) (slots + n) Q (F0 m (pc + 3) ls (.ref H.size :: st.map (ax_v b)))
  rw [I.1]
  exact kk H1 ls locs _ _ I2
end AXH
end
section
section AXM
variable {p : Program} {l : Launch} {e : Env} {R : Room} {s : State} {m : MethodId} {args : Array Value} {below : List Frame} {meth : Method} {c : Code} {b : Nat} {D : va_G} {dA : Nat → ClassId} {nL n0 z0 : Nat} {Q : State → Prop} {cc : ByteArray} {own : String} {ht : Nat} {pc : Nat} {L : List (Option ax_V)} {st : List ax_V} {h : ax_H}
/-- a method: its name, its bytes, its locals, what it returns, how deep its calls go -/
abbrev ax_M : Type := MethodName × ByteArray × Nat × Option FieldType × Nat
def ax_ws (y : ax_M) : List Cond := Cond.code y.1 y.2.1 y.2.2.1 y.2.2.2.1 :: ax_tb
def ax_rm (y : ax_M) (mc ms : Nat) : Room := { frames := y.2.2.2.2, cells := mc, slots := ms, locals := 38 * y.2.2.2.2 }
def ax_Pc (b : Nat) (D : va_G) (dA : Nat → ClassId) (av : List ax_V) (h : ax_H) : Array Value → State → Prop := fun v U => v = (av.map (ax_v b)).toArray ∧ U.heap.size = b + h.length ∧ va_P D vwCl (ax_w b dA h) U.heap ∧ va_K D vwCl (ax_tys dA) U
def ax_Qc (b : Nat) (D : va_G) (dA : Nat → ClassId) (r : Option ax_V) (h' : ax_H) : Array Value → State → Outcome → State → Prop := fun _ u o t => o = .returned (r.map (ax_v b)) ∧ t.heap.size = b + h'.length ∧ va_P D vwCl (ax_w b dA h') t.heap ∧ ∀ q, q < b → t.heap[q]? = u.heap[q]?
/-- what a method does at these values in this heap: it answers r and leaves the heap h' -/
def ax_Met (y : ax_M) (av : List ax_V) (h : ax_H) (r : Option ax_V) (h' : ax_H) : Prop :=
  h.length ≤ h'.length ∧ ax_sz h ≤ ax_sz h' ∧ ∀ (l : Launch) (b : Nat) (D : va_G) (dA : Nat → ClassId), Met l y.1 (ax_ws y) (ax_rm y (h'.length - h.length) (ax_sz h' - ax_sz h)) (ax_Pc b D dA av h) (ax_Qc b D dA r h') (h'.length - h.length) (ax_sz h' - ax_sz h) (fun q => b ≤ q)
theorem lv_args1 : ∀ (vs : List Value) (i j : Nat) (v : Value), (∀ w ∈ vs, w.category = 1) → vs[j]? = some v → (i + j, v) ∈ lv_args i vs
  | [], i, j, v, _, hv => by simp at hv
  | w :: vs, i, 0, v, _, hv => by
    simp at hv
    subst hv
    simp [lv_args]
  | w :: vs, i, j + 1, v, hc, hv => by
    simp at hv
    have h1 : w.category = 1 := hc w List.mem_cons_self
    have := lv_args1 vs (i + 1) j v (fun x hx => hc x (List.mem_cons_of_mem _ hx)) hv
    simp only [lv_args, h1]
    refine List.mem_cons_of_mem _ ?_
    rw [show i + (j + 1) = i + 1 + j by omega]
    exact this
theorem lg_sl1 : ∀ (vs : List Value), (∀ w ∈ vs, w.category = 1) → (lg_sl vs).length = vs.length
  | [], _ => rfl
  | w :: vs, hc => by
    have h1 : w.category = 1 := hc w List.mem_cons_self
    have := lg_sl1 vs (fun x hx => hc x (List.mem_cons_of_mem _ hx))
    simp only [lg_sl] at this
    simp [lg_sl, h1, this]
theorem ax_met0 {y : ax_M} {av : List ax_V} {h' : ax_H} {r : Option ax_V} (hpl : plainName y.1.cls = true) (hl : h.length ≤ h'.length) (hs : ax_sz h ≤ ax_sz h') (hn : av.length ≤ y.2.2.1)
    (body : ∀ (p : Program) (l : Launch) (e : Env) (R : Room) (s : State) (m : MethodId) (args : Array Value) (below : List Frame) (meth : Method) (c : Code) (b : Nat) (D : va_G) (dA : Nat → ClassId), ax_C p R s m args meth c b D dA y.2.2.1 h.length y.2.1 y.1.cls y.2.2.2.2 → meth.name = y.1.name → meth.sig.returnType = y.2.2.2.1 → h'.length ≤ h.length + R.cells → ax_sz h' ≤ ax_sz h + R.slots →
      ax_G p l e R s m args below meth c b D dA y.2.2.1 h.length (ax_sz h) (MQ below (ax_Qc b D dA r h') args s (h'.length - h.length) (ax_sz h' - ax_sz h) (fun q => b ≤ q)) 0 (av.map some ++ List.replicate (y.2.2.1 - av.length) none) [] h) : ax_Met y av h r h' := by
  refine ⟨hl, hs, fun l b D dA => ?_⟩
  refine Met.ofW (cc := y.2.1) (maxL := y.2.2.1) (ret := y.2.2.2.1) hpl rfl ?_
  intro p e s m args below meth c s₁ B hml hv
  obtain ⟨rfl, hsz, hP, hK⟩ := hv
  have hts := atoms_spec (ws := ax_ws y) B.pre
  have hown : s.vm.findClass y.1.cls = some m.cls := findClass_of_methodNamed B.named
  have hcat : ∀ w ∈ av.map (ax_v b), w.category = 1 := fun w hw => by
    obtain ⟨v, -, rfl⟩ := List.mem_map.mp hw
    exact ax_cat b v
  have hlen := lg_sl1 (av.map (ax_v b)) hcat
  rw [List.length_map] at hlen
  have hle := lv_entry (av.map (ax_v b)) (n := y.2.2.1) (by rw [hlen]; exact hn)
  rw [lg_entry_eq]
  generalize (lg_sl (av.map (ax_v b)) ++ List.replicate (y.2.2.1 - (lg_sl (av.map (ax_v b))).length) Slot.unset).toArray = ls at hle ⊢
  refine body p l e _ s m _ below meth c b D dA ⟨B.exec, B.bytes, hml, hown, fun w hw => hts w (List.mem_cons_of_mem _ hw), hK, rfl, rfl, hsz, B.notSynchronized⟩ (name_of_methodNamed B.named B.method).1 B.returns (by show _ ≤ h.length + (h'.length - h.length); omega) (by show _ ≤ ax_sz h + (ax_sz h' - ax_sz h); omega) s.heap ls [] 0 0 ?_
  refine ⟨hsz, hP, fun _ _ => rfl, (fun _ h => by cases h), ⟨hle.1, hle.2.1, fun i v hi => ?_⟩, by omega, by omega, by omega, by omega⟩
  have hi2 : av[i]? = some v := by
    by_cases hq : i < (av.map some).length
    · rw [List.getElem?_append_left hq, List.getElem?_map] at hi
      cases hx : av[i]? with
      | none => rw [hx] at hi; cases hi
      | some w => rw [hx] at hi; cases hi; rfl
    · rw [List.getElem?_append_right (by omega)] at hi
      have := List.mem_of_getElem? hi
      have := List.eq_of_mem_replicate this
      cases this
  have := lv_args1 (av.map (ax_v b)) 0 i (ax_v b v) hcat (by rw [List.getElem?_map, hi2]; rfl)
  rw [Nat.zero_add] at this
  exact hle.2.2 _ this
theorem ax_q {h' : ax_H} {r : Option ax_V} {H : Heap} {ls : Array Slot} {locs : List Loc} {cells slots : Nat} (I : ax_I R s b D dA nL n0 z0 L h' H ls locs cells slots) {t : State} (ht : t.heap = H) {a : Array Value} {o : Outcome} (ho : o = .returned (r.map (ax_v b))) : ax_Qc b D dA r h' a s o t := by
  subst ht
  exact ⟨ho, I.1, I.2.1, I.2.2.1⟩
theorem g_iret0 {h' : ax_H} {r : Option ax_V} {x : Int} {mc ms : Nat} {ty : FieldType} (C : ax_C p R s m args meth c b D dA nL n0 cc own ht) (hd : decode cc pc = .ok (.ireturn, 1)) (hr : meth.sig.returnType = some ty) (hn : narrow ty (.int (Int32.ofInt x)) = .int (Int32.ofInt x)) (hc : mc + n0 = h'.length) (hs : ms + z0 = ax_sz h') (hx : r = some (iv x)) : ax_G p l e R s m args below meth c b D dA nL n0 z0 (MQ below (ax_Qc b D dA r h') args s mc ms (fun q => b ≤ q)) pc L [iv x] h' := fun H ls locs cells slots I => by
  subst hx
  have e1 : cells = mc := by have := I.2.2.2.2.2.1; omega
  have e2 : slots = ms := by have := I.2.2.2.2.2.2.1; omega
  subst e1; subst e2
  exact W.zret C.1 C.2.1 hr hn (fun t ht _ => ax_q I ht rfl) I.2.2.2.1 hd C.2.2.2.2.2.2.2.2.2
theorem g_vret0 {h' : ax_H} {r : Option ax_V} {mc ms : Nat} (C : ax_C p R s m args meth c b D dA nL n0 cc own ht) (hd : decode cc pc = .ok (.return_, 1)) (hr : meth.sig.returnType = none) (hc : mc + n0 = h'.length) (hs : ms + z0 = ax_sz h') (hx : r = none) : ax_G p l e R s m args below meth c b D dA nL n0 z0 (MQ below (ax_Qc b D dA r h') args s mc ms (fun q => b ≤ q)) pc L [] h' := fun H ls locs cells slots I => by
  subst hx
  have e1 : cells = mc := by have := I.2.2.2.2.2.1; omega
  have e2 : slots = ms := by have := I.2.2.2.2.2.2.1; omega
  subst e1; subst e2
  exact W.vret C.1 C.2.1 hr (fun t ht _ => ax_q I ht rfl) I.2.2.2.1 hd C.2.2.2.2.2.2.2.2.2
theorem g_aret0 {h' : ax_H} {r : Option ax_V} {o : Option Nat} {mc ms : Nat} {ty : FieldType} (C : ax_C p R s m args meth c b D dA nL n0 cc own ht) (hd : decode cc pc = .ok (.areturn, 1)) (hr : meth.sig.returnType = some ty) (hrt : (∃ n, ty = .object n) ∨ ∃ t, ty = .array t) (hc : mc + n0 = h'.length) (hs : ms + z0 = ax_sz h') (hx : r = some (.inr o)) : ax_G p l e R s m args below meth c b D dA nL n0 z0 (MQ below (ax_Qc b D dA r h') args s mc ms (fun q => b ≤ q)) pc L [.inr o] h' := fun H ls locs cells slots I => by
  subst hx
  have e1 : cells = mc := by have := I.2.2.2.2.2.1; omega
  have e2 : slots = ms := by have := I.2.2.2.2.2.2.1; omega
  subst e1; subst e2
  exact W.aret C.1 C.2.1 hr hrt (by cases o with
    | none => exact Or.inl rfl
    | some a => exact Or.inr ⟨_, rfl⟩) (fun t ht _ => ax_q I ht rfl) I.2.2.2.1 hd C.2.2.2.2.2.2.2.2.2
/-! a method's theorem out of a walk of its body, by what it returns: an int, a boolean, nothing, a reference -/
theorem ax_meti {y : ax_M} {av : List ax_V} {h' : ax_H} {r : Option ax_V} (hpl : plainName y.1.cls = true) (hty : y.2.2.2.1 = some .int) (hl : h.length ≤ h'.length) (hs : ax_sz h ≤ ax_sz h') (hn : av.length ≤ y.2.2.1)
    (body : ∀ (p : Program) (l : Launch) (e : Env) (R : Room) (s : State) (m : MethodId) (args : Array Value) (below : List Frame) (meth : Method) (c : Code) (b : Nat) (D : va_G) (dA : Nat → ClassId) (Q : State → Prop), ax_C p R s m args meth c b D dA y.2.2.1 h.length y.2.1 y.1.cls y.2.2.2.2 →
      (∀ (pc : Nat) (L : List (Option ax_V)) (x : Int), decode y.2.1 pc = .ok (.ireturn, 1) → r = some (iv x) → ax_G p l e R s m args below meth c b D dA y.2.2.1 h.length (ax_sz h) Q pc L [iv x] h') →
      ax_G p l e R s m args below meth c b D dA y.2.2.1 h.length (ax_sz h) Q 0 (av.map some ++ List.replicate (y.2.2.1 - av.length) none) [] h) : ax_Met y av h r h' :=
  ax_met0 hpl hl hs hn (fun p l e R s m args below meth c b D dA C _ hr _ _ => body p l e R s m args below meth c b D dA _ C (fun pc L x hd hx => g_iret0 C hd (hr.trans hty) rfl (by omega) (by omega) hx))
theorem ax_metz {y : ax_M} {av : List ax_V} {h' : ax_H} {r : Option ax_V} (hpl : plainName y.1.cls = true) (hty : y.2.2.2.1 = some .boolean) (hl : h.length ≤ h'.length) (hs : ax_sz h ≤ ax_sz h') (hn : av.length ≤ y.2.2.1)
    (body : ∀ (p : Program) (l : Launch) (e : Env) (R : Room) (s : State) (m : MethodId) (args : Array Value) (below : List Frame) (meth : Method) (c : Code) (b : Nat) (D : va_G) (dA : Nat → ClassId) (Q : State → Prop), ax_C p R s m args meth c b D dA y.2.2.1 h.length y.2.1 y.1.cls y.2.2.2.2 →
      (∀ (pc : Nat) (L : List (Option ax_V)) (x : Int), decode y.2.1 pc = .ok (.ireturn, 1) → (x = 0 ∨ x = 1) → r = some (iv x) → ax_G p l e R s m args below meth c b D dA y.2.2.1 h.length (ax_sz h) Q pc L [iv x] h') →
      ax_G p l e R s m args below meth c b D dA y.2.2.1 h.length (ax_sz h) Q 0 (av.map some ++ List.replicate (y.2.2.1 - av.length) none) [] h) : ax_Met y av h r h' :=
  ax_met0 hpl hl hs hn (fun p l e R s m args below meth c b D dA C _ hr _ _ => body p l e R s m args below meth c b D dA _ C (fun pc L x hd h01 hx => g_iret0 C hd (hr.trans hty) (by rcases h01 with rfl | rfl <;> rfl) (by omega) (by omega) hx))
theorem ax_metv {y : ax_M} {av : List ax_V} {h' : ax_H} (hpl : plainName y.1.cls = true) (hty : y.2.2.2.1 = none) (hl : h.length ≤ h'.length) (hs : ax_sz h ≤ ax_sz h') (hn : av.length ≤ y.2.2.1)
    (body : ∀ (p : Program) (l : Launch) (e : Env) (R : Room) (s : State) (m : MethodId) (args : Array Value) (below : List Frame) (meth : Method) (c : Code) (b : Nat) (D : va_G) (dA : Nat → ClassId) (Q : State → Prop), ax_C p R s m args meth c b D dA y.2.2.1 h.length y.2.1 y.1.cls y.2.2.2.2 → meth.name = y.1.name → h'.length ≤ h.length + R.cells → ax_sz h' ≤ ax_sz h + R.slots →
      (∀ (pc : Nat) (L : List (Option ax_V)), decode y.2.1 pc = .ok (.return_, 1) → ax_G p l e R s m args below meth c b D dA y.2.2.1 h.length (ax_sz h) Q pc L [] h') →
      ax_G p l e R s m args below meth c b D dA y.2.2.1 h.length (ax_sz h) Q 0 (av.map some ++ List.replicate (y.2.2.1 - av.length) none) [] h) : ax_Met y av h none h' :=
  ax_met0 hpl hl hs hn (fun p l e R s m args below meth c b D dA C hnm hr h1 h2 => body p l e R s m args below meth c b D dA _ C hnm h1 h2 (fun pc L hd => g_vret0 C hd (hr.trans hty) (by omega) (by omega) rfl))
theorem ax_meta {y : ax_M} {av : List ax_V} {h' : ax_H} {r : Option ax_V} {ty : FieldType} (hpl : plainName y.1.cls = true) (hty : y.2.2.2.1 = some ty) (hrt : (∃ n, ty = .object n) ∨ ∃ t, ty = .array t) (hl : h.length ≤ h'.length) (hs : ax_sz h ≤ ax_sz h') (hn : av.length ≤ y.2.2.1)
    (body : ∀ (p : Program) (l : Launch) (e : Env) (R : Room) (s : State) (m : MethodId) (args : Array Value) (below : List Frame) (meth : Method) (c : Code) (b : Nat) (D : va_G) (dA : Nat → ClassId) (Q : State → Prop), ax_C p R s m args meth c b D dA y.2.2.1 h.length y.2.1 y.1.cls y.2.2.2.2 →
      (∀ (pc : Nat) (L : List (Option ax_V)) (o : Option Nat), decode y.2.1 pc = .ok (.areturn, 1) → r = some (.inr o) → ax_G p l e R s m args below meth c b D dA y.2.2.1 h.length (ax_sz h) Q pc L [.inr o] h') →
      ax_G p l e R s m args below meth c b D dA y.2.2.1 h.length (ax_sz h) Q 0 (av.map some ++ List.replicate (y.2.2.1 - av.length) none) [] h) : ax_Met y av h r h' :=
  ax_met0 hpl hl hs hn (fun p l e R s m args below meth c b D dA C _ hr _ _ => body p l e R s m args below meth c b D dA _ C (fun pc L o hd hx => g_aret0 C hd (hr.trans hty) hrt (by omega) (by omega) hx))
/-! calls -/
theorem ax_catsum (b : Nat) : ∀ (rest : List ax_V), ((rest.map (ax_v b)).map fun v => v.category).sum = rest.length
  | [] => rfl
  | v :: rest => by
    have := ax_catsum b rest
    simp only [List.map_cons, List.sum_cons, ax_cat, List.length_cons, this]
    omega
/-- what a call of y needs of the tables, whatever the instruction -/
def ax_cw (y : ax_M) (n : Nat) : Prop := Cond.code y.1 y.2.1 y.2.2.1 y.2.2.2.1 ∈ ax_tb ∧ Cond.initialized y.1.cls ∈ ax_tb ∧ (y.1.cls ≠ "java/lang/invoke/MethodHandle" ∧ y.1.cls ≠ "java/lang/invoke/VarHandle") ∧ (parseMethodDescriptor y.1.desc).map (fun d => d.parameters.length) = some n ∧ y.2.2.1 ≤ 19
theorem ax_blind (b : Nat) (D : va_G) (dA : Nat → ClassId) (av : List ax_V) (h : ax_H) : FrameBlind (ax_Pc b D dA av h) := fun a U g mk q => ⟨q.1, q.2.1, q.2.2.1, va_K.moved (u := U) (U := U.calling g mk a) (Vm.Alike.refl U.vm) q.2.2.2⟩
theorem ax_pre (C : ax_C p R s m args meth c b D dA nL n0 cc own ht) {H : Heap} {ls : Array Slot} {locs : List Loc} {cells slots : Nat} (I : ax_I R s b D dA nL n0 z0 L h H ls locs cells slots) (av : List ax_V) : PreS s H (ax_Pc b D dA av h) (av.map (ax_v b)) := ⟨ax_blind b D dA av h, fun U hU hW => ⟨rfl, by rw [hU]; exact I.1, by rw [hU]; exact I.2.1, va_K.moved hW.alike C.2.2.2.2.2.1⟩⟩
theorem ax_wd (C : ax_C p R s m args meth c b D dA nL n0 cc own ht) {y : ax_M} {n : Nat} (cw : ax_cw y n) : ∀ w ∈ ax_ws y, ∀ (a' : Array Value) (U : State), s.WarmedH U.vm → w.before a' U = true := fun w hw => by
  rcases List.mem_cons.mp hw with rfl | hw
  · exact ax_words C.2.2.2.2.1 _ cw.1
  · exact ax_words C.2.2.2.2.1 _ hw
theorem ax_sg {y : ax_M} {n : Nat} (cw : ax_cw y n) : ∀ sig, parseMethodDescriptor y.1.desc = some sig → n = sig.parameters.length := fun sig hs => by
  have h2 := cw.2.2.2.1
  rw [hs] at h2
  exact (Option.some.inj h2).symm
theorem ax_rmf (C : ax_C p R s m args meth c b D dA nL n0 cc own ht) {y : ax_M} {n mc ms : Nat} (cw : ax_cw y n) (hh : y.2.2.2.2 + 1 ≤ ht) : (ax_rm y mc ms).frames + 1 ≤ R.frames ∧ 8 + (y.2.2.1 + 11) + (ax_rm y mc ms).locals ≤ R.locals := by
  have e1 := C.2.2.2.2.2.2.1
  have e2 := C.2.2.2.2.2.2.2.1
  have e3 := cw.2.2.2.2
  refine ⟨by rw [e1]; exact hh, ?_⟩
  show 8 + (y.2.2.1 + 11) + 38 * y.2.2.2.2 ≤ R.locals
  omega
theorem ax_cb (C : ax_C p R s m args meth c b D dA nL n0 cc own ht) {y : ax_M} {n mc ms idx : Nat} (cw : ax_cw y n) (hl : Cond.methodLink own idx y.1 ∈ ax_tb) (hh : y.2.2.2.2 + 1 ≤ ht) : CallB R s args own idx y.1 y.2.1 y.2.2.1 y.2.2.2.1 (ax_ws y) (ax_rm y mc ms) mc ms n :=
  ⟨rfl, rfl, (ax_rmf C cw hh).1, (ax_rmf C cw hh).2, ax_wd C cw, List.mem_cons_self, C.2.2.2.2.1 _ cw.1, C.2.2.2.2.1 _ cw.2.1, cw.2.2.1, ax_sg cw, C.2.2.2.2.1 _ hl⟩
theorem ax_cn (C : ax_C p R s m args meth c b D dA nL n0 cc own ht) {y : ax_M} {n mc ms idx : Nat} {host : String} (cw : ax_cw y n) (hl : Cond.methodLinkNest own idx y.1 host ∈ ax_tb) (hh : y.2.2.2.2 + 1 ≤ ht) : va_CN R s args own idx y.1 host y.2.1 y.2.2.1 y.2.2.2.1 (ax_ws y) (ax_rm y mc ms) mc ms n :=
  ⟨⟨rfl, rfl, (ax_rmf C cw hh).1, (ax_rmf C cw hh).2, ax_wd C cw, List.mem_cons_self⟩, C.2.2.2.2.1 _ cw.1, C.2.2.2.2.1 _ cw.2.1, cw.2.2.1, ax_sg cw, C.2.2.2.2.1 _ hl⟩
theorem ax_after (C : ax_C p R s m args meth c b D dA nL n0 cc own ht) {H : Heap} {ls : Array Slot} {locs : List Loc} {cells slots : Nat} (I : ax_I R s b D dA nL n0 z0 L h H ls locs cells slots) {stk : List Value} {rest : List ax_V} {r : Option ax_V} {h1 : ax_H} {a : Array Value} (hl : h.length ≤ h1.length) (hz : ax_sz h ≤ ax_sz h1)
    (run : va_Run p l e R s m args below meth c H locs cells slots (h1.length - h.length) (ax_sz h1 - ax_sz h) (F0 m pc ls stk) (rest.map (ax_v b)) (ax_Qc b D dA r h1 a) (fun q => b ≤ q)) (hc : h1.length ≤ n0 + R.cells) (hs : ax_sz h1 ≤ z0 + R.slots) (k : ax_G p l e R s m args below meth c b D dA nL n0 z0 Q (pc + 3) (L) (r.toList ++ rest) (h1)) : W p l e R s m args below meth c H locs cells slots Q (F0 m pc ls stk) := by
  intro T hT X
  obtain ⟨v, st₀, t, T', Lc, e0, X', hL, e1, e2, ⟨hv, hz1, hp1, hq1⟩, go⟩ := run T hT X
  obtain ⟨i1, i2, i3, i4, i5, i6, i7, i8, i9⟩ := I
  have I' : ax_I R s b D dA nL n0 z0 L h1 T'.heap ls (locs ++ Lc) (cells + (h1.length - h.length)) (slots + (ax_sz h1 - ax_sz h)) := by
    refine ⟨by rw [e1]; exact hz1, by rw [e1]; exact hp1, fun q hq => ?_, fun x hx => ?_, i5, by omega, by omega, hc, hs⟩
    · rw [e1, hq1 q hq, e0]
      exact i3 q hq
    · rcases List.mem_append.mp hx with q | q
      · exact i4 x q
      · exact hL x q
  obtain ⟨t2, a1, b1⟩ := k T'.heap ls _ _ _ I' T' rfl X'
  refine ⟨t2, go t2 ?_, b1⟩
  have hv2 : v = r.map (ax_v b) := by cases hv; rfl
  have hstk : v.toList ++ rest.map (ax_v b) = (r.toList ++ rest).map (ax_v b) := by subst hv2; cases r <;> rfl
  rw [hstk]
  exact a1
theorem g_callV (C : ax_C p R s m args meth c b D dA nL n0 cc own ht) {y : ax_M} {n a ci idx : Nat} {av rest : List ax_V} {fs : List ax_V} {r : Option ax_V} {h1 : ax_H} {q : vw_C} (M : ax_Met y (rv a :: av) h r h1) (hd : decode cc pc = .ok (.invokevirtual idx, 3)) (cw : ax_cw y n) (hl : Cond.methodLink own idx y.1 ∈ ax_tb) (hi : Cond.instanceMethod y.1 ∈ ax_tb) (hse : Cond.selects y.1.cls y.1 y.1 ∈ ax_tb) (hh : y.2.2.2.2 + 1 ≤ ht) (hn : av.length = n) (ha : h[a]? = some (.inr (ci, fs))) (hq : vwCl[ci]? = some q) (hq1 : q.1 = y.1.cls) (hst : st = av.reverse ++ rv a :: rest) (hr : rest.length ≤ 8) (hc : h1.length ≤ n0 + R.cells) (hs : ax_sz h1 ≤ z0 + R.slots) (k : ax_G p l e R s m args below meth c b D dA nL n0 z0 Q (pc + 3) (L) (r.toList ++ rest) (h1)) : ax_G p l e R s m args below meth c b D dA nL n0 z0 Q (pc) (L) (st) (h) := fun H ls locs cells slots I => by
  obtain ⟨m1, m2, m3⟩ := M
  obtain ⟨cell, g1, g2, g3⟩ := va_recv C.2.2.2.2.2.1 I.2.1 hq (ax_w_at ha)
  rw [hq1] at g3
  have hp := ax_pre C I (rv a :: av)
  have hR : cells + (h1.length - h.length) ≤ R.cells ∧ slots + (ax_sz h1 - ax_sz h) ≤ R.slots := by have := I.2.2.2.2.2.1; have := I.2.2.2.2.2.2.1; omega
  refine ax_after C I m1 m2 (va_runV (As := av.map (ax_v b)) (rest := rest.map (ax_v b)) ⟨C.1, C.2.1, C.2.2.1, C.2.2.2.1, C.2.2.2.2.1⟩ (m3 l b D dA) ⟨ax_cb C cw hl hh, C.2.2.2.2.1 _ hi, C.2.2.2.2.1 _ hse⟩ ⟨hp.1, ⟨cell, g1, g2, g3⟩, hp.2⟩ rfl (by rw [List.length_map]; exact hn) I.2.2.2.2.1.1 (by rw [hst]; simp [ax_v]) (lv_room (by rw [ax_catsum]; exact hr)) hd hR) hc hs k
theorem g_callS (C : ax_C p R s m args meth c b D dA nL n0 cc own ht) {y : ax_M} {n idx : Nat} {av rest : List ax_V} {r : Option ax_V} {h1 : ax_H} (M : ax_Met y av h r h1) (hd : decode cc pc = .ok (.invokestatic idx, 3)) (cw : ax_cw y n) (hl : Cond.methodLink own idx y.1 ∈ ax_tb) (hi : Cond.static y.1 ∈ ax_tb) (hh : y.2.2.2.2 + 1 ≤ ht) (hn : av.length = n) (hst : st = av.reverse ++ rest) (hr : rest.length ≤ 8) (hc : h1.length ≤ n0 + R.cells) (hs : ax_sz h1 ≤ z0 + R.slots) (k : ax_G p l e R s m args below meth c b D dA nL n0 z0 Q (pc + 3) (L) (r.toList ++ rest) (h1)) : ax_G p l e R s m args below meth c b D dA nL n0 z0 Q (pc) (L) (st) (h) := fun H ls locs cells slots I => by
  obtain ⟨m1, m2, m3⟩ := M
  have hR : cells + (h1.length - h.length) ≤ R.cells ∧ slots + (ax_sz h1 - ax_sz h) ≤ R.slots := by have := I.2.2.2.2.2.1; have := I.2.2.2.2.2.2.1; omega
  refine ax_after C I m1 m2 (va_runS (As := av.map (ax_v b)) (rest := rest.map (ax_v b)) ⟨C.1, C.2.1, C.2.2.1, C.2.2.2.1, C.2.2.2.2.1⟩ (m3 l b D dA) ⟨ax_cb C cw hl hh, C.2.2.2.2.1 _ hi⟩ (ax_pre C I av) rfl (by rw [List.length_map]; exact hn) I.2.2.2.2.1.1 (by rw [hst]; simp) (lv_room (by rw [ax_catsum]; exact hr)) hd hR) hc hs k
theorem g_callSN (C : ax_C p R s m args meth c b D dA nL n0 cc own ht) {y : ax_M} {n idx : Nat} {host : String} {av rest : List ax_V} {r : Option ax_V} {h1 : ax_H} (M : ax_Met y av h r h1) (hd : decode cc pc = .ok (.invokestatic idx, 3)) (cw : ax_cw y n) (hl : Cond.methodLinkNest own idx y.1 host ∈ ax_tb) (hi : Cond.static y.1 ∈ ax_tb) (hh : y.2.2.2.2 + 1 ≤ ht) (hn : av.length = n) (hst : st = av.reverse ++ rest) (hr : rest.length ≤ 8) (hc : h1.length ≤ n0 + R.cells) (hs : ax_sz h1 ≤ z0 + R.slots) (k : ax_G p l e R s m args below meth c b D dA nL n0 z0 Q (pc + 3) (L) (r.toList ++ rest) (h1)) : ax_G p l e R s m args below meth c b D dA nL n0 z0 Q (pc) (L) (st) (h) := fun H ls locs cells slots I => by
  obtain ⟨m1, m2, m3⟩ := M
  have hR : cells + (h1.length - h.length) ≤ R.cells ∧ slots + (ax_sz h1 - ax_sz h) ≤ R.slots := by have := I.2.2.2.2.2.1; have := I.2.2.2.2.2.2.1; omega
  refine ax_after C I m1 m2 (va_runSN (As := av.map (ax_v b)) (rest := rest.map (ax_v b)) ⟨C.1, C.2.1, C.2.2.1, C.2.2.2.1, C.2.2.2.2.1⟩ (m3 l b D dA) ⟨ax_cn C cw hl hh, C.2.2.2.2.1 _ hi, trivial⟩ (ax_pre C I av) rfl (by rw [List.length_map]; exact hn) I.2.2.2.2.1.1 (by rw [hst]; simp) (lv_room (by rw [ax_catsum]; exact hr)) hd hR) hc hs k
theorem g_callI (C : ax_C p R s m args meth c b D dA nL n0 cc own ht) {y : ax_M} {n a idx : Nat} {av rest : List ax_V} {h1 : ax_H} (M : ax_Met y (rv a :: av) h none h1) (hd : decode cc pc = .ok (.invokespecial idx, 3)) (cw : ax_cw y n) (hv : y.2.2.2.1 = none) (hnm : y.1.name = "<init>") (hl : Cond.methodLink own idx y.1 ∈ ax_tb) (hi : Cond.instanceMethod y.1 ∈ ax_tb) (hh : y.2.2.2.2 + 1 ≤ ht) (hn : av.length = n) (hst : st = av.reverse ++ rv a :: rest) (hr : rest.length ≤ 8) (hc : h1.length ≤ n0 + R.cells) (hs : ax_sz h1 ≤ z0 + R.slots) (k : ax_G p l e R s m args below meth c b D dA nL n0 z0 Q (pc + 3) (L) (rest) (h1)) : ax_G p l e R s m args below meth c b D dA nL n0 z0 Q (pc) (L) (st) (h) := fun H ls locs cells slots I => by
  obtain ⟨m1, m2, m3⟩ := M
  have hR : cells + (h1.length - h.length) ≤ R.cells ∧ slots + (ax_sz h1 - ax_sz h) ≤ R.slots := by have := I.2.2.2.2.2.1; have := I.2.2.2.2.2.2.1; omega
  have cb := ax_cb (mc := h1.length - h.length) (ms := ax_sz h1 - ax_sz h) C cw hl hh
  rw [hv] at cb
  exact ax_after (r := none) C I m1 m2 (va_runI (As := av.map (ax_v b)) (rest := rest.map (ax_v b)) ⟨C.1, C.2.1, C.2.2.1, C.2.2.2.1, C.2.2.2.2.1⟩ (m3 l b D dA) ⟨cb, hnm, C.2.2.2.2.1 _ hi⟩ (ax_pre C I (rv a :: av)) rfl (by rw [List.length_map]; exact hn) I.2.2.2.2.1.1 (by rw [hst]; simp [ax_v]) (lv_room (by rw [ax_catsum]; exact hr)) hd hR) hc hs k
theorem g_callIN (C : ax_C p R s m args meth c b D dA nL n0 cc own ht) {y : ax_M} {n a idx : Nat} {host : String} {av rest : List ax_V} {h1 : ax_H} (M : ax_Met y (rv a :: av) h none h1) (hd : decode cc pc = .ok (.invokespecial idx, 3)) (cw : ax_cw y n) (hv : y.2.2.2.1 = none) (hnm : y.1.name = "<init>") (hl : Cond.methodLinkNest own idx y.1 host ∈ ax_tb) (hi : Cond.instanceMethod y.1 ∈ ax_tb) (hh : y.2.2.2.2 + 1 ≤ ht) (hn : av.length = n) (hst : st = av.reverse ++ rv a :: rest) (hr : rest.length ≤ 8) (hc : h1.length ≤ n0 + R.cells) (hs : ax_sz h1 ≤ z0 + R.slots) (k : ax_G p l e R s m args below meth c b D dA nL n0 z0 Q (pc + 3) (L) (rest) (h1)) : ax_G p l e R s m args below meth c b D dA nL n0 z0 Q (pc) (L) (st) (h) := fun H ls locs cells slots I => by
  obtain ⟨m1, m2, m3⟩ := M
  have hR : cells + (h1.length - h.length) ≤ R.cells ∧ slots + (ax_sz h1 - ax_sz h) ≤ R.slots := by have := I.2.2.2.2.2.1; have := I.2.2.2.2.2.2.1; omega
  have cb := ax_cn (mc := h1.length - h.length) (ms := ax_sz h1 - ax_sz h) C cw hl hh
  rw [hv] at cb
  exact ax_after (r := none) C I m1 m2 (va_runIN (As := av.map (ax_v b)) (rest := rest.map (ax_v b)) ⟨C.1, C.2.1, C.2.2.1, C.2.2.2.1, C.2.2.2.2.1⟩ (m3 l b D dA) ⟨cb, hnm, C.2.2.2.2.1 _ hi⟩ (ax_pre C I (rv a :: av)) rfl (by rw [List.length_map]; exact hn) I.2.2.2.2.1.1 (by rw [hst]; simp [ax_v]) (lv_room (by rw [ax_catsum]; exact hr)) hd hR) hc hs k
theorem g_objInit (C : ax_C p R s m args meth c b D dA nL n0 cc own ht) {a idx : Nat} {rest : List ax_V} (hd : decode cc pc = .ok (.invokespecial idx, 3)) (hl : Cond.methodLink own idx objectInit ∈ ax_tb) (hi : Cond.instanceMethod objectInit ∈ ax_tb) (hcd : Cond.code objectInit ⟨#[0xb1]⟩ 1 none ∈ ax_tb) (hh : 1 ≤ ht) (hr : rest.length ≤ 8) (k : ax_G p l e R s m args below meth c b D dA nL n0 z0 Q (pc + 3) (L) (rest) (h)) : ax_G p l e R s m args below meth c b D dA nL n0 z0 Q (pc) (L) (rv a :: rest) (h) := fun H ls locs cells slots I => by
  have e1 := C.2.2.2.2.2.2.1
  have e2 := C.2.2.2.2.2.2.2.1
  refine W.objInit C.1 C.2.1 C.2.2.2.1 (C.2.2.2.2.1 _ hl) (C.2.2.2.2.1 _ hi) (C.2.2.2.2.1 _ hcd) rfl (by rw [C.2.2.1]; exact I.2.2.2.2.1.1) rfl hd (by omega) ?_ (k H ls locs cells slots I)
  have := lv_room (m := m) (pc := pc) (ls := ls) (rest := (rv a :: rest).map (ax_v b)) (st := rest.map (ax_v b)) (by rw [ax_catsum]; exact hr)
  have h8 : 8 + 12 ≤ R.locals := by omega
  exact Nat.le_trans (Nat.add_le_add_right this 12) h8
/-! Math -/
def ax_mw (own : String) (idx : Nat) (x : MethodName) (cd : ByteArray) (n : Nat) : Prop := Cond.methodLink own idx x ∈ ax_tb ∧ Cond.static x ∈ ax_tb ∧ Cond.initialized "java/lang/Math" ∈ ax_tb ∧ Cond.code x cd n (some .int) ∈ ax_tb
theorem g_mabs (C : ax_C p R s m args meth c b D dA nL n0 cc own ht) {idx : Nat} {x : Int} {rest : List ax_V} (hd : decode cc pc = .ok (.invokestatic idx, 3)) (w : ax_mw own idx Lib.Math.abs.name Lib.Math.abs.code 1) (hh : 1 ≤ ht) (hr : rest.length ≤ 8) (hx : -2147483647 ≤ x ∧ x < 2147483648) (k : ax_G p l e R s m args below meth c b D dA nL n0 z0 Q (pc + 3) (L) (iv (if 0 ≤ x then x else -x) :: rest) (h)) : ax_G p l e R s m args below meth c b D dA nL n0 z0 Q (pc) (L) (iv x :: rest) (h) := fun H ls locs cells slots I => by
  have e1 := C.2.2.2.2.2.2.1
  have e2 := C.2.2.2.2.2.2.2.1
  have i6 := I.2.2.2.2.2.1
  have i7 := I.2.2.2.2.2.2.1
  have i8 := I.2.2.2.2.2.2.2.1
  have i9 := I.2.2.2.2.2.2.2.2
  refine va_mabs C.1 C.2.1 (by rw [C.2.2.1, I.2.2.2.2.1.1]) C.2.2.2.1 (C.2.2.2.2.1 _ w.1) (C.2.2.2.2.1 _ w.2.1) (C.2.2.2.2.1 _ w.2.2.1) (C.2.2.2.2.1 _ w.2.2.2) (by omega) (by rw [ax_catsum]; omega) (by omega) (by omega) hd ?_
  have hz : (if 0 ≤ Int32.ofInt x then Int32.ofInt x else 0 - Int32.ofInt x) = Int32.ofInt (if 0 ≤ x then x else -x) := by
    have hle : (0 ≤ Int32.ofInt x) ↔ 0 ≤ x := by rw [ax_0]; exact ax_le ax_ir0 (by omega)
    by_cases h0 : 0 ≤ x
    · rw [if_pos (hle.mpr h0), if_pos h0]
    · rw [if_neg (fun q => h0 (hle.mp q)), if_neg h0, ax_0, ← Int32.ofInt_sub]
      congr 1
      omega
  exact ax_top hz (k H ls locs cells slots I)
theorem g_mmax (C : ax_C p R s m args meth c b D dA nL n0 cc own ht) {idx : Nat} {x y : Int} {rest : List ax_V} (hd : decode cc pc = .ok (.invokestatic idx, 3)) (w : ax_mw own idx Lib.Math.max.name Lib.Math.max.code 2) (hh : 1 ≤ ht) (hr : rest.length ≤ 8) (hx : -2147483648 ≤ x ∧ x < 2147483648) (hy : -2147483648 ≤ y ∧ y < 2147483648) (k : ax_G p l e R s m args below meth c b D dA nL n0 z0 Q (pc + 3) (L) (iv (if x < y then y else x) :: rest) (h)) : ax_G p l e R s m args below meth c b D dA nL n0 z0 Q (pc) (L) (iv y :: iv x :: rest) (h) := fun H ls locs cells slots I => by
  have e1 := C.2.2.2.2.2.2.1
  have e2 := C.2.2.2.2.2.2.2.1
  have i6 := I.2.2.2.2.2.1
  have i7 := I.2.2.2.2.2.2.1
  have i8 := I.2.2.2.2.2.2.2.1
  have i9 := I.2.2.2.2.2.2.2.2
  refine va_mmax C.1 C.2.1 (by rw [C.2.2.1, I.2.2.2.2.1.1]) C.2.2.2.1 (C.2.2.2.2.1 _ w.1) (C.2.2.2.2.1 _ w.2.1) (C.2.2.2.2.1 _ w.2.2.1) (C.2.2.2.2.1 _ w.2.2.2) (by omega) (by rw [ax_catsum]; omega) (by omega) (by omega) hd ?_
  have hz : (if Int32.ofInt x < Int32.ofInt y then Int32.ofInt y else Int32.ofInt x) = Int32.ofInt (if x < y then y else x) := by
    by_cases h0 : x < y
    · rw [if_pos ((ax_lt hx hy).mpr h0), if_pos h0]
    · rw [if_neg (fun q => h0 ((ax_lt hx hy).mp q)), if_neg h0]
  exact ax_top hz (k H ls locs cells slots I)
theorem g_mmin (C : ax_C p R s m args meth c b D dA nL n0 cc own ht) {idx : Nat} {x y : Int} {rest : List ax_V} (hd : decode cc pc = .ok (.invokestatic idx, 3)) (w : ax_mw own idx Lib.Math.min.name Lib.Math.min.code 2) (hh : 1 ≤ ht) (hr : rest.length ≤ 8) (hx : -2147483648 ≤ x ∧ x < 2147483648) (hy : -2147483648 ≤ y ∧ y < 2147483648) (k : ax_G p l e R s m args below meth c b D dA nL n0 z0 Q (pc + 3) (L) (iv (if y < x then y else x) :: rest) (h)) : ax_G p l e R s m args below meth c b D dA nL n0 z0 Q (pc) (L) (iv y :: iv x :: rest) (h) := fun H ls locs cells slots I => by
  have e1 := C.2.2.2.2.2.2.1
  have e2 := C.2.2.2.2.2.2.2.1
  have i6 := I.2.2.2.2.2.1
  have i7 := I.2.2.2.2.2.2.1
  have i8 := I.2.2.2.2.2.2.2.1
  have i9 := I.2.2.2.2.2.2.2.2
  refine va_mmin C.1 C.2.1 (by rw [C.2.2.1, I.2.2.2.2.1.1]) C.2.2.2.1 (C.2.2.2.2.1 _ w.1) (C.2.2.2.2.1 _ w.2.1) (C.2.2.2.2.1 _ w.2.2.1) (C.2.2.2.2.1 _ w.2.2.2) (by omega) (by rw [ax_catsum]; omega) (by omega) (by omega) hd ?_
  have hz : (if Int32.ofInt y < Int32.ofInt x then Int32.ofInt y else Int32.ofInt x) = Int32.ofInt (if y < x then y else x) := by
    by_cases h0 : y < x
    · rw [if_pos ((ax_lt hy hx).mpr h0), if_pos h0]
    · rw [if_neg (fun q => h0 ((ax_lt hy hx).mp q)), if_neg h0]
  exact ax_top hz (k H ls locs cells slots I)
end AXM
end
section
theorem dX0_init_0 : decode cX0_init 0 = .ok (.aload_n 0, 1) := by decide +kernel
theorem dX0_init_1 : decode cX0_init 1 = .ok (.invokespecial 3, 3) := by decide +kernel
theorem dX0_init_4 : decode cX0_init 4 = .ok (.aload_n 0, 1) := by decide +kernel
theorem dX0_init_5 : decode cX0_init 5 = .ok (.bipush 7, 2) := by decide +kernel
theorem dX0_init_7 : decode cX0_init 7 = .ok (.newarray .int, 2) := by decide +kernel
theorem dX0_init_9 : decode cX0_init 9 = .ok (.putfield 9, 3) := by decide +kernel
theorem dX0_init_12 : decode cX0_init 12 = .ok (.aload_n 0, 1) := by decide +kernel
theorem dX0_init_13 : decode cX0_init 13 = .ok (.bipush 7, 2) := by decide +kernel
theorem dX0_init_15 : decode cX0_init 15 = .ok (.newarray .int, 2) := by decide +kernel
theorem dX0_init_17 : decode cX0_init 17 = .ok (.putfield 15, 3) := by decide +kernel
theorem dX0_init_20 : decode cX0_init 20 = .ok (.aload_n 0, 1) := by decide +kernel
theorem dX0_init_21 : decode cX0_init 21 = .ok (.bipush 7, 2) := by decide +kernel
theorem dX0_init_23 : decode cX0_init 23 = .ok (.newarray .int, 2) := by decide +kernel
theorem dX0_init_25 : decode cX0_init 25 = .ok (.putfield 18, 3) := by decide +kernel
theorem dX0_init_28 : decode cX0_init 28 = .ok (.return_, 1) := by decide +kernel
theorem dX0_has_0 : decode cX0_has 0 = .ok (.iload_n 1, 1) := by decide +kernel
theorem dX0_has_1 : decode cX0_has 1 = .ok (.ifCond .lt 15, 3) := by decide +kernel
theorem dX0_has_4 : decode cX0_has 4 = .ok (.iload_n 1, 1) := by decide +kernel
theorem dX0_has_5 : decode cX0_has 5 = .ok (.aload_n 0, 1) := by decide +kernel
theorem dX0_has_6 : decode cX0_has 6 = .ok (.getfield 21, 3) := by decide +kernel
theorem dX0_has_9 : decode cX0_has 9 = .ok (.if_icmp .ge 7, 3) := by decide +kernel
theorem dX0_has_12 : decode cX0_has 12 = .ok (.iconst 1, 1) := by decide +kernel
theorem dX0_has_13 : decode cX0_has 13 = .ok (.goto 4, 3) := by decide +kernel
theorem dX0_has_16 : decode cX0_has 16 = .ok (.iconst 0, 1) := by decide +kernel
theorem dX0_has_17 : decode cX0_has 17 = .ok (.ireturn, 1) := by decide +kernel
theorem dX0_all_0 : decode cX0_all 0 = .ok (.iconst 1, 1) := by decide +kernel
theorem dX0_all_1 : decode cX0_all 1 = .ok (.aload_n 0, 1) := by decide +kernel
theorem dX0_all_2 : decode cX0_all 2 = .ok (.getfield 21, 3) := by decide +kernel
theorem dX0_all_5 : decode cX0_all 5 = .ok (.ishl, 1) := by decide +kernel
theorem dX0_all_6 : decode cX0_all 6 = .ok (.iconst 1, 1) := by decide +kernel
theorem dX0_all_7 : decode cX0_all 7 = .ok (.isub, 1) := by decide +kernel
theorem dX0_all_8 : decode cX0_all 8 = .ok (.ireturn, 1) := by decide +kernel
theorem dX0_find_0 : decode cX0_find 0 = .ok (.iconst 0, 1) := by decide +kernel
theorem dX0_find_1 : decode cX0_find 1 = .ok (.istore_n 3, 1) := by decide +kernel
theorem dX0_find_2 : decode cX0_find 2 = .ok (.iload_n 3, 1) := by decide +kernel
theorem dX0_find_3 : decode cX0_find 3 = .ok (.aload_n 0, 1) := by decide +kernel
theorem dX0_find_4 : decode cX0_find 4 = .ok (.getfield 21, 3) := by decide +kernel
theorem dX0_find_7 : decode cX0_find 7 = .ok (.if_icmp .ge 31, 3) := by decide +kernel
theorem dX0_find_10 : decode cX0_find 10 = .ok (.aload_n 0, 1) := by decide +kernel
theorem dX0_find_11 : decode cX0_find 11 = .ok (.getfield 9, 3) := by decide +kernel
theorem dX0_find_14 : decode cX0_find 14 = .ok (.iload_n 3, 1) := by decide +kernel
theorem dX0_find_15 : decode cX0_find 15 = .ok (.iaload, 1) := by decide +kernel
theorem dX0_find_16 : decode cX0_find 16 = .ok (.iload_n 1, 1) := by decide +kernel
theorem dX0_find_17 : decode cX0_find 17 = .ok (.if_icmp .ne 15, 3) := by decide +kernel
theorem dX0_find_20 : decode cX0_find 20 = .ok (.aload_n 0, 1) := by decide +kernel
theorem dX0_find_21 : decode cX0_find 21 = .ok (.getfield 15, 3) := by decide +kernel
theorem dX0_find_24 : decode cX0_find 24 = .ok (.iload_n 3, 1) := by decide +kernel
theorem dX0_find_25 : decode cX0_find 25 = .ok (.iaload, 1) := by decide +kernel
theorem dX0_find_26 : decode cX0_find 26 = .ok (.iload_n 2, 1) := by decide +kernel
theorem dX0_find_27 : decode cX0_find 27 = .ok (.if_icmp .ne 5, 3) := by decide +kernel
theorem dX0_find_30 : decode cX0_find 30 = .ok (.iload_n 3, 1) := by decide +kernel
theorem dX0_find_31 : decode cX0_find 31 = .ok (.ireturn, 1) := by decide +kernel
theorem dX0_find_32 : decode cX0_find 32 = .ok (.iinc 3 1, 3) := by decide +kernel
theorem dX0_find_35 : decode cX0_find 35 = .ok (.goto (-33), 3) := by decide +kernel
theorem dX0_find_38 : decode cX0_find 38 = .ok (.iconst (-1), 1) := by decide +kernel
theorem dX0_find_39 : decode cX0_find 39 = .ok (.ireturn, 1) := by decide +kernel
theorem dX0_append_0 : decode cX0_append 0 = .ok (.aload_n 0, 1) := by decide +kernel
theorem dX0_append_1 : decode cX0_append 1 = .ok (.getfield 21, 3) := by decide +kernel
theorem dX0_append_4 : decode cX0_append 4 = .ok (.bipush 7, 2) := by decide +kernel
theorem dX0_append_6 : decode cX0_append 6 = .ok (.if_icmp .lt 5, 3) := by decide +kernel
theorem dX0_append_9 : decode cX0_append 9 = .ok (.iconst (-1), 1) := by decide +kernel
theorem dX0_append_10 : decode cX0_append 10 = .ok (.ireturn, 1) := by decide +kernel
theorem dX0_append_11 : decode cX0_append 11 = .ok (.aload_n 0, 1) := by decide +kernel
theorem dX0_append_12 : decode cX0_append 12 = .ok (.getfield 9, 3) := by decide +kernel
theorem dX0_append_15 : decode cX0_append 15 = .ok (.aload_n 0, 1) := by decide +kernel
theorem dX0_append_16 : decode cX0_append 16 = .ok (.getfield 21, 3) := by decide +kernel
theorem dX0_append_19 : decode cX0_append 19 = .ok (.iload_n 1, 1) := by decide +kernel
theorem dX0_append_20 : decode cX0_append 20 = .ok (.iastore, 1) := by decide +kernel
theorem dX0_append_21 : decode cX0_append 21 = .ok (.aload_n 0, 1) := by decide +kernel
theorem dX0_append_22 : decode cX0_append 22 = .ok (.getfield 15, 3) := by decide +kernel
theorem dX0_append_25 : decode cX0_append 25 = .ok (.aload_n 0, 1) := by decide +kernel
theorem dX0_append_26 : decode cX0_append 26 = .ok (.getfield 21, 3) := by decide +kernel
theorem dX0_append_29 : decode cX0_append 29 = .ok (.iload_n 2, 1) := by decide +kernel
theorem dX0_append_30 : decode cX0_append 30 = .ok (.iastore, 1) := by decide +kernel
theorem dX0_append_31 : decode cX0_append 31 = .ok (.aload_n 0, 1) := by decide +kernel
theorem dX0_append_32 : decode cX0_append 32 = .ok (.getfield 18, 3) := by decide +kernel
theorem dX0_append_35 : decode cX0_append 35 = .ok (.aload_n 0, 1) := by decide +kernel
theorem dX0_append_36 : decode cX0_append 36 = .ok (.getfield 21, 3) := by decide +kernel
theorem dX0_append_39 : decode cX0_append 39 = .ok (.iload_n 3, 1) := by decide +kernel
theorem dX0_append_40 : decode cX0_append 40 = .ok (.iastore, 1) := by decide +kernel
theorem dX0_append_41 : decode cX0_append 41 = .ok (.aload_n 0, 1) := by decide +kernel
theorem dX0_append_42 : decode cX0_append 42 = .ok (.dup, 1) := by decide +kernel
theorem dX0_append_43 : decode cX0_append 43 = .ok (.getfield 21, 3) := by decide +kernel
theorem dX0_append_46 : decode cX0_append 46 = .ok (.iconst 1, 1) := by decide +kernel
theorem dX0_append_47 : decode cX0_append 47 = .ok (.iadd, 1) := by decide +kernel
theorem dX0_append_48 : decode cX0_append 48 = .ok (.putfield 21, 3) := by decide +kernel
theorem dX0_append_51 : decode cX0_append 51 = .ok (.aload_n 0, 1) := by decide +kernel
theorem dX0_append_52 : decode cX0_append 52 = .ok (.getfield 21, 3) := by decide +kernel
theorem dX0_append_55 : decode cX0_append 55 = .ok (.iconst 1, 1) := by decide +kernel
theorem dX0_append_56 : decode cX0_append 56 = .ok (.isub, 1) := by decide +kernel
theorem dX0_append_57 : decode cX0_append 57 = .ok (.ireturn, 1) := by decide +kernel
theorem dX0_remove_0 : decode cX0_remove 0 = .ok (.aload_n 0, 1) := by decide +kernel
theorem dX0_remove_1 : decode cX0_remove 1 = .ok (.iload_n 1, 1) := by decide +kernel
theorem dX0_remove_2 : decode cX0_remove 2 = .ok (.invokevirtual 25, 3) := by decide +kernel
theorem dX0_remove_5 : decode cX0_remove 5 = .ok (.ifCond .ne 4, 3) := by decide +kernel
theorem dX0_remove_8 : decode cX0_remove 8 = .ok (.return_, 1) := by decide +kernel
theorem dX0_remove_9 : decode cX0_remove 9 = .ok (.iload_n 1, 1) := by decide +kernel
theorem dX0_remove_10 : decode cX0_remove 10 = .ok (.iconst 1, 1) := by decide +kernel
theorem dX0_remove_11 : decode cX0_remove 11 = .ok (.iadd, 1) := by decide +kernel
theorem dX0_remove_12 : decode cX0_remove 12 = .ok (.istore_n 2, 1) := by decide +kernel
theorem dX0_remove_13 : decode cX0_remove 13 = .ok (.iload_n 2, 1) := by decide +kernel
theorem dX0_remove_14 : decode cX0_remove 14 = .ok (.aload_n 0, 1) := by decide +kernel
theorem dX0_remove_15 : decode cX0_remove 15 = .ok (.getfield 21, 3) := by decide +kernel
theorem dX0_remove_18 : decode cX0_remove 18 = .ok (.if_icmp .ge 51, 3) := by decide +kernel
theorem dX0_remove_21 : decode cX0_remove 21 = .ok (.aload_n 0, 1) := by decide +kernel
theorem dX0_remove_22 : decode cX0_remove 22 = .ok (.getfield 9, 3) := by decide +kernel
theorem dX0_remove_25 : decode cX0_remove 25 = .ok (.iload_n 2, 1) := by decide +kernel
theorem dX0_remove_26 : decode cX0_remove 26 = .ok (.iconst 1, 1) := by decide +kernel
theorem dX0_remove_27 : decode cX0_remove 27 = .ok (.isub, 1) := by decide +kernel
theorem dX0_remove_28 : decode cX0_remove 28 = .ok (.aload_n 0, 1) := by decide +kernel
theorem dX0_remove_29 : decode cX0_remove 29 = .ok (.getfield 9, 3) := by decide +kernel
theorem dX0_remove_32 : decode cX0_remove 32 = .ok (.iload_n 2, 1) := by decide +kernel
theorem dX0_remove_33 : decode cX0_remove 33 = .ok (.iaload, 1) := by decide +kernel
theorem dX0_remove_34 : decode cX0_remove 34 = .ok (.iastore, 1) := by decide +kernel
theorem dX0_remove_35 : decode cX0_remove 35 = .ok (.aload_n 0, 1) := by decide +kernel
theorem dX0_remove_36 : decode cX0_remove 36 = .ok (.getfield 15, 3) := by decide +kernel
theorem dX0_remove_39 : decode cX0_remove 39 = .ok (.iload_n 2, 1) := by decide +kernel
theorem dX0_remove_40 : decode cX0_remove 40 = .ok (.iconst 1, 1) := by decide +kernel
theorem dX0_remove_41 : decode cX0_remove 41 = .ok (.isub, 1) := by decide +kernel
theorem dX0_remove_42 : decode cX0_remove 42 = .ok (.aload_n 0, 1) := by decide +kernel
theorem dX0_remove_43 : decode cX0_remove 43 = .ok (.getfield 15, 3) := by decide +kernel
theorem dX0_remove_46 : decode cX0_remove 46 = .ok (.iload_n 2, 1) := by decide +kernel
theorem dX0_remove_47 : decode cX0_remove 47 = .ok (.iaload, 1) := by decide +kernel
theorem dX0_remove_48 : decode cX0_remove 48 = .ok (.iastore, 1) := by decide +kernel
theorem dX0_remove_49 : decode cX0_remove 49 = .ok (.aload_n 0, 1) := by decide +kernel
theorem dX0_remove_50 : decode cX0_remove 50 = .ok (.getfield 18, 3) := by decide +kernel
theorem dX0_remove_53 : decode cX0_remove 53 = .ok (.iload_n 2, 1) := by decide +kernel
theorem dX0_remove_54 : decode cX0_remove 54 = .ok (.iconst 1, 1) := by decide +kernel
theorem dX0_remove_55 : decode cX0_remove 55 = .ok (.isub, 1) := by decide +kernel
theorem dX0_remove_56 : decode cX0_remove 56 = .ok (.aload_n 0, 1) := by decide +kernel
theorem dX0_remove_57 : decode cX0_remove 57 = .ok (.getfield 18, 3) := by decide +kernel
theorem dX0_remove_60 : decode cX0_remove 60 = .ok (.iload_n 2, 1) := by decide +kernel
theorem dX0_remove_61 : decode cX0_remove 61 = .ok (.iaload, 1) := by decide +kernel
theorem dX0_remove_62 : decode cX0_remove 62 = .ok (.iastore, 1) := by decide +kernel
theorem dX0_remove_63 : decode cX0_remove 63 = .ok (.iinc 2 1, 3) := by decide +kernel
theorem dX0_remove_66 : decode cX0_remove 66 = .ok (.goto (-53), 3) := by decide +kernel
theorem dX0_remove_69 : decode cX0_remove 69 = .ok (.aload_n 0, 1) := by decide +kernel
theorem dX0_remove_70 : decode cX0_remove 70 = .ok (.dup, 1) := by decide +kernel
theorem dX0_remove_71 : decode cX0_remove 71 = .ok (.getfield 21, 3) := by decide +kernel
theorem dX0_remove_74 : decode cX0_remove 74 = .ok (.iconst 1, 1) := by decide +kernel
theorem dX0_remove_75 : decode cX0_remove 75 = .ok (.isub, 1) := by decide +kernel
theorem dX0_remove_76 : decode cX0_remove 76 = .ok (.putfield 21, 3) := by decide +kernel
theorem dX0_remove_79 : decode cX0_remove 79 = .ok (.return_, 1) := by decide +kernel
theorem dX0_copyFrom_0 : decode cX0_copyFrom 0 = .ok (.iconst 0, 1) := by decide +kernel
theorem dX0_copyFrom_1 : decode cX0_copyFrom 1 = .ok (.istore_n 2, 1) := by decide +kernel
theorem dX0_copyFrom_2 : decode cX0_copyFrom 2 = .ok (.iload_n 2, 1) := by decide +kernel
theorem dX0_copyFrom_3 : decode cX0_copyFrom 3 = .ok (.aload_n 1, 1) := by decide +kernel
theorem dX0_copyFrom_4 : decode cX0_copyFrom 4 = .ok (.getfield 21, 3) := by decide +kernel
theorem dX0_copyFrom_7 : decode cX0_copyFrom 7 = .ok (.if_icmp .ge 45, 3) := by decide +kernel
theorem dX0_copyFrom_10 : decode cX0_copyFrom 10 = .ok (.aload_n 0, 1) := by decide +kernel
theorem dX0_copyFrom_11 : decode cX0_copyFrom 11 = .ok (.getfield 9, 3) := by decide +kernel
theorem dX0_copyFrom_14 : decode cX0_copyFrom 14 = .ok (.iload_n 2, 1) := by decide +kernel
theorem dX0_copyFrom_15 : decode cX0_copyFrom 15 = .ok (.aload_n 1, 1) := by decide +kernel
theorem dX0_copyFrom_16 : decode cX0_copyFrom 16 = .ok (.getfield 9, 3) := by decide +kernel
theorem dX0_copyFrom_19 : decode cX0_copyFrom 19 = .ok (.iload_n 2, 1) := by decide +kernel
theorem dX0_copyFrom_20 : decode cX0_copyFrom 20 = .ok (.iaload, 1) := by decide +kernel
theorem dX0_copyFrom_21 : decode cX0_copyFrom 21 = .ok (.iastore, 1) := by decide +kernel
theorem dX0_copyFrom_22 : decode cX0_copyFrom 22 = .ok (.aload_n 0, 1) := by decide +kernel
theorem dX0_copyFrom_23 : decode cX0_copyFrom 23 = .ok (.getfield 15, 3) := by decide +kernel
theorem dX0_copyFrom_26 : decode cX0_copyFrom 26 = .ok (.iload_n 2, 1) := by decide +kernel
theorem dX0_copyFrom_27 : decode cX0_copyFrom 27 = .ok (.aload_n 1, 1) := by decide +kernel
theorem dX0_copyFrom_28 : decode cX0_copyFrom 28 = .ok (.getfield 15, 3) := by decide +kernel
theorem dX0_copyFrom_31 : decode cX0_copyFrom 31 = .ok (.iload_n 2, 1) := by decide +kernel
theorem dX0_copyFrom_32 : decode cX0_copyFrom 32 = .ok (.iaload, 1) := by decide +kernel
theorem dX0_copyFrom_33 : decode cX0_copyFrom 33 = .ok (.iastore, 1) := by decide +kernel
theorem dX0_copyFrom_34 : decode cX0_copyFrom 34 = .ok (.aload_n 0, 1) := by decide +kernel
theorem dX0_copyFrom_35 : decode cX0_copyFrom 35 = .ok (.getfield 18, 3) := by decide +kernel
theorem dX0_copyFrom_38 : decode cX0_copyFrom 38 = .ok (.iload_n 2, 1) := by decide +kernel
theorem dX0_copyFrom_39 : decode cX0_copyFrom 39 = .ok (.aload_n 1, 1) := by decide +kernel
theorem dX0_copyFrom_40 : decode cX0_copyFrom 40 = .ok (.getfield 18, 3) := by decide +kernel
theorem dX0_copyFrom_43 : decode cX0_copyFrom 43 = .ok (.iload_n 2, 1) := by decide +kernel
theorem dX0_copyFrom_44 : decode cX0_copyFrom 44 = .ok (.iaload, 1) := by decide +kernel
theorem dX0_copyFrom_45 : decode cX0_copyFrom 45 = .ok (.iastore, 1) := by decide +kernel
theorem dX0_copyFrom_46 : decode cX0_copyFrom 46 = .ok (.iinc 2 1, 3) := by decide +kernel
theorem dX0_copyFrom_49 : decode cX0_copyFrom 49 = .ok (.goto (-47), 3) := by decide +kernel
theorem dX0_copyFrom_52 : decode cX0_copyFrom 52 = .ok (.aload_n 0, 1) := by decide +kernel
theorem dX0_copyFrom_53 : decode cX0_copyFrom 53 = .ok (.aload_n 1, 1) := by decide +kernel
theorem dX0_copyFrom_54 : decode cX0_copyFrom 54 = .ok (.getfield 21, 3) := by decide +kernel
theorem dX0_copyFrom_57 : decode cX0_copyFrom 57 = .ok (.putfield 21, 3) := by decide +kernel
theorem dX0_copyFrom_60 : decode cX0_copyFrom 60 = .ok (.return_, 1) := by decide +kernel
theorem dX0_lowest_0 : decode cX0_lowest 0 = .ok (.iconst 0, 1) := by decide +kernel
theorem dX0_lowest_1 : decode cX0_lowest 1 = .ok (.istore 4, 2) := by decide +kernel
theorem dX0_lowest_3 : decode cX0_lowest 3 = .ok (.iconst 0, 1) := by decide +kernel
theorem dX0_lowest_4 : decode cX0_lowest 4 = .ok (.istore 5, 2) := by decide +kernel
theorem dX0_lowest_6 : decode cX0_lowest 6 = .ok (.iconst 0, 1) := by decide +kernel
theorem dX0_lowest_7 : decode cX0_lowest 7 = .ok (.istore 6, 2) := by decide +kernel
theorem dX0_lowest_9 : decode cX0_lowest 9 = .ok (.iload 6, 2) := by decide +kernel
theorem dX0_lowest_11 : decode cX0_lowest 11 = .ok (.aload_n 0, 1) := by decide +kernel
theorem dX0_lowest_12 : decode cX0_lowest 12 = .ok (.getfield 21, 3) := by decide +kernel
theorem dX0_lowest_15 : decode cX0_lowest 15 = .ok (.if_icmp .ge 81, 3) := by decide +kernel
theorem dX0_lowest_18 : decode cX0_lowest 18 = .ok (.iload_n 3, 1) := by decide +kernel
theorem dX0_lowest_19 : decode cX0_lowest 19 = .ok (.aload_n 0, 1) := by decide +kernel
theorem dX0_lowest_20 : decode cX0_lowest 20 = .ok (.getfield 18, 3) := by decide +kernel
theorem dX0_lowest_23 : decode cX0_lowest 23 = .ok (.iload 6, 2) := by decide +kernel
theorem dX0_lowest_25 : decode cX0_lowest 25 = .ok (.iaload, 1) := by decide +kernel
theorem dX0_lowest_26 : decode cX0_lowest 26 = .ok (.imul, 1) := by decide +kernel
theorem dX0_lowest_27 : decode cX0_lowest 27 = .ok (.iload_n 1, 1) := by decide +kernel
theorem dX0_lowest_28 : decode cX0_lowest 28 = .ok (.aload_n 0, 1) := by decide +kernel
theorem dX0_lowest_29 : decode cX0_lowest 29 = .ok (.getfield 9, 3) := by decide +kernel
theorem dX0_lowest_32 : decode cX0_lowest 32 = .ok (.iload 6, 2) := by decide +kernel
theorem dX0_lowest_34 : decode cX0_lowest 34 = .ok (.iaload, 1) := by decide +kernel
theorem dX0_lowest_35 : decode cX0_lowest 35 = .ok (.imul, 1) := by decide +kernel
theorem dX0_lowest_36 : decode cX0_lowest 36 = .ok (.iadd, 1) := by decide +kernel
theorem dX0_lowest_37 : decode cX0_lowest 37 = .ok (.iload_n 2, 1) := by decide +kernel
theorem dX0_lowest_38 : decode cX0_lowest 38 = .ok (.aload_n 0, 1) := by decide +kernel
theorem dX0_lowest_39 : decode cX0_lowest 39 = .ok (.getfield 15, 3) := by decide +kernel
theorem dX0_lowest_42 : decode cX0_lowest 42 = .ok (.iload 6, 2) := by decide +kernel
theorem dX0_lowest_44 : decode cX0_lowest 44 = .ok (.iaload, 1) := by decide +kernel
theorem dX0_lowest_45 : decode cX0_lowest 45 = .ok (.imul, 1) := by decide +kernel
theorem dX0_lowest_46 : decode cX0_lowest 46 = .ok (.iadd, 1) := by decide +kernel
theorem dX0_lowest_47 : decode cX0_lowest 47 = .ok (.istore 7, 2) := by decide +kernel
theorem dX0_lowest_49 : decode cX0_lowest 49 = .ok (.iload 4, 2) := by decide +kernel
theorem dX0_lowest_51 : decode cX0_lowest 51 = .ok (.ifCond .eq 10, 3) := by decide +kernel
theorem dX0_lowest_54 : decode cX0_lowest 54 = .ok (.iload 7, 2) := by decide +kernel
theorem dX0_lowest_56 : decode cX0_lowest 56 = .ok (.iload 5, 2) := by decide +kernel
theorem dX0_lowest_58 : decode cX0_lowest 58 = .ok (.if_icmp .ge 16, 3) := by decide +kernel
theorem dX0_lowest_61 : decode cX0_lowest 61 = .ok (.iload 7, 2) := by decide +kernel
theorem dX0_lowest_63 : decode cX0_lowest 63 = .ok (.istore 5, 2) := by decide +kernel
theorem dX0_lowest_65 : decode cX0_lowest 65 = .ok (.iconst 1, 1) := by decide +kernel
theorem dX0_lowest_66 : decode cX0_lowest 66 = .ok (.iload 6, 2) := by decide +kernel
theorem dX0_lowest_68 : decode cX0_lowest 68 = .ok (.ishl, 1) := by decide +kernel
theorem dX0_lowest_69 : decode cX0_lowest 69 = .ok (.istore 4, 2) := by decide +kernel
theorem dX0_lowest_71 : decode cX0_lowest 71 = .ok (.goto 19, 3) := by decide +kernel
theorem dX0_lowest_74 : decode cX0_lowest 74 = .ok (.iload 7, 2) := by decide +kernel
theorem dX0_lowest_76 : decode cX0_lowest 76 = .ok (.iload 5, 2) := by decide +kernel
theorem dX0_lowest_78 : decode cX0_lowest 78 = .ok (.if_icmp .ne 12, 3) := by decide +kernel
theorem dX0_lowest_81 : decode cX0_lowest 81 = .ok (.iload 4, 2) := by decide +kernel
theorem dX0_lowest_83 : decode cX0_lowest 83 = .ok (.iconst 1, 1) := by decide +kernel
theorem dX0_lowest_84 : decode cX0_lowest 84 = .ok (.iload 6, 2) := by decide +kernel
theorem dX0_lowest_86 : decode cX0_lowest 86 = .ok (.ishl, 1) := by decide +kernel
theorem dX0_lowest_87 : decode cX0_lowest 87 = .ok (.ior, 1) := by decide +kernel
theorem dX0_lowest_88 : decode cX0_lowest 88 = .ok (.istore 4, 2) := by decide +kernel
theorem dX0_lowest_90 : decode cX0_lowest 90 = .ok (.iinc 6 1, 3) := by decide +kernel
theorem dX0_lowest_93 : decode cX0_lowest 93 = .ok (.goto (-84), 3) := by decide +kernel
theorem dX0_lowest_96 : decode cX0_lowest 96 = .ok (.iload 4, 2) := by decide +kernel
theorem dX0_lowest_98 : decode cX0_lowest 98 = .ok (.ireturn, 1) := by decide +kernel
theorem dX1_init_0 : decode cX1_init 0 = .ok (.aload_n 0, 1) := by decide +kernel
theorem dX1_init_1 : decode cX1_init 1 = .ok (.invokespecial 1, 3) := by decide +kernel
theorem dX1_init_4 : decode cX1_init 4 = .ok (.return_, 1) := by decide +kernel
theorem dX1_setSlope_0 : decode cX1_setSlope 0 = .ok (.iconst 1, 1) := by decide +kernel
theorem dX1_setSlope_1 : decode cX1_setSlope 1 = .ok (.iload_n 1, 1) := by decide +kernel
theorem dX1_setSlope_2 : decode cX1_setSlope 2 = .ok (.invokestatic 7, 3) := by decide +kernel
theorem dX1_setSlope_5 : decode cX1_setSlope 5 = .ok (.iload_n 3, 1) := by decide +kernel
theorem dX1_setSlope_6 : decode cX1_setSlope 6 = .ok (.invokestatic 13, 3) := by decide +kernel
theorem dX1_setSlope_9 : decode cX1_setSlope 9 = .ok (.invokestatic 19, 3) := by decide +kernel
theorem dX1_setSlope_12 : decode cX1_setSlope 12 = .ok (.istore 4, 2) := by decide +kernel
theorem dX1_setSlope_14 : decode cX1_setSlope 14 = .ok (.iconst 1, 1) := by decide +kernel
theorem dX1_setSlope_15 : decode cX1_setSlope 15 = .ok (.iload_n 2, 1) := by decide +kernel
theorem dX1_setSlope_16 : decode cX1_setSlope 16 = .ok (.invokestatic 7, 3) := by decide +kernel
theorem dX1_setSlope_19 : decode cX1_setSlope 19 = .ok (.iload_n 3, 1) := by decide +kernel
theorem dX1_setSlope_20 : decode cX1_setSlope 20 = .ok (.invokestatic 13, 3) := by decide +kernel
theorem dX1_setSlope_23 : decode cX1_setSlope 23 = .ok (.invokestatic 19, 3) := by decide +kernel
theorem dX1_setSlope_26 : decode cX1_setSlope 26 = .ok (.istore 5, 2) := by decide +kernel
theorem dX1_setSlope_28 : decode cX1_setSlope 28 = .ok (.aload_n 0, 1) := by decide +kernel
theorem dX1_setSlope_29 : decode cX1_setSlope 29 = .ok (.iload_n 1, 1) := by decide +kernel
theorem dX1_setSlope_30 : decode cX1_setSlope 30 = .ok (.iload 4, 2) := by decide +kernel
theorem dX1_setSlope_32 : decode cX1_setSlope 32 = .ok (.idiv, 1) := by decide +kernel
theorem dX1_setSlope_33 : decode cX1_setSlope 33 = .ok (.putfield 22, 3) := by decide +kernel
theorem dX1_setSlope_36 : decode cX1_setSlope 36 = .ok (.aload_n 0, 1) := by decide +kernel
theorem dX1_setSlope_37 : decode cX1_setSlope 37 = .ok (.iload_n 3, 1) := by decide +kernel
theorem dX1_setSlope_38 : decode cX1_setSlope 38 = .ok (.iload 4, 2) := by decide +kernel
theorem dX1_setSlope_40 : decode cX1_setSlope 40 = .ok (.idiv, 1) := by decide +kernel
theorem dX1_setSlope_41 : decode cX1_setSlope 41 = .ok (.putfield 28, 3) := by decide +kernel
theorem dX1_setSlope_44 : decode cX1_setSlope 44 = .ok (.aload_n 0, 1) := by decide +kernel
theorem dX1_setSlope_45 : decode cX1_setSlope 45 = .ok (.iload_n 2, 1) := by decide +kernel
theorem dX1_setSlope_46 : decode cX1_setSlope 46 = .ok (.iload 5, 2) := by decide +kernel
theorem dX1_setSlope_48 : decode cX1_setSlope 48 = .ok (.idiv, 1) := by decide +kernel
theorem dX1_setSlope_49 : decode cX1_setSlope 49 = .ok (.putfield 31, 3) := by decide +kernel
theorem dX1_setSlope_52 : decode cX1_setSlope 52 = .ok (.aload_n 0, 1) := by decide +kernel
theorem dX1_setSlope_53 : decode cX1_setSlope 53 = .ok (.iload_n 3, 1) := by decide +kernel
theorem dX1_setSlope_54 : decode cX1_setSlope 54 = .ok (.iload 5, 2) := by decide +kernel
theorem dX1_setSlope_56 : decode cX1_setSlope 56 = .ok (.idiv, 1) := by decide +kernel
theorem dX1_setSlope_57 : decode cX1_setSlope 57 = .ok (.putfield 34, 3) := by decide +kernel
theorem dX1_setSlope_60 : decode cX1_setSlope 60 = .ok (.return_, 1) := by decide +kernel
theorem dX1_compareSlope_0 : decode cX1_compareSlope 0 = .ok (.aload_n 0, 1) := by decide +kernel
theorem dX1_compareSlope_1 : decode cX1_compareSlope 1 = .ok (.getfield 22, 3) := by decide +kernel
theorem dX1_compareSlope_4 : decode cX1_compareSlope 4 = .ok (.aload_n 1, 1) := by decide +kernel
theorem dX1_compareSlope_5 : decode cX1_compareSlope 5 = .ok (.getfield 28, 3) := by decide +kernel
theorem dX1_compareSlope_8 : decode cX1_compareSlope 8 = .ok (.imul, 1) := by decide +kernel
theorem dX1_compareSlope_9 : decode cX1_compareSlope 9 = .ok (.aload_n 1, 1) := by decide +kernel
theorem dX1_compareSlope_10 : decode cX1_compareSlope 10 = .ok (.getfield 22, 3) := by decide +kernel
theorem dX1_compareSlope_13 : decode cX1_compareSlope 13 = .ok (.aload_n 0, 1) := by decide +kernel
theorem dX1_compareSlope_14 : decode cX1_compareSlope 14 = .ok (.getfield 28, 3) := by decide +kernel
theorem dX1_compareSlope_17 : decode cX1_compareSlope 17 = .ok (.imul, 1) := by decide +kernel
theorem dX1_compareSlope_18 : decode cX1_compareSlope 18 = .ok (.invokestatic 37, 3) := by decide +kernel
theorem dX1_compareSlope_21 : decode cX1_compareSlope 21 = .ok (.istore_n 2, 1) := by decide +kernel
theorem dX1_compareSlope_22 : decode cX1_compareSlope 22 = .ok (.iload_n 2, 1) := by decide +kernel
theorem dX1_compareSlope_23 : decode cX1_compareSlope 23 = .ok (.ifCond .eq 7, 3) := by decide +kernel
theorem dX1_compareSlope_26 : decode cX1_compareSlope 26 = .ok (.iload_n 2, 1) := by decide +kernel
theorem dX1_compareSlope_27 : decode cX1_compareSlope 27 = .ok (.goto 24, 3) := by decide +kernel
theorem dX1_compareSlope_30 : decode cX1_compareSlope 30 = .ok (.aload_n 0, 1) := by decide +kernel
theorem dX1_compareSlope_31 : decode cX1_compareSlope 31 = .ok (.getfield 31, 3) := by decide +kernel
theorem dX1_compareSlope_34 : decode cX1_compareSlope 34 = .ok (.aload_n 1, 1) := by decide +kernel
theorem dX1_compareSlope_35 : decode cX1_compareSlope 35 = .ok (.getfield 34, 3) := by decide +kernel
theorem dX1_compareSlope_38 : decode cX1_compareSlope 38 = .ok (.imul, 1) := by decide +kernel
theorem dX1_compareSlope_39 : decode cX1_compareSlope 39 = .ok (.aload_n 1, 1) := by decide +kernel
theorem dX1_compareSlope_40 : decode cX1_compareSlope 40 = .ok (.getfield 31, 3) := by decide +kernel
theorem dX1_compareSlope_43 : decode cX1_compareSlope 43 = .ok (.aload_n 0, 1) := by decide +kernel
theorem dX1_compareSlope_44 : decode cX1_compareSlope 44 = .ok (.getfield 34, 3) := by decide +kernel
theorem dX1_compareSlope_47 : decode cX1_compareSlope 47 = .ok (.imul, 1) := by decide +kernel
theorem dX1_compareSlope_48 : decode cX1_compareSlope 48 = .ok (.invokestatic 37, 3) := by decide +kernel
theorem dX1_compareSlope_51 : decode cX1_compareSlope 51 = .ok (.ireturn, 1) := by decide +kernel
theorem dX2_init_0 : decode cX2_init 0 = .ok (.aload_n 0, 1) := by decide +kernel
theorem dX2_init_1 : decode cX2_init 1 = .ok (.invokespecial 3, 3) := by decide +kernel
theorem dX2_init_4 : decode cX2_init 4 = .ok (.aload_n 0, 1) := by decide +kernel
theorem dX2_init_5 : decode cX2_init 5 = .ok (.bipush 94, 2) := by decide +kernel
theorem dX2_init_7 : decode cX2_init 7 = .ok (.anewarray 11, 3) := by decide +kernel
theorem dX2_init_10 : decode cX2_init 10 = .ok (.putfield 13, 3) := by decide +kernel
theorem dX2_init_13 : decode cX2_init 13 = .ok (.aload_n 0, 1) := by decide +kernel
theorem dX2_init_14 : decode cX2_init 14 = .ok (.bipush 42, 2) := by decide +kernel
theorem dX2_init_16 : decode cX2_init 16 = .ok (.newarray .int, 2) := by decide +kernel
theorem dX2_init_18 : decode cX2_init 18 = .ok (.putfield 17, 3) := by decide +kernel
theorem dX2_init_21 : decode cX2_init 21 = .ok (.aload_n 0, 1) := by decide +kernel
theorem dX2_init_22 : decode cX2_init 22 = .ok (.bipush 42, 2) := by decide +kernel
theorem dX2_init_24 : decode cX2_init 24 = .ok (.newarray .int, 2) := by decide +kernel
theorem dX2_init_26 : decode cX2_init 26 = .ok (.putfield 21, 3) := by decide +kernel
theorem dX2_init_29 : decode cX2_init 29 = .ok (.aload_n 0, 1) := by decide +kernel
theorem dX2_init_30 : decode cX2_init 30 = .ok (.bipush 42, 2) := by decide +kernel
theorem dX2_init_32 : decode cX2_init 32 = .ok (.newarray .int, 2) := by decide +kernel
theorem dX2_init_34 : decode cX2_init 34 = .ok (.putfield 24, 3) := by decide +kernel
theorem dX2_init_37 : decode cX2_init 37 = .ok (.aload_n 0, 1) := by decide +kernel
theorem dX2_init_38 : decode cX2_init 38 = .ok (.bipush 42, 2) := by decide +kernel
theorem dX2_init_40 : decode cX2_init 40 = .ok (.newarray .int, 2) := by decide +kernel
theorem dX2_init_42 : decode cX2_init 42 = .ok (.putfield 27, 3) := by decide +kernel
theorem dX2_init_45 : decode cX2_init 45 = .ok (.iconst 0, 1) := by decide +kernel
theorem dX2_init_46 : decode cX2_init 46 = .ok (.istore_n 1, 1) := by decide +kernel
theorem dX2_init_47 : decode cX2_init 47 = .ok (.iload_n 1, 1) := by decide +kernel
theorem dX2_init_48 : decode cX2_init 48 = .ok (.aload_n 0, 1) := by decide +kernel
theorem dX2_init_49 : decode cX2_init 49 = .ok (.getfield 13, 3) := by decide +kernel
theorem dX2_init_52 : decode cX2_init 52 = .ok (.arraylength, 1) := by decide +kernel
theorem dX2_init_53 : decode cX2_init 53 = .ok (.if_icmp .ge 22, 3) := by decide +kernel
theorem dX2_init_56 : decode cX2_init 56 = .ok (.aload_n 0, 1) := by decide +kernel
theorem dX2_init_57 : decode cX2_init 57 = .ok (.getfield 13, 3) := by decide +kernel
theorem dX2_init_60 : decode cX2_init 60 = .ok (.iload_n 1, 1) := by decide +kernel
theorem dX2_init_61 : decode cX2_init 61 = .ok (.new 11, 3) := by decide +kernel
theorem dX2_init_64 : decode cX2_init 64 = .ok (.dup, 1) := by decide +kernel
theorem dX2_init_65 : decode cX2_init 65 = .ok (.invokespecial 30, 3) := by decide +kernel
theorem dX2_init_68 : decode cX2_init 68 = .ok (.aastore, 1) := by decide +kernel
theorem dX2_init_69 : decode cX2_init 69 = .ok (.iinc 1 1, 3) := by decide +kernel
theorem dX2_init_72 : decode cX2_init 72 = .ok (.goto (-25), 3) := by decide +kernel
theorem dX2_init_75 : decode cX2_init 75 = .ok (.return_, 1) := by decide +kernel
theorem dX2_get_0 : decode cX2_get 0 = .ok (.iload_n 1, 1) := by decide +kernel
theorem dX2_get_1 : decode cX2_get 1 = .ok (.ifCond .lt 20, 3) := by decide +kernel
theorem dX2_get_4 : decode cX2_get 4 = .ok (.iload_n 1, 1) := by decide +kernel
theorem dX2_get_5 : decode cX2_get 5 = .ok (.aload_n 0, 1) := by decide +kernel
theorem dX2_get_6 : decode cX2_get 6 = .ok (.getfield 31, 3) := by decide +kernel
theorem dX2_get_9 : decode cX2_get 9 = .ok (.if_icmp .ge 12, 3) := by decide +kernel
theorem dX2_get_12 : decode cX2_get 12 = .ok (.aload_n 0, 1) := by decide +kernel
theorem dX2_get_13 : decode cX2_get 13 = .ok (.getfield 13, 3) := by decide +kernel
theorem dX2_get_16 : decode cX2_get 16 = .ok (.iload_n 1, 1) := by decide +kernel
theorem dX2_get_17 : decode cX2_get 17 = .ok (.aaload, 1) := by decide +kernel
theorem dX2_get_18 : decode cX2_get 18 = .ok (.goto 4, 3) := by decide +kernel
theorem dX2_get_21 : decode cX2_get 21 = .ok (.aconst_null, 1) := by decide +kernel
theorem dX2_get_22 : decode cX2_get 22 = .ok (.areturn, 1) := by decide +kernel
theorem dX2_cut_0 : decode cX2_cut 0 = .ok (.aload_n 0, 1) := by decide +kernel
theorem dX2_cut_1 : decode cX2_cut 1 = .ok (.iconst 0, 1) := by decide +kernel
theorem dX2_cut_2 : decode cX2_cut 2 = .ok (.putfield 31, 3) := by decide +kernel
theorem dX2_cut_5 : decode cX2_cut 5 = .ok (.aload_n 1, 1) := by decide +kernel
theorem dX2_cut_6 : decode cX2_cut 6 = .ok (.getfield 35, 3) := by decide +kernel
theorem dX2_cut_9 : decode cX2_cut 9 = .ok (.ifCond .eq 10, 3) := by decide +kernel
theorem dX2_cut_12 : decode cX2_cut 12 = .ok (.aload_n 2, 1) := by decide +kernel
theorem dX2_cut_13 : decode cX2_cut 13 = .ok (.getfield 35, 3) := by decide +kernel
theorem dX2_cut_16 : decode cX2_cut 16 = .ok (.ifCond .ne 4, 3) := by decide +kernel
theorem dX2_cut_19 : decode cX2_cut 19 = .ok (.return_, 1) := by decide +kernel
theorem dX2_cut_20 : decode cX2_cut 20 = .ok (.aload_n 0, 1) := by decide +kernel
theorem dX2_cut_21 : decode cX2_cut 21 = .ok (.iconst 0, 1) := by decide +kernel
theorem dX2_cut_22 : decode cX2_cut 22 = .ok (.putfield 38, 3) := by decide +kernel
theorem dX2_cut_25 : decode cX2_cut 25 = .ok (.aload_n 0, 1) := by decide +kernel
theorem dX2_cut_26 : decode cX2_cut 26 = .ok (.aload_n 1, 1) := by decide +kernel
theorem dX2_cut_27 : decode cX2_cut 27 = .ok (.iconst 0, 1) := by decide +kernel
theorem dX2_cut_28 : decode cX2_cut 28 = .ok (.invokevirtual 41, 3) := by decide +kernel
theorem dX2_cut_31 : decode cX2_cut 31 = .ok (.aload_n 0, 1) := by decide +kernel
theorem dX2_cut_32 : decode cX2_cut 32 = .ok (.getfield 38, 3) := by decide +kernel
theorem dX2_cut_35 : decode cX2_cut 35 = .ok (.istore_n 3, 1) := by decide +kernel
theorem dX2_cut_36 : decode cX2_cut 36 = .ok (.aload_n 0, 1) := by decide +kernel
theorem dX2_cut_37 : decode cX2_cut 37 = .ok (.aload_n 2, 1) := by decide +kernel
theorem dX2_cut_38 : decode cX2_cut 38 = .ok (.bipush 7, 2) := by decide +kernel
theorem dX2_cut_40 : decode cX2_cut 40 = .ok (.invokevirtual 41, 3) := by decide +kernel
theorem dX2_cut_43 : decode cX2_cut 43 = .ok (.iconst 0, 1) := by decide +kernel
theorem dX2_cut_44 : decode cX2_cut 44 = .ok (.istore 4, 2) := by decide +kernel
theorem dX2_cut_46 : decode cX2_cut 46 = .ok (.iload 4, 2) := by decide +kernel
theorem dX2_cut_48 : decode cX2_cut 48 = .ok (.aload_n 0, 1) := by decide +kernel
theorem dX2_cut_49 : decode cX2_cut 49 = .ok (.getfield 38, 3) := by decide +kernel
theorem dX2_cut_52 : decode cX2_cut 52 = .ok (.if_icmp .ge 79, 3) := by decide +kernel
theorem dX2_cut_55 : decode cX2_cut 55 = .ok (.iload 4, 2) := by decide +kernel
theorem dX2_cut_57 : decode cX2_cut 57 = .ok (.iconst 1, 1) := by decide +kernel
theorem dX2_cut_58 : decode cX2_cut 58 = .ok (.iadd, 1) := by decide +kernel
theorem dX2_cut_59 : decode cX2_cut 59 = .ok (.istore 5, 2) := by decide +kernel
theorem dX2_cut_61 : decode cX2_cut 61 = .ok (.iload 5, 2) := by decide +kernel
theorem dX2_cut_63 : decode cX2_cut 63 = .ok (.aload_n 0, 1) := by decide +kernel
theorem dX2_cut_64 : decode cX2_cut 64 = .ok (.getfield 38, 3) := by decide +kernel
theorem dX2_cut_67 : decode cX2_cut 67 = .ok (.if_icmp .ge 58, 3) := by decide +kernel
theorem dX2_cut_70 : decode cX2_cut 70 = .ok (.iload 4, 2) := by decide +kernel
theorem dX2_cut_72 : decode cX2_cut 72 = .ok (.iload_n 3, 1) := by decide +kernel
theorem dX2_cut_73 : decode cX2_cut 73 = .ok (.if_icmp .ge 13, 3) := by decide +kernel
theorem dX2_cut_76 : decode cX2_cut 76 = .ok (.iload 5, 2) := by decide +kernel
theorem dX2_cut_78 : decode cX2_cut 78 = .ok (.iload_n 3, 1) := by decide +kernel
theorem dX2_cut_79 : decode cX2_cut 79 = .ok (.if_icmp .lt 7, 3) := by decide +kernel
theorem dX2_cut_82 : decode cX2_cut 82 = .ok (.iconst 1, 1) := by decide +kernel
theorem dX2_cut_83 : decode cX2_cut 83 = .ok (.goto 4, 3) := by decide +kernel
theorem dX2_cut_86 : decode cX2_cut 86 = .ok (.iconst 0, 1) := by decide +kernel
theorem dX2_cut_87 : decode cX2_cut 87 = .ok (.istore 6, 2) := by decide +kernel
theorem dX2_cut_89 : decode cX2_cut 89 = .ok (.iload 6, 2) := by decide +kernel
theorem dX2_cut_91 : decode cX2_cut 91 = .ok (.ifCond .ne 18, 3) := by decide +kernel
theorem dX2_cut_94 : decode cX2_cut 94 = .ok (.aload_n 0, 1) := by decide +kernel
theorem dX2_cut_95 : decode cX2_cut 95 = .ok (.iload 4, 2) := by decide +kernel
theorem dX2_cut_97 : decode cX2_cut 97 = .ok (.invokevirtual 45, 3) := by decide +kernel
theorem dX2_cut_100 : decode cX2_cut 100 = .ok (.aload_n 0, 1) := by decide +kernel
theorem dX2_cut_101 : decode cX2_cut 101 = .ok (.iload 5, 2) := by decide +kernel
theorem dX2_cut_103 : decode cX2_cut 103 = .ok (.invokevirtual 45, 3) := by decide +kernel
theorem dX2_cut_106 : decode cX2_cut 106 = .ok (.if_icmp .ne 13, 3) := by decide +kernel
theorem dX2_cut_109 : decode cX2_cut 109 = .ok (.aload_n 0, 1) := by decide +kernel
theorem dX2_cut_110 : decode cX2_cut 110 = .ok (.aload_n 1, 1) := by decide +kernel
theorem dX2_cut_111 : decode cX2_cut 111 = .ok (.aload_n 2, 1) := by decide +kernel
theorem dX2_cut_112 : decode cX2_cut 112 = .ok (.iload 4, 2) := by decide +kernel
theorem dX2_cut_114 : decode cX2_cut 114 = .ok (.iload 5, 2) := by decide +kernel
theorem dX2_cut_116 : decode cX2_cut 116 = .ok (.invokevirtual 49, 3) := by decide +kernel
theorem dX2_cut_119 : decode cX2_cut 119 = .ok (.iinc 5 1, 3) := by decide +kernel
theorem dX2_cut_122 : decode cX2_cut 122 = .ok (.goto (-61), 3) := by decide +kernel
theorem dX2_cut_125 : decode cX2_cut 125 = .ok (.iinc 4 1, 3) := by decide +kernel
theorem dX2_cut_128 : decode cX2_cut 128 = .ok (.goto (-82), 3) := by decide +kernel
theorem dX2_cut_131 : decode cX2_cut 131 = .ok (.return_, 1) := by decide +kernel
theorem dX2_addPairs_0 : decode cX2_addPairs 0 = .ok (.iconst 0, 1) := by decide +kernel
theorem dX2_addPairs_1 : decode cX2_addPairs 1 = .ok (.istore_n 3, 1) := by decide +kernel
theorem dX2_addPairs_2 : decode cX2_addPairs 2 = .ok (.iload_n 3, 1) := by decide +kernel
theorem dX2_addPairs_3 : decode cX2_addPairs 3 = .ok (.aload_n 1, 1) := by decide +kernel
theorem dX2_addPairs_4 : decode cX2_addPairs 4 = .ok (.getfield 35, 3) := by decide +kernel
theorem dX2_addPairs_7 : decode cX2_addPairs 7 = .ok (.if_icmp .ge 136, 3) := by decide +kernel
theorem dX2_addPairs_10 : decode cX2_addPairs 10 = .ok (.iload_n 3, 1) := by decide +kernel
theorem dX2_addPairs_11 : decode cX2_addPairs 11 = .ok (.iconst 1, 1) := by decide +kernel
theorem dX2_addPairs_12 : decode cX2_addPairs 12 = .ok (.iadd, 1) := by decide +kernel
theorem dX2_addPairs_13 : decode cX2_addPairs 13 = .ok (.istore 4, 2) := by decide +kernel
theorem dX2_addPairs_15 : decode cX2_addPairs 15 = .ok (.iload 4, 2) := by decide +kernel
theorem dX2_addPairs_17 : decode cX2_addPairs 17 = .ok (.aload_n 1, 1) := by decide +kernel
theorem dX2_addPairs_18 : decode cX2_addPairs 18 = .ok (.getfield 35, 3) := by decide +kernel
theorem dX2_addPairs_21 : decode cX2_addPairs 21 = .ok (.if_icmp .ge 116, 3) := by decide +kernel
theorem dX2_addPairs_24 : decode cX2_addPairs 24 = .ok (.aload_n 0, 1) := by decide +kernel
theorem dX2_addPairs_25 : decode cX2_addPairs 25 = .ok (.getfield 38, 3) := by decide +kernel
theorem dX2_addPairs_28 : decode cX2_addPairs 28 = .ok (.bipush 42, 2) := by decide +kernel
theorem dX2_addPairs_30 : decode cX2_addPairs 30 = .ok (.if_icmp .ge 107, 3) := by decide +kernel
theorem dX2_addPairs_33 : decode cX2_addPairs 33 = .ok (.aload_n 0, 1) := by decide +kernel
theorem dX2_addPairs_34 : decode cX2_addPairs 34 = .ok (.getfield 17, 3) := by decide +kernel
theorem dX2_addPairs_37 : decode cX2_addPairs 37 = .ok (.aload_n 0, 1) := by decide +kernel
theorem dX2_addPairs_38 : decode cX2_addPairs 38 = .ok (.getfield 38, 3) := by decide +kernel
theorem dX2_addPairs_41 : decode cX2_addPairs 41 = .ok (.aload_n 1, 1) := by decide +kernel
theorem dX2_addPairs_42 : decode cX2_addPairs 42 = .ok (.getfield 53, 3) := by decide +kernel
theorem dX2_addPairs_45 : decode cX2_addPairs 45 = .ok (.iload 4, 2) := by decide +kernel
theorem dX2_addPairs_47 : decode cX2_addPairs 47 = .ok (.iaload, 1) := by decide +kernel
theorem dX2_addPairs_48 : decode cX2_addPairs 48 = .ok (.aload_n 1, 1) := by decide +kernel
theorem dX2_addPairs_49 : decode cX2_addPairs 49 = .ok (.getfield 53, 3) := by decide +kernel
theorem dX2_addPairs_52 : decode cX2_addPairs 52 = .ok (.iload_n 3, 1) := by decide +kernel
theorem dX2_addPairs_53 : decode cX2_addPairs 53 = .ok (.iaload, 1) := by decide +kernel
theorem dX2_addPairs_54 : decode cX2_addPairs 54 = .ok (.isub, 1) := by decide +kernel
theorem dX2_addPairs_55 : decode cX2_addPairs 55 = .ok (.iastore, 1) := by decide +kernel
theorem dX2_addPairs_56 : decode cX2_addPairs 56 = .ok (.aload_n 0, 1) := by decide +kernel
theorem dX2_addPairs_57 : decode cX2_addPairs 57 = .ok (.getfield 21, 3) := by decide +kernel
theorem dX2_addPairs_60 : decode cX2_addPairs 60 = .ok (.aload_n 0, 1) := by decide +kernel
theorem dX2_addPairs_61 : decode cX2_addPairs 61 = .ok (.getfield 38, 3) := by decide +kernel
theorem dX2_addPairs_64 : decode cX2_addPairs 64 = .ok (.aload_n 1, 1) := by decide +kernel
theorem dX2_addPairs_65 : decode cX2_addPairs 65 = .ok (.getfield 56, 3) := by decide +kernel
theorem dX2_addPairs_68 : decode cX2_addPairs 68 = .ok (.iload 4, 2) := by decide +kernel
theorem dX2_addPairs_70 : decode cX2_addPairs 70 = .ok (.iaload, 1) := by decide +kernel
theorem dX2_addPairs_71 : decode cX2_addPairs 71 = .ok (.aload_n 1, 1) := by decide +kernel
theorem dX2_addPairs_72 : decode cX2_addPairs 72 = .ok (.getfield 56, 3) := by decide +kernel
theorem dX2_addPairs_75 : decode cX2_addPairs 75 = .ok (.iload_n 3, 1) := by decide +kernel
theorem dX2_addPairs_76 : decode cX2_addPairs 76 = .ok (.iaload, 1) := by decide +kernel
theorem dX2_addPairs_77 : decode cX2_addPairs 77 = .ok (.isub, 1) := by decide +kernel
theorem dX2_addPairs_78 : decode cX2_addPairs 78 = .ok (.iastore, 1) := by decide +kernel
theorem dX2_addPairs_79 : decode cX2_addPairs 79 = .ok (.aload_n 0, 1) := by decide +kernel
theorem dX2_addPairs_80 : decode cX2_addPairs 80 = .ok (.getfield 24, 3) := by decide +kernel
theorem dX2_addPairs_83 : decode cX2_addPairs 83 = .ok (.aload_n 0, 1) := by decide +kernel
theorem dX2_addPairs_84 : decode cX2_addPairs 84 = .ok (.getfield 38, 3) := by decide +kernel
theorem dX2_addPairs_87 : decode cX2_addPairs 87 = .ok (.aload_n 1, 1) := by decide +kernel
theorem dX2_addPairs_88 : decode cX2_addPairs 88 = .ok (.getfield 59, 3) := by decide +kernel
theorem dX2_addPairs_91 : decode cX2_addPairs 91 = .ok (.iload 4, 2) := by decide +kernel
theorem dX2_addPairs_93 : decode cX2_addPairs 93 = .ok (.iaload, 1) := by decide +kernel
theorem dX2_addPairs_94 : decode cX2_addPairs 94 = .ok (.aload_n 1, 1) := by decide +kernel
theorem dX2_addPairs_95 : decode cX2_addPairs 95 = .ok (.getfield 59, 3) := by decide +kernel
theorem dX2_addPairs_98 : decode cX2_addPairs 98 = .ok (.iload_n 3, 1) := by decide +kernel
theorem dX2_addPairs_99 : decode cX2_addPairs 99 = .ok (.iaload, 1) := by decide +kernel
theorem dX2_addPairs_100 : decode cX2_addPairs 100 = .ok (.isub, 1) := by decide +kernel
theorem dX2_addPairs_101 : decode cX2_addPairs 101 = .ok (.iastore, 1) := by decide +kernel
theorem dX2_addPairs_102 : decode cX2_addPairs 102 = .ok (.aload_n 0, 1) := by decide +kernel
theorem dX2_addPairs_103 : decode cX2_addPairs 103 = .ok (.getfield 27, 3) := by decide +kernel
theorem dX2_addPairs_106 : decode cX2_addPairs 106 = .ok (.aload_n 0, 1) := by decide +kernel
theorem dX2_addPairs_107 : decode cX2_addPairs 107 = .ok (.getfield 38, 3) := by decide +kernel
theorem dX2_addPairs_110 : decode cX2_addPairs 110 = .ok (.iconst 1, 1) := by decide +kernel
theorem dX2_addPairs_111 : decode cX2_addPairs 111 = .ok (.iload_n 3, 1) := by decide +kernel
theorem dX2_addPairs_112 : decode cX2_addPairs 112 = .ok (.ishl, 1) := by decide +kernel
theorem dX2_addPairs_113 : decode cX2_addPairs 113 = .ok (.iconst 1, 1) := by decide +kernel
theorem dX2_addPairs_114 : decode cX2_addPairs 114 = .ok (.iload 4, 2) := by decide +kernel
theorem dX2_addPairs_116 : decode cX2_addPairs 116 = .ok (.ishl, 1) := by decide +kernel
theorem dX2_addPairs_117 : decode cX2_addPairs 117 = .ok (.ior, 1) := by decide +kernel
theorem dX2_addPairs_118 : decode cX2_addPairs 118 = .ok (.iload_n 2, 1) := by decide +kernel
theorem dX2_addPairs_119 : decode cX2_addPairs 119 = .ok (.ishl, 1) := by decide +kernel
theorem dX2_addPairs_120 : decode cX2_addPairs 120 = .ok (.iastore, 1) := by decide +kernel
theorem dX2_addPairs_121 : decode cX2_addPairs 121 = .ok (.aload_n 0, 1) := by decide +kernel
theorem dX2_addPairs_122 : decode cX2_addPairs 122 = .ok (.dup, 1) := by decide +kernel
theorem dX2_addPairs_123 : decode cX2_addPairs 123 = .ok (.getfield 38, 3) := by decide +kernel
theorem dX2_addPairs_126 : decode cX2_addPairs 126 = .ok (.iconst 1, 1) := by decide +kernel
theorem dX2_addPairs_127 : decode cX2_addPairs 127 = .ok (.iadd, 1) := by decide +kernel
theorem dX2_addPairs_128 : decode cX2_addPairs 128 = .ok (.putfield 38, 3) := by decide +kernel
theorem dX2_addPairs_131 : decode cX2_addPairs 131 = .ok (.iinc 4 1, 3) := by decide +kernel
theorem dX2_addPairs_134 : decode cX2_addPairs 134 = .ok (.goto (-119), 3) := by decide +kernel
theorem dX2_addPairs_137 : decode cX2_addPairs 137 = .ok (.iinc 3 1, 3) := by decide +kernel
theorem dX2_addPairs_140 : decode cX2_addPairs 140 = .ok (.goto (-138), 3) := by decide +kernel
theorem dX2_addPairs_143 : decode cX2_addPairs 143 = .ok (.return_, 1) := by decide +kernel
theorem dX2_firstEnd_0 : decode cX2_firstEnd 0 = .ok (.aload_n 0, 1) := by decide +kernel
theorem dX2_firstEnd_1 : decode cX2_firstEnd 1 = .ok (.getfield 27, 3) := by decide +kernel
theorem dX2_firstEnd_4 : decode cX2_firstEnd 4 = .ok (.iload_n 1, 1) := by decide +kernel
theorem dX2_firstEnd_5 : decode cX2_firstEnd 5 = .ok (.iaload, 1) := by decide +kernel
theorem dX2_firstEnd_6 : decode cX2_firstEnd 6 = .ok (.invokestatic 62, 3) := by decide +kernel
theorem dX2_firstEnd_9 : decode cX2_firstEnd 9 = .ok (.ireturn, 1) := by decide +kernel
theorem dX2_tryPairs_0 : decode cX2_tryPairs 0 = .ok (.aload_n 0, 1) := by decide +kernel
theorem dX2_tryPairs_1 : decode cX2_tryPairs 1 = .ok (.getfield 17, 3) := by decide +kernel
theorem dX2_tryPairs_4 : decode cX2_tryPairs 4 = .ok (.iload_n 3, 1) := by decide +kernel
theorem dX2_tryPairs_5 : decode cX2_tryPairs 5 = .ok (.iaload, 1) := by decide +kernel
theorem dX2_tryPairs_6 : decode cX2_tryPairs 6 = .ok (.aload_n 0, 1) := by decide +kernel
theorem dX2_tryPairs_7 : decode cX2_tryPairs 7 = .ok (.getfield 21, 3) := by decide +kernel
theorem dX2_tryPairs_10 : decode cX2_tryPairs 10 = .ok (.iload 4, 2) := by decide +kernel
theorem dX2_tryPairs_12 : decode cX2_tryPairs 12 = .ok (.iaload, 1) := by decide +kernel
theorem dX2_tryPairs_13 : decode cX2_tryPairs 13 = .ok (.imul, 1) := by decide +kernel
theorem dX2_tryPairs_14 : decode cX2_tryPairs 14 = .ok (.aload_n 0, 1) := by decide +kernel
theorem dX2_tryPairs_15 : decode cX2_tryPairs 15 = .ok (.getfield 17, 3) := by decide +kernel
theorem dX2_tryPairs_18 : decode cX2_tryPairs 18 = .ok (.iload 4, 2) := by decide +kernel
theorem dX2_tryPairs_20 : decode cX2_tryPairs 20 = .ok (.iaload, 1) := by decide +kernel
theorem dX2_tryPairs_21 : decode cX2_tryPairs 21 = .ok (.aload_n 0, 1) := by decide +kernel
theorem dX2_tryPairs_22 : decode cX2_tryPairs 22 = .ok (.getfield 21, 3) := by decide +kernel
theorem dX2_tryPairs_25 : decode cX2_tryPairs 25 = .ok (.iload_n 3, 1) := by decide +kernel
theorem dX2_tryPairs_26 : decode cX2_tryPairs 26 = .ok (.iaload, 1) := by decide +kernel
theorem dX2_tryPairs_27 : decode cX2_tryPairs 27 = .ok (.imul, 1) := by decide +kernel
theorem dX2_tryPairs_28 : decode cX2_tryPairs 28 = .ok (.isub, 1) := by decide +kernel
theorem dX2_tryPairs_29 : decode cX2_tryPairs 29 = .ok (.istore 5, 2) := by decide +kernel
theorem dX2_tryPairs_31 : decode cX2_tryPairs 31 = .ok (.iload 5, 2) := by decide +kernel
theorem dX2_tryPairs_33 : decode cX2_tryPairs 33 = .ok (.ifCond .ne 4, 3) := by decide +kernel
theorem dX2_tryPairs_36 : decode cX2_tryPairs 36 = .ok (.return_, 1) := by decide +kernel
theorem dX2_tryPairs_37 : decode cX2_tryPairs 37 = .ok (.iload 5, 2) := by decide +kernel
theorem dX2_tryPairs_39 : decode cX2_tryPairs 39 = .ok (.ifCond .ge 7, 3) := by decide +kernel
theorem dX2_tryPairs_42 : decode cX2_tryPairs 42 = .ok (.iconst (-1), 1) := by decide +kernel
theorem dX2_tryPairs_43 : decode cX2_tryPairs 43 = .ok (.goto 4, 3) := by decide +kernel
theorem dX2_tryPairs_46 : decode cX2_tryPairs 46 = .ok (.iconst 1, 1) := by decide +kernel
theorem dX2_tryPairs_47 : decode cX2_tryPairs 47 = .ok (.istore 6, 2) := by decide +kernel
theorem dX2_tryPairs_49 : decode cX2_tryPairs 49 = .ok (.iload 6, 2) := by decide +kernel
theorem dX2_tryPairs_51 : decode cX2_tryPairs 51 = .ok (.iload 5, 2) := by decide +kernel
theorem dX2_tryPairs_53 : decode cX2_tryPairs 53 = .ok (.imul, 1) := by decide +kernel
theorem dX2_tryPairs_54 : decode cX2_tryPairs 54 = .ok (.istore 7, 2) := by decide +kernel
theorem dX2_tryPairs_56 : decode cX2_tryPairs 56 = .ok (.iload 6, 2) := by decide +kernel
theorem dX2_tryPairs_58 : decode cX2_tryPairs 58 = .ok (.aload_n 0, 1) := by decide +kernel
theorem dX2_tryPairs_59 : decode cX2_tryPairs 59 = .ok (.getfield 24, 3) := by decide +kernel
theorem dX2_tryPairs_62 : decode cX2_tryPairs 62 = .ok (.iload 4, 2) := by decide +kernel
theorem dX2_tryPairs_64 : decode cX2_tryPairs 64 = .ok (.iaload, 1) := by decide +kernel
theorem dX2_tryPairs_65 : decode cX2_tryPairs 65 = .ok (.aload_n 0, 1) := by decide +kernel
theorem dX2_tryPairs_66 : decode cX2_tryPairs 66 = .ok (.getfield 21, 3) := by decide +kernel
theorem dX2_tryPairs_69 : decode cX2_tryPairs 69 = .ok (.iload_n 3, 1) := by decide +kernel
theorem dX2_tryPairs_70 : decode cX2_tryPairs 70 = .ok (.iaload, 1) := by decide +kernel
theorem dX2_tryPairs_71 : decode cX2_tryPairs 71 = .ok (.imul, 1) := by decide +kernel
theorem dX2_tryPairs_72 : decode cX2_tryPairs 72 = .ok (.aload_n 0, 1) := by decide +kernel
theorem dX2_tryPairs_73 : decode cX2_tryPairs 73 = .ok (.getfield 24, 3) := by decide +kernel
theorem dX2_tryPairs_76 : decode cX2_tryPairs 76 = .ok (.iload_n 3, 1) := by decide +kernel
theorem dX2_tryPairs_77 : decode cX2_tryPairs 77 = .ok (.iaload, 1) := by decide +kernel
theorem dX2_tryPairs_78 : decode cX2_tryPairs 78 = .ok (.aload_n 0, 1) := by decide +kernel
theorem dX2_tryPairs_79 : decode cX2_tryPairs 79 = .ok (.getfield 21, 3) := by decide +kernel
theorem dX2_tryPairs_82 : decode cX2_tryPairs 82 = .ok (.iload 4, 2) := by decide +kernel
theorem dX2_tryPairs_84 : decode cX2_tryPairs 84 = .ok (.iaload, 1) := by decide +kernel
theorem dX2_tryPairs_85 : decode cX2_tryPairs 85 = .ok (.imul, 1) := by decide +kernel
theorem dX2_tryPairs_86 : decode cX2_tryPairs 86 = .ok (.isub, 1) := by decide +kernel
theorem dX2_tryPairs_87 : decode cX2_tryPairs 87 = .ok (.imul, 1) := by decide +kernel
theorem dX2_tryPairs_88 : decode cX2_tryPairs 88 = .ok (.istore 8, 2) := by decide +kernel
theorem dX2_tryPairs_90 : decode cX2_tryPairs 90 = .ok (.iload 6, 2) := by decide +kernel
theorem dX2_tryPairs_92 : decode cX2_tryPairs 92 = .ok (.aload_n 0, 1) := by decide +kernel
theorem dX2_tryPairs_93 : decode cX2_tryPairs 93 = .ok (.getfield 24, 3) := by decide +kernel
theorem dX2_tryPairs_96 : decode cX2_tryPairs 96 = .ok (.iload_n 3, 1) := by decide +kernel
theorem dX2_tryPairs_97 : decode cX2_tryPairs 97 = .ok (.iaload, 1) := by decide +kernel
theorem dX2_tryPairs_98 : decode cX2_tryPairs 98 = .ok (.aload_n 0, 1) := by decide +kernel
theorem dX2_tryPairs_99 : decode cX2_tryPairs 99 = .ok (.getfield 17, 3) := by decide +kernel
theorem dX2_tryPairs_102 : decode cX2_tryPairs 102 = .ok (.iload 4, 2) := by decide +kernel
theorem dX2_tryPairs_104 : decode cX2_tryPairs 104 = .ok (.iaload, 1) := by decide +kernel
theorem dX2_tryPairs_105 : decode cX2_tryPairs 105 = .ok (.imul, 1) := by decide +kernel
theorem dX2_tryPairs_106 : decode cX2_tryPairs 106 = .ok (.aload_n 0, 1) := by decide +kernel
theorem dX2_tryPairs_107 : decode cX2_tryPairs 107 = .ok (.getfield 24, 3) := by decide +kernel
theorem dX2_tryPairs_110 : decode cX2_tryPairs 110 = .ok (.iload 4, 2) := by decide +kernel
theorem dX2_tryPairs_112 : decode cX2_tryPairs 112 = .ok (.iaload, 1) := by decide +kernel
theorem dX2_tryPairs_113 : decode cX2_tryPairs 113 = .ok (.aload_n 0, 1) := by decide +kernel
theorem dX2_tryPairs_114 : decode cX2_tryPairs 114 = .ok (.getfield 17, 3) := by decide +kernel
theorem dX2_tryPairs_117 : decode cX2_tryPairs 117 = .ok (.iload_n 3, 1) := by decide +kernel
theorem dX2_tryPairs_118 : decode cX2_tryPairs 118 = .ok (.iaload, 1) := by decide +kernel
theorem dX2_tryPairs_119 : decode cX2_tryPairs 119 = .ok (.imul, 1) := by decide +kernel
theorem dX2_tryPairs_120 : decode cX2_tryPairs 120 = .ok (.isub, 1) := by decide +kernel
theorem dX2_tryPairs_121 : decode cX2_tryPairs 121 = .ok (.imul, 1) := by decide +kernel
theorem dX2_tryPairs_122 : decode cX2_tryPairs 122 = .ok (.istore 9, 2) := by decide +kernel
theorem dX2_tryPairs_124 : decode cX2_tryPairs 124 = .ok (.aload_n 0, 1) := by decide +kernel
theorem dX2_tryPairs_125 : decode cX2_tryPairs 125 = .ok (.getfield 27, 3) := by decide +kernel
theorem dX2_tryPairs_128 : decode cX2_tryPairs 128 = .ok (.iload_n 3, 1) := by decide +kernel
theorem dX2_tryPairs_129 : decode cX2_tryPairs 129 = .ok (.iaload, 1) := by decide +kernel
theorem dX2_tryPairs_130 : decode cX2_tryPairs 130 = .ok (.aload_n 0, 1) := by decide +kernel
theorem dX2_tryPairs_131 : decode cX2_tryPairs 131 = .ok (.getfield 27, 3) := by decide +kernel
theorem dX2_tryPairs_134 : decode cX2_tryPairs 134 = .ok (.iload 4, 2) := by decide +kernel
theorem dX2_tryPairs_136 : decode cX2_tryPairs 136 = .ok (.iaload, 1) := by decide +kernel
theorem dX2_tryPairs_137 : decode cX2_tryPairs 137 = .ok (.ior, 1) := by decide +kernel
theorem dX2_tryPairs_138 : decode cX2_tryPairs 138 = .ok (.istore 10, 2) := by decide +kernel
theorem dX2_tryPairs_140 : decode cX2_tryPairs 140 = .ok (.aload_n 1, 1) := by decide +kernel
theorem dX2_tryPairs_141 : decode cX2_tryPairs 141 = .ok (.iload 8, 2) := by decide +kernel
theorem dX2_tryPairs_143 : decode cX2_tryPairs 143 = .ok (.iload 9, 2) := by decide +kernel
theorem dX2_tryPairs_145 : decode cX2_tryPairs 145 = .ok (.iload 7, 2) := by decide +kernel
theorem dX2_tryPairs_147 : decode cX2_tryPairs 147 = .ok (.invokevirtual 67, 3) := by decide +kernel
theorem dX2_tryPairs_150 : decode cX2_tryPairs 150 = .ok (.istore 11, 2) := by decide +kernel
theorem dX2_tryPairs_152 : decode cX2_tryPairs 152 = .ok (.iload 10, 2) := by decide +kernel
theorem dX2_tryPairs_154 : decode cX2_tryPairs 154 = .ok (.bipush 127, 2) := by decide +kernel
theorem dX2_tryPairs_156 : decode cX2_tryPairs 156 = .ok (.iand, 1) := by decide +kernel
theorem dX2_tryPairs_157 : decode cX2_tryPairs 157 = .ok (.iload 11, 2) := by decide +kernel
theorem dX2_tryPairs_159 : decode cX2_tryPairs 159 = .ok (.iconst (-1), 1) := by decide +kernel
theorem dX2_tryPairs_160 : decode cX2_tryPairs 160 = .ok (.ixor, 1) := by decide +kernel
theorem dX2_tryPairs_161 : decode cX2_tryPairs 161 = .ok (.iand, 1) := by decide +kernel
theorem dX2_tryPairs_162 : decode cX2_tryPairs 162 = .ok (.ifCond .eq 4, 3) := by decide +kernel
theorem dX2_tryPairs_165 : decode cX2_tryPairs 165 = .ok (.return_, 1) := by decide +kernel
theorem dX2_tryPairs_166 : decode cX2_tryPairs 166 = .ok (.aload_n 2, 1) := by decide +kernel
theorem dX2_tryPairs_167 : decode cX2_tryPairs 167 = .ok (.iload 8, 2) := by decide +kernel
theorem dX2_tryPairs_169 : decode cX2_tryPairs 169 = .ok (.iload 9, 2) := by decide +kernel
theorem dX2_tryPairs_171 : decode cX2_tryPairs 171 = .ok (.iload 7, 2) := by decide +kernel
theorem dX2_tryPairs_173 : decode cX2_tryPairs 173 = .ok (.invokevirtual 67, 3) := by decide +kernel
theorem dX2_tryPairs_176 : decode cX2_tryPairs 176 = .ok (.istore 12, 2) := by decide +kernel
theorem dX2_tryPairs_178 : decode cX2_tryPairs 178 = .ok (.iload 10, 2) := by decide +kernel
theorem dX2_tryPairs_180 : decode cX2_tryPairs 180 = .ok (.bipush 7, 2) := by decide +kernel
theorem dX2_tryPairs_182 : decode cX2_tryPairs 182 = .ok (.ishr, 1) := by decide +kernel
theorem dX2_tryPairs_183 : decode cX2_tryPairs 183 = .ok (.iload 12, 2) := by decide +kernel
theorem dX2_tryPairs_185 : decode cX2_tryPairs 185 = .ok (.iconst (-1), 1) := by decide +kernel
theorem dX2_tryPairs_186 : decode cX2_tryPairs 186 = .ok (.ixor, 1) := by decide +kernel
theorem dX2_tryPairs_187 : decode cX2_tryPairs 187 = .ok (.iand, 1) := by decide +kernel
theorem dX2_tryPairs_188 : decode cX2_tryPairs 188 = .ok (.ifCond .eq 4, 3) := by decide +kernel
theorem dX2_tryPairs_191 : decode cX2_tryPairs 191 = .ok (.return_, 1) := by decide +kernel
theorem dX2_tryPairs_192 : decode cX2_tryPairs 192 = .ok (.aload_n 0, 1) := by decide +kernel
theorem dX2_tryPairs_193 : decode cX2_tryPairs 193 = .ok (.getfield 13, 3) := by decide +kernel
theorem dX2_tryPairs_196 : decode cX2_tryPairs 196 = .ok (.aload_n 0, 1) := by decide +kernel
theorem dX2_tryPairs_197 : decode cX2_tryPairs 197 = .ok (.getfield 31, 3) := by decide +kernel
theorem dX2_tryPairs_200 : decode cX2_tryPairs 200 = .ok (.aaload, 1) := by decide +kernel
theorem dX2_tryPairs_201 : decode cX2_tryPairs 201 = .ok (.astore 13, 2) := by decide +kernel
theorem dX2_tryPairs_203 : decode cX2_tryPairs 203 = .ok (.aload 13, 2) := by decide +kernel
theorem dX2_tryPairs_205 : decode cX2_tryPairs 205 = .ok (.iload 8, 2) := by decide +kernel
theorem dX2_tryPairs_207 : decode cX2_tryPairs 207 = .ok (.iload 9, 2) := by decide +kernel
theorem dX2_tryPairs_209 : decode cX2_tryPairs 209 = .ok (.iload 7, 2) := by decide +kernel
theorem dX2_tryPairs_211 : decode cX2_tryPairs 211 = .ok (.invokevirtual 71, 3) := by decide +kernel
theorem dX2_tryPairs_214 : decode cX2_tryPairs 214 = .ok (.aload 13, 2) := by decide +kernel
theorem dX2_tryPairs_216 : decode cX2_tryPairs 216 = .ok (.iload 11, 2) := by decide +kernel
theorem dX2_tryPairs_218 : decode cX2_tryPairs 218 = .ok (.putfield 75, 3) := by decide +kernel
theorem dX2_tryPairs_221 : decode cX2_tryPairs 221 = .ok (.aload 13, 2) := by decide +kernel
theorem dX2_tryPairs_223 : decode cX2_tryPairs 223 = .ok (.iload 12, 2) := by decide +kernel
theorem dX2_tryPairs_225 : decode cX2_tryPairs 225 = .ok (.putfield 78, 3) := by decide +kernel
theorem dX2_tryPairs_228 : decode cX2_tryPairs 228 = .ok (.aload_n 0, 1) := by decide +kernel
theorem dX2_tryPairs_229 : decode cX2_tryPairs 229 = .ok (.aload 13, 2) := by decide +kernel
theorem dX2_tryPairs_231 : decode cX2_tryPairs 231 = .ok (.invokevirtual 81, 3) := by decide +kernel
theorem dX2_tryPairs_234 : decode cX2_tryPairs 234 = .ok (.return_, 1) := by decide +kernel
theorem dX2_sortIn_0 : decode cX2_sortIn 0 = .ok (.aload_n 0, 1) := by decide +kernel
theorem dX2_sortIn_1 : decode cX2_sortIn 1 = .ok (.getfield 31, 3) := by decide +kernel
theorem dX2_sortIn_4 : decode cX2_sortIn 4 = .ok (.istore_n 2, 1) := by decide +kernel
theorem dX2_sortIn_5 : decode cX2_sortIn 5 = .ok (.iload_n 2, 1) := by decide +kernel
theorem dX2_sortIn_6 : decode cX2_sortIn 6 = .ok (.ifCond .le 24, 3) := by decide +kernel
theorem dX2_sortIn_9 : decode cX2_sortIn 9 = .ok (.aload_n 1, 1) := by decide +kernel
theorem dX2_sortIn_10 : decode cX2_sortIn 10 = .ok (.aload_n 0, 1) := by decide +kernel
theorem dX2_sortIn_11 : decode cX2_sortIn 11 = .ok (.getfield 13, 3) := by decide +kernel
theorem dX2_sortIn_14 : decode cX2_sortIn 14 = .ok (.iload_n 2, 1) := by decide +kernel
theorem dX2_sortIn_15 : decode cX2_sortIn 15 = .ok (.iconst 1, 1) := by decide +kernel
theorem dX2_sortIn_16 : decode cX2_sortIn 16 = .ok (.isub, 1) := by decide +kernel
theorem dX2_sortIn_17 : decode cX2_sortIn 17 = .ok (.aaload, 1) := by decide +kernel
theorem dX2_sortIn_18 : decode cX2_sortIn 18 = .ok (.invokevirtual 85, 3) := by decide +kernel
theorem dX2_sortIn_21 : decode cX2_sortIn 21 = .ok (.ifCond .ge 9, 3) := by decide +kernel
theorem dX2_sortIn_24 : decode cX2_sortIn 24 = .ok (.iinc 2 (-1), 3) := by decide +kernel
theorem dX2_sortIn_27 : decode cX2_sortIn 27 = .ok (.goto (-22), 3) := by decide +kernel
theorem dX2_sortIn_30 : decode cX2_sortIn 30 = .ok (.iload_n 2, 1) := by decide +kernel
theorem dX2_sortIn_31 : decode cX2_sortIn 31 = .ok (.ifCond .le 22, 3) := by decide +kernel
theorem dX2_sortIn_34 : decode cX2_sortIn 34 = .ok (.aload_n 1, 1) := by decide +kernel
theorem dX2_sortIn_35 : decode cX2_sortIn 35 = .ok (.aload_n 0, 1) := by decide +kernel
theorem dX2_sortIn_36 : decode cX2_sortIn 36 = .ok (.getfield 13, 3) := by decide +kernel
theorem dX2_sortIn_39 : decode cX2_sortIn 39 = .ok (.iload_n 2, 1) := by decide +kernel
theorem dX2_sortIn_40 : decode cX2_sortIn 40 = .ok (.iconst 1, 1) := by decide +kernel
theorem dX2_sortIn_41 : decode cX2_sortIn 41 = .ok (.isub, 1) := by decide +kernel
theorem dX2_sortIn_42 : decode cX2_sortIn 42 = .ok (.aaload, 1) := by decide +kernel
theorem dX2_sortIn_43 : decode cX2_sortIn 43 = .ok (.invokevirtual 85, 3) := by decide +kernel
theorem dX2_sortIn_46 : decode cX2_sortIn 46 = .ok (.ifCond .ne 7, 3) := by decide +kernel
theorem dX2_sortIn_49 : decode cX2_sortIn 49 = .ok (.iconst 1, 1) := by decide +kernel
theorem dX2_sortIn_50 : decode cX2_sortIn 50 = .ok (.goto 4, 3) := by decide +kernel
theorem dX2_sortIn_53 : decode cX2_sortIn 53 = .ok (.iconst 0, 1) := by decide +kernel
theorem dX2_sortIn_54 : decode cX2_sortIn 54 = .ok (.istore_n 3, 1) := by decide +kernel
theorem dX2_sortIn_55 : decode cX2_sortIn 55 = .ok (.iload_n 3, 1) := by decide +kernel
theorem dX2_sortIn_56 : decode cX2_sortIn 56 = .ok (.ifCond .ne 12, 3) := by decide +kernel
theorem dX2_sortIn_59 : decode cX2_sortIn 59 = .ok (.aload_n 0, 1) := by decide +kernel
theorem dX2_sortIn_60 : decode cX2_sortIn 60 = .ok (.getfield 31, 3) := by decide +kernel
theorem dX2_sortIn_63 : decode cX2_sortIn 63 = .ok (.bipush 93, 2) := by decide +kernel
theorem dX2_sortIn_65 : decode cX2_sortIn 65 = .ok (.if_icmp .lt 4, 3) := by decide +kernel
theorem dX2_sortIn_68 : decode cX2_sortIn 68 = .ok (.return_, 1) := by decide +kernel
theorem dX2_sortIn_69 : decode cX2_sortIn 69 = .ok (.aload_n 0, 1) := by decide +kernel
theorem dX2_sortIn_70 : decode cX2_sortIn 70 = .ok (.getfield 31, 3) := by decide +kernel
theorem dX2_sortIn_73 : decode cX2_sortIn 73 = .ok (.istore 4, 2) := by decide +kernel
theorem dX2_sortIn_75 : decode cX2_sortIn 75 = .ok (.iload 4, 2) := by decide +kernel
theorem dX2_sortIn_77 : decode cX2_sortIn 77 = .ok (.iload_n 2, 1) := by decide +kernel
theorem dX2_sortIn_78 : decode cX2_sortIn 78 = .ok (.if_icmp .le 25, 3) := by decide +kernel
theorem dX2_sortIn_81 : decode cX2_sortIn 81 = .ok (.aload_n 0, 1) := by decide +kernel
theorem dX2_sortIn_82 : decode cX2_sortIn 82 = .ok (.getfield 13, 3) := by decide +kernel
theorem dX2_sortIn_85 : decode cX2_sortIn 85 = .ok (.iload 4, 2) := by decide +kernel
theorem dX2_sortIn_87 : decode cX2_sortIn 87 = .ok (.aload_n 0, 1) := by decide +kernel
theorem dX2_sortIn_88 : decode cX2_sortIn 88 = .ok (.getfield 13, 3) := by decide +kernel
theorem dX2_sortIn_91 : decode cX2_sortIn 91 = .ok (.iload 4, 2) := by decide +kernel
theorem dX2_sortIn_93 : decode cX2_sortIn 93 = .ok (.iconst 1, 1) := by decide +kernel
theorem dX2_sortIn_94 : decode cX2_sortIn 94 = .ok (.isub, 1) := by decide +kernel
theorem dX2_sortIn_95 : decode cX2_sortIn 95 = .ok (.aaload, 1) := by decide +kernel
theorem dX2_sortIn_96 : decode cX2_sortIn 96 = .ok (.aastore, 1) := by decide +kernel
theorem dX2_sortIn_97 : decode cX2_sortIn 97 = .ok (.iinc 4 (-1), 3) := by decide +kernel
theorem dX2_sortIn_100 : decode cX2_sortIn 100 = .ok (.goto (-25), 3) := by decide +kernel
theorem dX2_sortIn_103 : decode cX2_sortIn 103 = .ok (.aload_n 0, 1) := by decide +kernel
theorem dX2_sortIn_104 : decode cX2_sortIn 104 = .ok (.getfield 13, 3) := by decide +kernel
theorem dX2_sortIn_107 : decode cX2_sortIn 107 = .ok (.iload_n 2, 1) := by decide +kernel
theorem dX2_sortIn_108 : decode cX2_sortIn 108 = .ok (.aload_n 1, 1) := by decide +kernel
theorem dX2_sortIn_109 : decode cX2_sortIn 109 = .ok (.aastore, 1) := by decide +kernel
theorem dX2_sortIn_110 : decode cX2_sortIn 110 = .ok (.aload_n 0, 1) := by decide +kernel
theorem dX2_sortIn_111 : decode cX2_sortIn 111 = .ok (.dup, 1) := by decide +kernel
theorem dX2_sortIn_112 : decode cX2_sortIn 112 = .ok (.getfield 31, 3) := by decide +kernel
theorem dX2_sortIn_115 : decode cX2_sortIn 115 = .ok (.iconst 1, 1) := by decide +kernel
theorem dX2_sortIn_116 : decode cX2_sortIn 116 = .ok (.iadd, 1) := by decide +kernel
theorem dX2_sortIn_117 : decode cX2_sortIn 117 = .ok (.putfield 31, 3) := by decide +kernel
theorem dX2_sortIn_120 : decode cX2_sortIn 120 = .ok (.return_, 1) := by decide +kernel
theorem dX3_init_0 : decode cX3_init 0 = .ok (.aload_n 0, 1) := by decide +kernel
theorem dX3_init_1 : decode cX3_init 1 = .ok (.invokespecial 3, 3) := by decide +kernel
theorem dX3_init_4 : decode cX3_init 4 = .ok (.aload_n 0, 1) := by decide +kernel
theorem dX3_init_5 : decode cX3_init 5 = .ok (.sipush 128, 3) := by decide +kernel
theorem dX3_init_8 : decode cX3_init 8 = .ok (.newarray .int, 2) := by decide +kernel
theorem dX3_init_10 : decode cX3_init 10 = .ok (.putfield 11, 3) := by decide +kernel
theorem dX3_init_13 : decode cX3_init 13 = .ok (.aload_n 0, 1) := by decide +kernel
theorem dX3_init_14 : decode cX3_init 14 = .ok (.sipush 128, 3) := by decide +kernel
theorem dX3_init_17 : decode cX3_init 17 = .ok (.newarray .int, 2) := by decide +kernel
theorem dX3_init_19 : decode cX3_init 19 = .ok (.putfield 15, 3) := by decide +kernel
theorem dX3_init_22 : decode cX3_init 22 = .ok (.aload_n 0, 1) := by decide +kernel
theorem dX3_init_23 : decode cX3_init 23 = .ok (.sipush 256, 3) := by decide +kernel
theorem dX3_init_26 : decode cX3_init 26 = .ok (.newarray .int, 2) := by decide +kernel
theorem dX3_init_28 : decode cX3_init 28 = .ok (.putfield 18, 3) := by decide +kernel
theorem dX3_init_31 : decode cX3_init 31 = .ok (.return_, 1) := by decide +kernel
theorem dX3_gather_0 : decode cX3_gather 0 = .ok (.aload_n 0, 1) := by decide +kernel
theorem dX3_gather_1 : decode cX3_gather 1 = .ok (.iconst 0, 1) := by decide +kernel
theorem dX3_gather_2 : decode cX3_gather 2 = .ok (.putfield 21, 3) := by decide +kernel
theorem dX3_gather_5 : decode cX3_gather 5 = .ok (.iconst 0, 1) := by decide +kernel
theorem dX3_gather_6 : decode cX3_gather 6 = .ok (.istore_n 3, 1) := by decide +kernel
theorem dX3_gather_7 : decode cX3_gather 7 = .ok (.iload_n 3, 1) := by decide +kernel
theorem dX3_gather_8 : decode cX3_gather 8 = .ok (.aload_n 1, 1) := by decide +kernel
theorem dX3_gather_9 : decode cX3_gather 9 = .ok (.getfield 25, 3) := by decide +kernel
theorem dX3_gather_12 : decode cX3_gather 12 = .ok (.if_icmp .ge 33, 3) := by decide +kernel
theorem dX3_gather_15 : decode cX3_gather 15 = .ok (.iload_n 2, 1) := by decide +kernel
theorem dX3_gather_16 : decode cX3_gather 16 = .ok (.iload_n 3, 1) := by decide +kernel
theorem dX3_gather_17 : decode cX3_gather 17 = .ok (.ishr, 1) := by decide +kernel
theorem dX3_gather_18 : decode cX3_gather 18 = .ok (.iconst 1, 1) := by decide +kernel
theorem dX3_gather_19 : decode cX3_gather 19 = .ok (.iand, 1) := by decide +kernel
theorem dX3_gather_20 : decode cX3_gather 20 = .ok (.ifCond .eq 19, 3) := by decide +kernel
theorem dX3_gather_23 : decode cX3_gather 23 = .ok (.aload_n 0, 1) := by decide +kernel
theorem dX3_gather_24 : decode cX3_gather 24 = .ok (.aload_n 1, 1) := by decide +kernel
theorem dX3_gather_25 : decode cX3_gather 25 = .ok (.getfield 28, 3) := by decide +kernel
theorem dX3_gather_28 : decode cX3_gather 28 = .ok (.iload_n 3, 1) := by decide +kernel
theorem dX3_gather_29 : decode cX3_gather 29 = .ok (.iaload, 1) := by decide +kernel
theorem dX3_gather_30 : decode cX3_gather 30 = .ok (.aload_n 1, 1) := by decide +kernel
theorem dX3_gather_31 : decode cX3_gather 31 = .ok (.getfield 31, 3) := by decide +kernel
theorem dX3_gather_34 : decode cX3_gather 34 = .ok (.iload_n 3, 1) := by decide +kernel
theorem dX3_gather_35 : decode cX3_gather 35 = .ok (.iaload, 1) := by decide +kernel
theorem dX3_gather_36 : decode cX3_gather 36 = .ok (.invokevirtual 34, 3) := by decide +kernel
theorem dX3_gather_39 : decode cX3_gather 39 = .ok (.iinc 3 1, 3) := by decide +kernel
theorem dX3_gather_42 : decode cX3_gather 42 = .ok (.goto (-35), 3) := by decide +kernel
theorem dX3_gather_45 : decode cX3_gather 45 = .ok (.aload_n 0, 1) := by decide +kernel
theorem dX3_gather_46 : decode cX3_gather 46 = .ok (.invokevirtual 38, 3) := by decide +kernel
theorem dX3_gather_49 : decode cX3_gather 49 = .ok (.areturn, 1) := by decide +kernel
theorem dX3_gatherSums_0 : decode cX3_gatherSums 0 = .ok (.aload_n 0, 1) := by decide +kernel
theorem dX3_gatherSums_1 : decode cX3_gatherSums 1 = .ok (.iconst 0, 1) := by decide +kernel
theorem dX3_gatherSums_2 : decode cX3_gatherSums 2 = .ok (.putfield 21, 3) := by decide +kernel
theorem dX3_gatherSums_5 : decode cX3_gatherSums 5 = .ok (.iconst 0, 1) := by decide +kernel
theorem dX3_gatherSums_6 : decode cX3_gatherSums 6 = .ok (.istore 5, 2) := by decide +kernel
theorem dX3_gatherSums_8 : decode cX3_gatherSums 8 = .ok (.iload 5, 2) := by decide +kernel
theorem dX3_gatherSums_10 : decode cX3_gatherSums 10 = .ok (.aload_n 1, 1) := by decide +kernel
theorem dX3_gatherSums_11 : decode cX3_gatherSums 11 = .ok (.getfield 25, 3) := by decide +kernel
theorem dX3_gatherSums_14 : decode cX3_gatherSums 14 = .ok (.if_icmp .ge 80, 3) := by decide +kernel
theorem dX3_gatherSums_17 : decode cX3_gatherSums 17 = .ok (.iconst 0, 1) := by decide +kernel
theorem dX3_gatherSums_18 : decode cX3_gatherSums 18 = .ok (.istore 6, 2) := by decide +kernel
theorem dX3_gatherSums_20 : decode cX3_gatherSums 20 = .ok (.iload 6, 2) := by decide +kernel
theorem dX3_gatherSums_22 : decode cX3_gatherSums 22 = .ok (.aload_n 3, 1) := by decide +kernel
theorem dX3_gatherSums_23 : decode cX3_gatherSums 23 = .ok (.getfield 25, 3) := by decide +kernel
theorem dX3_gatherSums_26 : decode cX3_gatherSums 26 = .ok (.if_icmp .ge 62, 3) := by decide +kernel
theorem dX3_gatherSums_29 : decode cX3_gatherSums 29 = .ok (.iload_n 2, 1) := by decide +kernel
theorem dX3_gatherSums_30 : decode cX3_gatherSums 30 = .ok (.iload 5, 2) := by decide +kernel
theorem dX3_gatherSums_32 : decode cX3_gatherSums 32 = .ok (.ishr, 1) := by decide +kernel
theorem dX3_gatherSums_33 : decode cX3_gatherSums 33 = .ok (.iconst 1, 1) := by decide +kernel
theorem dX3_gatherSums_34 : decode cX3_gatherSums 34 = .ok (.iand, 1) := by decide +kernel
theorem dX3_gatherSums_35 : decode cX3_gatherSums 35 = .ok (.ifCond .eq 47, 3) := by decide +kernel
theorem dX3_gatherSums_38 : decode cX3_gatherSums 38 = .ok (.iload 4, 2) := by decide +kernel
theorem dX3_gatherSums_40 : decode cX3_gatherSums 40 = .ok (.iload 6, 2) := by decide +kernel
theorem dX3_gatherSums_42 : decode cX3_gatherSums 42 = .ok (.ishr, 1) := by decide +kernel
theorem dX3_gatherSums_43 : decode cX3_gatherSums 43 = .ok (.iconst 1, 1) := by decide +kernel
theorem dX3_gatherSums_44 : decode cX3_gatherSums 44 = .ok (.iand, 1) := by decide +kernel
theorem dX3_gatherSums_45 : decode cX3_gatherSums 45 = .ok (.ifCond .eq 37, 3) := by decide +kernel
theorem dX3_gatherSums_48 : decode cX3_gatherSums 48 = .ok (.aload_n 0, 1) := by decide +kernel
theorem dX3_gatherSums_49 : decode cX3_gatherSums 49 = .ok (.aload_n 1, 1) := by decide +kernel
theorem dX3_gatherSums_50 : decode cX3_gatherSums 50 = .ok (.getfield 28, 3) := by decide +kernel
theorem dX3_gatherSums_53 : decode cX3_gatherSums 53 = .ok (.iload 5, 2) := by decide +kernel
theorem dX3_gatherSums_55 : decode cX3_gatherSums 55 = .ok (.iaload, 1) := by decide +kernel
theorem dX3_gatherSums_56 : decode cX3_gatherSums 56 = .ok (.aload_n 3, 1) := by decide +kernel
theorem dX3_gatherSums_57 : decode cX3_gatherSums 57 = .ok (.getfield 28, 3) := by decide +kernel
theorem dX3_gatherSums_60 : decode cX3_gatherSums 60 = .ok (.iload 6, 2) := by decide +kernel
theorem dX3_gatherSums_62 : decode cX3_gatherSums 62 = .ok (.iaload, 1) := by decide +kernel
theorem dX3_gatherSums_63 : decode cX3_gatherSums 63 = .ok (.iadd, 1) := by decide +kernel
theorem dX3_gatherSums_64 : decode cX3_gatherSums 64 = .ok (.aload_n 1, 1) := by decide +kernel
theorem dX3_gatherSums_65 : decode cX3_gatherSums 65 = .ok (.getfield 31, 3) := by decide +kernel
theorem dX3_gatherSums_68 : decode cX3_gatherSums 68 = .ok (.iload 5, 2) := by decide +kernel
theorem dX3_gatherSums_70 : decode cX3_gatherSums 70 = .ok (.iaload, 1) := by decide +kernel
theorem dX3_gatherSums_71 : decode cX3_gatherSums 71 = .ok (.aload_n 3, 1) := by decide +kernel
theorem dX3_gatherSums_72 : decode cX3_gatherSums 72 = .ok (.getfield 31, 3) := by decide +kernel
theorem dX3_gatherSums_75 : decode cX3_gatherSums 75 = .ok (.iload 6, 2) := by decide +kernel
theorem dX3_gatherSums_77 : decode cX3_gatherSums 77 = .ok (.iaload, 1) := by decide +kernel
theorem dX3_gatherSums_78 : decode cX3_gatherSums 78 = .ok (.iadd, 1) := by decide +kernel
theorem dX3_gatherSums_79 : decode cX3_gatherSums 79 = .ok (.invokevirtual 34, 3) := by decide +kernel
theorem dX3_gatherSums_82 : decode cX3_gatherSums 82 = .ok (.iinc 6 1, 3) := by decide +kernel
theorem dX3_gatherSums_85 : decode cX3_gatherSums 85 = .ok (.goto (-65), 3) := by decide +kernel
theorem dX3_gatherSums_88 : decode cX3_gatherSums 88 = .ok (.iinc 5 1, 3) := by decide +kernel
theorem dX3_gatherSums_91 : decode cX3_gatherSums 91 = .ok (.goto (-83), 3) := by decide +kernel
theorem dX3_gatherSums_94 : decode cX3_gatherSums 94 = .ok (.aload_n 0, 1) := by decide +kernel
theorem dX3_gatherSums_95 : decode cX3_gatherSums 95 = .ok (.invokevirtual 38, 3) := by decide +kernel
theorem dX3_gatherSums_98 : decode cX3_gatherSums 98 = .ok (.areturn, 1) := by decide +kernel
theorem dX3_gatherFan_0 : decode cX3_gatherFan 0 = .ok (.aload_n 0, 1) := by decide +kernel
theorem dX3_gatherFan_1 : decode cX3_gatherFan 1 = .ok (.iconst 0, 1) := by decide +kernel
theorem dX3_gatherFan_2 : decode cX3_gatherFan 2 = .ok (.putfield 21, 3) := by decide +kernel
theorem dX3_gatherFan_5 : decode cX3_gatherFan 5 = .ok (.iconst 0, 1) := by decide +kernel
theorem dX3_gatherFan_6 : decode cX3_gatherFan 6 = .ok (.istore_n 2, 1) := by decide +kernel
theorem dX3_gatherFan_7 : decode cX3_gatherFan 7 = .ok (.iload_n 2, 1) := by decide +kernel
theorem dX3_gatherFan_8 : decode cX3_gatherFan 8 = .ok (.aload_n 1, 1) := by decide +kernel
theorem dX3_gatherFan_9 : decode cX3_gatherFan 9 = .ok (.invokevirtual 42, 3) := by decide +kernel
theorem dX3_gatherFan_12 : decode cX3_gatherFan 12 = .ok (.if_icmp .gt 75, 3) := by decide +kernel
theorem dX3_gatherFan_15 : decode cX3_gatherFan 15 = .ok (.iconst 0, 1) := by decide +kernel
theorem dX3_gatherFan_16 : decode cX3_gatherFan 16 = .ok (.istore_n 3, 1) := by decide +kernel
theorem dX3_gatherFan_17 : decode cX3_gatherFan 17 = .ok (.iconst 0, 1) := by decide +kernel
theorem dX3_gatherFan_18 : decode cX3_gatherFan 18 = .ok (.istore 4, 2) := by decide +kernel
theorem dX3_gatherFan_20 : decode cX3_gatherFan 20 = .ok (.iconst 0, 1) := by decide +kernel
theorem dX3_gatherFan_21 : decode cX3_gatherFan 21 = .ok (.istore 5, 2) := by decide +kernel
theorem dX3_gatherFan_23 : decode cX3_gatherFan 23 = .ok (.iload 5, 2) := by decide +kernel
theorem dX3_gatherFan_25 : decode cX3_gatherFan 25 = .ok (.aload_n 1, 1) := by decide +kernel
theorem dX3_gatherFan_26 : decode cX3_gatherFan 26 = .ok (.getfield 25, 3) := by decide +kernel
theorem dX3_gatherFan_29 : decode cX3_gatherFan 29 = .ok (.if_icmp .ge 45, 3) := by decide +kernel
theorem dX3_gatherFan_32 : decode cX3_gatherFan 32 = .ok (.iload_n 3, 1) := by decide +kernel
theorem dX3_gatherFan_33 : decode cX3_gatherFan 33 = .ok (.iload_n 2, 1) := by decide +kernel
theorem dX3_gatherFan_34 : decode cX3_gatherFan 34 = .ok (.iload 5, 2) := by decide +kernel
theorem dX3_gatherFan_36 : decode cX3_gatherFan 36 = .ok (.ishr, 1) := by decide +kernel
theorem dX3_gatherFan_37 : decode cX3_gatherFan 37 = .ok (.iconst 1, 1) := by decide +kernel
theorem dX3_gatherFan_38 : decode cX3_gatherFan 38 = .ok (.iand, 1) := by decide +kernel
theorem dX3_gatherFan_39 : decode cX3_gatherFan 39 = .ok (.aload_n 1, 1) := by decide +kernel
theorem dX3_gatherFan_40 : decode cX3_gatherFan 40 = .ok (.getfield 28, 3) := by decide +kernel
theorem dX3_gatherFan_43 : decode cX3_gatherFan 43 = .ok (.iload 5, 2) := by decide +kernel
theorem dX3_gatherFan_45 : decode cX3_gatherFan 45 = .ok (.iaload, 1) := by decide +kernel
theorem dX3_gatherFan_46 : decode cX3_gatherFan 46 = .ok (.imul, 1) := by decide +kernel
theorem dX3_gatherFan_47 : decode cX3_gatherFan 47 = .ok (.iadd, 1) := by decide +kernel
theorem dX3_gatherFan_48 : decode cX3_gatherFan 48 = .ok (.istore_n 3, 1) := by decide +kernel
theorem dX3_gatherFan_49 : decode cX3_gatherFan 49 = .ok (.iload 4, 2) := by decide +kernel
theorem dX3_gatherFan_51 : decode cX3_gatherFan 51 = .ok (.iload_n 2, 1) := by decide +kernel
theorem dX3_gatherFan_52 : decode cX3_gatherFan 52 = .ok (.iload 5, 2) := by decide +kernel
theorem dX3_gatherFan_54 : decode cX3_gatherFan 54 = .ok (.ishr, 1) := by decide +kernel
theorem dX3_gatherFan_55 : decode cX3_gatherFan 55 = .ok (.iconst 1, 1) := by decide +kernel
theorem dX3_gatherFan_56 : decode cX3_gatherFan 56 = .ok (.iand, 1) := by decide +kernel
theorem dX3_gatherFan_57 : decode cX3_gatherFan 57 = .ok (.aload_n 1, 1) := by decide +kernel
theorem dX3_gatherFan_58 : decode cX3_gatherFan 58 = .ok (.getfield 31, 3) := by decide +kernel
theorem dX3_gatherFan_61 : decode cX3_gatherFan 61 = .ok (.iload 5, 2) := by decide +kernel
theorem dX3_gatherFan_63 : decode cX3_gatherFan 63 = .ok (.iaload, 1) := by decide +kernel
end
section
theorem dX3_gatherFan_64 : decode cX3_gatherFan 64 = .ok (.imul, 1) := by decide +kernel
theorem dX3_gatherFan_65 : decode cX3_gatherFan 65 = .ok (.iadd, 1) := by decide +kernel
theorem dX3_gatherFan_66 : decode cX3_gatherFan 66 = .ok (.istore 4, 2) := by decide +kernel
theorem dX3_gatherFan_68 : decode cX3_gatherFan 68 = .ok (.iinc 5 1, 3) := by decide +kernel
theorem dX3_gatherFan_71 : decode cX3_gatherFan 71 = .ok (.goto (-48), 3) := by decide +kernel
theorem dX3_gatherFan_74 : decode cX3_gatherFan 74 = .ok (.aload_n 0, 1) := by decide +kernel
theorem dX3_gatherFan_75 : decode cX3_gatherFan 75 = .ok (.iload_n 3, 1) := by decide +kernel
theorem dX3_gatherFan_76 : decode cX3_gatherFan 76 = .ok (.iload 4, 2) := by decide +kernel
theorem dX3_gatherFan_78 : decode cX3_gatherFan 78 = .ok (.invokevirtual 34, 3) := by decide +kernel
theorem dX3_gatherFan_81 : decode cX3_gatherFan 81 = .ok (.iinc 2 1, 3) := by decide +kernel
theorem dX3_gatherFan_84 : decode cX3_gatherFan 84 = .ok (.goto (-77), 3) := by decide +kernel
theorem dX3_gatherFan_87 : decode cX3_gatherFan 87 = .ok (.aload_n 0, 1) := by decide +kernel
theorem dX3_gatherFan_88 : decode cX3_gatherFan 88 = .ok (.invokevirtual 38, 3) := by decide +kernel
theorem dX3_gatherFan_91 : decode cX3_gatherFan 91 = .ok (.areturn, 1) := by decide +kernel
theorem dX3_include_0 : decode cX3_include 0 = .ok (.aload_n 0, 1) := by decide +kernel
theorem dX3_include_1 : decode cX3_include 1 = .ok (.getfield 21, 3) := by decide +kernel
theorem dX3_include_4 : decode cX3_include 4 = .ok (.istore_n 3, 1) := by decide +kernel
theorem dX3_include_5 : decode cX3_include 5 = .ok (.iload_n 3, 1) := by decide +kernel
theorem dX3_include_6 : decode cX3_include 6 = .ok (.ifCond .le 21, 3) := by decide +kernel
theorem dX3_include_9 : decode cX3_include 9 = .ok (.aload_n 0, 1) := by decide +kernel
theorem dX3_include_10 : decode cX3_include 10 = .ok (.iload_n 3, 1) := by decide +kernel
theorem dX3_include_11 : decode cX3_include 11 = .ok (.iconst 1, 1) := by decide +kernel
theorem dX3_include_12 : decode cX3_include 12 = .ok (.isub, 1) := by decide +kernel
theorem dX3_include_13 : decode cX3_include 13 = .ok (.iload_n 1, 1) := by decide +kernel
theorem dX3_include_14 : decode cX3_include 14 = .ok (.iload_n 2, 1) := by decide +kernel
theorem dX3_include_15 : decode cX3_include 15 = .ok (.invokevirtual 46, 3) := by decide +kernel
theorem dX3_include_18 : decode cX3_include 18 = .ok (.ifCond .eq 9, 3) := by decide +kernel
theorem dX3_include_21 : decode cX3_include 21 = .ok (.iinc 3 (-1), 3) := by decide +kernel
theorem dX3_include_24 : decode cX3_include 24 = .ok (.goto (-19), 3) := by decide +kernel
theorem dX3_include_27 : decode cX3_include 27 = .ok (.iload_n 3, 1) := by decide +kernel
theorem dX3_include_28 : decode cX3_include 28 = .ok (.ifCond .le 31, 3) := by decide +kernel
theorem dX3_include_31 : decode cX3_include 31 = .ok (.aload_n 0, 1) := by decide +kernel
theorem dX3_include_32 : decode cX3_include 32 = .ok (.getfield 11, 3) := by decide +kernel
theorem dX3_include_35 : decode cX3_include 35 = .ok (.iload_n 3, 1) := by decide +kernel
theorem dX3_include_36 : decode cX3_include 36 = .ok (.iconst 1, 1) := by decide +kernel
theorem dX3_include_37 : decode cX3_include 37 = .ok (.isub, 1) := by decide +kernel
theorem dX3_include_38 : decode cX3_include 38 = .ok (.iaload, 1) := by decide +kernel
theorem dX3_include_39 : decode cX3_include 39 = .ok (.iload_n 1, 1) := by decide +kernel
theorem dX3_include_40 : decode cX3_include 40 = .ok (.if_icmp .ne 19, 3) := by decide +kernel
theorem dX3_include_43 : decode cX3_include 43 = .ok (.aload_n 0, 1) := by decide +kernel
theorem dX3_include_44 : decode cX3_include 44 = .ok (.getfield 15, 3) := by decide +kernel
theorem dX3_include_47 : decode cX3_include 47 = .ok (.iload_n 3, 1) := by decide +kernel
theorem dX3_include_48 : decode cX3_include 48 = .ok (.iconst 1, 1) := by decide +kernel
theorem dX3_include_49 : decode cX3_include 49 = .ok (.isub, 1) := by decide +kernel
theorem dX3_include_50 : decode cX3_include 50 = .ok (.iaload, 1) := by decide +kernel
theorem dX3_include_51 : decode cX3_include 51 = .ok (.iload_n 2, 1) := by decide +kernel
theorem dX3_include_52 : decode cX3_include 52 = .ok (.if_icmp .ne 7, 3) := by decide +kernel
theorem dX3_include_55 : decode cX3_include 55 = .ok (.iconst 1, 1) := by decide +kernel
theorem dX3_include_56 : decode cX3_include 56 = .ok (.goto 4, 3) := by decide +kernel
theorem dX3_include_59 : decode cX3_include 59 = .ok (.iconst 0, 1) := by decide +kernel
theorem dX3_include_60 : decode cX3_include 60 = .ok (.istore 4, 2) := by decide +kernel
theorem dX3_include_62 : decode cX3_include 62 = .ok (.iload 4, 2) := by decide +kernel
theorem dX3_include_64 : decode cX3_include 64 = .ok (.ifCond .ne 13, 3) := by decide +kernel
theorem dX3_include_67 : decode cX3_include 67 = .ok (.aload_n 0, 1) := by decide +kernel
theorem dX3_include_68 : decode cX3_include 68 = .ok (.getfield 21, 3) := by decide +kernel
theorem dX3_include_71 : decode cX3_include 71 = .ok (.sipush 128, 3) := by decide +kernel
theorem dX3_include_74 : decode cX3_include 74 = .ok (.if_icmp .lt 4, 3) := by decide +kernel
theorem dX3_include_77 : decode cX3_include 77 = .ok (.return_, 1) := by decide +kernel
theorem dX3_include_78 : decode cX3_include 78 = .ok (.aload_n 0, 1) := by decide +kernel
theorem dX3_include_79 : decode cX3_include 79 = .ok (.getfield 21, 3) := by decide +kernel
theorem dX3_include_82 : decode cX3_include 82 = .ok (.istore 5, 2) := by decide +kernel
theorem dX3_include_84 : decode cX3_include 84 = .ok (.iload 5, 2) := by decide +kernel
theorem dX3_include_86 : decode cX3_include 86 = .ok (.iload_n 3, 1) := by decide +kernel
theorem dX3_include_87 : decode cX3_include 87 = .ok (.if_icmp .le 41, 3) := by decide +kernel
theorem dX3_include_90 : decode cX3_include 90 = .ok (.aload_n 0, 1) := by decide +kernel
theorem dX3_include_91 : decode cX3_include 91 = .ok (.getfield 11, 3) := by decide +kernel
theorem dX3_include_94 : decode cX3_include 94 = .ok (.iload 5, 2) := by decide +kernel
theorem dX3_include_96 : decode cX3_include 96 = .ok (.aload_n 0, 1) := by decide +kernel
theorem dX3_include_97 : decode cX3_include 97 = .ok (.getfield 11, 3) := by decide +kernel
theorem dX3_include_100 : decode cX3_include 100 = .ok (.iload 5, 2) := by decide +kernel
theorem dX3_include_102 : decode cX3_include 102 = .ok (.iconst 1, 1) := by decide +kernel
theorem dX3_include_103 : decode cX3_include 103 = .ok (.isub, 1) := by decide +kernel
theorem dX3_include_104 : decode cX3_include 104 = .ok (.iaload, 1) := by decide +kernel
theorem dX3_include_105 : decode cX3_include 105 = .ok (.iastore, 1) := by decide +kernel
theorem dX3_include_106 : decode cX3_include 106 = .ok (.aload_n 0, 1) := by decide +kernel
theorem dX3_include_107 : decode cX3_include 107 = .ok (.getfield 15, 3) := by decide +kernel
theorem dX3_include_110 : decode cX3_include 110 = .ok (.iload 5, 2) := by decide +kernel
theorem dX3_include_112 : decode cX3_include 112 = .ok (.aload_n 0, 1) := by decide +kernel
theorem dX3_include_113 : decode cX3_include 113 = .ok (.getfield 15, 3) := by decide +kernel
theorem dX3_include_116 : decode cX3_include 116 = .ok (.iload 5, 2) := by decide +kernel
theorem dX3_include_118 : decode cX3_include 118 = .ok (.iconst 1, 1) := by decide +kernel
theorem dX3_include_119 : decode cX3_include 119 = .ok (.isub, 1) := by decide +kernel
theorem dX3_include_120 : decode cX3_include 120 = .ok (.iaload, 1) := by decide +kernel
theorem dX3_include_121 : decode cX3_include 121 = .ok (.iastore, 1) := by decide +kernel
theorem dX3_include_122 : decode cX3_include 122 = .ok (.iinc 5 (-1), 3) := by decide +kernel
theorem dX3_include_125 : decode cX3_include 125 = .ok (.goto (-41), 3) := by decide +kernel
theorem dX3_include_128 : decode cX3_include 128 = .ok (.aload_n 0, 1) := by decide +kernel
theorem dX3_include_129 : decode cX3_include 129 = .ok (.getfield 11, 3) := by decide +kernel
theorem dX3_include_132 : decode cX3_include 132 = .ok (.iload_n 3, 1) := by decide +kernel
theorem dX3_include_133 : decode cX3_include 133 = .ok (.iload_n 1, 1) := by decide +kernel
theorem dX3_include_134 : decode cX3_include 134 = .ok (.iastore, 1) := by decide +kernel
theorem dX3_include_135 : decode cX3_include 135 = .ok (.aload_n 0, 1) := by decide +kernel
theorem dX3_include_136 : decode cX3_include 136 = .ok (.getfield 15, 3) := by decide +kernel
theorem dX3_include_139 : decode cX3_include 139 = .ok (.iload_n 3, 1) := by decide +kernel
theorem dX3_include_140 : decode cX3_include 140 = .ok (.iload_n 2, 1) := by decide +kernel
theorem dX3_include_141 : decode cX3_include 141 = .ok (.iastore, 1) := by decide +kernel
theorem dX3_include_142 : decode cX3_include 142 = .ok (.aload_n 0, 1) := by decide +kernel
theorem dX3_include_143 : decode cX3_include 143 = .ok (.dup, 1) := by decide +kernel
theorem dX3_include_144 : decode cX3_include 144 = .ok (.getfield 21, 3) := by decide +kernel
theorem dX3_include_147 : decode cX3_include 147 = .ok (.iconst 1, 1) := by decide +kernel
theorem dX3_include_148 : decode cX3_include 148 = .ok (.iadd, 1) := by decide +kernel
theorem dX3_include_149 : decode cX3_include 149 = .ok (.putfield 21, 3) := by decide +kernel
theorem dX3_include_152 : decode cX3_include 152 = .ok (.return_, 1) := by decide +kernel
theorem dX3_comesBehind_0 : decode cX3_comesBehind 0 = .ok (.aload_n 0, 1) := by decide +kernel
theorem dX3_comesBehind_1 : decode cX3_comesBehind 1 = .ok (.getfield 15, 3) := by decide +kernel
theorem dX3_comesBehind_4 : decode cX3_comesBehind 4 = .ok (.iload_n 1, 1) := by decide +kernel
theorem dX3_comesBehind_5 : decode cX3_comesBehind 5 = .ok (.iaload, 1) := by decide +kernel
theorem dX3_comesBehind_6 : decode cX3_comesBehind 6 = .ok (.iload_n 3, 1) := by decide +kernel
theorem dX3_comesBehind_7 : decode cX3_comesBehind 7 = .ok (.if_icmp .gt 23, 3) := by decide +kernel
theorem dX3_comesBehind_10 : decode cX3_comesBehind 10 = .ok (.aload_n 0, 1) := by decide +kernel
theorem dX3_comesBehind_11 : decode cX3_comesBehind 11 = .ok (.getfield 15, 3) := by decide +kernel
theorem dX3_comesBehind_14 : decode cX3_comesBehind 14 = .ok (.iload_n 1, 1) := by decide +kernel
theorem dX3_comesBehind_15 : decode cX3_comesBehind 15 = .ok (.iaload, 1) := by decide +kernel
theorem dX3_comesBehind_16 : decode cX3_comesBehind 16 = .ok (.iload_n 3, 1) := by decide +kernel
theorem dX3_comesBehind_17 : decode cX3_comesBehind 17 = .ok (.if_icmp .ne 17, 3) := by decide +kernel
theorem dX3_comesBehind_20 : decode cX3_comesBehind 20 = .ok (.aload_n 0, 1) := by decide +kernel
theorem dX3_comesBehind_21 : decode cX3_comesBehind 21 = .ok (.getfield 11, 3) := by decide +kernel
theorem dX3_comesBehind_24 : decode cX3_comesBehind 24 = .ok (.iload_n 1, 1) := by decide +kernel
theorem dX3_comesBehind_25 : decode cX3_comesBehind 25 = .ok (.iaload, 1) := by decide +kernel
theorem dX3_comesBehind_26 : decode cX3_comesBehind 26 = .ok (.iload_n 2, 1) := by decide +kernel
theorem dX3_comesBehind_27 : decode cX3_comesBehind 27 = .ok (.if_icmp .le 7, 3) := by decide +kernel
theorem dX3_comesBehind_30 : decode cX3_comesBehind 30 = .ok (.iconst 1, 1) := by decide +kernel
theorem dX3_comesBehind_31 : decode cX3_comesBehind 31 = .ok (.goto 4, 3) := by decide +kernel
theorem dX3_comesBehind_34 : decode cX3_comesBehind 34 = .ok (.iconst 0, 1) := by decide +kernel
theorem dX3_comesBehind_35 : decode cX3_comesBehind 35 = .ok (.ireturn, 1) := by decide +kernel
theorem dX3_findCorners_0 : decode cX3_findCorners 0 = .ok (.aload_n 0, 1) := by decide +kernel
theorem dX3_findCorners_1 : decode cX3_findCorners 1 = .ok (.iconst 0, 1) := by decide +kernel
theorem dX3_findCorners_2 : decode cX3_findCorners 2 = .ok (.putfield 50, 3) := by decide +kernel
theorem dX3_findCorners_5 : decode cX3_findCorners 5 = .ok (.iconst 0, 1) := by decide +kernel
theorem dX3_findCorners_6 : decode cX3_findCorners 6 = .ok (.istore_n 1, 1) := by decide +kernel
theorem dX3_findCorners_7 : decode cX3_findCorners 7 = .ok (.iload_n 1, 1) := by decide +kernel
theorem dX3_findCorners_8 : decode cX3_findCorners 8 = .ok (.aload_n 0, 1) := by decide +kernel
theorem dX3_findCorners_9 : decode cX3_findCorners 9 = .ok (.getfield 21, 3) := by decide +kernel
theorem dX3_findCorners_12 : decode cX3_findCorners 12 = .ok (.if_icmp .ge 15, 3) := by decide +kernel
theorem dX3_findCorners_15 : decode cX3_findCorners 15 = .ok (.aload_n 0, 1) := by decide +kernel
theorem dX3_findCorners_16 : decode cX3_findCorners 16 = .ok (.iload_n 1, 1) := by decide +kernel
theorem dX3_findCorners_17 : decode cX3_findCorners 17 = .ok (.iconst 1, 1) := by decide +kernel
theorem dX3_findCorners_18 : decode cX3_findCorners 18 = .ok (.invokevirtual 53, 3) := by decide +kernel
theorem dX3_findCorners_21 : decode cX3_findCorners 21 = .ok (.iinc 1 1, 3) := by decide +kernel
theorem dX3_findCorners_24 : decode cX3_findCorners 24 = .ok (.goto (-17), 3) := by decide +kernel
theorem dX3_findCorners_27 : decode cX3_findCorners 27 = .ok (.aload_n 0, 1) := by decide +kernel
theorem dX3_findCorners_28 : decode cX3_findCorners 28 = .ok (.getfield 50, 3) := by decide +kernel
theorem dX3_findCorners_31 : decode cX3_findCorners 31 = .ok (.istore_n 1, 1) := by decide +kernel
theorem dX3_findCorners_32 : decode cX3_findCorners 32 = .ok (.aload_n 0, 1) := by decide +kernel
theorem dX3_findCorners_33 : decode cX3_findCorners 33 = .ok (.getfield 21, 3) := by decide +kernel
theorem dX3_findCorners_36 : decode cX3_findCorners 36 = .ok (.iconst 2, 1) := by decide +kernel
theorem dX3_findCorners_37 : decode cX3_findCorners 37 = .ok (.isub, 1) := by decide +kernel
theorem dX3_findCorners_38 : decode cX3_findCorners 38 = .ok (.istore_n 2, 1) := by decide +kernel
theorem dX3_findCorners_39 : decode cX3_findCorners 39 = .ok (.iload_n 2, 1) := by decide +kernel
theorem dX3_findCorners_40 : decode cX3_findCorners 40 = .ok (.ifCond .lt 15, 3) := by decide +kernel
theorem dX3_findCorners_43 : decode cX3_findCorners 43 = .ok (.aload_n 0, 1) := by decide +kernel
theorem dX3_findCorners_44 : decode cX3_findCorners 44 = .ok (.iload_n 2, 1) := by decide +kernel
theorem dX3_findCorners_45 : decode cX3_findCorners 45 = .ok (.iload_n 1, 1) := by decide +kernel
theorem dX3_findCorners_46 : decode cX3_findCorners 46 = .ok (.invokevirtual 53, 3) := by decide +kernel
theorem dX3_findCorners_49 : decode cX3_findCorners 49 = .ok (.iinc 2 (-1), 3) := by decide +kernel
theorem dX3_findCorners_52 : decode cX3_findCorners 52 = .ok (.goto (-13), 3) := by decide +kernel
theorem dX3_findCorners_55 : decode cX3_findCorners 55 = .ok (.aload_n 0, 1) := by decide +kernel
theorem dX3_findCorners_56 : decode cX3_findCorners 56 = .ok (.getfield 21, 3) := by decide +kernel
theorem dX3_findCorners_59 : decode cX3_findCorners 59 = .ok (.iconst 1, 1) := by decide +kernel
theorem dX3_findCorners_60 : decode cX3_findCorners 60 = .ok (.if_icmp .le 13, 3) := by decide +kernel
theorem dX3_findCorners_63 : decode cX3_findCorners 63 = .ok (.aload_n 0, 1) := by decide +kernel
theorem dX3_findCorners_64 : decode cX3_findCorners 64 = .ok (.dup, 1) := by decide +kernel
theorem dX3_findCorners_65 : decode cX3_findCorners 65 = .ok (.getfield 50, 3) := by decide +kernel
theorem dX3_findCorners_68 : decode cX3_findCorners 68 = .ok (.iconst 1, 1) := by decide +kernel
theorem dX3_findCorners_69 : decode cX3_findCorners 69 = .ok (.isub, 1) := by decide +kernel
theorem dX3_findCorners_70 : decode cX3_findCorners 70 = .ok (.putfield 50, 3) := by decide +kernel
theorem dX3_findCorners_73 : decode cX3_findCorners 73 = .ok (.aload_n 0, 1) := by decide +kernel
theorem dX3_findCorners_74 : decode cX3_findCorners 74 = .ok (.areturn, 1) := by decide +kernel
theorem dX3_turnTo_0 : decode cX3_turnTo 0 = .ok (.aload_n 0, 1) := by decide +kernel
theorem dX3_turnTo_1 : decode cX3_turnTo 1 = .ok (.getfield 50, 3) := by decide +kernel
theorem dX3_turnTo_4 : decode cX3_turnTo 4 = .ok (.iload_n 2, 1) := by decide +kernel
theorem dX3_turnTo_5 : decode cX3_turnTo 5 = .ok (.if_icmp .le 46, 3) := by decide +kernel
theorem dX3_turnTo_8 : decode cX3_turnTo 8 = .ok (.aload_n 0, 1) := by decide +kernel
theorem dX3_turnTo_9 : decode cX3_turnTo 9 = .ok (.aload_n 0, 1) := by decide +kernel
theorem dX3_turnTo_10 : decode cX3_turnTo 10 = .ok (.getfield 18, 3) := by decide +kernel
theorem dX3_turnTo_13 : decode cX3_turnTo 13 = .ok (.aload_n 0, 1) := by decide +kernel
theorem dX3_turnTo_14 : decode cX3_turnTo 14 = .ok (.getfield 50, 3) := by decide +kernel
theorem dX3_turnTo_17 : decode cX3_turnTo 17 = .ok (.iconst 2, 1) := by decide +kernel
theorem dX3_turnTo_18 : decode cX3_turnTo 18 = .ok (.isub, 1) := by decide +kernel
theorem dX3_turnTo_19 : decode cX3_turnTo 19 = .ok (.iaload, 1) := by decide +kernel
theorem dX3_turnTo_20 : decode cX3_turnTo 20 = .ok (.aload_n 0, 1) := by decide +kernel
theorem dX3_turnTo_21 : decode cX3_turnTo 21 = .ok (.getfield 18, 3) := by decide +kernel
theorem dX3_turnTo_24 : decode cX3_turnTo 24 = .ok (.aload_n 0, 1) := by decide +kernel
theorem dX3_turnTo_25 : decode cX3_turnTo 25 = .ok (.getfield 50, 3) := by decide +kernel
theorem dX3_turnTo_28 : decode cX3_turnTo 28 = .ok (.iconst 1, 1) := by decide +kernel
theorem dX3_turnTo_29 : decode cX3_turnTo 29 = .ok (.isub, 1) := by decide +kernel
theorem dX3_turnTo_30 : decode cX3_turnTo 30 = .ok (.iaload, 1) := by decide +kernel
theorem dX3_turnTo_31 : decode cX3_turnTo 31 = .ok (.iload_n 1, 1) := by decide +kernel
theorem dX3_turnTo_32 : decode cX3_turnTo 32 = .ok (.invokevirtual 56, 3) := by decide +kernel
theorem dX3_turnTo_35 : decode cX3_turnTo 35 = .ok (.ifCond .ne 16, 3) := by decide +kernel
theorem dX3_turnTo_38 : decode cX3_turnTo 38 = .ok (.aload_n 0, 1) := by decide +kernel
theorem dX3_turnTo_39 : decode cX3_turnTo 39 = .ok (.dup, 1) := by decide +kernel
theorem dX3_turnTo_40 : decode cX3_turnTo 40 = .ok (.getfield 50, 3) := by decide +kernel
theorem dX3_turnTo_43 : decode cX3_turnTo 43 = .ok (.iconst 1, 1) := by decide +kernel
theorem dX3_turnTo_44 : decode cX3_turnTo 44 = .ok (.isub, 1) := by decide +kernel
theorem dX3_turnTo_45 : decode cX3_turnTo 45 = .ok (.putfield 50, 3) := by decide +kernel
theorem dX3_turnTo_48 : decode cX3_turnTo 48 = .ok (.goto (-48), 3) := by decide +kernel
theorem dX3_turnTo_51 : decode cX3_turnTo 51 = .ok (.aload_n 0, 1) := by decide +kernel
theorem dX3_turnTo_52 : decode cX3_turnTo 52 = .ok (.getfield 50, 3) := by decide +kernel
theorem dX3_turnTo_55 : decode cX3_turnTo 55 = .ok (.aload_n 0, 1) := by decide +kernel
theorem dX3_turnTo_56 : decode cX3_turnTo 56 = .ok (.getfield 18, 3) := by decide +kernel
theorem dX3_turnTo_59 : decode cX3_turnTo 59 = .ok (.arraylength, 1) := by decide +kernel
theorem dX3_turnTo_60 : decode cX3_turnTo 60 = .ok (.if_icmp .ge 23, 3) := by decide +kernel
theorem dX3_turnTo_63 : decode cX3_turnTo 63 = .ok (.aload_n 0, 1) := by decide +kernel
theorem dX3_turnTo_64 : decode cX3_turnTo 64 = .ok (.getfield 18, 3) := by decide +kernel
theorem dX3_turnTo_67 : decode cX3_turnTo 67 = .ok (.aload_n 0, 1) := by decide +kernel
theorem dX3_turnTo_68 : decode cX3_turnTo 68 = .ok (.getfield 50, 3) := by decide +kernel
theorem dX3_turnTo_71 : decode cX3_turnTo 71 = .ok (.iload_n 1, 1) := by decide +kernel
theorem dX3_turnTo_72 : decode cX3_turnTo 72 = .ok (.iastore, 1) := by decide +kernel
theorem dX3_turnTo_73 : decode cX3_turnTo 73 = .ok (.aload_n 0, 1) := by decide +kernel
theorem dX3_turnTo_74 : decode cX3_turnTo 74 = .ok (.dup, 1) := by decide +kernel
theorem dX3_turnTo_75 : decode cX3_turnTo 75 = .ok (.getfield 50, 3) := by decide +kernel
theorem dX3_turnTo_78 : decode cX3_turnTo 78 = .ok (.iconst 1, 1) := by decide +kernel
theorem dX3_turnTo_79 : decode cX3_turnTo 79 = .ok (.iadd, 1) := by decide +kernel
theorem dX3_turnTo_80 : decode cX3_turnTo 80 = .ok (.putfield 50, 3) := by decide +kernel
theorem dX3_turnTo_83 : decode cX3_turnTo 83 = .ok (.return_, 1) := by decide +kernel
theorem dX3_turnsLeft_0 : decode cX3_turnsLeft 0 = .ok (.aload_n 0, 1) := by decide +kernel
theorem dX3_turnsLeft_1 : decode cX3_turnsLeft 1 = .ok (.getfield 11, 3) := by decide +kernel
theorem dX3_turnsLeft_4 : decode cX3_turnsLeft 4 = .ok (.iload_n 2, 1) := by decide +kernel
theorem dX3_turnsLeft_5 : decode cX3_turnsLeft 5 = .ok (.iaload, 1) := by decide +kernel
theorem dX3_turnsLeft_6 : decode cX3_turnsLeft 6 = .ok (.aload_n 0, 1) := by decide +kernel
theorem dX3_turnsLeft_7 : decode cX3_turnsLeft 7 = .ok (.getfield 11, 3) := by decide +kernel
theorem dX3_turnsLeft_10 : decode cX3_turnsLeft 10 = .ok (.iload_n 1, 1) := by decide +kernel
theorem dX3_turnsLeft_11 : decode cX3_turnsLeft 11 = .ok (.iaload, 1) := by decide +kernel
theorem dX3_turnsLeft_12 : decode cX3_turnsLeft 12 = .ok (.isub, 1) := by decide +kernel
theorem dX3_turnsLeft_13 : decode cX3_turnsLeft 13 = .ok (.aload_n 0, 1) := by decide +kernel
theorem dX3_turnsLeft_14 : decode cX3_turnsLeft 14 = .ok (.getfield 15, 3) := by decide +kernel
theorem dX3_turnsLeft_17 : decode cX3_turnsLeft 17 = .ok (.iload_n 3, 1) := by decide +kernel
theorem dX3_turnsLeft_18 : decode cX3_turnsLeft 18 = .ok (.iaload, 1) := by decide +kernel
theorem dX3_turnsLeft_19 : decode cX3_turnsLeft 19 = .ok (.aload_n 0, 1) := by decide +kernel
theorem dX3_turnsLeft_20 : decode cX3_turnsLeft 20 = .ok (.getfield 15, 3) := by decide +kernel
theorem dX3_turnsLeft_23 : decode cX3_turnsLeft 23 = .ok (.iload_n 1, 1) := by decide +kernel
theorem dX3_turnsLeft_24 : decode cX3_turnsLeft 24 = .ok (.iaload, 1) := by decide +kernel
theorem dX3_turnsLeft_25 : decode cX3_turnsLeft 25 = .ok (.isub, 1) := by decide +kernel
theorem dX3_turnsLeft_26 : decode cX3_turnsLeft 26 = .ok (.imul, 1) := by decide +kernel
theorem dX3_turnsLeft_27 : decode cX3_turnsLeft 27 = .ok (.aload_n 0, 1) := by decide +kernel
theorem dX3_turnsLeft_28 : decode cX3_turnsLeft 28 = .ok (.getfield 15, 3) := by decide +kernel
theorem dX3_turnsLeft_31 : decode cX3_turnsLeft 31 = .ok (.iload_n 2, 1) := by decide +kernel
theorem dX3_turnsLeft_32 : decode cX3_turnsLeft 32 = .ok (.iaload, 1) := by decide +kernel
theorem dX3_turnsLeft_33 : decode cX3_turnsLeft 33 = .ok (.aload_n 0, 1) := by decide +kernel
theorem dX3_turnsLeft_34 : decode cX3_turnsLeft 34 = .ok (.getfield 15, 3) := by decide +kernel
theorem dX3_turnsLeft_37 : decode cX3_turnsLeft 37 = .ok (.iload_n 1, 1) := by decide +kernel
theorem dX3_turnsLeft_38 : decode cX3_turnsLeft 38 = .ok (.iaload, 1) := by decide +kernel
theorem dX3_turnsLeft_39 : decode cX3_turnsLeft 39 = .ok (.isub, 1) := by decide +kernel
theorem dX3_turnsLeft_40 : decode cX3_turnsLeft 40 = .ok (.aload_n 0, 1) := by decide +kernel
theorem dX3_turnsLeft_41 : decode cX3_turnsLeft 41 = .ok (.getfield 11, 3) := by decide +kernel
theorem dX3_turnsLeft_44 : decode cX3_turnsLeft 44 = .ok (.iload_n 3, 1) := by decide +kernel
theorem dX3_turnsLeft_45 : decode cX3_turnsLeft 45 = .ok (.iaload, 1) := by decide +kernel
theorem dX3_turnsLeft_46 : decode cX3_turnsLeft 46 = .ok (.aload_n 0, 1) := by decide +kernel
theorem dX3_turnsLeft_47 : decode cX3_turnsLeft 47 = .ok (.getfield 11, 3) := by decide +kernel
theorem dX3_turnsLeft_50 : decode cX3_turnsLeft 50 = .ok (.iload_n 1, 1) := by decide +kernel
theorem dX3_turnsLeft_51 : decode cX3_turnsLeft 51 = .ok (.iaload, 1) := by decide +kernel
theorem dX3_turnsLeft_52 : decode cX3_turnsLeft 52 = .ok (.isub, 1) := by decide +kernel
theorem dX3_turnsLeft_53 : decode cX3_turnsLeft 53 = .ok (.imul, 1) := by decide +kernel
theorem dX3_turnsLeft_54 : decode cX3_turnsLeft 54 = .ok (.if_icmp .le 7, 3) := by decide +kernel
theorem dX3_turnsLeft_57 : decode cX3_turnsLeft 57 = .ok (.iconst 1, 1) := by decide +kernel
theorem dX3_turnsLeft_58 : decode cX3_turnsLeft 58 = .ok (.goto 4, 3) := by decide +kernel
theorem dX3_turnsLeft_61 : decode cX3_turnsLeft 61 = .ok (.iconst 0, 1) := by decide +kernel
theorem dX3_turnsLeft_62 : decode cX3_turnsLeft 62 = .ok (.ireturn, 1) := by decide +kernel
theorem dX3_hasCorner_0 : decode cX3_hasCorner 0 = .ok (.iload_n 1, 1) := by decide +kernel
theorem dX3_hasCorner_1 : decode cX3_hasCorner 1 = .ok (.ifCond .lt 15, 3) := by decide +kernel
theorem dX3_hasCorner_4 : decode cX3_hasCorner 4 = .ok (.iload_n 1, 1) := by decide +kernel
theorem dX3_hasCorner_5 : decode cX3_hasCorner 5 = .ok (.aload_n 0, 1) := by decide +kernel
theorem dX3_hasCorner_6 : decode cX3_hasCorner 6 = .ok (.getfield 50, 3) := by decide +kernel
theorem dX3_hasCorner_9 : decode cX3_hasCorner 9 = .ok (.if_icmp .ge 7, 3) := by decide +kernel
theorem dX3_hasCorner_12 : decode cX3_hasCorner 12 = .ok (.iconst 1, 1) := by decide +kernel
theorem dX3_hasCorner_13 : decode cX3_hasCorner 13 = .ok (.goto 4, 3) := by decide +kernel
theorem dX3_hasCorner_16 : decode cX3_hasCorner 16 = .ok (.iconst 0, 1) := by decide +kernel
theorem dX3_hasCorner_17 : decode cX3_hasCorner 17 = .ok (.ireturn, 1) := by decide +kernel
theorem dX3_cornerX_0 : decode cX3_cornerX 0 = .ok (.aload_n 0, 1) := by decide +kernel
theorem dX3_cornerX_1 : decode cX3_cornerX 1 = .ok (.iload_n 1, 1) := by decide +kernel
theorem dX3_cornerX_2 : decode cX3_cornerX 2 = .ok (.invokevirtual 59, 3) := by decide +kernel
theorem dX3_cornerX_5 : decode cX3_cornerX 5 = .ok (.ifCond .eq 17, 3) := by decide +kernel
theorem dX3_cornerX_8 : decode cX3_cornerX 8 = .ok (.aload_n 0, 1) := by decide +kernel
theorem dX3_cornerX_9 : decode cX3_cornerX 9 = .ok (.getfield 11, 3) := by decide +kernel
theorem dX3_cornerX_12 : decode cX3_cornerX 12 = .ok (.aload_n 0, 1) := by decide +kernel
theorem dX3_cornerX_13 : decode cX3_cornerX 13 = .ok (.getfield 18, 3) := by decide +kernel
theorem dX3_cornerX_16 : decode cX3_cornerX 16 = .ok (.iload_n 1, 1) := by decide +kernel
theorem dX3_cornerX_17 : decode cX3_cornerX 17 = .ok (.iaload, 1) := by decide +kernel
theorem dX3_cornerX_18 : decode cX3_cornerX 18 = .ok (.iaload, 1) := by decide +kernel
theorem dX3_cornerX_19 : decode cX3_cornerX 19 = .ok (.goto 4, 3) := by decide +kernel
theorem dX3_cornerX_22 : decode cX3_cornerX 22 = .ok (.iconst 0, 1) := by decide +kernel
theorem dX3_cornerX_23 : decode cX3_cornerX 23 = .ok (.ireturn, 1) := by decide +kernel
theorem dX3_cornerY_0 : decode cX3_cornerY 0 = .ok (.aload_n 0, 1) := by decide +kernel
theorem dX3_cornerY_1 : decode cX3_cornerY 1 = .ok (.iload_n 1, 1) := by decide +kernel
theorem dX3_cornerY_2 : decode cX3_cornerY 2 = .ok (.invokevirtual 59, 3) := by decide +kernel
theorem dX3_cornerY_5 : decode cX3_cornerY 5 = .ok (.ifCond .eq 17, 3) := by decide +kernel
theorem dX3_cornerY_8 : decode cX3_cornerY 8 = .ok (.aload_n 0, 1) := by decide +kernel
theorem dX3_cornerY_9 : decode cX3_cornerY 9 = .ok (.getfield 15, 3) := by decide +kernel
theorem dX3_cornerY_12 : decode cX3_cornerY 12 = .ok (.aload_n 0, 1) := by decide +kernel
theorem dX3_cornerY_13 : decode cX3_cornerY 13 = .ok (.getfield 18, 3) := by decide +kernel
theorem dX3_cornerY_16 : decode cX3_cornerY 16 = .ok (.iload_n 1, 1) := by decide +kernel
theorem dX3_cornerY_17 : decode cX3_cornerY 17 = .ok (.iaload, 1) := by decide +kernel
theorem dX3_cornerY_18 : decode cX3_cornerY 18 = .ok (.iaload, 1) := by decide +kernel
theorem dX3_cornerY_19 : decode cX3_cornerY 19 = .ok (.goto 4, 3) := by decide +kernel
theorem dX3_cornerY_22 : decode cX3_cornerY 22 = .ok (.iconst 0, 1) := by decide +kernel
theorem dX3_cornerY_23 : decode cX3_cornerY 23 = .ok (.ireturn, 1) := by decide +kernel
theorem dX3_next_0 : decode cX3_next 0 = .ok (.iload_n 1, 1) := by decide +kernel
theorem dX3_next_1 : decode cX3_next 1 = .ok (.iconst 1, 1) := by decide +kernel
theorem dX3_next_2 : decode cX3_next 2 = .ok (.iadd, 1) := by decide +kernel
theorem dX3_next_3 : decode cX3_next 3 = .ok (.aload_n 0, 1) := by decide +kernel
theorem dX3_next_4 : decode cX3_next 4 = .ok (.getfield 50, 3) := by decide +kernel
theorem dX3_next_7 : decode cX3_next 7 = .ok (.if_icmp .ge 9, 3) := by decide +kernel
theorem dX3_next_10 : decode cX3_next 10 = .ok (.iload_n 1, 1) := by decide +kernel
theorem dX3_next_11 : decode cX3_next 11 = .ok (.iconst 1, 1) := by decide +kernel
theorem dX3_next_12 : decode cX3_next 12 = .ok (.iadd, 1) := by decide +kernel
theorem dX3_next_13 : decode cX3_next 13 = .ok (.goto 4, 3) := by decide +kernel
theorem dX3_next_16 : decode cX3_next 16 = .ok (.iconst 0, 1) := by decide +kernel
theorem dX3_next_17 : decode cX3_next 17 = .ok (.ireturn, 1) := by decide +kernel
theorem dX3_area_0 : decode cX3_area 0 = .ok (.iconst 0, 1) := by decide +kernel
theorem dX3_area_1 : decode cX3_area 1 = .ok (.istore_n 1, 1) := by decide +kernel
theorem dX3_area_2 : decode cX3_area 2 = .ok (.iconst 0, 1) := by decide +kernel
theorem dX3_area_3 : decode cX3_area 3 = .ok (.istore_n 2, 1) := by decide +kernel
theorem dX3_area_4 : decode cX3_area 4 = .ok (.iload_n 2, 1) := by decide +kernel
theorem dX3_area_5 : decode cX3_area 5 = .ok (.aload_n 0, 1) := by decide +kernel
theorem dX3_area_6 : decode cX3_area 6 = .ok (.getfield 50, 3) := by decide +kernel
theorem dX3_area_9 : decode cX3_area 9 = .ok (.if_icmp .ge 41, 3) := by decide +kernel
theorem dX3_area_12 : decode cX3_area 12 = .ok (.aload_n 0, 1) := by decide +kernel
theorem dX3_area_13 : decode cX3_area 13 = .ok (.iload_n 2, 1) := by decide +kernel
theorem dX3_area_14 : decode cX3_area 14 = .ok (.invokevirtual 63, 3) := by decide +kernel
theorem dX3_area_17 : decode cX3_area 17 = .ok (.istore_n 3, 1) := by decide +kernel
theorem dX3_area_18 : decode cX3_area 18 = .ok (.iload_n 1, 1) := by decide +kernel
theorem dX3_area_19 : decode cX3_area 19 = .ok (.aload_n 0, 1) := by decide +kernel
theorem dX3_area_20 : decode cX3_area 20 = .ok (.iload_n 2, 1) := by decide +kernel
theorem dX3_area_21 : decode cX3_area 21 = .ok (.invokevirtual 67, 3) := by decide +kernel
theorem dX3_area_24 : decode cX3_area 24 = .ok (.aload_n 0, 1) := by decide +kernel
theorem dX3_area_25 : decode cX3_area 25 = .ok (.iload_n 3, 1) := by decide +kernel
theorem dX3_area_26 : decode cX3_area 26 = .ok (.invokevirtual 70, 3) := by decide +kernel
theorem dX3_area_29 : decode cX3_area 29 = .ok (.imul, 1) := by decide +kernel
theorem dX3_area_30 : decode cX3_area 30 = .ok (.aload_n 0, 1) := by decide +kernel
theorem dX3_area_31 : decode cX3_area 31 = .ok (.iload_n 3, 1) := by decide +kernel
theorem dX3_area_32 : decode cX3_area 32 = .ok (.invokevirtual 67, 3) := by decide +kernel
theorem dX3_area_35 : decode cX3_area 35 = .ok (.aload_n 0, 1) := by decide +kernel
theorem dX3_area_36 : decode cX3_area 36 = .ok (.iload_n 2, 1) := by decide +kernel
theorem dX3_area_37 : decode cX3_area 37 = .ok (.invokevirtual 70, 3) := by decide +kernel
theorem dX3_area_40 : decode cX3_area 40 = .ok (.imul, 1) := by decide +kernel
theorem dX3_area_41 : decode cX3_area 41 = .ok (.isub, 1) := by decide +kernel
theorem dX3_area_42 : decode cX3_area 42 = .ok (.iadd, 1) := by decide +kernel
theorem dX3_area_43 : decode cX3_area 43 = .ok (.istore_n 1, 1) := by decide +kernel
theorem dX3_area_44 : decode cX3_area 44 = .ok (.iinc 2 1, 3) := by decide +kernel
theorem dX3_area_47 : decode cX3_area 47 = .ok (.goto (-43), 3) := by decide +kernel
theorem dX3_area_50 : decode cX3_area 50 = .ok (.iload_n 1, 1) := by decide +kernel
theorem dX3_area_51 : decode cX3_area 51 = .ok (.ireturn, 1) := by decide +kernel
theorem dX3_span_0 : decode cX3_span 0 = .ok (.aload_n 0, 1) := by decide +kernel
theorem dX3_span_1 : decode cX3_span 1 = .ok (.getfield 50, 3) := by decide +kernel
theorem dX3_span_4 : decode cX3_span 4 = .ok (.ifCond .ne 8, 3) := by decide +kernel
theorem dX3_span_7 : decode cX3_span 7 = .ok (.bipush (-6), 2) := by decide +kernel
theorem dX3_span_9 : decode cX3_span 9 = .ok (.goto 13, 3) := by decide +kernel
theorem dX3_span_12 : decode cX3_span 12 = .ok (.aload_n 0, 1) := by decide +kernel
theorem dX3_span_13 : decode cX3_span 13 = .ok (.getfield 50, 3) := by decide +kernel
theorem dX3_span_16 : decode cX3_span 16 = .ok (.iconst 3, 1) := by decide +kernel
theorem dX3_span_17 : decode cX3_span 17 = .ok (.invokestatic 73, 3) := by decide +kernel
theorem dX3_span_20 : decode cX3_span 20 = .ok (.iconst 1, 1) := by decide +kernel
theorem dX3_span_21 : decode cX3_span 21 = .ok (.isub, 1) := by decide +kernel
theorem dX3_span_22 : decode cX3_span 22 = .ok (.ireturn, 1) := by decide +kernel
theorem dX3_stepsRound_0 : decode cX3_stepsRound 0 = .ok (.iconst 0, 1) := by decide +kernel
theorem dX3_stepsRound_1 : decode cX3_stepsRound 1 = .ok (.istore_n 1, 1) := by decide +kernel
theorem dX3_stepsRound_2 : decode cX3_stepsRound 2 = .ok (.iconst 0, 1) := by decide +kernel
theorem dX3_stepsRound_3 : decode cX3_stepsRound 3 = .ok (.istore_n 2, 1) := by decide +kernel
theorem dX3_stepsRound_4 : decode cX3_stepsRound 4 = .ok (.iload_n 2, 1) := by decide +kernel
theorem dX3_stepsRound_5 : decode cX3_stepsRound 5 = .ok (.aload_n 0, 1) := by decide +kernel
theorem dX3_stepsRound_6 : decode cX3_stepsRound 6 = .ok (.getfield 50, 3) := by decide +kernel
theorem dX3_stepsRound_9 : decode cX3_stepsRound 9 = .ok (.if_icmp .ge 57, 3) := by decide +kernel
theorem dX3_stepsRound_12 : decode cX3_stepsRound 12 = .ok (.aload_n 0, 1) := by decide +kernel
theorem dX3_stepsRound_13 : decode cX3_stepsRound 13 = .ok (.aload_n 0, 1) := by decide +kernel
theorem dX3_stepsRound_14 : decode cX3_stepsRound 14 = .ok (.iload_n 2, 1) := by decide +kernel
theorem dX3_stepsRound_15 : decode cX3_stepsRound 15 = .ok (.invokevirtual 63, 3) := by decide +kernel
theorem dX3_stepsRound_18 : decode cX3_stepsRound 18 = .ok (.invokevirtual 67, 3) := by decide +kernel
theorem dX3_stepsRound_21 : decode cX3_stepsRound 21 = .ok (.aload_n 0, 1) := by decide +kernel
theorem dX3_stepsRound_22 : decode cX3_stepsRound 22 = .ok (.iload_n 2, 1) := by decide +kernel
theorem dX3_stepsRound_23 : decode cX3_stepsRound 23 = .ok (.invokevirtual 67, 3) := by decide +kernel
theorem dX3_stepsRound_26 : decode cX3_stepsRound 26 = .ok (.isub, 1) := by decide +kernel
theorem dX3_stepsRound_27 : decode cX3_stepsRound 27 = .ok (.invokestatic 79, 3) := by decide +kernel
theorem dX3_stepsRound_30 : decode cX3_stepsRound 30 = .ok (.istore_n 3, 1) := by decide +kernel
theorem dX3_stepsRound_31 : decode cX3_stepsRound 31 = .ok (.aload_n 0, 1) := by decide +kernel
theorem dX3_stepsRound_32 : decode cX3_stepsRound 32 = .ok (.aload_n 0, 1) := by decide +kernel
theorem dX3_stepsRound_33 : decode cX3_stepsRound 33 = .ok (.iload_n 2, 1) := by decide +kernel
theorem dX3_stepsRound_34 : decode cX3_stepsRound 34 = .ok (.invokevirtual 63, 3) := by decide +kernel
theorem dX3_stepsRound_37 : decode cX3_stepsRound 37 = .ok (.invokevirtual 70, 3) := by decide +kernel
theorem dX3_stepsRound_40 : decode cX3_stepsRound 40 = .ok (.aload_n 0, 1) := by decide +kernel
theorem dX3_stepsRound_41 : decode cX3_stepsRound 41 = .ok (.iload_n 2, 1) := by decide +kernel
theorem dX3_stepsRound_42 : decode cX3_stepsRound 42 = .ok (.invokevirtual 70, 3) := by decide +kernel
theorem dX3_stepsRound_45 : decode cX3_stepsRound 45 = .ok (.isub, 1) := by decide +kernel
theorem dX3_stepsRound_46 : decode cX3_stepsRound 46 = .ok (.invokestatic 79, 3) := by decide +kernel
theorem dX3_stepsRound_49 : decode cX3_stepsRound 49 = .ok (.istore 4, 2) := by decide +kernel
theorem dX3_stepsRound_51 : decode cX3_stepsRound 51 = .ok (.iload_n 1, 1) := by decide +kernel
theorem dX3_stepsRound_52 : decode cX3_stepsRound 52 = .ok (.iload_n 3, 1) := by decide +kernel
theorem dX3_stepsRound_53 : decode cX3_stepsRound 53 = .ok (.iload 4, 2) := by decide +kernel
theorem dX3_stepsRound_55 : decode cX3_stepsRound 55 = .ok (.invokestatic 82, 3) := by decide +kernel
theorem dX3_stepsRound_58 : decode cX3_stepsRound 58 = .ok (.iadd, 1) := by decide +kernel
theorem dX3_stepsRound_59 : decode cX3_stepsRound 59 = .ok (.istore_n 1, 1) := by decide +kernel
theorem dX3_stepsRound_60 : decode cX3_stepsRound 60 = .ok (.iinc 2 1, 3) := by decide +kernel
theorem dX3_stepsRound_63 : decode cX3_stepsRound 63 = .ok (.goto (-59), 3) := by decide +kernel
theorem dX3_stepsRound_66 : decode cX3_stepsRound 66 = .ok (.iload_n 1, 1) := by decide +kernel
theorem dX3_stepsRound_67 : decode cX3_stepsRound 67 = .ok (.ireturn, 1) := by decide +kernel
theorem dX3_wholePoints_0 : decode cX3_wholePoints 0 = .ok (.aload_n 0, 1) := by decide +kernel
theorem dX3_wholePoints_1 : decode cX3_wholePoints 1 = .ok (.getfield 50, 3) := by decide +kernel
theorem dX3_wholePoints_4 : decode cX3_wholePoints 4 = .ok (.ifCond .ne 7, 3) := by decide +kernel
theorem dX3_wholePoints_7 : decode cX3_wholePoints 7 = .ok (.iconst 0, 1) := by decide +kernel
theorem dX3_wholePoints_8 : decode cX3_wholePoints 8 = .ok (.goto 16, 3) := by decide +kernel
theorem dX3_wholePoints_11 : decode cX3_wholePoints 11 = .ok (.aload_n 0, 1) := by decide +kernel
theorem dX3_wholePoints_12 : decode cX3_wholePoints 12 = .ok (.invokevirtual 85, 3) := by decide +kernel
theorem dX3_wholePoints_15 : decode cX3_wholePoints 15 = .ok (.aload_n 0, 1) := by decide +kernel
theorem dX3_wholePoints_16 : decode cX3_wholePoints 16 = .ok (.invokevirtual 88, 3) := by decide +kernel
theorem dX3_wholePoints_19 : decode cX3_wholePoints 19 = .ok (.iadd, 1) := by decide +kernel
theorem dX3_wholePoints_20 : decode cX3_wholePoints 20 = .ok (.iconst 2, 1) := by decide +kernel
theorem dX3_wholePoints_21 : decode cX3_wholePoints 21 = .ok (.idiv, 1) := by decide +kernel
theorem dX3_wholePoints_22 : decode cX3_wholePoints 22 = .ok (.iconst 1, 1) := by decide +kernel
theorem dX3_wholePoints_23 : decode cX3_wholePoints 23 = .ok (.iadd, 1) := by decide +kernel
theorem dX3_wholePoints_24 : decode cX3_wholePoints 24 = .ok (.ireturn, 1) := by decide +kernel
theorem dX3_rimPoints_0 : decode cX3_rimPoints 0 = .ok (.aload_n 0, 1) := by decide +kernel
theorem dX3_rimPoints_1 : decode cX3_rimPoints 1 = .ok (.getfield 50, 3) := by decide +kernel
theorem dX3_rimPoints_4 : decode cX3_rimPoints 4 = .ok (.iconst 3, 1) := by decide +kernel
theorem dX3_rimPoints_5 : decode cX3_rimPoints 5 = .ok (.if_icmp .ge 10, 3) := by decide +kernel
theorem dX3_rimPoints_8 : decode cX3_rimPoints 8 = .ok (.aload_n 0, 1) := by decide +kernel
theorem dX3_rimPoints_9 : decode cX3_rimPoints 9 = .ok (.invokevirtual 91, 3) := by decide +kernel
theorem dX3_rimPoints_12 : decode cX3_rimPoints 12 = .ok (.goto 7, 3) := by decide +kernel
theorem dX3_rimPoints_15 : decode cX3_rimPoints 15 = .ok (.aload_n 0, 1) := by decide +kernel
theorem dX3_rimPoints_16 : decode cX3_rimPoints 16 = .ok (.invokevirtual 88, 3) := by decide +kernel
theorem dX3_rimPoints_19 : decode cX3_rimPoints 19 = .ok (.ireturn, 1) := by decide +kernel
theorem dX4_init_0 : decode cX4_init 0 = .ok (.aload_n 0, 1) := by decide +kernel
theorem dX4_init_1 : decode cX4_init 1 = .ok (.invokespecial 3, 3) := by decide +kernel
theorem dX4_init_4 : decode cX4_init 4 = .ok (.aload_n 0, 1) := by decide +kernel
theorem dX4_init_5 : decode cX4_init 5 = .ok (.iconst 4, 1) := by decide +kernel
theorem dX4_init_6 : decode cX4_init 6 = .ok (.anewarray 9, 3) := by decide +kernel
theorem dX4_init_9 : decode cX4_init 9 = .ok (.putfield 11, 3) := by decide +kernel
theorem dX4_init_12 : decode cX4_init 12 = .ok (.aload_n 0, 1) := by decide +kernel
theorem dX4_init_13 : decode cX4_init 13 = .ok (.bipush 8, 2) := by decide +kernel
theorem dX4_init_15 : decode cX4_init 15 = .ok (.anewarray 9, 3) := by decide +kernel
theorem dX4_init_18 : decode cX4_init 18 = .ok (.putfield 15, 3) := by decide +kernel
theorem dX4_init_21 : decode cX4_init 21 = .ok (.aload_n 0, 1) := by decide +kernel
theorem dX4_init_22 : decode cX4_init 22 = .ok (.new 18, 3) := by decide +kernel
theorem dX4_init_25 : decode cX4_init 25 = .ok (.dup, 1) := by decide +kernel
theorem dX4_init_26 : decode cX4_init 26 = .ok (.invokespecial 20, 3) := by decide +kernel
theorem dX4_init_29 : decode cX4_init 29 = .ok (.putfield 21, 3) := by decide +kernel
theorem dX4_init_32 : decode cX4_init 32 = .ok (.aload_n 0, 1) := by decide +kernel
theorem dX4_init_33 : decode cX4_init 33 = .ok (.new 25, 3) := by decide +kernel
theorem dX4_init_36 : decode cX4_init 36 = .ok (.dup, 1) := by decide +kernel
theorem dX4_init_37 : decode cX4_init 37 = .ok (.invokespecial 27, 3) := by decide +kernel
theorem dX4_init_40 : decode cX4_init 40 = .ok (.putfield 28, 3) := by decide +kernel
theorem dX4_init_43 : decode cX4_init 43 = .ok (.aload_n 0, 1) := by decide +kernel
theorem dX4_init_44 : decode cX4_init 44 = .ok (.bipush 13, 2) := by decide +kernel
theorem dX4_init_46 : decode cX4_init 46 = .ok (.bipush 13, 2) := by decide +kernel
theorem dX4_init_48 : decode cX4_init 48 = .ok (.multianewarray 32 2, 4) := by decide +kernel
theorem dX4_init_52 : decode cX4_init 52 = .ok (.putfield 34, 3) := by decide +kernel
theorem dX4_init_55 : decode cX4_init 55 = .ok (.iconst 0, 1) := by decide +kernel
theorem dX4_init_56 : decode cX4_init 56 = .ok (.istore_n 1, 1) := by decide +kernel
theorem dX4_init_57 : decode cX4_init 57 = .ok (.iload_n 1, 1) := by decide +kernel
theorem dX4_init_58 : decode cX4_init 58 = .ok (.aload_n 0, 1) := by decide +kernel
theorem dX4_init_59 : decode cX4_init 59 = .ok (.getfield 11, 3) := by decide +kernel
theorem dX4_init_62 : decode cX4_init 62 = .ok (.arraylength, 1) := by decide +kernel
theorem dX4_init_63 : decode cX4_init 63 = .ok (.if_icmp .ge 22, 3) := by decide +kernel
theorem dX4_init_66 : decode cX4_init 66 = .ok (.aload_n 0, 1) := by decide +kernel
theorem dX4_init_67 : decode cX4_init 67 = .ok (.getfield 11, 3) := by decide +kernel
theorem dX4_init_70 : decode cX4_init 70 = .ok (.iload_n 1, 1) := by decide +kernel
theorem dX4_init_71 : decode cX4_init 71 = .ok (.new 9, 3) := by decide +kernel
theorem dX4_init_74 : decode cX4_init 74 = .ok (.dup, 1) := by decide +kernel
theorem dX4_init_75 : decode cX4_init 75 = .ok (.invokespecial 37, 3) := by decide +kernel
theorem dX4_init_78 : decode cX4_init 78 = .ok (.aastore, 1) := by decide +kernel
theorem dX4_init_79 : decode cX4_init 79 = .ok (.iinc 1 1, 3) := by decide +kernel
theorem dX4_init_82 : decode cX4_init 82 = .ok (.goto (-25), 3) := by decide +kernel
theorem dX4_init_85 : decode cX4_init 85 = .ok (.iconst 0, 1) := by decide +kernel
theorem dX4_init_86 : decode cX4_init 86 = .ok (.istore_n 1, 1) := by decide +kernel
theorem dX4_init_87 : decode cX4_init 87 = .ok (.iload_n 1, 1) := by decide +kernel
theorem dX4_init_88 : decode cX4_init 88 = .ok (.aload_n 0, 1) := by decide +kernel
theorem dX4_init_89 : decode cX4_init 89 = .ok (.getfield 15, 3) := by decide +kernel
theorem dX4_init_92 : decode cX4_init 92 = .ok (.arraylength, 1) := by decide +kernel
theorem dX4_init_93 : decode cX4_init 93 = .ok (.if_icmp .ge 22, 3) := by decide +kernel
theorem dX4_init_96 : decode cX4_init 96 = .ok (.aload_n 0, 1) := by decide +kernel
theorem dX4_init_97 : decode cX4_init 97 = .ok (.getfield 15, 3) := by decide +kernel
theorem dX4_init_100 : decode cX4_init 100 = .ok (.iload_n 1, 1) := by decide +kernel
theorem dX4_init_101 : decode cX4_init 101 = .ok (.new 9, 3) := by decide +kernel
theorem dX4_init_104 : decode cX4_init 104 = .ok (.dup, 1) := by decide +kernel
theorem dX4_init_105 : decode cX4_init 105 = .ok (.invokespecial 37, 3) := by decide +kernel
theorem dX4_init_108 : decode cX4_init 108 = .ok (.aastore, 1) := by decide +kernel
theorem dX4_init_109 : decode cX4_init 109 = .ok (.iinc 1 1, 3) := by decide +kernel
theorem dX4_init_112 : decode cX4_init 112 = .ok (.goto (-25), 3) := by decide +kernel
theorem dX4_init_115 : decode cX4_init 115 = .ok (.return_, 1) := by decide +kernel
theorem dX4_put_0 : decode cX4_put 0 = .ok (.aload_n 0, 1) := by decide +kernel
theorem dX4_put_1 : decode cX4_put 1 = .ok (.iload_n 1, 1) := by decide +kernel
theorem dX4_put_2 : decode cX4_put 2 = .ok (.invokevirtual 38, 3) := by decide +kernel
theorem dX4_put_5 : decode cX4_put 5 = .ok (.astore 5, 2) := by decide +kernel
theorem dX4_put_7 : decode cX4_put 7 = .ok (.aload 5, 2) := by decide +kernel
theorem dX4_put_9 : decode cX4_put 9 = .ok (.ifnonnull 5, 3) := by decide +kernel
theorem dX4_put_12 : decode cX4_put 12 = .ok (.iconst (-1), 1) := by decide +kernel
theorem dX4_put_13 : decode cX4_put 13 = .ok (.ireturn, 1) := by decide +kernel
theorem dX4_put_14 : decode cX4_put 14 = .ok (.iload_n 2, 1) := by decide +kernel
theorem dX4_put_15 : decode cX4_put 15 = .ok (.iconst 0, 1) := by decide +kernel
theorem dX4_put_16 : decode cX4_put 16 = .ok (.bipush 12, 2) := by decide +kernel
theorem dX4_put_18 : decode cX4_put 18 = .ok (.invokestatic 42, 3) := by decide +kernel
theorem dX4_put_21 : decode cX4_put 21 = .ok (.ifCond .eq 24, 3) := by decide +kernel
theorem dX4_put_24 : decode cX4_put 24 = .ok (.iload_n 3, 1) := by decide +kernel
theorem dX4_put_25 : decode cX4_put 25 = .ok (.iconst 0, 1) := by decide +kernel
theorem dX4_put_26 : decode cX4_put 26 = .ok (.bipush 12, 2) := by decide +kernel
theorem dX4_put_28 : decode cX4_put 28 = .ok (.invokestatic 42, 3) := by decide +kernel
theorem dX4_put_31 : decode cX4_put 31 = .ok (.ifCond .eq 14, 3) := by decide +kernel
theorem dX4_put_34 : decode cX4_put 34 = .ok (.iload 4, 2) := by decide +kernel
theorem dX4_put_36 : decode cX4_put 36 = .ok (.iconst 0, 1) := by decide +kernel
theorem dX4_put_37 : decode cX4_put 37 = .ok (.bipush 50, 2) := by decide +kernel
theorem dX4_put_39 : decode cX4_put 39 = .ok (.invokestatic 42, 3) := by decide +kernel
theorem dX4_put_42 : decode cX4_put 42 = .ok (.ifCond .ne 6, 3) := by decide +kernel
theorem dX4_put_45 : decode cX4_put 45 = .ok (.bipush (-2), 2) := by decide +kernel
theorem dX4_put_47 : decode cX4_put 47 = .ok (.ireturn, 1) := by decide +kernel
theorem dX4_put_48 : decode cX4_put 48 = .ok (.aload 5, 2) := by decide +kernel
theorem dX4_put_50 : decode cX4_put 50 = .ok (.iload_n 2, 1) := by decide +kernel
theorem dX4_put_51 : decode cX4_put 51 = .ok (.iload_n 3, 1) := by decide +kernel
theorem dX4_put_52 : decode cX4_put 52 = .ok (.invokevirtual 46, 3) := by decide +kernel
theorem dX4_put_55 : decode cX4_put 55 = .ok (.istore 6, 2) := by decide +kernel
theorem dX4_put_57 : decode cX4_put 57 = .ok (.iload 6, 2) := by decide +kernel
theorem dX4_put_59 : decode cX4_put 59 = .ok (.ifCond .ge 28, 3) := by decide +kernel
theorem dX4_put_62 : decode cX4_put 62 = .ok (.aload 5, 2) := by decide +kernel
theorem dX4_put_64 : decode cX4_put 64 = .ok (.getfield 50, 3) := by decide +kernel
theorem dX4_put_67 : decode cX4_put 67 = .ok (.bipush 7, 2) := by decide +kernel
theorem dX4_put_69 : decode cX4_put 69 = .ok (.if_icmp .ge 15, 3) := by decide +kernel
theorem dX4_put_72 : decode cX4_put 72 = .ok (.aload 5, 2) := by decide +kernel
theorem dX4_put_74 : decode cX4_put 74 = .ok (.iload_n 2, 1) := by decide +kernel
theorem dX4_put_75 : decode cX4_put 75 = .ok (.iload_n 3, 1) := by decide +kernel
theorem dX4_put_76 : decode cX4_put 76 = .ok (.iload 4, 2) := by decide +kernel
theorem dX4_put_78 : decode cX4_put 78 = .ok (.invokevirtual 54, 3) := by decide +kernel
theorem dX4_put_81 : decode cX4_put 81 = .ok (.goto 5, 3) := by decide +kernel
theorem dX4_put_84 : decode cX4_put 84 = .ok (.bipush (-4), 2) := by decide +kernel
theorem dX4_put_86 : decode cX4_put 86 = .ok (.ireturn, 1) := by decide +kernel
theorem dX4_put_87 : decode cX4_put 87 = .ok (.aload 5, 2) := by decide +kernel
theorem dX4_put_89 : decode cX4_put 89 = .ok (.getfield 58, 3) := by decide +kernel
theorem dX4_put_92 : decode cX4_put 92 = .ok (.iload 6, 2) := by decide +kernel
theorem dX4_put_94 : decode cX4_put 94 = .ok (.iload 4, 2) := by decide +kernel
theorem dX4_put_96 : decode cX4_put 96 = .ok (.iastore, 1) := by decide +kernel
theorem dX4_put_97 : decode cX4_put 97 = .ok (.iload 6, 2) := by decide +kernel
theorem dX4_put_99 : decode cX4_put 99 = .ok (.ireturn, 1) := by decide +kernel
theorem dX4_take_0 : decode cX4_take 0 = .ok (.aload_n 0, 1) := by decide +kernel
theorem dX4_take_1 : decode cX4_take 1 = .ok (.iload_n 1, 1) := by decide +kernel
theorem dX4_take_2 : decode cX4_take 2 = .ok (.invokevirtual 38, 3) := by decide +kernel
theorem dX4_take_5 : decode cX4_take 5 = .ok (.astore_n 3, 1) := by decide +kernel
theorem dX4_take_6 : decode cX4_take 6 = .ok (.aload_n 3, 1) := by decide +kernel
theorem dX4_take_7 : decode cX4_take 7 = .ok (.ifnonnull 5, 3) := by decide +kernel
theorem dX4_take_10 : decode cX4_take 10 = .ok (.iconst (-1), 1) := by decide +kernel
theorem dX4_take_11 : decode cX4_take 11 = .ok (.ireturn, 1) := by decide +kernel
theorem dX4_take_12 : decode cX4_take 12 = .ok (.aload_n 3, 1) := by decide +kernel
theorem dX4_take_13 : decode cX4_take 13 = .ok (.iload_n 2, 1) := by decide +kernel
theorem dX4_take_14 : decode cX4_take 14 = .ok (.invokevirtual 62, 3) := by decide +kernel
theorem dX4_take_17 : decode cX4_take 17 = .ok (.ifCond .ne 6, 3) := by decide +kernel
theorem dX4_take_20 : decode cX4_take 20 = .ok (.bipush (-2), 2) := by decide +kernel
theorem dX4_take_22 : decode cX4_take 22 = .ok (.ireturn, 1) := by decide +kernel
theorem dX4_take_23 : decode cX4_take 23 = .ok (.aload_n 3, 1) := by decide +kernel
theorem dX4_take_24 : decode cX4_take 24 = .ok (.iload_n 2, 1) := by decide +kernel
theorem dX4_take_25 : decode cX4_take 25 = .ok (.invokevirtual 66, 3) := by decide +kernel
theorem dX4_take_28 : decode cX4_take 28 = .ok (.aload_n 3, 1) := by decide +kernel
theorem dX4_take_29 : decode cX4_take 29 = .ok (.getfield 50, 3) := by decide +kernel
theorem dX4_take_32 : decode cX4_take 32 = .ok (.ireturn, 1) := by decide +kernel
theorem dX4_clear_0 : decode cX4_clear 0 = .ok (.aload_n 0, 1) := by decide +kernel
theorem dX4_clear_1 : decode cX4_clear 1 = .ok (.iload_n 1, 1) := by decide +kernel
theorem dX4_clear_2 : decode cX4_clear 2 = .ok (.invokevirtual 38, 3) := by decide +kernel
theorem dX4_clear_5 : decode cX4_clear 5 = .ok (.astore_n 2, 1) := by decide +kernel
theorem dX4_clear_6 : decode cX4_clear 6 = .ok (.aload_n 2, 1) := by decide +kernel
theorem dX4_clear_7 : decode cX4_clear 7 = .ok (.ifnonnull 5, 3) := by decide +kernel
theorem dX4_clear_10 : decode cX4_clear 10 = .ok (.iconst (-1), 1) := by decide +kernel
theorem dX4_clear_11 : decode cX4_clear 11 = .ok (.ireturn, 1) := by decide +kernel
theorem dX4_clear_12 : decode cX4_clear 12 = .ok (.aload_n 2, 1) := by decide +kernel
theorem dX4_clear_13 : decode cX4_clear 13 = .ok (.getfield 50, 3) := by decide +kernel
theorem dX4_clear_16 : decode cX4_clear 16 = .ok (.istore_n 3, 1) := by decide +kernel
theorem dX4_clear_17 : decode cX4_clear 17 = .ok (.aload_n 2, 1) := by decide +kernel
theorem dX4_clear_18 : decode cX4_clear 18 = .ok (.iconst 0, 1) := by decide +kernel
theorem dX4_clear_19 : decode cX4_clear 19 = .ok (.putfield 50, 3) := by decide +kernel
theorem dX4_clear_22 : decode cX4_clear 22 = .ok (.iload_n 3, 1) := by decide +kernel
theorem dX4_clear_23 : decode cX4_clear 23 = .ok (.ireturn, 1) := by decide +kernel
theorem dX4_point_0 : decode cX4_point 0 = .ok (.aload_n 0, 1) := by decide +kernel
theorem dX4_point_1 : decode cX4_point 1 = .ok (.iload_n 1, 1) := by decide +kernel
theorem dX4_point_2 : decode cX4_point 2 = .ok (.invokevirtual 38, 3) := by decide +kernel
theorem dX4_point_5 : decode cX4_point 5 = .ok (.astore 4, 2) := by decide +kernel
theorem dX4_point_7 : decode cX4_point 7 = .ok (.aload 4, 2) := by decide +kernel
theorem dX4_point_9 : decode cX4_point 9 = .ok (.ifnonnull 5, 3) := by decide +kernel
theorem dX4_point_12 : decode cX4_point 12 = .ok (.iconst (-1), 1) := by decide +kernel
theorem dX4_point_13 : decode cX4_point 13 = .ok (.ireturn, 1) := by decide +kernel
theorem dX4_point_14 : decode cX4_point 14 = .ok (.iload_n 3, 1) := by decide +kernel
theorem dX4_point_15 : decode cX4_point 15 = .ok (.iconst 0, 1) := by decide +kernel
theorem dX4_point_16 : decode cX4_point 16 = .ok (.iconst 2, 1) := by decide +kernel
theorem dX4_point_17 : decode cX4_point 17 = .ok (.invokestatic 42, 3) := by decide +kernel
theorem dX4_point_20 : decode cX4_point 20 = .ok (.ifCond .ne 6, 3) := by decide +kernel
theorem dX4_point_23 : decode cX4_point 23 = .ok (.bipush (-2), 2) := by decide +kernel
theorem dX4_point_25 : decode cX4_point 25 = .ok (.ireturn, 1) := by decide +kernel
theorem dX4_point_26 : decode cX4_point 26 = .ok (.aload 4, 2) := by decide +kernel
theorem dX4_point_28 : decode cX4_point 28 = .ok (.iload_n 2, 1) := by decide +kernel
theorem dX4_point_29 : decode cX4_point 29 = .ok (.invokevirtual 62, 3) := by decide +kernel
theorem dX4_point_32 : decode cX4_point 32 = .ok (.ifCond .ne 6, 3) := by decide +kernel
theorem dX4_point_35 : decode cX4_point 35 = .ok (.bipush (-6), 2) := by decide +kernel
theorem dX4_point_37 : decode cX4_point 37 = .ok (.ireturn, 1) := by decide +kernel
theorem dX4_point_38 : decode cX4_point 38 = .ok (.iload_n 3, 1) := by decide +kernel
theorem dX4_point_39 : decode cX4_point 39 = .ok (.lookupswitch 41 #[(0, 25), (1, 33)], 25) := by decide +kernel
theorem dX4_point_64 : decode cX4_point 64 = .ok (.aload 4, 2) := by decide +kernel
theorem dX4_point_66 : decode cX4_point 66 = .ok (.getfield 70, 3) := by decide +kernel
theorem dX4_point_69 : decode cX4_point 69 = .ok (.iload_n 2, 1) := by decide +kernel
theorem dX4_point_70 : decode cX4_point 70 = .ok (.iaload, 1) := by decide +kernel
theorem dX4_point_71 : decode cX4_point 71 = .ok (.ireturn, 1) := by decide +kernel
theorem dX4_point_72 : decode cX4_point 72 = .ok (.aload 4, 2) := by decide +kernel
theorem dX4_point_74 : decode cX4_point 74 = .ok (.getfield 73, 3) := by decide +kernel
theorem dX4_point_77 : decode cX4_point 77 = .ok (.iload_n 2, 1) := by decide +kernel
theorem dX4_point_78 : decode cX4_point 78 = .ok (.iaload, 1) := by decide +kernel
theorem dX4_point_79 : decode cX4_point 79 = .ok (.ireturn, 1) := by decide +kernel
theorem dX4_point_80 : decode cX4_point 80 = .ok (.aload 4, 2) := by decide +kernel
theorem dX4_point_82 : decode cX4_point 82 = .ok (.getfield 58, 3) := by decide +kernel
theorem dX4_point_85 : decode cX4_point 85 = .ok (.iload_n 2, 1) := by decide +kernel
theorem dX4_point_86 : decode cX4_point 86 = .ok (.iaload, 1) := by decide +kernel
theorem dX4_point_87 : decode cX4_point 87 = .ok (.ireturn, 1) := by decide +kernel
theorem dX4_hull_0 : decode cX4_hull 0 = .ok (.aload_n 0, 1) := by decide +kernel
theorem dX4_hull_1 : decode cX4_hull 1 = .ok (.iload_n 1, 1) := by decide +kernel
theorem dX4_hull_2 : decode cX4_hull 2 = .ok (.invokevirtual 38, 3) := by decide +kernel
theorem dX4_hull_5 : decode cX4_hull 5 = .ok (.astore_n 3, 1) := by decide +kernel
theorem dX4_hull_6 : decode cX4_hull 6 = .ok (.aload_n 3, 1) := by decide +kernel
theorem dX4_hull_7 : decode cX4_hull 7 = .ok (.ifnonnull 5, 3) := by decide +kernel
theorem dX4_hull_10 : decode cX4_hull 10 = .ok (.iconst (-1), 1) := by decide +kernel
theorem dX4_hull_11 : decode cX4_hull 11 = .ok (.ireturn, 1) := by decide +kernel
theorem dX4_hull_12 : decode cX4_hull 12 = .ok (.iload_n 2, 1) := by decide +kernel
theorem dX4_hull_13 : decode cX4_hull 13 = .ok (.iconst 0, 1) := by decide +kernel
theorem dX4_hull_14 : decode cX4_hull 14 = .ok (.iconst 4, 1) := by decide +kernel
theorem dX4_hull_15 : decode cX4_hull 15 = .ok (.invokestatic 42, 3) := by decide +kernel
theorem dX4_hull_18 : decode cX4_hull 18 = .ok (.ifCond .ne 6, 3) := by decide +kernel
theorem dX4_hull_21 : decode cX4_hull 21 = .ok (.bipush (-2), 2) := by decide +kernel
theorem dX4_hull_23 : decode cX4_hull 23 = .ok (.ireturn, 1) := by decide +kernel
theorem dX4_hull_24 : decode cX4_hull 24 = .ok (.aload_n 0, 1) := by decide +kernel
theorem dX4_hull_25 : decode cX4_hull 25 = .ok (.getfield 21, 3) := by decide +kernel
theorem dX4_hull_28 : decode cX4_hull 28 = .ok (.aload_n 3, 1) := by decide +kernel
theorem dX4_hull_29 : decode cX4_hull 29 = .ok (.aload_n 3, 1) := by decide +kernel
theorem dX4_hull_30 : decode cX4_hull 30 = .ok (.invokevirtual 76, 3) := by decide +kernel
theorem dX4_hull_33 : decode cX4_hull 33 = .ok (.invokevirtual 80, 3) := by decide +kernel
theorem dX4_hull_36 : decode cX4_hull 36 = .ok (.pop, 1) := by decide +kernel
theorem dX4_hull_37 : decode cX4_hull 37 = .ok (.iload_n 2, 1) := by decide +kernel
theorem dX4_hull_38 : decode cX4_hull 38 = .ok (.tableswitch 62 0 3 #[30, 38, 46, 54], 30) := by decide +kernel
theorem dX4_hull_68 : decode cX4_hull 68 = .ok (.aload_n 0, 1) := by decide +kernel
theorem dX4_hull_69 : decode cX4_hull 69 = .ok (.getfield 21, 3) := by decide +kernel
theorem dX4_hull_72 : decode cX4_hull 72 = .ok (.invokevirtual 84, 3) := by decide +kernel
theorem dX4_hull_75 : decode cX4_hull 75 = .ok (.ireturn, 1) := by decide +kernel
theorem dX4_hull_76 : decode cX4_hull 76 = .ok (.aload_n 0, 1) := by decide +kernel
theorem dX4_hull_77 : decode cX4_hull 77 = .ok (.getfield 21, 3) := by decide +kernel
theorem dX4_hull_80 : decode cX4_hull 80 = .ok (.getfield 87, 3) := by decide +kernel
theorem dX4_hull_83 : decode cX4_hull 83 = .ok (.ireturn, 1) := by decide +kernel
theorem dX4_hull_84 : decode cX4_hull 84 = .ok (.aload_n 0, 1) := by decide +kernel
theorem dX4_hull_85 : decode cX4_hull 85 = .ok (.getfield 21, 3) := by decide +kernel
theorem dX4_hull_88 : decode cX4_hull 88 = .ok (.invokevirtual 90, 3) := by decide +kernel
theorem dX4_hull_91 : decode cX4_hull 91 = .ok (.ireturn, 1) := by decide +kernel
theorem dX4_hull_92 : decode cX4_hull 92 = .ok (.aload_n 0, 1) := by decide +kernel
theorem dX4_hull_93 : decode cX4_hull 93 = .ok (.getfield 21, 3) := by decide +kernel
theorem dX4_hull_96 : decode cX4_hull 96 = .ok (.invokevirtual 93, 3) := by decide +kernel
theorem dX4_hull_99 : decode cX4_hull 99 = .ok (.ireturn, 1) := by decide +kernel
theorem dX4_hull_100 : decode cX4_hull 100 = .ok (.aload_n 0, 1) := by decide +kernel
theorem dX4_hull_101 : decode cX4_hull 101 = .ok (.getfield 21, 3) := by decide +kernel
theorem dX4_hull_104 : decode cX4_hull 104 = .ok (.invokevirtual 96, 3) := by decide +kernel
theorem dX4_hull_107 : decode cX4_hull 107 = .ok (.ireturn, 1) := by decide +kernel
theorem dX4_corner_0 : decode cX4_corner 0 = .ok (.aload_n 0, 1) := by decide +kernel
theorem dX4_corner_1 : decode cX4_corner 1 = .ok (.iload_n 1, 1) := by decide +kernel
theorem dX4_corner_2 : decode cX4_corner 2 = .ok (.invokevirtual 38, 3) := by decide +kernel
theorem dX4_corner_5 : decode cX4_corner 5 = .ok (.astore_n 3, 1) := by decide +kernel
theorem dX4_corner_6 : decode cX4_corner 6 = .ok (.aload_n 3, 1) := by decide +kernel
theorem dX4_corner_7 : decode cX4_corner 7 = .ok (.ifnonnull 5, 3) := by decide +kernel
theorem dX4_corner_10 : decode cX4_corner 10 = .ok (.iconst (-1), 1) := by decide +kernel
theorem dX4_corner_11 : decode cX4_corner 11 = .ok (.ireturn, 1) := by decide +kernel
theorem dX4_corner_12 : decode cX4_corner 12 = .ok (.aload_n 0, 1) := by decide +kernel
theorem dX4_corner_13 : decode cX4_corner 13 = .ok (.getfield 21, 3) := by decide +kernel
theorem dX4_corner_16 : decode cX4_corner 16 = .ok (.aload_n 3, 1) := by decide +kernel
theorem dX4_corner_17 : decode cX4_corner 17 = .ok (.aload_n 3, 1) := by decide +kernel
theorem dX4_corner_18 : decode cX4_corner 18 = .ok (.invokevirtual 76, 3) := by decide +kernel
theorem dX4_corner_21 : decode cX4_corner 21 = .ok (.invokevirtual 80, 3) := by decide +kernel
theorem dX4_corner_24 : decode cX4_corner 24 = .ok (.pop, 1) := by decide +kernel
theorem dX4_corner_25 : decode cX4_corner 25 = .ok (.aload_n 0, 1) := by decide +kernel
theorem dX4_corner_26 : decode cX4_corner 26 = .ok (.getfield 21, 3) := by decide +kernel
theorem dX4_corner_29 : decode cX4_corner 29 = .ok (.iload_n 2, 1) := by decide +kernel
theorem dX4_corner_30 : decode cX4_corner 30 = .ok (.invokevirtual 99, 3) := by decide +kernel
theorem dX4_corner_33 : decode cX4_corner 33 = .ok (.ifCond .ne 6, 3) := by decide +kernel
theorem dX4_corner_36 : decode cX4_corner 36 = .ok (.bipush (-6), 2) := by decide +kernel
theorem dX4_corner_38 : decode cX4_corner 38 = .ok (.ireturn, 1) := by decide +kernel
theorem dX4_corner_39 : decode cX4_corner 39 = .ok (.aload_n 3, 1) := by decide +kernel
theorem dX4_corner_40 : decode cX4_corner 40 = .ok (.aload_n 0, 1) := by decide +kernel
theorem dX4_corner_41 : decode cX4_corner 41 = .ok (.getfield 21, 3) := by decide +kernel
theorem dX4_corner_44 : decode cX4_corner 44 = .ok (.iload_n 2, 1) := by decide +kernel
theorem dX4_corner_45 : decode cX4_corner 45 = .ok (.invokevirtual 102, 3) := by decide +kernel
theorem dX4_corner_48 : decode cX4_corner 48 = .ok (.aload_n 0, 1) := by decide +kernel
theorem dX4_corner_49 : decode cX4_corner 49 = .ok (.getfield 21, 3) := by decide +kernel
theorem dX4_corner_52 : decode cX4_corner 52 = .ok (.iload_n 2, 1) := by decide +kernel
theorem dX4_corner_53 : decode cX4_corner 53 = .ok (.invokevirtual 106, 3) := by decide +kernel
theorem dX4_corner_56 : decode cX4_corner 56 = .ok (.invokevirtual 46, 3) := by decide +kernel
theorem dX4_corner_59 : decode cX4_corner 59 = .ok (.ireturn, 1) := by decide +kernel
theorem dX4_sum_0 : decode cX4_sum 0 = .ok (.aload_n 0, 1) := by decide +kernel
theorem dX4_sum_1 : decode cX4_sum 1 = .ok (.iload_n 1, 1) := by decide +kernel
theorem dX4_sum_2 : decode cX4_sum 2 = .ok (.invokevirtual 38, 3) := by decide +kernel
theorem dX4_sum_5 : decode cX4_sum 5 = .ok (.astore 4, 2) := by decide +kernel
theorem dX4_sum_7 : decode cX4_sum 7 = .ok (.aload_n 0, 1) := by decide +kernel
theorem dX4_sum_8 : decode cX4_sum 8 = .ok (.iload_n 2, 1) := by decide +kernel
theorem dX4_sum_9 : decode cX4_sum 9 = .ok (.invokevirtual 38, 3) := by decide +kernel
theorem dX4_sum_12 : decode cX4_sum 12 = .ok (.astore 5, 2) := by decide +kernel
theorem dX4_sum_14 : decode cX4_sum 14 = .ok (.aload 4, 2) := by decide +kernel
theorem dX4_sum_16 : decode cX4_sum 16 = .ok (.ifnull 8, 3) := by decide +kernel
theorem dX4_sum_19 : decode cX4_sum 19 = .ok (.aload 5, 2) := by decide +kernel
theorem dX4_sum_21 : decode cX4_sum 21 = .ok (.ifnonnull 5, 3) := by decide +kernel
theorem dX4_sum_24 : decode cX4_sum 24 = .ok (.iconst (-1), 1) := by decide +kernel
theorem dX4_sum_25 : decode cX4_sum 25 = .ok (.ireturn, 1) := by decide +kernel
theorem dX4_sum_26 : decode cX4_sum 26 = .ok (.iload_n 3, 1) := by decide +kernel
theorem dX4_sum_27 : decode cX4_sum 27 = .ok (.iconst 0, 1) := by decide +kernel
theorem dX4_sum_28 : decode cX4_sum 28 = .ok (.iconst 3, 1) := by decide +kernel
theorem dX4_sum_29 : decode cX4_sum 29 = .ok (.invokestatic 42, 3) := by decide +kernel
theorem dX4_sum_32 : decode cX4_sum 32 = .ok (.ifCond .ne 6, 3) := by decide +kernel
theorem dX4_sum_35 : decode cX4_sum 35 = .ok (.bipush (-2), 2) := by decide +kernel
theorem dX4_sum_37 : decode cX4_sum 37 = .ok (.ireturn, 1) := by decide +kernel
theorem dX4_sum_38 : decode cX4_sum 38 = .ok (.iload_n 3, 1) := by decide +kernel
theorem dX4_sum_39 : decode cX4_sum 39 = .ok (.iconst 3, 1) := by decide +kernel
theorem dX4_sum_40 : decode cX4_sum 40 = .ok (.if_icmp .ne 22, 3) := by decide +kernel
theorem dX4_sum_43 : decode cX4_sum 43 = .ok (.aload_n 0, 1) := by decide +kernel
theorem dX4_sum_44 : decode cX4_sum 44 = .ok (.aload 4, 2) := by decide +kernel
theorem dX4_sum_46 : decode cX4_sum 46 = .ok (.aload 4, 2) := by decide +kernel
theorem dX4_sum_48 : decode cX4_sum 48 = .ok (.invokevirtual 76, 3) := by decide +kernel
theorem dX4_sum_51 : decode cX4_sum 51 = .ok (.aload 5, 2) := by decide +kernel
theorem dX4_sum_53 : decode cX4_sum 53 = .ok (.aload 5, 2) := by decide +kernel
theorem dX4_sum_55 : decode cX4_sum 55 = .ok (.invokevirtual 76, 3) := by decide +kernel
theorem dX4_sum_58 : decode cX4_sum 58 = .ok (.invokevirtual 109, 3) := by decide +kernel
theorem dX4_sum_61 : decode cX4_sum 61 = .ok (.ireturn, 1) := by decide +kernel
theorem dX4_sum_62 : decode cX4_sum 62 = .ok (.aload_n 0, 1) := by decide +kernel
theorem dX4_sum_63 : decode cX4_sum 63 = .ok (.getfield 21, 3) := by decide +kernel
theorem dX4_sum_66 : decode cX4_sum 66 = .ok (.aload 4, 2) := by decide +kernel
theorem dX4_sum_68 : decode cX4_sum 68 = .ok (.aload 4, 2) := by decide +kernel
theorem dX4_sum_70 : decode cX4_sum 70 = .ok (.invokevirtual 76, 3) := by decide +kernel
theorem dX4_sum_73 : decode cX4_sum 73 = .ok (.aload 5, 2) := by decide +kernel
theorem dX4_sum_75 : decode cX4_sum 75 = .ok (.aload 5, 2) := by decide +kernel
theorem dX4_sum_77 : decode cX4_sum 77 = .ok (.invokevirtual 76, 3) := by decide +kernel
theorem dX4_sum_80 : decode cX4_sum 80 = .ok (.invokevirtual 113, 3) := by decide +kernel
theorem dX4_sum_83 : decode cX4_sum 83 = .ok (.pop, 1) := by decide +kernel
theorem dX4_sum_84 : decode cX4_sum 84 = .ok (.iload_n 3, 1) := by decide +kernel
theorem dX4_sum_85 : decode cX4_sum 85 = .ok (.lookupswitch 43 #[(0, 27), (1, 35)], 27) := by decide +kernel
theorem dX4_sum_112 : decode cX4_sum 112 = .ok (.aload_n 0, 1) := by decide +kernel
theorem dX4_sum_113 : decode cX4_sum 113 = .ok (.getfield 21, 3) := by decide +kernel
theorem dX4_sum_116 : decode cX4_sum 116 = .ok (.getfield 117, 3) := by decide +kernel
theorem dX4_sum_119 : decode cX4_sum 119 = .ok (.ireturn, 1) := by decide +kernel
theorem dX4_sum_120 : decode cX4_sum 120 = .ok (.aload_n 0, 1) := by decide +kernel
theorem dX4_sum_121 : decode cX4_sum 121 = .ok (.getfield 21, 3) := by decide +kernel
theorem dX4_sum_124 : decode cX4_sum 124 = .ok (.invokevirtual 84, 3) := by decide +kernel
theorem dX4_sum_127 : decode cX4_sum 127 = .ok (.ireturn, 1) := by decide +kernel
theorem dX4_sum_128 : decode cX4_sum 128 = .ok (.aload_n 0, 1) := by decide +kernel
theorem dX4_sum_129 : decode cX4_sum 129 = .ok (.getfield 21, 3) := by decide +kernel
theorem dX4_sum_132 : decode cX4_sum 132 = .ok (.getfield 87, 3) := by decide +kernel
theorem dX4_sum_135 : decode cX4_sum 135 = .ok (.ireturn, 1) := by decide +kernel
theorem dX4_sumCorner_0 : decode cX4_sumCorner 0 = .ok (.aload_n 0, 1) := by decide +kernel
theorem dX4_sumCorner_1 : decode cX4_sumCorner 1 = .ok (.iload_n 1, 1) := by decide +kernel
theorem dX4_sumCorner_2 : decode cX4_sumCorner 2 = .ok (.invokevirtual 38, 3) := by decide +kernel
theorem dX4_sumCorner_5 : decode cX4_sumCorner 5 = .ok (.astore 5, 2) := by decide +kernel
theorem dX4_sumCorner_7 : decode cX4_sumCorner 7 = .ok (.aload_n 0, 1) := by decide +kernel
theorem dX4_sumCorner_8 : decode cX4_sumCorner 8 = .ok (.iload_n 2, 1) := by decide +kernel
theorem dX4_sumCorner_9 : decode cX4_sumCorner 9 = .ok (.invokevirtual 38, 3) := by decide +kernel
theorem dX4_sumCorner_12 : decode cX4_sumCorner 12 = .ok (.astore 6, 2) := by decide +kernel
theorem dX4_sumCorner_14 : decode cX4_sumCorner 14 = .ok (.aload 5, 2) := by decide +kernel
theorem dX4_sumCorner_16 : decode cX4_sumCorner 16 = .ok (.ifnull 8, 3) := by decide +kernel
theorem dX4_sumCorner_19 : decode cX4_sumCorner 19 = .ok (.aload 6, 2) := by decide +kernel
theorem dX4_sumCorner_21 : decode cX4_sumCorner 21 = .ok (.ifnonnull 5, 3) := by decide +kernel
theorem dX4_sumCorner_24 : decode cX4_sumCorner 24 = .ok (.iconst (-1), 1) := by decide +kernel
theorem dX4_sumCorner_25 : decode cX4_sumCorner 25 = .ok (.ireturn, 1) := by decide +kernel
theorem dX4_sumCorner_26 : decode cX4_sumCorner 26 = .ok (.iload 4, 2) := by decide +kernel
theorem dX4_sumCorner_28 : decode cX4_sumCorner 28 = .ok (.iconst 0, 1) := by decide +kernel
theorem dX4_sumCorner_29 : decode cX4_sumCorner 29 = .ok (.iconst 1, 1) := by decide +kernel
theorem dX4_sumCorner_30 : decode cX4_sumCorner 30 = .ok (.invokestatic 42, 3) := by decide +kernel
theorem dX4_sumCorner_33 : decode cX4_sumCorner 33 = .ok (.ifCond .ne 6, 3) := by decide +kernel
theorem dX4_sumCorner_36 : decode cX4_sumCorner 36 = .ok (.bipush (-2), 2) := by decide +kernel
theorem dX4_sumCorner_38 : decode cX4_sumCorner 38 = .ok (.ireturn, 1) := by decide +kernel
theorem dX4_sumCorner_39 : decode cX4_sumCorner 39 = .ok (.aload_n 0, 1) := by decide +kernel
theorem dX4_sumCorner_40 : decode cX4_sumCorner 40 = .ok (.getfield 21, 3) := by decide +kernel
theorem dX4_sumCorner_43 : decode cX4_sumCorner 43 = .ok (.aload 5, 2) := by decide +kernel
theorem dX4_sumCorner_45 : decode cX4_sumCorner 45 = .ok (.aload 5, 2) := by decide +kernel
theorem dX4_sumCorner_47 : decode cX4_sumCorner 47 = .ok (.invokevirtual 76, 3) := by decide +kernel
theorem dX4_sumCorner_50 : decode cX4_sumCorner 50 = .ok (.aload 6, 2) := by decide +kernel
theorem dX4_sumCorner_52 : decode cX4_sumCorner 52 = .ok (.aload 6, 2) := by decide +kernel
theorem dX4_sumCorner_54 : decode cX4_sumCorner 54 = .ok (.invokevirtual 76, 3) := by decide +kernel
theorem dX4_sumCorner_57 : decode cX4_sumCorner 57 = .ok (.invokevirtual 113, 3) := by decide +kernel
theorem dX4_sumCorner_60 : decode cX4_sumCorner 60 = .ok (.pop, 1) := by decide +kernel
theorem dX4_sumCorner_61 : decode cX4_sumCorner 61 = .ok (.aload_n 0, 1) := by decide +kernel
theorem dX4_sumCorner_62 : decode cX4_sumCorner 62 = .ok (.getfield 21, 3) := by decide +kernel
theorem dX4_sumCorner_65 : decode cX4_sumCorner 65 = .ok (.iload_n 3, 1) := by decide +kernel
theorem dX4_sumCorner_66 : decode cX4_sumCorner 66 = .ok (.invokevirtual 99, 3) := by decide +kernel
theorem dX4_sumCorner_69 : decode cX4_sumCorner 69 = .ok (.ifCond .ne 6, 3) := by decide +kernel
theorem dX4_sumCorner_72 : decode cX4_sumCorner 72 = .ok (.bipush (-6), 2) := by decide +kernel
theorem dX4_sumCorner_74 : decode cX4_sumCorner 74 = .ok (.ireturn, 1) := by decide +kernel
theorem dX4_sumCorner_75 : decode cX4_sumCorner 75 = .ok (.iload 4, 2) := by decide +kernel
theorem dX4_sumCorner_77 : decode cX4_sumCorner 77 = .ok (.ifCond .ne 14, 3) := by decide +kernel
theorem dX4_sumCorner_80 : decode cX4_sumCorner 80 = .ok (.aload_n 0, 1) := by decide +kernel
theorem dX4_sumCorner_81 : decode cX4_sumCorner 81 = .ok (.getfield 21, 3) := by decide +kernel
theorem dX4_sumCorner_84 : decode cX4_sumCorner 84 = .ok (.iload_n 3, 1) := by decide +kernel
theorem dX4_sumCorner_85 : decode cX4_sumCorner 85 = .ok (.invokevirtual 102, 3) := by decide +kernel
theorem dX4_sumCorner_88 : decode cX4_sumCorner 88 = .ok (.goto 11, 3) := by decide +kernel
theorem dX4_sumCorner_91 : decode cX4_sumCorner 91 = .ok (.aload_n 0, 1) := by decide +kernel
theorem dX4_sumCorner_92 : decode cX4_sumCorner 92 = .ok (.getfield 21, 3) := by decide +kernel
theorem dX4_sumCorner_95 : decode cX4_sumCorner 95 = .ok (.iload_n 3, 1) := by decide +kernel
theorem dX4_sumCorner_96 : decode cX4_sumCorner 96 = .ok (.invokevirtual 106, 3) := by decide +kernel
theorem dX4_sumCorner_99 : decode cX4_sumCorner 99 = .ok (.ireturn, 1) := by decide +kernel
theorem dX4_cells_0 : decode cX4_cells 0 = .ok (.aload_n 0, 1) := by decide +kernel
theorem dX4_cells_1 : decode cX4_cells 1 = .ok (.iload_n 1, 1) := by decide +kernel
theorem dX4_cells_2 : decode cX4_cells 2 = .ok (.invokevirtual 38, 3) := by decide +kernel
theorem dX4_cells_5 : decode cX4_cells 5 = .ok (.astore 4, 2) := by decide +kernel
theorem dX4_cells_7 : decode cX4_cells 7 = .ok (.aload_n 0, 1) := by decide +kernel
theorem dX4_cells_8 : decode cX4_cells 8 = .ok (.iload_n 2, 1) := by decide +kernel
theorem dX4_cells_9 : decode cX4_cells 9 = .ok (.invokevirtual 38, 3) := by decide +kernel
theorem dX4_cells_12 : decode cX4_cells 12 = .ok (.astore 5, 2) := by decide +kernel
theorem dX4_cells_14 : decode cX4_cells 14 = .ok (.aload 4, 2) := by decide +kernel
theorem dX4_cells_16 : decode cX4_cells 16 = .ok (.ifnull 8, 3) := by decide +kernel
theorem dX4_cells_19 : decode cX4_cells 19 = .ok (.aload 5, 2) := by decide +kernel
theorem dX4_cells_21 : decode cX4_cells 21 = .ok (.ifnonnull 5, 3) := by decide +kernel
theorem dX4_cells_24 : decode cX4_cells 24 = .ok (.iconst (-1), 1) := by decide +kernel
theorem dX4_cells_25 : decode cX4_cells 25 = .ok (.ireturn, 1) := by decide +kernel
theorem dX4_cells_26 : decode cX4_cells 26 = .ok (.iload_n 3, 1) := by decide +kernel
theorem dX4_cells_27 : decode cX4_cells 27 = .ok (.iconst 0, 1) := by decide +kernel
theorem dX4_cells_28 : decode cX4_cells 28 = .ok (.iconst 2, 1) := by decide +kernel
theorem dX4_cells_29 : decode cX4_cells 29 = .ok (.invokestatic 42, 3) := by decide +kernel
theorem dX4_cells_32 : decode cX4_cells 32 = .ok (.ifCond .ne 13, 3) := by decide +kernel
theorem dX4_cells_35 : decode cX4_cells 35 = .ok (.iload_n 3, 1) := by decide +kernel
theorem dX4_cells_36 : decode cX4_cells 36 = .ok (.invokestatic 118, 3) := by decide +kernel
theorem dX4_cells_39 : decode cX4_cells 39 = .ok (.ifCond .ne 6, 3) := by decide +kernel
theorem dX4_cells_42 : decode cX4_cells 42 = .ok (.bipush (-2), 2) := by decide +kernel
theorem dX4_cells_44 : decode cX4_cells 44 = .ok (.ireturn, 1) := by decide +kernel
theorem dX4_cells_45 : decode cX4_cells 45 = .ok (.aload_n 0, 1) := by decide +kernel
theorem dX4_cells_46 : decode cX4_cells 46 = .ok (.getfield 28, 3) := by decide +kernel
theorem dX4_cells_49 : decode cX4_cells 49 = .ok (.aload 4, 2) := by decide +kernel
theorem dX4_cells_51 : decode cX4_cells 51 = .ok (.aload 5, 2) := by decide +kernel
theorem dX4_cells_53 : decode cX4_cells 53 = .ok (.invokevirtual 121, 3) := by decide +kernel
theorem dX4_cells_56 : decode cX4_cells 56 = .ok (.iload_n 3, 1) := by decide +kernel
theorem dX4_cells_57 : decode cX4_cells 57 = .ok (.ifCond .ne 11, 3) := by decide +kernel
theorem dX4_cells_60 : decode cX4_cells 60 = .ok (.aload_n 0, 1) := by decide +kernel
theorem dX4_cells_61 : decode cX4_cells 61 = .ok (.getfield 28, 3) := by decide +kernel
theorem dX4_cells_64 : decode cX4_cells 64 = .ok (.getfield 125, 3) := by decide +kernel
theorem dX4_cells_67 : decode cX4_cells 67 = .ok (.ireturn, 1) := by decide +kernel
theorem dX4_cells_68 : decode cX4_cells 68 = .ok (.iconst 0, 1) := by decide +kernel
theorem dX4_cells_69 : decode cX4_cells 69 = .ok (.istore 6, 2) := by decide +kernel
theorem dX4_cells_71 : decode cX4_cells 71 = .ok (.iconst 0, 1) := by decide +kernel
theorem dX4_cells_72 : decode cX4_cells 72 = .ok (.istore 7, 2) := by decide +kernel
theorem dX4_cells_74 : decode cX4_cells 74 = .ok (.iload 7, 2) := by decide +kernel
theorem dX4_cells_76 : decode cX4_cells 76 = .ok (.aload_n 0, 1) := by decide +kernel
theorem dX4_cells_77 : decode cX4_cells 77 = .ok (.getfield 28, 3) := by decide +kernel
theorem dX4_cells_80 : decode cX4_cells 80 = .ok (.getfield 125, 3) := by decide +kernel
theorem dX4_cells_83 : decode cX4_cells 83 = .ok (.if_icmp .ge 32, 3) := by decide +kernel
theorem dX4_cells_86 : decode cX4_cells 86 = .ok (.iload 6, 2) := by decide +kernel
theorem dX4_cells_88 : decode cX4_cells 88 = .ok (.aload_n 0, 1) := by decide +kernel
theorem dX4_cells_89 : decode cX4_cells 89 = .ok (.aload_n 0, 1) := by decide +kernel
theorem dX4_cells_90 : decode cX4_cells 90 = .ok (.getfield 28, 3) := by decide +kernel
theorem dX4_cells_93 : decode cX4_cells 93 = .ok (.iload 7, 2) := by decide +kernel
theorem dX4_cells_95 : decode cX4_cells 95 = .ok (.invokevirtual 126, 3) := by decide +kernel
theorem dX4_cells_98 : decode cX4_cells 98 = .ok (.aload 4, 2) := by decide +kernel
theorem dX4_cells_100 : decode cX4_cells 100 = .ok (.aload 5, 2) := by decide +kernel
theorem dX4_cells_102 : decode cX4_cells 102 = .ok (.iload_n 3, 1) := by decide +kernel
theorem dX4_cells_103 : decode cX4_cells 103 = .ok (.invokevirtual 130, 3) := by decide +kernel
theorem dX4_cells_106 : decode cX4_cells 106 = .ok (.iadd, 1) := by decide +kernel
theorem dX4_cells_107 : decode cX4_cells 107 = .ok (.istore 6, 2) := by decide +kernel
theorem dX4_cells_109 : decode cX4_cells 109 = .ok (.iinc 7 1, 3) := by decide +kernel
theorem dX4_cells_112 : decode cX4_cells 112 = .ok (.goto (-38), 3) := by decide +kernel
theorem dX4_cells_115 : decode cX4_cells 115 = .ok (.iload 6, 2) := by decide +kernel
theorem dX4_cells_117 : decode cX4_cells 117 = .ok (.ireturn, 1) := by decide +kernel
theorem dX4_cell_0 : decode cX4_cell 0 = .ok (.aload_n 0, 1) := by decide +kernel
theorem dX4_cell_1 : decode cX4_cell 1 = .ok (.iload_n 1, 1) := by decide +kernel
theorem dX4_cell_2 : decode cX4_cell 2 = .ok (.invokevirtual 38, 3) := by decide +kernel
theorem dX4_cell_5 : decode cX4_cell 5 = .ok (.astore 5, 2) := by decide +kernel
theorem dX4_cell_7 : decode cX4_cell 7 = .ok (.aload_n 0, 1) := by decide +kernel
theorem dX4_cell_8 : decode cX4_cell 8 = .ok (.iload_n 2, 1) := by decide +kernel
theorem dX4_cell_9 : decode cX4_cell 9 = .ok (.invokevirtual 38, 3) := by decide +kernel
theorem dX4_cell_12 : decode cX4_cell 12 = .ok (.astore 6, 2) := by decide +kernel
theorem dX4_cell_14 : decode cX4_cell 14 = .ok (.aload 5, 2) := by decide +kernel
theorem dX4_cell_16 : decode cX4_cell 16 = .ok (.ifnull 8, 3) := by decide +kernel
theorem dX4_cell_19 : decode cX4_cell 19 = .ok (.aload 6, 2) := by decide +kernel
theorem dX4_cell_21 : decode cX4_cell 21 = .ok (.ifnonnull 5, 3) := by decide +kernel
theorem dX4_cell_24 : decode cX4_cell 24 = .ok (.iconst (-1), 1) := by decide +kernel
end
section
theorem dX4_cell_25 : decode cX4_cell 25 = .ok (.ireturn, 1) := by decide +kernel
theorem dX4_cell_26 : decode cX4_cell 26 = .ok (.iload 4, 2) := by decide +kernel
theorem dX4_cell_28 : decode cX4_cell 28 = .ok (.iconst 0, 1) := by decide +kernel
theorem dX4_cell_29 : decode cX4_cell 29 = .ok (.iconst 4, 1) := by decide +kernel
theorem dX4_cell_30 : decode cX4_cell 30 = .ok (.invokestatic 42, 3) := by decide +kernel
theorem dX4_cell_33 : decode cX4_cell 33 = .ok (.ifCond .ne 6, 3) := by decide +kernel
theorem dX4_cell_36 : decode cX4_cell 36 = .ok (.bipush (-2), 2) := by decide +kernel
theorem dX4_cell_38 : decode cX4_cell 38 = .ok (.ireturn, 1) := by decide +kernel
theorem dX4_cell_39 : decode cX4_cell 39 = .ok (.aload_n 0, 1) := by decide +kernel
theorem dX4_cell_40 : decode cX4_cell 40 = .ok (.getfield 28, 3) := by decide +kernel
theorem dX4_cell_43 : decode cX4_cell 43 = .ok (.aload 5, 2) := by decide +kernel
theorem dX4_cell_45 : decode cX4_cell 45 = .ok (.aload 6, 2) := by decide +kernel
theorem dX4_cell_47 : decode cX4_cell 47 = .ok (.invokevirtual 121, 3) := by decide +kernel
theorem dX4_cell_50 : decode cX4_cell 50 = .ok (.aload_n 0, 1) := by decide +kernel
theorem dX4_cell_51 : decode cX4_cell 51 = .ok (.getfield 28, 3) := by decide +kernel
theorem dX4_cell_54 : decode cX4_cell 54 = .ok (.iload_n 3, 1) := by decide +kernel
theorem dX4_cell_55 : decode cX4_cell 55 = .ok (.invokevirtual 126, 3) := by decide +kernel
theorem dX4_cell_58 : decode cX4_cell 58 = .ok (.astore 7, 2) := by decide +kernel
theorem dX4_cell_60 : decode cX4_cell 60 = .ok (.aload 7, 2) := by decide +kernel
theorem dX4_cell_62 : decode cX4_cell 62 = .ok (.ifnonnull 6, 3) := by decide +kernel
theorem dX4_cell_65 : decode cX4_cell 65 = .ok (.bipush (-6), 2) := by decide +kernel
theorem dX4_cell_67 : decode cX4_cell 67 = .ok (.ireturn, 1) := by decide +kernel
theorem dX4_cell_68 : decode cX4_cell 68 = .ok (.iload 4, 2) := by decide +kernel
theorem dX4_cell_70 : decode cX4_cell 70 = .ok (.tableswitch 91 0 3 #[30, 41, 66, 85], 30) := by decide +kernel
theorem dX4_cell_100 : decode cX4_cell 100 = .ok (.aload_n 0, 1) := by decide +kernel
theorem dX4_cell_101 : decode cX4_cell 101 = .ok (.aload 7, 2) := by decide +kernel
theorem dX4_cell_103 : decode cX4_cell 103 = .ok (.aload 5, 2) := by decide +kernel
theorem dX4_cell_105 : decode cX4_cell 105 = .ok (.aload 6, 2) := by decide +kernel
theorem dX4_cell_107 : decode cX4_cell 107 = .ok (.invokevirtual 134, 3) := by decide +kernel
theorem dX4_cell_110 : decode cX4_cell 110 = .ok (.ireturn, 1) := by decide +kernel
theorem dX4_cell_111 : decode cX4_cell 111 = .ok (.aload_n 0, 1) := by decide +kernel
theorem dX4_cell_112 : decode cX4_cell 112 = .ok (.getfield 21, 3) := by decide +kernel
theorem dX4_cell_115 : decode cX4_cell 115 = .ok (.aload 5, 2) := by decide +kernel
theorem dX4_cell_117 : decode cX4_cell 117 = .ok (.aload 7, 2) := by decide +kernel
theorem dX4_cell_119 : decode cX4_cell 119 = .ok (.getfield 138, 3) := by decide +kernel
theorem dX4_cell_122 : decode cX4_cell 122 = .ok (.aload 6, 2) := by decide +kernel
theorem dX4_cell_124 : decode cX4_cell 124 = .ok (.aload 7, 2) := by decide +kernel
theorem dX4_cell_126 : decode cX4_cell 126 = .ok (.getfield 143, 3) := by decide +kernel
theorem dX4_cell_129 : decode cX4_cell 129 = .ok (.invokevirtual 113, 3) := by decide +kernel
theorem dX4_cell_132 : decode cX4_cell 132 = .ok (.invokevirtual 84, 3) := by decide +kernel
theorem dX4_cell_135 : decode cX4_cell 135 = .ok (.ireturn, 1) := by decide +kernel
theorem dX4_cell_136 : decode cX4_cell 136 = .ok (.aload_n 0, 1) := by decide +kernel
theorem dX4_cell_137 : decode cX4_cell 137 = .ok (.aload 5, 2) := by decide +kernel
theorem dX4_cell_139 : decode cX4_cell 139 = .ok (.aload 7, 2) := by decide +kernel
theorem dX4_cell_141 : decode cX4_cell 141 = .ok (.getfield 138, 3) := by decide +kernel
theorem dX4_cell_144 : decode cX4_cell 144 = .ok (.aload 6, 2) := by decide +kernel
theorem dX4_cell_146 : decode cX4_cell 146 = .ok (.aload 7, 2) := by decide +kernel
theorem dX4_cell_148 : decode cX4_cell 148 = .ok (.getfield 143, 3) := by decide +kernel
theorem dX4_cell_151 : decode cX4_cell 151 = .ok (.invokevirtual 109, 3) := by decide +kernel
theorem dX4_cell_154 : decode cX4_cell 154 = .ok (.ireturn, 1) := by decide +kernel
theorem dX4_cell_155 : decode cX4_cell 155 = .ok (.aload 7, 2) := by decide +kernel
theorem dX4_cell_157 : decode cX4_cell 157 = .ok (.getfield 138, 3) := by decide +kernel
theorem dX4_cell_160 : decode cX4_cell 160 = .ok (.ireturn, 1) := by decide +kernel
theorem dX4_cell_161 : decode cX4_cell 161 = .ok (.aload 7, 2) := by decide +kernel
theorem dX4_cell_163 : decode cX4_cell 163 = .ok (.getfield 143, 3) := by decide +kernel
theorem dX4_cell_166 : decode cX4_cell 166 = .ok (.ireturn, 1) := by decide +kernel
theorem dX4_slope_0 : decode cX4_slope 0 = .ok (.aload_n 0, 1) := by decide +kernel
theorem dX4_slope_1 : decode cX4_slope 1 = .ok (.iload_n 1, 1) := by decide +kernel
theorem dX4_slope_2 : decode cX4_slope 2 = .ok (.invokevirtual 38, 3) := by decide +kernel
theorem dX4_slope_5 : decode cX4_slope 5 = .ok (.astore 5, 2) := by decide +kernel
theorem dX4_slope_7 : decode cX4_slope 7 = .ok (.aload_n 0, 1) := by decide +kernel
theorem dX4_slope_8 : decode cX4_slope 8 = .ok (.iload_n 2, 1) := by decide +kernel
theorem dX4_slope_9 : decode cX4_slope 9 = .ok (.invokevirtual 38, 3) := by decide +kernel
theorem dX4_slope_12 : decode cX4_slope 12 = .ok (.astore 6, 2) := by decide +kernel
theorem dX4_slope_14 : decode cX4_slope 14 = .ok (.aload 5, 2) := by decide +kernel
theorem dX4_slope_16 : decode cX4_slope 16 = .ok (.ifnull 8, 3) := by decide +kernel
theorem dX4_slope_19 : decode cX4_slope 19 = .ok (.aload 6, 2) := by decide +kernel
theorem dX4_slope_21 : decode cX4_slope 21 = .ok (.ifnonnull 5, 3) := by decide +kernel
theorem dX4_slope_24 : decode cX4_slope 24 = .ok (.iconst (-1), 1) := by decide +kernel
theorem dX4_slope_25 : decode cX4_slope 25 = .ok (.ireturn, 1) := by decide +kernel
theorem dX4_slope_26 : decode cX4_slope 26 = .ok (.iload 4, 2) := by decide +kernel
theorem dX4_slope_28 : decode cX4_slope 28 = .ok (.iconst 0, 1) := by decide +kernel
theorem dX4_slope_29 : decode cX4_slope 29 = .ok (.iconst 3, 1) := by decide +kernel
theorem dX4_slope_30 : decode cX4_slope 30 = .ok (.invokestatic 42, 3) := by decide +kernel
theorem dX4_slope_33 : decode cX4_slope 33 = .ok (.ifCond .ne 6, 3) := by decide +kernel
theorem dX4_slope_36 : decode cX4_slope 36 = .ok (.bipush (-2), 2) := by decide +kernel
theorem dX4_slope_38 : decode cX4_slope 38 = .ok (.ireturn, 1) := by decide +kernel
theorem dX4_slope_39 : decode cX4_slope 39 = .ok (.aload_n 0, 1) := by decide +kernel
theorem dX4_slope_40 : decode cX4_slope 40 = .ok (.getfield 28, 3) := by decide +kernel
theorem dX4_slope_43 : decode cX4_slope 43 = .ok (.aload 5, 2) := by decide +kernel
theorem dX4_slope_45 : decode cX4_slope 45 = .ok (.aload 6, 2) := by decide +kernel
theorem dX4_slope_47 : decode cX4_slope 47 = .ok (.invokevirtual 121, 3) := by decide +kernel
theorem dX4_slope_50 : decode cX4_slope 50 = .ok (.aload_n 0, 1) := by decide +kernel
theorem dX4_slope_51 : decode cX4_slope 51 = .ok (.getfield 28, 3) := by decide +kernel
theorem dX4_slope_54 : decode cX4_slope 54 = .ok (.iload_n 3, 1) := by decide +kernel
theorem dX4_slope_55 : decode cX4_slope 55 = .ok (.invokevirtual 126, 3) := by decide +kernel
theorem dX4_slope_58 : decode cX4_slope 58 = .ok (.astore 7, 2) := by decide +kernel
theorem dX4_slope_60 : decode cX4_slope 60 = .ok (.aload 7, 2) := by decide +kernel
theorem dX4_slope_62 : decode cX4_slope 62 = .ok (.ifnonnull 6, 3) := by decide +kernel
theorem dX4_slope_65 : decode cX4_slope 65 = .ok (.bipush (-6), 2) := by decide +kernel
theorem dX4_slope_67 : decode cX4_slope 67 = .ok (.ireturn, 1) := by decide +kernel
theorem dX4_slope_68 : decode cX4_slope 68 = .ok (.iload 4, 2) := by decide +kernel
theorem dX4_slope_70 : decode cX4_slope 70 = .ok (.tableswitch 50 0 2 #[26, 35, 41], 26) := by decide +kernel
theorem dX4_slope_96 : decode cX4_slope 96 = .ok (.ldc 146, 2) := by decide +kernel
theorem dX4_slope_98 : decode cX4_slope 98 = .ok (.aload 7, 2) := by decide +kernel
theorem dX4_slope_100 : decode cX4_slope 100 = .ok (.getfield 147, 3) := by decide +kernel
theorem dX4_slope_103 : decode cX4_slope 103 = .ok (.iadd, 1) := by decide +kernel
theorem dX4_slope_104 : decode cX4_slope 104 = .ok (.ireturn, 1) := by decide +kernel
theorem dX4_slope_105 : decode cX4_slope 105 = .ok (.aload 7, 2) := by decide +kernel
theorem dX4_slope_107 : decode cX4_slope 107 = .ok (.getfield 150, 3) := by decide +kernel
theorem dX4_slope_110 : decode cX4_slope 110 = .ok (.ireturn, 1) := by decide +kernel
theorem dX4_slope_111 : decode cX4_slope 111 = .ok (.ldc 146, 2) := by decide +kernel
theorem dX4_slope_113 : decode cX4_slope 113 = .ok (.aload 7, 2) := by decide +kernel
theorem dX4_slope_115 : decode cX4_slope 115 = .ok (.getfield 153, 3) := by decide +kernel
theorem dX4_slope_118 : decode cX4_slope 118 = .ok (.iadd, 1) := by decide +kernel
theorem dX4_slope_119 : decode cX4_slope 119 = .ok (.ireturn, 1) := by decide +kernel
theorem dX4_slope_120 : decode cX4_slope 120 = .ok (.aload 7, 2) := by decide +kernel
theorem dX4_slope_122 : decode cX4_slope 122 = .ok (.getfield 156, 3) := by decide +kernel
theorem dX4_slope_125 : decode cX4_slope 125 = .ok (.ireturn, 1) := by decide +kernel
theorem dX4_low_0 : decode cX4_low 0 = .ok (.aload_n 0, 1) := by decide +kernel
theorem dX4_low_1 : decode cX4_low 1 = .ok (.iload_n 1, 1) := by decide +kernel
theorem dX4_low_2 : decode cX4_low 2 = .ok (.invokevirtual 38, 3) := by decide +kernel
theorem dX4_low_5 : decode cX4_low 5 = .ok (.astore 4, 2) := by decide +kernel
theorem dX4_low_7 : decode cX4_low 7 = .ok (.aload 4, 2) := by decide +kernel
theorem dX4_low_9 : decode cX4_low 9 = .ok (.ifnonnull 5, 3) := by decide +kernel
theorem dX4_low_12 : decode cX4_low 12 = .ok (.iconst (-1), 1) := by decide +kernel
theorem dX4_low_13 : decode cX4_low 13 = .ok (.ireturn, 1) := by decide +kernel
theorem dX4_low_14 : decode cX4_low 14 = .ok (.iload_n 2, 1) := by decide +kernel
theorem dX4_low_15 : decode cX4_low 15 = .ok (.sipush (-1000), 3) := by decide +kernel
theorem dX4_low_18 : decode cX4_low 18 = .ok (.sipush 1000, 3) := by decide +kernel
theorem dX4_low_21 : decode cX4_low 21 = .ok (.invokestatic 42, 3) := by decide +kernel
theorem dX4_low_24 : decode cX4_low 24 = .ok (.ifCond .eq 16, 3) := by decide +kernel
theorem dX4_low_27 : decode cX4_low 27 = .ok (.iload_n 3, 1) := by decide +kernel
theorem dX4_low_28 : decode cX4_low 28 = .ok (.sipush (-1000), 3) := by decide +kernel
theorem dX4_low_31 : decode cX4_low 31 = .ok (.sipush 1000, 3) := by decide +kernel
theorem dX4_low_34 : decode cX4_low 34 = .ok (.invokestatic 42, 3) := by decide +kernel
theorem dX4_low_37 : decode cX4_low 37 = .ok (.ifCond .ne 6, 3) := by decide +kernel
theorem dX4_low_40 : decode cX4_low 40 = .ok (.bipush (-2), 2) := by decide +kernel
theorem dX4_low_42 : decode cX4_low 42 = .ok (.ireturn, 1) := by decide +kernel
theorem dX4_low_43 : decode cX4_low 43 = .ok (.aload 4, 2) := by decide +kernel
theorem dX4_low_45 : decode cX4_low 45 = .ok (.iload_n 2, 1) := by decide +kernel
theorem dX4_low_46 : decode cX4_low 46 = .ok (.iload_n 3, 1) := by decide +kernel
theorem dX4_low_47 : decode cX4_low 47 = .ok (.iconst 1, 1) := by decide +kernel
theorem dX4_low_48 : decode cX4_low 48 = .ok (.invokevirtual 159, 3) := by decide +kernel
theorem dX4_low_51 : decode cX4_low 51 = .ok (.ireturn, 1) := by decide +kernel
theorem dX4_fan_0 : decode cX4_fan 0 = .ok (.aload_n 0, 1) := by decide +kernel
theorem dX4_fan_1 : decode cX4_fan 1 = .ok (.iload_n 1, 1) := by decide +kernel
theorem dX4_fan_2 : decode cX4_fan 2 = .ok (.invokevirtual 38, 3) := by decide +kernel
theorem dX4_fan_5 : decode cX4_fan 5 = .ok (.astore_n 3, 1) := by decide +kernel
theorem dX4_fan_6 : decode cX4_fan 6 = .ok (.aload_n 3, 1) := by decide +kernel
theorem dX4_fan_7 : decode cX4_fan 7 = .ok (.ifnonnull 5, 3) := by decide +kernel
theorem dX4_fan_10 : decode cX4_fan 10 = .ok (.iconst (-1), 1) := by decide +kernel
theorem dX4_fan_11 : decode cX4_fan 11 = .ok (.ireturn, 1) := by decide +kernel
theorem dX4_fan_12 : decode cX4_fan 12 = .ok (.iload_n 2, 1) := by decide +kernel
theorem dX4_fan_13 : decode cX4_fan 13 = .ok (.iconst 0, 1) := by decide +kernel
theorem dX4_fan_14 : decode cX4_fan 14 = .ok (.iconst 2, 1) := by decide +kernel
theorem dX4_fan_15 : decode cX4_fan 15 = .ok (.invokestatic 42, 3) := by decide +kernel
theorem dX4_fan_18 : decode cX4_fan 18 = .ok (.ifCond .ne 6, 3) := by decide +kernel
theorem dX4_fan_21 : decode cX4_fan 21 = .ok (.bipush (-2), 2) := by decide +kernel
theorem dX4_fan_23 : decode cX4_fan 23 = .ok (.ireturn, 1) := by decide +kernel
theorem dX4_fan_24 : decode cX4_fan 24 = .ok (.aload_n 0, 1) := by decide +kernel
theorem dX4_fan_25 : decode cX4_fan 25 = .ok (.getfield 21, 3) := by decide +kernel
theorem dX4_fan_28 : decode cX4_fan 28 = .ok (.aload_n 3, 1) := by decide +kernel
theorem dX4_fan_29 : decode cX4_fan 29 = .ok (.invokevirtual 162, 3) := by decide +kernel
theorem dX4_fan_32 : decode cX4_fan 32 = .ok (.pop, 1) := by decide +kernel
theorem dX4_fan_33 : decode cX4_fan 33 = .ok (.iload_n 2, 1) := by decide +kernel
theorem dX4_fan_34 : decode cX4_fan 34 = .ok (.lookupswitch 42 #[(0, 26), (1, 34)], 26) := by decide +kernel
theorem dX4_fan_60 : decode cX4_fan 60 = .ok (.aload_n 0, 1) := by decide +kernel
theorem dX4_fan_61 : decode cX4_fan 61 = .ok (.getfield 21, 3) := by decide +kernel
theorem dX4_fan_64 : decode cX4_fan 64 = .ok (.invokevirtual 84, 3) := by decide +kernel
theorem dX4_fan_67 : decode cX4_fan 67 = .ok (.ireturn, 1) := by decide +kernel
theorem dX4_fan_68 : decode cX4_fan 68 = .ok (.aload_n 0, 1) := by decide +kernel
theorem dX4_fan_69 : decode cX4_fan 69 = .ok (.getfield 21, 3) := by decide +kernel
theorem dX4_fan_72 : decode cX4_fan 72 = .ok (.getfield 87, 3) := by decide +kernel
theorem dX4_fan_75 : decode cX4_fan 75 = .ok (.ireturn, 1) := by decide +kernel
theorem dX4_fan_76 : decode cX4_fan 76 = .ok (.aload_n 0, 1) := by decide +kernel
theorem dX4_fan_77 : decode cX4_fan 77 = .ok (.getfield 21, 3) := by decide +kernel
theorem dX4_fan_80 : decode cX4_fan 80 = .ok (.getfield 117, 3) := by decide +kernel
theorem dX4_fan_83 : decode cX4_fan 83 = .ok (.ireturn, 1) := by decide +kernel
theorem dX4_roots_0 : decode cX4_roots 0 = .ok (.aload_n 0, 1) := by decide +kernel
theorem dX4_roots_1 : decode cX4_roots 1 = .ok (.iload_n 1, 1) := by decide +kernel
theorem dX4_roots_2 : decode cX4_roots 2 = .ok (.invokevirtual 38, 3) := by decide +kernel
theorem dX4_roots_5 : decode cX4_roots 5 = .ok (.astore 4, 2) := by decide +kernel
theorem dX4_roots_7 : decode cX4_roots 7 = .ok (.aload_n 0, 1) := by decide +kernel
theorem dX4_roots_8 : decode cX4_roots 8 = .ok (.iload_n 2, 1) := by decide +kernel
theorem dX4_roots_9 : decode cX4_roots 9 = .ok (.invokevirtual 38, 3) := by decide +kernel
theorem dX4_roots_12 : decode cX4_roots 12 = .ok (.astore 5, 2) := by decide +kernel
theorem dX4_roots_14 : decode cX4_roots 14 = .ok (.aload 4, 2) := by decide +kernel
theorem dX4_roots_16 : decode cX4_roots 16 = .ok (.ifnull 8, 3) := by decide +kernel
theorem dX4_roots_19 : decode cX4_roots 19 = .ok (.aload 5, 2) := by decide +kernel
theorem dX4_roots_21 : decode cX4_roots 21 = .ok (.ifnonnull 5, 3) := by decide +kernel
theorem dX4_roots_24 : decode cX4_roots 24 = .ok (.iconst (-1), 1) := by decide +kernel
theorem dX4_roots_25 : decode cX4_roots 25 = .ok (.ireturn, 1) := by decide +kernel
theorem dX4_roots_26 : decode cX4_roots 26 = .ok (.iload_n 3, 1) := by decide +kernel
theorem dX4_roots_27 : decode cX4_roots 27 = .ok (.invokestatic 166, 3) := by decide +kernel
theorem dX4_roots_30 : decode cX4_roots 30 = .ok (.ifCond .ne 6, 3) := by decide +kernel
theorem dX4_roots_33 : decode cX4_roots 33 = .ok (.bipush (-2), 2) := by decide +kernel
theorem dX4_roots_35 : decode cX4_roots 35 = .ok (.ireturn, 1) := by decide +kernel
theorem dX4_roots_36 : decode cX4_roots 36 = .ok (.aload_n 0, 1) := by decide +kernel
theorem dX4_roots_37 : decode cX4_roots 37 = .ok (.iload_n 3, 1) := by decide +kernel
theorem dX4_roots_38 : decode cX4_roots 38 = .ok (.invokevirtual 169, 3) := by decide +kernel
theorem dX4_roots_41 : decode cX4_roots 41 = .ok (.iconst 0, 1) := by decide +kernel
theorem dX4_roots_42 : decode cX4_roots 42 = .ok (.istore 6, 2) := by decide +kernel
theorem dX4_roots_44 : decode cX4_roots 44 = .ok (.iconst 1, 1) := by decide +kernel
theorem dX4_roots_45 : decode cX4_roots 45 = .ok (.istore 7, 2) := by decide +kernel
theorem dX4_roots_47 : decode cX4_roots 47 = .ok (.iload 7, 2) := by decide +kernel
theorem dX4_roots_49 : decode cX4_roots 49 = .ok (.iload_n 3, 1) := by decide +kernel
theorem dX4_roots_50 : decode cX4_roots 50 = .ok (.if_icmp .ge 55, 3) := by decide +kernel
theorem dX4_roots_53 : decode cX4_roots 53 = .ok (.iconst 1, 1) := by decide +kernel
theorem dX4_roots_54 : decode cX4_roots 54 = .ok (.istore 8, 2) := by decide +kernel
theorem dX4_roots_56 : decode cX4_roots 56 = .ok (.iload 8, 2) := by decide +kernel
theorem dX4_roots_58 : decode cX4_roots 58 = .ok (.iload_n 3, 1) := by decide +kernel
theorem dX4_roots_59 : decode cX4_roots 59 = .ok (.if_icmp .ge 40, 3) := by decide +kernel
theorem dX4_roots_62 : decode cX4_roots 62 = .ok (.aload_n 0, 1) := by decide +kernel
theorem dX4_roots_63 : decode cX4_roots 63 = .ok (.aload 4, 2) := by decide +kernel
theorem dX4_roots_65 : decode cX4_roots 65 = .ok (.iload 7, 2) := by decide +kernel
theorem dX4_roots_67 : decode cX4_roots 67 = .ok (.iload 8, 2) := by decide +kernel
theorem dX4_roots_69 : decode cX4_roots 69 = .ok (.iload_n 3, 1) := by decide +kernel
theorem dX4_roots_70 : decode cX4_roots 70 = .ok (.invokevirtual 172, 3) := by decide +kernel
theorem dX4_roots_73 : decode cX4_roots 73 = .ok (.ifCond .eq 20, 3) := by decide +kernel
theorem dX4_roots_76 : decode cX4_roots 76 = .ok (.aload_n 0, 1) := by decide +kernel
theorem dX4_roots_77 : decode cX4_roots 77 = .ok (.aload 5, 2) := by decide +kernel
theorem dX4_roots_79 : decode cX4_roots 79 = .ok (.iload 7, 2) := by decide +kernel
theorem dX4_roots_81 : decode cX4_roots 81 = .ok (.iload 8, 2) := by decide +kernel
theorem dX4_roots_83 : decode cX4_roots 83 = .ok (.iload_n 3, 1) := by decide +kernel
theorem dX4_roots_84 : decode cX4_roots 84 = .ok (.invokevirtual 172, 3) := by decide +kernel
theorem dX4_roots_87 : decode cX4_roots 87 = .ok (.ifCond .eq 6, 3) := by decide +kernel
theorem dX4_roots_90 : decode cX4_roots 90 = .ok (.iinc 6 1, 3) := by decide +kernel
theorem dX4_roots_93 : decode cX4_roots 93 = .ok (.iinc 8 1, 3) := by decide +kernel
theorem dX4_roots_96 : decode cX4_roots 96 = .ok (.goto (-40), 3) := by decide +kernel
theorem dX4_roots_99 : decode cX4_roots 99 = .ok (.iinc 7 1, 3) := by decide +kernel
theorem dX4_roots_102 : decode cX4_roots 102 = .ok (.goto (-55), 3) := by decide +kernel
theorem dX4_roots_105 : decode cX4_roots 105 = .ok (.iload 6, 2) := by decide +kernel
theorem dX4_roots_107 : decode cX4_roots 107 = .ok (.ireturn, 1) := by decide +kernel
theorem dX4_image_0 : decode cX4_image 0 = .ok (.iload_n 1, 1) := by decide +kernel
theorem dX4_image_1 : decode cX4_image 1 = .ok (.iconst 0, 1) := by decide +kernel
theorem dX4_image_2 : decode cX4_image 2 = .ok (.iconst 1, 1) := by decide +kernel
theorem dX4_image_3 : decode cX4_image 3 = .ok (.invokestatic 42, 3) := by decide +kernel
theorem dX4_image_6 : decode cX4_image 6 = .ok (.ifCond .ne 6, 3) := by decide +kernel
theorem dX4_image_9 : decode cX4_image 9 = .ok (.bipush (-2), 2) := by decide +kernel
theorem dX4_image_11 : decode cX4_image 11 = .ok (.ireturn, 1) := by decide +kernel
theorem dX4_image_12 : decode cX4_image 12 = .ok (.iconst 0, 1) := by decide +kernel
theorem dX4_image_13 : decode cX4_image 13 = .ok (.istore_n 2, 1) := by decide +kernel
theorem dX4_image_14 : decode cX4_image 14 = .ok (.iload_n 2, 1) := by decide +kernel
theorem dX4_image_15 : decode cX4_image 15 = .ok (.iconst 4, 1) := by decide +kernel
theorem dX4_image_16 : decode cX4_image 16 = .ok (.if_icmp .ge 28, 3) := by decide +kernel
theorem dX4_image_19 : decode cX4_image 19 = .ok (.aload_n 0, 1) := by decide +kernel
theorem dX4_image_20 : decode cX4_image 20 = .ok (.getfield 15, 3) := by decide +kernel
theorem dX4_image_23 : decode cX4_image 23 = .ok (.iload_n 1, 1) := by decide +kernel
theorem dX4_image_24 : decode cX4_image 24 = .ok (.iconst 4, 1) := by decide +kernel
theorem dX4_image_25 : decode cX4_image 25 = .ok (.imul, 1) := by decide +kernel
theorem dX4_image_26 : decode cX4_image 26 = .ok (.iload_n 2, 1) := by decide +kernel
theorem dX4_image_27 : decode cX4_image 27 = .ok (.iadd, 1) := by decide +kernel
theorem dX4_image_28 : decode cX4_image 28 = .ok (.aaload, 1) := by decide +kernel
theorem dX4_image_29 : decode cX4_image 29 = .ok (.aload_n 0, 1) := by decide +kernel
theorem dX4_image_30 : decode cX4_image 30 = .ok (.getfield 11, 3) := by decide +kernel
theorem dX4_image_33 : decode cX4_image 33 = .ok (.iload_n 2, 1) := by decide +kernel
theorem dX4_image_34 : decode cX4_image 34 = .ok (.aaload, 1) := by decide +kernel
theorem dX4_image_35 : decode cX4_image 35 = .ok (.invokevirtual 176, 3) := by decide +kernel
theorem dX4_image_38 : decode cX4_image 38 = .ok (.iinc 2 1, 3) := by decide +kernel
theorem dX4_image_41 : decode cX4_image 41 = .ok (.goto (-27), 3) := by decide +kernel
theorem dX4_image_44 : decode cX4_image 44 = .ok (.aload_n 0, 1) := by decide +kernel
theorem dX4_image_45 : decode cX4_image 45 = .ok (.dup, 1) := by decide +kernel
theorem dX4_image_46 : decode cX4_image 46 = .ok (.getfield 180, 3) := by decide +kernel
theorem dX4_image_49 : decode cX4_image 49 = .ok (.iconst 1, 1) := by decide +kernel
theorem dX4_image_50 : decode cX4_image 50 = .ok (.iload_n 1, 1) := by decide +kernel
theorem dX4_image_51 : decode cX4_image 51 = .ok (.ishl, 1) := by decide +kernel
theorem dX4_image_52 : decode cX4_image 52 = .ok (.ior, 1) := by decide +kernel
theorem dX4_image_53 : decode cX4_image 53 = .ok (.putfield 180, 3) := by decide +kernel
theorem dX4_image_56 : decode cX4_image 56 = .ok (.iconst 1, 1) := by decide +kernel
theorem dX4_image_57 : decode cX4_image 57 = .ok (.ireturn, 1) := by decide +kernel
theorem dX4_restore_0 : decode cX4_restore 0 = .ok (.iload_n 1, 1) := by decide +kernel
theorem dX4_restore_1 : decode cX4_restore 1 = .ok (.iconst 0, 1) := by decide +kernel
theorem dX4_restore_2 : decode cX4_restore 2 = .ok (.iconst 1, 1) := by decide +kernel
theorem dX4_restore_3 : decode cX4_restore 3 = .ok (.invokestatic 42, 3) := by decide +kernel
theorem dX4_restore_6 : decode cX4_restore 6 = .ok (.ifCond .ne 6, 3) := by decide +kernel
theorem dX4_restore_9 : decode cX4_restore 9 = .ok (.bipush (-2), 2) := by decide +kernel
theorem dX4_restore_11 : decode cX4_restore 11 = .ok (.ireturn, 1) := by decide +kernel
theorem dX4_restore_12 : decode cX4_restore 12 = .ok (.aload_n 0, 1) := by decide +kernel
theorem dX4_restore_13 : decode cX4_restore 13 = .ok (.getfield 180, 3) := by decide +kernel
theorem dX4_restore_16 : decode cX4_restore 16 = .ok (.iload_n 1, 1) := by decide +kernel
theorem dX4_restore_17 : decode cX4_restore 17 = .ok (.ishr, 1) := by decide +kernel
theorem dX4_restore_18 : decode cX4_restore 18 = .ok (.iconst 1, 1) := by decide +kernel
theorem dX4_restore_19 : decode cX4_restore 19 = .ok (.iand, 1) := by decide +kernel
theorem dX4_restore_20 : decode cX4_restore 20 = .ok (.ifCond .ne 6, 3) := by decide +kernel
theorem dX4_restore_23 : decode cX4_restore 23 = .ok (.bipush (-3), 2) := by decide +kernel
theorem dX4_restore_25 : decode cX4_restore 25 = .ok (.ireturn, 1) := by decide +kernel
theorem dX4_restore_26 : decode cX4_restore 26 = .ok (.iconst 0, 1) := by decide +kernel
theorem dX4_restore_27 : decode cX4_restore 27 = .ok (.istore_n 2, 1) := by decide +kernel
theorem dX4_restore_28 : decode cX4_restore 28 = .ok (.iload_n 2, 1) := by decide +kernel
theorem dX4_restore_29 : decode cX4_restore 29 = .ok (.iconst 4, 1) := by decide +kernel
theorem dX4_restore_30 : decode cX4_restore 30 = .ok (.if_icmp .ge 28, 3) := by decide +kernel
theorem dX4_restore_33 : decode cX4_restore 33 = .ok (.aload_n 0, 1) := by decide +kernel
theorem dX4_restore_34 : decode cX4_restore 34 = .ok (.getfield 11, 3) := by decide +kernel
theorem dX4_restore_37 : decode cX4_restore 37 = .ok (.iload_n 2, 1) := by decide +kernel
theorem dX4_restore_38 : decode cX4_restore 38 = .ok (.aaload, 1) := by decide +kernel
theorem dX4_restore_39 : decode cX4_restore 39 = .ok (.aload_n 0, 1) := by decide +kernel
theorem dX4_restore_40 : decode cX4_restore 40 = .ok (.getfield 15, 3) := by decide +kernel
theorem dX4_restore_43 : decode cX4_restore 43 = .ok (.iload_n 1, 1) := by decide +kernel
theorem dX4_restore_44 : decode cX4_restore 44 = .ok (.iconst 4, 1) := by decide +kernel
theorem dX4_restore_45 : decode cX4_restore 45 = .ok (.imul, 1) := by decide +kernel
theorem dX4_restore_46 : decode cX4_restore 46 = .ok (.iload_n 2, 1) := by decide +kernel
theorem dX4_restore_47 : decode cX4_restore 47 = .ok (.iadd, 1) := by decide +kernel
theorem dX4_restore_48 : decode cX4_restore 48 = .ok (.aaload, 1) := by decide +kernel
theorem dX4_restore_49 : decode cX4_restore 49 = .ok (.invokevirtual 176, 3) := by decide +kernel
theorem dX4_restore_52 : decode cX4_restore 52 = .ok (.iinc 2 1, 3) := by decide +kernel
theorem dX4_restore_55 : decode cX4_restore 55 = .ok (.goto (-27), 3) := by decide +kernel
theorem dX4_restore_58 : decode cX4_restore 58 = .ok (.iconst 1, 1) := by decide +kernel
theorem dX4_restore_59 : decode cX4_restore 59 = .ok (.ireturn, 1) := by decide +kernel
theorem dX4_count_0 : decode cX4_count 0 = .ok (.iload_n 1, 1) := by decide +kernel
theorem dX4_count_1 : decode cX4_count 1 = .ok (.iconst 0, 1) := by decide +kernel
theorem dX4_count_2 : decode cX4_count 2 = .ok (.bipush 6, 2) := by decide +kernel
theorem dX4_count_4 : decode cX4_count 4 = .ok (.invokestatic 42, 3) := by decide +kernel
theorem dX4_count_7 : decode cX4_count 7 = .ok (.ifCond .ne 6, 3) := by decide +kernel
theorem dX4_count_10 : decode cX4_count 10 = .ok (.bipush (-2), 2) := by decide +kernel
theorem dX4_count_12 : decode cX4_count 12 = .ok (.ireturn, 1) := by decide +kernel
theorem dX4_count_13 : decode cX4_count 13 = .ok (.iload_n 1, 1) := by decide +kernel
theorem dX4_count_14 : decode cX4_count 14 = .ok (.iconst 4, 1) := by decide +kernel
theorem dX4_count_15 : decode cX4_count 15 = .ok (.if_icmp .ge 13, 3) := by decide +kernel
theorem dX4_count_18 : decode cX4_count 18 = .ok (.aload_n 0, 1) := by decide +kernel
theorem dX4_count_19 : decode cX4_count 19 = .ok (.getfield 11, 3) := by decide +kernel
theorem dX4_count_22 : decode cX4_count 22 = .ok (.iload_n 1, 1) := by decide +kernel
theorem dX4_count_23 : decode cX4_count 23 = .ok (.aaload, 1) := by decide +kernel
theorem dX4_count_24 : decode cX4_count 24 = .ok (.getfield 50, 3) := by decide +kernel
theorem dX4_count_27 : decode cX4_count 27 = .ok (.ireturn, 1) := by decide +kernel
theorem dX4_count_28 : decode cX4_count 28 = .ok (.iload_n 1, 1) := by decide +kernel
theorem dX4_count_29 : decode cX4_count 29 = .ok (.lookupswitch 37 #[(4, 27), (5, 32)], 27) := by decide +kernel
theorem dX4_count_56 : decode cX4_count 56 = .ok (.aload_n 0, 1) := by decide +kernel
theorem dX4_count_57 : decode cX4_count 57 = .ok (.invokevirtual 183, 3) := by decide +kernel
theorem dX4_count_60 : decode cX4_count 60 = .ok (.ireturn, 1) := by decide +kernel
theorem dX4_count_61 : decode cX4_count 61 = .ok (.aload_n 0, 1) := by decide +kernel
theorem dX4_count_62 : decode cX4_count 62 = .ok (.invokevirtual 186, 3) := by decide +kernel
theorem dX4_count_65 : decode cX4_count 65 = .ok (.ireturn, 1) := by decide +kernel
theorem dX4_count_66 : decode cX4_count 66 = .ok (.aload_n 0, 1) := by decide +kernel
theorem dX4_count_67 : decode cX4_count 67 = .ok (.getfield 180, 3) := by decide +kernel
theorem dX4_count_70 : decode cX4_count 70 = .ok (.ireturn, 1) := by decide +kernel
theorem dX4_bodyAt_0 : decode cX4_bodyAt 0 = .ok (.iload_n 1, 1) := by decide +kernel
theorem dX4_bodyAt_1 : decode cX4_bodyAt 1 = .ok (.iconst 0, 1) := by decide +kernel
theorem dX4_bodyAt_2 : decode cX4_bodyAt 2 = .ok (.iconst 3, 1) := by decide +kernel
theorem dX4_bodyAt_3 : decode cX4_bodyAt 3 = .ok (.invokestatic 42, 3) := by decide +kernel
theorem dX4_bodyAt_6 : decode cX4_bodyAt 6 = .ok (.ifCond .eq 12, 3) := by decide +kernel
theorem dX4_bodyAt_9 : decode cX4_bodyAt 9 = .ok (.aload_n 0, 1) := by decide +kernel
theorem dX4_bodyAt_10 : decode cX4_bodyAt 10 = .ok (.getfield 11, 3) := by decide +kernel
theorem dX4_bodyAt_13 : decode cX4_bodyAt 13 = .ok (.iload_n 1, 1) := by decide +kernel
theorem dX4_bodyAt_14 : decode cX4_bodyAt 14 = .ok (.aaload, 1) := by decide +kernel
theorem dX4_bodyAt_15 : decode cX4_bodyAt 15 = .ok (.goto 4, 3) := by decide +kernel
theorem dX4_bodyAt_18 : decode cX4_bodyAt 18 = .ok (.aconst_null, 1) := by decide +kernel
theorem dX4_bodyAt_19 : decode cX4_bodyAt 19 = .ok (.areturn, 1) := by decide +kernel
theorem dX4_isWithin_0 : decode cX4_isWithin 0 = .ok (.iload_n 0, 1) := by decide +kernel
theorem dX4_isWithin_1 : decode cX4_isWithin 1 = .ok (.iload_n 1, 1) := by decide +kernel
theorem dX4_isWithin_2 : decode cX4_isWithin 2 = .ok (.if_icmp .lt 12, 3) := by decide +kernel
theorem dX4_isWithin_5 : decode cX4_isWithin 5 = .ok (.iload_n 0, 1) := by decide +kernel
theorem dX4_isWithin_6 : decode cX4_isWithin 6 = .ok (.iload_n 2, 1) := by decide +kernel
theorem dX4_isWithin_7 : decode cX4_isWithin 7 = .ok (.if_icmp .gt 7, 3) := by decide +kernel
theorem dX4_isWithin_10 : decode cX4_isWithin 10 = .ok (.iconst 1, 1) := by decide +kernel
theorem dX4_isWithin_11 : decode cX4_isWithin 11 = .ok (.goto 4, 3) := by decide +kernel
theorem dX4_isWithin_14 : decode cX4_isWithin 14 = .ok (.iconst 0, 1) := by decide +kernel
theorem dX4_isWithin_15 : decode cX4_isWithin 15 = .ok (.ireturn, 1) := by decide +kernel
theorem dX4_isKindAsked_0 : decode cX4_isKindAsked 0 = .ok (.iload_n 0, 1) := by decide +kernel
theorem dX4_isKindAsked_1 : decode cX4_isKindAsked 1 = .ok (.lookupswitch 61 #[(102, 59), (111, 59), (112, 59), (120, 59), (121, 59), (122, 59)], 59) := by decide +kernel
theorem dX4_isKindAsked_60 : decode cX4_isKindAsked 60 = .ok (.iconst 1, 1) := by decide +kernel
theorem dX4_isKindAsked_61 : decode cX4_isKindAsked 61 = .ok (.ireturn, 1) := by decide +kernel
theorem dX4_isKindAsked_62 : decode cX4_isKindAsked 62 = .ok (.iconst 0, 1) := by decide +kernel
theorem dX4_isKindAsked_63 : decode cX4_isKindAsked 63 = .ok (.ireturn, 1) := by decide +kernel
theorem dX4_isSmallPrime_0 : decode cX4_isSmallPrime 0 = .ok (.iload_n 0, 1) := by decide +kernel
theorem dX4_isSmallPrime_1 : decode cX4_isSmallPrime 1 = .ok (.tableswitch 65 2 13 #[63, 63, 65, 63, 65, 63, 65, 65, 65, 63, 65, 63], 63) := by decide +kernel
theorem dX4_isSmallPrime_64 : decode cX4_isSmallPrime 64 = .ok (.iconst 1, 1) := by decide +kernel
theorem dX4_isSmallPrime_65 : decode cX4_isSmallPrime 65 = .ok (.ireturn, 1) := by decide +kernel
theorem dX4_isSmallPrime_66 : decode cX4_isSmallPrime 66 = .ok (.iconst 0, 1) := by decide +kernel
theorem dX4_isSmallPrime_67 : decode cX4_isSmallPrime 67 = .ok (.ireturn, 1) := by decide +kernel
theorem dX4_pointsOfAll_0 : decode cX4_pointsOfAll 0 = .ok (.iconst 0, 1) := by decide +kernel
theorem dX4_pointsOfAll_1 : decode cX4_pointsOfAll 1 = .ok (.istore_n 1, 1) := by decide +kernel
theorem dX4_pointsOfAll_2 : decode cX4_pointsOfAll 2 = .ok (.iconst 0, 1) := by decide +kernel
theorem dX4_pointsOfAll_3 : decode cX4_pointsOfAll 3 = .ok (.istore_n 2, 1) := by decide +kernel
theorem dX4_pointsOfAll_4 : decode cX4_pointsOfAll 4 = .ok (.iload_n 2, 1) := by decide +kernel
theorem dX4_pointsOfAll_5 : decode cX4_pointsOfAll 5 = .ok (.iconst 4, 1) := by decide +kernel
theorem dX4_pointsOfAll_6 : decode cX4_pointsOfAll 6 = .ok (.if_icmp .ge 21, 3) := by decide +kernel
theorem dX4_pointsOfAll_9 : decode cX4_pointsOfAll 9 = .ok (.iload_n 1, 1) := by decide +kernel
theorem dX4_pointsOfAll_10 : decode cX4_pointsOfAll 10 = .ok (.aload_n 0, 1) := by decide +kernel
theorem dX4_pointsOfAll_11 : decode cX4_pointsOfAll 11 = .ok (.getfield 11, 3) := by decide +kernel
theorem dX4_pointsOfAll_14 : decode cX4_pointsOfAll 14 = .ok (.iload_n 2, 1) := by decide +kernel
theorem dX4_pointsOfAll_15 : decode cX4_pointsOfAll 15 = .ok (.aaload, 1) := by decide +kernel
theorem dX4_pointsOfAll_16 : decode cX4_pointsOfAll 16 = .ok (.getfield 50, 3) := by decide +kernel
theorem dX4_pointsOfAll_19 : decode cX4_pointsOfAll 19 = .ok (.iadd, 1) := by decide +kernel
theorem dX4_pointsOfAll_20 : decode cX4_pointsOfAll 20 = .ok (.istore_n 1, 1) := by decide +kernel
theorem dX4_pointsOfAll_21 : decode cX4_pointsOfAll 21 = .ok (.iinc 2 1, 3) := by decide +kernel
theorem dX4_pointsOfAll_24 : decode cX4_pointsOfAll 24 = .ok (.goto (-20), 3) := by decide +kernel
theorem dX4_pointsOfAll_27 : decode cX4_pointsOfAll 27 = .ok (.iload_n 1, 1) := by decide +kernel
theorem dX4_pointsOfAll_28 : decode cX4_pointsOfAll 28 = .ok (.ireturn, 1) := by decide +kernel
theorem dX4_filledBodies_0 : decode cX4_filledBodies 0 = .ok (.iconst 0, 1) := by decide +kernel
theorem dX4_filledBodies_1 : decode cX4_filledBodies 1 = .ok (.istore_n 1, 1) := by decide +kernel
theorem dX4_filledBodies_2 : decode cX4_filledBodies 2 = .ok (.iconst 0, 1) := by decide +kernel
theorem dX4_filledBodies_3 : decode cX4_filledBodies 3 = .ok (.istore_n 2, 1) := by decide +kernel
theorem dX4_filledBodies_4 : decode cX4_filledBodies 4 = .ok (.iload_n 2, 1) := by decide +kernel
theorem dX4_filledBodies_5 : decode cX4_filledBodies 5 = .ok (.iconst 4, 1) := by decide +kernel
theorem dX4_filledBodies_6 : decode cX4_filledBodies 6 = .ok (.if_icmp .ge 27, 3) := by decide +kernel
theorem dX4_filledBodies_9 : decode cX4_filledBodies 9 = .ok (.aload_n 0, 1) := by decide +kernel
theorem dX4_filledBodies_10 : decode cX4_filledBodies 10 = .ok (.getfield 11, 3) := by decide +kernel
theorem dX4_filledBodies_13 : decode cX4_filledBodies 13 = .ok (.iload_n 2, 1) := by decide +kernel
theorem dX4_filledBodies_14 : decode cX4_filledBodies 14 = .ok (.aaload, 1) := by decide +kernel
theorem dX4_filledBodies_15 : decode cX4_filledBodies 15 = .ok (.getfield 50, 3) := by decide +kernel
theorem dX4_filledBodies_18 : decode cX4_filledBodies 18 = .ok (.ifCond .le 9, 3) := by decide +kernel
theorem dX4_filledBodies_21 : decode cX4_filledBodies 21 = .ok (.iload_n 1, 1) := by decide +kernel
theorem dX4_filledBodies_22 : decode cX4_filledBodies 22 = .ok (.iconst 1, 1) := by decide +kernel
theorem dX4_filledBodies_23 : decode cX4_filledBodies 23 = .ok (.iload_n 2, 1) := by decide +kernel
theorem dX4_filledBodies_24 : decode cX4_filledBodies 24 = .ok (.ishl, 1) := by decide +kernel
theorem dX4_filledBodies_25 : decode cX4_filledBodies 25 = .ok (.ior, 1) := by decide +kernel
theorem dX4_filledBodies_26 : decode cX4_filledBodies 26 = .ok (.istore_n 1, 1) := by decide +kernel
theorem dX4_filledBodies_27 : decode cX4_filledBodies 27 = .ok (.iinc 2 1, 3) := by decide +kernel
theorem dX4_filledBodies_30 : decode cX4_filledBodies 30 = .ok (.goto (-26), 3) := by decide +kernel
theorem dX4_filledBodies_33 : decode cX4_filledBodies 33 = .ok (.iload_n 1, 1) := by decide +kernel
theorem dX4_filledBodies_34 : decode cX4_filledBodies 34 = .ok (.ireturn, 1) := by decide +kernel
theorem dX4_mixedOf_0 : decode cX4_mixedOf 0 = .ok (.iload_n 2, 1) := by decide +kernel
theorem dX4_mixedOf_1 : decode cX4_mixedOf 1 = .ok (.ifCond .eq 8, 3) := by decide +kernel
theorem dX4_mixedOf_4 : decode cX4_mixedOf 4 = .ok (.iload 4, 2) := by decide +kernel
theorem dX4_mixedOf_6 : decode cX4_mixedOf 6 = .ok (.ifCond .ne 5, 3) := by decide +kernel
theorem dX4_mixedOf_9 : decode cX4_mixedOf 9 = .ok (.iconst 0, 1) := by decide +kernel
theorem dX4_mixedOf_10 : decode cX4_mixedOf 10 = .ok (.ireturn, 1) := by decide +kernel
theorem dX4_mixedOf_11 : decode cX4_mixedOf 11 = .ok (.aload_n 0, 1) := by decide +kernel
theorem dX4_mixedOf_12 : decode cX4_mixedOf 12 = .ok (.getfield 21, 3) := by decide +kernel
theorem dX4_mixedOf_15 : decode cX4_mixedOf 15 = .ok (.aload_n 1, 1) := by decide +kernel
theorem dX4_mixedOf_16 : decode cX4_mixedOf 16 = .ok (.iload_n 2, 1) := by decide +kernel
theorem dX4_mixedOf_17 : decode cX4_mixedOf 17 = .ok (.aload_n 3, 1) := by decide +kernel
theorem dX4_mixedOf_18 : decode cX4_mixedOf 18 = .ok (.iload 4, 2) := by decide +kernel
theorem dX4_mixedOf_20 : decode cX4_mixedOf 20 = .ok (.invokevirtual 113, 3) := by decide +kernel
theorem dX4_mixedOf_23 : decode cX4_mixedOf 23 = .ok (.invokevirtual 84, 3) := by decide +kernel
theorem dX4_mixedOf_26 : decode cX4_mixedOf 26 = .ok (.istore 5, 2) := by decide +kernel
theorem dX4_mixedOf_28 : decode cX4_mixedOf 28 = .ok (.iload 5, 2) := by decide +kernel
theorem dX4_mixedOf_30 : decode cX4_mixedOf 30 = .ok (.aload_n 0, 1) := by decide +kernel
theorem dX4_mixedOf_31 : decode cX4_mixedOf 31 = .ok (.getfield 21, 3) := by decide +kernel
theorem dX4_mixedOf_34 : decode cX4_mixedOf 34 = .ok (.aload_n 1, 1) := by decide +kernel
theorem dX4_mixedOf_35 : decode cX4_mixedOf 35 = .ok (.iload_n 2, 1) := by decide +kernel
theorem dX4_mixedOf_36 : decode cX4_mixedOf 36 = .ok (.invokevirtual 80, 3) := by decide +kernel
theorem dX4_mixedOf_39 : decode cX4_mixedOf 39 = .ok (.invokevirtual 84, 3) := by decide +kernel
theorem dX4_mixedOf_42 : decode cX4_mixedOf 42 = .ok (.isub, 1) := by decide +kernel
theorem dX4_mixedOf_43 : decode cX4_mixedOf 43 = .ok (.aload_n 0, 1) := by decide +kernel
theorem dX4_mixedOf_44 : decode cX4_mixedOf 44 = .ok (.getfield 21, 3) := by decide +kernel
theorem dX4_mixedOf_47 : decode cX4_mixedOf 47 = .ok (.aload_n 3, 1) := by decide +kernel
theorem dX4_mixedOf_48 : decode cX4_mixedOf 48 = .ok (.iload 4, 2) := by decide +kernel
theorem dX4_mixedOf_50 : decode cX4_mixedOf 50 = .ok (.invokevirtual 80, 3) := by decide +kernel
theorem dX4_mixedOf_53 : decode cX4_mixedOf 53 = .ok (.invokevirtual 84, 3) := by decide +kernel
theorem dX4_mixedOf_56 : decode cX4_mixedOf 56 = .ok (.isub, 1) := by decide +kernel
theorem dX4_mixedOf_57 : decode cX4_mixedOf 57 = .ok (.ireturn, 1) := by decide +kernel
theorem dX4_kindOf_0 : decode cX4_kindOf 0 = .ok (.bipush 10, 2) := by decide +kernel
theorem dX4_kindOf_2 : decode cX4_kindOf 2 = .ok (.aload_n 0, 1) := by decide +kernel
theorem dX4_kindOf_3 : decode cX4_kindOf 3 = .ok (.getfield 21, 3) := by decide +kernel
theorem dX4_kindOf_6 : decode cX4_kindOf 6 = .ok (.aload_n 2, 1) := by decide +kernel
theorem dX4_kindOf_7 : decode cX4_kindOf 7 = .ok (.aload_n 1, 1) := by decide +kernel
theorem dX4_kindOf_8 : decode cX4_kindOf 8 = .ok (.getfield 138, 3) := by decide +kernel
theorem dX4_kindOf_11 : decode cX4_kindOf 11 = .ok (.invokevirtual 80, 3) := by decide +kernel
theorem dX4_kindOf_14 : decode cX4_kindOf 14 = .ok (.invokevirtual 96, 3) := by decide +kernel
theorem dX4_kindOf_17 : decode cX4_kindOf 17 = .ok (.imul, 1) := by decide +kernel
theorem dX4_kindOf_18 : decode cX4_kindOf 18 = .ok (.aload_n 0, 1) := by decide +kernel
theorem dX4_kindOf_19 : decode cX4_kindOf 19 = .ok (.getfield 21, 3) := by decide +kernel
theorem dX4_kindOf_22 : decode cX4_kindOf 22 = .ok (.aload_n 3, 1) := by decide +kernel
theorem dX4_kindOf_23 : decode cX4_kindOf 23 = .ok (.aload_n 1, 1) := by decide +kernel
theorem dX4_kindOf_24 : decode cX4_kindOf 24 = .ok (.getfield 143, 3) := by decide +kernel
theorem dX4_kindOf_27 : decode cX4_kindOf 27 = .ok (.invokevirtual 80, 3) := by decide +kernel
theorem dX4_kindOf_30 : decode cX4_kindOf 30 = .ok (.invokevirtual 96, 3) := by decide +kernel
theorem dX4_kindOf_33 : decode cX4_kindOf 33 = .ok (.iadd, 1) := by decide +kernel
theorem dX4_kindOf_34 : decode cX4_kindOf 34 = .ok (.ireturn, 1) := by decide +kernel
theorem dX4_shareOf_0 : decode cX4_shareOf 0 = .ok (.aload_n 1, 1) := by decide +kernel
theorem dX4_shareOf_1 : decode cX4_shareOf 1 = .ok (.ifnonnull 5, 3) := by decide +kernel
theorem dX4_shareOf_4 : decode cX4_shareOf 4 = .ok (.iconst 0, 1) := by decide +kernel
theorem dX4_shareOf_5 : decode cX4_shareOf 5 = .ok (.ireturn, 1) := by decide +kernel
theorem dX4_shareOf_6 : decode cX4_shareOf 6 = .ok (.iload 4, 2) := by decide +kernel
theorem dX4_shareOf_8 : decode cX4_shareOf 8 = .ok (.lookupswitch 64 #[(1, 28), (2, 49)], 28) := by decide +kernel
theorem dX4_shareOf_36 : decode cX4_shareOf 36 = .ok (.aload_n 0, 1) := by decide +kernel
theorem dX4_shareOf_37 : decode cX4_shareOf 37 = .ok (.getfield 21, 3) := by decide +kernel
theorem dX4_shareOf_40 : decode cX4_shareOf 40 = .ok (.aload_n 2, 1) := by decide +kernel
theorem dX4_shareOf_41 : decode cX4_shareOf 41 = .ok (.aload_n 1, 1) := by decide +kernel
theorem dX4_shareOf_42 : decode cX4_shareOf 42 = .ok (.getfield 138, 3) := by decide +kernel
theorem dX4_shareOf_45 : decode cX4_shareOf 45 = .ok (.aload_n 3, 1) := by decide +kernel
theorem dX4_shareOf_46 : decode cX4_shareOf 46 = .ok (.aload_n 1, 1) := by decide +kernel
theorem dX4_shareOf_47 : decode cX4_shareOf 47 = .ok (.getfield 143, 3) := by decide +kernel
theorem dX4_shareOf_50 : decode cX4_shareOf 50 = .ok (.invokevirtual 113, 3) := by decide +kernel
theorem dX4_shareOf_53 : decode cX4_shareOf 53 = .ok (.invokevirtual 84, 3) := by decide +kernel
theorem dX4_shareOf_56 : decode cX4_shareOf 56 = .ok (.ireturn, 1) := by decide +kernel
theorem dX4_shareOf_57 : decode cX4_shareOf 57 = .ok (.aload_n 0, 1) := by decide +kernel
theorem dX4_shareOf_58 : decode cX4_shareOf 58 = .ok (.aload_n 2, 1) := by decide +kernel
theorem dX4_shareOf_59 : decode cX4_shareOf 59 = .ok (.aload_n 1, 1) := by decide +kernel
theorem dX4_shareOf_60 : decode cX4_shareOf 60 = .ok (.getfield 138, 3) := by decide +kernel
theorem dX4_shareOf_63 : decode cX4_shareOf 63 = .ok (.aload_n 3, 1) := by decide +kernel
theorem dX4_shareOf_64 : decode cX4_shareOf 64 = .ok (.aload_n 1, 1) := by decide +kernel
theorem dX4_shareOf_65 : decode cX4_shareOf 65 = .ok (.getfield 143, 3) := by decide +kernel
theorem dX4_shareOf_68 : decode cX4_shareOf 68 = .ok (.invokevirtual 109, 3) := by decide +kernel
theorem dX4_shareOf_71 : decode cX4_shareOf 71 = .ok (.ireturn, 1) := by decide +kernel
theorem dX4_shareOf_72 : decode cX4_shareOf 72 = .ok (.aload_n 0, 1) := by decide +kernel
theorem dX4_shareOf_73 : decode cX4_shareOf 73 = .ok (.aload_n 1, 1) := by decide +kernel
theorem dX4_shareOf_74 : decode cX4_shareOf 74 = .ok (.aload_n 2, 1) := by decide +kernel
theorem dX4_shareOf_75 : decode cX4_shareOf 75 = .ok (.aload_n 3, 1) := by decide +kernel
theorem dX4_shareOf_76 : decode cX4_shareOf 76 = .ok (.invokevirtual 134, 3) := by decide +kernel
theorem dX4_shareOf_79 : decode cX4_shareOf 79 = .ok (.iload 4, 2) := by decide +kernel
theorem dX4_shareOf_81 : decode cX4_shareOf 81 = .ok (.bipush 100, 2) := by decide +kernel
theorem dX4_shareOf_83 : decode cX4_shareOf 83 = .ok (.isub, 1) := by decide +kernel
theorem dX4_shareOf_84 : decode cX4_shareOf 84 = .ok (.if_icmp .ne 7, 3) := by decide +kernel
theorem dX4_shareOf_87 : decode cX4_shareOf 87 = .ok (.iconst 1, 1) := by decide +kernel
theorem dX4_shareOf_88 : decode cX4_shareOf 88 = .ok (.goto 4, 3) := by decide +kernel
theorem dX4_shareOf_91 : decode cX4_shareOf 91 = .ok (.iconst 0, 1) := by decide +kernel
theorem dX4_shareOf_92 : decode cX4_shareOf 92 = .ok (.ireturn, 1) := by decide +kernel
theorem dX4_fillPowers_0 : decode cX4_fillPowers 0 = .ok (.iload_n 1, 1) := by decide +kernel
theorem dX4_fillPowers_1 : decode cX4_fillPowers 1 = .ok (.iconst 1, 1) := by decide +kernel
theorem dX4_fillPowers_2 : decode cX4_fillPowers 2 = .ok (.bipush 13, 2) := by decide +kernel
theorem dX4_fillPowers_4 : decode cX4_fillPowers 4 = .ok (.invokestatic 42, 3) := by decide +kernel
theorem dX4_fillPowers_7 : decode cX4_fillPowers 7 = .ok (.ifCond .ne 4, 3) := by decide +kernel
theorem dX4_fillPowers_10 : decode cX4_fillPowers 10 = .ok (.return_, 1) := by decide +kernel
theorem dX4_fillPowers_11 : decode cX4_fillPowers 11 = .ok (.iconst 1, 1) := by decide +kernel
theorem dX4_fillPowers_12 : decode cX4_fillPowers 12 = .ok (.istore_n 2, 1) := by decide +kernel
theorem dX4_fillPowers_13 : decode cX4_fillPowers 13 = .ok (.iload_n 2, 1) := by decide +kernel
theorem dX4_fillPowers_14 : decode cX4_fillPowers 14 = .ok (.iload_n 1, 1) := by decide +kernel
theorem dX4_fillPowers_15 : decode cX4_fillPowers 15 = .ok (.if_icmp .ge 54, 3) := by decide +kernel
theorem dX4_fillPowers_18 : decode cX4_fillPowers 18 = .ok (.aload_n 0, 1) := by decide +kernel
theorem dX4_fillPowers_19 : decode cX4_fillPowers 19 = .ok (.getfield 34, 3) := by decide +kernel
theorem dX4_fillPowers_22 : decode cX4_fillPowers 22 = .ok (.iload_n 2, 1) := by decide +kernel
theorem dX4_fillPowers_23 : decode cX4_fillPowers 23 = .ok (.aaload, 1) := by decide +kernel
theorem dX4_fillPowers_24 : decode cX4_fillPowers 24 = .ok (.iconst 0, 1) := by decide +kernel
theorem dX4_fillPowers_25 : decode cX4_fillPowers 25 = .ok (.iconst 1, 1) := by decide +kernel
theorem dX4_fillPowers_26 : decode cX4_fillPowers 26 = .ok (.iastore, 1) := by decide +kernel
theorem dX4_fillPowers_27 : decode cX4_fillPowers 27 = .ok (.iconst 1, 1) := by decide +kernel
theorem dX4_fillPowers_28 : decode cX4_fillPowers 28 = .ok (.istore_n 3, 1) := by decide +kernel
theorem dX4_fillPowers_29 : decode cX4_fillPowers 29 = .ok (.iload_n 3, 1) := by decide +kernel
theorem dX4_fillPowers_30 : decode cX4_fillPowers 30 = .ok (.bipush 12, 2) := by decide +kernel
theorem dX4_fillPowers_32 : decode cX4_fillPowers 32 = .ok (.if_icmp .gt 31, 3) := by decide +kernel
theorem dX4_fillPowers_35 : decode cX4_fillPowers 35 = .ok (.aload_n 0, 1) := by decide +kernel
theorem dX4_fillPowers_36 : decode cX4_fillPowers 36 = .ok (.getfield 34, 3) := by decide +kernel
theorem dX4_fillPowers_39 : decode cX4_fillPowers 39 = .ok (.iload_n 2, 1) := by decide +kernel
theorem dX4_fillPowers_40 : decode cX4_fillPowers 40 = .ok (.aaload, 1) := by decide +kernel
theorem dX4_fillPowers_41 : decode cX4_fillPowers 41 = .ok (.iload_n 3, 1) := by decide +kernel
theorem dX4_fillPowers_42 : decode cX4_fillPowers 42 = .ok (.aload_n 0, 1) := by decide +kernel
theorem dX4_fillPowers_43 : decode cX4_fillPowers 43 = .ok (.getfield 34, 3) := by decide +kernel
theorem dX4_fillPowers_46 : decode cX4_fillPowers 46 = .ok (.iload_n 2, 1) := by decide +kernel
theorem dX4_fillPowers_47 : decode cX4_fillPowers 47 = .ok (.aaload, 1) := by decide +kernel
theorem dX4_fillPowers_48 : decode cX4_fillPowers 48 = .ok (.iload_n 3, 1) := by decide +kernel
theorem dX4_fillPowers_49 : decode cX4_fillPowers 49 = .ok (.iconst 1, 1) := by decide +kernel
theorem dX4_fillPowers_50 : decode cX4_fillPowers 50 = .ok (.isub, 1) := by decide +kernel
theorem dX4_fillPowers_51 : decode cX4_fillPowers 51 = .ok (.iaload, 1) := by decide +kernel
theorem dX4_fillPowers_52 : decode cX4_fillPowers 52 = .ok (.iload_n 2, 1) := by decide +kernel
theorem dX4_fillPowers_53 : decode cX4_fillPowers 53 = .ok (.imul, 1) := by decide +kernel
theorem dX4_fillPowers_54 : decode cX4_fillPowers 54 = .ok (.iload_n 1, 1) := by decide +kernel
theorem dX4_fillPowers_55 : decode cX4_fillPowers 55 = .ok (.irem, 1) := by decide +kernel
theorem dX4_fillPowers_56 : decode cX4_fillPowers 56 = .ok (.iastore, 1) := by decide +kernel
theorem dX4_fillPowers_57 : decode cX4_fillPowers 57 = .ok (.iinc 3 1, 3) := by decide +kernel
theorem dX4_fillPowers_60 : decode cX4_fillPowers 60 = .ok (.goto (-31), 3) := by decide +kernel
theorem dX4_fillPowers_63 : decode cX4_fillPowers 63 = .ok (.iinc 2 1, 3) := by decide +kernel
theorem dX4_fillPowers_66 : decode cX4_fillPowers 66 = .ok (.goto (-53), 3) := by decide +kernel
theorem dX4_fillPowers_69 : decode cX4_fillPowers 69 = .ok (.return_, 1) := by decide +kernel
theorem dX4_isRoot_0 : decode cX4_isRoot 0 = .ok (.iload 4, 2) := by decide +kernel
theorem dX4_isRoot_2 : decode cX4_isRoot 2 = .ok (.iconst 1, 1) := by decide +kernel
theorem dX4_isRoot_3 : decode cX4_isRoot 3 = .ok (.bipush 13, 2) := by decide +kernel
theorem dX4_isRoot_5 : decode cX4_isRoot 5 = .ok (.invokestatic 42, 3) := by decide +kernel
theorem dX4_isRoot_8 : decode cX4_isRoot 8 = .ok (.ifCond .ne 5, 3) := by decide +kernel
theorem dX4_isRoot_11 : decode cX4_isRoot 11 = .ok (.iconst 0, 1) := by decide +kernel
theorem dX4_isRoot_12 : decode cX4_isRoot 12 = .ok (.ireturn, 1) := by decide +kernel
theorem dX4_isRoot_13 : decode cX4_isRoot 13 = .ok (.iconst 0, 1) := by decide +kernel
theorem dX4_isRoot_14 : decode cX4_isRoot 14 = .ok (.istore 5, 2) := by decide +kernel
theorem dX4_isRoot_16 : decode cX4_isRoot 16 = .ok (.iconst 0, 1) := by decide +kernel
theorem dX4_isRoot_17 : decode cX4_isRoot 17 = .ok (.istore 6, 2) := by decide +kernel
theorem dX4_isRoot_19 : decode cX4_isRoot 19 = .ok (.iload 6, 2) := by decide +kernel
theorem dX4_isRoot_21 : decode cX4_isRoot 21 = .ok (.aload_n 1, 1) := by decide +kernel
theorem dX4_isRoot_22 : decode cX4_isRoot 22 = .ok (.getfield 50, 3) := by decide +kernel
theorem dX4_isRoot_25 : decode cX4_isRoot 25 = .ok (.if_icmp .ge 51, 3) := by decide +kernel
theorem dX4_isRoot_28 : decode cX4_isRoot 28 = .ok (.iload 5, 2) := by decide +kernel
theorem dX4_isRoot_30 : decode cX4_isRoot 30 = .ok (.aload_n 1, 1) := by decide +kernel
theorem dX4_isRoot_31 : decode cX4_isRoot 31 = .ok (.getfield 58, 3) := by decide +kernel
theorem dX4_isRoot_34 : decode cX4_isRoot 34 = .ok (.iload 6, 2) := by decide +kernel
theorem dX4_isRoot_36 : decode cX4_isRoot 36 = .ok (.iaload, 1) := by decide +kernel
theorem dX4_isRoot_37 : decode cX4_isRoot 37 = .ok (.aload_n 0, 1) := by decide +kernel
theorem dX4_isRoot_38 : decode cX4_isRoot 38 = .ok (.getfield 34, 3) := by decide +kernel
theorem dX4_isRoot_41 : decode cX4_isRoot 41 = .ok (.iload_n 2, 1) := by decide +kernel
theorem dX4_isRoot_42 : decode cX4_isRoot 42 = .ok (.aaload, 1) := by decide +kernel
theorem dX4_isRoot_43 : decode cX4_isRoot 43 = .ok (.aload_n 1, 1) := by decide +kernel
theorem dX4_isRoot_44 : decode cX4_isRoot 44 = .ok (.getfield 70, 3) := by decide +kernel
theorem dX4_isRoot_47 : decode cX4_isRoot 47 = .ok (.iload 6, 2) := by decide +kernel
theorem dX4_isRoot_49 : decode cX4_isRoot 49 = .ok (.iaload, 1) := by decide +kernel
theorem dX4_isRoot_50 : decode cX4_isRoot 50 = .ok (.iaload, 1) := by decide +kernel
theorem dX4_isRoot_51 : decode cX4_isRoot 51 = .ok (.imul, 1) := by decide +kernel
theorem dX4_isRoot_52 : decode cX4_isRoot 52 = .ok (.aload_n 0, 1) := by decide +kernel
theorem dX4_isRoot_53 : decode cX4_isRoot 53 = .ok (.getfield 34, 3) := by decide +kernel
theorem dX4_isRoot_56 : decode cX4_isRoot 56 = .ok (.iload_n 3, 1) := by decide +kernel
theorem dX4_isRoot_57 : decode cX4_isRoot 57 = .ok (.aaload, 1) := by decide +kernel
theorem dX4_isRoot_58 : decode cX4_isRoot 58 = .ok (.aload_n 1, 1) := by decide +kernel
theorem dX4_isRoot_59 : decode cX4_isRoot 59 = .ok (.getfield 73, 3) := by decide +kernel
theorem dX4_isRoot_62 : decode cX4_isRoot 62 = .ok (.iload 6, 2) := by decide +kernel
theorem dX4_isRoot_64 : decode cX4_isRoot 64 = .ok (.iaload, 1) := by decide +kernel
theorem dX4_isRoot_65 : decode cX4_isRoot 65 = .ok (.iaload, 1) := by decide +kernel
theorem dX4_isRoot_66 : decode cX4_isRoot 66 = .ok (.imul, 1) := by decide +kernel
theorem dX4_isRoot_67 : decode cX4_isRoot 67 = .ok (.iadd, 1) := by decide +kernel
theorem dX4_isRoot_68 : decode cX4_isRoot 68 = .ok (.istore 5, 2) := by decide +kernel
theorem dX4_isRoot_70 : decode cX4_isRoot 70 = .ok (.iinc 6 1, 3) := by decide +kernel
theorem dX4_isRoot_73 : decode cX4_isRoot 73 = .ok (.goto (-54), 3) := by decide +kernel
theorem dX4_isRoot_76 : decode cX4_isRoot 76 = .ok (.iload 5, 2) := by decide +kernel
theorem dX4_isRoot_78 : decode cX4_isRoot 78 = .ok (.iload 4, 2) := by decide +kernel
theorem dX4_isRoot_80 : decode cX4_isRoot 80 = .ok (.irem, 1) := by decide +kernel
theorem dX4_isRoot_81 : decode cX4_isRoot 81 = .ok (.ifCond .ne 7, 3) := by decide +kernel
theorem dX4_isRoot_84 : decode cX4_isRoot 84 = .ok (.iconst 1, 1) := by decide +kernel
theorem dX4_isRoot_85 : decode cX4_isRoot 85 = .ok (.goto 4, 3) := by decide +kernel
theorem dX4_isRoot_88 : decode cX4_isRoot 88 = .ok (.iconst 0, 1) := by decide +kernel
theorem dX4_isRoot_89 : decode cX4_isRoot 89 = .ok (.ireturn, 1) := by decide +kernel
theorem dX4_commonDivisor_0 : decode cX4_commonDivisor 0 = .ok (.iload_n 0, 1) := by decide +kernel
theorem dX4_commonDivisor_1 : decode cX4_commonDivisor 1 = .ok (.istore_n 2, 1) := by decide +kernel
theorem dX4_commonDivisor_2 : decode cX4_commonDivisor 2 = .ok (.iload_n 1, 1) := by decide +kernel
theorem dX4_commonDivisor_3 : decode cX4_commonDivisor 3 = .ok (.istore_n 3, 1) := by decide +kernel
theorem dX4_commonDivisor_4 : decode cX4_commonDivisor 4 = .ok (.iconst 0, 1) := by decide +kernel
theorem dX4_commonDivisor_5 : decode cX4_commonDivisor 5 = .ok (.istore 4, 2) := by decide +kernel
theorem dX4_commonDivisor_7 : decode cX4_commonDivisor 7 = .ok (.iload 4, 2) := by decide +kernel
theorem dX4_commonDivisor_9 : decode cX4_commonDivisor 9 = .ok (.bipush 64, 2) := by decide +kernel
theorem dX4_commonDivisor_11 : decode cX4_commonDivisor 11 = .ok (.if_icmp .ge 23, 3) := by decide +kernel
theorem dX4_commonDivisor_14 : decode cX4_commonDivisor 14 = .ok (.iload_n 3, 1) := by decide +kernel
theorem dX4_commonDivisor_15 : decode cX4_commonDivisor 15 = .ok (.ifCond .eq 19, 3) := by decide +kernel
theorem dX4_commonDivisor_18 : decode cX4_commonDivisor 18 = .ok (.iload_n 2, 1) := by decide +kernel
theorem dX4_commonDivisor_19 : decode cX4_commonDivisor 19 = .ok (.iload_n 3, 1) := by decide +kernel
theorem dX4_commonDivisor_20 : decode cX4_commonDivisor 20 = .ok (.irem, 1) := by decide +kernel
theorem dX4_commonDivisor_21 : decode cX4_commonDivisor 21 = .ok (.istore 5, 2) := by decide +kernel
theorem dX4_commonDivisor_23 : decode cX4_commonDivisor 23 = .ok (.iload_n 3, 1) := by decide +kernel
theorem dX4_commonDivisor_24 : decode cX4_commonDivisor 24 = .ok (.istore_n 2, 1) := by decide +kernel
theorem dX4_commonDivisor_25 : decode cX4_commonDivisor 25 = .ok (.iload 5, 2) := by decide +kernel
theorem dX4_commonDivisor_27 : decode cX4_commonDivisor 27 = .ok (.istore_n 3, 1) := by decide +kernel
theorem dX4_commonDivisor_28 : decode cX4_commonDivisor 28 = .ok (.iinc 4 1, 3) := by decide +kernel
theorem dX4_commonDivisor_31 : decode cX4_commonDivisor 31 = .ok (.goto (-24), 3) := by decide +kernel
theorem dX4_commonDivisor_34 : decode cX4_commonDivisor 34 = .ok (.iload_n 2, 1) := by decide +kernel
theorem dX4_commonDivisor_35 : decode cX4_commonDivisor 35 = .ok (.ireturn, 1) := by decide +kernel
theorem dX5_init_0 : decode cX5_init 0 = .ok (.aload_n 0, 1) := by decide +kernel
theorem dX5_init_1 : decode cX5_init 1 = .ok (.invokespecial 1, 3) := by decide +kernel
theorem dX5_init_4 : decode cX5_init 4 = .ok (.aload_n 0, 1) := by decide +kernel
theorem dX5_init_5 : decode cX5_init 5 = .ok (.bipush 88, 2) := by decide +kernel
theorem dX5_init_7 : decode cX5_init 7 = .ok (.newarray .int, 2) := by decide +kernel
theorem dX5_init_9 : decode cX5_init 9 = .ok (.putfield 7, 3) := by decide +kernel
theorem dX5_init_12 : decode cX5_init 12 = .ok (.aload_n 0, 1) := by decide +kernel
theorem dX5_init_13 : decode cX5_init 13 = .ok (.sipush 176, 3) := by decide +kernel
theorem dX5_init_16 : decode cX5_init 16 = .ok (.newarray .int, 2) := by decide +kernel
theorem dX5_init_18 : decode cX5_init 18 = .ok (.putfield 13, 3) := by decide +kernel
theorem dX5_init_21 : decode cX5_init 21 = .ok (.aload_n 0, 1) := by decide +kernel
theorem dX5_init_22 : decode cX5_init 22 = .ok (.iconst 2, 1) := by decide +kernel
theorem dX5_init_23 : decode cX5_init 23 = .ok (.newarray .boolean, 2) := by decide +kernel
theorem dX5_init_25 : decode cX5_init 25 = .ok (.putfield 16, 3) := by decide +kernel
theorem dX5_init_28 : decode cX5_init 28 = .ok (.aload_n 0, 1) := by decide +kernel
theorem dX5_init_29 : decode cX5_init 29 = .ok (.sipush 128, 3) := by decide +kernel
theorem dX5_init_32 : decode cX5_init 32 = .ok (.newarray .int, 2) := by decide +kernel
theorem dX5_init_34 : decode cX5_init 34 = .ok (.putfield 20, 3) := by decide +kernel
theorem dX5_init_37 : decode cX5_init 37 = .ok (.aload_n 0, 1) := by decide +kernel
theorem dX5_init_38 : decode cX5_init 38 = .ok (.sipush 128, 3) := by decide +kernel
theorem dX5_init_41 : decode cX5_init 41 = .ok (.newarray .int, 2) := by decide +kernel
theorem dX5_init_43 : decode cX5_init 43 = .ok (.putfield 23, 3) := by decide +kernel
theorem dX5_init_46 : decode cX5_init 46 = .ok (.aload_n 0, 1) := by decide +kernel
theorem dX5_init_47 : decode cX5_init 47 = .ok (.sipush 128, 3) := by decide +kernel
theorem dX5_init_50 : decode cX5_init 50 = .ok (.newarray .int, 2) := by decide +kernel
theorem dX5_init_52 : decode cX5_init 52 = .ok (.putfield 26, 3) := by decide +kernel
theorem dX5_init_55 : decode cX5_init 55 = .ok (.aload_n 0, 1) := by decide +kernel
theorem dX5_init_56 : decode cX5_init 56 = .ok (.sipush 512, 3) := by decide +kernel
theorem dX5_init_59 : decode cX5_init 59 = .ok (.newarray .int, 2) := by decide +kernel
theorem dX5_init_61 : decode cX5_init 61 = .ok (.putfield 29, 3) := by decide +kernel
theorem dX5_init_64 : decode cX5_init 64 = .ok (.aload_n 0, 1) := by decide +kernel
theorem dX5_init_65 : decode cX5_init 65 = .ok (.sipush 512, 3) := by decide +kernel
theorem dX5_init_68 : decode cX5_init 68 = .ok (.newarray .int, 2) := by decide +kernel
theorem dX5_init_70 : decode cX5_init 70 = .ok (.putfield 32, 3) := by decide +kernel
theorem dX5_init_73 : decode cX5_init 73 = .ok (.aload_n 0, 1) := by decide +kernel
theorem dX5_init_74 : decode cX5_init 74 = .ok (.sipush 512, 3) := by decide +kernel
theorem dX5_init_77 : decode cX5_init 77 = .ok (.newarray .int, 2) := by decide +kernel
theorem dX5_init_79 : decode cX5_init 79 = .ok (.putfield 35, 3) := by decide +kernel
theorem dX5_init_82 : decode cX5_init 82 = .ok (.aload_n 0, 1) := by decide +kernel
theorem dX5_init_83 : decode cX5_init 83 = .ok (.bipush 49, 2) := by decide +kernel
theorem dX5_init_85 : decode cX5_init 85 = .ok (.newarray .int, 2) := by decide +kernel
theorem dX5_init_87 : decode cX5_init 87 = .ok (.putfield 38, 3) := by decide +kernel
theorem dX5_init_90 : decode cX5_init 90 = .ok (.aload_n 0, 1) := by decide +kernel
theorem dX5_init_91 : decode cX5_init 91 = .ok (.bipush 49, 2) := by decide +kernel
theorem dX5_init_93 : decode cX5_init 93 = .ok (.newarray .int, 2) := by decide +kernel
theorem dX5_init_95 : decode cX5_init 95 = .ok (.putfield 41, 3) := by decide +kernel
theorem dX5_init_98 : decode cX5_init 98 = .ok (.return_, 1) := by decide +kernel
theorem dX5_in_0 : decode cX5_in 0 = .ok (.iload_n 0, 1) := by decide +kernel
theorem dX5_in_1 : decode cX5_in 1 = .ok (.iload_n 1, 1) := by decide +kernel
theorem dX5_in_2 : decode cX5_in 2 = .ok (.if_icmp .lt 12, 3) := by decide +kernel
theorem dX5_in_5 : decode cX5_in 5 = .ok (.iload_n 0, 1) := by decide +kernel
theorem dX5_in_6 : decode cX5_in 6 = .ok (.iload_n 2, 1) := by decide +kernel
theorem dX5_in_7 : decode cX5_in 7 = .ok (.if_icmp .gt 7, 3) := by decide +kernel
theorem dX5_in_10 : decode cX5_in 10 = .ok (.iconst 1, 1) := by decide +kernel
theorem dX5_in_11 : decode cX5_in 11 = .ok (.goto 4, 3) := by decide +kernel
theorem dX5_in_14 : decode cX5_in 14 = .ok (.iconst 0, 1) := by decide +kernel
theorem dX5_in_15 : decode cX5_in 15 = .ok (.ireturn, 1) := by decide +kernel
theorem dX5_isBody_0 : decode cX5_isBody 0 = .ok (.iload_n 0, 1) := by decide +kernel
theorem dX5_isBody_1 : decode cX5_isBody 1 = .ok (.iconst 0, 1) := by decide +kernel
theorem dX5_isBody_2 : decode cX5_isBody 2 = .ok (.iconst 3, 1) := by decide +kernel
theorem dX5_isBody_3 : decode cX5_isBody 3 = .ok (.invokestatic 44, 3) := by decide +kernel
theorem dX5_isBody_6 : decode cX5_isBody 6 = .ok (.ireturn, 1) := by decide +kernel
theorem dX5_has_0 : decode cX5_has 0 = .ok (.iload_n 0, 1) := by decide +kernel
theorem dX5_has_1 : decode cX5_has 1 = .ok (.iload_n 1, 1) := by decide +kernel
theorem dX5_has_2 : decode cX5_has 2 = .ok (.ishr, 1) := by decide +kernel
theorem dX5_has_3 : decode cX5_has 3 = .ok (.iconst 1, 1) := by decide +kernel
theorem dX5_has_4 : decode cX5_has 4 = .ok (.iand, 1) := by decide +kernel
theorem dX5_has_5 : decode cX5_has 5 = .ok (.iconst 1, 1) := by decide +kernel
theorem dX5_has_6 : decode cX5_has 6 = .ok (.if_icmp .ne 7, 3) := by decide +kernel
theorem dX5_has_9 : decode cX5_has 9 = .ok (.iconst 1, 1) := by decide +kernel
theorem dX5_has_10 : decode cX5_has 10 = .ok (.goto 4, 3) := by decide +kernel
theorem dX5_has_13 : decode cX5_has 13 = .ok (.iconst 0, 1) := by decide +kernel
theorem dX5_has_14 : decode cX5_has 14 = .ok (.ireturn, 1) := by decide +kernel
theorem dX5_many_0 : decode cX5_many 0 = .ok (.aload_n 0, 1) := by decide +kernel
theorem dX5_many_1 : decode cX5_many 1 = .ok (.getfield 7, 3) := by decide +kernel
theorem dX5_many_4 : decode cX5_many 4 = .ok (.iconst 0, 1) := by decide +kernel
theorem dX5_many_5 : decode cX5_many 5 = .ok (.iload_n 1, 1) := by decide +kernel
theorem dX5_many_6 : decode cX5_many 6 = .ok (.iadd, 1) := by decide +kernel
theorem dX5_many_7 : decode cX5_many 7 = .ok (.iaload, 1) := by decide +kernel
theorem dX5_many_8 : decode cX5_many 8 = .ok (.ireturn, 1) := by decide +kernel
theorem dX5_at_0 : decode cX5_at 0 = .ok (.iconst 4, 1) := by decide +kernel
theorem dX5_at_1 : decode cX5_at 1 = .ok (.bipush 21, 2) := by decide +kernel
theorem dX5_at_3 : decode cX5_at 3 = .ok (.iload_n 0, 1) := by decide +kernel
theorem dX5_at_4 : decode cX5_at 4 = .ok (.imul, 1) := by decide +kernel
theorem dX5_at_5 : decode cX5_at 5 = .ok (.iadd, 1) := by decide +kernel
theorem dX5_at_6 : decode cX5_at 6 = .ok (.iconst 3, 1) := by decide +kernel
theorem dX5_at_7 : decode cX5_at 7 = .ok (.iload_n 1, 1) := by decide +kernel
theorem dX5_at_8 : decode cX5_at 8 = .ok (.imul, 1) := by decide +kernel
theorem dX5_at_9 : decode cX5_at 9 = .ok (.iadd, 1) := by decide +kernel
theorem dX5_at_10 : decode cX5_at 10 = .ok (.iload_n 2, 1) := by decide +kernel
theorem dX5_at_11 : decode cX5_at 11 = .ok (.iadd, 1) := by decide +kernel
theorem dX5_at_12 : decode cX5_at 12 = .ok (.ireturn, 1) := by decide +kernel
theorem dX5_of_0 : decode cX5_of 0 = .ok (.aload_n 0, 1) := by decide +kernel
theorem dX5_of_1 : decode cX5_of 1 = .ok (.getfield 7, 3) := by decide +kernel
theorem dX5_of_4 : decode cX5_of 4 = .ok (.iload_n 1, 1) := by decide +kernel
theorem dX5_of_5 : decode cX5_of 5 = .ok (.iload_n 2, 1) := by decide +kernel
theorem dX5_of_6 : decode cX5_of 6 = .ok (.iload_n 3, 1) := by decide +kernel
theorem dX5_of_7 : decode cX5_of 7 = .ok (.invokestatic 48, 3) := by decide +kernel
theorem dX5_of_10 : decode cX5_of 10 = .ok (.iaload, 1) := by decide +kernel
theorem dX5_of_11 : decode cX5_of 11 = .ok (.ireturn, 1) := by decide +kernel
theorem dX5_put_0 : decode cX5_put 0 = .ok (.iload_n 1, 1) := by decide +kernel
theorem dX5_put_1 : decode cX5_put 1 = .ok (.invokestatic 52, 3) := by decide +kernel
theorem dX5_put_4 : decode cX5_put 4 = .ok (.ifCond .ne 5, 3) := by decide +kernel
theorem dX5_put_7 : decode cX5_put 7 = .ok (.iconst (-1), 1) := by decide +kernel
theorem dX5_put_8 : decode cX5_put 8 = .ok (.ireturn, 1) := by decide +kernel
theorem dX5_put_9 : decode cX5_put 9 = .ok (.iload_n 2, 1) := by decide +kernel
theorem dX5_put_10 : decode cX5_put 10 = .ok (.iconst 0, 1) := by decide +kernel
theorem dX5_put_11 : decode cX5_put 11 = .ok (.bipush 12, 2) := by decide +kernel
theorem dX5_put_13 : decode cX5_put 13 = .ok (.invokestatic 44, 3) := by decide +kernel
theorem dX5_put_16 : decode cX5_put 16 = .ok (.ifCond .eq 24, 3) := by decide +kernel
theorem dX5_put_19 : decode cX5_put 19 = .ok (.iload_n 3, 1) := by decide +kernel
theorem dX5_put_20 : decode cX5_put 20 = .ok (.iconst 0, 1) := by decide +kernel
theorem dX5_put_21 : decode cX5_put 21 = .ok (.bipush 12, 2) := by decide +kernel
theorem dX5_put_23 : decode cX5_put 23 = .ok (.invokestatic 44, 3) := by decide +kernel
theorem dX5_put_26 : decode cX5_put 26 = .ok (.ifCond .eq 14, 3) := by decide +kernel
theorem dX5_put_29 : decode cX5_put 29 = .ok (.iload 4, 2) := by decide +kernel
theorem dX5_put_31 : decode cX5_put 31 = .ok (.iconst 0, 1) := by decide +kernel
theorem dX5_put_32 : decode cX5_put 32 = .ok (.bipush 50, 2) := by decide +kernel
theorem dX5_put_34 : decode cX5_put 34 = .ok (.invokestatic 44, 3) := by decide +kernel
theorem dX5_put_37 : decode cX5_put 37 = .ok (.ifCond .ne 6, 3) := by decide +kernel
theorem dX5_put_40 : decode cX5_put 40 = .ok (.bipush (-2), 2) := by decide +kernel
theorem dX5_put_42 : decode cX5_put 42 = .ok (.ireturn, 1) := by decide +kernel
theorem dX5_put_43 : decode cX5_put 43 = .ok (.iconst 0, 1) := by decide +kernel
theorem dX5_put_44 : decode cX5_put 44 = .ok (.istore 5, 2) := by decide +kernel
theorem dX5_put_46 : decode cX5_put 46 = .ok (.iload 5, 2) := by decide +kernel
theorem dX5_put_48 : decode cX5_put 48 = .ok (.aload_n 0, 1) := by decide +kernel
theorem dX5_put_49 : decode cX5_put 49 = .ok (.iload_n 1, 1) := by decide +kernel
theorem dX5_put_50 : decode cX5_put 50 = .ok (.invokevirtual 56, 3) := by decide +kernel
theorem dX5_put_53 : decode cX5_put 53 = .ok (.if_icmp .ge 33, 3) := by decide +kernel
theorem dX5_put_56 : decode cX5_put 56 = .ok (.aload_n 0, 1) := by decide +kernel
theorem dX5_put_57 : decode cX5_put 57 = .ok (.iload_n 1, 1) := by decide +kernel
theorem dX5_put_58 : decode cX5_put 58 = .ok (.iload 5, 2) := by decide +kernel
theorem dX5_put_60 : decode cX5_put 60 = .ok (.iconst 0, 1) := by decide +kernel
theorem dX5_put_61 : decode cX5_put 61 = .ok (.invokevirtual 60, 3) := by decide +kernel
theorem dX5_put_64 : decode cX5_put 64 = .ok (.iload_n 2, 1) := by decide +kernel
theorem dX5_put_65 : decode cX5_put 65 = .ok (.if_icmp .ne 15, 3) := by decide +kernel
theorem dX5_put_68 : decode cX5_put 68 = .ok (.aload_n 0, 1) := by decide +kernel
theorem dX5_put_69 : decode cX5_put 69 = .ok (.iload_n 1, 1) := by decide +kernel
theorem dX5_put_70 : decode cX5_put 70 = .ok (.iload 5, 2) := by decide +kernel
theorem dX5_put_72 : decode cX5_put 72 = .ok (.iconst 1, 1) := by decide +kernel
theorem dX5_put_73 : decode cX5_put 73 = .ok (.invokevirtual 60, 3) := by decide +kernel
theorem dX5_put_76 : decode cX5_put 76 = .ok (.iload_n 3, 1) := by decide +kernel
theorem dX5_put_77 : decode cX5_put 77 = .ok (.if_icmp .eq 9, 3) := by decide +kernel
theorem dX5_put_80 : decode cX5_put 80 = .ok (.iinc 5 1, 3) := by decide +kernel
theorem dX5_put_83 : decode cX5_put 83 = .ok (.goto (-37), 3) := by decide +kernel
theorem dX5_put_86 : decode cX5_put 86 = .ok (.iload 5, 2) := by decide +kernel
theorem dX5_put_88 : decode cX5_put 88 = .ok (.bipush 7, 2) := by decide +kernel
theorem dX5_put_90 : decode cX5_put 90 = .ok (.if_icmp .ne 6, 3) := by decide +kernel
theorem dX5_put_93 : decode cX5_put 93 = .ok (.bipush (-4), 2) := by decide +kernel
theorem dX5_put_95 : decode cX5_put 95 = .ok (.ireturn, 1) := by decide +kernel
theorem dX5_put_96 : decode cX5_put 96 = .ok (.aload_n 0, 1) := by decide +kernel
theorem dX5_put_97 : decode cX5_put 97 = .ok (.getfield 7, 3) := by decide +kernel
theorem dX5_put_100 : decode cX5_put 100 = .ok (.iconst 0, 1) := by decide +kernel
theorem dX5_put_101 : decode cX5_put 101 = .ok (.iload_n 1, 1) := by decide +kernel
theorem dX5_put_102 : decode cX5_put 102 = .ok (.iadd, 1) := by decide +kernel
theorem dX5_put_103 : decode cX5_put 103 = .ok (.iload 5, 2) := by decide +kernel
theorem dX5_put_105 : decode cX5_put 105 = .ok (.aload_n 0, 1) := by decide +kernel
theorem dX5_put_106 : decode cX5_put 106 = .ok (.iload_n 1, 1) := by decide +kernel
theorem dX5_put_107 : decode cX5_put 107 = .ok (.invokevirtual 56, 3) := by decide +kernel
theorem dX5_put_110 : decode cX5_put 110 = .ok (.if_icmp .ne 10, 3) := by decide +kernel
theorem dX5_put_113 : decode cX5_put 113 = .ok (.iload 5, 2) := by decide +kernel
theorem dX5_put_115 : decode cX5_put 115 = .ok (.iconst 1, 1) := by decide +kernel
theorem dX5_put_116 : decode cX5_put 116 = .ok (.iadd, 1) := by decide +kernel
theorem dX5_put_117 : decode cX5_put 117 = .ok (.goto 8, 3) := by decide +kernel
theorem dX5_put_120 : decode cX5_put 120 = .ok (.aload_n 0, 1) := by decide +kernel
theorem dX5_put_121 : decode cX5_put 121 = .ok (.iload_n 1, 1) := by decide +kernel
theorem dX5_put_122 : decode cX5_put 122 = .ok (.invokevirtual 56, 3) := by decide +kernel
theorem dX5_put_125 : decode cX5_put 125 = .ok (.iastore, 1) := by decide +kernel
theorem dX5_put_126 : decode cX5_put 126 = .ok (.aload_n 0, 1) := by decide +kernel
theorem dX5_put_127 : decode cX5_put 127 = .ok (.getfield 7, 3) := by decide +kernel
theorem dX5_put_130 : decode cX5_put 130 = .ok (.iload_n 1, 1) := by decide +kernel
theorem dX5_put_131 : decode cX5_put 131 = .ok (.iload 5, 2) := by decide +kernel
theorem dX5_put_133 : decode cX5_put 133 = .ok (.iconst 0, 1) := by decide +kernel
theorem dX5_put_134 : decode cX5_put 134 = .ok (.invokestatic 48, 3) := by decide +kernel
theorem dX5_put_137 : decode cX5_put 137 = .ok (.iload_n 2, 1) := by decide +kernel
theorem dX5_put_138 : decode cX5_put 138 = .ok (.iastore, 1) := by decide +kernel
theorem dX5_put_139 : decode cX5_put 139 = .ok (.aload_n 0, 1) := by decide +kernel
theorem dX5_put_140 : decode cX5_put 140 = .ok (.getfield 7, 3) := by decide +kernel
theorem dX5_put_143 : decode cX5_put 143 = .ok (.iload_n 1, 1) := by decide +kernel
theorem dX5_put_144 : decode cX5_put 144 = .ok (.iload 5, 2) := by decide +kernel
theorem dX5_put_146 : decode cX5_put 146 = .ok (.iconst 1, 1) := by decide +kernel
theorem dX5_put_147 : decode cX5_put 147 = .ok (.invokestatic 48, 3) := by decide +kernel
theorem dX5_put_150 : decode cX5_put 150 = .ok (.iload_n 3, 1) := by decide +kernel
theorem dX5_put_151 : decode cX5_put 151 = .ok (.iastore, 1) := by decide +kernel
theorem dX5_put_152 : decode cX5_put 152 = .ok (.aload_n 0, 1) := by decide +kernel
theorem dX5_put_153 : decode cX5_put 153 = .ok (.getfield 7, 3) := by decide +kernel
theorem dX5_put_156 : decode cX5_put 156 = .ok (.iload_n 1, 1) := by decide +kernel
theorem dX5_put_157 : decode cX5_put 157 = .ok (.iload 5, 2) := by decide +kernel
theorem dX5_put_159 : decode cX5_put 159 = .ok (.iconst 2, 1) := by decide +kernel
theorem dX5_put_160 : decode cX5_put 160 = .ok (.invokestatic 48, 3) := by decide +kernel
theorem dX5_put_163 : decode cX5_put 163 = .ok (.iload 4, 2) := by decide +kernel
theorem dX5_put_165 : decode cX5_put 165 = .ok (.iastore, 1) := by decide +kernel
theorem dX5_put_166 : decode cX5_put 166 = .ok (.iload 5, 2) := by decide +kernel
theorem dX5_put_168 : decode cX5_put 168 = .ok (.ireturn, 1) := by decide +kernel
theorem dX5_take_0 : decode cX5_take 0 = .ok (.iload_n 1, 1) := by decide +kernel
theorem dX5_take_1 : decode cX5_take 1 = .ok (.invokestatic 52, 3) := by decide +kernel
theorem dX5_take_4 : decode cX5_take 4 = .ok (.ifCond .ne 5, 3) := by decide +kernel
theorem dX5_take_7 : decode cX5_take 7 = .ok (.iconst (-1), 1) := by decide +kernel
theorem dX5_take_8 : decode cX5_take 8 = .ok (.ireturn, 1) := by decide +kernel
theorem dX5_take_9 : decode cX5_take 9 = .ok (.iload_n 2, 1) := by decide +kernel
theorem dX5_take_10 : decode cX5_take 10 = .ok (.iconst 0, 1) := by decide +kernel
theorem dX5_take_11 : decode cX5_take 11 = .ok (.aload_n 0, 1) := by decide +kernel
theorem dX5_take_12 : decode cX5_take 12 = .ok (.iload_n 1, 1) := by decide +kernel
theorem dX5_take_13 : decode cX5_take 13 = .ok (.invokevirtual 56, 3) := by decide +kernel
theorem dX5_take_16 : decode cX5_take 16 = .ok (.iconst 1, 1) := by decide +kernel
theorem dX5_take_17 : decode cX5_take 17 = .ok (.isub, 1) := by decide +kernel
theorem dX5_take_18 : decode cX5_take 18 = .ok (.invokestatic 44, 3) := by decide +kernel
theorem dX5_take_21 : decode cX5_take 21 = .ok (.ifCond .ne 6, 3) := by decide +kernel
theorem dX5_take_24 : decode cX5_take 24 = .ok (.bipush (-2), 2) := by decide +kernel
theorem dX5_take_26 : decode cX5_take 26 = .ok (.ireturn, 1) := by decide +kernel
theorem dX5_take_27 : decode cX5_take 27 = .ok (.aload_n 0, 1) := by decide +kernel
theorem dX5_take_28 : decode cX5_take 28 = .ok (.getfield 7, 3) := by decide +kernel
theorem dX5_take_31 : decode cX5_take 31 = .ok (.iconst 0, 1) := by decide +kernel
theorem dX5_take_32 : decode cX5_take 32 = .ok (.iload_n 1, 1) := by decide +kernel
theorem dX5_take_33 : decode cX5_take 33 = .ok (.iadd, 1) := by decide +kernel
theorem dX5_take_34 : decode cX5_take 34 = .ok (.dup2, 1) := by decide +kernel
theorem dX5_take_35 : decode cX5_take 35 = .ok (.iaload, 1) := by decide +kernel
theorem dX5_take_36 : decode cX5_take 36 = .ok (.iconst 1, 1) := by decide +kernel
theorem dX5_take_37 : decode cX5_take 37 = .ok (.isub, 1) := by decide +kernel
theorem dX5_take_38 : decode cX5_take 38 = .ok (.iastore, 1) := by decide +kernel
theorem dX5_take_39 : decode cX5_take 39 = .ok (.iload_n 1, 1) := by decide +kernel
theorem dX5_take_40 : decode cX5_take 40 = .ok (.iload_n 2, 1) := by decide +kernel
theorem dX5_take_41 : decode cX5_take 41 = .ok (.iconst 0, 1) := by decide +kernel
theorem dX5_take_42 : decode cX5_take 42 = .ok (.invokestatic 48, 3) := by decide +kernel
theorem dX5_take_45 : decode cX5_take 45 = .ok (.istore_n 3, 1) := by decide +kernel
theorem dX5_take_46 : decode cX5_take 46 = .ok (.iload_n 3, 1) := by decide +kernel
theorem dX5_take_47 : decode cX5_take 47 = .ok (.iload_n 1, 1) := by decide +kernel
theorem dX5_take_48 : decode cX5_take 48 = .ok (.aload_n 0, 1) := by decide +kernel
theorem dX5_take_49 : decode cX5_take 49 = .ok (.iload_n 1, 1) := by decide +kernel
theorem dX5_take_50 : decode cX5_take 50 = .ok (.invokevirtual 56, 3) := by decide +kernel
theorem dX5_take_53 : decode cX5_take 53 = .ok (.iconst 0, 1) := by decide +kernel
theorem dX5_take_54 : decode cX5_take 54 = .ok (.invokestatic 48, 3) := by decide +kernel
theorem dX5_take_57 : decode cX5_take 57 = .ok (.if_icmp .ge 23, 3) := by decide +kernel
theorem dX5_take_60 : decode cX5_take 60 = .ok (.aload_n 0, 1) := by decide +kernel
theorem dX5_take_61 : decode cX5_take 61 = .ok (.getfield 7, 3) := by decide +kernel
theorem dX5_take_64 : decode cX5_take 64 = .ok (.iload_n 3, 1) := by decide +kernel
theorem dX5_take_65 : decode cX5_take 65 = .ok (.aload_n 0, 1) := by decide +kernel
theorem dX5_take_66 : decode cX5_take 66 = .ok (.getfield 7, 3) := by decide +kernel
theorem dX5_take_69 : decode cX5_take 69 = .ok (.iload_n 3, 1) := by decide +kernel
theorem dX5_take_70 : decode cX5_take 70 = .ok (.iconst 3, 1) := by decide +kernel
theorem dX5_take_71 : decode cX5_take 71 = .ok (.iadd, 1) := by decide +kernel
theorem dX5_take_72 : decode cX5_take 72 = .ok (.iaload, 1) := by decide +kernel
theorem dX5_take_73 : decode cX5_take 73 = .ok (.iastore, 1) := by decide +kernel
theorem dX5_take_74 : decode cX5_take 74 = .ok (.iinc 3 1, 3) := by decide +kernel
theorem dX5_take_77 : decode cX5_take 77 = .ok (.goto (-31), 3) := by decide +kernel
theorem dX5_take_80 : decode cX5_take 80 = .ok (.aload_n 0, 1) := by decide +kernel
theorem dX5_take_81 : decode cX5_take 81 = .ok (.iload_n 1, 1) := by decide +kernel
theorem dX5_take_82 : decode cX5_take 82 = .ok (.invokevirtual 56, 3) := by decide +kernel
theorem dX5_take_85 : decode cX5_take 85 = .ok (.ireturn, 1) := by decide +kernel
end
section
theorem dX5_clear_0 : decode cX5_clear 0 = .ok (.iload_n 1, 1) := by decide +kernel
theorem dX5_clear_1 : decode cX5_clear 1 = .ok (.invokestatic 52, 3) := by decide +kernel
theorem dX5_clear_4 : decode cX5_clear 4 = .ok (.ifCond .ne 5, 3) := by decide +kernel
theorem dX5_clear_7 : decode cX5_clear 7 = .ok (.iconst (-1), 1) := by decide +kernel
theorem dX5_clear_8 : decode cX5_clear 8 = .ok (.ireturn, 1) := by decide +kernel
theorem dX5_clear_9 : decode cX5_clear 9 = .ok (.aload_n 0, 1) := by decide +kernel
theorem dX5_clear_10 : decode cX5_clear 10 = .ok (.iload_n 1, 1) := by decide +kernel
theorem dX5_clear_11 : decode cX5_clear 11 = .ok (.invokevirtual 56, 3) := by decide +kernel
theorem dX5_clear_14 : decode cX5_clear 14 = .ok (.istore_n 2, 1) := by decide +kernel
theorem dX5_clear_15 : decode cX5_clear 15 = .ok (.aload_n 0, 1) := by decide +kernel
theorem dX5_clear_16 : decode cX5_clear 16 = .ok (.getfield 7, 3) := by decide +kernel
theorem dX5_clear_19 : decode cX5_clear 19 = .ok (.iconst 0, 1) := by decide +kernel
theorem dX5_clear_20 : decode cX5_clear 20 = .ok (.iload_n 1, 1) := by decide +kernel
theorem dX5_clear_21 : decode cX5_clear 21 = .ok (.iadd, 1) := by decide +kernel
theorem dX5_clear_22 : decode cX5_clear 22 = .ok (.iconst 0, 1) := by decide +kernel
theorem dX5_clear_23 : decode cX5_clear 23 = .ok (.iastore, 1) := by decide +kernel
theorem dX5_clear_24 : decode cX5_clear 24 = .ok (.iload_n 2, 1) := by decide +kernel
theorem dX5_clear_25 : decode cX5_clear 25 = .ok (.ireturn, 1) := by decide +kernel
theorem dX5_point_0 : decode cX5_point 0 = .ok (.iload_n 1, 1) := by decide +kernel
theorem dX5_point_1 : decode cX5_point 1 = .ok (.invokestatic 52, 3) := by decide +kernel
theorem dX5_point_4 : decode cX5_point 4 = .ok (.ifCond .ne 5, 3) := by decide +kernel
theorem dX5_point_7 : decode cX5_point 7 = .ok (.iconst (-1), 1) := by decide +kernel
theorem dX5_point_8 : decode cX5_point 8 = .ok (.ireturn, 1) := by decide +kernel
theorem dX5_point_9 : decode cX5_point 9 = .ok (.iload_n 3, 1) := by decide +kernel
theorem dX5_point_10 : decode cX5_point 10 = .ok (.iconst 0, 1) := by decide +kernel
theorem dX5_point_11 : decode cX5_point 11 = .ok (.iconst 2, 1) := by decide +kernel
theorem dX5_point_12 : decode cX5_point 12 = .ok (.invokestatic 44, 3) := by decide +kernel
theorem dX5_point_15 : decode cX5_point 15 = .ok (.ifCond .ne 6, 3) := by decide +kernel
theorem dX5_point_18 : decode cX5_point 18 = .ok (.bipush (-2), 2) := by decide +kernel
theorem dX5_point_20 : decode cX5_point 20 = .ok (.ireturn, 1) := by decide +kernel
theorem dX5_point_21 : decode cX5_point 21 = .ok (.iload_n 2, 1) := by decide +kernel
theorem dX5_point_22 : decode cX5_point 22 = .ok (.iconst 0, 1) := by decide +kernel
theorem dX5_point_23 : decode cX5_point 23 = .ok (.aload_n 0, 1) := by decide +kernel
theorem dX5_point_24 : decode cX5_point 24 = .ok (.iload_n 1, 1) := by decide +kernel
theorem dX5_point_25 : decode cX5_point 25 = .ok (.invokevirtual 56, 3) := by decide +kernel
theorem dX5_point_28 : decode cX5_point 28 = .ok (.iconst 1, 1) := by decide +kernel
theorem dX5_point_29 : decode cX5_point 29 = .ok (.isub, 1) := by decide +kernel
theorem dX5_point_30 : decode cX5_point 30 = .ok (.invokestatic 44, 3) := by decide +kernel
theorem dX5_point_33 : decode cX5_point 33 = .ok (.ifCond .eq 13, 3) := by decide +kernel
theorem dX5_point_36 : decode cX5_point 36 = .ok (.aload_n 0, 1) := by decide +kernel
theorem dX5_point_37 : decode cX5_point 37 = .ok (.iload_n 1, 1) := by decide +kernel
theorem dX5_point_38 : decode cX5_point 38 = .ok (.iload_n 2, 1) := by decide +kernel
theorem dX5_point_39 : decode cX5_point 39 = .ok (.iload_n 3, 1) := by decide +kernel
theorem dX5_point_40 : decode cX5_point 40 = .ok (.invokevirtual 60, 3) := by decide +kernel
theorem dX5_point_43 : decode cX5_point 43 = .ok (.goto 5, 3) := by decide +kernel
theorem dX5_point_46 : decode cX5_point 46 = .ok (.bipush (-6), 2) := by decide +kernel
theorem dX5_point_48 : decode cX5_point 48 = .ok (.ireturn, 1) := by decide +kernel
theorem dX5_addPoint_0 : decode cX5_addPoint 0 = .ok (.iconst 0, 1) := by decide +kernel
theorem dX5_addPoint_1 : decode cX5_addPoint 1 = .ok (.istore_n 3, 1) := by decide +kernel
theorem dX5_addPoint_2 : decode cX5_addPoint 2 = .ok (.iload_n 3, 1) := by decide +kernel
theorem dX5_addPoint_3 : decode cX5_addPoint 3 = .ok (.aload_n 0, 1) := by decide +kernel
theorem dX5_addPoint_4 : decode cX5_addPoint 4 = .ok (.getfield 63, 3) := by decide +kernel
theorem dX5_addPoint_7 : decode cX5_addPoint 7 = .ok (.if_icmp .ge 30, 3) := by decide +kernel
theorem dX5_addPoint_10 : decode cX5_addPoint 10 = .ok (.aload_n 0, 1) := by decide +kernel
theorem dX5_addPoint_11 : decode cX5_addPoint 11 = .ok (.getfield 20, 3) := by decide +kernel
theorem dX5_addPoint_14 : decode cX5_addPoint 14 = .ok (.iload_n 3, 1) := by decide +kernel
theorem dX5_addPoint_15 : decode cX5_addPoint 15 = .ok (.iaload, 1) := by decide +kernel
theorem dX5_addPoint_16 : decode cX5_addPoint 16 = .ok (.iload_n 1, 1) := by decide +kernel
theorem dX5_addPoint_17 : decode cX5_addPoint 17 = .ok (.if_icmp .ne 14, 3) := by decide +kernel
theorem dX5_addPoint_20 : decode cX5_addPoint 20 = .ok (.aload_n 0, 1) := by decide +kernel
theorem dX5_addPoint_21 : decode cX5_addPoint 21 = .ok (.getfield 23, 3) := by decide +kernel
theorem dX5_addPoint_24 : decode cX5_addPoint 24 = .ok (.iload_n 3, 1) := by decide +kernel
theorem dX5_addPoint_25 : decode cX5_addPoint 25 = .ok (.iaload, 1) := by decide +kernel
theorem dX5_addPoint_26 : decode cX5_addPoint 26 = .ok (.iload_n 2, 1) := by decide +kernel
theorem dX5_addPoint_27 : decode cX5_addPoint 27 = .ok (.if_icmp .ne 4, 3) := by decide +kernel
theorem dX5_addPoint_30 : decode cX5_addPoint 30 = .ok (.return_, 1) := by decide +kernel
theorem dX5_addPoint_31 : decode cX5_addPoint 31 = .ok (.iinc 3 1, 3) := by decide +kernel
theorem dX5_addPoint_34 : decode cX5_addPoint 34 = .ok (.goto (-32), 3) := by decide +kernel
theorem dX5_addPoint_37 : decode cX5_addPoint 37 = .ok (.aload_n 0, 1) := by decide +kernel
theorem dX5_addPoint_38 : decode cX5_addPoint 38 = .ok (.getfield 20, 3) := by decide +kernel
theorem dX5_addPoint_41 : decode cX5_addPoint 41 = .ok (.aload_n 0, 1) := by decide +kernel
theorem dX5_addPoint_42 : decode cX5_addPoint 42 = .ok (.getfield 63, 3) := by decide +kernel
theorem dX5_addPoint_45 : decode cX5_addPoint 45 = .ok (.iload_n 1, 1) := by decide +kernel
theorem dX5_addPoint_46 : decode cX5_addPoint 46 = .ok (.iastore, 1) := by decide +kernel
theorem dX5_addPoint_47 : decode cX5_addPoint 47 = .ok (.aload_n 0, 1) := by decide +kernel
theorem dX5_addPoint_48 : decode cX5_addPoint 48 = .ok (.getfield 23, 3) := by decide +kernel
theorem dX5_addPoint_51 : decode cX5_addPoint 51 = .ok (.aload_n 0, 1) := by decide +kernel
theorem dX5_addPoint_52 : decode cX5_addPoint 52 = .ok (.getfield 63, 3) := by decide +kernel
theorem dX5_addPoint_55 : decode cX5_addPoint 55 = .ok (.iload_n 2, 1) := by decide +kernel
theorem dX5_addPoint_56 : decode cX5_addPoint 56 = .ok (.iastore, 1) := by decide +kernel
theorem dX5_addPoint_57 : decode cX5_addPoint 57 = .ok (.aload_n 0, 1) := by decide +kernel
theorem dX5_addPoint_58 : decode cX5_addPoint 58 = .ok (.dup, 1) := by decide +kernel
theorem dX5_addPoint_59 : decode cX5_addPoint 59 = .ok (.getfield 63, 3) := by decide +kernel
theorem dX5_addPoint_62 : decode cX5_addPoint 62 = .ok (.iconst 1, 1) := by decide +kernel
theorem dX5_addPoint_63 : decode cX5_addPoint 63 = .ok (.iadd, 1) := by decide +kernel
theorem dX5_addPoint_64 : decode cX5_addPoint 64 = .ok (.putfield 63, 3) := by decide +kernel
theorem dX5_addPoint_67 : decode cX5_addPoint 67 = .ok (.return_, 1) := by decide +kernel
theorem dX5_turn_0 : decode cX5_turn 0 = .ok (.aload_n 0, 1) := by decide +kernel
theorem dX5_turn_1 : decode cX5_turn 1 = .ok (.getfield 20, 3) := by decide +kernel
theorem dX5_turn_4 : decode cX5_turn 4 = .ok (.iload_n 2, 1) := by decide +kernel
theorem dX5_turn_5 : decode cX5_turn 5 = .ok (.iaload, 1) := by decide +kernel
theorem dX5_turn_6 : decode cX5_turn 6 = .ok (.aload_n 0, 1) := by decide +kernel
theorem dX5_turn_7 : decode cX5_turn 7 = .ok (.getfield 20, 3) := by decide +kernel
theorem dX5_turn_10 : decode cX5_turn 10 = .ok (.iload_n 1, 1) := by decide +kernel
theorem dX5_turn_11 : decode cX5_turn 11 = .ok (.iaload, 1) := by decide +kernel
theorem dX5_turn_12 : decode cX5_turn 12 = .ok (.isub, 1) := by decide +kernel
theorem dX5_turn_13 : decode cX5_turn 13 = .ok (.aload_n 0, 1) := by decide +kernel
theorem dX5_turn_14 : decode cX5_turn 14 = .ok (.getfield 23, 3) := by decide +kernel
theorem dX5_turn_17 : decode cX5_turn 17 = .ok (.iload_n 3, 1) := by decide +kernel
theorem dX5_turn_18 : decode cX5_turn 18 = .ok (.iaload, 1) := by decide +kernel
theorem dX5_turn_19 : decode cX5_turn 19 = .ok (.aload_n 0, 1) := by decide +kernel
theorem dX5_turn_20 : decode cX5_turn 20 = .ok (.getfield 23, 3) := by decide +kernel
theorem dX5_turn_23 : decode cX5_turn 23 = .ok (.iload_n 1, 1) := by decide +kernel
theorem dX5_turn_24 : decode cX5_turn 24 = .ok (.iaload, 1) := by decide +kernel
theorem dX5_turn_25 : decode cX5_turn 25 = .ok (.isub, 1) := by decide +kernel
theorem dX5_turn_26 : decode cX5_turn 26 = .ok (.imul, 1) := by decide +kernel
theorem dX5_turn_27 : decode cX5_turn 27 = .ok (.aload_n 0, 1) := by decide +kernel
theorem dX5_turn_28 : decode cX5_turn 28 = .ok (.getfield 23, 3) := by decide +kernel
theorem dX5_turn_31 : decode cX5_turn 31 = .ok (.iload_n 2, 1) := by decide +kernel
theorem dX5_turn_32 : decode cX5_turn 32 = .ok (.iaload, 1) := by decide +kernel
theorem dX5_turn_33 : decode cX5_turn 33 = .ok (.aload_n 0, 1) := by decide +kernel
theorem dX5_turn_34 : decode cX5_turn 34 = .ok (.getfield 23, 3) := by decide +kernel
theorem dX5_turn_37 : decode cX5_turn 37 = .ok (.iload_n 1, 1) := by decide +kernel
theorem dX5_turn_38 : decode cX5_turn 38 = .ok (.iaload, 1) := by decide +kernel
theorem dX5_turn_39 : decode cX5_turn 39 = .ok (.isub, 1) := by decide +kernel
theorem dX5_turn_40 : decode cX5_turn 40 = .ok (.aload_n 0, 1) := by decide +kernel
theorem dX5_turn_41 : decode cX5_turn 41 = .ok (.getfield 20, 3) := by decide +kernel
theorem dX5_turn_44 : decode cX5_turn 44 = .ok (.iload_n 3, 1) := by decide +kernel
theorem dX5_turn_45 : decode cX5_turn 45 = .ok (.iaload, 1) := by decide +kernel
theorem dX5_turn_46 : decode cX5_turn 46 = .ok (.aload_n 0, 1) := by decide +kernel
theorem dX5_turn_47 : decode cX5_turn 47 = .ok (.getfield 20, 3) := by decide +kernel
theorem dX5_turn_50 : decode cX5_turn 50 = .ok (.iload_n 1, 1) := by decide +kernel
theorem dX5_turn_51 : decode cX5_turn 51 = .ok (.iaload, 1) := by decide +kernel
theorem dX5_turn_52 : decode cX5_turn 52 = .ok (.isub, 1) := by decide +kernel
theorem dX5_turn_53 : decode cX5_turn 53 = .ok (.imul, 1) := by decide +kernel
theorem dX5_turn_54 : decode cX5_turn 54 = .ok (.isub, 1) := by decide +kernel
theorem dX5_turn_55 : decode cX5_turn 55 = .ok (.ireturn, 1) := by decide +kernel
theorem dX5_far_0 : decode cX5_far 0 = .ok (.aload_n 0, 1) := by decide +kernel
theorem dX5_far_1 : decode cX5_far 1 = .ok (.getfield 20, 3) := by decide +kernel
theorem dX5_far_4 : decode cX5_far 4 = .ok (.iload_n 1, 1) := by decide +kernel
theorem dX5_far_5 : decode cX5_far 5 = .ok (.iaload, 1) := by decide +kernel
theorem dX5_far_6 : decode cX5_far 6 = .ok (.aload_n 0, 1) := by decide +kernel
theorem dX5_far_7 : decode cX5_far 7 = .ok (.getfield 20, 3) := by decide +kernel
theorem dX5_far_10 : decode cX5_far 10 = .ok (.iload_n 2, 1) := by decide +kernel
theorem dX5_far_11 : decode cX5_far 11 = .ok (.iaload, 1) := by decide +kernel
theorem dX5_far_12 : decode cX5_far 12 = .ok (.isub, 1) := by decide +kernel
theorem dX5_far_13 : decode cX5_far 13 = .ok (.aload_n 0, 1) := by decide +kernel
theorem dX5_far_14 : decode cX5_far 14 = .ok (.getfield 20, 3) := by decide +kernel
theorem dX5_far_17 : decode cX5_far 17 = .ok (.iload_n 1, 1) := by decide +kernel
theorem dX5_far_18 : decode cX5_far 18 = .ok (.iaload, 1) := by decide +kernel
theorem dX5_far_19 : decode cX5_far 19 = .ok (.aload_n 0, 1) := by decide +kernel
theorem dX5_far_20 : decode cX5_far 20 = .ok (.getfield 20, 3) := by decide +kernel
theorem dX5_far_23 : decode cX5_far 23 = .ok (.iload_n 2, 1) := by decide +kernel
theorem dX5_far_24 : decode cX5_far 24 = .ok (.iaload, 1) := by decide +kernel
theorem dX5_far_25 : decode cX5_far 25 = .ok (.isub, 1) := by decide +kernel
theorem dX5_far_26 : decode cX5_far 26 = .ok (.imul, 1) := by decide +kernel
theorem dX5_far_27 : decode cX5_far 27 = .ok (.aload_n 0, 1) := by decide +kernel
theorem dX5_far_28 : decode cX5_far 28 = .ok (.getfield 23, 3) := by decide +kernel
theorem dX5_far_31 : decode cX5_far 31 = .ok (.iload_n 1, 1) := by decide +kernel
theorem dX5_far_32 : decode cX5_far 32 = .ok (.iaload, 1) := by decide +kernel
theorem dX5_far_33 : decode cX5_far 33 = .ok (.aload_n 0, 1) := by decide +kernel
theorem dX5_far_34 : decode cX5_far 34 = .ok (.getfield 23, 3) := by decide +kernel
theorem dX5_far_37 : decode cX5_far 37 = .ok (.iload_n 2, 1) := by decide +kernel
theorem dX5_far_38 : decode cX5_far 38 = .ok (.iaload, 1) := by decide +kernel
theorem dX5_far_39 : decode cX5_far 39 = .ok (.isub, 1) := by decide +kernel
theorem dX5_far_40 : decode cX5_far 40 = .ok (.aload_n 0, 1) := by decide +kernel
theorem dX5_far_41 : decode cX5_far 41 = .ok (.getfield 23, 3) := by decide +kernel
theorem dX5_far_44 : decode cX5_far 44 = .ok (.iload_n 1, 1) := by decide +kernel
theorem dX5_far_45 : decode cX5_far 45 = .ok (.iaload, 1) := by decide +kernel
theorem dX5_far_46 : decode cX5_far 46 = .ok (.aload_n 0, 1) := by decide +kernel
theorem dX5_far_47 : decode cX5_far 47 = .ok (.getfield 23, 3) := by decide +kernel
theorem dX5_far_50 : decode cX5_far 50 = .ok (.iload_n 2, 1) := by decide +kernel
theorem dX5_far_51 : decode cX5_far 51 = .ok (.iaload, 1) := by decide +kernel
theorem dX5_far_52 : decode cX5_far 52 = .ok (.isub, 1) := by decide +kernel
theorem dX5_far_53 : decode cX5_far 53 = .ok (.imul, 1) := by decide +kernel
theorem dX5_far_54 : decode cX5_far 54 = .ok (.iadd, 1) := by decide +kernel
theorem dX5_far_55 : decode cX5_far 55 = .ok (.ireturn, 1) := by decide +kernel
theorem dX5_nextCorner_0 : decode cX5_nextCorner 0 = .ok (.bipush (-6), 2) := by decide +kernel
theorem dX5_nextCorner_2 : decode cX5_nextCorner 2 = .ok (.istore_n 2, 1) := by decide +kernel
theorem dX5_nextCorner_3 : decode cX5_nextCorner 3 = .ok (.iconst 0, 1) := by decide +kernel
theorem dX5_nextCorner_4 : decode cX5_nextCorner 4 = .ok (.istore_n 3, 1) := by decide +kernel
theorem dX5_nextCorner_5 : decode cX5_nextCorner 5 = .ok (.iload_n 3, 1) := by decide +kernel
theorem dX5_nextCorner_6 : decode cX5_nextCorner 6 = .ok (.aload_n 0, 1) := by decide +kernel
theorem dX5_nextCorner_7 : decode cX5_nextCorner 7 = .ok (.getfield 63, 3) := by decide +kernel
theorem dX5_nextCorner_10 : decode cX5_nextCorner 10 = .ok (.if_icmp .ge 58, 3) := by decide +kernel
theorem dX5_nextCorner_13 : decode cX5_nextCorner 13 = .ok (.iload_n 3, 1) := by decide +kernel
theorem dX5_nextCorner_14 : decode cX5_nextCorner 14 = .ok (.iload_n 1, 1) := by decide +kernel
theorem dX5_nextCorner_15 : decode cX5_nextCorner 15 = .ok (.if_icmp .eq 47, 3) := by decide +kernel
theorem dX5_nextCorner_18 : decode cX5_nextCorner 18 = .ok (.iload_n 2, 1) := by decide +kernel
theorem dX5_nextCorner_19 : decode cX5_nextCorner 19 = .ok (.ifCond .ge 7, 3) := by decide +kernel
theorem dX5_nextCorner_22 : decode cX5_nextCorner 22 = .ok (.iconst (-1), 1) := by decide +kernel
theorem dX5_nextCorner_23 : decode cX5_nextCorner 23 = .ok (.goto 10, 3) := by decide +kernel
theorem dX5_nextCorner_26 : decode cX5_nextCorner 26 = .ok (.aload_n 0, 1) := by decide +kernel
theorem dX5_nextCorner_27 : decode cX5_nextCorner 27 = .ok (.iload_n 1, 1) := by decide +kernel
theorem dX5_nextCorner_28 : decode cX5_nextCorner 28 = .ok (.iload_n 2, 1) := by decide +kernel
theorem dX5_nextCorner_29 : decode cX5_nextCorner 29 = .ok (.iload_n 3, 1) := by decide +kernel
theorem dX5_nextCorner_30 : decode cX5_nextCorner 30 = .ok (.invokevirtual 67, 3) := by decide +kernel
theorem dX5_nextCorner_33 : decode cX5_nextCorner 33 = .ok (.istore 4, 2) := by decide +kernel
theorem dX5_nextCorner_35 : decode cX5_nextCorner 35 = .ok (.iload 4, 2) := by decide +kernel
theorem dX5_nextCorner_37 : decode cX5_nextCorner 37 = .ok (.ifCond .lt 23, 3) := by decide +kernel
theorem dX5_nextCorner_40 : decode cX5_nextCorner 40 = .ok (.iload 4, 2) := by decide +kernel
theorem dX5_nextCorner_42 : decode cX5_nextCorner 42 = .ok (.ifCond .ne 20, 3) := by decide +kernel
theorem dX5_nextCorner_45 : decode cX5_nextCorner 45 = .ok (.aload_n 0, 1) := by decide +kernel
theorem dX5_nextCorner_46 : decode cX5_nextCorner 46 = .ok (.iload_n 1, 1) := by decide +kernel
theorem dX5_nextCorner_47 : decode cX5_nextCorner 47 = .ok (.iload_n 3, 1) := by decide +kernel
theorem dX5_nextCorner_48 : decode cX5_nextCorner 48 = .ok (.invokevirtual 70, 3) := by decide +kernel
theorem dX5_nextCorner_51 : decode cX5_nextCorner 51 = .ok (.aload_n 0, 1) := by decide +kernel
theorem dX5_nextCorner_52 : decode cX5_nextCorner 52 = .ok (.iload_n 1, 1) := by decide +kernel
theorem dX5_nextCorner_53 : decode cX5_nextCorner 53 = .ok (.iload_n 2, 1) := by decide +kernel
theorem dX5_nextCorner_54 : decode cX5_nextCorner 54 = .ok (.invokevirtual 70, 3) := by decide +kernel
theorem dX5_nextCorner_57 : decode cX5_nextCorner 57 = .ok (.if_icmp .le 5, 3) := by decide +kernel
theorem dX5_nextCorner_60 : decode cX5_nextCorner 60 = .ok (.iload_n 3, 1) := by decide +kernel
theorem dX5_nextCorner_61 : decode cX5_nextCorner 61 = .ok (.istore_n 2, 1) := by decide +kernel
theorem dX5_nextCorner_62 : decode cX5_nextCorner 62 = .ok (.iinc 3 1, 3) := by decide +kernel
theorem dX5_nextCorner_65 : decode cX5_nextCorner 65 = .ok (.goto (-60), 3) := by decide +kernel
theorem dX5_nextCorner_68 : decode cX5_nextCorner 68 = .ok (.iload_n 2, 1) := by decide +kernel
theorem dX5_nextCorner_69 : decode cX5_nextCorner 69 = .ok (.ireturn, 1) := by decide +kernel
theorem dX5_layCorners_0 : decode cX5_layCorners 0 = .ok (.aload_n 0, 1) := by decide +kernel
theorem dX5_layCorners_1 : decode cX5_layCorners 1 = .ok (.iconst 0, 1) := by decide +kernel
theorem dX5_layCorners_2 : decode cX5_layCorners 2 = .ok (.putfield 74, 3) := by decide +kernel
theorem dX5_layCorners_5 : decode cX5_layCorners 5 = .ok (.aload_n 0, 1) := by decide +kernel
theorem dX5_layCorners_6 : decode cX5_layCorners 6 = .ok (.getfield 63, 3) := by decide +kernel
theorem dX5_layCorners_9 : decode cX5_layCorners 9 = .ok (.ifCond .ne 4, 3) := by decide +kernel
theorem dX5_layCorners_12 : decode cX5_layCorners 12 = .ok (.return_, 1) := by decide +kernel
theorem dX5_layCorners_13 : decode cX5_layCorners 13 = .ok (.iconst 0, 1) := by decide +kernel
theorem dX5_layCorners_14 : decode cX5_layCorners 14 = .ok (.istore_n 1, 1) := by decide +kernel
theorem dX5_layCorners_15 : decode cX5_layCorners 15 = .ok (.iconst 1, 1) := by decide +kernel
theorem dX5_layCorners_16 : decode cX5_layCorners 16 = .ok (.istore_n 2, 1) := by decide +kernel
theorem dX5_layCorners_17 : decode cX5_layCorners 17 = .ok (.iload_n 2, 1) := by decide +kernel
theorem dX5_layCorners_18 : decode cX5_layCorners 18 = .ok (.aload_n 0, 1) := by decide +kernel
theorem dX5_layCorners_19 : decode cX5_layCorners 19 = .ok (.getfield 63, 3) := by decide +kernel
theorem dX5_layCorners_22 : decode cX5_layCorners 22 = .ok (.if_icmp .ge 60, 3) := by decide +kernel
theorem dX5_layCorners_25 : decode cX5_layCorners 25 = .ok (.aload_n 0, 1) := by decide +kernel
theorem dX5_layCorners_26 : decode cX5_layCorners 26 = .ok (.getfield 23, 3) := by decide +kernel
theorem dX5_layCorners_29 : decode cX5_layCorners 29 = .ok (.iload_n 2, 1) := by decide +kernel
theorem dX5_layCorners_30 : decode cX5_layCorners 30 = .ok (.iaload, 1) := by decide +kernel
theorem dX5_layCorners_31 : decode cX5_layCorners 31 = .ok (.aload_n 0, 1) := by decide +kernel
theorem dX5_layCorners_32 : decode cX5_layCorners 32 = .ok (.getfield 23, 3) := by decide +kernel
theorem dX5_layCorners_35 : decode cX5_layCorners 35 = .ok (.iload_n 1, 1) := by decide +kernel
theorem dX5_layCorners_36 : decode cX5_layCorners 36 = .ok (.iaload, 1) := by decide +kernel
theorem dX5_layCorners_37 : decode cX5_layCorners 37 = .ok (.if_icmp .lt 33, 3) := by decide +kernel
theorem dX5_layCorners_40 : decode cX5_layCorners 40 = .ok (.aload_n 0, 1) := by decide +kernel
theorem dX5_layCorners_41 : decode cX5_layCorners 41 = .ok (.getfield 23, 3) := by decide +kernel
theorem dX5_layCorners_44 : decode cX5_layCorners 44 = .ok (.iload_n 2, 1) := by decide +kernel
theorem dX5_layCorners_45 : decode cX5_layCorners 45 = .ok (.iaload, 1) := by decide +kernel
theorem dX5_layCorners_46 : decode cX5_layCorners 46 = .ok (.aload_n 0, 1) := by decide +kernel
theorem dX5_layCorners_47 : decode cX5_layCorners 47 = .ok (.getfield 23, 3) := by decide +kernel
theorem dX5_layCorners_50 : decode cX5_layCorners 50 = .ok (.iload_n 1, 1) := by decide +kernel
theorem dX5_layCorners_51 : decode cX5_layCorners 51 = .ok (.iaload, 1) := by decide +kernel
theorem dX5_layCorners_52 : decode cX5_layCorners 52 = .ok (.if_icmp .ne 22, 3) := by decide +kernel
theorem dX5_layCorners_55 : decode cX5_layCorners 55 = .ok (.aload_n 0, 1) := by decide +kernel
theorem dX5_layCorners_56 : decode cX5_layCorners 56 = .ok (.getfield 20, 3) := by decide +kernel
theorem dX5_layCorners_59 : decode cX5_layCorners 59 = .ok (.iload_n 2, 1) := by decide +kernel
theorem dX5_layCorners_60 : decode cX5_layCorners 60 = .ok (.iaload, 1) := by decide +kernel
theorem dX5_layCorners_61 : decode cX5_layCorners 61 = .ok (.aload_n 0, 1) := by decide +kernel
theorem dX5_layCorners_62 : decode cX5_layCorners 62 = .ok (.getfield 20, 3) := by decide +kernel
theorem dX5_layCorners_65 : decode cX5_layCorners 65 = .ok (.iload_n 1, 1) := by decide +kernel
theorem dX5_layCorners_66 : decode cX5_layCorners 66 = .ok (.iaload, 1) := by decide +kernel
theorem dX5_layCorners_67 : decode cX5_layCorners 67 = .ok (.if_icmp .ge 7, 3) := by decide +kernel
theorem dX5_layCorners_70 : decode cX5_layCorners 70 = .ok (.iload_n 2, 1) := by decide +kernel
theorem dX5_layCorners_71 : decode cX5_layCorners 71 = .ok (.goto 4, 3) := by decide +kernel
theorem dX5_layCorners_74 : decode cX5_layCorners 74 = .ok (.iload_n 1, 1) := by decide +kernel
theorem dX5_layCorners_75 : decode cX5_layCorners 75 = .ok (.istore_n 1, 1) := by decide +kernel
theorem dX5_layCorners_76 : decode cX5_layCorners 76 = .ok (.iinc 2 1, 3) := by decide +kernel
theorem dX5_layCorners_79 : decode cX5_layCorners 79 = .ok (.goto (-62), 3) := by decide +kernel
theorem dX5_layCorners_82 : decode cX5_layCorners 82 = .ok (.iload_n 1, 1) := by decide +kernel
theorem dX5_layCorners_83 : decode cX5_layCorners 83 = .ok (.istore_n 2, 1) := by decide +kernel
theorem dX5_layCorners_84 : decode cX5_layCorners 84 = .ok (.aload_n 0, 1) := by decide +kernel
theorem dX5_layCorners_85 : decode cX5_layCorners 85 = .ok (.getfield 26, 3) := by decide +kernel
theorem dX5_layCorners_88 : decode cX5_layCorners 88 = .ok (.aload_n 0, 1) := by decide +kernel
theorem dX5_layCorners_89 : decode cX5_layCorners 89 = .ok (.getfield 74, 3) := by decide +kernel
theorem dX5_layCorners_92 : decode cX5_layCorners 92 = .ok (.iload_n 2, 1) := by decide +kernel
theorem dX5_layCorners_93 : decode cX5_layCorners 93 = .ok (.iastore, 1) := by decide +kernel
theorem dX5_layCorners_94 : decode cX5_layCorners 94 = .ok (.aload_n 0, 1) := by decide +kernel
theorem dX5_layCorners_95 : decode cX5_layCorners 95 = .ok (.dup, 1) := by decide +kernel
theorem dX5_layCorners_96 : decode cX5_layCorners 96 = .ok (.getfield 74, 3) := by decide +kernel
theorem dX5_layCorners_99 : decode cX5_layCorners 99 = .ok (.iconst 1, 1) := by decide +kernel
theorem dX5_layCorners_100 : decode cX5_layCorners 100 = .ok (.iadd, 1) := by decide +kernel
theorem dX5_layCorners_101 : decode cX5_layCorners 101 = .ok (.putfield 74, 3) := by decide +kernel
theorem dX5_layCorners_104 : decode cX5_layCorners 104 = .ok (.aload_n 0, 1) := by decide +kernel
theorem dX5_layCorners_105 : decode cX5_layCorners 105 = .ok (.getfield 63, 3) := by decide +kernel
theorem dX5_layCorners_108 : decode cX5_layCorners 108 = .ok (.iconst 1, 1) := by decide +kernel
theorem dX5_layCorners_109 : decode cX5_layCorners 109 = .ok (.if_icmp .ne 7, 3) := by decide +kernel
theorem dX5_layCorners_112 : decode cX5_layCorners 112 = .ok (.iload_n 1, 1) := by decide +kernel
theorem dX5_layCorners_113 : decode cX5_layCorners 113 = .ok (.goto 8, 3) := by decide +kernel
theorem dX5_layCorners_116 : decode cX5_layCorners 116 = .ok (.aload_n 0, 1) := by decide +kernel
theorem dX5_layCorners_117 : decode cX5_layCorners 117 = .ok (.iload_n 2, 1) := by decide +kernel
theorem dX5_layCorners_118 : decode cX5_layCorners 118 = .ok (.invokevirtual 77, 3) := by decide +kernel
theorem dX5_layCorners_121 : decode cX5_layCorners 121 = .ok (.istore_n 2, 1) := by decide +kernel
theorem dX5_layCorners_122 : decode cX5_layCorners 122 = .ok (.iload_n 2, 1) := by decide +kernel
theorem dX5_layCorners_123 : decode cX5_layCorners 123 = .ok (.iload_n 1, 1) := by decide +kernel
theorem dX5_layCorners_124 : decode cX5_layCorners 124 = .ok (.if_icmp .ne (-40), 3) := by decide +kernel
theorem dX5_layCorners_127 : decode cX5_layCorners 127 = .ok (.return_, 1) := by decide +kernel
theorem dX5_area_0 : decode cX5_area 0 = .ok (.iconst 0, 1) := by decide +kernel
theorem dX5_area_1 : decode cX5_area 1 = .ok (.istore_n 1, 1) := by decide +kernel
theorem dX5_area_2 : decode cX5_area 2 = .ok (.iconst 0, 1) := by decide +kernel
theorem dX5_area_3 : decode cX5_area 3 = .ok (.istore_n 2, 1) := by decide +kernel
theorem dX5_area_4 : decode cX5_area 4 = .ok (.iload_n 2, 1) := by decide +kernel
theorem dX5_area_5 : decode cX5_area 5 = .ok (.aload_n 0, 1) := by decide +kernel
theorem dX5_area_6 : decode cX5_area 6 = .ok (.getfield 74, 3) := by decide +kernel
theorem dX5_area_9 : decode cX5_area 9 = .ok (.if_icmp .ge 63, 3) := by decide +kernel
theorem dX5_area_12 : decode cX5_area 12 = .ok (.aload_n 0, 1) := by decide +kernel
theorem dX5_area_13 : decode cX5_area 13 = .ok (.getfield 26, 3) := by decide +kernel
theorem dX5_area_16 : decode cX5_area 16 = .ok (.iload_n 2, 1) := by decide +kernel
theorem dX5_area_17 : decode cX5_area 17 = .ok (.iaload, 1) := by decide +kernel
theorem dX5_area_18 : decode cX5_area 18 = .ok (.istore_n 3, 1) := by decide +kernel
theorem dX5_area_19 : decode cX5_area 19 = .ok (.aload_n 0, 1) := by decide +kernel
theorem dX5_area_20 : decode cX5_area 20 = .ok (.getfield 26, 3) := by decide +kernel
theorem dX5_area_23 : decode cX5_area 23 = .ok (.iload_n 2, 1) := by decide +kernel
theorem dX5_area_24 : decode cX5_area 24 = .ok (.iconst 1, 1) := by decide +kernel
theorem dX5_area_25 : decode cX5_area 25 = .ok (.iadd, 1) := by decide +kernel
theorem dX5_area_26 : decode cX5_area 26 = .ok (.aload_n 0, 1) := by decide +kernel
theorem dX5_area_27 : decode cX5_area 27 = .ok (.getfield 74, 3) := by decide +kernel
theorem dX5_area_30 : decode cX5_area 30 = .ok (.irem, 1) := by decide +kernel
theorem dX5_area_31 : decode cX5_area 31 = .ok (.iaload, 1) := by decide +kernel
theorem dX5_area_32 : decode cX5_area 32 = .ok (.istore 4, 2) := by decide +kernel
theorem dX5_area_34 : decode cX5_area 34 = .ok (.iload_n 1, 1) := by decide +kernel
theorem dX5_area_35 : decode cX5_area 35 = .ok (.aload_n 0, 1) := by decide +kernel
theorem dX5_area_36 : decode cX5_area 36 = .ok (.getfield 20, 3) := by decide +kernel
theorem dX5_area_39 : decode cX5_area 39 = .ok (.iload_n 3, 1) := by decide +kernel
theorem dX5_area_40 : decode cX5_area 40 = .ok (.iaload, 1) := by decide +kernel
theorem dX5_area_41 : decode cX5_area 41 = .ok (.aload_n 0, 1) := by decide +kernel
theorem dX5_area_42 : decode cX5_area 42 = .ok (.getfield 23, 3) := by decide +kernel
theorem dX5_area_45 : decode cX5_area 45 = .ok (.iload 4, 2) := by decide +kernel
theorem dX5_area_47 : decode cX5_area 47 = .ok (.iaload, 1) := by decide +kernel
theorem dX5_area_48 : decode cX5_area 48 = .ok (.imul, 1) := by decide +kernel
theorem dX5_area_49 : decode cX5_area 49 = .ok (.aload_n 0, 1) := by decide +kernel
theorem dX5_area_50 : decode cX5_area 50 = .ok (.getfield 20, 3) := by decide +kernel
theorem dX5_area_53 : decode cX5_area 53 = .ok (.iload 4, 2) := by decide +kernel
theorem dX5_area_55 : decode cX5_area 55 = .ok (.iaload, 1) := by decide +kernel
theorem dX5_area_56 : decode cX5_area 56 = .ok (.aload_n 0, 1) := by decide +kernel
theorem dX5_area_57 : decode cX5_area 57 = .ok (.getfield 23, 3) := by decide +kernel
theorem dX5_area_60 : decode cX5_area 60 = .ok (.iload_n 3, 1) := by decide +kernel
theorem dX5_area_61 : decode cX5_area 61 = .ok (.iaload, 1) := by decide +kernel
theorem dX5_area_62 : decode cX5_area 62 = .ok (.imul, 1) := by decide +kernel
theorem dX5_area_63 : decode cX5_area 63 = .ok (.isub, 1) := by decide +kernel
theorem dX5_area_64 : decode cX5_area 64 = .ok (.iadd, 1) := by decide +kernel
theorem dX5_area_65 : decode cX5_area 65 = .ok (.istore_n 1, 1) := by decide +kernel
theorem dX5_area_66 : decode cX5_area 66 = .ok (.iinc 2 1, 3) := by decide +kernel
theorem dX5_area_69 : decode cX5_area 69 = .ok (.goto (-65), 3) := by decide +kernel
theorem dX5_area_72 : decode cX5_area 72 = .ok (.iload_n 1, 1) := by decide +kernel
theorem dX5_area_73 : decode cX5_area 73 = .ok (.ireturn, 1) := by decide +kernel
theorem dX5_span_0 : decode cX5_span 0 = .ok (.aload_n 0, 1) := by decide +kernel
theorem dX5_span_1 : decode cX5_span 1 = .ok (.getfield 74, 3) := by decide +kernel
theorem dX5_span_4 : decode cX5_span 4 = .ok (.ifCond .ne 8, 3) := by decide +kernel
theorem dX5_span_7 : decode cX5_span 7 = .ok (.bipush (-6), 2) := by decide +kernel
theorem dX5_span_9 : decode cX5_span 9 = .ok (.goto 21, 3) := by decide +kernel
theorem dX5_span_12 : decode cX5_span 12 = .ok (.aload_n 0, 1) := by decide +kernel
theorem dX5_span_13 : decode cX5_span 13 = .ok (.getfield 74, 3) := by decide +kernel
theorem dX5_span_16 : decode cX5_span 16 = .ok (.iconst 2, 1) := by decide +kernel
theorem dX5_span_17 : decode cX5_span 17 = .ok (.if_icmp .le 7, 3) := by decide +kernel
theorem dX5_span_20 : decode cX5_span 20 = .ok (.iconst 2, 1) := by decide +kernel
theorem dX5_span_21 : decode cX5_span 21 = .ok (.goto 9, 3) := by decide +kernel
theorem dX5_span_24 : decode cX5_span 24 = .ok (.aload_n 0, 1) := by decide +kernel
theorem dX5_span_25 : decode cX5_span 25 = .ok (.getfield 74, 3) := by decide +kernel
theorem dX5_span_28 : decode cX5_span 28 = .ok (.iconst 1, 1) := by decide +kernel
theorem dX5_span_29 : decode cX5_span 29 = .ok (.isub, 1) := by decide +kernel
theorem dX5_span_30 : decode cX5_span 30 = .ok (.ireturn, 1) := by decide +kernel
theorem dX5_layBody_0 : decode cX5_layBody 0 = .ok (.aload_n 0, 1) := by decide +kernel
theorem dX5_layBody_1 : decode cX5_layBody 1 = .ok (.iconst 0, 1) := by decide +kernel
theorem dX5_layBody_2 : decode cX5_layBody 2 = .ok (.putfield 63, 3) := by decide +kernel
theorem dX5_layBody_5 : decode cX5_layBody 5 = .ok (.iconst 0, 1) := by decide +kernel
theorem dX5_layBody_6 : decode cX5_layBody 6 = .ok (.istore_n 3, 1) := by decide +kernel
theorem dX5_layBody_7 : decode cX5_layBody 7 = .ok (.iload_n 3, 1) := by decide +kernel
theorem dX5_layBody_8 : decode cX5_layBody 8 = .ok (.aload_n 0, 1) := by decide +kernel
theorem dX5_layBody_9 : decode cX5_layBody 9 = .ok (.iload_n 1, 1) := by decide +kernel
theorem dX5_layBody_10 : decode cX5_layBody 10 = .ok (.invokevirtual 56, 3) := by decide +kernel
theorem dX5_layBody_13 : decode cX5_layBody 13 = .ok (.if_icmp .ge 35, 3) := by decide +kernel
theorem dX5_layBody_16 : decode cX5_layBody 16 = .ok (.iload_n 2, 1) := by decide +kernel
theorem dX5_layBody_17 : decode cX5_layBody 17 = .ok (.iload_n 3, 1) := by decide +kernel
theorem dX5_layBody_18 : decode cX5_layBody 18 = .ok (.invokestatic 80, 3) := by decide +kernel
theorem dX5_layBody_21 : decode cX5_layBody 21 = .ok (.ifCond .eq 21, 3) := by decide +kernel
theorem dX5_layBody_24 : decode cX5_layBody 24 = .ok (.aload_n 0, 1) := by decide +kernel
theorem dX5_layBody_25 : decode cX5_layBody 25 = .ok (.aload_n 0, 1) := by decide +kernel
theorem dX5_layBody_26 : decode cX5_layBody 26 = .ok (.iload_n 1, 1) := by decide +kernel
theorem dX5_layBody_27 : decode cX5_layBody 27 = .ok (.iload_n 3, 1) := by decide +kernel
theorem dX5_layBody_28 : decode cX5_layBody 28 = .ok (.iconst 0, 1) := by decide +kernel
theorem dX5_layBody_29 : decode cX5_layBody 29 = .ok (.invokevirtual 60, 3) := by decide +kernel
theorem dX5_layBody_32 : decode cX5_layBody 32 = .ok (.aload_n 0, 1) := by decide +kernel
theorem dX5_layBody_33 : decode cX5_layBody 33 = .ok (.iload_n 1, 1) := by decide +kernel
theorem dX5_layBody_34 : decode cX5_layBody 34 = .ok (.iload_n 3, 1) := by decide +kernel
theorem dX5_layBody_35 : decode cX5_layBody 35 = .ok (.iconst 1, 1) := by decide +kernel
theorem dX5_layBody_36 : decode cX5_layBody 36 = .ok (.invokevirtual 60, 3) := by decide +kernel
theorem dX5_layBody_39 : decode cX5_layBody 39 = .ok (.invokevirtual 84, 3) := by decide +kernel
theorem dX5_layBody_42 : decode cX5_layBody 42 = .ok (.iinc 3 1, 3) := by decide +kernel
theorem dX5_layBody_45 : decode cX5_layBody 45 = .ok (.goto (-38), 3) := by decide +kernel
theorem dX5_layBody_48 : decode cX5_layBody 48 = .ok (.aload_n 0, 1) := by decide +kernel
theorem dX5_layBody_49 : decode cX5_layBody 49 = .ok (.invokevirtual 88, 3) := by decide +kernel
theorem dX5_layBody_52 : decode cX5_layBody 52 = .ok (.return_, 1) := by decide +kernel
theorem dX5_laySums_0 : decode cX5_laySums 0 = .ok (.aload_n 0, 1) := by decide +kernel
theorem dX5_laySums_1 : decode cX5_laySums 1 = .ok (.iconst 0, 1) := by decide +kernel
theorem dX5_laySums_2 : decode cX5_laySums 2 = .ok (.putfield 63, 3) := by decide +kernel
theorem dX5_laySums_5 : decode cX5_laySums 5 = .ok (.iconst 0, 1) := by decide +kernel
theorem dX5_laySums_6 : decode cX5_laySums 6 = .ok (.istore 5, 2) := by decide +kernel
theorem dX5_laySums_8 : decode cX5_laySums 8 = .ok (.iload 5, 2) := by decide +kernel
theorem dX5_laySums_10 : decode cX5_laySums 10 = .ok (.aload_n 0, 1) := by decide +kernel
theorem dX5_laySums_11 : decode cX5_laySums 11 = .ok (.iload_n 1, 1) := by decide +kernel
theorem dX5_laySums_12 : decode cX5_laySums 12 = .ok (.invokevirtual 56, 3) := by decide +kernel
theorem dX5_laySums_15 : decode cX5_laySums 15 = .ok (.if_icmp .ge 85, 3) := by decide +kernel
theorem dX5_laySums_18 : decode cX5_laySums 18 = .ok (.iconst 0, 1) := by decide +kernel
theorem dX5_laySums_19 : decode cX5_laySums 19 = .ok (.istore 6, 2) := by decide +kernel
theorem dX5_laySums_21 : decode cX5_laySums 21 = .ok (.iload 6, 2) := by decide +kernel
theorem dX5_laySums_23 : decode cX5_laySums 23 = .ok (.aload_n 0, 1) := by decide +kernel
theorem dX5_laySums_24 : decode cX5_laySums 24 = .ok (.iload_n 3, 1) := by decide +kernel
theorem dX5_laySums_25 : decode cX5_laySums 25 = .ok (.invokevirtual 56, 3) := by decide +kernel
theorem dX5_laySums_28 : decode cX5_laySums 28 = .ok (.if_icmp .ge 66, 3) := by decide +kernel
theorem dX5_laySums_31 : decode cX5_laySums 31 = .ok (.iload_n 2, 1) := by decide +kernel
theorem dX5_laySums_32 : decode cX5_laySums 32 = .ok (.iload 5, 2) := by decide +kernel
theorem dX5_laySums_34 : decode cX5_laySums 34 = .ok (.invokestatic 80, 3) := by decide +kernel
theorem dX5_laySums_37 : decode cX5_laySums 37 = .ok (.ifCond .eq 51, 3) := by decide +kernel
theorem dX5_laySums_40 : decode cX5_laySums 40 = .ok (.iload 4, 2) := by decide +kernel
theorem dX5_laySums_42 : decode cX5_laySums 42 = .ok (.iload 6, 2) := by decide +kernel
theorem dX5_laySums_44 : decode cX5_laySums 44 = .ok (.invokestatic 80, 3) := by decide +kernel
theorem dX5_laySums_47 : decode cX5_laySums 47 = .ok (.ifCond .eq 41, 3) := by decide +kernel
theorem dX5_laySums_50 : decode cX5_laySums 50 = .ok (.aload_n 0, 1) := by decide +kernel
theorem dX5_laySums_51 : decode cX5_laySums 51 = .ok (.aload_n 0, 1) := by decide +kernel
theorem dX5_laySums_52 : decode cX5_laySums 52 = .ok (.iload_n 1, 1) := by decide +kernel
theorem dX5_laySums_53 : decode cX5_laySums 53 = .ok (.iload 5, 2) := by decide +kernel
theorem dX5_laySums_55 : decode cX5_laySums 55 = .ok (.iconst 0, 1) := by decide +kernel
theorem dX5_laySums_56 : decode cX5_laySums 56 = .ok (.invokevirtual 60, 3) := by decide +kernel
theorem dX5_laySums_59 : decode cX5_laySums 59 = .ok (.aload_n 0, 1) := by decide +kernel
theorem dX5_laySums_60 : decode cX5_laySums 60 = .ok (.iload_n 3, 1) := by decide +kernel
theorem dX5_laySums_61 : decode cX5_laySums 61 = .ok (.iload 6, 2) := by decide +kernel
theorem dX5_laySums_63 : decode cX5_laySums 63 = .ok (.iconst 0, 1) := by decide +kernel
theorem dX5_laySums_64 : decode cX5_laySums 64 = .ok (.invokevirtual 60, 3) := by decide +kernel
theorem dX5_laySums_67 : decode cX5_laySums 67 = .ok (.iadd, 1) := by decide +kernel
theorem dX5_laySums_68 : decode cX5_laySums 68 = .ok (.aload_n 0, 1) := by decide +kernel
theorem dX5_laySums_69 : decode cX5_laySums 69 = .ok (.iload_n 1, 1) := by decide +kernel
theorem dX5_laySums_70 : decode cX5_laySums 70 = .ok (.iload 5, 2) := by decide +kernel
theorem dX5_laySums_72 : decode cX5_laySums 72 = .ok (.iconst 1, 1) := by decide +kernel
theorem dX5_laySums_73 : decode cX5_laySums 73 = .ok (.invokevirtual 60, 3) := by decide +kernel
theorem dX5_laySums_76 : decode cX5_laySums 76 = .ok (.aload_n 0, 1) := by decide +kernel
theorem dX5_laySums_77 : decode cX5_laySums 77 = .ok (.iload_n 3, 1) := by decide +kernel
theorem dX5_laySums_78 : decode cX5_laySums 78 = .ok (.iload 6, 2) := by decide +kernel
theorem dX5_laySums_80 : decode cX5_laySums 80 = .ok (.iconst 1, 1) := by decide +kernel
theorem dX5_laySums_81 : decode cX5_laySums 81 = .ok (.invokevirtual 60, 3) := by decide +kernel
theorem dX5_laySums_84 : decode cX5_laySums 84 = .ok (.iadd, 1) := by decide +kernel
theorem dX5_laySums_85 : decode cX5_laySums 85 = .ok (.invokevirtual 84, 3) := by decide +kernel
theorem dX5_laySums_88 : decode cX5_laySums 88 = .ok (.iinc 6 1, 3) := by decide +kernel
theorem dX5_laySums_91 : decode cX5_laySums 91 = .ok (.goto (-70), 3) := by decide +kernel
theorem dX5_laySums_94 : decode cX5_laySums 94 = .ok (.iinc 5 1, 3) := by decide +kernel
theorem dX5_laySums_97 : decode cX5_laySums 97 = .ok (.goto (-89), 3) := by decide +kernel
theorem dX5_laySums_100 : decode cX5_laySums 100 = .ok (.aload_n 0, 1) := by decide +kernel
theorem dX5_laySums_101 : decode cX5_laySums 101 = .ok (.invokevirtual 88, 3) := by decide +kernel
theorem dX5_laySums_104 : decode cX5_laySums 104 = .ok (.return_, 1) := by decide +kernel
theorem dX5_lies_0 : decode cX5_lies 0 = .ok (.iconst 0, 1) := by decide +kernel
theorem dX5_lies_1 : decode cX5_lies 1 = .ok (.istore_n 3, 1) := by decide +kernel
theorem dX5_lies_2 : decode cX5_lies 2 = .ok (.iconst 0, 1) := by decide +kernel
theorem dX5_lies_3 : decode cX5_lies 3 = .ok (.istore 4, 2) := by decide +kernel
theorem dX5_lies_5 : decode cX5_lies 5 = .ok (.iload 4, 2) := by decide +kernel
theorem dX5_lies_7 : decode cX5_lies 7 = .ok (.aload_n 0, 1) := by decide +kernel
theorem dX5_lies_8 : decode cX5_lies 8 = .ok (.getfield 74, 3) := by decide +kernel
theorem dX5_lies_11 : decode cX5_lies 11 = .ok (.if_icmp .ge 155, 3) := by decide +kernel
theorem dX5_lies_14 : decode cX5_lies 14 = .ok (.aload_n 0, 1) := by decide +kernel
theorem dX5_lies_15 : decode cX5_lies 15 = .ok (.getfield 26, 3) := by decide +kernel
theorem dX5_lies_18 : decode cX5_lies 18 = .ok (.iload 4, 2) := by decide +kernel
theorem dX5_lies_20 : decode cX5_lies 20 = .ok (.iaload, 1) := by decide +kernel
theorem dX5_lies_21 : decode cX5_lies 21 = .ok (.istore 5, 2) := by decide +kernel
theorem dX5_lies_23 : decode cX5_lies 23 = .ok (.aload_n 0, 1) := by decide +kernel
theorem dX5_lies_24 : decode cX5_lies 24 = .ok (.getfield 26, 3) := by decide +kernel
theorem dX5_lies_27 : decode cX5_lies 27 = .ok (.iload 4, 2) := by decide +kernel
theorem dX5_lies_29 : decode cX5_lies 29 = .ok (.iconst 1, 1) := by decide +kernel
theorem dX5_lies_30 : decode cX5_lies 30 = .ok (.iadd, 1) := by decide +kernel
theorem dX5_lies_31 : decode cX5_lies 31 = .ok (.aload_n 0, 1) := by decide +kernel
theorem dX5_lies_32 : decode cX5_lies 32 = .ok (.getfield 74, 3) := by decide +kernel
theorem dX5_lies_35 : decode cX5_lies 35 = .ok (.irem, 1) := by decide +kernel
theorem dX5_lies_36 : decode cX5_lies 36 = .ok (.iaload, 1) := by decide +kernel
theorem dX5_lies_37 : decode cX5_lies 37 = .ok (.istore 6, 2) := by decide +kernel
theorem dX5_lies_39 : decode cX5_lies 39 = .ok (.aload_n 0, 1) := by decide +kernel
theorem dX5_lies_40 : decode cX5_lies 40 = .ok (.getfield 20, 3) := by decide +kernel
theorem dX5_lies_43 : decode cX5_lies 43 = .ok (.iload 6, 2) := by decide +kernel
theorem dX5_lies_45 : decode cX5_lies 45 = .ok (.iaload, 1) := by decide +kernel
theorem dX5_lies_46 : decode cX5_lies 46 = .ok (.aload_n 0, 1) := by decide +kernel
theorem dX5_lies_47 : decode cX5_lies 47 = .ok (.getfield 20, 3) := by decide +kernel
theorem dX5_lies_50 : decode cX5_lies 50 = .ok (.iload 5, 2) := by decide +kernel
theorem dX5_lies_52 : decode cX5_lies 52 = .ok (.iaload, 1) := by decide +kernel
theorem dX5_lies_53 : decode cX5_lies 53 = .ok (.isub, 1) := by decide +kernel
theorem dX5_lies_54 : decode cX5_lies 54 = .ok (.iload_n 2, 1) := by decide +kernel
theorem dX5_lies_55 : decode cX5_lies 55 = .ok (.aload_n 0, 1) := by decide +kernel
theorem dX5_lies_56 : decode cX5_lies 56 = .ok (.getfield 23, 3) := by decide +kernel
theorem dX5_lies_59 : decode cX5_lies 59 = .ok (.iload 5, 2) := by decide +kernel
theorem dX5_lies_61 : decode cX5_lies 61 = .ok (.iaload, 1) := by decide +kernel
theorem dX5_lies_62 : decode cX5_lies 62 = .ok (.isub, 1) := by decide +kernel
theorem dX5_lies_63 : decode cX5_lies 63 = .ok (.imul, 1) := by decide +kernel
theorem dX5_lies_64 : decode cX5_lies 64 = .ok (.aload_n 0, 1) := by decide +kernel
theorem dX5_lies_65 : decode cX5_lies 65 = .ok (.getfield 23, 3) := by decide +kernel
theorem dX5_lies_68 : decode cX5_lies 68 = .ok (.iload 6, 2) := by decide +kernel
theorem dX5_lies_70 : decode cX5_lies 70 = .ok (.iaload, 1) := by decide +kernel
theorem dX5_lies_71 : decode cX5_lies 71 = .ok (.aload_n 0, 1) := by decide +kernel
theorem dX5_lies_72 : decode cX5_lies 72 = .ok (.getfield 23, 3) := by decide +kernel
theorem dX5_lies_75 : decode cX5_lies 75 = .ok (.iload 5, 2) := by decide +kernel
theorem dX5_lies_77 : decode cX5_lies 77 = .ok (.iaload, 1) := by decide +kernel
theorem dX5_lies_78 : decode cX5_lies 78 = .ok (.isub, 1) := by decide +kernel
theorem dX5_lies_79 : decode cX5_lies 79 = .ok (.iload_n 1, 1) := by decide +kernel
theorem dX5_lies_80 : decode cX5_lies 80 = .ok (.aload_n 0, 1) := by decide +kernel
theorem dX5_lies_81 : decode cX5_lies 81 = .ok (.getfield 20, 3) := by decide +kernel
theorem dX5_lies_84 : decode cX5_lies 84 = .ok (.iload 5, 2) := by decide +kernel
theorem dX5_lies_86 : decode cX5_lies 86 = .ok (.iaload, 1) := by decide +kernel
theorem dX5_lies_87 : decode cX5_lies 87 = .ok (.isub, 1) := by decide +kernel
theorem dX5_lies_88 : decode cX5_lies 88 = .ok (.imul, 1) := by decide +kernel
theorem dX5_lies_89 : decode cX5_lies 89 = .ok (.isub, 1) := by decide +kernel
theorem dX5_lies_90 : decode cX5_lies 90 = .ok (.istore 7, 2) := by decide +kernel
theorem dX5_lies_92 : decode cX5_lies 92 = .ok (.iload 7, 2) := by decide +kernel
theorem dX5_lies_94 : decode cX5_lies 94 = .ok (.ifCond .ge 5, 3) := by decide +kernel
theorem dX5_lies_97 : decode cX5_lies 97 = .ok (.iconst 0, 1) := by decide +kernel
theorem dX5_lies_98 : decode cX5_lies 98 = .ok (.ireturn, 1) := by decide +kernel
theorem dX5_lies_99 : decode cX5_lies 99 = .ok (.iload_n 1, 1) := by decide +kernel
theorem dX5_lies_100 : decode cX5_lies 100 = .ok (.aload_n 0, 1) := by decide +kernel
theorem dX5_lies_101 : decode cX5_lies 101 = .ok (.getfield 20, 3) := by decide +kernel
theorem dX5_lies_104 : decode cX5_lies 104 = .ok (.iload 5, 2) := by decide +kernel
theorem dX5_lies_106 : decode cX5_lies 106 = .ok (.iaload, 1) := by decide +kernel
theorem dX5_lies_107 : decode cX5_lies 107 = .ok (.isub, 1) := by decide +kernel
theorem dX5_lies_108 : decode cX5_lies 108 = .ok (.iload_n 1, 1) := by decide +kernel
theorem dX5_lies_109 : decode cX5_lies 109 = .ok (.aload_n 0, 1) := by decide +kernel
theorem dX5_lies_110 : decode cX5_lies 110 = .ok (.getfield 20, 3) := by decide +kernel
theorem dX5_lies_113 : decode cX5_lies 113 = .ok (.iload 6, 2) := by decide +kernel
theorem dX5_lies_115 : decode cX5_lies 115 = .ok (.iaload, 1) := by decide +kernel
theorem dX5_lies_116 : decode cX5_lies 116 = .ok (.isub, 1) := by decide +kernel
theorem dX5_lies_117 : decode cX5_lies 117 = .ok (.imul, 1) := by decide +kernel
theorem dX5_lies_118 : decode cX5_lies 118 = .ok (.iload_n 2, 1) := by decide +kernel
theorem dX5_lies_119 : decode cX5_lies 119 = .ok (.aload_n 0, 1) := by decide +kernel
theorem dX5_lies_120 : decode cX5_lies 120 = .ok (.getfield 23, 3) := by decide +kernel
theorem dX5_lies_123 : decode cX5_lies 123 = .ok (.iload 5, 2) := by decide +kernel
theorem dX5_lies_125 : decode cX5_lies 125 = .ok (.iaload, 1) := by decide +kernel
theorem dX5_lies_126 : decode cX5_lies 126 = .ok (.isub, 1) := by decide +kernel
theorem dX5_lies_127 : decode cX5_lies 127 = .ok (.iload_n 2, 1) := by decide +kernel
theorem dX5_lies_128 : decode cX5_lies 128 = .ok (.aload_n 0, 1) := by decide +kernel
theorem dX5_lies_129 : decode cX5_lies 129 = .ok (.getfield 23, 3) := by decide +kernel
theorem dX5_lies_132 : decode cX5_lies 132 = .ok (.iload 6, 2) := by decide +kernel
theorem dX5_lies_134 : decode cX5_lies 134 = .ok (.iaload, 1) := by decide +kernel
theorem dX5_lies_135 : decode cX5_lies 135 = .ok (.isub, 1) := by decide +kernel
theorem dX5_lies_136 : decode cX5_lies 136 = .ok (.imul, 1) := by decide +kernel
theorem dX5_lies_137 : decode cX5_lies 137 = .ok (.iadd, 1) := by decide +kernel
theorem dX5_lies_138 : decode cX5_lies 138 = .ok (.istore 8, 2) := by decide +kernel
theorem dX5_lies_140 : decode cX5_lies 140 = .ok (.iload_n 3, 1) := by decide +kernel
theorem dX5_lies_141 : decode cX5_lies 141 = .ok (.ifCond .ne 13, 3) := by decide +kernel
theorem dX5_lies_144 : decode cX5_lies 144 = .ok (.iload 7, 2) := by decide +kernel
theorem dX5_lies_146 : decode cX5_lies 146 = .ok (.ifCond .ne 12, 3) := by decide +kernel
theorem dX5_lies_149 : decode cX5_lies 149 = .ok (.iload 8, 2) := by decide +kernel
theorem dX5_lies_151 : decode cX5_lies 151 = .ok (.ifCond .gt 7, 3) := by decide +kernel
theorem dX5_lies_154 : decode cX5_lies 154 = .ok (.iconst 1, 1) := by decide +kernel
theorem dX5_lies_155 : decode cX5_lies 155 = .ok (.goto 4, 3) := by decide +kernel
theorem dX5_lies_158 : decode cX5_lies 158 = .ok (.iconst 0, 1) := by decide +kernel
theorem dX5_lies_159 : decode cX5_lies 159 = .ok (.istore_n 3, 1) := by decide +kernel
theorem dX5_lies_160 : decode cX5_lies 160 = .ok (.iinc 4 1, 3) := by decide +kernel
theorem dX5_lies_163 : decode cX5_lies 163 = .ok (.goto (-158), 3) := by decide +kernel
theorem dX5_lies_166 : decode cX5_lies 166 = .ok (.iload_n 3, 1) := by decide +kernel
theorem dX5_lies_167 : decode cX5_lies 167 = .ok (.ifCond .eq 7, 3) := by decide +kernel
theorem dX5_lies_170 : decode cX5_lies 170 = .ok (.iconst 1, 1) := by decide +kernel
theorem dX5_lies_171 : decode cX5_lies 171 = .ok (.goto 16, 3) := by decide +kernel
theorem dX5_lies_174 : decode cX5_lies 174 = .ok (.aload_n 0, 1) := by decide +kernel
theorem dX5_lies_175 : decode cX5_lies 175 = .ok (.getfield 74, 3) := by decide +kernel
theorem dX5_lies_178 : decode cX5_lies 178 = .ok (.iconst 2, 1) := by decide +kernel
theorem dX5_lies_179 : decode cX5_lies 179 = .ok (.if_icmp .le 7, 3) := by decide +kernel
theorem dX5_lies_182 : decode cX5_lies 182 = .ok (.iconst 2, 1) := by decide +kernel
theorem dX5_lies_183 : decode cX5_lies 183 = .ok (.goto 4, 3) := by decide +kernel
theorem dX5_lies_186 : decode cX5_lies 186 = .ok (.iconst 0, 1) := by decide +kernel
theorem dX5_lies_187 : decode cX5_lies 187 = .ok (.ireturn, 1) := by decide +kernel
theorem dX5_lattice_0 : decode cX5_lattice 0 = .ok (.iconst 0, 1) := by decide +kernel
theorem dX5_lattice_1 : decode cX5_lattice 1 = .ok (.istore_n 2, 1) := by decide +kernel
theorem dX5_lattice_2 : decode cX5_lattice 2 = .ok (.iload_n 1, 1) := by decide +kernel
theorem dX5_lattice_3 : decode cX5_lattice 3 = .ok (.iconst 1, 1) := by decide +kernel
theorem dX5_lattice_4 : decode cX5_lattice 4 = .ok (.if_icmp .ne 7, 3) := by decide +kernel
theorem dX5_lattice_7 : decode cX5_lattice 7 = .ok (.iconst 2, 1) := by decide +kernel
theorem dX5_lattice_8 : decode cX5_lattice 8 = .ok (.goto 4, 3) := by decide +kernel
theorem dX5_lattice_11 : decode cX5_lattice 11 = .ok (.iconst 1, 1) := by decide +kernel
theorem dX5_lattice_12 : decode cX5_lattice 12 = .ok (.istore_n 3, 1) := by decide +kernel
theorem dX5_lattice_13 : decode cX5_lattice 13 = .ok (.iconst 0, 1) := by decide +kernel
theorem dX5_lattice_14 : decode cX5_lattice 14 = .ok (.istore 4, 2) := by decide +kernel
theorem dX5_lattice_16 : decode cX5_lattice 16 = .ok (.iload 4, 2) := by decide +kernel
theorem dX5_lattice_18 : decode cX5_lattice 18 = .ok (.bipush 12, 2) := by decide +kernel
theorem dX5_lattice_20 : decode cX5_lattice 20 = .ok (.if_icmp .gt 49, 3) := by decide +kernel
theorem dX5_lattice_23 : decode cX5_lattice 23 = .ok (.iconst 0, 1) := by decide +kernel
theorem dX5_lattice_24 : decode cX5_lattice 24 = .ok (.istore 5, 2) := by decide +kernel
theorem dX5_lattice_26 : decode cX5_lattice 26 = .ok (.iload 5, 2) := by decide +kernel
theorem dX5_lattice_28 : decode cX5_lattice 28 = .ok (.bipush 12, 2) := by decide +kernel
theorem dX5_lattice_30 : decode cX5_lattice 30 = .ok (.if_icmp .gt 33, 3) := by decide +kernel
theorem dX5_lattice_33 : decode cX5_lattice 33 = .ok (.iload_n 2, 1) := by decide +kernel
theorem dX5_lattice_34 : decode cX5_lattice 34 = .ok (.aload_n 0, 1) := by decide +kernel
theorem dX5_lattice_35 : decode cX5_lattice 35 = .ok (.iload 4, 2) := by decide +kernel
theorem dX5_lattice_37 : decode cX5_lattice 37 = .ok (.iload 5, 2) := by decide +kernel
theorem dX5_lattice_39 : decode cX5_lattice 39 = .ok (.invokevirtual 91, 3) := by decide +kernel
theorem dX5_lattice_42 : decode cX5_lattice 42 = .ok (.iconst 1, 1) := by decide +kernel
theorem dX5_lattice_43 : decode cX5_lattice 43 = .ok (.iload_n 3, 1) := by decide +kernel
theorem dX5_lattice_44 : decode cX5_lattice 44 = .ok (.invokestatic 44, 3) := by decide +kernel
theorem dX5_lattice_47 : decode cX5_lattice 47 = .ok (.ifCond .eq 7, 3) := by decide +kernel
theorem dX5_lattice_50 : decode cX5_lattice 50 = .ok (.iconst 1, 1) := by decide +kernel
theorem dX5_lattice_51 : decode cX5_lattice 51 = .ok (.goto 4, 3) := by decide +kernel
theorem dX5_lattice_54 : decode cX5_lattice 54 = .ok (.iconst 0, 1) := by decide +kernel
theorem dX5_lattice_55 : decode cX5_lattice 55 = .ok (.iadd, 1) := by decide +kernel
theorem dX5_lattice_56 : decode cX5_lattice 56 = .ok (.istore_n 2, 1) := by decide +kernel
theorem dX5_lattice_57 : decode cX5_lattice 57 = .ok (.iinc 5 1, 3) := by decide +kernel
theorem dX5_lattice_60 : decode cX5_lattice 60 = .ok (.goto (-34), 3) := by decide +kernel
theorem dX5_lattice_63 : decode cX5_lattice 63 = .ok (.iinc 4 1, 3) := by decide +kernel
theorem dX5_lattice_66 : decode cX5_lattice 66 = .ok (.goto (-50), 3) := by decide +kernel
theorem dX5_lattice_69 : decode cX5_lattice 69 = .ok (.iload_n 2, 1) := by decide +kernel
theorem dX5_lattice_70 : decode cX5_lattice 70 = .ok (.ireturn, 1) := by decide +kernel
theorem dX5_hull_0 : decode cX5_hull 0 = .ok (.iload_n 1, 1) := by decide +kernel
theorem dX5_hull_1 : decode cX5_hull 1 = .ok (.invokestatic 52, 3) := by decide +kernel
theorem dX5_hull_4 : decode cX5_hull 4 = .ok (.ifCond .ne 5, 3) := by decide +kernel
theorem dX5_hull_7 : decode cX5_hull 7 = .ok (.iconst (-1), 1) := by decide +kernel
theorem dX5_hull_8 : decode cX5_hull 8 = .ok (.ireturn, 1) := by decide +kernel
theorem dX5_hull_9 : decode cX5_hull 9 = .ok (.iload_n 2, 1) := by decide +kernel
theorem dX5_hull_10 : decode cX5_hull 10 = .ok (.iconst 0, 1) := by decide +kernel
theorem dX5_hull_11 : decode cX5_hull 11 = .ok (.iconst 4, 1) := by decide +kernel
theorem dX5_hull_12 : decode cX5_hull 12 = .ok (.invokestatic 44, 3) := by decide +kernel
theorem dX5_hull_15 : decode cX5_hull 15 = .ok (.ifCond .ne 6, 3) := by decide +kernel
theorem dX5_hull_18 : decode cX5_hull 18 = .ok (.bipush (-2), 2) := by decide +kernel
theorem dX5_hull_20 : decode cX5_hull 20 = .ok (.ireturn, 1) := by decide +kernel
theorem dX5_hull_21 : decode cX5_hull 21 = .ok (.aload_n 0, 1) := by decide +kernel
theorem dX5_hull_22 : decode cX5_hull 22 = .ok (.iload_n 1, 1) := by decide +kernel
theorem dX5_hull_23 : decode cX5_hull 23 = .ok (.bipush 127, 2) := by decide +kernel
theorem dX5_hull_25 : decode cX5_hull 25 = .ok (.invokevirtual 94, 3) := by decide +kernel
theorem dX5_hull_28 : decode cX5_hull 28 = .ok (.iload_n 2, 1) := by decide +kernel
theorem dX5_hull_29 : decode cX5_hull 29 = .ok (.tableswitch 53 0 3 #[31, 36, 41, 47], 31) := by decide +kernel
theorem dX5_hull_60 : decode cX5_hull 60 = .ok (.aload_n 0, 1) := by decide +kernel
theorem dX5_hull_61 : decode cX5_hull 61 = .ok (.invokevirtual 97, 3) := by decide +kernel
theorem dX5_hull_64 : decode cX5_hull 64 = .ok (.ireturn, 1) := by decide +kernel
theorem dX5_hull_65 : decode cX5_hull 65 = .ok (.aload_n 0, 1) := by decide +kernel
theorem dX5_hull_66 : decode cX5_hull 66 = .ok (.getfield 74, 3) := by decide +kernel
theorem dX5_hull_69 : decode cX5_hull 69 = .ok (.ireturn, 1) := by decide +kernel
theorem dX5_hull_70 : decode cX5_hull 70 = .ok (.aload_n 0, 1) := by decide +kernel
theorem dX5_hull_71 : decode cX5_hull 71 = .ok (.iconst 1, 1) := by decide +kernel
theorem dX5_hull_72 : decode cX5_hull 72 = .ok (.invokevirtual 101, 3) := by decide +kernel
theorem dX5_hull_75 : decode cX5_hull 75 = .ok (.ireturn, 1) := by decide +kernel
theorem dX5_hull_76 : decode cX5_hull 76 = .ok (.aload_n 0, 1) := by decide +kernel
theorem dX5_hull_77 : decode cX5_hull 77 = .ok (.iconst 0, 1) := by decide +kernel
theorem dX5_hull_78 : decode cX5_hull 78 = .ok (.invokevirtual 101, 3) := by decide +kernel
theorem dX5_hull_81 : decode cX5_hull 81 = .ok (.ireturn, 1) := by decide +kernel
theorem dX5_hull_82 : decode cX5_hull 82 = .ok (.aload_n 0, 1) := by decide +kernel
theorem dX5_hull_83 : decode cX5_hull 83 = .ok (.invokevirtual 104, 3) := by decide +kernel
theorem dX5_hull_86 : decode cX5_hull 86 = .ok (.ireturn, 1) := by decide +kernel
theorem dX5_corner_0 : decode cX5_corner 0 = .ok (.iload_n 1, 1) := by decide +kernel
theorem dX5_corner_1 : decode cX5_corner 1 = .ok (.invokestatic 52, 3) := by decide +kernel
theorem dX5_corner_4 : decode cX5_corner 4 = .ok (.ifCond .ne 5, 3) := by decide +kernel
theorem dX5_corner_7 : decode cX5_corner 7 = .ok (.iconst (-1), 1) := by decide +kernel
theorem dX5_corner_8 : decode cX5_corner 8 = .ok (.ireturn, 1) := by decide +kernel
theorem dX5_corner_9 : decode cX5_corner 9 = .ok (.aload_n 0, 1) := by decide +kernel
theorem dX5_corner_10 : decode cX5_corner 10 = .ok (.iload_n 1, 1) := by decide +kernel
theorem dX5_corner_11 : decode cX5_corner 11 = .ok (.bipush 127, 2) := by decide +kernel
theorem dX5_corner_13 : decode cX5_corner 13 = .ok (.invokevirtual 94, 3) := by decide +kernel
theorem dX5_corner_16 : decode cX5_corner 16 = .ok (.iload_n 2, 1) := by decide +kernel
theorem dX5_corner_17 : decode cX5_corner 17 = .ok (.iconst 0, 1) := by decide +kernel
theorem dX5_corner_18 : decode cX5_corner 18 = .ok (.aload_n 0, 1) := by decide +kernel
theorem dX5_corner_19 : decode cX5_corner 19 = .ok (.getfield 74, 3) := by decide +kernel
theorem dX5_corner_22 : decode cX5_corner 22 = .ok (.iconst 1, 1) := by decide +kernel
theorem dX5_corner_23 : decode cX5_corner 23 = .ok (.isub, 1) := by decide +kernel
theorem dX5_corner_24 : decode cX5_corner 24 = .ok (.invokestatic 44, 3) := by decide +kernel
theorem dX5_corner_27 : decode cX5_corner 27 = .ok (.ifCond .eq 12, 3) := by decide +kernel
theorem dX5_corner_30 : decode cX5_corner 30 = .ok (.aload_n 0, 1) := by decide +kernel
theorem dX5_corner_31 : decode cX5_corner 31 = .ok (.getfield 26, 3) := by decide +kernel
theorem dX5_corner_34 : decode cX5_corner 34 = .ok (.iload_n 2, 1) := by decide +kernel
theorem dX5_corner_35 : decode cX5_corner 35 = .ok (.iaload, 1) := by decide +kernel
theorem dX5_corner_36 : decode cX5_corner 36 = .ok (.goto 5, 3) := by decide +kernel
theorem dX5_corner_39 : decode cX5_corner 39 = .ok (.bipush (-6), 2) := by decide +kernel
theorem dX5_corner_41 : decode cX5_corner 41 = .ok (.ireturn, 1) := by decide +kernel
theorem dX5_areaOf_0 : decode cX5_areaOf 0 = .ok (.aload_n 0, 1) := by decide +kernel
theorem dX5_areaOf_1 : decode cX5_areaOf 1 = .ok (.iload_n 1, 1) := by decide +kernel
theorem dX5_areaOf_2 : decode cX5_areaOf 2 = .ok (.iload_n 2, 1) := by decide +kernel
theorem dX5_areaOf_3 : decode cX5_areaOf 3 = .ok (.invokevirtual 94, 3) := by decide +kernel
theorem dX5_areaOf_6 : decode cX5_areaOf 6 = .ok (.aload_n 0, 1) := by decide +kernel
theorem dX5_areaOf_7 : decode cX5_areaOf 7 = .ok (.invokevirtual 97, 3) := by decide +kernel
theorem dX5_areaOf_10 : decode cX5_areaOf 10 = .ok (.ireturn, 1) := by decide +kernel
theorem dX5_areaOfSums_0 : decode cX5_areaOfSums 0 = .ok (.aload_n 0, 1) := by decide +kernel
theorem dX5_areaOfSums_1 : decode cX5_areaOfSums 1 = .ok (.iload_n 1, 1) := by decide +kernel
theorem dX5_areaOfSums_2 : decode cX5_areaOfSums 2 = .ok (.iload_n 2, 1) := by decide +kernel
theorem dX5_areaOfSums_3 : decode cX5_areaOfSums 3 = .ok (.iload_n 3, 1) := by decide +kernel
theorem dX5_areaOfSums_4 : decode cX5_areaOfSums 4 = .ok (.iload 4, 2) := by decide +kernel
theorem dX5_areaOfSums_6 : decode cX5_areaOfSums 6 = .ok (.invokevirtual 107, 3) := by decide +kernel
theorem dX5_areaOfSums_9 : decode cX5_areaOfSums 9 = .ok (.aload_n 0, 1) := by decide +kernel
theorem dX5_areaOfSums_10 : decode cX5_areaOfSums 10 = .ok (.invokevirtual 97, 3) := by decide +kernel
theorem dX5_areaOfSums_13 : decode cX5_areaOfSums 13 = .ok (.ireturn, 1) := by decide +kernel
theorem dX5_sum_0 : decode cX5_sum 0 = .ok (.iload_n 1, 1) := by decide +kernel
theorem dX5_sum_1 : decode cX5_sum 1 = .ok (.invokestatic 52, 3) := by decide +kernel
theorem dX5_sum_4 : decode cX5_sum 4 = .ok (.ifCond .eq 10, 3) := by decide +kernel
theorem dX5_sum_7 : decode cX5_sum 7 = .ok (.iload_n 2, 1) := by decide +kernel
theorem dX5_sum_8 : decode cX5_sum 8 = .ok (.invokestatic 52, 3) := by decide +kernel
theorem dX5_sum_11 : decode cX5_sum 11 = .ok (.ifCond .ne 5, 3) := by decide +kernel
theorem dX5_sum_14 : decode cX5_sum 14 = .ok (.iconst (-1), 1) := by decide +kernel
theorem dX5_sum_15 : decode cX5_sum 15 = .ok (.ireturn, 1) := by decide +kernel
theorem dX5_sum_16 : decode cX5_sum 16 = .ok (.iload_n 3, 1) := by decide +kernel
theorem dX5_sum_17 : decode cX5_sum 17 = .ok (.iconst 0, 1) := by decide +kernel
theorem dX5_sum_18 : decode cX5_sum 18 = .ok (.iconst 3, 1) := by decide +kernel
theorem dX5_sum_19 : decode cX5_sum 19 = .ok (.invokestatic 44, 3) := by decide +kernel
theorem dX5_sum_22 : decode cX5_sum 22 = .ok (.ifCond .ne 6, 3) := by decide +kernel
theorem dX5_sum_25 : decode cX5_sum 25 = .ok (.bipush (-2), 2) := by decide +kernel
theorem dX5_sum_27 : decode cX5_sum 27 = .ok (.ireturn, 1) := by decide +kernel
theorem dX5_sum_28 : decode cX5_sum 28 = .ok (.iload_n 3, 1) := by decide +kernel
theorem dX5_sum_29 : decode cX5_sum 29 = .ok (.iconst 3, 1) := by decide +kernel
theorem dX5_sum_30 : decode cX5_sum 30 = .ok (.if_icmp .ne 50, 3) := by decide +kernel
theorem dX5_sum_33 : decode cX5_sum 33 = .ok (.aload_n 0, 1) := by decide +kernel
theorem dX5_sum_34 : decode cX5_sum 34 = .ok (.iload_n 1, 1) := by decide +kernel
theorem dX5_sum_35 : decode cX5_sum 35 = .ok (.invokevirtual 56, 3) := by decide +kernel
theorem dX5_sum_38 : decode cX5_sum 38 = .ok (.ifCond .eq 11, 3) := by decide +kernel
theorem dX5_sum_41 : decode cX5_sum 41 = .ok (.aload_n 0, 1) := by decide +kernel
theorem dX5_sum_42 : decode cX5_sum 42 = .ok (.iload_n 2, 1) := by decide +kernel
theorem dX5_sum_43 : decode cX5_sum 43 = .ok (.invokevirtual 56, 3) := by decide +kernel
theorem dX5_sum_46 : decode cX5_sum 46 = .ok (.ifCond .ne 7, 3) := by decide +kernel
theorem dX5_sum_49 : decode cX5_sum 49 = .ok (.iconst 0, 1) := by decide +kernel
theorem dX5_sum_50 : decode cX5_sum 50 = .ok (.goto 29, 3) := by decide +kernel
theorem dX5_sum_53 : decode cX5_sum 53 = .ok (.aload_n 0, 1) := by decide +kernel
theorem dX5_sum_54 : decode cX5_sum 54 = .ok (.iload_n 1, 1) := by decide +kernel
theorem dX5_sum_55 : decode cX5_sum 55 = .ok (.bipush 127, 2) := by decide +kernel
theorem dX5_sum_57 : decode cX5_sum 57 = .ok (.iload_n 2, 1) := by decide +kernel
theorem dX5_sum_58 : decode cX5_sum 58 = .ok (.bipush 127, 2) := by decide +kernel
theorem dX5_sum_60 : decode cX5_sum 60 = .ok (.invokevirtual 111, 3) := by decide +kernel
theorem dX5_sum_63 : decode cX5_sum 63 = .ok (.aload_n 0, 1) := by decide +kernel
theorem dX5_sum_64 : decode cX5_sum 64 = .ok (.iload_n 1, 1) := by decide +kernel
theorem dX5_sum_65 : decode cX5_sum 65 = .ok (.bipush 127, 2) := by decide +kernel
theorem dX5_sum_67 : decode cX5_sum 67 = .ok (.invokevirtual 115, 3) := by decide +kernel
theorem dX5_sum_70 : decode cX5_sum 70 = .ok (.isub, 1) := by decide +kernel
theorem dX5_sum_71 : decode cX5_sum 71 = .ok (.aload_n 0, 1) := by decide +kernel
theorem dX5_sum_72 : decode cX5_sum 72 = .ok (.iload_n 2, 1) := by decide +kernel
theorem dX5_sum_73 : decode cX5_sum 73 = .ok (.bipush 127, 2) := by decide +kernel
theorem dX5_sum_75 : decode cX5_sum 75 = .ok (.invokevirtual 115, 3) := by decide +kernel
theorem dX5_sum_78 : decode cX5_sum 78 = .ok (.isub, 1) := by decide +kernel
theorem dX5_sum_79 : decode cX5_sum 79 = .ok (.ireturn, 1) := by decide +kernel
theorem dX5_sum_80 : decode cX5_sum 80 = .ok (.aload_n 0, 1) := by decide +kernel
theorem dX5_sum_81 : decode cX5_sum 81 = .ok (.iload_n 1, 1) := by decide +kernel
theorem dX5_sum_82 : decode cX5_sum 82 = .ok (.bipush 127, 2) := by decide +kernel
theorem dX5_sum_84 : decode cX5_sum 84 = .ok (.iload_n 2, 1) := by decide +kernel
theorem dX5_sum_85 : decode cX5_sum 85 = .ok (.bipush 127, 2) := by decide +kernel
theorem dX5_sum_87 : decode cX5_sum 87 = .ok (.invokevirtual 107, 3) := by decide +kernel
theorem dX5_sum_90 : decode cX5_sum 90 = .ok (.iload_n 3, 1) := by decide +kernel
theorem dX5_sum_91 : decode cX5_sum 91 = .ok (.ifCond .ne 10, 3) := by decide +kernel
theorem dX5_sum_94 : decode cX5_sum 94 = .ok (.aload_n 0, 1) := by decide +kernel
theorem dX5_sum_95 : decode cX5_sum 95 = .ok (.getfield 63, 3) := by decide +kernel
theorem dX5_sum_98 : decode cX5_sum 98 = .ok (.goto 19, 3) := by decide +kernel
theorem dX5_sum_101 : decode cX5_sum 101 = .ok (.iload_n 3, 1) := by decide +kernel
theorem dX5_sum_102 : decode cX5_sum 102 = .ok (.iconst 1, 1) := by decide +kernel
theorem dX5_sum_103 : decode cX5_sum 103 = .ok (.if_icmp .ne 10, 3) := by decide +kernel
theorem dX5_sum_106 : decode cX5_sum 106 = .ok (.aload_n 0, 1) := by decide +kernel
theorem dX5_sum_107 : decode cX5_sum 107 = .ok (.invokevirtual 97, 3) := by decide +kernel
theorem dX5_sum_110 : decode cX5_sum 110 = .ok (.goto 7, 3) := by decide +kernel
theorem dX5_sum_113 : decode cX5_sum 113 = .ok (.aload_n 0, 1) := by decide +kernel
theorem dX5_sum_114 : decode cX5_sum 114 = .ok (.getfield 74, 3) := by decide +kernel
theorem dX5_sum_117 : decode cX5_sum 117 = .ok (.ireturn, 1) := by decide +kernel
theorem dX5_sumCorner_0 : decode cX5_sumCorner 0 = .ok (.iload_n 1, 1) := by decide +kernel
theorem dX5_sumCorner_1 : decode cX5_sumCorner 1 = .ok (.invokestatic 52, 3) := by decide +kernel
theorem dX5_sumCorner_4 : decode cX5_sumCorner 4 = .ok (.ifCond .eq 10, 3) := by decide +kernel
theorem dX5_sumCorner_7 : decode cX5_sumCorner 7 = .ok (.iload_n 2, 1) := by decide +kernel
theorem dX5_sumCorner_8 : decode cX5_sumCorner 8 = .ok (.invokestatic 52, 3) := by decide +kernel
theorem dX5_sumCorner_11 : decode cX5_sumCorner 11 = .ok (.ifCond .ne 5, 3) := by decide +kernel
theorem dX5_sumCorner_14 : decode cX5_sumCorner 14 = .ok (.iconst (-1), 1) := by decide +kernel
theorem dX5_sumCorner_15 : decode cX5_sumCorner 15 = .ok (.ireturn, 1) := by decide +kernel
theorem dX5_sumCorner_16 : decode cX5_sumCorner 16 = .ok (.iload 4, 2) := by decide +kernel
theorem dX5_sumCorner_18 : decode cX5_sumCorner 18 = .ok (.iconst 0, 1) := by decide +kernel
theorem dX5_sumCorner_19 : decode cX5_sumCorner 19 = .ok (.iconst 1, 1) := by decide +kernel
theorem dX5_sumCorner_20 : decode cX5_sumCorner 20 = .ok (.invokestatic 44, 3) := by decide +kernel
theorem dX5_sumCorner_23 : decode cX5_sumCorner 23 = .ok (.ifCond .ne 6, 3) := by decide +kernel
theorem dX5_sumCorner_26 : decode cX5_sumCorner 26 = .ok (.bipush (-2), 2) := by decide +kernel
theorem dX5_sumCorner_28 : decode cX5_sumCorner 28 = .ok (.ireturn, 1) := by decide +kernel
theorem dX5_sumCorner_29 : decode cX5_sumCorner 29 = .ok (.aload_n 0, 1) := by decide +kernel
theorem dX5_sumCorner_30 : decode cX5_sumCorner 30 = .ok (.iload_n 1, 1) := by decide +kernel
theorem dX5_sumCorner_31 : decode cX5_sumCorner 31 = .ok (.bipush 127, 2) := by decide +kernel
theorem dX5_sumCorner_33 : decode cX5_sumCorner 33 = .ok (.iload_n 2, 1) := by decide +kernel
theorem dX5_sumCorner_34 : decode cX5_sumCorner 34 = .ok (.bipush 127, 2) := by decide +kernel
theorem dX5_sumCorner_36 : decode cX5_sumCorner 36 = .ok (.invokevirtual 107, 3) := by decide +kernel
theorem dX5_sumCorner_39 : decode cX5_sumCorner 39 = .ok (.iload_n 3, 1) := by decide +kernel
theorem dX5_sumCorner_40 : decode cX5_sumCorner 40 = .ok (.iconst 0, 1) := by decide +kernel
theorem dX5_sumCorner_41 : decode cX5_sumCorner 41 = .ok (.aload_n 0, 1) := by decide +kernel
theorem dX5_sumCorner_42 : decode cX5_sumCorner 42 = .ok (.getfield 74, 3) := by decide +kernel
theorem dX5_sumCorner_45 : decode cX5_sumCorner 45 = .ok (.iconst 1, 1) := by decide +kernel
theorem dX5_sumCorner_46 : decode cX5_sumCorner 46 = .ok (.isub, 1) := by decide +kernel
theorem dX5_sumCorner_47 : decode cX5_sumCorner 47 = .ok (.invokestatic 44, 3) := by decide +kernel
theorem dX5_sumCorner_50 : decode cX5_sumCorner 50 = .ok (.ifCond .ne 6, 3) := by decide +kernel
theorem dX5_sumCorner_53 : decode cX5_sumCorner 53 = .ok (.bipush (-6), 2) := by decide +kernel
theorem dX5_sumCorner_55 : decode cX5_sumCorner 55 = .ok (.ireturn, 1) := by decide +kernel
theorem dX5_sumCorner_56 : decode cX5_sumCorner 56 = .ok (.iload 4, 2) := by decide +kernel
theorem dX5_sumCorner_58 : decode cX5_sumCorner 58 = .ok (.ifCond .ne 17, 3) := by decide +kernel
theorem dX5_sumCorner_61 : decode cX5_sumCorner 61 = .ok (.aload_n 0, 1) := by decide +kernel
theorem dX5_sumCorner_62 : decode cX5_sumCorner 62 = .ok (.getfield 20, 3) := by decide +kernel
theorem dX5_sumCorner_65 : decode cX5_sumCorner 65 = .ok (.aload_n 0, 1) := by decide +kernel
theorem dX5_sumCorner_66 : decode cX5_sumCorner 66 = .ok (.getfield 26, 3) := by decide +kernel
theorem dX5_sumCorner_69 : decode cX5_sumCorner 69 = .ok (.iload_n 3, 1) := by decide +kernel
theorem dX5_sumCorner_70 : decode cX5_sumCorner 70 = .ok (.iaload, 1) := by decide +kernel
theorem dX5_sumCorner_71 : decode cX5_sumCorner 71 = .ok (.iaload, 1) := by decide +kernel
theorem dX5_sumCorner_72 : decode cX5_sumCorner 72 = .ok (.goto 14, 3) := by decide +kernel
theorem dX5_sumCorner_75 : decode cX5_sumCorner 75 = .ok (.aload_n 0, 1) := by decide +kernel
theorem dX5_sumCorner_76 : decode cX5_sumCorner 76 = .ok (.getfield 23, 3) := by decide +kernel
theorem dX5_sumCorner_79 : decode cX5_sumCorner 79 = .ok (.aload_n 0, 1) := by decide +kernel
theorem dX5_sumCorner_80 : decode cX5_sumCorner 80 = .ok (.getfield 26, 3) := by decide +kernel
theorem dX5_sumCorner_83 : decode cX5_sumCorner 83 = .ok (.iload_n 3, 1) := by decide +kernel
theorem dX5_sumCorner_84 : decode cX5_sumCorner 84 = .ok (.iaload, 1) := by decide +kernel
theorem dX5_sumCorner_85 : decode cX5_sumCorner 85 = .ok (.iaload, 1) := by decide +kernel
theorem dX5_sumCorner_86 : decode cX5_sumCorner 86 = .ok (.ireturn, 1) := by decide +kernel
theorem dX5_lowBy_0 : decode cX5_lowBy 0 = .ok (.iconst 0, 1) := by decide +kernel
theorem dX5_lowBy_1 : decode cX5_lowBy 1 = .ok (.istore 5, 2) := by decide +kernel
theorem dX5_lowBy_3 : decode cX5_lowBy 3 = .ok (.iconst 0, 1) := by decide +kernel
theorem dX5_lowBy_4 : decode cX5_lowBy 4 = .ok (.istore 6, 2) := by decide +kernel
theorem dX5_lowBy_6 : decode cX5_lowBy 6 = .ok (.iconst 0, 1) := by decide +kernel
theorem dX5_lowBy_7 : decode cX5_lowBy 7 = .ok (.istore 7, 2) := by decide +kernel
theorem dX5_lowBy_9 : decode cX5_lowBy 9 = .ok (.iload 7, 2) := by decide +kernel
theorem dX5_lowBy_11 : decode cX5_lowBy 11 = .ok (.aload_n 0, 1) := by decide +kernel
theorem dX5_lowBy_12 : decode cX5_lowBy 12 = .ok (.iload_n 1, 1) := by decide +kernel
theorem dX5_lowBy_13 : decode cX5_lowBy 13 = .ok (.invokevirtual 56, 3) := by decide +kernel
theorem dX5_lowBy_16 : decode cX5_lowBy 16 = .ok (.if_icmp .ge 83, 3) := by decide +kernel
theorem dX5_lowBy_19 : decode cX5_lowBy 19 = .ok (.aload_n 0, 1) := by decide +kernel
theorem dX5_lowBy_20 : decode cX5_lowBy 20 = .ok (.iload_n 1, 1) := by decide +kernel
theorem dX5_lowBy_21 : decode cX5_lowBy 21 = .ok (.iload 7, 2) := by decide +kernel
theorem dX5_lowBy_23 : decode cX5_lowBy 23 = .ok (.iconst 2, 1) := by decide +kernel
theorem dX5_lowBy_24 : decode cX5_lowBy 24 = .ok (.invokevirtual 60, 3) := by decide +kernel
theorem dX5_lowBy_27 : decode cX5_lowBy 27 = .ok (.iload 4, 2) := by decide +kernel
theorem dX5_lowBy_29 : decode cX5_lowBy 29 = .ok (.imul, 1) := by decide +kernel
theorem dX5_lowBy_30 : decode cX5_lowBy 30 = .ok (.aload_n 0, 1) := by decide +kernel
theorem dX5_lowBy_31 : decode cX5_lowBy 31 = .ok (.iload_n 1, 1) := by decide +kernel
theorem dX5_lowBy_32 : decode cX5_lowBy 32 = .ok (.iload 7, 2) := by decide +kernel
theorem dX5_lowBy_34 : decode cX5_lowBy 34 = .ok (.iconst 0, 1) := by decide +kernel
theorem dX5_lowBy_35 : decode cX5_lowBy 35 = .ok (.invokevirtual 60, 3) := by decide +kernel
theorem dX5_lowBy_38 : decode cX5_lowBy 38 = .ok (.iload_n 2, 1) := by decide +kernel
theorem dX5_lowBy_39 : decode cX5_lowBy 39 = .ok (.imul, 1) := by decide +kernel
theorem dX5_lowBy_40 : decode cX5_lowBy 40 = .ok (.iadd, 1) := by decide +kernel
theorem dX5_lowBy_41 : decode cX5_lowBy 41 = .ok (.aload_n 0, 1) := by decide +kernel
theorem dX5_lowBy_42 : decode cX5_lowBy 42 = .ok (.iload_n 1, 1) := by decide +kernel
theorem dX5_lowBy_43 : decode cX5_lowBy 43 = .ok (.iload 7, 2) := by decide +kernel
theorem dX5_lowBy_45 : decode cX5_lowBy 45 = .ok (.iconst 1, 1) := by decide +kernel
theorem dX5_lowBy_46 : decode cX5_lowBy 46 = .ok (.invokevirtual 60, 3) := by decide +kernel
theorem dX5_lowBy_49 : decode cX5_lowBy 49 = .ok (.iload_n 3, 1) := by decide +kernel
theorem dX5_lowBy_50 : decode cX5_lowBy 50 = .ok (.imul, 1) := by decide +kernel
theorem dX5_lowBy_51 : decode cX5_lowBy 51 = .ok (.iadd, 1) := by decide +kernel
theorem dX5_lowBy_52 : decode cX5_lowBy 52 = .ok (.istore 8, 2) := by decide +kernel
theorem dX5_lowBy_54 : decode cX5_lowBy 54 = .ok (.iload 5, 2) := by decide +kernel
theorem dX5_lowBy_56 : decode cX5_lowBy 56 = .ok (.ifCond .eq 10, 3) := by decide +kernel
theorem dX5_lowBy_59 : decode cX5_lowBy 59 = .ok (.iload 8, 2) := by decide +kernel
theorem dX5_lowBy_61 : decode cX5_lowBy 61 = .ok (.iload 6, 2) := by decide +kernel
theorem dX5_lowBy_63 : decode cX5_lowBy 63 = .ok (.if_icmp .ge 10, 3) := by decide +kernel
theorem dX5_lowBy_66 : decode cX5_lowBy 66 = .ok (.iconst 0, 1) := by decide +kernel
theorem dX5_lowBy_67 : decode cX5_lowBy 67 = .ok (.istore 5, 2) := by decide +kernel
theorem dX5_lowBy_69 : decode cX5_lowBy 69 = .ok (.iload 8, 2) := by decide +kernel
theorem dX5_lowBy_71 : decode cX5_lowBy 71 = .ok (.istore 6, 2) := by decide +kernel
theorem dX5_lowBy_73 : decode cX5_lowBy 73 = .ok (.iload 5, 2) := by decide +kernel
theorem dX5_lowBy_75 : decode cX5_lowBy 75 = .ok (.iload 8, 2) := by decide +kernel
theorem dX5_lowBy_77 : decode cX5_lowBy 77 = .ok (.iload 6, 2) := by decide +kernel
theorem dX5_lowBy_79 : decode cX5_lowBy 79 = .ok (.if_icmp .ne 10, 3) := by decide +kernel
theorem dX5_lowBy_82 : decode cX5_lowBy 82 = .ok (.iconst 1, 1) := by decide +kernel
theorem dX5_lowBy_83 : decode cX5_lowBy 83 = .ok (.iload 7, 2) := by decide +kernel
theorem dX5_lowBy_85 : decode cX5_lowBy 85 = .ok (.ishl, 1) := by decide +kernel
theorem dX5_lowBy_86 : decode cX5_lowBy 86 = .ok (.goto 4, 3) := by decide +kernel
theorem dX5_lowBy_89 : decode cX5_lowBy 89 = .ok (.iconst 0, 1) := by decide +kernel
theorem dX5_lowBy_90 : decode cX5_lowBy 90 = .ok (.ior, 1) := by decide +kernel
theorem dX5_lowBy_91 : decode cX5_lowBy 91 = .ok (.istore 5, 2) := by decide +kernel
theorem dX5_lowBy_93 : decode cX5_lowBy 93 = .ok (.iinc 7 1, 3) := by decide +kernel
theorem dX5_lowBy_96 : decode cX5_lowBy 96 = .ok (.goto (-87), 3) := by decide +kernel
theorem dX5_lowBy_99 : decode cX5_lowBy 99 = .ok (.iload 5, 2) := by decide +kernel
theorem dX5_lowBy_101 : decode cX5_lowBy 101 = .ok (.ireturn, 1) := by decide +kernel
theorem dX5_compare_0 : decode cX5_compare 0 = .ok (.iload_n 1, 1) := by decide +kernel
theorem dX5_compare_1 : decode cX5_compare 1 = .ok (.aload_n 0, 1) := by decide +kernel
theorem dX5_compare_2 : decode cX5_compare 2 = .ok (.getfield 35, 3) := by decide +kernel
theorem dX5_compare_5 : decode cX5_compare 5 = .ok (.iload 4, 2) := by decide +kernel
theorem dX5_compare_7 : decode cX5_compare 7 = .ok (.iaload, 1) := by decide +kernel
theorem dX5_compare_8 : decode cX5_compare 8 = .ok (.imul, 1) := by decide +kernel
theorem dX5_compare_9 : decode cX5_compare 9 = .ok (.aload_n 0, 1) := by decide +kernel
theorem dX5_compare_10 : decode cX5_compare 10 = .ok (.getfield 29, 3) := by decide +kernel
theorem dX5_compare_13 : decode cX5_compare 13 = .ok (.iload 4, 2) := by decide +kernel
theorem dX5_compare_15 : decode cX5_compare 15 = .ok (.iaload, 1) := by decide +kernel
theorem dX5_compare_16 : decode cX5_compare 16 = .ok (.iload_n 3, 1) := by decide +kernel
theorem dX5_compare_17 : decode cX5_compare 17 = .ok (.imul, 1) := by decide +kernel
theorem dX5_compare_18 : decode cX5_compare 18 = .ok (.isub, 1) := by decide +kernel
theorem dX5_compare_19 : decode cX5_compare 19 = .ok (.istore 5, 2) := by decide +kernel
theorem dX5_compare_21 : decode cX5_compare 21 = .ok (.iload 5, 2) := by decide +kernel
theorem dX5_compare_23 : decode cX5_compare 23 = .ok (.ifCond .eq 8, 3) := by decide +kernel
theorem dX5_compare_26 : decode cX5_compare 26 = .ok (.iload 5, 2) := by decide +kernel
theorem dX5_compare_28 : decode cX5_compare 28 = .ok (.goto 22, 3) := by decide +kernel
theorem dX5_compare_31 : decode cX5_compare 31 = .ok (.iload_n 2, 1) := by decide +kernel
theorem dX5_compare_32 : decode cX5_compare 32 = .ok (.aload_n 0, 1) := by decide +kernel
theorem dX5_compare_33 : decode cX5_compare 33 = .ok (.getfield 35, 3) := by decide +kernel
theorem dX5_compare_36 : decode cX5_compare 36 = .ok (.iload 4, 2) := by decide +kernel
theorem dX5_compare_38 : decode cX5_compare 38 = .ok (.iaload, 1) := by decide +kernel
theorem dX5_compare_39 : decode cX5_compare 39 = .ok (.imul, 1) := by decide +kernel
theorem dX5_compare_40 : decode cX5_compare 40 = .ok (.aload_n 0, 1) := by decide +kernel
end
section
theorem dX5_compare_41 : decode cX5_compare 41 = .ok (.getfield 32, 3) := by decide +kernel
theorem dX5_compare_44 : decode cX5_compare 44 = .ok (.iload 4, 2) := by decide +kernel
theorem dX5_compare_46 : decode cX5_compare 46 = .ok (.iaload, 1) := by decide +kernel
theorem dX5_compare_47 : decode cX5_compare 47 = .ok (.iload_n 3, 1) := by decide +kernel
theorem dX5_compare_48 : decode cX5_compare 48 = .ok (.imul, 1) := by decide +kernel
theorem dX5_compare_49 : decode cX5_compare 49 = .ok (.isub, 1) := by decide +kernel
theorem dX5_compare_50 : decode cX5_compare 50 = .ok (.ireturn, 1) := by decide +kernel
theorem dX5_addCell_0 : decode cX5_addCell 0 = .ok (.iconst 0, 1) := by decide +kernel
theorem dX5_addCell_1 : decode cX5_addCell 1 = .ok (.istore 4, 2) := by decide +kernel
theorem dX5_addCell_3 : decode cX5_addCell 3 = .ok (.iload 4, 2) := by decide +kernel
theorem dX5_addCell_5 : decode cX5_addCell 5 = .ok (.aload_n 0, 1) := by decide +kernel
theorem dX5_addCell_6 : decode cX5_addCell 6 = .ok (.getfield 118, 3) := by decide +kernel
theorem dX5_addCell_9 : decode cX5_addCell 9 = .ok (.if_icmp .ge 21, 3) := by decide +kernel
theorem dX5_addCell_12 : decode cX5_addCell 12 = .ok (.aload_n 0, 1) := by decide +kernel
theorem dX5_addCell_13 : decode cX5_addCell 13 = .ok (.iload_n 1, 1) := by decide +kernel
theorem dX5_addCell_14 : decode cX5_addCell 14 = .ok (.iload_n 2, 1) := by decide +kernel
theorem dX5_addCell_15 : decode cX5_addCell 15 = .ok (.iload_n 3, 1) := by decide +kernel
theorem dX5_addCell_16 : decode cX5_addCell 16 = .ok (.iload 4, 2) := by decide +kernel
theorem dX5_addCell_18 : decode cX5_addCell 18 = .ok (.invokevirtual 121, 3) := by decide +kernel
theorem dX5_addCell_21 : decode cX5_addCell 21 = .ok (.ifCond .le 9, 3) := by decide +kernel
theorem dX5_addCell_24 : decode cX5_addCell 24 = .ok (.iinc 4 1, 3) := by decide +kernel
theorem dX5_addCell_27 : decode cX5_addCell 27 = .ok (.goto (-24), 3) := by decide +kernel
theorem dX5_addCell_30 : decode cX5_addCell 30 = .ok (.iload 4, 2) := by decide +kernel
theorem dX5_addCell_32 : decode cX5_addCell 32 = .ok (.aload_n 0, 1) := by decide +kernel
theorem dX5_addCell_33 : decode cX5_addCell 33 = .ok (.getfield 118, 3) := by decide +kernel
theorem dX5_addCell_36 : decode cX5_addCell 36 = .ok (.if_icmp .ge 16, 3) := by decide +kernel
theorem dX5_addCell_39 : decode cX5_addCell 39 = .ok (.aload_n 0, 1) := by decide +kernel
theorem dX5_addCell_40 : decode cX5_addCell 40 = .ok (.iload_n 1, 1) := by decide +kernel
theorem dX5_addCell_41 : decode cX5_addCell 41 = .ok (.iload_n 2, 1) := by decide +kernel
theorem dX5_addCell_42 : decode cX5_addCell 42 = .ok (.iload_n 3, 1) := by decide +kernel
theorem dX5_addCell_43 : decode cX5_addCell 43 = .ok (.iload 4, 2) := by decide +kernel
theorem dX5_addCell_45 : decode cX5_addCell 45 = .ok (.invokevirtual 121, 3) := by decide +kernel
theorem dX5_addCell_48 : decode cX5_addCell 48 = .ok (.ifCond .ne 4, 3) := by decide +kernel
theorem dX5_addCell_51 : decode cX5_addCell 51 = .ok (.return_, 1) := by decide +kernel
theorem dX5_addCell_52 : decode cX5_addCell 52 = .ok (.aload_n 0, 1) := by decide +kernel
theorem dX5_addCell_53 : decode cX5_addCell 53 = .ok (.getfield 118, 3) := by decide +kernel
theorem dX5_addCell_56 : decode cX5_addCell 56 = .ok (.istore 5, 2) := by decide +kernel
theorem dX5_addCell_58 : decode cX5_addCell 58 = .ok (.iload 5, 2) := by decide +kernel
theorem dX5_addCell_60 : decode cX5_addCell 60 = .ok (.iload 4, 2) := by decide +kernel
theorem dX5_addCell_62 : decode cX5_addCell 62 = .ok (.if_icmp .le 57, 3) := by decide +kernel
theorem dX5_addCell_65 : decode cX5_addCell 65 = .ok (.aload_n 0, 1) := by decide +kernel
theorem dX5_addCell_66 : decode cX5_addCell 66 = .ok (.getfield 29, 3) := by decide +kernel
theorem dX5_addCell_69 : decode cX5_addCell 69 = .ok (.iload 5, 2) := by decide +kernel
theorem dX5_addCell_71 : decode cX5_addCell 71 = .ok (.aload_n 0, 1) := by decide +kernel
theorem dX5_addCell_72 : decode cX5_addCell 72 = .ok (.getfield 29, 3) := by decide +kernel
theorem dX5_addCell_75 : decode cX5_addCell 75 = .ok (.iload 5, 2) := by decide +kernel
theorem dX5_addCell_77 : decode cX5_addCell 77 = .ok (.iconst 1, 1) := by decide +kernel
theorem dX5_addCell_78 : decode cX5_addCell 78 = .ok (.isub, 1) := by decide +kernel
theorem dX5_addCell_79 : decode cX5_addCell 79 = .ok (.iaload, 1) := by decide +kernel
theorem dX5_addCell_80 : decode cX5_addCell 80 = .ok (.iastore, 1) := by decide +kernel
theorem dX5_addCell_81 : decode cX5_addCell 81 = .ok (.aload_n 0, 1) := by decide +kernel
theorem dX5_addCell_82 : decode cX5_addCell 82 = .ok (.getfield 32, 3) := by decide +kernel
theorem dX5_addCell_85 : decode cX5_addCell 85 = .ok (.iload 5, 2) := by decide +kernel
theorem dX5_addCell_87 : decode cX5_addCell 87 = .ok (.aload_n 0, 1) := by decide +kernel
theorem dX5_addCell_88 : decode cX5_addCell 88 = .ok (.getfield 32, 3) := by decide +kernel
theorem dX5_addCell_91 : decode cX5_addCell 91 = .ok (.iload 5, 2) := by decide +kernel
theorem dX5_addCell_93 : decode cX5_addCell 93 = .ok (.iconst 1, 1) := by decide +kernel
theorem dX5_addCell_94 : decode cX5_addCell 94 = .ok (.isub, 1) := by decide +kernel
theorem dX5_addCell_95 : decode cX5_addCell 95 = .ok (.iaload, 1) := by decide +kernel
theorem dX5_addCell_96 : decode cX5_addCell 96 = .ok (.iastore, 1) := by decide +kernel
theorem dX5_addCell_97 : decode cX5_addCell 97 = .ok (.aload_n 0, 1) := by decide +kernel
theorem dX5_addCell_98 : decode cX5_addCell 98 = .ok (.getfield 35, 3) := by decide +kernel
theorem dX5_addCell_101 : decode cX5_addCell 101 = .ok (.iload 5, 2) := by decide +kernel
theorem dX5_addCell_103 : decode cX5_addCell 103 = .ok (.aload_n 0, 1) := by decide +kernel
theorem dX5_addCell_104 : decode cX5_addCell 104 = .ok (.getfield 35, 3) := by decide +kernel
theorem dX5_addCell_107 : decode cX5_addCell 107 = .ok (.iload 5, 2) := by decide +kernel
theorem dX5_addCell_109 : decode cX5_addCell 109 = .ok (.iconst 1, 1) := by decide +kernel
theorem dX5_addCell_110 : decode cX5_addCell 110 = .ok (.isub, 1) := by decide +kernel
theorem dX5_addCell_111 : decode cX5_addCell 111 = .ok (.iaload, 1) := by decide +kernel
theorem dX5_addCell_112 : decode cX5_addCell 112 = .ok (.iastore, 1) := by decide +kernel
theorem dX5_addCell_113 : decode cX5_addCell 113 = .ok (.iinc 5 (-1), 3) := by decide +kernel
theorem dX5_addCell_116 : decode cX5_addCell 116 = .ok (.goto (-58), 3) := by decide +kernel
theorem dX5_addCell_119 : decode cX5_addCell 119 = .ok (.aload_n 0, 1) := by decide +kernel
theorem dX5_addCell_120 : decode cX5_addCell 120 = .ok (.getfield 29, 3) := by decide +kernel
theorem dX5_addCell_123 : decode cX5_addCell 123 = .ok (.iload 4, 2) := by decide +kernel
theorem dX5_addCell_125 : decode cX5_addCell 125 = .ok (.iload_n 1, 1) := by decide +kernel
theorem dX5_addCell_126 : decode cX5_addCell 126 = .ok (.iastore, 1) := by decide +kernel
theorem dX5_addCell_127 : decode cX5_addCell 127 = .ok (.aload_n 0, 1) := by decide +kernel
theorem dX5_addCell_128 : decode cX5_addCell 128 = .ok (.getfield 32, 3) := by decide +kernel
theorem dX5_addCell_131 : decode cX5_addCell 131 = .ok (.iload 4, 2) := by decide +kernel
theorem dX5_addCell_133 : decode cX5_addCell 133 = .ok (.iload_n 2, 1) := by decide +kernel
theorem dX5_addCell_134 : decode cX5_addCell 134 = .ok (.iastore, 1) := by decide +kernel
theorem dX5_addCell_135 : decode cX5_addCell 135 = .ok (.aload_n 0, 1) := by decide +kernel
theorem dX5_addCell_136 : decode cX5_addCell 136 = .ok (.getfield 35, 3) := by decide +kernel
theorem dX5_addCell_139 : decode cX5_addCell 139 = .ok (.iload 4, 2) := by decide +kernel
theorem dX5_addCell_141 : decode cX5_addCell 141 = .ok (.iload_n 3, 1) := by decide +kernel
theorem dX5_addCell_142 : decode cX5_addCell 142 = .ok (.iastore, 1) := by decide +kernel
theorem dX5_addCell_143 : decode cX5_addCell 143 = .ok (.aload_n 0, 1) := by decide +kernel
theorem dX5_addCell_144 : decode cX5_addCell 144 = .ok (.dup, 1) := by decide +kernel
theorem dX5_addCell_145 : decode cX5_addCell 145 = .ok (.getfield 118, 3) := by decide +kernel
theorem dX5_addCell_148 : decode cX5_addCell 148 = .ok (.iconst 1, 1) := by decide +kernel
theorem dX5_addCell_149 : decode cX5_addCell 149 = .ok (.iadd, 1) := by decide +kernel
theorem dX5_addCell_150 : decode cX5_addCell 150 = .ok (.putfield 118, 3) := by decide +kernel
theorem dX5_addCell_153 : decode cX5_addCell 153 = .ok (.return_, 1) := by decide +kernel
theorem dX5_tryThree_0 : decode cX5_tryThree 0 = .ok (.aload_n 0, 1) := by decide +kernel
theorem dX5_tryThree_1 : decode cX5_tryThree 1 = .ok (.iload_n 1, 1) := by decide +kernel
theorem dX5_tryThree_2 : decode cX5_tryThree 2 = .ok (.iload_n 2, 1) := by decide +kernel
theorem dX5_tryThree_3 : decode cX5_tryThree 3 = .ok (.iload 4, 2) := by decide +kernel
theorem dX5_tryThree_5 : decode cX5_tryThree 5 = .ok (.iconst 0, 1) := by decide +kernel
theorem dX5_tryThree_6 : decode cX5_tryThree 6 = .ok (.invokevirtual 124, 3) := by decide +kernel
theorem dX5_tryThree_9 : decode cX5_tryThree 9 = .ok (.aload_n 0, 1) := by decide +kernel
theorem dX5_tryThree_10 : decode cX5_tryThree 10 = .ok (.iload_n 1, 1) := by decide +kernel
theorem dX5_tryThree_11 : decode cX5_tryThree 11 = .ok (.iload_n 2, 1) := by decide +kernel
theorem dX5_tryThree_12 : decode cX5_tryThree 12 = .ok (.iload_n 3, 1) := by decide +kernel
theorem dX5_tryThree_13 : decode cX5_tryThree 13 = .ok (.iconst 0, 1) := by decide +kernel
theorem dX5_tryThree_14 : decode cX5_tryThree 14 = .ok (.invokevirtual 124, 3) := by decide +kernel
theorem dX5_tryThree_17 : decode cX5_tryThree 17 = .ok (.isub, 1) := by decide +kernel
theorem dX5_tryThree_18 : decode cX5_tryThree 18 = .ok (.istore 6, 2) := by decide +kernel
theorem dX5_tryThree_20 : decode cX5_tryThree 20 = .ok (.aload_n 0, 1) := by decide +kernel
theorem dX5_tryThree_21 : decode cX5_tryThree 21 = .ok (.iload_n 1, 1) := by decide +kernel
theorem dX5_tryThree_22 : decode cX5_tryThree 22 = .ok (.iload_n 2, 1) := by decide +kernel
theorem dX5_tryThree_23 : decode cX5_tryThree 23 = .ok (.iload 4, 2) := by decide +kernel
theorem dX5_tryThree_25 : decode cX5_tryThree 25 = .ok (.iconst 1, 1) := by decide +kernel
theorem dX5_tryThree_26 : decode cX5_tryThree 26 = .ok (.invokevirtual 124, 3) := by decide +kernel
theorem dX5_tryThree_29 : decode cX5_tryThree 29 = .ok (.aload_n 0, 1) := by decide +kernel
theorem dX5_tryThree_30 : decode cX5_tryThree 30 = .ok (.iload_n 1, 1) := by decide +kernel
theorem dX5_tryThree_31 : decode cX5_tryThree 31 = .ok (.iload_n 2, 1) := by decide +kernel
theorem dX5_tryThree_32 : decode cX5_tryThree 32 = .ok (.iload_n 3, 1) := by decide +kernel
theorem dX5_tryThree_33 : decode cX5_tryThree 33 = .ok (.iconst 1, 1) := by decide +kernel
theorem dX5_tryThree_34 : decode cX5_tryThree 34 = .ok (.invokevirtual 124, 3) := by decide +kernel
theorem dX5_tryThree_37 : decode cX5_tryThree 37 = .ok (.isub, 1) := by decide +kernel
theorem dX5_tryThree_38 : decode cX5_tryThree 38 = .ok (.istore 7, 2) := by decide +kernel
theorem dX5_tryThree_40 : decode cX5_tryThree 40 = .ok (.aload_n 0, 1) := by decide +kernel
theorem dX5_tryThree_41 : decode cX5_tryThree 41 = .ok (.iload_n 1, 1) := by decide +kernel
theorem dX5_tryThree_42 : decode cX5_tryThree 42 = .ok (.iload_n 2, 1) := by decide +kernel
theorem dX5_tryThree_43 : decode cX5_tryThree 43 = .ok (.iload 4, 2) := by decide +kernel
theorem dX5_tryThree_45 : decode cX5_tryThree 45 = .ok (.iconst 2, 1) := by decide +kernel
theorem dX5_tryThree_46 : decode cX5_tryThree 46 = .ok (.invokevirtual 124, 3) := by decide +kernel
theorem dX5_tryThree_49 : decode cX5_tryThree 49 = .ok (.aload_n 0, 1) := by decide +kernel
theorem dX5_tryThree_50 : decode cX5_tryThree 50 = .ok (.iload_n 1, 1) := by decide +kernel
theorem dX5_tryThree_51 : decode cX5_tryThree 51 = .ok (.iload_n 2, 1) := by decide +kernel
theorem dX5_tryThree_52 : decode cX5_tryThree 52 = .ok (.iload_n 3, 1) := by decide +kernel
theorem dX5_tryThree_53 : decode cX5_tryThree 53 = .ok (.iconst 2, 1) := by decide +kernel
theorem dX5_tryThree_54 : decode cX5_tryThree 54 = .ok (.invokevirtual 124, 3) := by decide +kernel
theorem dX5_tryThree_57 : decode cX5_tryThree 57 = .ok (.isub, 1) := by decide +kernel
theorem dX5_tryThree_58 : decode cX5_tryThree 58 = .ok (.istore 8, 2) := by decide +kernel
theorem dX5_tryThree_60 : decode cX5_tryThree 60 = .ok (.aload_n 0, 1) := by decide +kernel
theorem dX5_tryThree_61 : decode cX5_tryThree 61 = .ok (.iload_n 1, 1) := by decide +kernel
theorem dX5_tryThree_62 : decode cX5_tryThree 62 = .ok (.iload_n 2, 1) := by decide +kernel
theorem dX5_tryThree_63 : decode cX5_tryThree 63 = .ok (.iload 5, 2) := by decide +kernel
theorem dX5_tryThree_65 : decode cX5_tryThree 65 = .ok (.iconst 0, 1) := by decide +kernel
theorem dX5_tryThree_66 : decode cX5_tryThree 66 = .ok (.invokevirtual 124, 3) := by decide +kernel
theorem dX5_tryThree_69 : decode cX5_tryThree 69 = .ok (.aload_n 0, 1) := by decide +kernel
theorem dX5_tryThree_70 : decode cX5_tryThree 70 = .ok (.iload_n 1, 1) := by decide +kernel
theorem dX5_tryThree_71 : decode cX5_tryThree 71 = .ok (.iload_n 2, 1) := by decide +kernel
theorem dX5_tryThree_72 : decode cX5_tryThree 72 = .ok (.iload_n 3, 1) := by decide +kernel
theorem dX5_tryThree_73 : decode cX5_tryThree 73 = .ok (.iconst 0, 1) := by decide +kernel
theorem dX5_tryThree_74 : decode cX5_tryThree 74 = .ok (.invokevirtual 124, 3) := by decide +kernel
theorem dX5_tryThree_77 : decode cX5_tryThree 77 = .ok (.isub, 1) := by decide +kernel
theorem dX5_tryThree_78 : decode cX5_tryThree 78 = .ok (.istore 9, 2) := by decide +kernel
theorem dX5_tryThree_80 : decode cX5_tryThree 80 = .ok (.aload_n 0, 1) := by decide +kernel
theorem dX5_tryThree_81 : decode cX5_tryThree 81 = .ok (.iload_n 1, 1) := by decide +kernel
theorem dX5_tryThree_82 : decode cX5_tryThree 82 = .ok (.iload_n 2, 1) := by decide +kernel
theorem dX5_tryThree_83 : decode cX5_tryThree 83 = .ok (.iload 5, 2) := by decide +kernel
theorem dX5_tryThree_85 : decode cX5_tryThree 85 = .ok (.iconst 1, 1) := by decide +kernel
theorem dX5_tryThree_86 : decode cX5_tryThree 86 = .ok (.invokevirtual 124, 3) := by decide +kernel
theorem dX5_tryThree_89 : decode cX5_tryThree 89 = .ok (.aload_n 0, 1) := by decide +kernel
theorem dX5_tryThree_90 : decode cX5_tryThree 90 = .ok (.iload_n 1, 1) := by decide +kernel
theorem dX5_tryThree_91 : decode cX5_tryThree 91 = .ok (.iload_n 2, 1) := by decide +kernel
theorem dX5_tryThree_92 : decode cX5_tryThree 92 = .ok (.iload_n 3, 1) := by decide +kernel
theorem dX5_tryThree_93 : decode cX5_tryThree 93 = .ok (.iconst 1, 1) := by decide +kernel
theorem dX5_tryThree_94 : decode cX5_tryThree 94 = .ok (.invokevirtual 124, 3) := by decide +kernel
theorem dX5_tryThree_97 : decode cX5_tryThree 97 = .ok (.isub, 1) := by decide +kernel
theorem dX5_tryThree_98 : decode cX5_tryThree 98 = .ok (.istore 10, 2) := by decide +kernel
theorem dX5_tryThree_100 : decode cX5_tryThree 100 = .ok (.aload_n 0, 1) := by decide +kernel
theorem dX5_tryThree_101 : decode cX5_tryThree 101 = .ok (.iload_n 1, 1) := by decide +kernel
theorem dX5_tryThree_102 : decode cX5_tryThree 102 = .ok (.iload_n 2, 1) := by decide +kernel
theorem dX5_tryThree_103 : decode cX5_tryThree 103 = .ok (.iload 5, 2) := by decide +kernel
theorem dX5_tryThree_105 : decode cX5_tryThree 105 = .ok (.iconst 2, 1) := by decide +kernel
theorem dX5_tryThree_106 : decode cX5_tryThree 106 = .ok (.invokevirtual 124, 3) := by decide +kernel
theorem dX5_tryThree_109 : decode cX5_tryThree 109 = .ok (.aload_n 0, 1) := by decide +kernel
theorem dX5_tryThree_110 : decode cX5_tryThree 110 = .ok (.iload_n 1, 1) := by decide +kernel
theorem dX5_tryThree_111 : decode cX5_tryThree 111 = .ok (.iload_n 2, 1) := by decide +kernel
theorem dX5_tryThree_112 : decode cX5_tryThree 112 = .ok (.iload_n 3, 1) := by decide +kernel
theorem dX5_tryThree_113 : decode cX5_tryThree 113 = .ok (.iconst 2, 1) := by decide +kernel
theorem dX5_tryThree_114 : decode cX5_tryThree 114 = .ok (.invokevirtual 124, 3) := by decide +kernel
theorem dX5_tryThree_117 : decode cX5_tryThree 117 = .ok (.isub, 1) := by decide +kernel
theorem dX5_tryThree_118 : decode cX5_tryThree 118 = .ok (.istore 11, 2) := by decide +kernel
theorem dX5_tryThree_120 : decode cX5_tryThree 120 = .ok (.iload 6, 2) := by decide +kernel
theorem dX5_tryThree_122 : decode cX5_tryThree 122 = .ok (.iload 10, 2) := by decide +kernel
theorem dX5_tryThree_124 : decode cX5_tryThree 124 = .ok (.imul, 1) := by decide +kernel
theorem dX5_tryThree_125 : decode cX5_tryThree 125 = .ok (.iload 9, 2) := by decide +kernel
theorem dX5_tryThree_127 : decode cX5_tryThree 127 = .ok (.iload 7, 2) := by decide +kernel
theorem dX5_tryThree_129 : decode cX5_tryThree 129 = .ok (.imul, 1) := by decide +kernel
theorem dX5_tryThree_130 : decode cX5_tryThree 130 = .ok (.isub, 1) := by decide +kernel
theorem dX5_tryThree_131 : decode cX5_tryThree 131 = .ok (.istore 12, 2) := by decide +kernel
theorem dX5_tryThree_133 : decode cX5_tryThree 133 = .ok (.iload 12, 2) := by decide +kernel
theorem dX5_tryThree_135 : decode cX5_tryThree 135 = .ok (.ifCond .ne 4, 3) := by decide +kernel
theorem dX5_tryThree_138 : decode cX5_tryThree 138 = .ok (.return_, 1) := by decide +kernel
theorem dX5_tryThree_139 : decode cX5_tryThree 139 = .ok (.iload 12, 2) := by decide +kernel
theorem dX5_tryThree_141 : decode cX5_tryThree 141 = .ok (.ifCond .le 7, 3) := by decide +kernel
theorem dX5_tryThree_144 : decode cX5_tryThree 144 = .ok (.iconst 1, 1) := by decide +kernel
theorem dX5_tryThree_145 : decode cX5_tryThree 145 = .ok (.goto 4, 3) := by decide +kernel
theorem dX5_tryThree_148 : decode cX5_tryThree 148 = .ok (.iconst (-1), 1) := by decide +kernel
theorem dX5_tryThree_149 : decode cX5_tryThree 149 = .ok (.istore 13, 2) := by decide +kernel
theorem dX5_tryThree_151 : decode cX5_tryThree 151 = .ok (.iload 13, 2) := by decide +kernel
theorem dX5_tryThree_153 : decode cX5_tryThree 153 = .ok (.iload 11, 2) := by decide +kernel
theorem dX5_tryThree_155 : decode cX5_tryThree 155 = .ok (.iload 7, 2) := by decide +kernel
theorem dX5_tryThree_157 : decode cX5_tryThree 157 = .ok (.imul, 1) := by decide +kernel
theorem dX5_tryThree_158 : decode cX5_tryThree 158 = .ok (.iload 8, 2) := by decide +kernel
theorem dX5_tryThree_160 : decode cX5_tryThree 160 = .ok (.iload 10, 2) := by decide +kernel
theorem dX5_tryThree_162 : decode cX5_tryThree 162 = .ok (.imul, 1) := by decide +kernel
theorem dX5_tryThree_163 : decode cX5_tryThree 163 = .ok (.isub, 1) := by decide +kernel
theorem dX5_tryThree_164 : decode cX5_tryThree 164 = .ok (.imul, 1) := by decide +kernel
theorem dX5_tryThree_165 : decode cX5_tryThree 165 = .ok (.istore 14, 2) := by decide +kernel
theorem dX5_tryThree_167 : decode cX5_tryThree 167 = .ok (.iload 13, 2) := by decide +kernel
theorem dX5_tryThree_169 : decode cX5_tryThree 169 = .ok (.iload 9, 2) := by decide +kernel
theorem dX5_tryThree_171 : decode cX5_tryThree 171 = .ok (.iload 8, 2) := by decide +kernel
theorem dX5_tryThree_173 : decode cX5_tryThree 173 = .ok (.imul, 1) := by decide +kernel
theorem dX5_tryThree_174 : decode cX5_tryThree 174 = .ok (.iload 6, 2) := by decide +kernel
theorem dX5_tryThree_176 : decode cX5_tryThree 176 = .ok (.iload 11, 2) := by decide +kernel
theorem dX5_tryThree_178 : decode cX5_tryThree 178 = .ok (.imul, 1) := by decide +kernel
theorem dX5_tryThree_179 : decode cX5_tryThree 179 = .ok (.isub, 1) := by decide +kernel
theorem dX5_tryThree_180 : decode cX5_tryThree 180 = .ok (.imul, 1) := by decide +kernel
theorem dX5_tryThree_181 : decode cX5_tryThree 181 = .ok (.istore 15, 2) := by decide +kernel
theorem dX5_tryThree_183 : decode cX5_tryThree 183 = .ok (.iload 12, 2) := by decide +kernel
theorem dX5_tryThree_185 : decode cX5_tryThree 185 = .ok (.iload 13, 2) := by decide +kernel
theorem dX5_tryThree_187 : decode cX5_tryThree 187 = .ok (.imul, 1) := by decide +kernel
theorem dX5_tryThree_188 : decode cX5_tryThree 188 = .ok (.istore 12, 2) := by decide +kernel
theorem dX5_tryThree_190 : decode cX5_tryThree 190 = .ok (.aload_n 0, 1) := by decide +kernel
theorem dX5_tryThree_191 : decode cX5_tryThree 191 = .ok (.iload_n 1, 1) := by decide +kernel
theorem dX5_tryThree_192 : decode cX5_tryThree 192 = .ok (.iload 14, 2) := by decide +kernel
theorem dX5_tryThree_194 : decode cX5_tryThree 194 = .ok (.iload 15, 2) := by decide +kernel
theorem dX5_tryThree_196 : decode cX5_tryThree 196 = .ok (.iload 12, 2) := by decide +kernel
theorem dX5_tryThree_198 : decode cX5_tryThree 198 = .ok (.invokevirtual 127, 3) := by decide +kernel
theorem dX5_tryThree_201 : decode cX5_tryThree 201 = .ok (.istore 16, 2) := by decide +kernel
theorem dX5_tryThree_203 : decode cX5_tryThree 203 = .ok (.aload_n 0, 1) := by decide +kernel
theorem dX5_tryThree_204 : decode cX5_tryThree 204 = .ok (.iload_n 2, 1) := by decide +kernel
theorem dX5_tryThree_205 : decode cX5_tryThree 205 = .ok (.iload 14, 2) := by decide +kernel
theorem dX5_tryThree_207 : decode cX5_tryThree 207 = .ok (.iload 15, 2) := by decide +kernel
theorem dX5_tryThree_209 : decode cX5_tryThree 209 = .ok (.iload 12, 2) := by decide +kernel
theorem dX5_tryThree_211 : decode cX5_tryThree 211 = .ok (.invokevirtual 127, 3) := by decide +kernel
theorem dX5_tryThree_214 : decode cX5_tryThree 214 = .ok (.istore 17, 2) := by decide +kernel
theorem dX5_tryThree_216 : decode cX5_tryThree 216 = .ok (.aload_n 0, 1) := by decide +kernel
theorem dX5_tryThree_217 : decode cX5_tryThree 217 = .ok (.iload_n 3, 1) := by decide +kernel
theorem dX5_tryThree_218 : decode cX5_tryThree 218 = .ok (.iload 16, 2) := by decide +kernel
theorem dX5_tryThree_220 : decode cX5_tryThree 220 = .ok (.iload 17, 2) := by decide +kernel
theorem dX5_tryThree_222 : decode cX5_tryThree 222 = .ok (.invokevirtual 130, 3) := by decide +kernel
theorem dX5_tryThree_225 : decode cX5_tryThree 225 = .ok (.ifCond .eq 39, 3) := by decide +kernel
theorem dX5_tryThree_228 : decode cX5_tryThree 228 = .ok (.aload_n 0, 1) := by decide +kernel
theorem dX5_tryThree_229 : decode cX5_tryThree 229 = .ok (.iload 4, 2) := by decide +kernel
theorem dX5_tryThree_231 : decode cX5_tryThree 231 = .ok (.iload 16, 2) := by decide +kernel
theorem dX5_tryThree_233 : decode cX5_tryThree 233 = .ok (.iload 17, 2) := by decide +kernel
theorem dX5_tryThree_235 : decode cX5_tryThree 235 = .ok (.invokevirtual 130, 3) := by decide +kernel
theorem dX5_tryThree_238 : decode cX5_tryThree 238 = .ok (.ifCond .eq 26, 3) := by decide +kernel
theorem dX5_tryThree_241 : decode cX5_tryThree 241 = .ok (.aload_n 0, 1) := by decide +kernel
theorem dX5_tryThree_242 : decode cX5_tryThree 242 = .ok (.iload 5, 2) := by decide +kernel
theorem dX5_tryThree_244 : decode cX5_tryThree 244 = .ok (.iload 16, 2) := by decide +kernel
theorem dX5_tryThree_246 : decode cX5_tryThree 246 = .ok (.iload 17, 2) := by decide +kernel
theorem dX5_tryThree_248 : decode cX5_tryThree 248 = .ok (.invokevirtual 130, 3) := by decide +kernel
theorem dX5_tryThree_251 : decode cX5_tryThree 251 = .ok (.ifCond .eq 13, 3) := by decide +kernel
theorem dX5_tryThree_254 : decode cX5_tryThree 254 = .ok (.aload_n 0, 1) := by decide +kernel
theorem dX5_tryThree_255 : decode cX5_tryThree 255 = .ok (.iload 14, 2) := by decide +kernel
theorem dX5_tryThree_257 : decode cX5_tryThree 257 = .ok (.iload 15, 2) := by decide +kernel
theorem dX5_tryThree_259 : decode cX5_tryThree 259 = .ok (.iload 12, 2) := by decide +kernel
theorem dX5_tryThree_261 : decode cX5_tryThree 261 = .ok (.invokevirtual 133, 3) := by decide +kernel
theorem dX5_tryThree_264 : decode cX5_tryThree 264 = .ok (.return_, 1) := by decide +kernel
theorem dX5_sumOf_0 : decode cX5_sumOf 0 = .ok (.aload_n 0, 1) := by decide +kernel
theorem dX5_sumOf_1 : decode cX5_sumOf 1 = .ok (.iload_n 1, 1) := by decide +kernel
theorem dX5_sumOf_2 : decode cX5_sumOf 2 = .ok (.aload_n 0, 1) := by decide +kernel
theorem dX5_sumOf_3 : decode cX5_sumOf 3 = .ok (.getfield 38, 3) := by decide +kernel
theorem dX5_sumOf_6 : decode cX5_sumOf 6 = .ok (.iload_n 3, 1) := by decide +kernel
theorem dX5_sumOf_7 : decode cX5_sumOf 7 = .ok (.iaload, 1) := by decide +kernel
theorem dX5_sumOf_8 : decode cX5_sumOf 8 = .ok (.iload 4, 2) := by decide +kernel
theorem dX5_sumOf_10 : decode cX5_sumOf 10 = .ok (.invokevirtual 60, 3) := by decide +kernel
theorem dX5_sumOf_13 : decode cX5_sumOf 13 = .ok (.aload_n 0, 1) := by decide +kernel
theorem dX5_sumOf_14 : decode cX5_sumOf 14 = .ok (.iload_n 2, 1) := by decide +kernel
theorem dX5_sumOf_15 : decode cX5_sumOf 15 = .ok (.aload_n 0, 1) := by decide +kernel
theorem dX5_sumOf_16 : decode cX5_sumOf 16 = .ok (.getfield 41, 3) := by decide +kernel
theorem dX5_sumOf_19 : decode cX5_sumOf 19 = .ok (.iload_n 3, 1) := by decide +kernel
theorem dX5_sumOf_20 : decode cX5_sumOf 20 = .ok (.iaload, 1) := by decide +kernel
theorem dX5_sumOf_21 : decode cX5_sumOf 21 = .ok (.iload 4, 2) := by decide +kernel
theorem dX5_sumOf_23 : decode cX5_sumOf 23 = .ok (.invokevirtual 60, 3) := by decide +kernel
theorem dX5_sumOf_26 : decode cX5_sumOf 26 = .ok (.iadd, 1) := by decide +kernel
theorem dX5_sumOf_27 : decode cX5_sumOf 27 = .ok (.ireturn, 1) := by decide +kernel
theorem dX5_isLow_0 : decode cX5_isLow 0 = .ok (.iload_n 2, 1) := by decide +kernel
theorem dX5_isLow_1 : decode cX5_isLow 1 = .ok (.aload_n 0, 1) := by decide +kernel
theorem dX5_isLow_2 : decode cX5_isLow 2 = .ok (.getfield 38, 3) := by decide +kernel
theorem dX5_isLow_5 : decode cX5_isLow 5 = .ok (.iload_n 1, 1) := by decide +kernel
theorem dX5_isLow_6 : decode cX5_isLow 6 = .ok (.iaload, 1) := by decide +kernel
theorem dX5_isLow_7 : decode cX5_isLow 7 = .ok (.invokestatic 80, 3) := by decide +kernel
theorem dX5_isLow_10 : decode cX5_isLow 10 = .ok (.ifCond .eq 20, 3) := by decide +kernel
theorem dX5_isLow_13 : decode cX5_isLow 13 = .ok (.iload_n 3, 1) := by decide +kernel
theorem dX5_isLow_14 : decode cX5_isLow 14 = .ok (.aload_n 0, 1) := by decide +kernel
theorem dX5_isLow_15 : decode cX5_isLow 15 = .ok (.getfield 41, 3) := by decide +kernel
theorem dX5_isLow_18 : decode cX5_isLow 18 = .ok (.iload_n 1, 1) := by decide +kernel
theorem dX5_isLow_19 : decode cX5_isLow 19 = .ok (.iaload, 1) := by decide +kernel
theorem dX5_isLow_20 : decode cX5_isLow 20 = .ok (.invokestatic 80, 3) := by decide +kernel
theorem dX5_isLow_23 : decode cX5_isLow 23 = .ok (.ifCond .eq 7, 3) := by decide +kernel
theorem dX5_isLow_26 : decode cX5_isLow 26 = .ok (.iconst 1, 1) := by decide +kernel
theorem dX5_isLow_27 : decode cX5_isLow 27 = .ok (.goto 4, 3) := by decide +kernel
theorem dX5_isLow_30 : decode cX5_isLow 30 = .ok (.iconst 0, 1) := by decide +kernel
theorem dX5_isLow_31 : decode cX5_isLow 31 = .ok (.ireturn, 1) := by decide +kernel
theorem dX5_layCells_0 : decode cX5_layCells 0 = .ok (.aload_n 0, 1) := by decide +kernel
theorem dX5_layCells_1 : decode cX5_layCells 1 = .ok (.iconst 0, 1) := by decide +kernel
theorem dX5_layCells_2 : decode cX5_layCells 2 = .ok (.putfield 118, 3) := by decide +kernel
theorem dX5_layCells_5 : decode cX5_layCells 5 = .ok (.iconst 0, 1) := by decide +kernel
theorem dX5_layCells_6 : decode cX5_layCells 6 = .ok (.istore_n 3, 1) := by decide +kernel
theorem dX5_layCells_7 : decode cX5_layCells 7 = .ok (.iconst 0, 1) := by decide +kernel
theorem dX5_layCells_8 : decode cX5_layCells 8 = .ok (.istore 4, 2) := by decide +kernel
theorem dX5_layCells_10 : decode cX5_layCells 10 = .ok (.iload 4, 2) := by decide +kernel
theorem dX5_layCells_12 : decode cX5_layCells 12 = .ok (.aload_n 0, 1) := by decide +kernel
theorem dX5_layCells_13 : decode cX5_layCells 13 = .ok (.iload_n 1, 1) := by decide +kernel
theorem dX5_layCells_14 : decode cX5_layCells 14 = .ok (.invokevirtual 56, 3) := by decide +kernel
theorem dX5_layCells_17 : decode cX5_layCells 17 = .ok (.if_icmp .ge 47, 3) := by decide +kernel
theorem dX5_layCells_20 : decode cX5_layCells 20 = .ok (.iconst 0, 1) := by decide +kernel
theorem dX5_layCells_21 : decode cX5_layCells 21 = .ok (.istore 5, 2) := by decide +kernel
theorem dX5_layCells_23 : decode cX5_layCells 23 = .ok (.iload 5, 2) := by decide +kernel
theorem dX5_layCells_25 : decode cX5_layCells 25 = .ok (.aload_n 0, 1) := by decide +kernel
theorem dX5_layCells_26 : decode cX5_layCells 26 = .ok (.iload_n 2, 1) := by decide +kernel
theorem dX5_layCells_27 : decode cX5_layCells 27 = .ok (.invokevirtual 56, 3) := by decide +kernel
theorem dX5_layCells_30 : decode cX5_layCells 30 = .ok (.if_icmp .ge 28, 3) := by decide +kernel
theorem dX5_layCells_33 : decode cX5_layCells 33 = .ok (.aload_n 0, 1) := by decide +kernel
theorem dX5_layCells_34 : decode cX5_layCells 34 = .ok (.getfield 38, 3) := by decide +kernel
theorem dX5_layCells_37 : decode cX5_layCells 37 = .ok (.iload_n 3, 1) := by decide +kernel
theorem dX5_layCells_38 : decode cX5_layCells 38 = .ok (.iload 4, 2) := by decide +kernel
theorem dX5_layCells_40 : decode cX5_layCells 40 = .ok (.iastore, 1) := by decide +kernel
theorem dX5_layCells_41 : decode cX5_layCells 41 = .ok (.aload_n 0, 1) := by decide +kernel
theorem dX5_layCells_42 : decode cX5_layCells 42 = .ok (.getfield 41, 3) := by decide +kernel
theorem dX5_layCells_45 : decode cX5_layCells 45 = .ok (.iload_n 3, 1) := by decide +kernel
theorem dX5_layCells_46 : decode cX5_layCells 46 = .ok (.iload 5, 2) := by decide +kernel
theorem dX5_layCells_48 : decode cX5_layCells 48 = .ok (.iastore, 1) := by decide +kernel
theorem dX5_layCells_49 : decode cX5_layCells 49 = .ok (.iinc 3 1, 3) := by decide +kernel
theorem dX5_layCells_52 : decode cX5_layCells 52 = .ok (.iinc 5 1, 3) := by decide +kernel
theorem dX5_layCells_55 : decode cX5_layCells 55 = .ok (.goto (-32), 3) := by decide +kernel
theorem dX5_layCells_58 : decode cX5_layCells 58 = .ok (.iinc 4 1, 3) := by decide +kernel
theorem dX5_layCells_61 : decode cX5_layCells 61 = .ok (.goto (-51), 3) := by decide +kernel
theorem dX5_layCells_64 : decode cX5_layCells 64 = .ok (.iconst 0, 1) := by decide +kernel
theorem dX5_layCells_65 : decode cX5_layCells 65 = .ok (.istore 4, 2) := by decide +kernel
theorem dX5_layCells_67 : decode cX5_layCells 67 = .ok (.iload 4, 2) := by decide +kernel
theorem dX5_layCells_69 : decode cX5_layCells 69 = .ok (.iload_n 3, 1) := by decide +kernel
theorem dX5_layCells_70 : decode cX5_layCells 70 = .ok (.if_icmp .ge 57, 3) := by decide +kernel
theorem dX5_layCells_73 : decode cX5_layCells 73 = .ok (.iload 4, 2) := by decide +kernel
theorem dX5_layCells_75 : decode cX5_layCells 75 = .ok (.iconst 1, 1) := by decide +kernel
theorem dX5_layCells_76 : decode cX5_layCells 76 = .ok (.iadd, 1) := by decide +kernel
theorem dX5_layCells_77 : decode cX5_layCells 77 = .ok (.istore 5, 2) := by decide +kernel
theorem dX5_layCells_79 : decode cX5_layCells 79 = .ok (.iload 5, 2) := by decide +kernel
theorem dX5_layCells_81 : decode cX5_layCells 81 = .ok (.iload_n 3, 1) := by decide +kernel
theorem dX5_layCells_82 : decode cX5_layCells 82 = .ok (.if_icmp .ge 39, 3) := by decide +kernel
theorem dX5_layCells_85 : decode cX5_layCells 85 = .ok (.iload 5, 2) := by decide +kernel
theorem dX5_layCells_87 : decode cX5_layCells 87 = .ok (.iconst 1, 1) := by decide +kernel
theorem dX5_layCells_88 : decode cX5_layCells 88 = .ok (.iadd, 1) := by decide +kernel
theorem dX5_layCells_89 : decode cX5_layCells 89 = .ok (.istore 6, 2) := by decide +kernel
theorem dX5_layCells_91 : decode cX5_layCells 91 = .ok (.iload 6, 2) := by decide +kernel
theorem dX5_layCells_93 : decode cX5_layCells 93 = .ok (.iload_n 3, 1) := by decide +kernel
theorem dX5_layCells_94 : decode cX5_layCells 94 = .ok (.if_icmp .ge 21, 3) := by decide +kernel
theorem dX5_layCells_97 : decode cX5_layCells 97 = .ok (.aload_n 0, 1) := by decide +kernel
theorem dX5_layCells_98 : decode cX5_layCells 98 = .ok (.iload_n 1, 1) := by decide +kernel
theorem dX5_layCells_99 : decode cX5_layCells 99 = .ok (.iload_n 2, 1) := by decide +kernel
theorem dX5_layCells_100 : decode cX5_layCells 100 = .ok (.iload 4, 2) := by decide +kernel
theorem dX5_layCells_102 : decode cX5_layCells 102 = .ok (.iload 5, 2) := by decide +kernel
theorem dX5_layCells_104 : decode cX5_layCells 104 = .ok (.iload 6, 2) := by decide +kernel
theorem dX5_layCells_106 : decode cX5_layCells 106 = .ok (.invokevirtual 137, 3) := by decide +kernel
theorem dX5_layCells_109 : decode cX5_layCells 109 = .ok (.iinc 6 1, 3) := by decide +kernel
theorem dX5_layCells_112 : decode cX5_layCells 112 = .ok (.goto (-21), 3) := by decide +kernel
theorem dX5_layCells_115 : decode cX5_layCells 115 = .ok (.iinc 5 1, 3) := by decide +kernel
theorem dX5_layCells_118 : decode cX5_layCells 118 = .ok (.goto (-39), 3) := by decide +kernel
theorem dX5_layCells_121 : decode cX5_layCells 121 = .ok (.iinc 4 1, 3) := by decide +kernel
theorem dX5_layCells_124 : decode cX5_layCells 124 = .ok (.goto (-57), 3) := by decide +kernel
theorem dX5_layCells_127 : decode cX5_layCells 127 = .ok (.return_, 1) := by decide +kernel
theorem dX5_lowOf_0 : decode cX5_lowOf 0 = .ok (.aload_n 0, 1) := by decide +kernel
theorem dX5_lowOf_1 : decode cX5_lowOf 1 = .ok (.iload_n 1, 1) := by decide +kernel
theorem dX5_lowOf_2 : decode cX5_lowOf 2 = .ok (.aload_n 0, 1) := by decide +kernel
theorem dX5_lowOf_3 : decode cX5_lowOf 3 = .ok (.getfield 29, 3) := by decide +kernel
theorem dX5_lowOf_6 : decode cX5_lowOf 6 = .ok (.iload_n 2, 1) := by decide +kernel
theorem dX5_lowOf_7 : decode cX5_lowOf 7 = .ok (.iaload, 1) := by decide +kernel
theorem dX5_lowOf_8 : decode cX5_lowOf 8 = .ok (.aload_n 0, 1) := by decide +kernel
theorem dX5_lowOf_9 : decode cX5_lowOf 9 = .ok (.getfield 32, 3) := by decide +kernel
theorem dX5_lowOf_12 : decode cX5_lowOf 12 = .ok (.iload_n 2, 1) := by decide +kernel
theorem dX5_lowOf_13 : decode cX5_lowOf 13 = .ok (.iaload, 1) := by decide +kernel
theorem dX5_lowOf_14 : decode cX5_lowOf 14 = .ok (.aload_n 0, 1) := by decide +kernel
theorem dX5_lowOf_15 : decode cX5_lowOf 15 = .ok (.getfield 35, 3) := by decide +kernel
theorem dX5_lowOf_18 : decode cX5_lowOf 18 = .ok (.iload_n 2, 1) := by decide +kernel
theorem dX5_lowOf_19 : decode cX5_lowOf 19 = .ok (.iaload, 1) := by decide +kernel
theorem dX5_lowOf_20 : decode cX5_lowOf 20 = .ok (.invokevirtual 127, 3) := by decide +kernel
theorem dX5_lowOf_23 : decode cX5_lowOf 23 = .ok (.ireturn, 1) := by decide +kernel
theorem dX5_spanOf_0 : decode cX5_spanOf 0 = .ok (.aload_n 0, 1) := by decide +kernel
theorem dX5_spanOf_1 : decode cX5_spanOf 1 = .ok (.iload_n 1, 1) := by decide +kernel
theorem dX5_spanOf_2 : decode cX5_spanOf 2 = .ok (.iload_n 2, 1) := by decide +kernel
theorem dX5_spanOf_3 : decode cX5_spanOf 3 = .ok (.invokevirtual 94, 3) := by decide +kernel
theorem dX5_spanOf_6 : decode cX5_spanOf 6 = .ok (.aload_n 0, 1) := by decide +kernel
theorem dX5_spanOf_7 : decode cX5_spanOf 7 = .ok (.invokevirtual 104, 3) := by decide +kernel
theorem dX5_spanOf_10 : decode cX5_spanOf 10 = .ok (.ireturn, 1) := by decide +kernel
theorem dX5_kindOf_0 : decode cX5_kindOf 0 = .ok (.bipush 10, 2) := by decide +kernel
theorem dX5_kindOf_2 : decode cX5_kindOf 2 = .ok (.aload_n 0, 1) := by decide +kernel
theorem dX5_kindOf_3 : decode cX5_kindOf 3 = .ok (.iload_n 1, 1) := by decide +kernel
theorem dX5_kindOf_4 : decode cX5_kindOf 4 = .ok (.aload_n 0, 1) := by decide +kernel
theorem dX5_kindOf_5 : decode cX5_kindOf 5 = .ok (.iload_n 1, 1) := by decide +kernel
theorem dX5_kindOf_6 : decode cX5_kindOf 6 = .ok (.iload_n 3, 1) := by decide +kernel
theorem dX5_kindOf_7 : decode cX5_kindOf 7 = .ok (.invokevirtual 141, 3) := by decide +kernel
theorem dX5_kindOf_10 : decode cX5_kindOf 10 = .ok (.invokevirtual 144, 3) := by decide +kernel
theorem dX5_kindOf_13 : decode cX5_kindOf 13 = .ok (.imul, 1) := by decide +kernel
theorem dX5_kindOf_14 : decode cX5_kindOf 14 = .ok (.aload_n 0, 1) := by decide +kernel
theorem dX5_kindOf_15 : decode cX5_kindOf 15 = .ok (.iload_n 2, 1) := by decide +kernel
theorem dX5_kindOf_16 : decode cX5_kindOf 16 = .ok (.aload_n 0, 1) := by decide +kernel
theorem dX5_kindOf_17 : decode cX5_kindOf 17 = .ok (.iload_n 2, 1) := by decide +kernel
theorem dX5_kindOf_18 : decode cX5_kindOf 18 = .ok (.iload_n 3, 1) := by decide +kernel
theorem dX5_kindOf_19 : decode cX5_kindOf 19 = .ok (.invokevirtual 141, 3) := by decide +kernel
theorem dX5_kindOf_22 : decode cX5_kindOf 22 = .ok (.invokevirtual 144, 3) := by decide +kernel
theorem dX5_kindOf_25 : decode cX5_kindOf 25 = .ok (.iadd, 1) := by decide +kernel
theorem dX5_kindOf_26 : decode cX5_kindOf 26 = .ok (.ireturn, 1) := by decide +kernel
theorem dX5_cellArea_0 : decode cX5_cellArea 0 = .ok (.aload_n 0, 1) := by decide +kernel
theorem dX5_cellArea_1 : decode cX5_cellArea 1 = .ok (.iload_n 1, 1) := by decide +kernel
theorem dX5_cellArea_2 : decode cX5_cellArea 2 = .ok (.aload_n 0, 1) := by decide +kernel
theorem dX5_cellArea_3 : decode cX5_cellArea 3 = .ok (.iload_n 1, 1) := by decide +kernel
theorem dX5_cellArea_4 : decode cX5_cellArea 4 = .ok (.iload_n 3, 1) := by decide +kernel
theorem dX5_cellArea_5 : decode cX5_cellArea 5 = .ok (.invokevirtual 141, 3) := by decide +kernel
theorem dX5_cellArea_8 : decode cX5_cellArea 8 = .ok (.iload_n 2, 1) := by decide +kernel
theorem dX5_cellArea_9 : decode cX5_cellArea 9 = .ok (.aload_n 0, 1) := by decide +kernel
theorem dX5_cellArea_10 : decode cX5_cellArea 10 = .ok (.iload_n 2, 1) := by decide +kernel
theorem dX5_cellArea_11 : decode cX5_cellArea 11 = .ok (.iload_n 3, 1) := by decide +kernel
theorem dX5_cellArea_12 : decode cX5_cellArea 12 = .ok (.invokevirtual 141, 3) := by decide +kernel
theorem dX5_cellArea_15 : decode cX5_cellArea 15 = .ok (.invokevirtual 111, 3) := by decide +kernel
theorem dX5_cellArea_18 : decode cX5_cellArea 18 = .ok (.ireturn, 1) := by decide +kernel
theorem dX5_cellMixed_0 : decode cX5_cellMixed 0 = .ok (.aload_n 0, 1) := by decide +kernel
theorem dX5_cellMixed_1 : decode cX5_cellMixed 1 = .ok (.iload_n 1, 1) := by decide +kernel
theorem dX5_cellMixed_2 : decode cX5_cellMixed 2 = .ok (.iload_n 2, 1) := by decide +kernel
theorem dX5_cellMixed_3 : decode cX5_cellMixed 3 = .ok (.iload_n 3, 1) := by decide +kernel
theorem dX5_cellMixed_4 : decode cX5_cellMixed 4 = .ok (.invokevirtual 147, 3) := by decide +kernel
theorem dX5_cellMixed_7 : decode cX5_cellMixed 7 = .ok (.aload_n 0, 1) := by decide +kernel
theorem dX5_cellMixed_8 : decode cX5_cellMixed 8 = .ok (.iload_n 1, 1) := by decide +kernel
theorem dX5_cellMixed_9 : decode cX5_cellMixed 9 = .ok (.aload_n 0, 1) := by decide +kernel
theorem dX5_cellMixed_10 : decode cX5_cellMixed 10 = .ok (.iload_n 1, 1) := by decide +kernel
theorem dX5_cellMixed_11 : decode cX5_cellMixed 11 = .ok (.iload_n 3, 1) := by decide +kernel
theorem dX5_cellMixed_12 : decode cX5_cellMixed 12 = .ok (.invokevirtual 141, 3) := by decide +kernel
theorem dX5_cellMixed_15 : decode cX5_cellMixed 15 = .ok (.invokevirtual 115, 3) := by decide +kernel
theorem dX5_cellMixed_18 : decode cX5_cellMixed 18 = .ok (.isub, 1) := by decide +kernel
theorem dX5_cellMixed_19 : decode cX5_cellMixed 19 = .ok (.aload_n 0, 1) := by decide +kernel
theorem dX5_cellMixed_20 : decode cX5_cellMixed 20 = .ok (.iload_n 2, 1) := by decide +kernel
theorem dX5_cellMixed_21 : decode cX5_cellMixed 21 = .ok (.aload_n 0, 1) := by decide +kernel
theorem dX5_cellMixed_22 : decode cX5_cellMixed 22 = .ok (.iload_n 2, 1) := by decide +kernel
theorem dX5_cellMixed_23 : decode cX5_cellMixed 23 = .ok (.iload_n 3, 1) := by decide +kernel
theorem dX5_cellMixed_24 : decode cX5_cellMixed 24 = .ok (.invokevirtual 141, 3) := by decide +kernel
theorem dX5_cellMixed_27 : decode cX5_cellMixed 27 = .ok (.invokevirtual 115, 3) := by decide +kernel
theorem dX5_cellMixed_30 : decode cX5_cellMixed 30 = .ok (.isub, 1) := by decide +kernel
theorem dX5_cellMixed_31 : decode cX5_cellMixed 31 = .ok (.ireturn, 1) := by decide +kernel
theorem dX5_isKind_0 : decode cX5_isKind 0 = .ok (.iload_n 0, 1) := by decide +kernel
theorem dX5_isKind_1 : decode cX5_isKind 1 = .ok (.iconst 2, 1) := by decide +kernel
theorem dX5_isKind_2 : decode cX5_isKind 2 = .ok (.if_icmp .eq 25, 3) := by decide +kernel
theorem dX5_isKind_5 : decode cX5_isKind 5 = .ok (.iload_n 0, 1) := by decide +kernel
theorem dX5_isKind_6 : decode cX5_isKind 6 = .ok (.bipush 11, 2) := by decide +kernel
theorem dX5_isKind_8 : decode cX5_isKind 8 = .ok (.bipush 12, 2) := by decide +kernel
theorem dX5_isKind_10 : decode cX5_isKind 10 = .ok (.invokestatic 44, 3) := by decide +kernel
theorem dX5_isKind_13 : decode cX5_isKind 13 = .ok (.ifCond .ne 14, 3) := by decide +kernel
theorem dX5_isKind_16 : decode cX5_isKind 16 = .ok (.iload_n 0, 1) := by decide +kernel
theorem dX5_isKind_17 : decode cX5_isKind 17 = .ok (.bipush 20, 2) := by decide +kernel
theorem dX5_isKind_19 : decode cX5_isKind 19 = .ok (.bipush 22, 2) := by decide +kernel
theorem dX5_isKind_21 : decode cX5_isKind 21 = .ok (.invokestatic 44, 3) := by decide +kernel
theorem dX5_isKind_24 : decode cX5_isKind 24 = .ok (.ifCond .eq 7, 3) := by decide +kernel
theorem dX5_isKind_27 : decode cX5_isKind 27 = .ok (.iconst 1, 1) := by decide +kernel
theorem dX5_isKind_28 : decode cX5_isKind 28 = .ok (.goto 4, 3) := by decide +kernel
theorem dX5_isKind_31 : decode cX5_isKind 31 = .ok (.iconst 0, 1) := by decide +kernel
theorem dX5_isKind_32 : decode cX5_isKind 32 = .ok (.ireturn, 1) := by decide +kernel
theorem dX5_cells_0 : decode cX5_cells 0 = .ok (.iload_n 1, 1) := by decide +kernel
theorem dX5_cells_1 : decode cX5_cells 1 = .ok (.invokestatic 52, 3) := by decide +kernel
theorem dX5_cells_4 : decode cX5_cells 4 = .ok (.ifCond .eq 10, 3) := by decide +kernel
theorem dX5_cells_7 : decode cX5_cells 7 = .ok (.iload_n 2, 1) := by decide +kernel
theorem dX5_cells_8 : decode cX5_cells 8 = .ok (.invokestatic 52, 3) := by decide +kernel
theorem dX5_cells_11 : decode cX5_cells 11 = .ok (.ifCond .ne 5, 3) := by decide +kernel
theorem dX5_cells_14 : decode cX5_cells 14 = .ok (.iconst (-1), 1) := by decide +kernel
theorem dX5_cells_15 : decode cX5_cells 15 = .ok (.ireturn, 1) := by decide +kernel
theorem dX5_cells_16 : decode cX5_cells 16 = .ok (.iload_n 3, 1) := by decide +kernel
theorem dX5_cells_17 : decode cX5_cells 17 = .ok (.iconst 0, 1) := by decide +kernel
theorem dX5_cells_18 : decode cX5_cells 18 = .ok (.iconst 2, 1) := by decide +kernel
theorem dX5_cells_19 : decode cX5_cells 19 = .ok (.invokestatic 44, 3) := by decide +kernel
theorem dX5_cells_22 : decode cX5_cells 22 = .ok (.ifCond .ne 22, 3) := by decide +kernel
theorem dX5_cells_25 : decode cX5_cells 25 = .ok (.iload_n 3, 1) := by decide +kernel
theorem dX5_cells_26 : decode cX5_cells 26 = .ok (.bipush 100, 2) := by decide +kernel
theorem dX5_cells_28 : decode cX5_cells 28 = .ok (.if_icmp .le 13, 3) := by decide +kernel
theorem dX5_cells_31 : decode cX5_cells 31 = .ok (.iload_n 3, 1) := by decide +kernel
theorem dX5_cells_32 : decode cX5_cells 32 = .ok (.bipush 100, 2) := by decide +kernel
theorem dX5_cells_34 : decode cX5_cells 34 = .ok (.isub, 1) := by decide +kernel
theorem dX5_cells_35 : decode cX5_cells 35 = .ok (.invokestatic 150, 3) := by decide +kernel
theorem dX5_cells_38 : decode cX5_cells 38 = .ok (.ifCond .ne 6, 3) := by decide +kernel
theorem dX5_cells_41 : decode cX5_cells 41 = .ok (.bipush (-2), 2) := by decide +kernel
theorem dX5_cells_43 : decode cX5_cells 43 = .ok (.ireturn, 1) := by decide +kernel
theorem dX5_cells_44 : decode cX5_cells 44 = .ok (.aload_n 0, 1) := by decide +kernel
theorem dX5_cells_45 : decode cX5_cells 45 = .ok (.iload_n 1, 1) := by decide +kernel
theorem dX5_cells_46 : decode cX5_cells 46 = .ok (.iload_n 2, 1) := by decide +kernel
theorem dX5_cells_47 : decode cX5_cells 47 = .ok (.invokevirtual 153, 3) := by decide +kernel
theorem dX5_cells_50 : decode cX5_cells 50 = .ok (.iconst 0, 1) := by decide +kernel
theorem dX5_cells_51 : decode cX5_cells 51 = .ok (.istore 4, 2) := by decide +kernel
theorem dX5_cells_53 : decode cX5_cells 53 = .ok (.iconst 0, 1) := by decide +kernel
theorem dX5_cells_54 : decode cX5_cells 54 = .ok (.istore 5, 2) := by decide +kernel
theorem dX5_cells_56 : decode cX5_cells 56 = .ok (.iload 5, 2) := by decide +kernel
theorem dX5_cells_58 : decode cX5_cells 58 = .ok (.aload_n 0, 1) := by decide +kernel
theorem dX5_cells_59 : decode cX5_cells 59 = .ok (.getfield 118, 3) := by decide +kernel
theorem dX5_cells_62 : decode cX5_cells 62 = .ok (.if_icmp .ge 74, 3) := by decide +kernel
theorem dX5_cells_65 : decode cX5_cells 65 = .ok (.iload 4, 2) := by decide +kernel
theorem dX5_cells_67 : decode cX5_cells 67 = .ok (.iload_n 3, 1) := by decide +kernel
theorem dX5_cells_68 : decode cX5_cells 68 = .ok (.ifCond .ne 7, 3) := by decide +kernel
theorem dX5_cells_71 : decode cX5_cells 71 = .ok (.iconst 1, 1) := by decide +kernel
theorem dX5_cells_72 : decode cX5_cells 72 = .ok (.goto 55, 3) := by decide +kernel
theorem dX5_cells_75 : decode cX5_cells 75 = .ok (.iload_n 3, 1) := by decide +kernel
theorem dX5_cells_76 : decode cX5_cells 76 = .ok (.iconst 1, 1) := by decide +kernel
theorem dX5_cells_77 : decode cX5_cells 77 = .ok (.if_icmp .ne 14, 3) := by decide +kernel
theorem dX5_cells_80 : decode cX5_cells 80 = .ok (.aload_n 0, 1) := by decide +kernel
theorem dX5_cells_81 : decode cX5_cells 81 = .ok (.iload_n 1, 1) := by decide +kernel
theorem dX5_cells_82 : decode cX5_cells 82 = .ok (.iload_n 2, 1) := by decide +kernel
theorem dX5_cells_83 : decode cX5_cells 83 = .ok (.iload 5, 2) := by decide +kernel
theorem dX5_cells_85 : decode cX5_cells 85 = .ok (.invokevirtual 147, 3) := by decide +kernel
theorem dX5_cells_88 : decode cX5_cells 88 = .ok (.goto 39, 3) := by decide +kernel
theorem dX5_cells_91 : decode cX5_cells 91 = .ok (.iload_n 3, 1) := by decide +kernel
theorem dX5_cells_92 : decode cX5_cells 92 = .ok (.iconst 2, 1) := by decide +kernel
theorem dX5_cells_93 : decode cX5_cells 93 = .ok (.if_icmp .ne 14, 3) := by decide +kernel
theorem dX5_cells_96 : decode cX5_cells 96 = .ok (.aload_n 0, 1) := by decide +kernel
theorem dX5_cells_97 : decode cX5_cells 97 = .ok (.iload_n 1, 1) := by decide +kernel
theorem dX5_cells_98 : decode cX5_cells 98 = .ok (.iload_n 2, 1) := by decide +kernel
theorem dX5_cells_99 : decode cX5_cells 99 = .ok (.iload 5, 2) := by decide +kernel
theorem dX5_cells_101 : decode cX5_cells 101 = .ok (.invokevirtual 156, 3) := by decide +kernel
theorem dX5_cells_104 : decode cX5_cells 104 = .ok (.goto 23, 3) := by decide +kernel
theorem dX5_cells_107 : decode cX5_cells 107 = .ok (.aload_n 0, 1) := by decide +kernel
theorem dX5_cells_108 : decode cX5_cells 108 = .ok (.iload_n 1, 1) := by decide +kernel
theorem dX5_cells_109 : decode cX5_cells 109 = .ok (.iload_n 2, 1) := by decide +kernel
theorem dX5_cells_110 : decode cX5_cells 110 = .ok (.iload 5, 2) := by decide +kernel
theorem dX5_cells_112 : decode cX5_cells 112 = .ok (.invokevirtual 159, 3) := by decide +kernel
theorem dX5_cells_115 : decode cX5_cells 115 = .ok (.iload_n 3, 1) := by decide +kernel
theorem dX5_cells_116 : decode cX5_cells 116 = .ok (.bipush 100, 2) := by decide +kernel
theorem dX5_cells_118 : decode cX5_cells 118 = .ok (.isub, 1) := by decide +kernel
theorem dX5_cells_119 : decode cX5_cells 119 = .ok (.if_icmp .ne 7, 3) := by decide +kernel
theorem dX5_cells_122 : decode cX5_cells 122 = .ok (.iconst 1, 1) := by decide +kernel
theorem dX5_cells_123 : decode cX5_cells 123 = .ok (.goto 4, 3) := by decide +kernel
theorem dX5_cells_126 : decode cX5_cells 126 = .ok (.iconst 0, 1) := by decide +kernel
theorem dX5_cells_127 : decode cX5_cells 127 = .ok (.iadd, 1) := by decide +kernel
theorem dX5_cells_128 : decode cX5_cells 128 = .ok (.istore 4, 2) := by decide +kernel
theorem dX5_cells_130 : decode cX5_cells 130 = .ok (.iinc 5 1, 3) := by decide +kernel
theorem dX5_cells_133 : decode cX5_cells 133 = .ok (.goto (-77), 3) := by decide +kernel
theorem dX5_cells_136 : decode cX5_cells 136 = .ok (.iload 4, 2) := by decide +kernel
theorem dX5_cells_138 : decode cX5_cells 138 = .ok (.ireturn, 1) := by decide +kernel
theorem dX5_cell_0 : decode cX5_cell 0 = .ok (.iload_n 1, 1) := by decide +kernel
theorem dX5_cell_1 : decode cX5_cell 1 = .ok (.invokestatic 52, 3) := by decide +kernel
theorem dX5_cell_4 : decode cX5_cell 4 = .ok (.ifCond .eq 10, 3) := by decide +kernel
theorem dX5_cell_7 : decode cX5_cell 7 = .ok (.iload_n 2, 1) := by decide +kernel
theorem dX5_cell_8 : decode cX5_cell 8 = .ok (.invokestatic 52, 3) := by decide +kernel
theorem dX5_cell_11 : decode cX5_cell 11 = .ok (.ifCond .ne 5, 3) := by decide +kernel
theorem dX5_cell_14 : decode cX5_cell 14 = .ok (.iconst (-1), 1) := by decide +kernel
theorem dX5_cell_15 : decode cX5_cell 15 = .ok (.ireturn, 1) := by decide +kernel
theorem dX5_cell_16 : decode cX5_cell 16 = .ok (.iload 4, 2) := by decide +kernel
theorem dX5_cell_18 : decode cX5_cell 18 = .ok (.iconst 0, 1) := by decide +kernel
theorem dX5_cell_19 : decode cX5_cell 19 = .ok (.iconst 4, 1) := by decide +kernel
theorem dX5_cell_20 : decode cX5_cell 20 = .ok (.invokestatic 44, 3) := by decide +kernel
theorem dX5_cell_23 : decode cX5_cell 23 = .ok (.ifCond .ne 6, 3) := by decide +kernel
theorem dX5_cell_26 : decode cX5_cell 26 = .ok (.bipush (-2), 2) := by decide +kernel
theorem dX5_cell_28 : decode cX5_cell 28 = .ok (.ireturn, 1) := by decide +kernel
theorem dX5_cell_29 : decode cX5_cell 29 = .ok (.aload_n 0, 1) := by decide +kernel
theorem dX5_cell_30 : decode cX5_cell 30 = .ok (.iload_n 1, 1) := by decide +kernel
theorem dX5_cell_31 : decode cX5_cell 31 = .ok (.iload_n 2, 1) := by decide +kernel
theorem dX5_cell_32 : decode cX5_cell 32 = .ok (.invokevirtual 153, 3) := by decide +kernel
theorem dX5_cell_35 : decode cX5_cell 35 = .ok (.iload_n 3, 1) := by decide +kernel
theorem dX5_cell_36 : decode cX5_cell 36 = .ok (.iconst 0, 1) := by decide +kernel
theorem dX5_cell_37 : decode cX5_cell 37 = .ok (.aload_n 0, 1) := by decide +kernel
theorem dX5_cell_38 : decode cX5_cell 38 = .ok (.getfield 118, 3) := by decide +kernel
theorem dX5_cell_41 : decode cX5_cell 41 = .ok (.iconst 1, 1) := by decide +kernel
theorem dX5_cell_42 : decode cX5_cell 42 = .ok (.isub, 1) := by decide +kernel
theorem dX5_cell_43 : decode cX5_cell 43 = .ok (.invokestatic 44, 3) := by decide +kernel
theorem dX5_cell_46 : decode cX5_cell 46 = .ok (.ifCond .ne 6, 3) := by decide +kernel
theorem dX5_cell_49 : decode cX5_cell 49 = .ok (.bipush (-6), 2) := by decide +kernel
theorem dX5_cell_51 : decode cX5_cell 51 = .ok (.ireturn, 1) := by decide +kernel
theorem dX5_cell_52 : decode cX5_cell 52 = .ok (.iload 4, 2) := by decide +kernel
theorem dX5_cell_54 : decode cX5_cell 54 = .ok (.tableswitch 61 0 3 #[30, 38, 46, 54], 30) := by decide +kernel
theorem dX5_cell_84 : decode cX5_cell 84 = .ok (.aload_n 0, 1) := by decide +kernel
theorem dX5_cell_85 : decode cX5_cell 85 = .ok (.iload_n 1, 1) := by decide +kernel
theorem dX5_cell_86 : decode cX5_cell 86 = .ok (.iload_n 2, 1) := by decide +kernel
theorem dX5_cell_87 : decode cX5_cell 87 = .ok (.iload_n 3, 1) := by decide +kernel
theorem dX5_cell_88 : decode cX5_cell 88 = .ok (.invokevirtual 159, 3) := by decide +kernel
theorem dX5_cell_91 : decode cX5_cell 91 = .ok (.ireturn, 1) := by decide +kernel
theorem dX5_cell_92 : decode cX5_cell 92 = .ok (.aload_n 0, 1) := by decide +kernel
theorem dX5_cell_93 : decode cX5_cell 93 = .ok (.iload_n 1, 1) := by decide +kernel
theorem dX5_cell_94 : decode cX5_cell 94 = .ok (.iload_n 2, 1) := by decide +kernel
theorem dX5_cell_95 : decode cX5_cell 95 = .ok (.iload_n 3, 1) := by decide +kernel
theorem dX5_cell_96 : decode cX5_cell 96 = .ok (.invokevirtual 147, 3) := by decide +kernel
theorem dX5_cell_99 : decode cX5_cell 99 = .ok (.ireturn, 1) := by decide +kernel
theorem dX5_cell_100 : decode cX5_cell 100 = .ok (.aload_n 0, 1) := by decide +kernel
theorem dX5_cell_101 : decode cX5_cell 101 = .ok (.iload_n 1, 1) := by decide +kernel
theorem dX5_cell_102 : decode cX5_cell 102 = .ok (.iload_n 2, 1) := by decide +kernel
theorem dX5_cell_103 : decode cX5_cell 103 = .ok (.iload_n 3, 1) := by decide +kernel
theorem dX5_cell_104 : decode cX5_cell 104 = .ok (.invokevirtual 156, 3) := by decide +kernel
theorem dX5_cell_107 : decode cX5_cell 107 = .ok (.ireturn, 1) := by decide +kernel
theorem dX5_cell_108 : decode cX5_cell 108 = .ok (.aload_n 0, 1) := by decide +kernel
theorem dX5_cell_109 : decode cX5_cell 109 = .ok (.iload_n 1, 1) := by decide +kernel
theorem dX5_cell_110 : decode cX5_cell 110 = .ok (.iload_n 3, 1) := by decide +kernel
theorem dX5_cell_111 : decode cX5_cell 111 = .ok (.invokevirtual 141, 3) := by decide +kernel
theorem dX5_cell_114 : decode cX5_cell 114 = .ok (.ireturn, 1) := by decide +kernel
theorem dX5_cell_115 : decode cX5_cell 115 = .ok (.aload_n 0, 1) := by decide +kernel
theorem dX5_cell_116 : decode cX5_cell 116 = .ok (.iload_n 2, 1) := by decide +kernel
theorem dX5_cell_117 : decode cX5_cell 117 = .ok (.iload_n 3, 1) := by decide +kernel
theorem dX5_cell_118 : decode cX5_cell 118 = .ok (.invokevirtual 141, 3) := by decide +kernel
theorem dX5_cell_121 : decode cX5_cell 121 = .ok (.ireturn, 1) := by decide +kernel
theorem dX5_common_0 : decode cX5_common 0 = .ok (.iload_n 0, 1) := by decide +kernel
theorem dX5_common_1 : decode cX5_common 1 = .ok (.ifCond .ge 8, 3) := by decide +kernel
theorem dX5_common_4 : decode cX5_common 4 = .ok (.iload_n 0, 1) := by decide +kernel
theorem dX5_common_5 : decode cX5_common 5 = .ok (.ineg, 1) := by decide +kernel
theorem dX5_common_6 : decode cX5_common 6 = .ok (.goto 4, 3) := by decide +kernel
theorem dX5_common_9 : decode cX5_common 9 = .ok (.iload_n 0, 1) := by decide +kernel
theorem dX5_common_10 : decode cX5_common 10 = .ok (.istore_n 2, 1) := by decide +kernel
theorem dX5_common_11 : decode cX5_common 11 = .ok (.iload_n 1, 1) := by decide +kernel
theorem dX5_common_12 : decode cX5_common 12 = .ok (.istore_n 3, 1) := by decide +kernel
theorem dX5_common_13 : decode cX5_common 13 = .ok (.iconst 0, 1) := by decide +kernel
theorem dX5_common_14 : decode cX5_common 14 = .ok (.istore 4, 2) := by decide +kernel
theorem dX5_common_16 : decode cX5_common 16 = .ok (.iload 4, 2) := by decide +kernel
theorem dX5_common_18 : decode cX5_common 18 = .ok (.bipush 100, 2) := by decide +kernel
theorem dX5_common_20 : decode cX5_common 20 = .ok (.if_icmp .ge 23, 3) := by decide +kernel
theorem dX5_common_23 : decode cX5_common 23 = .ok (.iload_n 3, 1) := by decide +kernel
theorem dX5_common_24 : decode cX5_common 24 = .ok (.ifCond .eq 19, 3) := by decide +kernel
theorem dX5_common_27 : decode cX5_common 27 = .ok (.iload_n 2, 1) := by decide +kernel
theorem dX5_common_28 : decode cX5_common 28 = .ok (.iload_n 3, 1) := by decide +kernel
theorem dX5_common_29 : decode cX5_common 29 = .ok (.irem, 1) := by decide +kernel
theorem dX5_common_30 : decode cX5_common 30 = .ok (.istore 5, 2) := by decide +kernel
theorem dX5_common_32 : decode cX5_common 32 = .ok (.iload_n 3, 1) := by decide +kernel
theorem dX5_common_33 : decode cX5_common 33 = .ok (.istore_n 2, 1) := by decide +kernel
theorem dX5_common_34 : decode cX5_common 34 = .ok (.iload 5, 2) := by decide +kernel
theorem dX5_common_36 : decode cX5_common 36 = .ok (.istore_n 3, 1) := by decide +kernel
theorem dX5_common_37 : decode cX5_common 37 = .ok (.iinc 4 1, 3) := by decide +kernel
theorem dX5_common_40 : decode cX5_common 40 = .ok (.goto (-24), 3) := by decide +kernel
theorem dX5_common_43 : decode cX5_common 43 = .ok (.iload_n 2, 1) := by decide +kernel
theorem dX5_common_44 : decode cX5_common 44 = .ok (.ireturn, 1) := by decide +kernel
theorem dX5_slope_0 : decode cX5_slope 0 = .ok (.iload_n 1, 1) := by decide +kernel
theorem dX5_slope_1 : decode cX5_slope 1 = .ok (.invokestatic 52, 3) := by decide +kernel
theorem dX5_slope_4 : decode cX5_slope 4 = .ok (.ifCond .eq 10, 3) := by decide +kernel
theorem dX5_slope_7 : decode cX5_slope 7 = .ok (.iload_n 2, 1) := by decide +kernel
theorem dX5_slope_8 : decode cX5_slope 8 = .ok (.invokestatic 52, 3) := by decide +kernel
theorem dX5_slope_11 : decode cX5_slope 11 = .ok (.ifCond .ne 5, 3) := by decide +kernel
theorem dX5_slope_14 : decode cX5_slope 14 = .ok (.iconst (-1), 1) := by decide +kernel
theorem dX5_slope_15 : decode cX5_slope 15 = .ok (.ireturn, 1) := by decide +kernel
theorem dX5_slope_16 : decode cX5_slope 16 = .ok (.iload 4, 2) := by decide +kernel
theorem dX5_slope_18 : decode cX5_slope 18 = .ok (.iconst 0, 1) := by decide +kernel
theorem dX5_slope_19 : decode cX5_slope 19 = .ok (.iconst 3, 1) := by decide +kernel
theorem dX5_slope_20 : decode cX5_slope 20 = .ok (.invokestatic 44, 3) := by decide +kernel
theorem dX5_slope_23 : decode cX5_slope 23 = .ok (.ifCond .ne 6, 3) := by decide +kernel
theorem dX5_slope_26 : decode cX5_slope 26 = .ok (.bipush (-2), 2) := by decide +kernel
theorem dX5_slope_28 : decode cX5_slope 28 = .ok (.ireturn, 1) := by decide +kernel
theorem dX5_slope_29 : decode cX5_slope 29 = .ok (.aload_n 0, 1) := by decide +kernel
theorem dX5_slope_30 : decode cX5_slope 30 = .ok (.iload_n 1, 1) := by decide +kernel
theorem dX5_slope_31 : decode cX5_slope 31 = .ok (.iload_n 2, 1) := by decide +kernel
theorem dX5_slope_32 : decode cX5_slope 32 = .ok (.invokevirtual 153, 3) := by decide +kernel
theorem dX5_slope_35 : decode cX5_slope 35 = .ok (.iload_n 3, 1) := by decide +kernel
theorem dX5_slope_36 : decode cX5_slope 36 = .ok (.iconst 0, 1) := by decide +kernel
theorem dX5_slope_37 : decode cX5_slope 37 = .ok (.aload_n 0, 1) := by decide +kernel
theorem dX5_slope_38 : decode cX5_slope 38 = .ok (.getfield 118, 3) := by decide +kernel
theorem dX5_slope_41 : decode cX5_slope 41 = .ok (.iconst 1, 1) := by decide +kernel
theorem dX5_slope_42 : decode cX5_slope 42 = .ok (.isub, 1) := by decide +kernel
theorem dX5_slope_43 : decode cX5_slope 43 = .ok (.invokestatic 44, 3) := by decide +kernel
theorem dX5_slope_46 : decode cX5_slope 46 = .ok (.ifCond .ne 6, 3) := by decide +kernel
theorem dX5_slope_49 : decode cX5_slope 49 = .ok (.bipush (-6), 2) := by decide +kernel
theorem dX5_slope_51 : decode cX5_slope 51 = .ok (.ireturn, 1) := by decide +kernel
theorem dX5_slope_52 : decode cX5_slope 52 = .ok (.iload 4, 2) := by decide +kernel
theorem dX5_slope_54 : decode cX5_slope 54 = .ok (.iconst 2, 1) := by decide +kernel
theorem dX5_slope_55 : decode cX5_slope 55 = .ok (.if_icmp .ge 12, 3) := by decide +kernel
theorem dX5_slope_58 : decode cX5_slope 58 = .ok (.aload_n 0, 1) := by decide +kernel
theorem dX5_slope_59 : decode cX5_slope 59 = .ok (.getfield 29, 3) := by decide +kernel
theorem dX5_slope_62 : decode cX5_slope 62 = .ok (.iload_n 3, 1) := by decide +kernel
theorem dX5_slope_63 : decode cX5_slope 63 = .ok (.iaload, 1) := by decide +kernel
theorem dX5_slope_64 : decode cX5_slope 64 = .ok (.goto 9, 3) := by decide +kernel
theorem dX5_slope_67 : decode cX5_slope 67 = .ok (.aload_n 0, 1) := by decide +kernel
theorem dX5_slope_68 : decode cX5_slope 68 = .ok (.getfield 32, 3) := by decide +kernel
theorem dX5_slope_71 : decode cX5_slope 71 = .ok (.iload_n 3, 1) := by decide +kernel
theorem dX5_slope_72 : decode cX5_slope 72 = .ok (.iaload, 1) := by decide +kernel
theorem dX5_slope_73 : decode cX5_slope 73 = .ok (.istore 5, 2) := by decide +kernel
theorem dX5_slope_75 : decode cX5_slope 75 = .ok (.iload 5, 2) := by decide +kernel
theorem dX5_slope_77 : decode cX5_slope 77 = .ok (.aload_n 0, 1) := by decide +kernel
theorem dX5_slope_78 : decode cX5_slope 78 = .ok (.getfield 35, 3) := by decide +kernel
theorem dX5_slope_81 : decode cX5_slope 81 = .ok (.iload_n 3, 1) := by decide +kernel
theorem dX5_slope_82 : decode cX5_slope 82 = .ok (.iaload, 1) := by decide +kernel
theorem dX5_slope_83 : decode cX5_slope 83 = .ok (.invokestatic 162, 3) := by decide +kernel
theorem dX5_slope_86 : decode cX5_slope 86 = .ok (.istore 6, 2) := by decide +kernel
theorem dX5_slope_88 : decode cX5_slope 88 = .ok (.iload 4, 2) := by decide +kernel
theorem dX5_slope_90 : decode cX5_slope 90 = .ok (.iconst 2, 1) := by decide +kernel
theorem dX5_slope_91 : decode cX5_slope 91 = .ok (.irem, 1) := by decide +kernel
theorem dX5_slope_92 : decode cX5_slope 92 = .ok (.ifCond .ne 14, 3) := by decide +kernel
theorem dX5_slope_95 : decode cX5_slope 95 = .ok (.iload 5, 2) := by decide +kernel
theorem dX5_slope_97 : decode cX5_slope 97 = .ok (.iload 6, 2) := by decide +kernel
theorem dX5_slope_99 : decode cX5_slope 99 = .ok (.idiv, 1) := by decide +kernel
theorem dX5_slope_100 : decode cX5_slope 100 = .ok (.ldc 165, 2) := by decide +kernel
theorem dX5_slope_102 : decode cX5_slope 102 = .ok (.iadd, 1) := by decide +kernel
theorem dX5_slope_103 : decode cX5_slope 103 = .ok (.goto 12, 3) := by decide +kernel
theorem dX5_slope_106 : decode cX5_slope 106 = .ok (.aload_n 0, 1) := by decide +kernel
theorem dX5_slope_107 : decode cX5_slope 107 = .ok (.getfield 35, 3) := by decide +kernel
theorem dX5_slope_110 : decode cX5_slope 110 = .ok (.iload_n 3, 1) := by decide +kernel
theorem dX5_slope_111 : decode cX5_slope 111 = .ok (.iaload, 1) := by decide +kernel
theorem dX5_slope_112 : decode cX5_slope 112 = .ok (.iload 6, 2) := by decide +kernel
theorem dX5_slope_114 : decode cX5_slope 114 = .ok (.idiv, 1) := by decide +kernel
theorem dX5_slope_115 : decode cX5_slope 115 = .ok (.ireturn, 1) := by decide +kernel
theorem dX5_low_0 : decode cX5_low 0 = .ok (.iload_n 1, 1) := by decide +kernel
theorem dX5_low_1 : decode cX5_low 1 = .ok (.invokestatic 52, 3) := by decide +kernel
theorem dX5_low_4 : decode cX5_low 4 = .ok (.ifCond .ne 5, 3) := by decide +kernel
theorem dX5_low_7 : decode cX5_low 7 = .ok (.iconst (-1), 1) := by decide +kernel
theorem dX5_low_8 : decode cX5_low 8 = .ok (.ireturn, 1) := by decide +kernel
theorem dX5_low_9 : decode cX5_low 9 = .ok (.iload_n 2, 1) := by decide +kernel
theorem dX5_low_10 : decode cX5_low 10 = .ok (.sipush (-1000), 3) := by decide +kernel
theorem dX5_low_13 : decode cX5_low 13 = .ok (.sipush 1000, 3) := by decide +kernel
theorem dX5_low_16 : decode cX5_low 16 = .ok (.invokestatic 44, 3) := by decide +kernel
theorem dX5_low_19 : decode cX5_low 19 = .ok (.ifCond .eq 16, 3) := by decide +kernel
theorem dX5_low_22 : decode cX5_low 22 = .ok (.iload_n 3, 1) := by decide +kernel
theorem dX5_low_23 : decode cX5_low 23 = .ok (.sipush (-1000), 3) := by decide +kernel
theorem dX5_low_26 : decode cX5_low 26 = .ok (.sipush 1000, 3) := by decide +kernel
theorem dX5_low_29 : decode cX5_low 29 = .ok (.invokestatic 44, 3) := by decide +kernel
theorem dX5_low_32 : decode cX5_low 32 = .ok (.ifCond .ne 6, 3) := by decide +kernel
theorem dX5_low_35 : decode cX5_low 35 = .ok (.bipush (-2), 2) := by decide +kernel
theorem dX5_low_37 : decode cX5_low 37 = .ok (.ireturn, 1) := by decide +kernel
theorem dX5_low_38 : decode cX5_low 38 = .ok (.aload_n 0, 1) := by decide +kernel
theorem dX5_low_39 : decode cX5_low 39 = .ok (.iload_n 1, 1) := by decide +kernel
theorem dX5_low_40 : decode cX5_low 40 = .ok (.iload_n 2, 1) := by decide +kernel
theorem dX5_low_41 : decode cX5_low 41 = .ok (.iload_n 3, 1) := by decide +kernel
theorem dX5_low_42 : decode cX5_low 42 = .ok (.iconst 1, 1) := by decide +kernel
theorem dX5_low_43 : decode cX5_low 43 = .ok (.invokevirtual 127, 3) := by decide +kernel
theorem dX5_low_46 : decode cX5_low 46 = .ok (.ireturn, 1) := by decide +kernel
theorem dX5_fan_0 : decode cX5_fan 0 = .ok (.iload_n 1, 1) := by decide +kernel
theorem dX5_fan_1 : decode cX5_fan 1 = .ok (.invokestatic 52, 3) := by decide +kernel
theorem dX5_fan_4 : decode cX5_fan 4 = .ok (.ifCond .ne 5, 3) := by decide +kernel
theorem dX5_fan_7 : decode cX5_fan 7 = .ok (.iconst (-1), 1) := by decide +kernel
theorem dX5_fan_8 : decode cX5_fan 8 = .ok (.ireturn, 1) := by decide +kernel
theorem dX5_fan_9 : decode cX5_fan 9 = .ok (.iload_n 2, 1) := by decide +kernel
theorem dX5_fan_10 : decode cX5_fan 10 = .ok (.iconst 0, 1) := by decide +kernel
theorem dX5_fan_11 : decode cX5_fan 11 = .ok (.iconst 2, 1) := by decide +kernel
theorem dX5_fan_12 : decode cX5_fan 12 = .ok (.invokestatic 44, 3) := by decide +kernel
theorem dX5_fan_15 : decode cX5_fan 15 = .ok (.ifCond .ne 6, 3) := by decide +kernel
theorem dX5_fan_18 : decode cX5_fan 18 = .ok (.bipush (-2), 2) := by decide +kernel
theorem dX5_fan_20 : decode cX5_fan 20 = .ok (.ireturn, 1) := by decide +kernel
theorem dX5_fan_21 : decode cX5_fan 21 = .ok (.aload_n 0, 1) := by decide +kernel
theorem dX5_fan_22 : decode cX5_fan 22 = .ok (.iconst 0, 1) := by decide +kernel
theorem dX5_fan_23 : decode cX5_fan 23 = .ok (.putfield 63, 3) := by decide +kernel
theorem dX5_fan_26 : decode cX5_fan 26 = .ok (.iconst 0, 1) := by decide +kernel
theorem dX5_fan_27 : decode cX5_fan 27 = .ok (.istore_n 3, 1) := by decide +kernel
theorem dX5_fan_28 : decode cX5_fan 28 = .ok (.iload_n 3, 1) := by decide +kernel
theorem dX5_fan_29 : decode cX5_fan 29 = .ok (.iconst 1, 1) := by decide +kernel
theorem dX5_fan_30 : decode cX5_fan 30 = .ok (.aload_n 0, 1) := by decide +kernel
theorem dX5_fan_31 : decode cX5_fan 31 = .ok (.iload_n 1, 1) := by decide +kernel
theorem dX5_fan_32 : decode cX5_fan 32 = .ok (.invokevirtual 56, 3) := by decide +kernel
theorem dX5_fan_35 : decode cX5_fan 35 = .ok (.ishl, 1) := by decide +kernel
theorem dX5_fan_36 : decode cX5_fan 36 = .ok (.if_icmp .ge 94, 3) := by decide +kernel
theorem dX5_fan_39 : decode cX5_fan 39 = .ok (.iconst 0, 1) := by decide +kernel
theorem dX5_fan_40 : decode cX5_fan 40 = .ok (.istore 4, 2) := by decide +kernel
theorem dX5_fan_42 : decode cX5_fan 42 = .ok (.iconst 0, 1) := by decide +kernel
theorem dX5_fan_43 : decode cX5_fan 43 = .ok (.istore 5, 2) := by decide +kernel
theorem dX5_fan_45 : decode cX5_fan 45 = .ok (.iconst 0, 1) := by decide +kernel
theorem dX5_fan_46 : decode cX5_fan 46 = .ok (.istore 6, 2) := by decide +kernel
theorem dX5_fan_48 : decode cX5_fan 48 = .ok (.iload 6, 2) := by decide +kernel
theorem dX5_fan_50 : decode cX5_fan 50 = .ok (.aload_n 0, 1) := by decide +kernel
theorem dX5_fan_51 : decode cX5_fan 51 = .ok (.iload_n 1, 1) := by decide +kernel
theorem dX5_fan_52 : decode cX5_fan 52 = .ok (.invokevirtual 56, 3) := by decide +kernel
theorem dX5_fan_55 : decode cX5_fan 55 = .ok (.if_icmp .ge 61, 3) := by decide +kernel
theorem dX5_fan_58 : decode cX5_fan 58 = .ok (.iload 4, 2) := by decide +kernel
theorem dX5_fan_60 : decode cX5_fan 60 = .ok (.iload_n 3, 1) := by decide +kernel
theorem dX5_fan_61 : decode cX5_fan 61 = .ok (.iload 6, 2) := by decide +kernel
theorem dX5_fan_63 : decode cX5_fan 63 = .ok (.invokestatic 80, 3) := by decide +kernel
theorem dX5_fan_66 : decode cX5_fan 66 = .ok (.ifCond .eq 14, 3) := by decide +kernel
theorem dX5_fan_69 : decode cX5_fan 69 = .ok (.aload_n 0, 1) := by decide +kernel
theorem dX5_fan_70 : decode cX5_fan 70 = .ok (.iload_n 1, 1) := by decide +kernel
theorem dX5_fan_71 : decode cX5_fan 71 = .ok (.iload 6, 2) := by decide +kernel
theorem dX5_fan_73 : decode cX5_fan 73 = .ok (.iconst 0, 1) := by decide +kernel
theorem dX5_fan_74 : decode cX5_fan 74 = .ok (.invokevirtual 60, 3) := by decide +kernel
theorem dX5_fan_77 : decode cX5_fan 77 = .ok (.goto 4, 3) := by decide +kernel
theorem dX5_fan_80 : decode cX5_fan 80 = .ok (.iconst 0, 1) := by decide +kernel
theorem dX5_fan_81 : decode cX5_fan 81 = .ok (.iadd, 1) := by decide +kernel
theorem dX5_fan_82 : decode cX5_fan 82 = .ok (.istore 4, 2) := by decide +kernel
theorem dX5_fan_84 : decode cX5_fan 84 = .ok (.iload 5, 2) := by decide +kernel
theorem dX5_fan_86 : decode cX5_fan 86 = .ok (.iload_n 3, 1) := by decide +kernel
theorem dX5_fan_87 : decode cX5_fan 87 = .ok (.iload 6, 2) := by decide +kernel
theorem dX5_fan_89 : decode cX5_fan 89 = .ok (.invokestatic 80, 3) := by decide +kernel
theorem dX5_fan_92 : decode cX5_fan 92 = .ok (.ifCond .eq 14, 3) := by decide +kernel
theorem dX5_fan_95 : decode cX5_fan 95 = .ok (.aload_n 0, 1) := by decide +kernel
theorem dX5_fan_96 : decode cX5_fan 96 = .ok (.iload_n 1, 1) := by decide +kernel
theorem dX5_fan_97 : decode cX5_fan 97 = .ok (.iload 6, 2) := by decide +kernel
theorem dX5_fan_99 : decode cX5_fan 99 = .ok (.iconst 1, 1) := by decide +kernel
theorem dX5_fan_100 : decode cX5_fan 100 = .ok (.invokevirtual 60, 3) := by decide +kernel
theorem dX5_fan_103 : decode cX5_fan 103 = .ok (.goto 4, 3) := by decide +kernel
theorem dX5_fan_106 : decode cX5_fan 106 = .ok (.iconst 0, 1) := by decide +kernel
theorem dX5_fan_107 : decode cX5_fan 107 = .ok (.iadd, 1) := by decide +kernel
theorem dX5_fan_108 : decode cX5_fan 108 = .ok (.istore 5, 2) := by decide +kernel
theorem dX5_fan_110 : decode cX5_fan 110 = .ok (.iinc 6 1, 3) := by decide +kernel
theorem dX5_fan_113 : decode cX5_fan 113 = .ok (.goto (-65), 3) := by decide +kernel
theorem dX5_fan_116 : decode cX5_fan 116 = .ok (.aload_n 0, 1) := by decide +kernel
theorem dX5_fan_117 : decode cX5_fan 117 = .ok (.iload 4, 2) := by decide +kernel
theorem dX5_fan_119 : decode cX5_fan 119 = .ok (.iload 5, 2) := by decide +kernel
theorem dX5_fan_121 : decode cX5_fan 121 = .ok (.invokevirtual 84, 3) := by decide +kernel
theorem dX5_fan_124 : decode cX5_fan 124 = .ok (.iinc 3 1, 3) := by decide +kernel
theorem dX5_fan_127 : decode cX5_fan 127 = .ok (.goto (-99), 3) := by decide +kernel
theorem dX5_fan_130 : decode cX5_fan 130 = .ok (.aload_n 0, 1) := by decide +kernel
theorem dX5_fan_131 : decode cX5_fan 131 = .ok (.invokevirtual 88, 3) := by decide +kernel
theorem dX5_fan_134 : decode cX5_fan 134 = .ok (.iload_n 2, 1) := by decide +kernel
theorem dX5_fan_135 : decode cX5_fan 135 = .ok (.ifCond .ne 10, 3) := by decide +kernel
theorem dX5_fan_138 : decode cX5_fan 138 = .ok (.aload_n 0, 1) := by decide +kernel
theorem dX5_fan_139 : decode cX5_fan 139 = .ok (.invokevirtual 97, 3) := by decide +kernel
theorem dX5_fan_142 : decode cX5_fan 142 = .ok (.goto 19, 3) := by decide +kernel
theorem dX5_fan_145 : decode cX5_fan 145 = .ok (.iload_n 2, 1) := by decide +kernel
theorem dX5_fan_146 : decode cX5_fan 146 = .ok (.iconst 1, 1) := by decide +kernel
theorem dX5_fan_147 : decode cX5_fan 147 = .ok (.if_icmp .ne 10, 3) := by decide +kernel
theorem dX5_fan_150 : decode cX5_fan 150 = .ok (.aload_n 0, 1) := by decide +kernel
theorem dX5_fan_151 : decode cX5_fan 151 = .ok (.getfield 74, 3) := by decide +kernel
theorem dX5_fan_154 : decode cX5_fan 154 = .ok (.goto 7, 3) := by decide +kernel
theorem dX5_fan_157 : decode cX5_fan 157 = .ok (.aload_n 0, 1) := by decide +kernel
theorem dX5_fan_158 : decode cX5_fan 158 = .ok (.getfield 63, 3) := by decide +kernel
theorem dX5_fan_161 : decode cX5_fan 161 = .ok (.ireturn, 1) := by decide +kernel
theorem dX5_power_0 : decode cX5_power 0 = .ok (.iconst 1, 1) := by decide +kernel
theorem dX5_power_1 : decode cX5_power 1 = .ok (.istore_n 3, 1) := by decide +kernel
theorem dX5_power_2 : decode cX5_power 2 = .ok (.iconst 0, 1) := by decide +kernel
theorem dX5_power_3 : decode cX5_power 3 = .ok (.istore 4, 2) := by decide +kernel
theorem dX5_power_5 : decode cX5_power 5 = .ok (.iload 4, 2) := by decide +kernel
theorem dX5_power_7 : decode cX5_power 7 = .ok (.iload_n 1, 1) := by decide +kernel
theorem dX5_power_8 : decode cX5_power 8 = .ok (.if_icmp .ge 15, 3) := by decide +kernel
theorem dX5_power_11 : decode cX5_power 11 = .ok (.iload_n 3, 1) := by decide +kernel
theorem dX5_power_12 : decode cX5_power 12 = .ok (.iload_n 0, 1) := by decide +kernel
theorem dX5_power_13 : decode cX5_power 13 = .ok (.imul, 1) := by decide +kernel
theorem dX5_power_14 : decode cX5_power 14 = .ok (.iload_n 2, 1) := by decide +kernel
theorem dX5_power_15 : decode cX5_power 15 = .ok (.irem, 1) := by decide +kernel
theorem dX5_power_16 : decode cX5_power 16 = .ok (.istore_n 3, 1) := by decide +kernel
theorem dX5_power_17 : decode cX5_power 17 = .ok (.iinc 4 1, 3) := by decide +kernel
theorem dX5_power_20 : decode cX5_power 20 = .ok (.goto (-15), 3) := by decide +kernel
theorem dX5_power_23 : decode cX5_power 23 = .ok (.iload_n 3, 1) := by decide +kernel
theorem dX5_power_24 : decode cX5_power 24 = .ok (.iload_n 2, 1) := by decide +kernel
theorem dX5_power_25 : decode cX5_power 25 = .ok (.irem, 1) := by decide +kernel
theorem dX5_power_26 : decode cX5_power 26 = .ok (.ireturn, 1) := by decide +kernel
theorem dX5_holds_0 : decode cX5_holds 0 = .ok (.iconst 0, 1) := by decide +kernel
theorem dX5_holds_1 : decode cX5_holds 1 = .ok (.istore 5, 2) := by decide +kernel
theorem dX5_holds_3 : decode cX5_holds 3 = .ok (.iconst 0, 1) := by decide +kernel
theorem dX5_holds_4 : decode cX5_holds 4 = .ok (.istore 6, 2) := by decide +kernel
theorem dX5_holds_6 : decode cX5_holds 6 = .ok (.iload 6, 2) := by decide +kernel
theorem dX5_holds_8 : decode cX5_holds 8 = .ok (.aload_n 0, 1) := by decide +kernel
theorem dX5_holds_9 : decode cX5_holds 9 = .ok (.iload_n 1, 1) := by decide +kernel
theorem dX5_holds_10 : decode cX5_holds 10 = .ok (.invokevirtual 56, 3) := by decide +kernel
theorem dX5_holds_13 : decode cX5_holds 13 = .ok (.if_icmp .ge 52, 3) := by decide +kernel
theorem dX5_holds_16 : decode cX5_holds 16 = .ok (.iload 5, 2) := by decide +kernel
theorem dX5_holds_18 : decode cX5_holds 18 = .ok (.aload_n 0, 1) := by decide +kernel
theorem dX5_holds_19 : decode cX5_holds 19 = .ok (.iload_n 1, 1) := by decide +kernel
theorem dX5_holds_20 : decode cX5_holds 20 = .ok (.iload 6, 2) := by decide +kernel
theorem dX5_holds_22 : decode cX5_holds 22 = .ok (.iconst 2, 1) := by decide +kernel
theorem dX5_holds_23 : decode cX5_holds 23 = .ok (.invokevirtual 60, 3) := by decide +kernel
theorem dX5_holds_26 : decode cX5_holds 26 = .ok (.iload_n 2, 1) := by decide +kernel
theorem dX5_holds_27 : decode cX5_holds 27 = .ok (.aload_n 0, 1) := by decide +kernel
theorem dX5_holds_28 : decode cX5_holds 28 = .ok (.iload_n 1, 1) := by decide +kernel
theorem dX5_holds_29 : decode cX5_holds 29 = .ok (.iload 6, 2) := by decide +kernel
theorem dX5_holds_31 : decode cX5_holds 31 = .ok (.iconst 0, 1) := by decide +kernel
theorem dX5_holds_32 : decode cX5_holds 32 = .ok (.invokevirtual 60, 3) := by decide +kernel
theorem dX5_holds_35 : decode cX5_holds 35 = .ok (.iload 4, 2) := by decide +kernel
theorem dX5_holds_37 : decode cX5_holds 37 = .ok (.invokestatic 166, 3) := by decide +kernel
theorem dX5_holds_40 : decode cX5_holds 40 = .ok (.imul, 1) := by decide +kernel
theorem dX5_holds_41 : decode cX5_holds 41 = .ok (.iload_n 3, 1) := by decide +kernel
theorem dX5_holds_42 : decode cX5_holds 42 = .ok (.aload_n 0, 1) := by decide +kernel
theorem dX5_holds_43 : decode cX5_holds 43 = .ok (.iload_n 1, 1) := by decide +kernel
theorem dX5_holds_44 : decode cX5_holds 44 = .ok (.iload 6, 2) := by decide +kernel
theorem dX5_holds_46 : decode cX5_holds 46 = .ok (.iconst 1, 1) := by decide +kernel
theorem dX5_holds_47 : decode cX5_holds 47 = .ok (.invokevirtual 60, 3) := by decide +kernel
theorem dX5_holds_50 : decode cX5_holds 50 = .ok (.iload 4, 2) := by decide +kernel
theorem dX5_holds_52 : decode cX5_holds 52 = .ok (.invokestatic 166, 3) := by decide +kernel
theorem dX5_holds_55 : decode cX5_holds 55 = .ok (.imul, 1) := by decide +kernel
theorem dX5_holds_56 : decode cX5_holds 56 = .ok (.iadd, 1) := by decide +kernel
theorem dX5_holds_57 : decode cX5_holds 57 = .ok (.istore 5, 2) := by decide +kernel
theorem dX5_holds_59 : decode cX5_holds 59 = .ok (.iinc 6 1, 3) := by decide +kernel
theorem dX5_holds_62 : decode cX5_holds 62 = .ok (.goto (-56), 3) := by decide +kernel
theorem dX5_holds_65 : decode cX5_holds 65 = .ok (.iload 5, 2) := by decide +kernel
theorem dX5_holds_67 : decode cX5_holds 67 = .ok (.iload 4, 2) := by decide +kernel
theorem dX5_holds_69 : decode cX5_holds 69 = .ok (.irem, 1) := by decide +kernel
theorem dX5_holds_70 : decode cX5_holds 70 = .ok (.ifCond .ne 7, 3) := by decide +kernel
theorem dX5_holds_73 : decode cX5_holds 73 = .ok (.iconst 1, 1) := by decide +kernel
theorem dX5_holds_74 : decode cX5_holds 74 = .ok (.goto 4, 3) := by decide +kernel
theorem dX5_holds_77 : decode cX5_holds 77 = .ok (.iconst 0, 1) := by decide +kernel
theorem dX5_holds_78 : decode cX5_holds 78 = .ok (.ireturn, 1) := by decide +kernel
theorem dX5_roots_0 : decode cX5_roots 0 = .ok (.iload_n 1, 1) := by decide +kernel
theorem dX5_roots_1 : decode cX5_roots 1 = .ok (.invokestatic 52, 3) := by decide +kernel
theorem dX5_roots_4 : decode cX5_roots 4 = .ok (.ifCond .eq 10, 3) := by decide +kernel
end
section
theorem dX5_roots_7 : decode cX5_roots 7 = .ok (.iload_n 2, 1) := by decide +kernel
theorem dX5_roots_8 : decode cX5_roots 8 = .ok (.invokestatic 52, 3) := by decide +kernel
theorem dX5_roots_11 : decode cX5_roots 11 = .ok (.ifCond .ne 5, 3) := by decide +kernel
theorem dX5_roots_14 : decode cX5_roots 14 = .ok (.iconst (-1), 1) := by decide +kernel
theorem dX5_roots_15 : decode cX5_roots 15 = .ok (.ireturn, 1) := by decide +kernel
theorem dX5_roots_16 : decode cX5_roots 16 = .ok (.iload_n 3, 1) := by decide +kernel
theorem dX5_roots_17 : decode cX5_roots 17 = .ok (.iconst 2, 1) := by decide +kernel
theorem dX5_roots_18 : decode cX5_roots 18 = .ok (.if_icmp .eq 34, 3) := by decide +kernel
theorem dX5_roots_21 : decode cX5_roots 21 = .ok (.iload_n 3, 1) := by decide +kernel
theorem dX5_roots_22 : decode cX5_roots 22 = .ok (.iconst 3, 1) := by decide +kernel
theorem dX5_roots_23 : decode cX5_roots 23 = .ok (.if_icmp .eq 29, 3) := by decide +kernel
theorem dX5_roots_26 : decode cX5_roots 26 = .ok (.iload_n 3, 1) := by decide +kernel
theorem dX5_roots_27 : decode cX5_roots 27 = .ok (.iconst 5, 1) := by decide +kernel
theorem dX5_roots_28 : decode cX5_roots 28 = .ok (.if_icmp .eq 24, 3) := by decide +kernel
theorem dX5_roots_31 : decode cX5_roots 31 = .ok (.iload_n 3, 1) := by decide +kernel
theorem dX5_roots_32 : decode cX5_roots 32 = .ok (.bipush 7, 2) := by decide +kernel
theorem dX5_roots_34 : decode cX5_roots 34 = .ok (.if_icmp .eq 18, 3) := by decide +kernel
theorem dX5_roots_37 : decode cX5_roots 37 = .ok (.iload_n 3, 1) := by decide +kernel
theorem dX5_roots_38 : decode cX5_roots 38 = .ok (.bipush 11, 2) := by decide +kernel
theorem dX5_roots_40 : decode cX5_roots 40 = .ok (.if_icmp .eq 12, 3) := by decide +kernel
theorem dX5_roots_43 : decode cX5_roots 43 = .ok (.iload_n 3, 1) := by decide +kernel
theorem dX5_roots_44 : decode cX5_roots 44 = .ok (.bipush 13, 2) := by decide +kernel
theorem dX5_roots_46 : decode cX5_roots 46 = .ok (.if_icmp .eq 6, 3) := by decide +kernel
theorem dX5_roots_49 : decode cX5_roots 49 = .ok (.bipush (-2), 2) := by decide +kernel
theorem dX5_roots_51 : decode cX5_roots 51 = .ok (.ireturn, 1) := by decide +kernel
theorem dX5_roots_52 : decode cX5_roots 52 = .ok (.iconst 0, 1) := by decide +kernel
theorem dX5_roots_53 : decode cX5_roots 53 = .ok (.istore 4, 2) := by decide +kernel
theorem dX5_roots_55 : decode cX5_roots 55 = .ok (.iconst 1, 1) := by decide +kernel
theorem dX5_roots_56 : decode cX5_roots 56 = .ok (.istore 5, 2) := by decide +kernel
theorem dX5_roots_58 : decode cX5_roots 58 = .ok (.iload 5, 2) := by decide +kernel
theorem dX5_roots_60 : decode cX5_roots 60 = .ok (.iload_n 3, 1) := by decide +kernel
theorem dX5_roots_61 : decode cX5_roots 61 = .ok (.if_icmp .ge 60, 3) := by decide +kernel
theorem dX5_roots_64 : decode cX5_roots 64 = .ok (.iconst 1, 1) := by decide +kernel
theorem dX5_roots_65 : decode cX5_roots 65 = .ok (.istore 6, 2) := by decide +kernel
theorem dX5_roots_67 : decode cX5_roots 67 = .ok (.iload 6, 2) := by decide +kernel
theorem dX5_roots_69 : decode cX5_roots 69 = .ok (.iload_n 3, 1) := by decide +kernel
theorem dX5_roots_70 : decode cX5_roots 70 = .ok (.if_icmp .ge 45, 3) := by decide +kernel
theorem dX5_roots_73 : decode cX5_roots 73 = .ok (.iload 4, 2) := by decide +kernel
theorem dX5_roots_75 : decode cX5_roots 75 = .ok (.aload_n 0, 1) := by decide +kernel
theorem dX5_roots_76 : decode cX5_roots 76 = .ok (.iload_n 1, 1) := by decide +kernel
theorem dX5_roots_77 : decode cX5_roots 77 = .ok (.iload 5, 2) := by decide +kernel
theorem dX5_roots_79 : decode cX5_roots 79 = .ok (.iload 6, 2) := by decide +kernel
theorem dX5_roots_81 : decode cX5_roots 81 = .ok (.iload_n 3, 1) := by decide +kernel
theorem dX5_roots_82 : decode cX5_roots 82 = .ok (.invokevirtual 169, 3) := by decide +kernel
theorem dX5_roots_85 : decode cX5_roots 85 = .ok (.ifCond .eq 20, 3) := by decide +kernel
theorem dX5_roots_88 : decode cX5_roots 88 = .ok (.aload_n 0, 1) := by decide +kernel
theorem dX5_roots_89 : decode cX5_roots 89 = .ok (.iload_n 2, 1) := by decide +kernel
theorem dX5_roots_90 : decode cX5_roots 90 = .ok (.iload 5, 2) := by decide +kernel
theorem dX5_roots_92 : decode cX5_roots 92 = .ok (.iload 6, 2) := by decide +kernel
theorem dX5_roots_94 : decode cX5_roots 94 = .ok (.iload_n 3, 1) := by decide +kernel
theorem dX5_roots_95 : decode cX5_roots 95 = .ok (.invokevirtual 169, 3) := by decide +kernel
theorem dX5_roots_98 : decode cX5_roots 98 = .ok (.ifCond .eq 7, 3) := by decide +kernel
theorem dX5_roots_101 : decode cX5_roots 101 = .ok (.iconst 1, 1) := by decide +kernel
theorem dX5_roots_102 : decode cX5_roots 102 = .ok (.goto 4, 3) := by decide +kernel
theorem dX5_roots_105 : decode cX5_roots 105 = .ok (.iconst 0, 1) := by decide +kernel
theorem dX5_roots_106 : decode cX5_roots 106 = .ok (.iadd, 1) := by decide +kernel
theorem dX5_roots_107 : decode cX5_roots 107 = .ok (.istore 4, 2) := by decide +kernel
theorem dX5_roots_109 : decode cX5_roots 109 = .ok (.iinc 6 1, 3) := by decide +kernel
theorem dX5_roots_112 : decode cX5_roots 112 = .ok (.goto (-45), 3) := by decide +kernel
theorem dX5_roots_115 : decode cX5_roots 115 = .ok (.iinc 5 1, 3) := by decide +kernel
theorem dX5_roots_118 : decode cX5_roots 118 = .ok (.goto (-60), 3) := by decide +kernel
theorem dX5_roots_121 : decode cX5_roots 121 = .ok (.iload 4, 2) := by decide +kernel
theorem dX5_roots_123 : decode cX5_roots 123 = .ok (.ireturn, 1) := by decide +kernel
theorem dX5_image_0 : decode cX5_image 0 = .ok (.iload_n 1, 1) := by decide +kernel
theorem dX5_image_1 : decode cX5_image 1 = .ok (.iconst 0, 1) := by decide +kernel
theorem dX5_image_2 : decode cX5_image 2 = .ok (.iconst 1, 1) := by decide +kernel
theorem dX5_image_3 : decode cX5_image 3 = .ok (.invokestatic 44, 3) := by decide +kernel
theorem dX5_image_6 : decode cX5_image 6 = .ok (.ifCond .ne 6, 3) := by decide +kernel
theorem dX5_image_9 : decode cX5_image 9 = .ok (.bipush (-2), 2) := by decide +kernel
theorem dX5_image_11 : decode cX5_image 11 = .ok (.ireturn, 1) := by decide +kernel
theorem dX5_image_12 : decode cX5_image 12 = .ok (.iconst 0, 1) := by decide +kernel
theorem dX5_image_13 : decode cX5_image 13 = .ok (.istore_n 2, 1) := by decide +kernel
theorem dX5_image_14 : decode cX5_image 14 = .ok (.iload_n 2, 1) := by decide +kernel
theorem dX5_image_15 : decode cX5_image 15 = .ok (.bipush 88, 2) := by decide +kernel
theorem dX5_image_17 : decode cX5_image 17 = .ok (.if_icmp .ge 26, 3) := by decide +kernel
theorem dX5_image_20 : decode cX5_image 20 = .ok (.aload_n 0, 1) := by decide +kernel
theorem dX5_image_21 : decode cX5_image 21 = .ok (.getfield 13, 3) := by decide +kernel
theorem dX5_image_24 : decode cX5_image 24 = .ok (.bipush 88, 2) := by decide +kernel
theorem dX5_image_26 : decode cX5_image 26 = .ok (.iload_n 1, 1) := by decide +kernel
theorem dX5_image_27 : decode cX5_image 27 = .ok (.imul, 1) := by decide +kernel
theorem dX5_image_28 : decode cX5_image 28 = .ok (.iload_n 2, 1) := by decide +kernel
theorem dX5_image_29 : decode cX5_image 29 = .ok (.iadd, 1) := by decide +kernel
theorem dX5_image_30 : decode cX5_image 30 = .ok (.aload_n 0, 1) := by decide +kernel
theorem dX5_image_31 : decode cX5_image 31 = .ok (.getfield 7, 3) := by decide +kernel
theorem dX5_image_34 : decode cX5_image 34 = .ok (.iload_n 2, 1) := by decide +kernel
theorem dX5_image_35 : decode cX5_image 35 = .ok (.iaload, 1) := by decide +kernel
theorem dX5_image_36 : decode cX5_image 36 = .ok (.iastore, 1) := by decide +kernel
theorem dX5_image_37 : decode cX5_image 37 = .ok (.iinc 2 1, 3) := by decide +kernel
theorem dX5_image_40 : decode cX5_image 40 = .ok (.goto (-26), 3) := by decide +kernel
theorem dX5_image_43 : decode cX5_image 43 = .ok (.aload_n 0, 1) := by decide +kernel
theorem dX5_image_44 : decode cX5_image 44 = .ok (.getfield 16, 3) := by decide +kernel
theorem dX5_image_47 : decode cX5_image 47 = .ok (.iload_n 1, 1) := by decide +kernel
theorem dX5_image_48 : decode cX5_image 48 = .ok (.iconst 1, 1) := by decide +kernel
theorem dX5_image_49 : decode cX5_image 49 = .ok (.bastore, 1) := by decide +kernel
theorem dX5_image_50 : decode cX5_image 50 = .ok (.iconst 1, 1) := by decide +kernel
theorem dX5_image_51 : decode cX5_image 51 = .ok (.ireturn, 1) := by decide +kernel
theorem dX5_restore_0 : decode cX5_restore 0 = .ok (.iload_n 1, 1) := by decide +kernel
theorem dX5_restore_1 : decode cX5_restore 1 = .ok (.iconst 0, 1) := by decide +kernel
theorem dX5_restore_2 : decode cX5_restore 2 = .ok (.iconst 1, 1) := by decide +kernel
theorem dX5_restore_3 : decode cX5_restore 3 = .ok (.invokestatic 44, 3) := by decide +kernel
theorem dX5_restore_6 : decode cX5_restore 6 = .ok (.ifCond .ne 6, 3) := by decide +kernel
theorem dX5_restore_9 : decode cX5_restore 9 = .ok (.bipush (-2), 2) := by decide +kernel
theorem dX5_restore_11 : decode cX5_restore 11 = .ok (.ireturn, 1) := by decide +kernel
theorem dX5_restore_12 : decode cX5_restore 12 = .ok (.aload_n 0, 1) := by decide +kernel
theorem dX5_restore_13 : decode cX5_restore 13 = .ok (.getfield 16, 3) := by decide +kernel
theorem dX5_restore_16 : decode cX5_restore 16 = .ok (.iload_n 1, 1) := by decide +kernel
theorem dX5_restore_17 : decode cX5_restore 17 = .ok (.baload, 1) := by decide +kernel
theorem dX5_restore_18 : decode cX5_restore 18 = .ok (.ifCond .ne 6, 3) := by decide +kernel
theorem dX5_restore_21 : decode cX5_restore 21 = .ok (.bipush (-3), 2) := by decide +kernel
theorem dX5_restore_23 : decode cX5_restore 23 = .ok (.ireturn, 1) := by decide +kernel
theorem dX5_restore_24 : decode cX5_restore 24 = .ok (.iconst 0, 1) := by decide +kernel
theorem dX5_restore_25 : decode cX5_restore 25 = .ok (.istore_n 2, 1) := by decide +kernel
theorem dX5_restore_26 : decode cX5_restore 26 = .ok (.iload_n 2, 1) := by decide +kernel
theorem dX5_restore_27 : decode cX5_restore 27 = .ok (.bipush 88, 2) := by decide +kernel
theorem dX5_restore_29 : decode cX5_restore 29 = .ok (.if_icmp .ge 26, 3) := by decide +kernel
theorem dX5_restore_32 : decode cX5_restore 32 = .ok (.aload_n 0, 1) := by decide +kernel
theorem dX5_restore_33 : decode cX5_restore 33 = .ok (.getfield 7, 3) := by decide +kernel
theorem dX5_restore_36 : decode cX5_restore 36 = .ok (.iload_n 2, 1) := by decide +kernel
theorem dX5_restore_37 : decode cX5_restore 37 = .ok (.aload_n 0, 1) := by decide +kernel
theorem dX5_restore_38 : decode cX5_restore 38 = .ok (.getfield 13, 3) := by decide +kernel
theorem dX5_restore_41 : decode cX5_restore 41 = .ok (.bipush 88, 2) := by decide +kernel
theorem dX5_restore_43 : decode cX5_restore 43 = .ok (.iload_n 1, 1) := by decide +kernel
theorem dX5_restore_44 : decode cX5_restore 44 = .ok (.imul, 1) := by decide +kernel
theorem dX5_restore_45 : decode cX5_restore 45 = .ok (.iload_n 2, 1) := by decide +kernel
theorem dX5_restore_46 : decode cX5_restore 46 = .ok (.iadd, 1) := by decide +kernel
theorem dX5_restore_47 : decode cX5_restore 47 = .ok (.iaload, 1) := by decide +kernel
theorem dX5_restore_48 : decode cX5_restore 48 = .ok (.iastore, 1) := by decide +kernel
theorem dX5_restore_49 : decode cX5_restore 49 = .ok (.iinc 2 1, 3) := by decide +kernel
theorem dX5_restore_52 : decode cX5_restore 52 = .ok (.goto (-26), 3) := by decide +kernel
theorem dX5_restore_55 : decode cX5_restore 55 = .ok (.iconst 1, 1) := by decide +kernel
theorem dX5_restore_56 : decode cX5_restore 56 = .ok (.ireturn, 1) := by decide +kernel
theorem dX5_count_0 : decode cX5_count 0 = .ok (.iload_n 1, 1) := by decide +kernel
theorem dX5_count_1 : decode cX5_count 1 = .ok (.invokestatic 52, 3) := by decide +kernel
theorem dX5_count_4 : decode cX5_count 4 = .ok (.ifCond .eq 9, 3) := by decide +kernel
theorem dX5_count_7 : decode cX5_count 7 = .ok (.aload_n 0, 1) := by decide +kernel
theorem dX5_count_8 : decode cX5_count 8 = .ok (.iload_n 1, 1) := by decide +kernel
theorem dX5_count_9 : decode cX5_count 9 = .ok (.invokevirtual 56, 3) := by decide +kernel
theorem dX5_count_12 : decode cX5_count 12 = .ok (.ireturn, 1) := by decide +kernel
theorem dX5_count_13 : decode cX5_count 13 = .ok (.iconst 0, 1) := by decide +kernel
theorem dX5_count_14 : decode cX5_count 14 = .ok (.istore_n 2, 1) := by decide +kernel
theorem dX5_count_15 : decode cX5_count 15 = .ok (.iconst 0, 1) := by decide +kernel
theorem dX5_count_16 : decode cX5_count 16 = .ok (.istore_n 3, 1) := by decide +kernel
theorem dX5_count_17 : decode cX5_count 17 = .ok (.iconst 0, 1) := by decide +kernel
theorem dX5_count_18 : decode cX5_count 18 = .ok (.istore 4, 2) := by decide +kernel
theorem dX5_count_20 : decode cX5_count 20 = .ok (.iload 4, 2) := by decide +kernel
theorem dX5_count_22 : decode cX5_count 22 = .ok (.iconst 4, 1) := by decide +kernel
theorem dX5_count_23 : decode cX5_count 23 = .ok (.if_icmp .ge 38, 3) := by decide +kernel
theorem dX5_count_26 : decode cX5_count 26 = .ok (.iload_n 2, 1) := by decide +kernel
theorem dX5_count_27 : decode cX5_count 27 = .ok (.aload_n 0, 1) := by decide +kernel
theorem dX5_count_28 : decode cX5_count 28 = .ok (.iload 4, 2) := by decide +kernel
theorem dX5_count_30 : decode cX5_count 30 = .ok (.invokevirtual 56, 3) := by decide +kernel
theorem dX5_count_33 : decode cX5_count 33 = .ok (.iadd, 1) := by decide +kernel
theorem dX5_count_34 : decode cX5_count 34 = .ok (.istore_n 2, 1) := by decide +kernel
theorem dX5_count_35 : decode cX5_count 35 = .ok (.iload_n 3, 1) := by decide +kernel
theorem dX5_count_36 : decode cX5_count 36 = .ok (.aload_n 0, 1) := by decide +kernel
theorem dX5_count_37 : decode cX5_count 37 = .ok (.iload 4, 2) := by decide +kernel
theorem dX5_count_39 : decode cX5_count 39 = .ok (.invokevirtual 56, 3) := by decide +kernel
theorem dX5_count_42 : decode cX5_count 42 = .ok (.ifCond .le 10, 3) := by decide +kernel
theorem dX5_count_45 : decode cX5_count 45 = .ok (.iconst 1, 1) := by decide +kernel
theorem dX5_count_46 : decode cX5_count 46 = .ok (.iload 4, 2) := by decide +kernel
theorem dX5_count_48 : decode cX5_count 48 = .ok (.ishl, 1) := by decide +kernel
theorem dX5_count_49 : decode cX5_count 49 = .ok (.goto 4, 3) := by decide +kernel
theorem dX5_count_52 : decode cX5_count 52 = .ok (.iconst 0, 1) := by decide +kernel
theorem dX5_count_53 : decode cX5_count 53 = .ok (.ior, 1) := by decide +kernel
theorem dX5_count_54 : decode cX5_count 54 = .ok (.istore_n 3, 1) := by decide +kernel
theorem dX5_count_55 : decode cX5_count 55 = .ok (.iinc 4 1, 3) := by decide +kernel
theorem dX5_count_58 : decode cX5_count 58 = .ok (.goto (-38), 3) := by decide +kernel
theorem dX5_count_61 : decode cX5_count 61 = .ok (.iload_n 1, 1) := by decide +kernel
theorem dX5_count_62 : decode cX5_count 62 = .ok (.tableswitch 60 4 6 #[26, 28, 30], 26) := by decide +kernel
theorem dX5_count_88 : decode cX5_count 88 = .ok (.iload_n 2, 1) := by decide +kernel
theorem dX5_count_89 : decode cX5_count 89 = .ok (.ireturn, 1) := by decide +kernel
theorem dX5_count_90 : decode cX5_count 90 = .ok (.iload_n 3, 1) := by decide +kernel
theorem dX5_count_91 : decode cX5_count 91 = .ok (.ireturn, 1) := by decide +kernel
theorem dX5_count_92 : decode cX5_count 92 = .ok (.aload_n 0, 1) := by decide +kernel
theorem dX5_count_93 : decode cX5_count 93 = .ok (.getfield 16, 3) := by decide +kernel
theorem dX5_count_96 : decode cX5_count 96 = .ok (.iconst 0, 1) := by decide +kernel
theorem dX5_count_97 : decode cX5_count 97 = .ok (.baload, 1) := by decide +kernel
theorem dX5_count_98 : decode cX5_count 98 = .ok (.ifCond .eq 7, 3) := by decide +kernel
theorem dX5_count_101 : decode cX5_count 101 = .ok (.iconst 1, 1) := by decide +kernel
theorem dX5_count_102 : decode cX5_count 102 = .ok (.goto 4, 3) := by decide +kernel
theorem dX5_count_105 : decode cX5_count 105 = .ok (.iconst 0, 1) := by decide +kernel
theorem dX5_count_106 : decode cX5_count 106 = .ok (.aload_n 0, 1) := by decide +kernel
theorem dX5_count_107 : decode cX5_count 107 = .ok (.getfield 16, 3) := by decide +kernel
theorem dX5_count_110 : decode cX5_count 110 = .ok (.iconst 1, 1) := by decide +kernel
theorem dX5_count_111 : decode cX5_count 111 = .ok (.baload, 1) := by decide +kernel
theorem dX5_count_112 : decode cX5_count 112 = .ok (.ifCond .eq 7, 3) := by decide +kernel
theorem dX5_count_115 : decode cX5_count 115 = .ok (.iconst 2, 1) := by decide +kernel
theorem dX5_count_116 : decode cX5_count 116 = .ok (.goto 4, 3) := by decide +kernel
theorem dX5_count_119 : decode cX5_count 119 = .ok (.iconst 0, 1) := by decide +kernel
theorem dX5_count_120 : decode cX5_count 120 = .ok (.iadd, 1) := by decide +kernel
theorem dX5_count_121 : decode cX5_count 121 = .ok (.ireturn, 1) := by decide +kernel
theorem dX5_count_122 : decode cX5_count 122 = .ok (.bipush (-2), 2) := by decide +kernel
theorem dX5_count_124 : decode cX5_count 124 = .ok (.ireturn, 1) := by decide +kernel
theorem dJ6_compare_7cf53_0 : decode cJ6_compare_7cf53 0 = .ok (.iload_n 0, 1) := by decide +kernel
theorem dJ6_compare_7cf53_1 : decode cJ6_compare_7cf53 1 = .ok (.iload_n 1, 1) := by decide +kernel
theorem dJ6_compare_7cf53_2 : decode cJ6_compare_7cf53 2 = .ok (.if_icmp .ge 7, 3) := by decide +kernel
theorem dJ6_compare_7cf53_5 : decode cJ6_compare_7cf53 5 = .ok (.iconst (-1), 1) := by decide +kernel
theorem dJ6_compare_7cf53_6 : decode cJ6_compare_7cf53 6 = .ok (.goto 13, 3) := by decide +kernel
theorem dJ6_compare_7cf53_9 : decode cJ6_compare_7cf53 9 = .ok (.iload_n 0, 1) := by decide +kernel
theorem dJ6_compare_7cf53_10 : decode cJ6_compare_7cf53 10 = .ok (.iload_n 1, 1) := by decide +kernel
theorem dJ6_compare_7cf53_11 : decode cJ6_compare_7cf53 11 = .ok (.if_icmp .ne 7, 3) := by decide +kernel
theorem dJ6_compare_7cf53_14 : decode cJ6_compare_7cf53 14 = .ok (.iconst 0, 1) := by decide +kernel
theorem dJ6_compare_7cf53_15 : decode cJ6_compare_7cf53 15 = .ok (.goto 4, 3) := by decide +kernel
theorem dJ6_compare_7cf53_18 : decode cJ6_compare_7cf53 18 = .ok (.iconst 1, 1) := by decide +kernel
theorem dJ6_compare_7cf53_19 : decode cJ6_compare_7cf53 19 = .ok (.ireturn, 1) := by decide +kernel
theorem dJ6_numberOfTrailingZeros_0f7a4_0 : decode cJ6_numberOfTrailingZeros_0f7a4 0 = .ok (.iload_n 0, 1) := by decide +kernel
theorem dJ6_numberOfTrailingZeros_0f7a4_1 : decode cJ6_numberOfTrailingZeros_0f7a4 1 = .ok (.iconst (-1), 1) := by decide +kernel
theorem dJ6_numberOfTrailingZeros_0f7a4_2 : decode cJ6_numberOfTrailingZeros_0f7a4 2 = .ok (.ixor, 1) := by decide +kernel
theorem dJ6_numberOfTrailingZeros_0f7a4_3 : decode cJ6_numberOfTrailingZeros_0f7a4 3 = .ok (.iload_n 0, 1) := by decide +kernel
theorem dJ6_numberOfTrailingZeros_0f7a4_4 : decode cJ6_numberOfTrailingZeros_0f7a4 4 = .ok (.iconst 1, 1) := by decide +kernel
theorem dJ6_numberOfTrailingZeros_0f7a4_5 : decode cJ6_numberOfTrailingZeros_0f7a4 5 = .ok (.isub, 1) := by decide +kernel
theorem dJ6_numberOfTrailingZeros_0f7a4_6 : decode cJ6_numberOfTrailingZeros_0f7a4 6 = .ok (.iand, 1) := by decide +kernel
theorem dJ6_numberOfTrailingZeros_0f7a4_7 : decode cJ6_numberOfTrailingZeros_0f7a4 7 = .ok (.istore_n 0, 1) := by decide +kernel
theorem dJ6_numberOfTrailingZeros_0f7a4_8 : decode cJ6_numberOfTrailingZeros_0f7a4 8 = .ok (.iload_n 0, 1) := by decide +kernel
theorem dJ6_numberOfTrailingZeros_0f7a4_9 : decode cJ6_numberOfTrailingZeros_0f7a4 9 = .ok (.ifCond .gt 8, 3) := by decide +kernel
theorem dJ6_numberOfTrailingZeros_0f7a4_12 : decode cJ6_numberOfTrailingZeros_0f7a4 12 = .ok (.iload_n 0, 1) := by decide +kernel
theorem dJ6_numberOfTrailingZeros_0f7a4_13 : decode cJ6_numberOfTrailingZeros_0f7a4 13 = .ok (.bipush 32, 2) := by decide +kernel
theorem dJ6_numberOfTrailingZeros_0f7a4_15 : decode cJ6_numberOfTrailingZeros_0f7a4 15 = .ok (.iand, 1) := by decide +kernel
theorem dJ6_numberOfTrailingZeros_0f7a4_16 : decode cJ6_numberOfTrailingZeros_0f7a4 16 = .ok (.ireturn, 1) := by decide +kernel
theorem dJ6_numberOfTrailingZeros_0f7a4_17 : decode cJ6_numberOfTrailingZeros_0f7a4 17 = .ok (.iconst 1, 1) := by decide +kernel
theorem dJ6_numberOfTrailingZeros_0f7a4_18 : decode cJ6_numberOfTrailingZeros_0f7a4 18 = .ok (.istore_n 1, 1) := by decide +kernel
theorem dJ6_numberOfTrailingZeros_0f7a4_19 : decode cJ6_numberOfTrailingZeros_0f7a4 19 = .ok (.iload_n 0, 1) := by decide +kernel
theorem dJ6_numberOfTrailingZeros_0f7a4_20 : decode cJ6_numberOfTrailingZeros_0f7a4 20 = .ok (.ldc_w 264, 3) := by decide +kernel
theorem dJ6_numberOfTrailingZeros_0f7a4_23 : decode cJ6_numberOfTrailingZeros_0f7a4 23 = .ok (.if_icmp .le 11, 3) := by decide +kernel
theorem dJ6_numberOfTrailingZeros_0f7a4_26 : decode cJ6_numberOfTrailingZeros_0f7a4 26 = .ok (.iinc 1 16, 3) := by decide +kernel
theorem dJ6_numberOfTrailingZeros_0f7a4_29 : decode cJ6_numberOfTrailingZeros_0f7a4 29 = .ok (.iload_n 0, 1) := by decide +kernel
theorem dJ6_numberOfTrailingZeros_0f7a4_30 : decode cJ6_numberOfTrailingZeros_0f7a4 30 = .ok (.bipush 16, 2) := by decide +kernel
theorem dJ6_numberOfTrailingZeros_0f7a4_32 : decode cJ6_numberOfTrailingZeros_0f7a4 32 = .ok (.iushr, 1) := by decide +kernel
theorem dJ6_numberOfTrailingZeros_0f7a4_33 : decode cJ6_numberOfTrailingZeros_0f7a4 33 = .ok (.istore_n 0, 1) := by decide +kernel
theorem dJ6_numberOfTrailingZeros_0f7a4_34 : decode cJ6_numberOfTrailingZeros_0f7a4 34 = .ok (.iload_n 0, 1) := by decide +kernel
theorem dJ6_numberOfTrailingZeros_0f7a4_35 : decode cJ6_numberOfTrailingZeros_0f7a4 35 = .ok (.sipush 256, 3) := by decide +kernel
theorem dJ6_numberOfTrailingZeros_0f7a4_38 : decode cJ6_numberOfTrailingZeros_0f7a4 38 = .ok (.if_icmp .le 11, 3) := by decide +kernel
theorem dJ6_numberOfTrailingZeros_0f7a4_41 : decode cJ6_numberOfTrailingZeros_0f7a4 41 = .ok (.iinc 1 8, 3) := by decide +kernel
theorem dJ6_numberOfTrailingZeros_0f7a4_44 : decode cJ6_numberOfTrailingZeros_0f7a4 44 = .ok (.iload_n 0, 1) := by decide +kernel
theorem dJ6_numberOfTrailingZeros_0f7a4_45 : decode cJ6_numberOfTrailingZeros_0f7a4 45 = .ok (.bipush 8, 2) := by decide +kernel
theorem dJ6_numberOfTrailingZeros_0f7a4_47 : decode cJ6_numberOfTrailingZeros_0f7a4 47 = .ok (.iushr, 1) := by decide +kernel
theorem dJ6_numberOfTrailingZeros_0f7a4_48 : decode cJ6_numberOfTrailingZeros_0f7a4 48 = .ok (.istore_n 0, 1) := by decide +kernel
theorem dJ6_numberOfTrailingZeros_0f7a4_49 : decode cJ6_numberOfTrailingZeros_0f7a4 49 = .ok (.iload_n 0, 1) := by decide +kernel
theorem dJ6_numberOfTrailingZeros_0f7a4_50 : decode cJ6_numberOfTrailingZeros_0f7a4 50 = .ok (.bipush 16, 2) := by decide +kernel
theorem dJ6_numberOfTrailingZeros_0f7a4_52 : decode cJ6_numberOfTrailingZeros_0f7a4 52 = .ok (.if_icmp .le 10, 3) := by decide +kernel
theorem dJ6_numberOfTrailingZeros_0f7a4_55 : decode cJ6_numberOfTrailingZeros_0f7a4 55 = .ok (.iinc 1 4, 3) := by decide +kernel
theorem dJ6_numberOfTrailingZeros_0f7a4_58 : decode cJ6_numberOfTrailingZeros_0f7a4 58 = .ok (.iload_n 0, 1) := by decide +kernel
theorem dJ6_numberOfTrailingZeros_0f7a4_59 : decode cJ6_numberOfTrailingZeros_0f7a4 59 = .ok (.iconst 4, 1) := by decide +kernel
theorem dJ6_numberOfTrailingZeros_0f7a4_60 : decode cJ6_numberOfTrailingZeros_0f7a4 60 = .ok (.iushr, 1) := by decide +kernel
theorem dJ6_numberOfTrailingZeros_0f7a4_61 : decode cJ6_numberOfTrailingZeros_0f7a4 61 = .ok (.istore_n 0, 1) := by decide +kernel
theorem dJ6_numberOfTrailingZeros_0f7a4_62 : decode cJ6_numberOfTrailingZeros_0f7a4 62 = .ok (.iload_n 0, 1) := by decide +kernel
theorem dJ6_numberOfTrailingZeros_0f7a4_63 : decode cJ6_numberOfTrailingZeros_0f7a4 63 = .ok (.iconst 4, 1) := by decide +kernel
theorem dJ6_numberOfTrailingZeros_0f7a4_64 : decode cJ6_numberOfTrailingZeros_0f7a4 64 = .ok (.if_icmp .le 10, 3) := by decide +kernel
theorem dJ6_numberOfTrailingZeros_0f7a4_67 : decode cJ6_numberOfTrailingZeros_0f7a4 67 = .ok (.iinc 1 2, 3) := by decide +kernel
theorem dJ6_numberOfTrailingZeros_0f7a4_70 : decode cJ6_numberOfTrailingZeros_0f7a4 70 = .ok (.iload_n 0, 1) := by decide +kernel
theorem dJ6_numberOfTrailingZeros_0f7a4_71 : decode cJ6_numberOfTrailingZeros_0f7a4 71 = .ok (.iconst 2, 1) := by decide +kernel
theorem dJ6_numberOfTrailingZeros_0f7a4_72 : decode cJ6_numberOfTrailingZeros_0f7a4 72 = .ok (.iushr, 1) := by decide +kernel
theorem dJ6_numberOfTrailingZeros_0f7a4_73 : decode cJ6_numberOfTrailingZeros_0f7a4 73 = .ok (.istore_n 0, 1) := by decide +kernel
theorem dJ6_numberOfTrailingZeros_0f7a4_74 : decode cJ6_numberOfTrailingZeros_0f7a4 74 = .ok (.iload_n 1, 1) := by decide +kernel
theorem dJ6_numberOfTrailingZeros_0f7a4_75 : decode cJ6_numberOfTrailingZeros_0f7a4 75 = .ok (.iload_n 0, 1) := by decide +kernel
theorem dJ6_numberOfTrailingZeros_0f7a4_76 : decode cJ6_numberOfTrailingZeros_0f7a4 76 = .ok (.iconst 1, 1) := by decide +kernel
theorem dJ6_numberOfTrailingZeros_0f7a4_77 : decode cJ6_numberOfTrailingZeros_0f7a4 77 = .ok (.iushr, 1) := by decide +kernel
theorem dJ6_numberOfTrailingZeros_0f7a4_78 : decode cJ6_numberOfTrailingZeros_0f7a4 78 = .ok (.iadd, 1) := by decide +kernel
theorem dJ6_numberOfTrailingZeros_0f7a4_79 : decode cJ6_numberOfTrailingZeros_0f7a4 79 = .ok (.ireturn, 1) := by decide +kernel
theorem dJ9_abs_0f7a4_0 : decode cJ9_abs_0f7a4 0 = .ok (.iload_n 0, 1) := by decide +kernel
theorem dJ9_abs_0f7a4_1 : decode cJ9_abs_0f7a4 1 = .ok (.ifCond .ge 8, 3) := by decide +kernel
theorem dJ9_abs_0f7a4_4 : decode cJ9_abs_0f7a4 4 = .ok (.iload_n 0, 1) := by decide +kernel
theorem dJ9_abs_0f7a4_5 : decode cJ9_abs_0f7a4 5 = .ok (.ineg, 1) := by decide +kernel
theorem dJ9_abs_0f7a4_6 : decode cJ9_abs_0f7a4 6 = .ok (.goto 4, 3) := by decide +kernel
theorem dJ9_abs_0f7a4_9 : decode cJ9_abs_0f7a4 9 = .ok (.iload_n 0, 1) := by decide +kernel
theorem dJ9_abs_0f7a4_10 : decode cJ9_abs_0f7a4 10 = .ok (.ireturn, 1) := by decide +kernel
theorem dJ9_max_7cf53_0 : decode cJ9_max_7cf53 0 = .ok (.iload_n 0, 1) := by decide +kernel
theorem dJ9_max_7cf53_1 : decode cJ9_max_7cf53 1 = .ok (.iload_n 1, 1) := by decide +kernel
theorem dJ9_max_7cf53_2 : decode cJ9_max_7cf53 2 = .ok (.if_icmp .lt 7, 3) := by decide +kernel
theorem dJ9_max_7cf53_5 : decode cJ9_max_7cf53 5 = .ok (.iload_n 0, 1) := by decide +kernel
theorem dJ9_max_7cf53_6 : decode cJ9_max_7cf53 6 = .ok (.goto 4, 3) := by decide +kernel
theorem dJ9_max_7cf53_9 : decode cJ9_max_7cf53 9 = .ok (.iload_n 1, 1) := by decide +kernel
theorem dJ9_max_7cf53_10 : decode cJ9_max_7cf53 10 = .ok (.ireturn, 1) := by decide +kernel
theorem dJ9_min_7cf53_0 : decode cJ9_min_7cf53 0 = .ok (.iload_n 0, 1) := by decide +kernel
theorem dJ9_min_7cf53_1 : decode cJ9_min_7cf53 1 = .ok (.iload_n 1, 1) := by decide +kernel
theorem dJ9_min_7cf53_2 : decode cJ9_min_7cf53 2 = .ok (.if_icmp .gt 7, 3) := by decide +kernel
theorem dJ9_min_7cf53_5 : decode cJ9_min_7cf53 5 = .ok (.iload_n 0, 1) := by decide +kernel
theorem dJ9_min_7cf53_6 : decode cJ9_min_7cf53 6 = .ok (.goto 4, 3) := by decide +kernel
theorem dJ9_min_7cf53_9 : decode cJ9_min_7cf53 9 = .ok (.iload_n 1, 1) := by decide +kernel
theorem dJ9_min_7cf53_10 : decode cJ9_min_7cf53 10 = .ok (.ireturn, 1) := by decide +kernel
theorem dL_law_0 : decode cL_law 0 = .ok (.new 7, 3) := by decide +kernel
theorem dL_law_3 : decode cL_law 3 = .ok (.dup, 1) := by decide +kernel
theorem dL_law_4 : decode cL_law 4 = .ok (.invokespecial 9, 3) := by decide +kernel
theorem dL_law_7 : decode cL_law 7 = .ok (.astore_n 1, 1) := by decide +kernel
theorem dL_law_8 : decode cL_law 8 = .ok (.new 10, 3) := by decide +kernel
theorem dL_law_11 : decode cL_law 11 = .ok (.dup, 1) := by decide +kernel
theorem dL_law_12 : decode cL_law 12 = .ok (.invokespecial 12, 3) := by decide +kernel
theorem dL_law_15 : decode cL_law 15 = .ok (.astore_n 2, 1) := by decide +kernel
theorem dL_law_16 : decode cL_law 16 = .ok (.iconst 0, 1) := by decide +kernel
theorem dL_law_17 : decode cL_law 17 = .ok (.istore_n 3, 1) := by decide +kernel
theorem dL_law_18 : decode cL_law 18 = .ok (.iload_n 3, 1) := by decide +kernel
theorem dL_law_19 : decode cL_law 19 = .ok (.aload_n 0, 1) := by decide +kernel
theorem dL_law_20 : decode cL_law 20 = .ok (.arraylength, 1) := by decide +kernel
theorem dL_law_21 : decode cL_law 21 = .ok (.iconst 5, 1) := by decide +kernel
theorem dL_law_22 : decode cL_law 22 = .ok (.isub, 1) := by decide +kernel
theorem dL_law_23 : decode cL_law 23 = .ok (.if_icmp .gt 750, 3) := by decide +kernel
theorem dL_law_26 : decode cL_law 26 = .ok (.aload_n 0, 1) := by decide +kernel
theorem dL_law_27 : decode cL_law 27 = .ok (.iload_n 3, 1) := by decide +kernel
theorem dL_law_28 : decode cL_law 28 = .ok (.iaload, 1) := by decide +kernel
theorem dL_law_29 : decode cL_law 29 = .ok (.bipush 31, 2) := by decide +kernel
theorem dL_law_31 : decode cL_law 31 = .ok (.iand, 1) := by decide +kernel
theorem dL_law_32 : decode cL_law 32 = .ok (.tableswitch 735 0 16 #[84, 137, 170, 193, 236, 269, 302, 345, 398, 441, 494, 547, 590, 623, 666, 689, 712], 84) := by decide +kernel
theorem dL_law_116 : decode cL_law 116 = .ok (.aload_n 1, 1) := by decide +kernel
theorem dL_law_117 : decode cL_law 117 = .ok (.aload_n 0, 1) := by decide +kernel
theorem dL_law_118 : decode cL_law 118 = .ok (.iload_n 3, 1) := by decide +kernel
theorem dL_law_119 : decode cL_law 119 = .ok (.iconst 1, 1) := by decide +kernel
theorem dL_law_120 : decode cL_law 120 = .ok (.iadd, 1) := by decide +kernel
theorem dL_law_121 : decode cL_law 121 = .ok (.iaload, 1) := by decide +kernel
theorem dL_law_122 : decode cL_law 122 = .ok (.aload_n 0, 1) := by decide +kernel
theorem dL_law_123 : decode cL_law 123 = .ok (.iload_n 3, 1) := by decide +kernel
theorem dL_law_124 : decode cL_law 124 = .ok (.iconst 2, 1) := by decide +kernel
theorem dL_law_125 : decode cL_law 125 = .ok (.iadd, 1) := by decide +kernel
theorem dL_law_126 : decode cL_law 126 = .ok (.iaload, 1) := by decide +kernel
theorem dL_law_127 : decode cL_law 127 = .ok (.aload_n 0, 1) := by decide +kernel
theorem dL_law_128 : decode cL_law 128 = .ok (.iload_n 3, 1) := by decide +kernel
theorem dL_law_129 : decode cL_law 129 = .ok (.iconst 3, 1) := by decide +kernel
theorem dL_law_130 : decode cL_law 130 = .ok (.iadd, 1) := by decide +kernel
theorem dL_law_131 : decode cL_law 131 = .ok (.iaload, 1) := by decide +kernel
theorem dL_law_132 : decode cL_law 132 = .ok (.aload_n 0, 1) := by decide +kernel
theorem dL_law_133 : decode cL_law 133 = .ok (.iload_n 3, 1) := by decide +kernel
theorem dL_law_134 : decode cL_law 134 = .ok (.iconst 4, 1) := by decide +kernel
theorem dL_law_135 : decode cL_law 135 = .ok (.iadd, 1) := by decide +kernel
theorem dL_law_136 : decode cL_law 136 = .ok (.iaload, 1) := by decide +kernel
theorem dL_law_137 : decode cL_law 137 = .ok (.invokevirtual 13, 3) := by decide +kernel
theorem dL_law_140 : decode cL_law 140 = .ok (.aload_n 2, 1) := by decide +kernel
theorem dL_law_141 : decode cL_law 141 = .ok (.aload_n 0, 1) := by decide +kernel
theorem dL_law_142 : decode cL_law 142 = .ok (.iload_n 3, 1) := by decide +kernel
theorem dL_law_143 : decode cL_law 143 = .ok (.iconst 1, 1) := by decide +kernel
theorem dL_law_144 : decode cL_law 144 = .ok (.iadd, 1) := by decide +kernel
theorem dL_law_145 : decode cL_law 145 = .ok (.iaload, 1) := by decide +kernel
theorem dL_law_146 : decode cL_law 146 = .ok (.aload_n 0, 1) := by decide +kernel
theorem dL_law_147 : decode cL_law 147 = .ok (.iload_n 3, 1) := by decide +kernel
theorem dL_law_148 : decode cL_law 148 = .ok (.iconst 2, 1) := by decide +kernel
theorem dL_law_149 : decode cL_law 149 = .ok (.iadd, 1) := by decide +kernel
theorem dL_law_150 : decode cL_law 150 = .ok (.iaload, 1) := by decide +kernel
theorem dL_law_151 : decode cL_law 151 = .ok (.aload_n 0, 1) := by decide +kernel
theorem dL_law_152 : decode cL_law 152 = .ok (.iload_n 3, 1) := by decide +kernel
theorem dL_law_153 : decode cL_law 153 = .ok (.iconst 3, 1) := by decide +kernel
theorem dL_law_154 : decode cL_law 154 = .ok (.iadd, 1) := by decide +kernel
theorem dL_law_155 : decode cL_law 155 = .ok (.iaload, 1) := by decide +kernel
theorem dL_law_156 : decode cL_law 156 = .ok (.aload_n 0, 1) := by decide +kernel
theorem dL_law_157 : decode cL_law 157 = .ok (.iload_n 3, 1) := by decide +kernel
theorem dL_law_158 : decode cL_law 158 = .ok (.iconst 4, 1) := by decide +kernel
theorem dL_law_159 : decode cL_law 159 = .ok (.iadd, 1) := by decide +kernel
theorem dL_law_160 : decode cL_law 160 = .ok (.iaload, 1) := by decide +kernel
theorem dL_law_161 : decode cL_law 161 = .ok (.invokevirtual 17, 3) := by decide +kernel
theorem dL_law_164 : decode cL_law 164 = .ok (.if_icmp .eq 603, 3) := by decide +kernel
theorem dL_law_167 : decode cL_law 167 = .ok (.iconst 0, 1) := by decide +kernel
theorem dL_law_168 : decode cL_law 168 = .ok (.ireturn, 1) := by decide +kernel
theorem dL_law_169 : decode cL_law 169 = .ok (.aload_n 1, 1) := by decide +kernel
theorem dL_law_170 : decode cL_law 170 = .ok (.aload_n 0, 1) := by decide +kernel
theorem dL_law_171 : decode cL_law 171 = .ok (.iload_n 3, 1) := by decide +kernel
theorem dL_law_172 : decode cL_law 172 = .ok (.iconst 1, 1) := by decide +kernel
theorem dL_law_173 : decode cL_law 173 = .ok (.iadd, 1) := by decide +kernel
theorem dL_law_174 : decode cL_law 174 = .ok (.iaload, 1) := by decide +kernel
theorem dL_law_175 : decode cL_law 175 = .ok (.aload_n 0, 1) := by decide +kernel
theorem dL_law_176 : decode cL_law 176 = .ok (.iload_n 3, 1) := by decide +kernel
theorem dL_law_177 : decode cL_law 177 = .ok (.iconst 2, 1) := by decide +kernel
theorem dL_law_178 : decode cL_law 178 = .ok (.iadd, 1) := by decide +kernel
theorem dL_law_179 : decode cL_law 179 = .ok (.iaload, 1) := by decide +kernel
theorem dL_law_180 : decode cL_law 180 = .ok (.invokevirtual 18, 3) := by decide +kernel
theorem dL_law_183 : decode cL_law 183 = .ok (.aload_n 2, 1) := by decide +kernel
theorem dL_law_184 : decode cL_law 184 = .ok (.aload_n 0, 1) := by decide +kernel
theorem dL_law_185 : decode cL_law 185 = .ok (.iload_n 3, 1) := by decide +kernel
theorem dL_law_186 : decode cL_law 186 = .ok (.iconst 1, 1) := by decide +kernel
theorem dL_law_187 : decode cL_law 187 = .ok (.iadd, 1) := by decide +kernel
theorem dL_law_188 : decode cL_law 188 = .ok (.iaload, 1) := by decide +kernel
theorem dL_law_189 : decode cL_law 189 = .ok (.aload_n 0, 1) := by decide +kernel
theorem dL_law_190 : decode cL_law 190 = .ok (.iload_n 3, 1) := by decide +kernel
theorem dL_law_191 : decode cL_law 191 = .ok (.iconst 2, 1) := by decide +kernel
theorem dL_law_192 : decode cL_law 192 = .ok (.iadd, 1) := by decide +kernel
theorem dL_law_193 : decode cL_law 193 = .ok (.iaload, 1) := by decide +kernel
theorem dL_law_194 : decode cL_law 194 = .ok (.invokevirtual 22, 3) := by decide +kernel
theorem dL_law_197 : decode cL_law 197 = .ok (.if_icmp .eq 570, 3) := by decide +kernel
theorem dL_law_200 : decode cL_law 200 = .ok (.iconst 0, 1) := by decide +kernel
theorem dL_law_201 : decode cL_law 201 = .ok (.ireturn, 1) := by decide +kernel
theorem dL_law_202 : decode cL_law 202 = .ok (.aload_n 1, 1) := by decide +kernel
theorem dL_law_203 : decode cL_law 203 = .ok (.aload_n 0, 1) := by decide +kernel
theorem dL_law_204 : decode cL_law 204 = .ok (.iload_n 3, 1) := by decide +kernel
theorem dL_law_205 : decode cL_law 205 = .ok (.iconst 1, 1) := by decide +kernel
theorem dL_law_206 : decode cL_law 206 = .ok (.iadd, 1) := by decide +kernel
theorem dL_law_207 : decode cL_law 207 = .ok (.iaload, 1) := by decide +kernel
theorem dL_law_208 : decode cL_law 208 = .ok (.invokevirtual 23, 3) := by decide +kernel
theorem dL_law_211 : decode cL_law 211 = .ok (.aload_n 2, 1) := by decide +kernel
theorem dL_law_212 : decode cL_law 212 = .ok (.aload_n 0, 1) := by decide +kernel
theorem dL_law_213 : decode cL_law 213 = .ok (.iload_n 3, 1) := by decide +kernel
theorem dL_law_214 : decode cL_law 214 = .ok (.iconst 1, 1) := by decide +kernel
theorem dL_law_215 : decode cL_law 215 = .ok (.iadd, 1) := by decide +kernel
theorem dL_law_216 : decode cL_law 216 = .ok (.iaload, 1) := by decide +kernel
theorem dL_law_217 : decode cL_law 217 = .ok (.invokevirtual 27, 3) := by decide +kernel
theorem dL_law_220 : decode cL_law 220 = .ok (.if_icmp .eq 547, 3) := by decide +kernel
theorem dL_law_223 : decode cL_law 223 = .ok (.iconst 0, 1) := by decide +kernel
theorem dL_law_224 : decode cL_law 224 = .ok (.ireturn, 1) := by decide +kernel
theorem dL_law_225 : decode cL_law 225 = .ok (.aload_n 1, 1) := by decide +kernel
theorem dL_law_226 : decode cL_law 226 = .ok (.aload_n 0, 1) := by decide +kernel
theorem dL_law_227 : decode cL_law 227 = .ok (.iload_n 3, 1) := by decide +kernel
theorem dL_law_228 : decode cL_law 228 = .ok (.iconst 1, 1) := by decide +kernel
theorem dL_law_229 : decode cL_law 229 = .ok (.iadd, 1) := by decide +kernel
theorem dL_law_230 : decode cL_law 230 = .ok (.iaload, 1) := by decide +kernel
theorem dL_law_231 : decode cL_law 231 = .ok (.aload_n 0, 1) := by decide +kernel
theorem dL_law_232 : decode cL_law 232 = .ok (.iload_n 3, 1) := by decide +kernel
theorem dL_law_233 : decode cL_law 233 = .ok (.iconst 2, 1) := by decide +kernel
theorem dL_law_234 : decode cL_law 234 = .ok (.iadd, 1) := by decide +kernel
theorem dL_law_235 : decode cL_law 235 = .ok (.iaload, 1) := by decide +kernel
theorem dL_law_236 : decode cL_law 236 = .ok (.aload_n 0, 1) := by decide +kernel
theorem dL_law_237 : decode cL_law 237 = .ok (.iload_n 3, 1) := by decide +kernel
theorem dL_law_238 : decode cL_law 238 = .ok (.iconst 3, 1) := by decide +kernel
theorem dL_law_239 : decode cL_law 239 = .ok (.iadd, 1) := by decide +kernel
theorem dL_law_240 : decode cL_law 240 = .ok (.iaload, 1) := by decide +kernel
theorem dL_law_241 : decode cL_law 241 = .ok (.invokevirtual 28, 3) := by decide +kernel
theorem dL_law_244 : decode cL_law 244 = .ok (.aload_n 2, 1) := by decide +kernel
theorem dL_law_245 : decode cL_law 245 = .ok (.aload_n 0, 1) := by decide +kernel
theorem dL_law_246 : decode cL_law 246 = .ok (.iload_n 3, 1) := by decide +kernel
theorem dL_law_247 : decode cL_law 247 = .ok (.iconst 1, 1) := by decide +kernel
theorem dL_law_248 : decode cL_law 248 = .ok (.iadd, 1) := by decide +kernel
theorem dL_law_249 : decode cL_law 249 = .ok (.iaload, 1) := by decide +kernel
theorem dL_law_250 : decode cL_law 250 = .ok (.aload_n 0, 1) := by decide +kernel
theorem dL_law_251 : decode cL_law 251 = .ok (.iload_n 3, 1) := by decide +kernel
theorem dL_law_252 : decode cL_law 252 = .ok (.iconst 2, 1) := by decide +kernel
theorem dL_law_253 : decode cL_law 253 = .ok (.iadd, 1) := by decide +kernel
theorem dL_law_254 : decode cL_law 254 = .ok (.iaload, 1) := by decide +kernel
theorem dL_law_255 : decode cL_law 255 = .ok (.aload_n 0, 1) := by decide +kernel
theorem dL_law_256 : decode cL_law 256 = .ok (.iload_n 3, 1) := by decide +kernel
theorem dL_law_257 : decode cL_law 257 = .ok (.iconst 3, 1) := by decide +kernel
theorem dL_law_258 : decode cL_law 258 = .ok (.iadd, 1) := by decide +kernel
theorem dL_law_259 : decode cL_law 259 = .ok (.iaload, 1) := by decide +kernel
theorem dL_law_260 : decode cL_law 260 = .ok (.invokevirtual 32, 3) := by decide +kernel
theorem dL_law_263 : decode cL_law 263 = .ok (.if_icmp .eq 504, 3) := by decide +kernel
theorem dL_law_266 : decode cL_law 266 = .ok (.iconst 0, 1) := by decide +kernel
theorem dL_law_267 : decode cL_law 267 = .ok (.ireturn, 1) := by decide +kernel
theorem dL_law_268 : decode cL_law 268 = .ok (.aload_n 1, 1) := by decide +kernel
theorem dL_law_269 : decode cL_law 269 = .ok (.aload_n 0, 1) := by decide +kernel
theorem dL_law_270 : decode cL_law 270 = .ok (.iload_n 3, 1) := by decide +kernel
theorem dL_law_271 : decode cL_law 271 = .ok (.iconst 1, 1) := by decide +kernel
theorem dL_law_272 : decode cL_law 272 = .ok (.iadd, 1) := by decide +kernel
theorem dL_law_273 : decode cL_law 273 = .ok (.iaload, 1) := by decide +kernel
theorem dL_law_274 : decode cL_law 274 = .ok (.aload_n 0, 1) := by decide +kernel
theorem dL_law_275 : decode cL_law 275 = .ok (.iload_n 3, 1) := by decide +kernel
theorem dL_law_276 : decode cL_law 276 = .ok (.iconst 2, 1) := by decide +kernel
theorem dL_law_277 : decode cL_law 277 = .ok (.iadd, 1) := by decide +kernel
theorem dL_law_278 : decode cL_law 278 = .ok (.iaload, 1) := by decide +kernel
theorem dL_law_279 : decode cL_law 279 = .ok (.invokevirtual 33, 3) := by decide +kernel
theorem dL_law_282 : decode cL_law 282 = .ok (.aload_n 2, 1) := by decide +kernel
theorem dL_law_283 : decode cL_law 283 = .ok (.aload_n 0, 1) := by decide +kernel
theorem dL_law_284 : decode cL_law 284 = .ok (.iload_n 3, 1) := by decide +kernel
theorem dL_law_285 : decode cL_law 285 = .ok (.iconst 1, 1) := by decide +kernel
theorem dL_law_286 : decode cL_law 286 = .ok (.iadd, 1) := by decide +kernel
theorem dL_law_287 : decode cL_law 287 = .ok (.iaload, 1) := by decide +kernel
theorem dL_law_288 : decode cL_law 288 = .ok (.aload_n 0, 1) := by decide +kernel
theorem dL_law_289 : decode cL_law 289 = .ok (.iload_n 3, 1) := by decide +kernel
theorem dL_law_290 : decode cL_law 290 = .ok (.iconst 2, 1) := by decide +kernel
theorem dL_law_291 : decode cL_law 291 = .ok (.iadd, 1) := by decide +kernel
theorem dL_law_292 : decode cL_law 292 = .ok (.iaload, 1) := by decide +kernel
theorem dL_law_293 : decode cL_law 293 = .ok (.invokevirtual 36, 3) := by decide +kernel
theorem dL_law_296 : decode cL_law 296 = .ok (.if_icmp .eq 471, 3) := by decide +kernel
theorem dL_law_299 : decode cL_law 299 = .ok (.iconst 0, 1) := by decide +kernel
theorem dL_law_300 : decode cL_law 300 = .ok (.ireturn, 1) := by decide +kernel
theorem dL_law_301 : decode cL_law 301 = .ok (.aload_n 1, 1) := by decide +kernel
theorem dL_law_302 : decode cL_law 302 = .ok (.aload_n 0, 1) := by decide +kernel
theorem dL_law_303 : decode cL_law 303 = .ok (.iload_n 3, 1) := by decide +kernel
theorem dL_law_304 : decode cL_law 304 = .ok (.iconst 1, 1) := by decide +kernel
theorem dL_law_305 : decode cL_law 305 = .ok (.iadd, 1) := by decide +kernel
theorem dL_law_306 : decode cL_law 306 = .ok (.iaload, 1) := by decide +kernel
theorem dL_law_307 : decode cL_law 307 = .ok (.aload_n 0, 1) := by decide +kernel
theorem dL_law_308 : decode cL_law 308 = .ok (.iload_n 3, 1) := by decide +kernel
theorem dL_law_309 : decode cL_law 309 = .ok (.iconst 2, 1) := by decide +kernel
theorem dL_law_310 : decode cL_law 310 = .ok (.iadd, 1) := by decide +kernel
theorem dL_law_311 : decode cL_law 311 = .ok (.iaload, 1) := by decide +kernel
theorem dL_law_312 : decode cL_law 312 = .ok (.invokevirtual 37, 3) := by decide +kernel
theorem dL_law_315 : decode cL_law 315 = .ok (.aload_n 2, 1) := by decide +kernel
theorem dL_law_316 : decode cL_law 316 = .ok (.aload_n 0, 1) := by decide +kernel
theorem dL_law_317 : decode cL_law 317 = .ok (.iload_n 3, 1) := by decide +kernel
theorem dL_law_318 : decode cL_law 318 = .ok (.iconst 1, 1) := by decide +kernel
theorem dL_law_319 : decode cL_law 319 = .ok (.iadd, 1) := by decide +kernel
theorem dL_law_320 : decode cL_law 320 = .ok (.iaload, 1) := by decide +kernel
theorem dL_law_321 : decode cL_law 321 = .ok (.aload_n 0, 1) := by decide +kernel
theorem dL_law_322 : decode cL_law 322 = .ok (.iload_n 3, 1) := by decide +kernel
theorem dL_law_323 : decode cL_law 323 = .ok (.iconst 2, 1) := by decide +kernel
theorem dL_law_324 : decode cL_law 324 = .ok (.iadd, 1) := by decide +kernel
theorem dL_law_325 : decode cL_law 325 = .ok (.iaload, 1) := by decide +kernel
theorem dL_law_326 : decode cL_law 326 = .ok (.invokevirtual 40, 3) := by decide +kernel
theorem dL_law_329 : decode cL_law 329 = .ok (.if_icmp .eq 438, 3) := by decide +kernel
theorem dL_law_332 : decode cL_law 332 = .ok (.iconst 0, 1) := by decide +kernel
theorem dL_law_333 : decode cL_law 333 = .ok (.ireturn, 1) := by decide +kernel
theorem dL_law_334 : decode cL_law 334 = .ok (.aload_n 1, 1) := by decide +kernel
theorem dL_law_335 : decode cL_law 335 = .ok (.aload_n 0, 1) := by decide +kernel
theorem dL_law_336 : decode cL_law 336 = .ok (.iload_n 3, 1) := by decide +kernel
theorem dL_law_337 : decode cL_law 337 = .ok (.iconst 1, 1) := by decide +kernel
theorem dL_law_338 : decode cL_law 338 = .ok (.iadd, 1) := by decide +kernel
theorem dL_law_339 : decode cL_law 339 = .ok (.iaload, 1) := by decide +kernel
theorem dL_law_340 : decode cL_law 340 = .ok (.aload_n 0, 1) := by decide +kernel
theorem dL_law_341 : decode cL_law 341 = .ok (.iload_n 3, 1) := by decide +kernel
theorem dL_law_342 : decode cL_law 342 = .ok (.iconst 2, 1) := by decide +kernel
theorem dL_law_343 : decode cL_law 343 = .ok (.iadd, 1) := by decide +kernel
theorem dL_law_344 : decode cL_law 344 = .ok (.iaload, 1) := by decide +kernel
theorem dL_law_345 : decode cL_law 345 = .ok (.aload_n 0, 1) := by decide +kernel
theorem dL_law_346 : decode cL_law 346 = .ok (.iload_n 3, 1) := by decide +kernel
theorem dL_law_347 : decode cL_law 347 = .ok (.iconst 3, 1) := by decide +kernel
theorem dL_law_348 : decode cL_law 348 = .ok (.iadd, 1) := by decide +kernel
theorem dL_law_349 : decode cL_law 349 = .ok (.iaload, 1) := by decide +kernel
theorem dL_law_350 : decode cL_law 350 = .ok (.invokevirtual 41, 3) := by decide +kernel
theorem dL_law_353 : decode cL_law 353 = .ok (.aload_n 2, 1) := by decide +kernel
theorem dL_law_354 : decode cL_law 354 = .ok (.aload_n 0, 1) := by decide +kernel
theorem dL_law_355 : decode cL_law 355 = .ok (.iload_n 3, 1) := by decide +kernel
theorem dL_law_356 : decode cL_law 356 = .ok (.iconst 1, 1) := by decide +kernel
theorem dL_law_357 : decode cL_law 357 = .ok (.iadd, 1) := by decide +kernel
theorem dL_law_358 : decode cL_law 358 = .ok (.iaload, 1) := by decide +kernel
theorem dL_law_359 : decode cL_law 359 = .ok (.aload_n 0, 1) := by decide +kernel
theorem dL_law_360 : decode cL_law 360 = .ok (.iload_n 3, 1) := by decide +kernel
theorem dL_law_361 : decode cL_law 361 = .ok (.iconst 2, 1) := by decide +kernel
theorem dL_law_362 : decode cL_law 362 = .ok (.iadd, 1) := by decide +kernel
theorem dL_law_363 : decode cL_law 363 = .ok (.iaload, 1) := by decide +kernel
theorem dL_law_364 : decode cL_law 364 = .ok (.aload_n 0, 1) := by decide +kernel
theorem dL_law_365 : decode cL_law 365 = .ok (.iload_n 3, 1) := by decide +kernel
theorem dL_law_366 : decode cL_law 366 = .ok (.iconst 3, 1) := by decide +kernel
theorem dL_law_367 : decode cL_law 367 = .ok (.iadd, 1) := by decide +kernel
theorem dL_law_368 : decode cL_law 368 = .ok (.iaload, 1) := by decide +kernel
theorem dL_law_369 : decode cL_law 369 = .ok (.invokevirtual 44, 3) := by decide +kernel
theorem dL_law_372 : decode cL_law 372 = .ok (.if_icmp .eq 395, 3) := by decide +kernel
theorem dL_law_375 : decode cL_law 375 = .ok (.iconst 0, 1) := by decide +kernel
theorem dL_law_376 : decode cL_law 376 = .ok (.ireturn, 1) := by decide +kernel
theorem dL_law_377 : decode cL_law 377 = .ok (.aload_n 1, 1) := by decide +kernel
theorem dL_law_378 : decode cL_law 378 = .ok (.aload_n 0, 1) := by decide +kernel
theorem dL_law_379 : decode cL_law 379 = .ok (.iload_n 3, 1) := by decide +kernel
theorem dL_law_380 : decode cL_law 380 = .ok (.iconst 1, 1) := by decide +kernel
theorem dL_law_381 : decode cL_law 381 = .ok (.iadd, 1) := by decide +kernel
theorem dL_law_382 : decode cL_law 382 = .ok (.iaload, 1) := by decide +kernel
theorem dL_law_383 : decode cL_law 383 = .ok (.aload_n 0, 1) := by decide +kernel
theorem dL_law_384 : decode cL_law 384 = .ok (.iload_n 3, 1) := by decide +kernel
theorem dL_law_385 : decode cL_law 385 = .ok (.iconst 2, 1) := by decide +kernel
theorem dL_law_386 : decode cL_law 386 = .ok (.iadd, 1) := by decide +kernel
theorem dL_law_387 : decode cL_law 387 = .ok (.iaload, 1) := by decide +kernel
theorem dL_law_388 : decode cL_law 388 = .ok (.aload_n 0, 1) := by decide +kernel
theorem dL_law_389 : decode cL_law 389 = .ok (.iload_n 3, 1) := by decide +kernel
theorem dL_law_390 : decode cL_law 390 = .ok (.iconst 3, 1) := by decide +kernel
theorem dL_law_391 : decode cL_law 391 = .ok (.iadd, 1) := by decide +kernel
theorem dL_law_392 : decode cL_law 392 = .ok (.iaload, 1) := by decide +kernel
theorem dL_law_393 : decode cL_law 393 = .ok (.aload_n 0, 1) := by decide +kernel
theorem dL_law_394 : decode cL_law 394 = .ok (.iload_n 3, 1) := by decide +kernel
theorem dL_law_395 : decode cL_law 395 = .ok (.iconst 4, 1) := by decide +kernel
theorem dL_law_396 : decode cL_law 396 = .ok (.iadd, 1) := by decide +kernel
theorem dL_law_397 : decode cL_law 397 = .ok (.iaload, 1) := by decide +kernel
theorem dL_law_398 : decode cL_law 398 = .ok (.invokevirtual 45, 3) := by decide +kernel
theorem dL_law_401 : decode cL_law 401 = .ok (.aload_n 2, 1) := by decide +kernel
theorem dL_law_402 : decode cL_law 402 = .ok (.aload_n 0, 1) := by decide +kernel
theorem dL_law_403 : decode cL_law 403 = .ok (.iload_n 3, 1) := by decide +kernel
theorem dL_law_404 : decode cL_law 404 = .ok (.iconst 1, 1) := by decide +kernel
theorem dL_law_405 : decode cL_law 405 = .ok (.iadd, 1) := by decide +kernel
theorem dL_law_406 : decode cL_law 406 = .ok (.iaload, 1) := by decide +kernel
theorem dL_law_407 : decode cL_law 407 = .ok (.aload_n 0, 1) := by decide +kernel
theorem dL_law_408 : decode cL_law 408 = .ok (.iload_n 3, 1) := by decide +kernel
theorem dL_law_409 : decode cL_law 409 = .ok (.iconst 2, 1) := by decide +kernel
theorem dL_law_410 : decode cL_law 410 = .ok (.iadd, 1) := by decide +kernel
theorem dL_law_411 : decode cL_law 411 = .ok (.iaload, 1) := by decide +kernel
theorem dL_law_412 : decode cL_law 412 = .ok (.aload_n 0, 1) := by decide +kernel
theorem dL_law_413 : decode cL_law 413 = .ok (.iload_n 3, 1) := by decide +kernel
theorem dL_law_414 : decode cL_law 414 = .ok (.iconst 3, 1) := by decide +kernel
theorem dL_law_415 : decode cL_law 415 = .ok (.iadd, 1) := by decide +kernel
theorem dL_law_416 : decode cL_law 416 = .ok (.iaload, 1) := by decide +kernel
theorem dL_law_417 : decode cL_law 417 = .ok (.aload_n 0, 1) := by decide +kernel
theorem dL_law_418 : decode cL_law 418 = .ok (.iload_n 3, 1) := by decide +kernel
theorem dL_law_419 : decode cL_law 419 = .ok (.iconst 4, 1) := by decide +kernel
theorem dL_law_420 : decode cL_law 420 = .ok (.iadd, 1) := by decide +kernel
theorem dL_law_421 : decode cL_law 421 = .ok (.iaload, 1) := by decide +kernel
theorem dL_law_422 : decode cL_law 422 = .ok (.invokevirtual 48, 3) := by decide +kernel
theorem dL_law_425 : decode cL_law 425 = .ok (.if_icmp .eq 342, 3) := by decide +kernel
theorem dL_law_428 : decode cL_law 428 = .ok (.iconst 0, 1) := by decide +kernel
theorem dL_law_429 : decode cL_law 429 = .ok (.ireturn, 1) := by decide +kernel
theorem dL_law_430 : decode cL_law 430 = .ok (.aload_n 1, 1) := by decide +kernel
theorem dL_law_431 : decode cL_law 431 = .ok (.aload_n 0, 1) := by decide +kernel
theorem dL_law_432 : decode cL_law 432 = .ok (.iload_n 3, 1) := by decide +kernel
theorem dL_law_433 : decode cL_law 433 = .ok (.iconst 1, 1) := by decide +kernel
theorem dL_law_434 : decode cL_law 434 = .ok (.iadd, 1) := by decide +kernel
theorem dL_law_435 : decode cL_law 435 = .ok (.iaload, 1) := by decide +kernel
theorem dL_law_436 : decode cL_law 436 = .ok (.aload_n 0, 1) := by decide +kernel
theorem dL_law_437 : decode cL_law 437 = .ok (.iload_n 3, 1) := by decide +kernel
theorem dL_law_438 : decode cL_law 438 = .ok (.iconst 2, 1) := by decide +kernel
theorem dL_law_439 : decode cL_law 439 = .ok (.iadd, 1) := by decide +kernel
theorem dL_law_440 : decode cL_law 440 = .ok (.iaload, 1) := by decide +kernel
theorem dL_law_441 : decode cL_law 441 = .ok (.aload_n 0, 1) := by decide +kernel
theorem dL_law_442 : decode cL_law 442 = .ok (.iload_n 3, 1) := by decide +kernel
theorem dL_law_443 : decode cL_law 443 = .ok (.iconst 3, 1) := by decide +kernel
theorem dL_law_444 : decode cL_law 444 = .ok (.iadd, 1) := by decide +kernel
theorem dL_law_445 : decode cL_law 445 = .ok (.iaload, 1) := by decide +kernel
theorem dL_law_446 : decode cL_law 446 = .ok (.invokevirtual 49, 3) := by decide +kernel
theorem dL_law_449 : decode cL_law 449 = .ok (.aload_n 2, 1) := by decide +kernel
theorem dL_law_450 : decode cL_law 450 = .ok (.aload_n 0, 1) := by decide +kernel
theorem dL_law_451 : decode cL_law 451 = .ok (.iload_n 3, 1) := by decide +kernel
theorem dL_law_452 : decode cL_law 452 = .ok (.iconst 1, 1) := by decide +kernel
theorem dL_law_453 : decode cL_law 453 = .ok (.iadd, 1) := by decide +kernel
theorem dL_law_454 : decode cL_law 454 = .ok (.iaload, 1) := by decide +kernel
theorem dL_law_455 : decode cL_law 455 = .ok (.aload_n 0, 1) := by decide +kernel
theorem dL_law_456 : decode cL_law 456 = .ok (.iload_n 3, 1) := by decide +kernel
theorem dL_law_457 : decode cL_law 457 = .ok (.iconst 2, 1) := by decide +kernel
theorem dL_law_458 : decode cL_law 458 = .ok (.iadd, 1) := by decide +kernel
theorem dL_law_459 : decode cL_law 459 = .ok (.iaload, 1) := by decide +kernel
theorem dL_law_460 : decode cL_law 460 = .ok (.aload_n 0, 1) := by decide +kernel
theorem dL_law_461 : decode cL_law 461 = .ok (.iload_n 3, 1) := by decide +kernel
theorem dL_law_462 : decode cL_law 462 = .ok (.iconst 3, 1) := by decide +kernel
theorem dL_law_463 : decode cL_law 463 = .ok (.iadd, 1) := by decide +kernel
theorem dL_law_464 : decode cL_law 464 = .ok (.iaload, 1) := by decide +kernel
theorem dL_law_465 : decode cL_law 465 = .ok (.invokevirtual 52, 3) := by decide +kernel
theorem dL_law_468 : decode cL_law 468 = .ok (.if_icmp .eq 299, 3) := by decide +kernel
theorem dL_law_471 : decode cL_law 471 = .ok (.iconst 0, 1) := by decide +kernel
theorem dL_law_472 : decode cL_law 472 = .ok (.ireturn, 1) := by decide +kernel
theorem dL_law_473 : decode cL_law 473 = .ok (.aload_n 1, 1) := by decide +kernel
theorem dL_law_474 : decode cL_law 474 = .ok (.aload_n 0, 1) := by decide +kernel
theorem dL_law_475 : decode cL_law 475 = .ok (.iload_n 3, 1) := by decide +kernel
theorem dL_law_476 : decode cL_law 476 = .ok (.iconst 1, 1) := by decide +kernel
theorem dL_law_477 : decode cL_law 477 = .ok (.iadd, 1) := by decide +kernel
theorem dL_law_478 : decode cL_law 478 = .ok (.iaload, 1) := by decide +kernel
theorem dL_law_479 : decode cL_law 479 = .ok (.aload_n 0, 1) := by decide +kernel
theorem dL_law_480 : decode cL_law 480 = .ok (.iload_n 3, 1) := by decide +kernel
theorem dL_law_481 : decode cL_law 481 = .ok (.iconst 2, 1) := by decide +kernel
theorem dL_law_482 : decode cL_law 482 = .ok (.iadd, 1) := by decide +kernel
theorem dL_law_483 : decode cL_law 483 = .ok (.iaload, 1) := by decide +kernel
theorem dL_law_484 : decode cL_law 484 = .ok (.aload_n 0, 1) := by decide +kernel
theorem dL_law_485 : decode cL_law 485 = .ok (.iload_n 3, 1) := by decide +kernel
theorem dL_law_486 : decode cL_law 486 = .ok (.iconst 3, 1) := by decide +kernel
theorem dL_law_487 : decode cL_law 487 = .ok (.iadd, 1) := by decide +kernel
theorem dL_law_488 : decode cL_law 488 = .ok (.iaload, 1) := by decide +kernel
theorem dL_law_489 : decode cL_law 489 = .ok (.aload_n 0, 1) := by decide +kernel
theorem dL_law_490 : decode cL_law 490 = .ok (.iload_n 3, 1) := by decide +kernel
theorem dL_law_491 : decode cL_law 491 = .ok (.iconst 4, 1) := by decide +kernel
theorem dL_law_492 : decode cL_law 492 = .ok (.iadd, 1) := by decide +kernel
theorem dL_law_493 : decode cL_law 493 = .ok (.iaload, 1) := by decide +kernel
theorem dL_law_494 : decode cL_law 494 = .ok (.invokevirtual 53, 3) := by decide +kernel
theorem dL_law_497 : decode cL_law 497 = .ok (.aload_n 2, 1) := by decide +kernel
theorem dL_law_498 : decode cL_law 498 = .ok (.aload_n 0, 1) := by decide +kernel
theorem dL_law_499 : decode cL_law 499 = .ok (.iload_n 3, 1) := by decide +kernel
theorem dL_law_500 : decode cL_law 500 = .ok (.iconst 1, 1) := by decide +kernel
theorem dL_law_501 : decode cL_law 501 = .ok (.iadd, 1) := by decide +kernel
theorem dL_law_502 : decode cL_law 502 = .ok (.iaload, 1) := by decide +kernel
theorem dL_law_503 : decode cL_law 503 = .ok (.aload_n 0, 1) := by decide +kernel
theorem dL_law_504 : decode cL_law 504 = .ok (.iload_n 3, 1) := by decide +kernel
theorem dL_law_505 : decode cL_law 505 = .ok (.iconst 2, 1) := by decide +kernel
theorem dL_law_506 : decode cL_law 506 = .ok (.iadd, 1) := by decide +kernel
theorem dL_law_507 : decode cL_law 507 = .ok (.iaload, 1) := by decide +kernel
theorem dL_law_508 : decode cL_law 508 = .ok (.aload_n 0, 1) := by decide +kernel
theorem dL_law_509 : decode cL_law 509 = .ok (.iload_n 3, 1) := by decide +kernel
theorem dL_law_510 : decode cL_law 510 = .ok (.iconst 3, 1) := by decide +kernel
theorem dL_law_511 : decode cL_law 511 = .ok (.iadd, 1) := by decide +kernel
theorem dL_law_512 : decode cL_law 512 = .ok (.iaload, 1) := by decide +kernel
theorem dL_law_513 : decode cL_law 513 = .ok (.aload_n 0, 1) := by decide +kernel
theorem dL_law_514 : decode cL_law 514 = .ok (.iload_n 3, 1) := by decide +kernel
theorem dL_law_515 : decode cL_law 515 = .ok (.iconst 4, 1) := by decide +kernel
theorem dL_law_516 : decode cL_law 516 = .ok (.iadd, 1) := by decide +kernel
theorem dL_law_517 : decode cL_law 517 = .ok (.iaload, 1) := by decide +kernel
theorem dL_law_518 : decode cL_law 518 = .ok (.invokevirtual 56, 3) := by decide +kernel
theorem dL_law_521 : decode cL_law 521 = .ok (.if_icmp .eq 246, 3) := by decide +kernel
theorem dL_law_524 : decode cL_law 524 = .ok (.iconst 0, 1) := by decide +kernel
theorem dL_law_525 : decode cL_law 525 = .ok (.ireturn, 1) := by decide +kernel
theorem dL_law_526 : decode cL_law 526 = .ok (.aload_n 1, 1) := by decide +kernel
theorem dL_law_527 : decode cL_law 527 = .ok (.aload_n 0, 1) := by decide +kernel
theorem dL_law_528 : decode cL_law 528 = .ok (.iload_n 3, 1) := by decide +kernel
theorem dL_law_529 : decode cL_law 529 = .ok (.iconst 1, 1) := by decide +kernel
theorem dL_law_530 : decode cL_law 530 = .ok (.iadd, 1) := by decide +kernel
theorem dL_law_531 : decode cL_law 531 = .ok (.iaload, 1) := by decide +kernel
theorem dL_law_532 : decode cL_law 532 = .ok (.aload_n 0, 1) := by decide +kernel
theorem dL_law_533 : decode cL_law 533 = .ok (.iload_n 3, 1) := by decide +kernel
theorem dL_law_534 : decode cL_law 534 = .ok (.iconst 2, 1) := by decide +kernel
theorem dL_law_535 : decode cL_law 535 = .ok (.iadd, 1) := by decide +kernel
theorem dL_law_536 : decode cL_law 536 = .ok (.iaload, 1) := by decide +kernel
theorem dL_law_537 : decode cL_law 537 = .ok (.aload_n 0, 1) := by decide +kernel
theorem dL_law_538 : decode cL_law 538 = .ok (.iload_n 3, 1) := by decide +kernel
theorem dL_law_539 : decode cL_law 539 = .ok (.iconst 3, 1) := by decide +kernel
theorem dL_law_540 : decode cL_law 540 = .ok (.iadd, 1) := by decide +kernel
theorem dL_law_541 : decode cL_law 541 = .ok (.iaload, 1) := by decide +kernel
theorem dL_law_542 : decode cL_law 542 = .ok (.aload_n 0, 1) := by decide +kernel
theorem dL_law_543 : decode cL_law 543 = .ok (.iload_n 3, 1) := by decide +kernel
theorem dL_law_544 : decode cL_law 544 = .ok (.iconst 4, 1) := by decide +kernel
theorem dL_law_545 : decode cL_law 545 = .ok (.iadd, 1) := by decide +kernel
theorem dL_law_546 : decode cL_law 546 = .ok (.iaload, 1) := by decide +kernel
theorem dL_law_547 : decode cL_law 547 = .ok (.invokevirtual 57, 3) := by decide +kernel
theorem dL_law_550 : decode cL_law 550 = .ok (.aload_n 2, 1) := by decide +kernel
theorem dL_law_551 : decode cL_law 551 = .ok (.aload_n 0, 1) := by decide +kernel
theorem dL_law_552 : decode cL_law 552 = .ok (.iload_n 3, 1) := by decide +kernel
theorem dL_law_553 : decode cL_law 553 = .ok (.iconst 1, 1) := by decide +kernel
theorem dL_law_554 : decode cL_law 554 = .ok (.iadd, 1) := by decide +kernel
theorem dL_law_555 : decode cL_law 555 = .ok (.iaload, 1) := by decide +kernel
theorem dL_law_556 : decode cL_law 556 = .ok (.aload_n 0, 1) := by decide +kernel
theorem dL_law_557 : decode cL_law 557 = .ok (.iload_n 3, 1) := by decide +kernel
theorem dL_law_558 : decode cL_law 558 = .ok (.iconst 2, 1) := by decide +kernel
theorem dL_law_559 : decode cL_law 559 = .ok (.iadd, 1) := by decide +kernel
theorem dL_law_560 : decode cL_law 560 = .ok (.iaload, 1) := by decide +kernel
theorem dL_law_561 : decode cL_law 561 = .ok (.aload_n 0, 1) := by decide +kernel
theorem dL_law_562 : decode cL_law 562 = .ok (.iload_n 3, 1) := by decide +kernel
theorem dL_law_563 : decode cL_law 563 = .ok (.iconst 3, 1) := by decide +kernel
theorem dL_law_564 : decode cL_law 564 = .ok (.iadd, 1) := by decide +kernel
theorem dL_law_565 : decode cL_law 565 = .ok (.iaload, 1) := by decide +kernel
theorem dL_law_566 : decode cL_law 566 = .ok (.aload_n 0, 1) := by decide +kernel
theorem dL_law_567 : decode cL_law 567 = .ok (.iload_n 3, 1) := by decide +kernel
theorem dL_law_568 : decode cL_law 568 = .ok (.iconst 4, 1) := by decide +kernel
theorem dL_law_569 : decode cL_law 569 = .ok (.iadd, 1) := by decide +kernel
theorem dL_law_570 : decode cL_law 570 = .ok (.iaload, 1) := by decide +kernel
theorem dL_law_571 : decode cL_law 571 = .ok (.invokevirtual 60, 3) := by decide +kernel
theorem dL_law_574 : decode cL_law 574 = .ok (.if_icmp .eq 193, 3) := by decide +kernel
theorem dL_law_577 : decode cL_law 577 = .ok (.iconst 0, 1) := by decide +kernel
theorem dL_law_578 : decode cL_law 578 = .ok (.ireturn, 1) := by decide +kernel
theorem dL_law_579 : decode cL_law 579 = .ok (.aload_n 1, 1) := by decide +kernel
theorem dL_law_580 : decode cL_law 580 = .ok (.aload_n 0, 1) := by decide +kernel
theorem dL_law_581 : decode cL_law 581 = .ok (.iload_n 3, 1) := by decide +kernel
theorem dL_law_582 : decode cL_law 582 = .ok (.iconst 1, 1) := by decide +kernel
theorem dL_law_583 : decode cL_law 583 = .ok (.iadd, 1) := by decide +kernel
theorem dL_law_584 : decode cL_law 584 = .ok (.iaload, 1) := by decide +kernel
theorem dL_law_585 : decode cL_law 585 = .ok (.aload_n 0, 1) := by decide +kernel
theorem dL_law_586 : decode cL_law 586 = .ok (.iload_n 3, 1) := by decide +kernel
theorem dL_law_587 : decode cL_law 587 = .ok (.iconst 2, 1) := by decide +kernel
theorem dL_law_588 : decode cL_law 588 = .ok (.iadd, 1) := by decide +kernel
theorem dL_law_589 : decode cL_law 589 = .ok (.iaload, 1) := by decide +kernel
theorem dL_law_590 : decode cL_law 590 = .ok (.aload_n 0, 1) := by decide +kernel
theorem dL_law_591 : decode cL_law 591 = .ok (.iload_n 3, 1) := by decide +kernel
theorem dL_law_592 : decode cL_law 592 = .ok (.iconst 3, 1) := by decide +kernel
theorem dL_law_593 : decode cL_law 593 = .ok (.iadd, 1) := by decide +kernel
theorem dL_law_594 : decode cL_law 594 = .ok (.iaload, 1) := by decide +kernel
theorem dL_law_595 : decode cL_law 595 = .ok (.invokevirtual 61, 3) := by decide +kernel
theorem dL_law_598 : decode cL_law 598 = .ok (.aload_n 2, 1) := by decide +kernel
theorem dL_law_599 : decode cL_law 599 = .ok (.aload_n 0, 1) := by decide +kernel
theorem dL_law_600 : decode cL_law 600 = .ok (.iload_n 3, 1) := by decide +kernel
theorem dL_law_601 : decode cL_law 601 = .ok (.iconst 1, 1) := by decide +kernel
theorem dL_law_602 : decode cL_law 602 = .ok (.iadd, 1) := by decide +kernel
theorem dL_law_603 : decode cL_law 603 = .ok (.iaload, 1) := by decide +kernel
theorem dL_law_604 : decode cL_law 604 = .ok (.aload_n 0, 1) := by decide +kernel
theorem dL_law_605 : decode cL_law 605 = .ok (.iload_n 3, 1) := by decide +kernel
theorem dL_law_606 : decode cL_law 606 = .ok (.iconst 2, 1) := by decide +kernel
theorem dL_law_607 : decode cL_law 607 = .ok (.iadd, 1) := by decide +kernel
theorem dL_law_608 : decode cL_law 608 = .ok (.iaload, 1) := by decide +kernel
theorem dL_law_609 : decode cL_law 609 = .ok (.aload_n 0, 1) := by decide +kernel
theorem dL_law_610 : decode cL_law 610 = .ok (.iload_n 3, 1) := by decide +kernel
theorem dL_law_611 : decode cL_law 611 = .ok (.iconst 3, 1) := by decide +kernel
theorem dL_law_612 : decode cL_law 612 = .ok (.iadd, 1) := by decide +kernel
theorem dL_law_613 : decode cL_law 613 = .ok (.iaload, 1) := by decide +kernel
theorem dL_law_614 : decode cL_law 614 = .ok (.invokevirtual 64, 3) := by decide +kernel
theorem dL_law_617 : decode cL_law 617 = .ok (.if_icmp .eq 150, 3) := by decide +kernel
theorem dL_law_620 : decode cL_law 620 = .ok (.iconst 0, 1) := by decide +kernel
theorem dL_law_621 : decode cL_law 621 = .ok (.ireturn, 1) := by decide +kernel
theorem dL_law_622 : decode cL_law 622 = .ok (.aload_n 1, 1) := by decide +kernel
theorem dL_law_623 : decode cL_law 623 = .ok (.aload_n 0, 1) := by decide +kernel
theorem dL_law_624 : decode cL_law 624 = .ok (.iload_n 3, 1) := by decide +kernel
theorem dL_law_625 : decode cL_law 625 = .ok (.iconst 1, 1) := by decide +kernel
theorem dL_law_626 : decode cL_law 626 = .ok (.iadd, 1) := by decide +kernel
theorem dL_law_627 : decode cL_law 627 = .ok (.iaload, 1) := by decide +kernel
theorem dL_law_628 : decode cL_law 628 = .ok (.aload_n 0, 1) := by decide +kernel
theorem dL_law_629 : decode cL_law 629 = .ok (.iload_n 3, 1) := by decide +kernel
theorem dL_law_630 : decode cL_law 630 = .ok (.iconst 2, 1) := by decide +kernel
theorem dL_law_631 : decode cL_law 631 = .ok (.iadd, 1) := by decide +kernel
theorem dL_law_632 : decode cL_law 632 = .ok (.iaload, 1) := by decide +kernel
theorem dL_law_633 : decode cL_law 633 = .ok (.invokevirtual 65, 3) := by decide +kernel
theorem dL_law_636 : decode cL_law 636 = .ok (.aload_n 2, 1) := by decide +kernel
theorem dL_law_637 : decode cL_law 637 = .ok (.aload_n 0, 1) := by decide +kernel
theorem dL_law_638 : decode cL_law 638 = .ok (.iload_n 3, 1) := by decide +kernel
theorem dL_law_639 : decode cL_law 639 = .ok (.iconst 1, 1) := by decide +kernel
theorem dL_law_640 : decode cL_law 640 = .ok (.iadd, 1) := by decide +kernel
theorem dL_law_641 : decode cL_law 641 = .ok (.iaload, 1) := by decide +kernel
theorem dL_law_642 : decode cL_law 642 = .ok (.aload_n 0, 1) := by decide +kernel
theorem dL_law_643 : decode cL_law 643 = .ok (.iload_n 3, 1) := by decide +kernel
theorem dL_law_644 : decode cL_law 644 = .ok (.iconst 2, 1) := by decide +kernel
theorem dL_law_645 : decode cL_law 645 = .ok (.iadd, 1) := by decide +kernel
theorem dL_law_646 : decode cL_law 646 = .ok (.iaload, 1) := by decide +kernel
theorem dL_law_647 : decode cL_law 647 = .ok (.invokevirtual 68, 3) := by decide +kernel
theorem dL_law_650 : decode cL_law 650 = .ok (.if_icmp .eq 117, 3) := by decide +kernel
theorem dL_law_653 : decode cL_law 653 = .ok (.iconst 0, 1) := by decide +kernel
theorem dL_law_654 : decode cL_law 654 = .ok (.ireturn, 1) := by decide +kernel
theorem dL_law_655 : decode cL_law 655 = .ok (.aload_n 1, 1) := by decide +kernel
theorem dL_law_656 : decode cL_law 656 = .ok (.aload_n 0, 1) := by decide +kernel
theorem dL_law_657 : decode cL_law 657 = .ok (.iload_n 3, 1) := by decide +kernel
theorem dL_law_658 : decode cL_law 658 = .ok (.iconst 1, 1) := by decide +kernel
theorem dL_law_659 : decode cL_law 659 = .ok (.iadd, 1) := by decide +kernel
theorem dL_law_660 : decode cL_law 660 = .ok (.iaload, 1) := by decide +kernel
theorem dL_law_661 : decode cL_law 661 = .ok (.aload_n 0, 1) := by decide +kernel
theorem dL_law_662 : decode cL_law 662 = .ok (.iload_n 3, 1) := by decide +kernel
theorem dL_law_663 : decode cL_law 663 = .ok (.iconst 2, 1) := by decide +kernel
theorem dL_law_664 : decode cL_law 664 = .ok (.iadd, 1) := by decide +kernel
theorem dL_law_665 : decode cL_law 665 = .ok (.iaload, 1) := by decide +kernel
theorem dL_law_666 : decode cL_law 666 = .ok (.aload_n 0, 1) := by decide +kernel
theorem dL_law_667 : decode cL_law 667 = .ok (.iload_n 3, 1) := by decide +kernel
theorem dL_law_668 : decode cL_law 668 = .ok (.iconst 3, 1) := by decide +kernel
theorem dL_law_669 : decode cL_law 669 = .ok (.iadd, 1) := by decide +kernel
theorem dL_law_670 : decode cL_law 670 = .ok (.iaload, 1) := by decide +kernel
theorem dL_law_671 : decode cL_law 671 = .ok (.invokevirtual 69, 3) := by decide +kernel
theorem dL_law_674 : decode cL_law 674 = .ok (.aload_n 2, 1) := by decide +kernel
theorem dL_law_675 : decode cL_law 675 = .ok (.aload_n 0, 1) := by decide +kernel
theorem dL_law_676 : decode cL_law 676 = .ok (.iload_n 3, 1) := by decide +kernel
theorem dL_law_677 : decode cL_law 677 = .ok (.iconst 1, 1) := by decide +kernel
theorem dL_law_678 : decode cL_law 678 = .ok (.iadd, 1) := by decide +kernel
theorem dL_law_679 : decode cL_law 679 = .ok (.iaload, 1) := by decide +kernel
theorem dL_law_680 : decode cL_law 680 = .ok (.aload_n 0, 1) := by decide +kernel
theorem dL_law_681 : decode cL_law 681 = .ok (.iload_n 3, 1) := by decide +kernel
theorem dL_law_682 : decode cL_law 682 = .ok (.iconst 2, 1) := by decide +kernel
theorem dL_law_683 : decode cL_law 683 = .ok (.iadd, 1) := by decide +kernel
theorem dL_law_684 : decode cL_law 684 = .ok (.iaload, 1) := by decide +kernel
theorem dL_law_685 : decode cL_law 685 = .ok (.aload_n 0, 1) := by decide +kernel
theorem dL_law_686 : decode cL_law 686 = .ok (.iload_n 3, 1) := by decide +kernel
theorem dL_law_687 : decode cL_law 687 = .ok (.iconst 3, 1) := by decide +kernel
theorem dL_law_688 : decode cL_law 688 = .ok (.iadd, 1) := by decide +kernel
theorem dL_law_689 : decode cL_law 689 = .ok (.iaload, 1) := by decide +kernel
theorem dL_law_690 : decode cL_law 690 = .ok (.invokevirtual 72, 3) := by decide +kernel
theorem dL_law_693 : decode cL_law 693 = .ok (.if_icmp .eq 74, 3) := by decide +kernel
theorem dL_law_696 : decode cL_law 696 = .ok (.iconst 0, 1) := by decide +kernel
theorem dL_law_697 : decode cL_law 697 = .ok (.ireturn, 1) := by decide +kernel
theorem dL_law_698 : decode cL_law 698 = .ok (.aload_n 1, 1) := by decide +kernel
theorem dL_law_699 : decode cL_law 699 = .ok (.aload_n 0, 1) := by decide +kernel
theorem dL_law_700 : decode cL_law 700 = .ok (.iload_n 3, 1) := by decide +kernel
theorem dL_law_701 : decode cL_law 701 = .ok (.iconst 1, 1) := by decide +kernel
theorem dL_law_702 : decode cL_law 702 = .ok (.iadd, 1) := by decide +kernel
theorem dL_law_703 : decode cL_law 703 = .ok (.iaload, 1) := by decide +kernel
theorem dL_law_704 : decode cL_law 704 = .ok (.invokevirtual 73, 3) := by decide +kernel
theorem dL_law_707 : decode cL_law 707 = .ok (.aload_n 2, 1) := by decide +kernel
theorem dL_law_708 : decode cL_law 708 = .ok (.aload_n 0, 1) := by decide +kernel
theorem dL_law_709 : decode cL_law 709 = .ok (.iload_n 3, 1) := by decide +kernel
theorem dL_law_710 : decode cL_law 710 = .ok (.iconst 1, 1) := by decide +kernel
theorem dL_law_711 : decode cL_law 711 = .ok (.iadd, 1) := by decide +kernel
theorem dL_law_712 : decode cL_law 712 = .ok (.iaload, 1) := by decide +kernel
theorem dL_law_713 : decode cL_law 713 = .ok (.invokevirtual 76, 3) := by decide +kernel
theorem dL_law_716 : decode cL_law 716 = .ok (.if_icmp .eq 51, 3) := by decide +kernel
theorem dL_law_719 : decode cL_law 719 = .ok (.iconst 0, 1) := by decide +kernel
theorem dL_law_720 : decode cL_law 720 = .ok (.ireturn, 1) := by decide +kernel
theorem dL_law_721 : decode cL_law 721 = .ok (.aload_n 1, 1) := by decide +kernel
theorem dL_law_722 : decode cL_law 722 = .ok (.aload_n 0, 1) := by decide +kernel
theorem dL_law_723 : decode cL_law 723 = .ok (.iload_n 3, 1) := by decide +kernel
theorem dL_law_724 : decode cL_law 724 = .ok (.iconst 1, 1) := by decide +kernel
theorem dL_law_725 : decode cL_law 725 = .ok (.iadd, 1) := by decide +kernel
theorem dL_law_726 : decode cL_law 726 = .ok (.iaload, 1) := by decide +kernel
theorem dL_law_727 : decode cL_law 727 = .ok (.invokevirtual 77, 3) := by decide +kernel
theorem dL_law_730 : decode cL_law 730 = .ok (.aload_n 2, 1) := by decide +kernel
theorem dL_law_731 : decode cL_law 731 = .ok (.aload_n 0, 1) := by decide +kernel
theorem dL_law_732 : decode cL_law 732 = .ok (.iload_n 3, 1) := by decide +kernel
theorem dL_law_733 : decode cL_law 733 = .ok (.iconst 1, 1) := by decide +kernel
theorem dL_law_734 : decode cL_law 734 = .ok (.iadd, 1) := by decide +kernel
theorem dL_law_735 : decode cL_law 735 = .ok (.iaload, 1) := by decide +kernel
theorem dL_law_736 : decode cL_law 736 = .ok (.invokevirtual 80, 3) := by decide +kernel
theorem dL_law_739 : decode cL_law 739 = .ok (.if_icmp .eq 28, 3) := by decide +kernel
theorem dL_law_742 : decode cL_law 742 = .ok (.iconst 0, 1) := by decide +kernel
theorem dL_law_743 : decode cL_law 743 = .ok (.ireturn, 1) := by decide +kernel
theorem dL_law_744 : decode cL_law 744 = .ok (.aload_n 1, 1) := by decide +kernel
theorem dL_law_745 : decode cL_law 745 = .ok (.aload_n 0, 1) := by decide +kernel
theorem dL_law_746 : decode cL_law 746 = .ok (.iload_n 3, 1) := by decide +kernel
theorem dL_law_747 : decode cL_law 747 = .ok (.iconst 1, 1) := by decide +kernel
theorem dL_law_748 : decode cL_law 748 = .ok (.iadd, 1) := by decide +kernel
theorem dL_law_749 : decode cL_law 749 = .ok (.iaload, 1) := by decide +kernel
theorem dL_law_750 : decode cL_law 750 = .ok (.invokevirtual 81, 3) := by decide +kernel
theorem dL_law_753 : decode cL_law 753 = .ok (.aload_n 2, 1) := by decide +kernel
theorem dL_law_754 : decode cL_law 754 = .ok (.aload_n 0, 1) := by decide +kernel
theorem dL_law_755 : decode cL_law 755 = .ok (.iload_n 3, 1) := by decide +kernel
theorem dL_law_756 : decode cL_law 756 = .ok (.iconst 1, 1) := by decide +kernel
theorem dL_law_757 : decode cL_law 757 = .ok (.iadd, 1) := by decide +kernel
theorem dL_law_758 : decode cL_law 758 = .ok (.iaload, 1) := by decide +kernel
theorem dL_law_759 : decode cL_law 759 = .ok (.invokevirtual 84, 3) := by decide +kernel
theorem dL_law_762 : decode cL_law 762 = .ok (.if_icmp .eq 5, 3) := by decide +kernel
theorem dL_law_765 : decode cL_law 765 = .ok (.iconst 0, 1) := by decide +kernel
theorem dL_law_766 : decode cL_law 766 = .ok (.ireturn, 1) := by decide +kernel
theorem dL_law_767 : decode cL_law 767 = .ok (.iinc 3 5, 3) := by decide +kernel
theorem dL_law_770 : decode cL_law 770 = .ok (.goto (-752), 3) := by decide +kernel
theorem dL_law_773 : decode cL_law 773 = .ok (.iconst 1, 1) := by decide +kernel
theorem dL_law_774 : decode cL_law 774 = .ok (.ireturn, 1) := by decide +kernel
end
section
def MX0_init : ax_M := (yX0_init, cX0_init, 1, none, 1)
theorem KX0_init : ax_cw MX0_init 0 := ⟨ax_t 110 (by decide +kernel) rfl, ax_t 5 (by decide +kernel) rfl, ⟨by decide +kernel, by decide +kernel⟩, by decide +kernel, by decide⟩
theorem IX0_init : Cond.instanceMethod MX0_init.1 ∈ ax_tb := ax_t 109 (by decide +kernel) rfl
def MX0_has : ax_M := (yX0_has, cX0_has, 2, (some .boolean), 0)
theorem KX0_has : ax_cw MX0_has 1 := ⟨ax_t 181 (by decide +kernel) rfl, ax_t 5 (by decide +kernel) rfl, ⟨by decide +kernel, by decide +kernel⟩, by decide +kernel, by decide⟩
theorem IX0_has : Cond.instanceMethod MX0_has.1 ∈ ax_tb := ax_t 179 (by decide +kernel) rfl
theorem VX0_has : Cond.selects MX0_has.1.cls MX0_has.1 MX0_has.1 ∈ ax_tb := ax_t 180 (by decide +kernel) rfl
def MX0_all : ax_M := (yX0_all, cX0_all, 1, (some .int), 0)
theorem KX0_all : ax_cw MX0_all 0 := ⟨ax_t 202 (by decide +kernel) rfl, ax_t 5 (by decide +kernel) rfl, ⟨by decide +kernel, by decide +kernel⟩, by decide +kernel, by decide⟩
theorem IX0_all : Cond.instanceMethod MX0_all.1 ∈ ax_tb := ax_t 200 (by decide +kernel) rfl
theorem VX0_all : Cond.selects MX0_all.1.cls MX0_all.1 MX0_all.1 ∈ ax_tb := ax_t 201 (by decide +kernel) rfl
def MX0_find : ax_M := (yX0_find, cX0_find, 4, (some .int), 0)
theorem KX0_find : ax_cw MX0_find 2 := ⟨ax_t 169 (by decide +kernel) rfl, ax_t 5 (by decide +kernel) rfl, ⟨by decide +kernel, by decide +kernel⟩, by decide +kernel, by decide⟩
theorem IX0_find : Cond.instanceMethod MX0_find.1 ∈ ax_tb := ax_t 167 (by decide +kernel) rfl
theorem VX0_find : Cond.selects MX0_find.1.cls MX0_find.1 MX0_find.1 ∈ ax_tb := ax_t 168 (by decide +kernel) rfl
def MX0_append : ax_M := (yX0_append, cX0_append, 4, (some .int), 0)
theorem KX0_append : ax_cw MX0_append 3 := ⟨ax_t 173 (by decide +kernel) rfl, ax_t 5 (by decide +kernel) rfl, ⟨by decide +kernel, by decide +kernel⟩, by decide +kernel, by decide⟩
theorem IX0_append : Cond.instanceMethod MX0_append.1 ∈ ax_tb := ax_t 171 (by decide +kernel) rfl
theorem VX0_append : Cond.selects MX0_append.1.cls MX0_append.1 MX0_append.1 ∈ ax_tb := ax_t 172 (by decide +kernel) rfl
def MX0_remove : ax_M := (yX0_remove, cX0_remove, 3, none, 1)
theorem KX0_remove : ax_cw MX0_remove 1 := ⟨ax_t 185 (by decide +kernel) rfl, ax_t 5 (by decide +kernel) rfl, ⟨by decide +kernel, by decide +kernel⟩, by decide +kernel, by decide⟩
theorem IX0_remove : Cond.instanceMethod MX0_remove.1 ∈ ax_tb := ax_t 183 (by decide +kernel) rfl
theorem VX0_remove : Cond.selects MX0_remove.1.cls MX0_remove.1 MX0_remove.1 ∈ ax_tb := ax_t 184 (by decide +kernel) rfl
def MX0_copyFrom : ax_M := (yX0_copyFrom, cX0_copyFrom, 3, none, 0)
theorem KX0_copyFrom : ax_cw MX0_copyFrom 1 := ⟨ax_t 405 (by decide +kernel) rfl, ax_t 5 (by decide +kernel) rfl, ⟨by decide +kernel, by decide +kernel⟩, by decide +kernel, by decide⟩
theorem IX0_copyFrom : Cond.instanceMethod MX0_copyFrom.1 ∈ ax_tb := ax_t 403 (by decide +kernel) rfl
theorem VX0_copyFrom : Cond.selects MX0_copyFrom.1.cls MX0_copyFrom.1 MX0_copyFrom.1 ∈ ax_tb := ax_t 404 (by decide +kernel) rfl
def MX0_lowest : ax_M := (yX0_lowest, cX0_lowest, 8, (some .int), 0)
theorem KX0_lowest : ax_cw MX0_lowest 3 := ⟨ax_t 327 (by decide +kernel) rfl, ax_t 5 (by decide +kernel) rfl, ⟨by decide +kernel, by decide +kernel⟩, by decide +kernel, by decide⟩
theorem IX0_lowest : Cond.instanceMethod MX0_lowest.1 ∈ ax_tb := ax_t 325 (by decide +kernel) rfl
theorem VX0_lowest : Cond.selects MX0_lowest.1.cls MX0_lowest.1 MX0_lowest.1 ∈ ax_tb := ax_t 326 (by decide +kernel) rfl
def MX1_init : ax_M := (yX1_init, cX1_init, 1, none, 1)
theorem KX1_init : ax_cw MX1_init 0 := ⟨ax_t 55 (by decide +kernel) rfl, ax_t 4 (by decide +kernel) rfl, ⟨by decide +kernel, by decide +kernel⟩, by decide +kernel, by decide⟩
theorem IX1_init : Cond.instanceMethod MX1_init.1 ∈ ax_tb := ax_t 54 (by decide +kernel) rfl
def MX1_setSlope : ax_M := (yX1_setSlope, cX1_setSlope, 6, none, 1)
theorem KX1_setSlope : ax_cw MX1_setSlope 3 := ⟨ax_t 331 (by decide +kernel) rfl, ax_t 4 (by decide +kernel) rfl, ⟨by decide +kernel, by decide +kernel⟩, by decide +kernel, by decide⟩
theorem IX1_setSlope : Cond.instanceMethod MX1_setSlope.1 ∈ ax_tb := ax_t 329 (by decide +kernel) rfl
theorem VX1_setSlope : Cond.selects MX1_setSlope.1.cls MX1_setSlope.1 MX1_setSlope.1 ∈ ax_tb := ax_t 330 (by decide +kernel) rfl
def MX1_compareSlope : ax_M := (yX1_compareSlope, cX1_compareSlope, 3, (some .int), 1)
theorem KX1_compareSlope : ax_cw MX1_compareSlope 1 := ⟨ax_t 344 (by decide +kernel) rfl, ax_t 4 (by decide +kernel) rfl, ⟨by decide +kernel, by decide +kernel⟩, by decide +kernel, by decide⟩
theorem IX1_compareSlope : Cond.instanceMethod MX1_compareSlope.1 ∈ ax_tb := ax_t 342 (by decide +kernel) rfl
theorem VX1_compareSlope : Cond.selects MX1_compareSlope.1.cls MX1_compareSlope.1 MX1_compareSlope.1 ∈ ax_tb := ax_t 343 (by decide +kernel) rfl
def MX2_init : ax_M := (yX2_init, cX2_init, 2, none, 2)
theorem KX2_init : ax_cw MX2_init 0 := ⟨ax_t 48 (by decide +kernel) rfl, ax_t 3 (by decide +kernel) rfl, ⟨by decide +kernel, by decide +kernel⟩, by decide +kernel, by decide⟩
theorem IX2_init : Cond.instanceMethod MX2_init.1 ∈ ax_tb := ax_t 47 (by decide +kernel) rfl
def MX2_get : ax_M := (yX2_get, cX2_get, 2, (some (.object "MixedCells$Cell")), 0)
theorem KX2_get : ax_cw MX2_get 1 := ⟨ax_t 351 (by decide +kernel) rfl, ax_t 3 (by decide +kernel) rfl, ⟨by decide +kernel, by decide +kernel⟩, by decide +kernel, by decide⟩
theorem IX2_get : Cond.instanceMethod MX2_get.1 ∈ ax_tb := ax_t 349 (by decide +kernel) rfl
theorem VX2_get : Cond.selects MX2_get.1.cls MX2_get.1 MX2_get.1 ∈ ax_tb := ax_t 350 (by decide +kernel) rfl
def MX2_cut : ax_M := (yX2_cut, cX2_cut, 7, none, 4)
theorem KX2_cut : ax_cw MX2_cut 2 := ⟨ax_t 307 (by decide +kernel) rfl, ax_t 3 (by decide +kernel) rfl, ⟨by decide +kernel, by decide +kernel⟩, by decide +kernel, by decide⟩
theorem IX2_cut : Cond.instanceMethod MX2_cut.1 ∈ ax_tb := ax_t 305 (by decide +kernel) rfl
theorem VX2_cut : Cond.selects MX2_cut.1.cls MX2_cut.1 MX2_cut.1 ∈ ax_tb := ax_t 306 (by decide +kernel) rfl
def MX2_addPairs : ax_M := (yX2_addPairs, cX2_addPairs, 5, none, 0)
theorem KX2_addPairs : ax_cw MX2_addPairs 2 := ⟨ax_t 311 (by decide +kernel) rfl, ax_t 3 (by decide +kernel) rfl, ⟨by decide +kernel, by decide +kernel⟩, by decide +kernel, by decide⟩
theorem IX2_addPairs : Cond.instanceMethod MX2_addPairs.1 ∈ ax_tb := ax_t 310 (by decide +kernel) rfl
theorem VX2_addPairs : Cond.selects MX2_addPairs.1.cls MX2_addPairs.1 MX2_addPairs.1 ∈ ax_tb := ax_p 9 (by decide +kernel) rfl
def MX2_firstEnd : ax_M := (yX2_firstEnd, cX2_firstEnd, 2, (some .int), 1)
theorem KX2_firstEnd : ax_cw MX2_firstEnd 1 := ⟨ax_t 315 (by decide +kernel) rfl, ax_t 3 (by decide +kernel) rfl, ⟨by decide +kernel, by decide +kernel⟩, by decide +kernel, by decide⟩
theorem IX2_firstEnd : Cond.instanceMethod MX2_firstEnd.1 ∈ ax_tb := ax_t 314 (by decide +kernel) rfl
theorem VX2_firstEnd : Cond.selects MX2_firstEnd.1.cls MX2_firstEnd.1 MX2_firstEnd.1 ∈ ax_tb := ax_p 10 (by decide +kernel) rfl
def MX2_tryPairs : ax_M := (yX2_tryPairs, cX2_tryPairs, 14, none, 3)
theorem KX2_tryPairs : ax_cw MX2_tryPairs 4 := ⟨ax_t 323 (by decide +kernel) rfl, ax_t 3 (by decide +kernel) rfl, ⟨by decide +kernel, by decide +kernel⟩, by decide +kernel, by decide⟩
theorem IX2_tryPairs : Cond.instanceMethod MX2_tryPairs.1 ∈ ax_tb := ax_t 322 (by decide +kernel) rfl
theorem VX2_tryPairs : Cond.selects MX2_tryPairs.1.cls MX2_tryPairs.1 MX2_tryPairs.1 ∈ ax_tb := ax_p 11 (by decide +kernel) rfl
def MX2_sortIn : ax_M := (yX2_sortIn, cX2_sortIn, 5, none, 2)
theorem KX2_sortIn : ax_cw MX2_sortIn 1 := ⟨ax_t 340 (by decide +kernel) rfl, ax_t 3 (by decide +kernel) rfl, ⟨by decide +kernel, by decide +kernel⟩, by decide +kernel, by decide⟩
theorem IX2_sortIn : Cond.instanceMethod MX2_sortIn.1 ∈ ax_tb := ax_t 339 (by decide +kernel) rfl
theorem VX2_sortIn : Cond.selects MX2_sortIn.1.cls MX2_sortIn.1 MX2_sortIn.1 ∈ ax_tb := ax_p 12 (by decide +kernel) rfl
def MX3_init : ax_M := (yX3_init, cX3_init, 1, none, 1)
theorem KX3_init : ax_cw MX3_init 0 := ⟨ax_t 23 (by decide +kernel) rfl, ax_t 2 (by decide +kernel) rfl, ⟨by decide +kernel, by decide +kernel⟩, by decide +kernel, by decide⟩
theorem IX3_init : Cond.instanceMethod MX3_init.1 ∈ ax_tb := ax_t 22 (by decide +kernel) rfl
def MX3_gather : ax_M := (yX3_gather, cX3_gather, 4, (some (.object "MixedCells$Region")), 3)
theorem KX3_gather : ax_cw MX3_gather 2 := ⟨ax_t 206 (by decide +kernel) rfl, ax_t 2 (by decide +kernel) rfl, ⟨by decide +kernel, by decide +kernel⟩, by decide +kernel, by decide⟩
theorem IX3_gather : Cond.instanceMethod MX3_gather.1 ∈ ax_tb := ax_t 204 (by decide +kernel) rfl
theorem VX3_gather : Cond.selects MX3_gather.1.cls MX3_gather.1 MX3_gather.1 ∈ ax_tb := ax_t 205 (by decide +kernel) rfl
def MX3_gatherSums : ax_M := (yX3_gatherSums, cX3_gatherSums, 7, (some (.object "MixedCells$Region")), 3)
theorem KX3_gatherSums : ax_cw MX3_gatherSums 4 := ⟨ax_t 292 (by decide +kernel) rfl, ax_t 2 (by decide +kernel) rfl, ⟨by decide +kernel, by decide +kernel⟩, by decide +kernel, by decide⟩
theorem IX3_gatherSums : Cond.instanceMethod MX3_gatherSums.1 ∈ ax_tb := ax_t 290 (by decide +kernel) rfl
theorem VX3_gatherSums : Cond.selects MX3_gatherSums.1.cls MX3_gatherSums.1 MX3_gatherSums.1 ∈ ax_tb := ax_t 291 (by decide +kernel) rfl
def MX3_gatherFan : ax_M := (yX3_gatherFan, cX3_gatherFan, 6, (some (.object "MixedCells$Region")), 3)
theorem KX3_gatherFan : ax_cw MX3_gatherFan 1 := ⟨ax_t 381 (by decide +kernel) rfl, ax_t 2 (by decide +kernel) rfl, ⟨by decide +kernel, by decide +kernel⟩, by decide +kernel, by decide⟩
theorem IX3_gatherFan : Cond.instanceMethod MX3_gatherFan.1 ∈ ax_tb := ax_t 379 (by decide +kernel) rfl
theorem VX3_gatherFan : Cond.selects MX3_gatherFan.1.cls MX3_gatherFan.1 MX3_gatherFan.1 ∈ ax_tb := ax_t 380 (by decide +kernel) rfl
def MX3_include : ax_M := (yX3_include, cX3_include, 6, none, 1)
theorem KX3_include : ax_cw MX3_include 2 := ⟨ax_t 210 (by decide +kernel) rfl, ax_t 2 (by decide +kernel) rfl, ⟨by decide +kernel, by decide +kernel⟩, by decide +kernel, by decide⟩
theorem IX3_include : Cond.instanceMethod MX3_include.1 ∈ ax_tb := ax_t 209 (by decide +kernel) rfl
theorem VX3_include : Cond.selects MX3_include.1.cls MX3_include.1 MX3_include.1 ∈ ax_tb := ax_p 1 (by decide +kernel) rfl
def MX3_comesBehind : ax_M := (yX3_comesBehind, cX3_comesBehind, 4, (some .boolean), 0)
theorem KX3_comesBehind : ax_cw MX3_comesBehind 3 := ⟨ax_t 214 (by decide +kernel) rfl, ax_t 2 (by decide +kernel) rfl, ⟨by decide +kernel, by decide +kernel⟩, by decide +kernel, by decide⟩
theorem IX3_comesBehind : Cond.instanceMethod MX3_comesBehind.1 ∈ ax_tb := ax_t 213 (by decide +kernel) rfl
theorem VX3_comesBehind : Cond.selects MX3_comesBehind.1.cls MX3_comesBehind.1 MX3_comesBehind.1 ∈ ax_tb := ax_p 2 (by decide +kernel) rfl
def MX3_findCorners : ax_M := (yX3_findCorners, cX3_findCorners, 3, (some (.object "MixedCells$Region")), 2)
theorem KX3_findCorners : ax_cw MX3_findCorners 0 := ⟨ax_t 218 (by decide +kernel) rfl, ax_t 2 (by decide +kernel) rfl, ⟨by decide +kernel, by decide +kernel⟩, by decide +kernel, by decide⟩
theorem IX3_findCorners : Cond.instanceMethod MX3_findCorners.1 ∈ ax_tb := ax_t 217 (by decide +kernel) rfl
theorem VX3_findCorners : Cond.selects MX3_findCorners.1.cls MX3_findCorners.1 MX3_findCorners.1 ∈ ax_tb := ax_p 3 (by decide +kernel) rfl
def MX3_turnTo : ax_M := (yX3_turnTo, cX3_turnTo, 3, none, 1)
theorem KX3_turnTo : ax_cw MX3_turnTo 2 := ⟨ax_t 222 (by decide +kernel) rfl, ax_t 2 (by decide +kernel) rfl, ⟨by decide +kernel, by decide +kernel⟩, by decide +kernel, by decide⟩
theorem IX3_turnTo : Cond.instanceMethod MX3_turnTo.1 ∈ ax_tb := ax_t 221 (by decide +kernel) rfl
theorem VX3_turnTo : Cond.selects MX3_turnTo.1.cls MX3_turnTo.1 MX3_turnTo.1 ∈ ax_tb := ax_p 4 (by decide +kernel) rfl
def MX3_turnsLeft : ax_M := (yX3_turnsLeft, cX3_turnsLeft, 4, (some .boolean), 0)
theorem KX3_turnsLeft : ax_cw MX3_turnsLeft 3 := ⟨ax_t 226 (by decide +kernel) rfl, ax_t 2 (by decide +kernel) rfl, ⟨by decide +kernel, by decide +kernel⟩, by decide +kernel, by decide⟩
theorem IX3_turnsLeft : Cond.instanceMethod MX3_turnsLeft.1 ∈ ax_tb := ax_t 225 (by decide +kernel) rfl
theorem VX3_turnsLeft : Cond.selects MX3_turnsLeft.1.cls MX3_turnsLeft.1 MX3_turnsLeft.1 ∈ ax_tb := ax_p 5 (by decide +kernel) rfl
def MX3_hasCorner : ax_M := (yX3_hasCorner, cX3_hasCorner, 2, (some .boolean), 0)
theorem KX3_hasCorner : ax_cw MX3_hasCorner 1 := ⟨ax_t 242 (by decide +kernel) rfl, ax_t 2 (by decide +kernel) rfl, ⟨by decide +kernel, by decide +kernel⟩, by decide +kernel, by decide⟩
theorem IX3_hasCorner : Cond.instanceMethod MX3_hasCorner.1 ∈ ax_tb := ax_t 240 (by decide +kernel) rfl
theorem VX3_hasCorner : Cond.selects MX3_hasCorner.1.cls MX3_hasCorner.1 MX3_hasCorner.1 ∈ ax_tb := ax_t 241 (by decide +kernel) rfl
def MX3_cornerX : ax_M := (yX3_cornerX, cX3_cornerX, 2, (some .int), 1)
theorem KX3_cornerX : ax_cw MX3_cornerX 1 := ⟨ax_t 238 (by decide +kernel) rfl, ax_t 2 (by decide +kernel) rfl, ⟨by decide +kernel, by decide +kernel⟩, by decide +kernel, by decide⟩
theorem IX3_cornerX : Cond.instanceMethod MX3_cornerX.1 ∈ ax_tb := ax_t 236 (by decide +kernel) rfl
theorem VX3_cornerX : Cond.selects MX3_cornerX.1.cls MX3_cornerX.1 MX3_cornerX.1 ∈ ax_tb := ax_t 237 (by decide +kernel) rfl
def MX3_cornerY : ax_M := (yX3_cornerY, cX3_cornerY, 2, (some .int), 1)
theorem KX3_cornerY : ax_cw MX3_cornerY 1 := ⟨ax_t 246 (by decide +kernel) rfl, ax_t 2 (by decide +kernel) rfl, ⟨by decide +kernel, by decide +kernel⟩, by decide +kernel, by decide⟩
theorem IX3_cornerY : Cond.instanceMethod MX3_cornerY.1 ∈ ax_tb := ax_t 244 (by decide +kernel) rfl
theorem VX3_cornerY : Cond.selects MX3_cornerY.1.cls MX3_cornerY.1 MX3_cornerY.1 ∈ ax_tb := ax_t 245 (by decide +kernel) rfl
def MX3_next : ax_M := (yX3_next, cX3_next, 2, (some .int), 0)
theorem KX3_next : ax_cw MX3_next 1 := ⟨ax_t 234 (by decide +kernel) rfl, ax_t 2 (by decide +kernel) rfl, ⟨by decide +kernel, by decide +kernel⟩, by decide +kernel, by decide⟩
theorem IX3_next : Cond.instanceMethod MX3_next.1 ∈ ax_tb := ax_t 233 (by decide +kernel) rfl
theorem VX3_next : Cond.selects MX3_next.1.cls MX3_next.1 MX3_next.1 ∈ ax_tb := ax_p 6 (by decide +kernel) rfl
def MX3_area : ax_M := (yX3_area, cX3_area, 4, (some .int), 2)
theorem KX3_area : ax_cw MX3_area 0 := ⟨ax_t 230 (by decide +kernel) rfl, ax_t 2 (by decide +kernel) rfl, ⟨by decide +kernel, by decide +kernel⟩, by decide +kernel, by decide⟩
theorem IX3_area : Cond.instanceMethod MX3_area.1 ∈ ax_tb := ax_t 228 (by decide +kernel) rfl
theorem VX3_area : Cond.selects MX3_area.1.cls MX3_area.1 MX3_area.1 ∈ ax_tb := ax_t 229 (by decide +kernel) rfl
def MX3_span : ax_M := (yX3_span, cX3_span, 1, (some .int), 1)
theorem KX3_span : ax_cw MX3_span 0 := ⟨ax_t 270 (by decide +kernel) rfl, ax_t 2 (by decide +kernel) rfl, ⟨by decide +kernel, by decide +kernel⟩, by decide +kernel, by decide⟩
theorem IX3_span : Cond.instanceMethod MX3_span.1 ∈ ax_tb := ax_t 268 (by decide +kernel) rfl
theorem VX3_span : Cond.selects MX3_span.1.cls MX3_span.1 MX3_span.1 ∈ ax_tb := ax_t 269 (by decide +kernel) rfl
def MX3_stepsRound : ax_M := (yX3_stepsRound, cX3_stepsRound, 5, (some .int), 2)
theorem KX3_stepsRound : ax_cw MX3_stepsRound 0 := ⟨ax_t 255 (by decide +kernel) rfl, ax_t 2 (by decide +kernel) rfl, ⟨by decide +kernel, by decide +kernel⟩, by decide +kernel, by decide⟩
theorem IX3_stepsRound : Cond.instanceMethod MX3_stepsRound.1 ∈ ax_tb := ax_t 254 (by decide +kernel) rfl
theorem VX3_stepsRound : Cond.selects MX3_stepsRound.1.cls MX3_stepsRound.1 MX3_stepsRound.1 ∈ ax_tb := ax_p 7 (by decide +kernel) rfl
def MX3_wholePoints : ax_M := (yX3_wholePoints, cX3_wholePoints, 1, (some .int), 3)
theorem KX3_wholePoints : ax_cw MX3_wholePoints 0 := ⟨ax_t 250 (by decide +kernel) rfl, ax_t 2 (by decide +kernel) rfl, ⟨by decide +kernel, by decide +kernel⟩, by decide +kernel, by decide⟩
theorem IX3_wholePoints : Cond.instanceMethod MX3_wholePoints.1 ∈ ax_tb := ax_t 248 (by decide +kernel) rfl
theorem VX3_wholePoints : Cond.selects MX3_wholePoints.1.cls MX3_wholePoints.1 MX3_wholePoints.1 ∈ ax_tb := ax_t 249 (by decide +kernel) rfl
def MX3_rimPoints : ax_M := (yX3_rimPoints, cX3_rimPoints, 1, (some .int), 4)
theorem KX3_rimPoints : ax_cw MX3_rimPoints 0 := ⟨ax_t 265 (by decide +kernel) rfl, ax_t 2 (by decide +kernel) rfl, ⟨by decide +kernel, by decide +kernel⟩, by decide +kernel, by decide⟩
theorem IX3_rimPoints : Cond.instanceMethod MX3_rimPoints.1 ∈ ax_tb := ax_t 263 (by decide +kernel) rfl
theorem VX3_rimPoints : Cond.selects MX3_rimPoints.1.cls MX3_rimPoints.1 MX3_rimPoints.1 ∈ ax_tb := ax_t 264 (by decide +kernel) rfl
def MX4_init : ax_M := (yX4_init, cX4_init, 2, none, 3)
theorem KX4_init : ax_cw MX4_init 0 := ⟨ax_t 13 (by decide +kernel) rfl, ax_t 1 (by decide +kernel) rfl, ⟨by decide +kernel, by decide +kernel⟩, by decide +kernel, by decide⟩
theorem IX4_init : Cond.instanceMethod MX4_init.1 ∈ ax_tb := ax_t 12 (by decide +kernel) rfl
def MX4_put : ax_M := (yX4_put, cX4_put, 7, (some .int), 2)
theorem KX4_put : ax_cw MX4_put 4 := ⟨ax_t 158 (by decide +kernel) rfl, ax_t 1 (by decide +kernel) rfl, ⟨by decide +kernel, by decide +kernel⟩, by decide +kernel, by decide⟩
theorem IX4_put : Cond.instanceMethod MX4_put.1 ∈ ax_tb := ax_t 156 (by decide +kernel) rfl
theorem VX4_put : Cond.selects MX4_put.1.cls MX4_put.1 MX4_put.1 ∈ ax_tb := ax_t 157 (by decide +kernel) rfl
def MX4_take : ax_M := (yX4_take, cX4_take, 4, (some .int), 2)
theorem KX4_take : ax_cw MX4_take 2 := ⟨ax_t 177 (by decide +kernel) rfl, ax_t 1 (by decide +kernel) rfl, ⟨by decide +kernel, by decide +kernel⟩, by decide +kernel, by decide⟩
theorem IX4_take : Cond.instanceMethod MX4_take.1 ∈ ax_tb := ax_t 175 (by decide +kernel) rfl
theorem VX4_take : Cond.selects MX4_take.1.cls MX4_take.1 MX4_take.1 ∈ ax_tb := ax_t 176 (by decide +kernel) rfl
def MX4_clear : ax_M := (yX4_clear, cX4_clear, 4, (some .int), 2)
theorem KX4_clear : ax_cw MX4_clear 1 := ⟨ax_t 190 (by decide +kernel) rfl, ax_t 1 (by decide +kernel) rfl, ⟨by decide +kernel, by decide +kernel⟩, by decide +kernel, by decide⟩
theorem IX4_clear : Cond.instanceMethod MX4_clear.1 ∈ ax_tb := ax_t 188 (by decide +kernel) rfl
theorem VX4_clear : Cond.selects MX4_clear.1.cls MX4_clear.1 MX4_clear.1 ∈ ax_tb := ax_t 189 (by decide +kernel) rfl
def MX4_point : ax_M := (yX4_point, cX4_point, 5, (some .int), 2)
theorem KX4_point : ax_cw MX4_point 3 := ⟨ax_t 194 (by decide +kernel) rfl, ax_t 1 (by decide +kernel) rfl, ⟨by decide +kernel, by decide +kernel⟩, by decide +kernel, by decide⟩
theorem IX4_point : Cond.instanceMethod MX4_point.1 ∈ ax_tb := ax_t 192 (by decide +kernel) rfl
theorem VX4_point : Cond.selects MX4_point.1.cls MX4_point.1 MX4_point.1 ∈ ax_tb := ax_t 193 (by decide +kernel) rfl
def MX4_hull : ax_M := (yX4_hull, cX4_hull, 4, (some .int), 5)
theorem KX4_hull : ax_cw MX4_hull 2 := ⟨ax_t 198 (by decide +kernel) rfl, ax_t 1 (by decide +kernel) rfl, ⟨by decide +kernel, by decide +kernel⟩, by decide +kernel, by decide⟩
theorem IX4_hull : Cond.instanceMethod MX4_hull.1 ∈ ax_tb := ax_t 196 (by decide +kernel) rfl
theorem VX4_hull : Cond.selects MX4_hull.1.cls MX4_hull.1 MX4_hull.1 ∈ ax_tb := ax_t 197 (by decide +kernel) rfl
def MX4_corner : ax_M := (yX4_corner, cX4_corner, 4, (some .int), 4)
theorem KX4_corner : ax_cw MX4_corner 2 := ⟨ax_t 277 (by decide +kernel) rfl, ax_t 1 (by decide +kernel) rfl, ⟨by decide +kernel, by decide +kernel⟩, by decide +kernel, by decide⟩
theorem IX4_corner : Cond.instanceMethod MX4_corner.1 ∈ ax_tb := ax_t 275 (by decide +kernel) rfl
theorem VX4_corner : Cond.selects MX4_corner.1.cls MX4_corner.1 MX4_corner.1 ∈ ax_tb := ax_t 276 (by decide +kernel) rfl
def MX4_sum : ax_M := (yX4_sum, cX4_sum, 6, (some .int), 5)
theorem KX4_sum : ax_cw MX4_sum 3 := ⟨ax_t 284 (by decide +kernel) rfl, ax_t 1 (by decide +kernel) rfl, ⟨by decide +kernel, by decide +kernel⟩, by decide +kernel, by decide⟩
theorem IX4_sum : Cond.instanceMethod MX4_sum.1 ∈ ax_tb := ax_t 282 (by decide +kernel) rfl
theorem VX4_sum : Cond.selects MX4_sum.1.cls MX4_sum.1 MX4_sum.1 ∈ ax_tb := ax_t 283 (by decide +kernel) rfl
def MX4_sumCorner : ax_M := (yX4_sumCorner, cX4_sumCorner, 7, (some .int), 4)
theorem KX4_sumCorner : ax_cw MX4_sumCorner 4 := ⟨ax_t 296 (by decide +kernel) rfl, ax_t 1 (by decide +kernel) rfl, ⟨by decide +kernel, by decide +kernel⟩, by decide +kernel, by decide⟩
theorem IX4_sumCorner : Cond.instanceMethod MX4_sumCorner.1 ∈ ax_tb := ax_t 294 (by decide +kernel) rfl
theorem VX4_sumCorner : Cond.selects MX4_sumCorner.1.cls MX4_sumCorner.1 MX4_sumCorner.1 ∈ ax_tb := ax_t 295 (by decide +kernel) rfl
def MX4_cells : ax_M := (yX4_cells, cX4_cells, 8, (some .int), 6)
theorem KX4_cells : ax_cw MX4_cells 3 := ⟨ax_t 300 (by decide +kernel) rfl, ax_t 1 (by decide +kernel) rfl, ⟨by decide +kernel, by decide +kernel⟩, by decide +kernel, by decide⟩
theorem IX4_cells : Cond.instanceMethod MX4_cells.1 ∈ ax_tb := ax_t 298 (by decide +kernel) rfl
theorem VX4_cells : Cond.selects MX4_cells.1.cls MX4_cells.1 MX4_cells.1 ∈ ax_tb := ax_t 299 (by decide +kernel) rfl
def MX4_cell : ax_M := (yX4_cell, cX4_cell, 8, (some .int), 5)
theorem KX4_cell : ax_cw MX4_cell 4 := ⟨ax_t 363 (by decide +kernel) rfl, ax_t 1 (by decide +kernel) rfl, ⟨by decide +kernel, by decide +kernel⟩, by decide +kernel, by decide⟩
theorem IX4_cell : Cond.instanceMethod MX4_cell.1 ∈ ax_tb := ax_t 361 (by decide +kernel) rfl
theorem VX4_cell : Cond.selects MX4_cell.1.cls MX4_cell.1 MX4_cell.1 ∈ ax_tb := ax_t 362 (by decide +kernel) rfl
def MX4_slope : ax_M := (yX4_slope, cX4_slope, 8, (some .int), 5)
theorem KX4_slope : ax_cw MX4_slope 4 := ⟨ax_t 367 (by decide +kernel) rfl, ax_t 1 (by decide +kernel) rfl, ⟨by decide +kernel, by decide +kernel⟩, by decide +kernel, by decide⟩
theorem IX4_slope : Cond.instanceMethod MX4_slope.1 ∈ ax_tb := ax_t 365 (by decide +kernel) rfl
theorem VX4_slope : Cond.selects MX4_slope.1.cls MX4_slope.1 MX4_slope.1 ∈ ax_tb := ax_t 366 (by decide +kernel) rfl
def MX4_low : ax_M := (yX4_low, cX4_low, 5, (some .int), 2)
theorem KX4_low : ax_cw MX4_low 3 := ⟨ax_t 372 (by decide +kernel) rfl, ax_t 1 (by decide +kernel) rfl, ⟨by decide +kernel, by decide +kernel⟩, by decide +kernel, by decide⟩
theorem IX4_low : Cond.instanceMethod MX4_low.1 ∈ ax_tb := ax_t 370 (by decide +kernel) rfl
theorem VX4_low : Cond.selects MX4_low.1.cls MX4_low.1 MX4_low.1 ∈ ax_tb := ax_t 371 (by decide +kernel) rfl
def MX4_fan : ax_M := (yX4_fan, cX4_fan, 4, (some .int), 4)
theorem KX4_fan : ax_cw MX4_fan 2 := ⟨ax_t 377 (by decide +kernel) rfl, ax_t 1 (by decide +kernel) rfl, ⟨by decide +kernel, by decide +kernel⟩, by decide +kernel, by decide⟩
theorem IX4_fan : Cond.instanceMethod MX4_fan.1 ∈ ax_tb := ax_t 375 (by decide +kernel) rfl
theorem VX4_fan : Cond.selects MX4_fan.1.cls MX4_fan.1 MX4_fan.1 ∈ ax_tb := ax_t 376 (by decide +kernel) rfl
def MX4_roots : ax_M := (yX4_roots, cX4_roots, 9, (some .int), 2)
theorem KX4_roots : ax_cw MX4_roots 3 := ⟨ax_t 386 (by decide +kernel) rfl, ax_t 1 (by decide +kernel) rfl, ⟨by decide +kernel, by decide +kernel⟩, by decide +kernel, by decide⟩
theorem IX4_roots : Cond.instanceMethod MX4_roots.1 ∈ ax_tb := ax_t 384 (by decide +kernel) rfl
theorem VX4_roots : Cond.selects MX4_roots.1.cls MX4_roots.1 MX4_roots.1 ∈ ax_tb := ax_t 385 (by decide +kernel) rfl
def MX4_image : ax_M := (yX4_image, cX4_image, 3, (some .int), 1)
theorem KX4_image : ax_cw MX4_image 1 := ⟨ax_t 401 (by decide +kernel) rfl, ax_t 1 (by decide +kernel) rfl, ⟨by decide +kernel, by decide +kernel⟩, by decide +kernel, by decide⟩
theorem IX4_image : Cond.instanceMethod MX4_image.1 ∈ ax_tb := ax_t 399 (by decide +kernel) rfl
theorem VX4_image : Cond.selects MX4_image.1.cls MX4_image.1 MX4_image.1 ∈ ax_tb := ax_t 400 (by decide +kernel) rfl
def MX4_restore : ax_M := (yX4_restore, cX4_restore, 3, (some .int), 1)
theorem KX4_restore : ax_cw MX4_restore 1 := ⟨ax_t 409 (by decide +kernel) rfl, ax_t 1 (by decide +kernel) rfl, ⟨by decide +kernel, by decide +kernel⟩, by decide +kernel, by decide⟩
theorem IX4_restore : Cond.instanceMethod MX4_restore.1 ∈ ax_tb := ax_t 407 (by decide +kernel) rfl
theorem VX4_restore : Cond.selects MX4_restore.1.cls MX4_restore.1 MX4_restore.1 ∈ ax_tb := ax_t 408 (by decide +kernel) rfl
def MX4_count : ax_M := (yX4_count, cX4_count, 2, (some .int), 1)
theorem KX4_count : ax_cw MX4_count 1 := ⟨ax_t 413 (by decide +kernel) rfl, ax_t 1 (by decide +kernel) rfl, ⟨by decide +kernel, by decide +kernel⟩, by decide +kernel, by decide⟩
theorem IX4_count : Cond.instanceMethod MX4_count.1 ∈ ax_tb := ax_t 411 (by decide +kernel) rfl
theorem VX4_count : Cond.selects MX4_count.1.cls MX4_count.1 MX4_count.1 ∈ ax_tb := ax_t 412 (by decide +kernel) rfl
def MX4_bodyAt : ax_M := (yX4_bodyAt, cX4_bodyAt, 2, (some (.object "MixedCells$Body")), 1)
theorem KX4_bodyAt : ax_cw MX4_bodyAt 1 := ⟨ax_t 162 (by decide +kernel) rfl, ax_t 1 (by decide +kernel) rfl, ⟨by decide +kernel, by decide +kernel⟩, by decide +kernel, by decide⟩
theorem IX4_bodyAt : Cond.instanceMethod MX4_bodyAt.1 ∈ ax_tb := ax_t 161 (by decide +kernel) rfl
theorem VX4_bodyAt : Cond.selects MX4_bodyAt.1.cls MX4_bodyAt.1 MX4_bodyAt.1 ∈ ax_tb := ax_p 0 (by decide +kernel) rfl
def MX4_isWithin : ax_M := (yX4_isWithin, cX4_isWithin, 3, (some .boolean), 0)
theorem KX4_isWithin : ax_cw MX4_isWithin 3 := ⟨ax_t 165 (by decide +kernel) rfl, ax_t 1 (by decide +kernel) rfl, ⟨by decide +kernel, by decide +kernel⟩, by decide +kernel, by decide⟩
theorem SX4_isWithin : Cond.static MX4_isWithin.1 ∈ ax_tb := ax_t 164 (by decide +kernel) rfl
def MX4_isKindAsked : ax_M := (yX4_isKindAsked, cX4_isKindAsked, 1, (some .boolean), 0)
theorem KX4_isKindAsked : ax_cw MX4_isKindAsked 1 := ⟨ax_t 303 (by decide +kernel) rfl, ax_t 1 (by decide +kernel) rfl, ⟨by decide +kernel, by decide +kernel⟩, by decide +kernel, by decide⟩
theorem SX4_isKindAsked : Cond.static MX4_isKindAsked.1 ∈ ax_tb := ax_t 302 (by decide +kernel) rfl
def MX4_isSmallPrime : ax_M := (yX4_isSmallPrime, cX4_isSmallPrime, 1, (some .boolean), 0)
theorem KX4_isSmallPrime : ax_cw MX4_isSmallPrime 1 := ⟨ax_t 389 (by decide +kernel) rfl, ax_t 1 (by decide +kernel) rfl, ⟨by decide +kernel, by decide +kernel⟩, by decide +kernel, by decide⟩
theorem SX4_isSmallPrime : Cond.static MX4_isSmallPrime.1 ∈ ax_tb := ax_t 388 (by decide +kernel) rfl
def MX4_pointsOfAll : ax_M := (yX4_pointsOfAll, cX4_pointsOfAll, 3, (some .int), 0)
theorem KX4_pointsOfAll : ax_cw MX4_pointsOfAll 0 := ⟨ax_t 417 (by decide +kernel) rfl, ax_t 1 (by decide +kernel) rfl, ⟨by decide +kernel, by decide +kernel⟩, by decide +kernel, by decide⟩
theorem IX4_pointsOfAll : Cond.instanceMethod MX4_pointsOfAll.1 ∈ ax_tb := ax_t 416 (by decide +kernel) rfl
theorem VX4_pointsOfAll : Cond.selects MX4_pointsOfAll.1.cls MX4_pointsOfAll.1 MX4_pointsOfAll.1 ∈ ax_tb := ax_p 17 (by decide +kernel) rfl
def MX4_filledBodies : ax_M := (yX4_filledBodies, cX4_filledBodies, 3, (some .int), 0)
theorem KX4_filledBodies : ax_cw MX4_filledBodies 0 := ⟨ax_t 421 (by decide +kernel) rfl, ax_t 1 (by decide +kernel) rfl, ⟨by decide +kernel, by decide +kernel⟩, by decide +kernel, by decide⟩
theorem IX4_filledBodies : Cond.instanceMethod MX4_filledBodies.1 ∈ ax_tb := ax_t 420 (by decide +kernel) rfl
theorem VX4_filledBodies : Cond.selects MX4_filledBodies.1.cls MX4_filledBodies.1 MX4_filledBodies.1 ∈ ax_tb := ax_p 18 (by decide +kernel) rfl
def MX4_mixedOf : ax_M := (yX4_mixedOf, cX4_mixedOf, 6, (some .int), 4)
theorem KX4_mixedOf : ax_cw MX4_mixedOf 4 := ⟨ax_t 288 (by decide +kernel) rfl, ax_t 1 (by decide +kernel) rfl, ⟨by decide +kernel, by decide +kernel⟩, by decide +kernel, by decide⟩
theorem IX4_mixedOf : Cond.instanceMethod MX4_mixedOf.1 ∈ ax_tb := ax_t 287 (by decide +kernel) rfl
theorem VX4_mixedOf : Cond.selects MX4_mixedOf.1.cls MX4_mixedOf.1 MX4_mixedOf.1 ∈ ax_tb := ax_p 8 (by decide +kernel) rfl
def MX4_kindOf : ax_M := (yX4_kindOf, cX4_kindOf, 4, (some .int), 4)
theorem KX4_kindOf : ax_cw MX4_kindOf 3 := ⟨ax_t 359 (by decide +kernel) rfl, ax_t 1 (by decide +kernel) rfl, ⟨by decide +kernel, by decide +kernel⟩, by decide +kernel, by decide⟩
theorem IX4_kindOf : Cond.instanceMethod MX4_kindOf.1 ∈ ax_tb := ax_t 358 (by decide +kernel) rfl
theorem VX4_kindOf : Cond.selects MX4_kindOf.1.cls MX4_kindOf.1 MX4_kindOf.1 ∈ ax_tb := ax_p 14 (by decide +kernel) rfl
def MX4_shareOf : ax_M := (yX4_shareOf, cX4_shareOf, 5, (some .int), 5)
theorem KX4_shareOf : ax_cw MX4_shareOf 4 := ⟨ax_t 355 (by decide +kernel) rfl, ax_t 1 (by decide +kernel) rfl, ⟨by decide +kernel, by decide +kernel⟩, by decide +kernel, by decide⟩
theorem IX4_shareOf : Cond.instanceMethod MX4_shareOf.1 ∈ ax_tb := ax_t 354 (by decide +kernel) rfl
theorem VX4_shareOf : Cond.selects MX4_shareOf.1.cls MX4_shareOf.1 MX4_shareOf.1 ∈ ax_tb := ax_p 13 (by decide +kernel) rfl
def MX4_fillPowers : ax_M := (yX4_fillPowers, cX4_fillPowers, 4, none, 1)
theorem KX4_fillPowers : ax_cw MX4_fillPowers 1 := ⟨ax_t 393 (by decide +kernel) rfl, ax_t 1 (by decide +kernel) rfl, ⟨by decide +kernel, by decide +kernel⟩, by decide +kernel, by decide⟩
theorem IX4_fillPowers : Cond.instanceMethod MX4_fillPowers.1 ∈ ax_tb := ax_t 392 (by decide +kernel) rfl
theorem VX4_fillPowers : Cond.selects MX4_fillPowers.1.cls MX4_fillPowers.1 MX4_fillPowers.1 ∈ ax_tb := ax_p 15 (by decide +kernel) rfl
def MX4_isRoot : ax_M := (yX4_isRoot, cX4_isRoot, 7, (some .boolean), 1)
theorem KX4_isRoot : ax_cw MX4_isRoot 4 := ⟨ax_t 397 (by decide +kernel) rfl, ax_t 1 (by decide +kernel) rfl, ⟨by decide +kernel, by decide +kernel⟩, by decide +kernel, by decide⟩
theorem IX4_isRoot : Cond.instanceMethod MX4_isRoot.1 ∈ ax_tb := ax_t 396 (by decide +kernel) rfl
theorem VX4_isRoot : Cond.selects MX4_isRoot.1.cls MX4_isRoot.1 MX4_isRoot.1 ∈ ax_tb := ax_p 16 (by decide +kernel) rfl
def MX4_commonDivisor : ax_M := (yX4_commonDivisor, cX4_commonDivisor, 6, (some .int), 0)
theorem KX4_commonDivisor : ax_cw MX4_commonDivisor 2 := ⟨ax_t 261 (by decide +kernel) rfl, ax_t 1 (by decide +kernel) rfl, ⟨by decide +kernel, by decide +kernel⟩, by decide +kernel, by decide⟩
theorem SX4_commonDivisor : Cond.static MX4_commonDivisor.1 ∈ ax_tb := ax_t 260 (by decide +kernel) rfl
def MX5_init : ax_M := (yX5_init, cX5_init, 1, none, 1)
theorem KX5_init : ax_cw MX5_init 0 := ⟨ax_t 426 (by decide +kernel) rfl, ax_t 6 (by decide +kernel) rfl, ⟨by decide +kernel, by decide +kernel⟩, by decide +kernel, by decide⟩
theorem IX5_init : Cond.instanceMethod MX5_init.1 ∈ ax_tb := ax_t 425 (by decide +kernel) rfl
def MX5_in : ax_M := (yX5_in, cX5_in, 3, (some .boolean), 0)
theorem KX5_in : ax_cw MX5_in 3 := ⟨ax_t 481 (by decide +kernel) rfl, ax_t 6 (by decide +kernel) rfl, ⟨by decide +kernel, by decide +kernel⟩, by decide +kernel, by decide⟩
theorem SX5_in : Cond.static MX5_in.1 ∈ ax_tb := ax_t 480 (by decide +kernel) rfl
def MX5_isBody : ax_M := (yX5_isBody, cX5_isBody, 1, (some .boolean), 1)
theorem KX5_isBody : ax_cw MX5_isBody 1 := ⟨ax_t 478 (by decide +kernel) rfl, ax_t 6 (by decide +kernel) rfl, ⟨by decide +kernel, by decide +kernel⟩, by decide +kernel, by decide⟩
theorem SX5_isBody : Cond.static MX5_isBody.1 ∈ ax_tb := ax_t 477 (by decide +kernel) rfl
def MX5_has : ax_M := (yX5_has, cX5_has, 2, (some .boolean), 0)
theorem KX5_has : ax_cw MX5_has 2 := ⟨ax_t 515 (by decide +kernel) rfl, ax_t 6 (by decide +kernel) rfl, ⟨by decide +kernel, by decide +kernel⟩, by decide +kernel, by decide⟩
theorem SX5_has : Cond.static MX5_has.1 ∈ ax_tb := ax_t 514 (by decide +kernel) rfl
def MX5_many : ax_M := (yX5_many, cX5_many, 2, (some .int), 0)
theorem KX5_many : ax_cw MX5_many 1 := ⟨ax_t 485 (by decide +kernel) rfl, ax_t 6 (by decide +kernel) rfl, ⟨by decide +kernel, by decide +kernel⟩, by decide +kernel, by decide⟩
theorem IX5_many : Cond.instanceMethod MX5_many.1 ∈ ax_tb := ax_t 484 (by decide +kernel) rfl
theorem VX5_many : Cond.selects MX5_many.1.cls MX5_many.1 MX5_many.1 ∈ ax_tb := ax_p 19 (by decide +kernel) rfl
def MX5_at : ax_M := (yX5_at, cX5_at, 3, (some .int), 0)
theorem KX5_at : ax_cw MX5_at 3 := ⟨ax_t 492 (by decide +kernel) rfl, ax_t 6 (by decide +kernel) rfl, ⟨by decide +kernel, by decide +kernel⟩, by decide +kernel, by decide⟩
theorem SX5_at : Cond.static MX5_at.1 ∈ ax_tb := ax_t 491 (by decide +kernel) rfl
def MX5_of : ax_M := (yX5_of, cX5_of, 4, (some .int), 1)
theorem KX5_of : ax_cw MX5_of 3 := ⟨ax_t 489 (by decide +kernel) rfl, ax_t 6 (by decide +kernel) rfl, ⟨by decide +kernel, by decide +kernel⟩, by decide +kernel, by decide⟩
theorem IX5_of : Cond.instanceMethod MX5_of.1 ∈ ax_tb := ax_t 488 (by decide +kernel) rfl
theorem VX5_of : Cond.selects MX5_of.1.cls MX5_of.1 MX5_of.1 ∈ ax_tb := ax_p 20 (by decide +kernel) rfl
def MX5_put : ax_M := (yX5_put, cX5_put, 6, (some .int), 2)
theorem KX5_put : ax_cw MX5_put 4 := ⟨ax_t 475 (by decide +kernel) rfl, ax_t 6 (by decide +kernel) rfl, ⟨by decide +kernel, by decide +kernel⟩, by decide +kernel, by decide⟩
theorem IX5_put : Cond.instanceMethod MX5_put.1 ∈ ax_tb := ax_t 473 (by decide +kernel) rfl
theorem VX5_put : Cond.selects MX5_put.1.cls MX5_put.1 MX5_put.1 ∈ ax_tb := ax_t 474 (by decide +kernel) rfl
def MX5_take : ax_M := (yX5_take, cX5_take, 4, (some .int), 2)
theorem KX5_take : ax_cw MX5_take 2 := ⟨ax_t 496 (by decide +kernel) rfl, ax_t 6 (by decide +kernel) rfl, ⟨by decide +kernel, by decide +kernel⟩, by decide +kernel, by decide⟩
theorem IX5_take : Cond.instanceMethod MX5_take.1 ∈ ax_tb := ax_t 494 (by decide +kernel) rfl
theorem VX5_take : Cond.selects MX5_take.1.cls MX5_take.1 MX5_take.1 ∈ ax_tb := ax_t 495 (by decide +kernel) rfl
def MX5_clear : ax_M := (yX5_clear, cX5_clear, 3, (some .int), 2)
theorem KX5_clear : ax_cw MX5_clear 1 := ⟨ax_t 500 (by decide +kernel) rfl, ax_t 6 (by decide +kernel) rfl, ⟨by decide +kernel, by decide +kernel⟩, by decide +kernel, by decide⟩
theorem IX5_clear : Cond.instanceMethod MX5_clear.1 ∈ ax_tb := ax_t 498 (by decide +kernel) rfl
theorem VX5_clear : Cond.selects MX5_clear.1.cls MX5_clear.1 MX5_clear.1 ∈ ax_tb := ax_t 499 (by decide +kernel) rfl
def MX5_point : ax_M := (yX5_point, cX5_point, 4, (some .int), 2)
theorem KX5_point : ax_cw MX5_point 3 := ⟨ax_t 504 (by decide +kernel) rfl, ax_t 6 (by decide +kernel) rfl, ⟨by decide +kernel, by decide +kernel⟩, by decide +kernel, by decide⟩
theorem IX5_point : Cond.instanceMethod MX5_point.1 ∈ ax_tb := ax_t 502 (by decide +kernel) rfl
theorem VX5_point : Cond.selects MX5_point.1.cls MX5_point.1 MX5_point.1 ∈ ax_tb := ax_t 503 (by decide +kernel) rfl
def MX5_addPoint : ax_M := (yX5_addPoint, cX5_addPoint, 4, none, 0)
theorem KX5_addPoint : ax_cw MX5_addPoint 2 := ⟨ax_t 519 (by decide +kernel) rfl, ax_t 6 (by decide +kernel) rfl, ⟨by decide +kernel, by decide +kernel⟩, by decide +kernel, by decide⟩
theorem IX5_addPoint : Cond.instanceMethod MX5_addPoint.1 ∈ ax_tb := ax_t 518 (by decide +kernel) rfl
theorem VX5_addPoint : Cond.selects MX5_addPoint.1.cls MX5_addPoint.1 MX5_addPoint.1 ∈ ax_tb := ax_p 22 (by decide +kernel) rfl
def MX5_turn : ax_M := (yX5_turn, cX5_turn, 4, (some .int), 0)
theorem KX5_turn : ax_cw MX5_turn 3 := ⟨ax_t 531 (by decide +kernel) rfl, ax_t 6 (by decide +kernel) rfl, ⟨by decide +kernel, by decide +kernel⟩, by decide +kernel, by decide⟩
theorem IX5_turn : Cond.instanceMethod MX5_turn.1 ∈ ax_tb := ax_t 530 (by decide +kernel) rfl
theorem VX5_turn : Cond.selects MX5_turn.1.cls MX5_turn.1 MX5_turn.1 ∈ ax_tb := ax_p 25 (by decide +kernel) rfl
def MX5_far : ax_M := (yX5_far, cX5_far, 3, (some .int), 0)
theorem KX5_far : ax_cw MX5_far 2 := ⟨ax_t 535 (by decide +kernel) rfl, ax_t 6 (by decide +kernel) rfl, ⟨by decide +kernel, by decide +kernel⟩, by decide +kernel, by decide⟩
theorem IX5_far : Cond.instanceMethod MX5_far.1 ∈ ax_tb := ax_t 534 (by decide +kernel) rfl
theorem VX5_far : Cond.selects MX5_far.1.cls MX5_far.1 MX5_far.1 ∈ ax_tb := ax_p 26 (by decide +kernel) rfl
def MX5_nextCorner : ax_M := (yX5_nextCorner, cX5_nextCorner, 5, (some .int), 1)
theorem KX5_nextCorner : ax_cw MX5_nextCorner 1 := ⟨ax_t 527 (by decide +kernel) rfl, ax_t 6 (by decide +kernel) rfl, ⟨by decide +kernel, by decide +kernel⟩, by decide +kernel, by decide⟩
theorem IX5_nextCorner : Cond.instanceMethod MX5_nextCorner.1 ∈ ax_tb := ax_t 526 (by decide +kernel) rfl
theorem VX5_nextCorner : Cond.selects MX5_nextCorner.1.cls MX5_nextCorner.1 MX5_nextCorner.1 ∈ ax_tb := ax_p 24 (by decide +kernel) rfl
def MX5_layCorners : ax_M := (yX5_layCorners, cX5_layCorners, 3, none, 2)
theorem KX5_layCorners : ax_cw MX5_layCorners 0 := ⟨ax_t 523 (by decide +kernel) rfl, ax_t 6 (by decide +kernel) rfl, ⟨by decide +kernel, by decide +kernel⟩, by decide +kernel, by decide⟩
theorem IX5_layCorners : Cond.instanceMethod MX5_layCorners.1 ∈ ax_tb := ax_t 522 (by decide +kernel) rfl
theorem VX5_layCorners : Cond.selects MX5_layCorners.1.cls MX5_layCorners.1 MX5_layCorners.1 ∈ ax_tb := ax_p 23 (by decide +kernel) rfl
def MX5_area : ax_M := (yX5_area, cX5_area, 5, (some .int), 0)
theorem KX5_area : ax_cw MX5_area 0 := ⟨ax_t 539 (by decide +kernel) rfl, ax_t 6 (by decide +kernel) rfl, ⟨by decide +kernel, by decide +kernel⟩, by decide +kernel, by decide⟩
theorem IX5_area : Cond.instanceMethod MX5_area.1 ∈ ax_tb := ax_t 538 (by decide +kernel) rfl
theorem VX5_area : Cond.selects MX5_area.1.cls MX5_area.1 MX5_area.1 ∈ ax_tb := ax_p 27 (by decide +kernel) rfl
def MX5_span : ax_M := (yX5_span, cX5_span, 1, (some .int), 0)
theorem KX5_span : ax_cw MX5_span 0 := ⟨ax_t 551 (by decide +kernel) rfl, ax_t 6 (by decide +kernel) rfl, ⟨by decide +kernel, by decide +kernel⟩, by decide +kernel, by decide⟩
theorem IX5_span : Cond.instanceMethod MX5_span.1 ∈ ax_tb := ax_t 550 (by decide +kernel) rfl
theorem VX5_span : Cond.selects MX5_span.1.cls MX5_span.1 MX5_span.1 ∈ ax_tb := ax_p 30 (by decide +kernel) rfl
def MX5_layBody : ax_M := (yX5_layBody, cX5_layBody, 4, none, 3)
theorem KX5_layBody : ax_cw MX5_layBody 2 := ⟨ax_t 512 (by decide +kernel) rfl, ax_t 6 (by decide +kernel) rfl, ⟨by decide +kernel, by decide +kernel⟩, by decide +kernel, by decide⟩
theorem IX5_layBody : Cond.instanceMethod MX5_layBody.1 ∈ ax_tb := ax_t 511 (by decide +kernel) rfl
theorem VX5_layBody : Cond.selects MX5_layBody.1.cls MX5_layBody.1 MX5_layBody.1 ∈ ax_tb := ax_p 21 (by decide +kernel) rfl
def MX5_laySums : ax_M := (yX5_laySums, cX5_laySums, 7, none, 3)
theorem KX5_laySums : ax_cw MX5_laySums 4 := ⟨ax_t 567 (by decide +kernel) rfl, ax_t 6 (by decide +kernel) rfl, ⟨by decide +kernel, by decide +kernel⟩, by decide +kernel, by decide⟩
theorem IX5_laySums : Cond.instanceMethod MX5_laySums.1 ∈ ax_tb := ax_t 566 (by decide +kernel) rfl
theorem VX5_laySums : Cond.selects MX5_laySums.1.cls MX5_laySums.1 MX5_laySums.1 ∈ ax_tb := ax_p 32 (by decide +kernel) rfl
def MX5_lies : ax_M := (yX5_lies, cX5_lies, 9, (some .int), 0)
theorem KX5_lies : ax_cw MX5_lies 2 := ⟨ax_t 547 (by decide +kernel) rfl, ax_t 6 (by decide +kernel) rfl, ⟨by decide +kernel, by decide +kernel⟩, by decide +kernel, by decide⟩
theorem IX5_lies : Cond.instanceMethod MX5_lies.1 ∈ ax_tb := ax_t 546 (by decide +kernel) rfl
theorem VX5_lies : Cond.selects MX5_lies.1.cls MX5_lies.1 MX5_lies.1 ∈ ax_tb := ax_p 29 (by decide +kernel) rfl
def MX5_lattice : ax_M := (yX5_lattice, cX5_lattice, 6, (some .int), 1)
theorem KX5_lattice : ax_cw MX5_lattice 1 := ⟨ax_t 543 (by decide +kernel) rfl, ax_t 6 (by decide +kernel) rfl, ⟨by decide +kernel, by decide +kernel⟩, by decide +kernel, by decide⟩
theorem IX5_lattice : Cond.instanceMethod MX5_lattice.1 ∈ ax_tb := ax_t 542 (by decide +kernel) rfl
theorem VX5_lattice : Cond.selects MX5_lattice.1.cls MX5_lattice.1 MX5_lattice.1 ∈ ax_tb := ax_p 28 (by decide +kernel) rfl
def MX5_hull : ax_M := (yX5_hull, cX5_hull, 3, (some .int), 4)
theorem KX5_hull : ax_cw MX5_hull 2 := ⟨ax_t 508 (by decide +kernel) rfl, ax_t 6 (by decide +kernel) rfl, ⟨by decide +kernel, by decide +kernel⟩, by decide +kernel, by decide⟩
theorem IX5_hull : Cond.instanceMethod MX5_hull.1 ∈ ax_tb := ax_t 506 (by decide +kernel) rfl
theorem VX5_hull : Cond.selects MX5_hull.1.cls MX5_hull.1 MX5_hull.1 ∈ ax_tb := ax_t 507 (by decide +kernel) rfl
def MX5_corner : ax_M := (yX5_corner, cX5_corner, 3, (some .int), 4)
theorem KX5_corner : ax_cw MX5_corner 2 := ⟨ax_t 555 (by decide +kernel) rfl, ax_t 6 (by decide +kernel) rfl, ⟨by decide +kernel, by decide +kernel⟩, by decide +kernel, by decide⟩
theorem IX5_corner : Cond.instanceMethod MX5_corner.1 ∈ ax_tb := ax_t 553 (by decide +kernel) rfl
theorem VX5_corner : Cond.selects MX5_corner.1.cls MX5_corner.1 MX5_corner.1 ∈ ax_tb := ax_t 554 (by decide +kernel) rfl
def MX5_areaOf : ax_M := (yX5_areaOf, cX5_areaOf, 3, (some .int), 4)
theorem KX5_areaOf : ax_cw MX5_areaOf 2 := ⟨ax_t 571 (by decide +kernel) rfl, ax_t 6 (by decide +kernel) rfl, ⟨by decide +kernel, by decide +kernel⟩, by decide +kernel, by decide⟩
theorem IX5_areaOf : Cond.instanceMethod MX5_areaOf.1 ∈ ax_tb := ax_t 570 (by decide +kernel) rfl
theorem VX5_areaOf : Cond.selects MX5_areaOf.1.cls MX5_areaOf.1 MX5_areaOf.1 ∈ ax_tb := ax_p 33 (by decide +kernel) rfl
def MX5_areaOfSums : ax_M := (yX5_areaOfSums, cX5_areaOfSums, 5, (some .int), 4)
theorem KX5_areaOfSums : ax_cw MX5_areaOfSums 4 := ⟨ax_t 563 (by decide +kernel) rfl, ax_t 6 (by decide +kernel) rfl, ⟨by decide +kernel, by decide +kernel⟩, by decide +kernel, by decide⟩
theorem IX5_areaOfSums : Cond.instanceMethod MX5_areaOfSums.1 ∈ ax_tb := ax_t 562 (by decide +kernel) rfl
theorem VX5_areaOfSums : Cond.selects MX5_areaOfSums.1.cls MX5_areaOfSums.1 MX5_areaOfSums.1 ∈ ax_tb := ax_p 31 (by decide +kernel) rfl
def MX5_sum : ax_M := (yX5_sum, cX5_sum, 4, (some .int), 5)
theorem KX5_sum : ax_cw MX5_sum 3 := ⟨ax_t 559 (by decide +kernel) rfl, ax_t 6 (by decide +kernel) rfl, ⟨by decide +kernel, by decide +kernel⟩, by decide +kernel, by decide⟩
theorem IX5_sum : Cond.instanceMethod MX5_sum.1 ∈ ax_tb := ax_t 557 (by decide +kernel) rfl
theorem VX5_sum : Cond.selects MX5_sum.1.cls MX5_sum.1 MX5_sum.1 ∈ ax_tb := ax_t 558 (by decide +kernel) rfl
def MX5_sumCorner : ax_M := (yX5_sumCorner, cX5_sumCorner, 5, (some .int), 4)
theorem KX5_sumCorner : ax_cw MX5_sumCorner 4 := ⟨ax_t 575 (by decide +kernel) rfl, ax_t 6 (by decide +kernel) rfl, ⟨by decide +kernel, by decide +kernel⟩, by decide +kernel, by decide⟩
theorem IX5_sumCorner : Cond.instanceMethod MX5_sumCorner.1 ∈ ax_tb := ax_t 573 (by decide +kernel) rfl
theorem VX5_sumCorner : Cond.selects MX5_sumCorner.1.cls MX5_sumCorner.1 MX5_sumCorner.1 ∈ ax_tb := ax_t 574 (by decide +kernel) rfl
def MX5_lowBy : ax_M := (yX5_lowBy, cX5_lowBy, 9, (some .int), 2)
theorem KX5_lowBy : ax_cw MX5_lowBy 4 := ⟨ax_t 598 (by decide +kernel) rfl, ax_t 6 (by decide +kernel) rfl, ⟨by decide +kernel, by decide +kernel⟩, by decide +kernel, by decide⟩
theorem IX5_lowBy : Cond.instanceMethod MX5_lowBy.1 ∈ ax_tb := ax_t 597 (by decide +kernel) rfl
theorem VX5_lowBy : Cond.selects MX5_lowBy.1.cls MX5_lowBy.1 MX5_lowBy.1 ∈ ax_tb := ax_p 37 (by decide +kernel) rfl
def MX5_compare : ax_M := (yX5_compare, cX5_compare, 6, (some .int), 0)
theorem KX5_compare : ax_cw MX5_compare 4 := ⟨ax_t 610 (by decide +kernel) rfl, ax_t 6 (by decide +kernel) rfl, ⟨by decide +kernel, by decide +kernel⟩, by decide +kernel, by decide⟩
theorem IX5_compare : Cond.instanceMethod MX5_compare.1 ∈ ax_tb := ax_t 609 (by decide +kernel) rfl
theorem VX5_compare : Cond.selects MX5_compare.1.cls MX5_compare.1 MX5_compare.1 ∈ ax_tb := ax_p 40 (by decide +kernel) rfl
def MX5_addCell : ax_M := (yX5_addCell, cX5_addCell, 6, none, 1)
theorem KX5_addCell : ax_cw MX5_addCell 3 := ⟨ax_t 606 (by decide +kernel) rfl, ax_t 6 (by decide +kernel) rfl, ⟨by decide +kernel, by decide +kernel⟩, by decide +kernel, by decide⟩
theorem IX5_addCell : Cond.instanceMethod MX5_addCell.1 ∈ ax_tb := ax_t 605 (by decide +kernel) rfl
theorem VX5_addCell : Cond.selects MX5_addCell.1.cls MX5_addCell.1 MX5_addCell.1 ∈ ax_tb := ax_p 39 (by decide +kernel) rfl
def MX5_tryThree : ax_M := (yX5_tryThree, cX5_tryThree, 18, none, 3)
theorem KX5_tryThree : ax_cw MX5_tryThree 5 := ⟨ax_t 590 (by decide +kernel) rfl, ax_t 6 (by decide +kernel) rfl, ⟨by decide +kernel, by decide +kernel⟩, by decide +kernel, by decide⟩
theorem IX5_tryThree : Cond.instanceMethod MX5_tryThree.1 ∈ ax_tb := ax_t 589 (by decide +kernel) rfl
theorem VX5_tryThree : Cond.selects MX5_tryThree.1.cls MX5_tryThree.1 MX5_tryThree.1 ∈ ax_tb := ax_p 35 (by decide +kernel) rfl
def MX5_sumOf : ax_M := (yX5_sumOf, cX5_sumOf, 5, (some .int), 2)
theorem KX5_sumOf : ax_cw MX5_sumOf 4 := ⟨ax_t 594 (by decide +kernel) rfl, ax_t 6 (by decide +kernel) rfl, ⟨by decide +kernel, by decide +kernel⟩, by decide +kernel, by decide⟩
theorem IX5_sumOf : Cond.instanceMethod MX5_sumOf.1 ∈ ax_tb := ax_t 593 (by decide +kernel) rfl
theorem VX5_sumOf : Cond.selects MX5_sumOf.1.cls MX5_sumOf.1 MX5_sumOf.1 ∈ ax_tb := ax_p 36 (by decide +kernel) rfl
def MX5_isLow : ax_M := (yX5_isLow, cX5_isLow, 4, (some .boolean), 1)
theorem KX5_isLow : ax_cw MX5_isLow 3 := ⟨ax_t 602 (by decide +kernel) rfl, ax_t 6 (by decide +kernel) rfl, ⟨by decide +kernel, by decide +kernel⟩, by decide +kernel, by decide⟩
theorem IX5_isLow : Cond.instanceMethod MX5_isLow.1 ∈ ax_tb := ax_t 601 (by decide +kernel) rfl
theorem VX5_isLow : Cond.selects MX5_isLow.1.cls MX5_isLow.1 MX5_isLow.1 ∈ ax_tb := ax_p 38 (by decide +kernel) rfl
def MX5_layCells : ax_M := (yX5_layCells, cX5_layCells, 7, none, 4)
theorem KX5_layCells : ax_cw MX5_layCells 2 := ⟨ax_t 586 (by decide +kernel) rfl, ax_t 6 (by decide +kernel) rfl, ⟨by decide +kernel, by decide +kernel⟩, by decide +kernel, by decide⟩
theorem IX5_layCells : Cond.instanceMethod MX5_layCells.1 ∈ ax_tb := ax_t 585 (by decide +kernel) rfl
theorem VX5_layCells : Cond.selects MX5_layCells.1.cls MX5_layCells.1 MX5_layCells.1 ∈ ax_tb := ax_p 34 (by decide +kernel) rfl
def MX5_lowOf : ax_M := (yX5_lowOf, cX5_lowOf, 3, (some .int), 3)
theorem KX5_lowOf : ax_cw MX5_lowOf 2 := ⟨ax_t 618 (by decide +kernel) rfl, ax_t 6 (by decide +kernel) rfl, ⟨by decide +kernel, by decide +kernel⟩, by decide +kernel, by decide⟩
theorem IX5_lowOf : Cond.instanceMethod MX5_lowOf.1 ∈ ax_tb := ax_t 617 (by decide +kernel) rfl
theorem VX5_lowOf : Cond.selects MX5_lowOf.1.cls MX5_lowOf.1 MX5_lowOf.1 ∈ ax_tb := ax_p 42 (by decide +kernel) rfl
def MX5_spanOf : ax_M := (yX5_spanOf, cX5_spanOf, 3, (some .int), 4)
theorem KX5_spanOf : ax_cw MX5_spanOf 2 := ⟨ax_t 630 (by decide +kernel) rfl, ax_t 6 (by decide +kernel) rfl, ⟨by decide +kernel, by decide +kernel⟩, by decide +kernel, by decide⟩
theorem IX5_spanOf : Cond.instanceMethod MX5_spanOf.1 ∈ ax_tb := ax_t 629 (by decide +kernel) rfl
theorem VX5_spanOf : Cond.selects MX5_spanOf.1.cls MX5_spanOf.1 MX5_spanOf.1 ∈ ax_tb := ax_p 45 (by decide +kernel) rfl
def MX5_kindOf : ax_M := (yX5_kindOf, cX5_kindOf, 4, (some .int), 5)
theorem KX5_kindOf : ax_cw MX5_kindOf 3 := ⟨ax_t 626 (by decide +kernel) rfl, ax_t 6 (by decide +kernel) rfl, ⟨by decide +kernel, by decide +kernel⟩, by decide +kernel, by decide⟩
theorem IX5_kindOf : Cond.instanceMethod MX5_kindOf.1 ∈ ax_tb := ax_t 625 (by decide +kernel) rfl
theorem VX5_kindOf : Cond.selects MX5_kindOf.1.cls MX5_kindOf.1 MX5_kindOf.1 ∈ ax_tb := ax_p 44 (by decide +kernel) rfl
def MX5_cellArea : ax_M := (yX5_cellArea, cX5_cellArea, 4, (some .int), 5)
theorem KX5_cellArea : ax_cw MX5_cellArea 3 := ⟨ax_t 614 (by decide +kernel) rfl, ax_t 6 (by decide +kernel) rfl, ⟨by decide +kernel, by decide +kernel⟩, by decide +kernel, by decide⟩
theorem IX5_cellArea : Cond.instanceMethod MX5_cellArea.1 ∈ ax_tb := ax_t 613 (by decide +kernel) rfl
theorem VX5_cellArea : Cond.selects MX5_cellArea.1.cls MX5_cellArea.1 MX5_cellArea.1 ∈ ax_tb := ax_p 41 (by decide +kernel) rfl
def MX5_cellMixed : ax_M := (yX5_cellMixed, cX5_cellMixed, 4, (some .int), 6)
theorem KX5_cellMixed : ax_cw MX5_cellMixed 3 := ⟨ax_t 622 (by decide +kernel) rfl, ax_t 6 (by decide +kernel) rfl, ⟨by decide +kernel, by decide +kernel⟩, by decide +kernel, by decide⟩
theorem IX5_cellMixed : Cond.instanceMethod MX5_cellMixed.1 ∈ ax_tb := ax_t 621 (by decide +kernel) rfl
theorem VX5_cellMixed : Cond.selects MX5_cellMixed.1.cls MX5_cellMixed.1 MX5_cellMixed.1 ∈ ax_tb := ax_p 43 (by decide +kernel) rfl
def MX5_isKind : ax_M := (yX5_isKind, cX5_isKind, 1, (some .boolean), 1)
theorem KX5_isKind : ax_cw MX5_isKind 1 := ⟨ax_t 582 (by decide +kernel) rfl, ax_t 6 (by decide +kernel) rfl, ⟨by decide +kernel, by decide +kernel⟩, by decide +kernel, by decide⟩
theorem SX5_isKind : Cond.static MX5_isKind.1 ∈ ax_tb := ax_t 581 (by decide +kernel) rfl
def MX5_cells : ax_M := (yX5_cells, cX5_cells, 6, (some .int), 7)
theorem KX5_cells : ax_cw MX5_cells 3 := ⟨ax_t 579 (by decide +kernel) rfl, ax_t 6 (by decide +kernel) rfl, ⟨by decide +kernel, by decide +kernel⟩, by decide +kernel, by decide⟩
theorem IX5_cells : Cond.instanceMethod MX5_cells.1 ∈ ax_tb := ax_t 577 (by decide +kernel) rfl
theorem VX5_cells : Cond.selects MX5_cells.1.cls MX5_cells.1 MX5_cells.1 ∈ ax_tb := ax_t 578 (by decide +kernel) rfl
def MX5_cell : ax_M := (yX5_cell, cX5_cell, 5, (some .int), 7)
theorem KX5_cell : ax_cw MX5_cell 4 := ⟨ax_t 634 (by decide +kernel) rfl, ax_t 6 (by decide +kernel) rfl, ⟨by decide +kernel, by decide +kernel⟩, by decide +kernel, by decide⟩
theorem IX5_cell : Cond.instanceMethod MX5_cell.1 ∈ ax_tb := ax_t 632 (by decide +kernel) rfl
theorem VX5_cell : Cond.selects MX5_cell.1.cls MX5_cell.1 MX5_cell.1 ∈ ax_tb := ax_t 633 (by decide +kernel) rfl
def MX5_common : ax_M := (yX5_common, cX5_common, 6, (some .int), 0)
theorem KX5_common : ax_cw MX5_common 2 := ⟨ax_t 641 (by decide +kernel) rfl, ax_t 6 (by decide +kernel) rfl, ⟨by decide +kernel, by decide +kernel⟩, by decide +kernel, by decide⟩
theorem SX5_common : Cond.static MX5_common.1 ∈ ax_tb := ax_t 640 (by decide +kernel) rfl
def MX5_slope : ax_M := (yX5_slope, cX5_slope, 7, (some .int), 5)
theorem KX5_slope : ax_cw MX5_slope 4 := ⟨ax_t 638 (by decide +kernel) rfl, ax_t 6 (by decide +kernel) rfl, ⟨by decide +kernel, by decide +kernel⟩, by decide +kernel, by decide⟩
theorem IX5_slope : Cond.instanceMethod MX5_slope.1 ∈ ax_tb := ax_t 636 (by decide +kernel) rfl
theorem VX5_slope : Cond.selects MX5_slope.1.cls MX5_slope.1 MX5_slope.1 ∈ ax_tb := ax_t 637 (by decide +kernel) rfl
def MX5_low : ax_M := (yX5_low, cX5_low, 4, (some .int), 3)
theorem KX5_low : ax_cw MX5_low 3 := ⟨ax_t 646 (by decide +kernel) rfl, ax_t 6 (by decide +kernel) rfl, ⟨by decide +kernel, by decide +kernel⟩, by decide +kernel, by decide⟩
theorem IX5_low : Cond.instanceMethod MX5_low.1 ∈ ax_tb := ax_t 644 (by decide +kernel) rfl
theorem VX5_low : Cond.selects MX5_low.1.cls MX5_low.1 MX5_low.1 ∈ ax_tb := ax_t 645 (by decide +kernel) rfl
def MX5_fan : ax_M := (yX5_fan, cX5_fan, 7, (some .int), 3)
theorem KX5_fan : ax_cw MX5_fan 2 := ⟨ax_t 650 (by decide +kernel) rfl, ax_t 6 (by decide +kernel) rfl, ⟨by decide +kernel, by decide +kernel⟩, by decide +kernel, by decide⟩
theorem IX5_fan : Cond.instanceMethod MX5_fan.1 ∈ ax_tb := ax_t 648 (by decide +kernel) rfl
theorem VX5_fan : Cond.selects MX5_fan.1.cls MX5_fan.1 MX5_fan.1 ∈ ax_tb := ax_t 649 (by decide +kernel) rfl
def MX5_power : ax_M := (yX5_power, cX5_power, 5, (some .int), 0)
theorem KX5_power : ax_cw MX5_power 3 := ⟨ax_t 661 (by decide +kernel) rfl, ax_t 6 (by decide +kernel) rfl, ⟨by decide +kernel, by decide +kernel⟩, by decide +kernel, by decide⟩
theorem SX5_power : Cond.static MX5_power.1 ∈ ax_tb := ax_t 660 (by decide +kernel) rfl
def MX5_holds : ax_M := (yX5_holds, cX5_holds, 7, (some .boolean), 2)
theorem KX5_holds : ax_cw MX5_holds 4 := ⟨ax_t 658 (by decide +kernel) rfl, ax_t 6 (by decide +kernel) rfl, ⟨by decide +kernel, by decide +kernel⟩, by decide +kernel, by decide⟩
theorem IX5_holds : Cond.instanceMethod MX5_holds.1 ∈ ax_tb := ax_t 657 (by decide +kernel) rfl
theorem VX5_holds : Cond.selects MX5_holds.1.cls MX5_holds.1 MX5_holds.1 ∈ ax_tb := ax_p 46 (by decide +kernel) rfl
def MX5_roots : ax_M := (yX5_roots, cX5_roots, 7, (some .int), 3)
theorem KX5_roots : ax_cw MX5_roots 3 := ⟨ax_t 654 (by decide +kernel) rfl, ax_t 6 (by decide +kernel) rfl, ⟨by decide +kernel, by decide +kernel⟩, by decide +kernel, by decide⟩
theorem IX5_roots : Cond.instanceMethod MX5_roots.1 ∈ ax_tb := ax_t 652 (by decide +kernel) rfl
theorem VX5_roots : Cond.selects MX5_roots.1.cls MX5_roots.1 MX5_roots.1 ∈ ax_tb := ax_t 653 (by decide +kernel) rfl
def MX5_image : ax_M := (yX5_image, cX5_image, 3, (some .int), 1)
theorem KX5_image : ax_cw MX5_image 1 := ⟨ax_t 665 (by decide +kernel) rfl, ax_t 6 (by decide +kernel) rfl, ⟨by decide +kernel, by decide +kernel⟩, by decide +kernel, by decide⟩
theorem IX5_image : Cond.instanceMethod MX5_image.1 ∈ ax_tb := ax_t 663 (by decide +kernel) rfl
theorem VX5_image : Cond.selects MX5_image.1.cls MX5_image.1 MX5_image.1 ∈ ax_tb := ax_t 664 (by decide +kernel) rfl
def MX5_restore : ax_M := (yX5_restore, cX5_restore, 3, (some .int), 1)
theorem KX5_restore : ax_cw MX5_restore 1 := ⟨ax_t 669 (by decide +kernel) rfl, ax_t 6 (by decide +kernel) rfl, ⟨by decide +kernel, by decide +kernel⟩, by decide +kernel, by decide⟩
theorem IX5_restore : Cond.instanceMethod MX5_restore.1 ∈ ax_tb := ax_t 667 (by decide +kernel) rfl
theorem VX5_restore : Cond.selects MX5_restore.1.cls MX5_restore.1 MX5_restore.1 ∈ ax_tb := ax_t 668 (by decide +kernel) rfl
def MX5_count : ax_M := (yX5_count, cX5_count, 5, (some .int), 2)
theorem KX5_count : ax_cw MX5_count 1 := ⟨ax_t 673 (by decide +kernel) rfl, ax_t 6 (by decide +kernel) rfl, ⟨by decide +kernel, by decide +kernel⟩, by decide +kernel, by decide⟩
theorem IX5_count : Cond.instanceMethod MX5_count.1 ∈ ax_tb := ax_t 671 (by decide +kernel) rfl
theorem VX5_count : Cond.selects MX5_count.1.cls MX5_count.1 MX5_count.1 ∈ ax_tb := ax_t 672 (by decide +kernel) rfl
def MJ6_compare_7cf53 : ax_M := (yJ6_compare_7cf53, cJ6_compare_7cf53, 2, (some .int), 0)
theorem KJ6_compare_7cf53 : ax_cw MJ6_compare_7cf53 2 := ⟨ax_t 347 (by decide +kernel) rfl, ax_t 8 (by decide +kernel) rfl, ⟨by decide +kernel, by decide +kernel⟩, by decide +kernel, by decide⟩
theorem SJ6_compare_7cf53 : Cond.static MJ6_compare_7cf53.1 ∈ ax_tb := ax_t 346 (by decide +kernel) rfl
def MJ6_numberOfTrailingZeros_0f7a4 : ax_M := (yJ6_numberOfTrailingZeros_0f7a4, cJ6_numberOfTrailingZeros_0f7a4, 2, (some .int), 0)
theorem KJ6_numberOfTrailingZeros_0f7a4 : ax_cw MJ6_numberOfTrailingZeros_0f7a4 1 := ⟨ax_t 318 (by decide +kernel) rfl, ax_t 8 (by decide +kernel) rfl, ⟨by decide +kernel, by decide +kernel⟩, by decide +kernel, by decide⟩
theorem SJ6_numberOfTrailingZeros_0f7a4 : Cond.static MJ6_numberOfTrailingZeros_0f7a4.1 ∈ ax_tb := ax_t 317 (by decide +kernel) rfl
theorem FX4_11 : ax_fld RX4 11 4 0 (.array (.object "MixedCells$Body")) true := ⟨RX4, TX4, 6, tyX4, rfl, by decide, inbX4, tyX4_ok, nmX4, ax_t 136 (by decide +kernel) rfl, rfl, by decide +kernel, rfl⟩
theorem FX4_15 : ax_fld RX4 15 4 1 (.array (.object "MixedCells$Body")) true := ⟨RX4, TX4, 6, tyX4, rfl, by decide, inbX4, tyX4_ok, nmX4, ax_t 137 (by decide +kernel) rfl, rfl, by decide +kernel, rfl⟩
theorem FX4_21 : ax_fld RX4 21 4 3 (.object "MixedCells$Region") true := ⟨RX4, TX4, 6, tyX4, rfl, by decide, inbX4, tyX4_ok, nmX4, ax_t 139 (by decide +kernel) rfl, rfl, by decide +kernel, rfl⟩
theorem FX4_28 : ax_fld RX4 28 4 4 (.object "MixedCells$Cutting") true := ⟨RX4, TX4, 6, tyX4, rfl, by decide, inbX4, tyX4_ok, nmX4, ax_t 140 (by decide +kernel) rfl, rfl, by decide +kernel, rfl⟩
theorem FX4_34 : ax_fld RX4 34 4 5 (.array (.array .int)) true := ⟨RX4, TX4, 6, tyX4, rfl, by decide, inbX4, tyX4_ok, nmX4, ax_t 141 (by decide +kernel) rfl, rfl, by decide +kernel, rfl⟩
theorem FX4_50 : ax_fld RX4 50 0 3 .int false := ⟨RX0, TX0, 4, tyX0, rfl, by decide, inbX0, tyX0_ok, nmX0, ax_t 125 (by decide +kernel) rfl, rfl, by decide +kernel, rfl⟩
theorem FX4_58 : ax_fld RX4 58 0 2 (.array .int) true := ⟨RX0, TX0, 4, tyX0, rfl, by decide, inbX0, tyX0_ok, nmX0, ax_t 121 (by decide +kernel) rfl, rfl, by decide +kernel, rfl⟩
theorem FX4_70 : ax_fld RX4 70 0 0 (.array .int) true := ⟨RX0, TX0, 4, tyX0, rfl, by decide, inbX0, tyX0_ok, nmX0, ax_t 115 (by decide +kernel) rfl, rfl, by decide +kernel, rfl⟩
theorem FX4_73 : ax_fld RX4 73 0 1 (.array .int) true := ⟨RX0, TX0, 4, tyX0, rfl, by decide, inbX0, tyX0_ok, nmX0, ax_t 119 (by decide +kernel) rfl, rfl, by decide +kernel, rfl⟩
theorem FX4_87 : ax_fld RX4 87 3 4 .int false := ⟨RX3, TX3, 5, tyX3, rfl, by decide, inbX3, tyX3_ok, nmX3, ax_t 30 (by decide +kernel) rfl, rfl, by decide +kernel, rfl⟩
theorem FX4_117 : ax_fld RX4 117 3 2 .int false := ⟨RX3, TX3, 5, tyX3, rfl, by decide, inbX3, tyX3_ok, nmX3, ax_t 28 (by decide +kernel) rfl, rfl, by decide +kernel, rfl⟩
theorem FX4_125 : ax_fld RX4 125 2 1 .int false := ⟨RX2, TX2, 7, tyX2, rfl, by decide, inbX2, tyX2_ok, nmX2, ax_t 84 (by decide +kernel) rfl, rfl, by decide +kernel, rfl⟩
theorem FX4_138 : ax_fld RX4 138 1 4 .int false := ⟨RX1, TX1, 6, tyX1, rfl, by decide, inbX1, tyX1_ok, nmX1, ax_t 66 (by decide +kernel) rfl, rfl, by decide +kernel, rfl⟩
theorem FX4_143 : ax_fld RX4 143 1 5 .int false := ⟨RX1, TX1, 6, tyX1, rfl, by decide, inbX1, tyX1_ok, nmX1, ax_t 68 (by decide +kernel) rfl, rfl, by decide +kernel, rfl⟩
theorem FX4_147 : ax_fld RX4 147 1 0 .int false := ⟨RX1, TX1, 6, tyX1, rfl, by decide, inbX1, tyX1_ok, nmX1, ax_t 58 (by decide +kernel) rfl, rfl, by decide +kernel, rfl⟩
theorem FX4_150 : ax_fld RX4 150 1 1 .int false := ⟨RX1, TX1, 6, tyX1, rfl, by decide, inbX1, tyX1_ok, nmX1, ax_t 60 (by decide +kernel) rfl, rfl, by decide +kernel, rfl⟩
theorem FX4_153 : ax_fld RX4 153 1 2 .int false := ⟨RX1, TX1, 6, tyX1, rfl, by decide, inbX1, tyX1_ok, nmX1, ax_t 62 (by decide +kernel) rfl, rfl, by decide +kernel, rfl⟩
theorem FX4_156 : ax_fld RX4 156 1 3 .int false := ⟨RX1, TX1, 6, tyX1, rfl, by decide, inbX1, tyX1_ok, nmX1, ax_t 64 (by decide +kernel) rfl, rfl, by decide +kernel, rfl⟩
theorem FX4_180 : ax_fld RX4 180 4 2 .int false := ⟨RX4, TX4, 6, tyX4, rfl, by decide, inbX4, tyX4_ok, nmX4, ax_t 138 (by decide +kernel) rfl, rfl, by decide +kernel, rfl⟩
theorem FX0_9 : ax_fld RX0 9 0 0 (.array .int) true := ⟨RX0, TX0, 4, tyX0, rfl, by decide, inbX0, tyX0_ok, nmX0, ax_t 112 (by decide +kernel) rfl, rfl, by decide +kernel, rfl⟩
theorem FX0_15 : ax_fld RX0 15 0 1 (.array .int) true := ⟨RX0, TX0, 4, tyX0, rfl, by decide, inbX0, tyX0_ok, nmX0, ax_t 116 (by decide +kernel) rfl, rfl, by decide +kernel, rfl⟩
theorem FX0_18 : ax_fld RX0 18 0 2 (.array .int) true := ⟨RX0, TX0, 4, tyX0, rfl, by decide, inbX0, tyX0_ok, nmX0, ax_t 120 (by decide +kernel) rfl, rfl, by decide +kernel, rfl⟩
theorem FX0_21 : ax_fld RX0 21 0 3 .int false := ⟨RX0, TX0, 4, tyX0, rfl, by decide, inbX0, tyX0_ok, nmX0, ax_t 123 (by decide +kernel) rfl, rfl, by decide +kernel, rfl⟩
theorem FX1_22 : ax_fld RX1 22 1 0 .int false := ⟨RX1, TX1, 6, tyX1, rfl, by decide, inbX1, tyX1_ok, nmX1, ax_t 57 (by decide +kernel) rfl, rfl, by decide +kernel, rfl⟩
theorem FX1_28 : ax_fld RX1 28 1 1 .int false := ⟨RX1, TX1, 6, tyX1, rfl, by decide, inbX1, tyX1_ok, nmX1, ax_t 59 (by decide +kernel) rfl, rfl, by decide +kernel, rfl⟩
theorem FX1_31 : ax_fld RX1 31 1 2 .int false := ⟨RX1, TX1, 6, tyX1, rfl, by decide, inbX1, tyX1_ok, nmX1, ax_t 61 (by decide +kernel) rfl, rfl, by decide +kernel, rfl⟩
theorem FX1_34 : ax_fld RX1 34 1 3 .int false := ⟨RX1, TX1, 6, tyX1, rfl, by decide, inbX1, tyX1_ok, nmX1, ax_t 63 (by decide +kernel) rfl, rfl, by decide +kernel, rfl⟩
theorem FX2_13 : ax_fld RX2 13 2 0 (.array (.object "MixedCells$Cell")) true := ⟨RX2, TX2, 7, tyX2, rfl, by decide, inbX2, tyX2_ok, nmX2, ax_t 82 (by decide +kernel) rfl, rfl, by decide +kernel, rfl⟩
theorem FX2_17 : ax_fld RX2 17 2 2 (.array .int) true := ⟨RX2, TX2, 7, tyX2, rfl, by decide, inbX2, tyX2_ok, nmX2, ax_t 85 (by decide +kernel) rfl, rfl, by decide +kernel, rfl⟩
theorem FX2_21 : ax_fld RX2 21 2 3 (.array .int) true := ⟨RX2, TX2, 7, tyX2, rfl, by decide, inbX2, tyX2_ok, nmX2, ax_t 86 (by decide +kernel) rfl, rfl, by decide +kernel, rfl⟩
theorem FX2_24 : ax_fld RX2 24 2 4 (.array .int) true := ⟨RX2, TX2, 7, tyX2, rfl, by decide, inbX2, tyX2_ok, nmX2, ax_t 87 (by decide +kernel) rfl, rfl, by decide +kernel, rfl⟩
theorem FX2_27 : ax_fld RX2 27 2 5 (.array .int) true := ⟨RX2, TX2, 7, tyX2, rfl, by decide, inbX2, tyX2_ok, nmX2, ax_t 88 (by decide +kernel) rfl, rfl, by decide +kernel, rfl⟩
theorem FX2_31 : ax_fld RX2 31 2 1 .int false := ⟨RX2, TX2, 7, tyX2, rfl, by decide, inbX2, tyX2_ok, nmX2, ax_t 83 (by decide +kernel) rfl, rfl, by decide +kernel, rfl⟩
theorem FX2_35 : ax_fld RX2 35 0 3 .int false := ⟨RX0, TX0, 4, tyX0, rfl, by decide, inbX0, tyX0_ok, nmX0, ax_t 126 (by decide +kernel) rfl, rfl, by decide +kernel, rfl⟩
theorem FX2_38 : ax_fld RX2 38 2 6 .int false := ⟨RX2, TX2, 7, tyX2, rfl, by decide, inbX2, tyX2_ok, nmX2, ax_t 89 (by decide +kernel) rfl, rfl, by decide +kernel, rfl⟩
theorem FX2_53 : ax_fld RX2 53 0 0 (.array .int) true := ⟨RX0, TX0, 4, tyX0, rfl, by decide, inbX0, tyX0_ok, nmX0, ax_t 114 (by decide +kernel) rfl, rfl, by decide +kernel, rfl⟩
theorem FX2_56 : ax_fld RX2 56 0 1 (.array .int) true := ⟨RX0, TX0, 4, tyX0, rfl, by decide, inbX0, tyX0_ok, nmX0, ax_t 118 (by decide +kernel) rfl, rfl, by decide +kernel, rfl⟩
theorem FX2_59 : ax_fld RX2 59 0 2 (.array .int) true := ⟨RX0, TX0, 4, tyX0, rfl, by decide, inbX0, tyX0_ok, nmX0, ax_t 122 (by decide +kernel) rfl, rfl, by decide +kernel, rfl⟩
theorem FX2_75 : ax_fld RX2 75 1 4 .int false := ⟨RX1, TX1, 6, tyX1, rfl, by decide, inbX1, tyX1_ok, nmX1, ax_t 65 (by decide +kernel) rfl, rfl, by decide +kernel, rfl⟩
theorem FX2_78 : ax_fld RX2 78 1 5 .int false := ⟨RX1, TX1, 6, tyX1, rfl, by decide, inbX1, tyX1_ok, nmX1, ax_t 67 (by decide +kernel) rfl, rfl, by decide +kernel, rfl⟩
theorem FX3_11 : ax_fld RX3 11 3 0 (.array .int) true := ⟨RX3, TX3, 5, tyX3, rfl, by decide, inbX3, tyX3_ok, nmX3, ax_t 25 (by decide +kernel) rfl, rfl, by decide +kernel, rfl⟩
theorem FX3_15 : ax_fld RX3 15 3 1 (.array .int) true := ⟨RX3, TX3, 5, tyX3, rfl, by decide, inbX3, tyX3_ok, nmX3, ax_t 26 (by decide +kernel) rfl, rfl, by decide +kernel, rfl⟩
theorem FX3_18 : ax_fld RX3 18 3 3 (.array .int) true := ⟨RX3, TX3, 5, tyX3, rfl, by decide, inbX3, tyX3_ok, nmX3, ax_t 29 (by decide +kernel) rfl, rfl, by decide +kernel, rfl⟩
theorem FX3_21 : ax_fld RX3 21 3 2 .int false := ⟨RX3, TX3, 5, tyX3, rfl, by decide, inbX3, tyX3_ok, nmX3, ax_t 27 (by decide +kernel) rfl, rfl, by decide +kernel, rfl⟩
theorem FX3_25 : ax_fld RX3 25 0 3 .int false := ⟨RX0, TX0, 4, tyX0, rfl, by decide, inbX0, tyX0_ok, nmX0, ax_t 124 (by decide +kernel) rfl, rfl, by decide +kernel, rfl⟩
theorem FX3_28 : ax_fld RX3 28 0 0 (.array .int) true := ⟨RX0, TX0, 4, tyX0, rfl, by decide, inbX0, tyX0_ok, nmX0, ax_t 113 (by decide +kernel) rfl, rfl, by decide +kernel, rfl⟩
theorem FX3_31 : ax_fld RX3 31 0 1 (.array .int) true := ⟨RX0, TX0, 4, tyX0, rfl, by decide, inbX0, tyX0_ok, nmX0, ax_t 117 (by decide +kernel) rfl, rfl, by decide +kernel, rfl⟩
theorem FX3_50 : ax_fld RX3 50 3 4 .int false := ⟨RX3, TX3, 5, tyX3, rfl, by decide, inbX3, tyX3_ok, nmX3, ax_t 31 (by decide +kernel) rfl, rfl, by decide +kernel, rfl⟩
theorem FX5_7 : ax_fld RX5 7 5 0 (.array .int) true := ⟨RX5, TX5, 14, tyX5, rfl, by decide, inbX5, tyX5_ok, nmX5, ax_t 428 (by decide +kernel) rfl, rfl, by decide +kernel, rfl⟩
theorem FX5_13 : ax_fld RX5 13 5 1 (.array .int) true := ⟨RX5, TX5, 14, tyX5, rfl, by decide, inbX5, tyX5_ok, nmX5, ax_t 429 (by decide +kernel) rfl, rfl, by decide +kernel, rfl⟩
theorem FX5_16 : ax_fld RX5 16 5 2 (.array .boolean) true := ⟨RX5, TX5, 14, tyX5, rfl, by decide, inbX5, tyX5_ok, nmX5, ax_t 430 (by decide +kernel) rfl, rfl, by decide +kernel, rfl⟩
theorem FX5_20 : ax_fld RX5 20 5 3 (.array .int) true := ⟨RX5, TX5, 14, tyX5, rfl, by decide, inbX5, tyX5_ok, nmX5, ax_t 431 (by decide +kernel) rfl, rfl, by decide +kernel, rfl⟩
theorem FX5_23 : ax_fld RX5 23 5 4 (.array .int) true := ⟨RX5, TX5, 14, tyX5, rfl, by decide, inbX5, tyX5_ok, nmX5, ax_t 432 (by decide +kernel) rfl, rfl, by decide +kernel, rfl⟩
theorem FX5_26 : ax_fld RX5 26 5 6 (.array .int) true := ⟨RX5, TX5, 14, tyX5, rfl, by decide, inbX5, tyX5_ok, nmX5, ax_t 434 (by decide +kernel) rfl, rfl, by decide +kernel, rfl⟩
theorem FX5_29 : ax_fld RX5 29 5 8 (.array .int) true := ⟨RX5, TX5, 14, tyX5, rfl, by decide, inbX5, tyX5_ok, nmX5, ax_t 436 (by decide +kernel) rfl, rfl, by decide +kernel, rfl⟩
theorem FX5_32 : ax_fld RX5 32 5 9 (.array .int) true := ⟨RX5, TX5, 14, tyX5, rfl, by decide, inbX5, tyX5_ok, nmX5, ax_t 437 (by decide +kernel) rfl, rfl, by decide +kernel, rfl⟩
theorem FX5_35 : ax_fld RX5 35 5 10 (.array .int) true := ⟨RX5, TX5, 14, tyX5, rfl, by decide, inbX5, tyX5_ok, nmX5, ax_t 438 (by decide +kernel) rfl, rfl, by decide +kernel, rfl⟩
theorem FX5_38 : ax_fld RX5 38 5 12 (.array .int) true := ⟨RX5, TX5, 14, tyX5, rfl, by decide, inbX5, tyX5_ok, nmX5, ax_t 440 (by decide +kernel) rfl, rfl, by decide +kernel, rfl⟩
theorem FX5_41 : ax_fld RX5 41 5 13 (.array .int) true := ⟨RX5, TX5, 14, tyX5, rfl, by decide, inbX5, tyX5_ok, nmX5, ax_t 441 (by decide +kernel) rfl, rfl, by decide +kernel, rfl⟩
theorem FX5_63 : ax_fld RX5 63 5 5 .int false := ⟨RX5, TX5, 14, tyX5, rfl, by decide, inbX5, tyX5_ok, nmX5, ax_t 433 (by decide +kernel) rfl, rfl, by decide +kernel, rfl⟩
theorem FX5_74 : ax_fld RX5 74 5 7 .int false := ⟨RX5, TX5, 14, tyX5, rfl, by decide, inbX5, tyX5_ok, nmX5, ax_t 435 (by decide +kernel) rfl, rfl, by decide +kernel, rfl⟩
theorem FX5_118 : ax_fld RX5 118 5 11 .int false := ⟨RX5, TX5, 14, tyX5, rfl, by decide, inbX5, tyX5_ok, nmX5, ax_t 439 (by decide +kernel) rfl, rfl, by decide +kernel, rfl⟩
theorem IObj : Cond.instanceMethod objectInit ∈ ax_tb := ax_t 15 (by decide +kernel) rfl
theorem KObj : Cond.code objectInit ⟨#[0xb1]⟩ 1 none ∈ ax_tb := ax_t 16 (by decide +kernel) rfl
theorem LX4_3 : Cond.methodLink RX4 3 objectInit ∈ ax_tb := ax_t 14 (by decide +kernel) rfl
theorem LX4_27 : Cond.methodLink RX4 27 MX2_init.1 ∈ ax_tb := ax_t 46 (by decide +kernel) rfl
theorem LX4_38 : Cond.methodLink RX4 38 MX4_bodyAt.1 ∈ ax_tb := ax_t 159 (by decide +kernel) rfl
theorem LX4_42 : Cond.methodLink RX4 42 MX4_isWithin.1 ∈ ax_tb := ax_t 163 (by decide +kernel) rfl
theorem LX4_46 : Cond.methodLink RX4 46 MX0_find.1 ∈ ax_tb := ax_t 166 (by decide +kernel) rfl
theorem LX4_54 : Cond.methodLink RX4 54 MX0_append.1 ∈ ax_tb := ax_t 170 (by decide +kernel) rfl
theorem LX4_62 : Cond.methodLink RX4 62 MX0_has.1 ∈ ax_tb := ax_t 178 (by decide +kernel) rfl
theorem LX4_66 : Cond.methodLink RX4 66 MX0_remove.1 ∈ ax_tb := ax_t 182 (by decide +kernel) rfl
theorem LX4_76 : Cond.methodLink RX4 76 MX0_all.1 ∈ ax_tb := ax_t 199 (by decide +kernel) rfl
theorem LX4_80 : Cond.methodLink RX4 80 MX3_gather.1 ∈ ax_tb := ax_t 203 (by decide +kernel) rfl
theorem LX4_84 : Cond.methodLink RX4 84 MX3_area.1 ∈ ax_tb := ax_t 227 (by decide +kernel) rfl
theorem LX4_90 : Cond.methodLink RX4 90 MX3_wholePoints.1 ∈ ax_tb := ax_t 247 (by decide +kernel) rfl
theorem LX4_93 : Cond.methodLink RX4 93 MX3_rimPoints.1 ∈ ax_tb := ax_t 262 (by decide +kernel) rfl
theorem LX4_96 : Cond.methodLink RX4 96 MX3_span.1 ∈ ax_tb := ax_t 267 (by decide +kernel) rfl
theorem LX4_99 : Cond.methodLink RX4 99 MX3_hasCorner.1 ∈ ax_tb := ax_t 278 (by decide +kernel) rfl
theorem LX4_102 : Cond.methodLink RX4 102 MX3_cornerX.1 ∈ ax_tb := ax_t 279 (by decide +kernel) rfl
theorem LX4_106 : Cond.methodLink RX4 106 MX3_cornerY.1 ∈ ax_tb := ax_t 280 (by decide +kernel) rfl
theorem LX4_109 : Cond.methodLink RX4 109 MX4_mixedOf.1 ∈ ax_tb := ax_t 285 (by decide +kernel) rfl
theorem LX4_113 : Cond.methodLink RX4 113 MX3_gatherSums.1 ∈ ax_tb := ax_t 289 (by decide +kernel) rfl
theorem LX4_118 : Cond.methodLink RX4 118 MX4_isKindAsked.1 ∈ ax_tb := ax_t 301 (by decide +kernel) rfl
theorem LX4_121 : Cond.methodLink RX4 121 MX2_cut.1 ∈ ax_tb := ax_t 304 (by decide +kernel) rfl
theorem LX4_126 : Cond.methodLink RX4 126 MX2_get.1 ∈ ax_tb := ax_t 348 (by decide +kernel) rfl
theorem LX4_130 : Cond.methodLink RX4 130 MX4_shareOf.1 ∈ ax_tb := ax_t 352 (by decide +kernel) rfl
theorem LX4_134 : Cond.methodLink RX4 134 MX4_kindOf.1 ∈ ax_tb := ax_t 356 (by decide +kernel) rfl
theorem LX4_159 : Cond.methodLink RX4 159 MX0_lowest.1 ∈ ax_tb := ax_t 373 (by decide +kernel) rfl
theorem LX4_162 : Cond.methodLink RX4 162 MX3_gatherFan.1 ∈ ax_tb := ax_t 378 (by decide +kernel) rfl
theorem LX4_166 : Cond.methodLink RX4 166 MX4_isSmallPrime.1 ∈ ax_tb := ax_t 387 (by decide +kernel) rfl
theorem LX4_169 : Cond.methodLink RX4 169 MX4_fillPowers.1 ∈ ax_tb := ax_t 390 (by decide +kernel) rfl
theorem LX4_172 : Cond.methodLink RX4 172 MX4_isRoot.1 ∈ ax_tb := ax_t 394 (by decide +kernel) rfl
theorem LX4_176 : Cond.methodLink RX4 176 MX0_copyFrom.1 ∈ ax_tb := ax_t 402 (by decide +kernel) rfl
theorem LX4_183 : Cond.methodLink RX4 183 MX4_pointsOfAll.1 ∈ ax_tb := ax_t 414 (by decide +kernel) rfl
theorem LX4_186 : Cond.methodLink RX4 186 MX4_filledBodies.1 ∈ ax_tb := ax_t 418 (by decide +kernel) rfl
theorem LX0_3 : Cond.methodLink RX0 3 objectInit ∈ ax_tb := ax_t 111 (by decide +kernel) rfl
theorem LX0_25 : Cond.methodLink RX0 25 MX0_has.1 ∈ ax_tb := ax_t 186 (by decide +kernel) rfl
theorem LX1_1 : Cond.methodLink RX1 1 objectInit ∈ ax_tb := ax_t 56 (by decide +kernel) rfl
theorem LX1_7 : ax_mw RX1 7 Lib.Math.abs.name Lib.Math.abs.code 1 := ⟨ax_t 332 (by decide +kernel) rfl, ax_t 257 (by decide +kernel) rfl, ax_t 7 (by decide +kernel) rfl, ax_t 258 (by decide +kernel) rfl⟩
theorem LX1_19 : ax_mw RX1 19 Lib.Math.max.name Lib.Math.max.code 2 := ⟨ax_t 334 (by decide +kernel) rfl, ax_t 335 (by decide +kernel) rfl, ax_t 7 (by decide +kernel) rfl, ax_t 336 (by decide +kernel) rfl⟩
theorem LX1_37 : Cond.methodLink RX1 37 MJ6_compare_7cf53.1 ∈ ax_tb := ax_t 345 (by decide +kernel) rfl
theorem LX2_3 : Cond.methodLink RX2 3 objectInit ∈ ax_tb := ax_t 49 (by decide +kernel) rfl
theorem LX2_41 : Cond.methodLink RX2 41 MX2_addPairs.1 ∈ ax_tb := ax_t 308 (by decide +kernel) rfl
theorem LX2_45 : Cond.methodLink RX2 45 MX2_firstEnd.1 ∈ ax_tb := ax_t 312 (by decide +kernel) rfl
theorem LX2_49 : Cond.methodLink RX2 49 MX2_tryPairs.1 ∈ ax_tb := ax_t 320 (by decide +kernel) rfl
theorem LX2_62 : Cond.methodLink RX2 62 MJ6_numberOfTrailingZeros_0f7a4.1 ∈ ax_tb := ax_t 316 (by decide +kernel) rfl
theorem LX2_67 : Cond.methodLink RX2 67 MX0_lowest.1 ∈ ax_tb := ax_t 324 (by decide +kernel) rfl
theorem LX2_71 : Cond.methodLink RX2 71 MX1_setSlope.1 ∈ ax_tb := ax_t 328 (by decide +kernel) rfl
theorem LX2_81 : Cond.methodLink RX2 81 MX2_sortIn.1 ∈ ax_tb := ax_t 337 (by decide +kernel) rfl
theorem LX2_85 : Cond.methodLink RX2 85 MX1_compareSlope.1 ∈ ax_tb := ax_t 341 (by decide +kernel) rfl
theorem LX3_3 : Cond.methodLink RX3 3 objectInit ∈ ax_tb := ax_t 24 (by decide +kernel) rfl
theorem LX3_34 : Cond.methodLink RX3 34 MX3_include.1 ∈ ax_tb := ax_t 207 (by decide +kernel) rfl
theorem LX3_38 : Cond.methodLink RX3 38 MX3_findCorners.1 ∈ ax_tb := ax_t 215 (by decide +kernel) rfl
theorem LX3_42 : Cond.methodLink RX3 42 MX0_all.1 ∈ ax_tb := ax_t 382 (by decide +kernel) rfl
theorem LX3_46 : Cond.methodLink RX3 46 MX3_comesBehind.1 ∈ ax_tb := ax_t 211 (by decide +kernel) rfl
theorem LX3_53 : Cond.methodLink RX3 53 MX3_turnTo.1 ∈ ax_tb := ax_t 219 (by decide +kernel) rfl
theorem LX3_56 : Cond.methodLink RX3 56 MX3_turnsLeft.1 ∈ ax_tb := ax_t 223 (by decide +kernel) rfl
theorem LX3_59 : Cond.methodLink RX3 59 MX3_hasCorner.1 ∈ ax_tb := ax_t 239 (by decide +kernel) rfl
theorem LX3_63 : Cond.methodLink RX3 63 MX3_next.1 ∈ ax_tb := ax_t 231 (by decide +kernel) rfl
theorem LX3_67 : Cond.methodLink RX3 67 MX3_cornerX.1 ∈ ax_tb := ax_t 235 (by decide +kernel) rfl
theorem LX3_70 : Cond.methodLink RX3 70 MX3_cornerY.1 ∈ ax_tb := ax_t 243 (by decide +kernel) rfl
theorem LX3_73 : ax_mw RX3 73 Lib.Math.min.name Lib.Math.min.code 2 := ⟨ax_t 271 (by decide +kernel) rfl, ax_t 272 (by decide +kernel) rfl, ax_t 7 (by decide +kernel) rfl, ax_t 273 (by decide +kernel) rfl⟩
theorem LX3_79 : ax_mw RX3 79 Lib.Math.abs.name Lib.Math.abs.code 1 := ⟨ax_t 256 (by decide +kernel) rfl, ax_t 257 (by decide +kernel) rfl, ax_t 7 (by decide +kernel) rfl, ax_t 258 (by decide +kernel) rfl⟩
theorem LX3_85 : Cond.methodLink RX3 85 MX3_area.1 ∈ ax_tb := ax_t 251 (by decide +kernel) rfl
theorem LX3_88 : Cond.methodLink RX3 88 MX3_stepsRound.1 ∈ ax_tb := ax_t 252 (by decide +kernel) rfl
theorem LX3_91 : Cond.methodLink RX3 91 MX3_wholePoints.1 ∈ ax_tb := ax_t 266 (by decide +kernel) rfl
theorem LL_9 : Cond.methodLink RL 9 MX4_init.1 ∈ ax_tb := ax_t 11 (by decide +kernel) rfl
theorem LL_12 : Cond.methodLink RL 12 MX5_init.1 ∈ ax_tb := ax_t 424 (by decide +kernel) rfl
theorem LL_13 : Cond.methodLink RL 13 MX4_put.1 ∈ ax_tb := ax_t 155 (by decide +kernel) rfl
theorem LL_17 : Cond.methodLink RL 17 MX5_put.1 ∈ ax_tb := ax_t 472 (by decide +kernel) rfl
theorem LL_18 : Cond.methodLink RL 18 MX4_take.1 ∈ ax_tb := ax_t 174 (by decide +kernel) rfl
theorem LL_22 : Cond.methodLink RL 22 MX5_take.1 ∈ ax_tb := ax_t 493 (by decide +kernel) rfl
theorem LL_23 : Cond.methodLink RL 23 MX4_clear.1 ∈ ax_tb := ax_t 187 (by decide +kernel) rfl
theorem LL_27 : Cond.methodLink RL 27 MX5_clear.1 ∈ ax_tb := ax_t 497 (by decide +kernel) rfl
theorem LL_28 : Cond.methodLink RL 28 MX4_point.1 ∈ ax_tb := ax_t 191 (by decide +kernel) rfl
theorem LL_32 : Cond.methodLink RL 32 MX5_point.1 ∈ ax_tb := ax_t 501 (by decide +kernel) rfl
theorem LL_33 : Cond.methodLink RL 33 MX4_hull.1 ∈ ax_tb := ax_t 195 (by decide +kernel) rfl
theorem LL_36 : Cond.methodLink RL 36 MX5_hull.1 ∈ ax_tb := ax_t 505 (by decide +kernel) rfl
theorem LL_37 : Cond.methodLink RL 37 MX4_corner.1 ∈ ax_tb := ax_t 274 (by decide +kernel) rfl
theorem LL_40 : Cond.methodLink RL 40 MX5_corner.1 ∈ ax_tb := ax_t 552 (by decide +kernel) rfl
theorem LL_41 : Cond.methodLink RL 41 MX4_sum.1 ∈ ax_tb := ax_t 281 (by decide +kernel) rfl
theorem LL_44 : Cond.methodLink RL 44 MX5_sum.1 ∈ ax_tb := ax_t 556 (by decide +kernel) rfl
theorem LL_45 : Cond.methodLink RL 45 MX4_sumCorner.1 ∈ ax_tb := ax_t 293 (by decide +kernel) rfl
theorem LL_48 : Cond.methodLink RL 48 MX5_sumCorner.1 ∈ ax_tb := ax_t 572 (by decide +kernel) rfl
theorem LL_49 : Cond.methodLink RL 49 MX4_cells.1 ∈ ax_tb := ax_t 297 (by decide +kernel) rfl
theorem LL_52 : Cond.methodLink RL 52 MX5_cells.1 ∈ ax_tb := ax_t 576 (by decide +kernel) rfl
theorem LL_53 : Cond.methodLink RL 53 MX4_cell.1 ∈ ax_tb := ax_t 360 (by decide +kernel) rfl
theorem LL_56 : Cond.methodLink RL 56 MX5_cell.1 ∈ ax_tb := ax_t 631 (by decide +kernel) rfl
theorem LL_57 : Cond.methodLink RL 57 MX4_slope.1 ∈ ax_tb := ax_t 364 (by decide +kernel) rfl
theorem LL_60 : Cond.methodLink RL 60 MX5_slope.1 ∈ ax_tb := ax_t 635 (by decide +kernel) rfl
theorem LL_61 : Cond.methodLink RL 61 MX4_low.1 ∈ ax_tb := ax_t 369 (by decide +kernel) rfl
theorem LL_64 : Cond.methodLink RL 64 MX5_low.1 ∈ ax_tb := ax_t 643 (by decide +kernel) rfl
theorem LL_65 : Cond.methodLink RL 65 MX4_fan.1 ∈ ax_tb := ax_t 374 (by decide +kernel) rfl
theorem LL_68 : Cond.methodLink RL 68 MX5_fan.1 ∈ ax_tb := ax_t 647 (by decide +kernel) rfl
theorem LL_69 : Cond.methodLink RL 69 MX4_roots.1 ∈ ax_tb := ax_t 383 (by decide +kernel) rfl
theorem LL_72 : Cond.methodLink RL 72 MX5_roots.1 ∈ ax_tb := ax_t 651 (by decide +kernel) rfl
theorem LL_73 : Cond.methodLink RL 73 MX4_image.1 ∈ ax_tb := ax_t 398 (by decide +kernel) rfl
theorem LL_76 : Cond.methodLink RL 76 MX5_image.1 ∈ ax_tb := ax_t 662 (by decide +kernel) rfl
theorem LL_77 : Cond.methodLink RL 77 MX4_restore.1 ∈ ax_tb := ax_t 406 (by decide +kernel) rfl
theorem LL_80 : Cond.methodLink RL 80 MX5_restore.1 ∈ ax_tb := ax_t 666 (by decide +kernel) rfl
theorem LL_81 : Cond.methodLink RL 81 MX4_count.1 ∈ ax_tb := ax_t 410 (by decide +kernel) rfl
theorem LL_84 : Cond.methodLink RL 84 MX5_count.1 ∈ ax_tb := ax_t 670 (by decide +kernel) rfl
theorem LX5_1 : Cond.methodLink RX5 1 objectInit ∈ ax_tb := ax_t 427 (by decide +kernel) rfl
theorem LX5_44 : Cond.methodLink RX5 44 MX5_in.1 ∈ ax_tb := ax_t 479 (by decide +kernel) rfl
theorem LX5_48 : Cond.methodLink RX5 48 MX5_at.1 ∈ ax_tb := ax_t 490 (by decide +kernel) rfl
theorem LX5_52 : Cond.methodLink RX5 52 MX5_isBody.1 ∈ ax_tb := ax_t 476 (by decide +kernel) rfl
theorem LX5_56 : Cond.methodLink RX5 56 MX5_many.1 ∈ ax_tb := ax_t 482 (by decide +kernel) rfl
theorem LX5_60 : Cond.methodLink RX5 60 MX5_of.1 ∈ ax_tb := ax_t 486 (by decide +kernel) rfl
theorem LX5_67 : Cond.methodLink RX5 67 MX5_turn.1 ∈ ax_tb := ax_t 528 (by decide +kernel) rfl
theorem LX5_70 : Cond.methodLink RX5 70 MX5_far.1 ∈ ax_tb := ax_t 532 (by decide +kernel) rfl
theorem LX5_77 : Cond.methodLink RX5 77 MX5_nextCorner.1 ∈ ax_tb := ax_t 524 (by decide +kernel) rfl
theorem LX5_80 : Cond.methodLink RX5 80 MX5_has.1 ∈ ax_tb := ax_t 513 (by decide +kernel) rfl
theorem LX5_84 : Cond.methodLink RX5 84 MX5_addPoint.1 ∈ ax_tb := ax_t 516 (by decide +kernel) rfl
theorem LX5_88 : Cond.methodLink RX5 88 MX5_layCorners.1 ∈ ax_tb := ax_t 520 (by decide +kernel) rfl
theorem LX5_91 : Cond.methodLink RX5 91 MX5_lies.1 ∈ ax_tb := ax_t 544 (by decide +kernel) rfl
theorem LX5_94 : Cond.methodLink RX5 94 MX5_layBody.1 ∈ ax_tb := ax_t 509 (by decide +kernel) rfl
theorem LX5_97 : Cond.methodLink RX5 97 MX5_area.1 ∈ ax_tb := ax_t 536 (by decide +kernel) rfl
theorem LX5_101 : Cond.methodLink RX5 101 MX5_lattice.1 ∈ ax_tb := ax_t 540 (by decide +kernel) rfl
theorem LX5_104 : Cond.methodLink RX5 104 MX5_span.1 ∈ ax_tb := ax_t 548 (by decide +kernel) rfl
theorem LX5_107 : Cond.methodLink RX5 107 MX5_laySums.1 ∈ ax_tb := ax_t 564 (by decide +kernel) rfl
theorem LX5_111 : Cond.methodLink RX5 111 MX5_areaOfSums.1 ∈ ax_tb := ax_t 560 (by decide +kernel) rfl
theorem LX5_115 : Cond.methodLink RX5 115 MX5_areaOf.1 ∈ ax_tb := ax_t 568 (by decide +kernel) rfl
theorem LX5_121 : Cond.methodLink RX5 121 MX5_compare.1 ∈ ax_tb := ax_t 607 (by decide +kernel) rfl
theorem LX5_124 : Cond.methodLink RX5 124 MX5_sumOf.1 ∈ ax_tb := ax_t 591 (by decide +kernel) rfl
theorem LX5_127 : Cond.methodLink RX5 127 MX5_lowBy.1 ∈ ax_tb := ax_t 595 (by decide +kernel) rfl
theorem LX5_130 : Cond.methodLink RX5 130 MX5_isLow.1 ∈ ax_tb := ax_t 599 (by decide +kernel) rfl
theorem LX5_133 : Cond.methodLink RX5 133 MX5_addCell.1 ∈ ax_tb := ax_t 603 (by decide +kernel) rfl
theorem LX5_137 : Cond.methodLink RX5 137 MX5_tryThree.1 ∈ ax_tb := ax_t 587 (by decide +kernel) rfl
theorem LX5_141 : Cond.methodLink RX5 141 MX5_lowOf.1 ∈ ax_tb := ax_t 615 (by decide +kernel) rfl
theorem LX5_144 : Cond.methodLink RX5 144 MX5_spanOf.1 ∈ ax_tb := ax_t 627 (by decide +kernel) rfl
theorem LX5_147 : Cond.methodLink RX5 147 MX5_cellArea.1 ∈ ax_tb := ax_t 611 (by decide +kernel) rfl
theorem LX5_150 : Cond.methodLink RX5 150 MX5_isKind.1 ∈ ax_tb := ax_t 580 (by decide +kernel) rfl
theorem LX5_153 : Cond.methodLink RX5 153 MX5_layCells.1 ∈ ax_tb := ax_t 583 (by decide +kernel) rfl
theorem LX5_156 : Cond.methodLink RX5 156 MX5_cellMixed.1 ∈ ax_tb := ax_t 619 (by decide +kernel) rfl
theorem LX5_159 : Cond.methodLink RX5 159 MX5_kindOf.1 ∈ ax_tb := ax_t 623 (by decide +kernel) rfl
theorem LX5_162 : Cond.methodLink RX5 162 MX5_common.1 ∈ ax_tb := ax_t 639 (by decide +kernel) rfl
theorem LX5_166 : Cond.methodLink RX5 166 MX5_power.1 ∈ ax_tb := ax_t 659 (by decide +kernel) rfl
theorem LX5_169 : Cond.methodLink RX5 169 MX5_holds.1 ∈ ax_tb := ax_t 655 (by decide +kernel) rfl
theorem LX4_20 : Cond.methodLinkNest RX4 20 MX3_init.1 "MixedCells" ∈ ax_tb := ax_t 21 (by decide +kernel) rfl
theorem LX4_37 : Cond.methodLinkNest RX4 37 MX0_init.1 "MixedCells" ∈ ax_tb := ax_t 108 (by decide +kernel) rfl
theorem LX1_13 : Cond.methodLinkNest RX1 13 MX4_commonDivisor.1 "MixedCells" ∈ ax_tb := ax_t 333 (by decide +kernel) rfl
theorem LX2_30 : Cond.methodLinkNest RX2 30 MX1_init.1 "MixedCells" ∈ ax_tb := ax_t 53 (by decide +kernel) rfl
theorem LX3_82 : Cond.methodLinkNest RX3 82 MX4_commonDivisor.1 "MixedCells" ∈ ax_tb := ax_t 259 (by decide +kernel) rfl
theorem QJ6_264 : Cond.constant RJ6 264 (65536 : Int32) ∈ ax_tb := ax_t 319 (by decide +kernel) rfl
theorem QX4_146 : Cond.constant RX4 146 (100000 : Int32) ∈ ax_tb := ax_t 368 (by decide +kernel) rfl
theorem QX5_165 : Cond.constant RX5 165 (100000 : Int32) ∈ ax_tb := ax_t 642 (by decide +kernel) rfl
end
section
section AXB
variable {p : Program} {l : Launch} {e : Env} {R : Room} {s : State} {m : MethodId} {args : Array Value} {below : List Frame} {meth : Method} {c : Code} {b : Nat} {D : va_G} {dA : Nat → ClassId} {nL n0 z0 : Nat} {Q : State → Prop} {cc : ByteArray} {own : String} {ht : Nat} {pc : Nat} {L : List (Option ax_V)} {st : List ax_V} {h : ax_H}
/-! calls that make no cells -/
theorem ax_cap {h1 : ax_H} {H : Heap} {ls : Array Slot} {locs : List Loc} {cells slots : Nat} (I : ax_I R s b D dA nL n0 z0 L h H ls locs cells slots) (he : h1.length = h.length ∧ ax_sz h1 = ax_sz h) : h1.length ≤ n0 + R.cells ∧ ax_sz h1 ≤ z0 + R.slots := ⟨by rw [he.1]; exact I.2.2.2.2.2.2.2.1, by rw [he.2]; exact I.2.2.2.2.2.2.2.2⟩
theorem g_V (C : ax_C p R s m args meth c b D dA nL n0 cc own ht) {y : ax_M} {n a ci idx : Nat} {av rest : List ax_V} {fs : List ax_V} {r : Option ax_V} {h1 : ax_H} {q : vw_C} (M : ax_Met y (rv a :: av) h r h1) (hd : decode cc pc = .ok (.invokevirtual idx, 3)) (cw : ax_cw y n) (hl : Cond.methodLink own idx y.1 ∈ ax_tb) (hi : Cond.instanceMethod y.1 ∈ ax_tb) (hse : Cond.selects y.1.cls y.1 y.1 ∈ ax_tb) (hh : y.2.2.2.2 + 1 ≤ ht) (hn : av.length = n) (ha : h[a]? = some (.inr (ci, fs))) (hq : vwCl[ci]? = some q) (hq1 : q.1 = y.1.cls) (hst : st = av.reverse ++ rv a :: rest) (hr : rest.length ≤ 8) (he : h1.length = h.length ∧ ax_sz h1 = ax_sz h) (k : ax_G p l e R s m args below meth c b D dA nL n0 z0 Q (pc + 3) (L) (r.toList ++ rest) (h1)) : ax_G p l e R s m args below meth c b D dA nL n0 z0 Q (pc) (L) (st) (h) := fun H ls locs cells slots I => g_callV C M hd cw hl hi hse hh hn ha hq hq1 hst hr (ax_cap I he).1 (ax_cap I he).2 k H ls locs cells slots I
theorem g_S (C : ax_C p R s m args meth c b D dA nL n0 cc own ht) {y : ax_M} {n idx : Nat} {av rest : List ax_V} {r : Option ax_V} {h1 : ax_H} (M : ax_Met y av h r h1) (hd : decode cc pc = .ok (.invokestatic idx, 3)) (cw : ax_cw y n) (hl : Cond.methodLink own idx y.1 ∈ ax_tb) (hi : Cond.static y.1 ∈ ax_tb) (hh : y.2.2.2.2 + 1 ≤ ht) (hn : av.length = n) (hst : st = av.reverse ++ rest) (hr : rest.length ≤ 8) (he : h1.length = h.length ∧ ax_sz h1 = ax_sz h) (k : ax_G p l e R s m args below meth c b D dA nL n0 z0 Q (pc + 3) (L) (r.toList ++ rest) (h1)) : ax_G p l e R s m args below meth c b D dA nL n0 z0 Q (pc) (L) (st) (h) := fun H ls locs cells slots I => g_callS C M hd cw hl hi hh hn hst hr (ax_cap I he).1 (ax_cap I he).2 k H ls locs cells slots I
theorem g_SN (C : ax_C p R s m args meth c b D dA nL n0 cc own ht) {y : ax_M} {n idx : Nat} {host : String} {av rest : List ax_V} {r : Option ax_V} {h1 : ax_H} (M : ax_Met y av h r h1) (hd : decode cc pc = .ok (.invokestatic idx, 3)) (cw : ax_cw y n) (hl : Cond.methodLinkNest own idx y.1 host ∈ ax_tb) (hi : Cond.static y.1 ∈ ax_tb) (hh : y.2.2.2.2 + 1 ≤ ht) (hn : av.length = n) (hst : st = av.reverse ++ rest) (hr : rest.length ≤ 8) (he : h1.length = h.length ∧ ax_sz h1 = ax_sz h) (k : ax_G p l e R s m args below meth c b D dA nL n0 z0 Q (pc + 3) (L) (r.toList ++ rest) (h1)) : ax_G p l e R s m args below meth c b D dA nL n0 z0 Q (pc) (L) (st) (h) := fun H ls locs cells slots I => g_callSN C M hd cw hl hi hh hn hst hr (ax_cap I he).1 (ax_cap I he).2 k H ls locs cells slots I
theorem g_st {st2 : List ax_V} (hs : st = st2) (k : ax_G p l e R s m args below meth c b D dA nL n0 z0 Q (pc) (L) (st2) (h)) : ax_G p l e R s m args below meth c b D dA nL n0 z0 Q (pc) (L) (st) (h) := hs ▸ k
theorem g_L {L2 : List (Option ax_V)} (hs : L = L2) (k : ax_G p l e R s m args below meth c b D dA nL n0 z0 Q (pc) (L2) (st) (h)) : ax_G p l e R s m args below meth c b D dA nL n0 z0 Q (pc) (L) (st) (h) := hs ▸ k
theorem g_top {x y : Int} (hs : x = y) (k : ax_G p l e R s m args below meth c b D dA nL n0 z0 Q (pc) (L) (iv y :: st) (h)) : ax_G p l e R s m args below meth c b D dA nL n0 z0 Q (pc) (L) (iv x :: st) (h) := hs ▸ k
theorem g_hp {h2 : ax_H} (hs : h = h2) (k : ax_G p l e R s m args below meth c b D dA nL n0 z0 Q (pc) (L) (st) (h2)) : ax_G p l e R s m args below meth c b D dA nL n0 z0 Q (pc) (L) (st) (h) := hs ▸ k
theorem ax_mi {y : ax_M} {av : List ax_V} {L0 : List (Option ax_V)} {h' : ax_H} {r : Option ax_V} (hpl : plainName y.1.cls = true) (hty : y.2.2.2.1 = some .int) (hl : h.length ≤ h'.length) (hs : ax_sz h ≤ ax_sz h') (hn : av.length ≤ y.2.2.1) (hL : av.map some ++ List.replicate (y.2.2.1 - av.length) none = L0)
    (body : ∀ (p : Program) (l : Launch) (e : Env) (R : Room) (s : State) (m : MethodId) (args : Array Value) (below : List Frame) (meth : Method) (c : Code) (b : Nat) (D : va_G) (dA : Nat → ClassId) (Q : State → Prop), ax_C p R s m args meth c b D dA y.2.2.1 h.length y.2.1 y.1.cls y.2.2.2.2 →
      (∀ (pc : Nat) (L : List (Option ax_V)) (x : Int), decode y.2.1 pc = .ok (.ireturn, 1) → r = some (iv x) → ax_G p l e R s m args below meth c b D dA y.2.2.1 h.length (ax_sz h) Q pc L [iv x] h') →
      ax_G p l e R s m args below meth c b D dA y.2.2.1 h.length (ax_sz h) Q 0 L0 [] h) : ax_Met y av h r h' := by
  subst hL
  exact ax_meti hpl hty hl hs hn body
theorem ax_mz {y : ax_M} {av : List ax_V} {L0 : List (Option ax_V)} {h' : ax_H} {r : Option ax_V} (hpl : plainName y.1.cls = true) (hty : y.2.2.2.1 = some .boolean) (hl : h.length ≤ h'.length) (hs : ax_sz h ≤ ax_sz h') (hn : av.length ≤ y.2.2.1) (hL : av.map some ++ List.replicate (y.2.2.1 - av.length) none = L0)
    (body : ∀ (p : Program) (l : Launch) (e : Env) (R : Room) (s : State) (m : MethodId) (args : Array Value) (below : List Frame) (meth : Method) (c : Code) (b : Nat) (D : va_G) (dA : Nat → ClassId) (Q : State → Prop), ax_C p R s m args meth c b D dA y.2.2.1 h.length y.2.1 y.1.cls y.2.2.2.2 →
      (∀ (pc : Nat) (L : List (Option ax_V)) (x : Int), decode y.2.1 pc = .ok (.ireturn, 1) → (x = 0 ∨ x = 1) → r = some (iv x) → ax_G p l e R s m args below meth c b D dA y.2.2.1 h.length (ax_sz h) Q pc L [iv x] h') →
      ax_G p l e R s m args below meth c b D dA y.2.2.1 h.length (ax_sz h) Q 0 L0 [] h) : ax_Met y av h r h' := by
  subst hL
  exact ax_metz hpl hty hl hs hn body
theorem ax_mv {y : ax_M} {av : List ax_V} {L0 : List (Option ax_V)} {h' : ax_H} (hpl : plainName y.1.cls = true) (hty : y.2.2.2.1 = none) (hl : h.length ≤ h'.length) (hs : ax_sz h ≤ ax_sz h') (hn : av.length ≤ y.2.2.1) (hL : av.map some ++ List.replicate (y.2.2.1 - av.length) none = L0)
    (body : ∀ (p : Program) (l : Launch) (e : Env) (R : Room) (s : State) (m : MethodId) (args : Array Value) (below : List Frame) (meth : Method) (c : Code) (b : Nat) (D : va_G) (dA : Nat → ClassId) (Q : State → Prop), ax_C p R s m args meth c b D dA y.2.2.1 h.length y.2.1 y.1.cls y.2.2.2.2 → meth.name = y.1.name → h'.length ≤ h.length + R.cells → ax_sz h' ≤ ax_sz h + R.slots →
      (∀ (pc : Nat) (L : List (Option ax_V)), decode y.2.1 pc = .ok (.return_, 1) → ax_G p l e R s m args below meth c b D dA y.2.2.1 h.length (ax_sz h) Q pc L [] h') →
      ax_G p l e R s m args below meth c b D dA y.2.2.1 h.length (ax_sz h) Q 0 L0 [] h) : ax_Met y av h none h' := by
  subst hL
  exact ax_metv hpl hty hl hs hn body
theorem ax_ma {y : ax_M} {av : List ax_V} {L0 : List (Option ax_V)} {h' : ax_H} {r : Option ax_V} {ty : FieldType} (hpl : plainName y.1.cls = true) (hty : y.2.2.2.1 = some ty) (hrt : (∃ n, ty = .object n) ∨ ∃ t, ty = .array t) (hl : h.length ≤ h'.length) (hs : ax_sz h ≤ ax_sz h') (hn : av.length ≤ y.2.2.1) (hL : av.map some ++ List.replicate (y.2.2.1 - av.length) none = L0)
    (body : ∀ (p : Program) (l : Launch) (e : Env) (R : Room) (s : State) (m : MethodId) (args : Array Value) (below : List Frame) (meth : Method) (c : Code) (b : Nat) (D : va_G) (dA : Nat → ClassId) (Q : State → Prop), ax_C p R s m args meth c b D dA y.2.2.1 h.length y.2.1 y.1.cls y.2.2.2.2 →
      (∀ (pc : Nat) (L : List (Option ax_V)) (o : Option Nat), decode y.2.1 pc = .ok (.areturn, 1) → r = some (.inr o) → ax_G p l e R s m args below meth c b D dA y.2.2.1 h.length (ax_sz h) Q pc L [.inr o] h') →
      ax_G p l e R s m args below meth c b D dA y.2.2.1 h.length (ax_sz h) Q 0 L0 [] h) : ax_Met y av h r h' := by
  subst hL
  exact ax_meta hpl hty hrt hl hs hn body
end AXB
/-! one heap like another but for the cells from lo up to hi -/
def ax_sm (lo hi : Nat) (h h' : ax_H) : Prop := (h'.length = h.length ∧ ax_sz h' = ax_sz h) ∧ ∀ k, (k < lo ∨ hi ≤ k) → h'[k]? = h[k]?
theorem ax_sm.rf {lo hi : Nat} (h : ax_H) : ax_sm lo hi h h := ⟨⟨rfl, rfl⟩, fun _ _ => rfl⟩
theorem ax_sm.tr {lo hi : Nat} {h h1 h2 : ax_H} (a : ax_sm lo hi h h1) (b : ax_sm lo hi h1 h2) : ax_sm lo hi h h2 := ⟨⟨b.1.1.trans a.1.1, b.1.2.trans a.1.2⟩, fun k hk => (b.2 k hk).trans (a.2 k hk)⟩
theorem ax_sm.wide {lo hi lo2 hi2 : Nat} {h h1 : ax_H} (a : ax_sm lo hi h h1) (q1 : lo2 ≤ lo) (q2 : hi ≤ hi2) : ax_sm lo2 hi2 h h1 := ⟨a.1, fun k hk => a.2 k (by omega)⟩
theorem ax_sm.set {lo hi : Nat} {h : ax_H} {a : Nat} {e0 e : ax_E} (ha : h[a]? = some e0) (hz : ax_z e = ax_z e0) (h1 : lo ≤ a) (h2 : a < hi) : ax_sm lo hi h (h.set a e) := ⟨⟨List.length_set, ax_sz_set h a e e0 ha hz⟩, fun k hk => List.getElem?_set_ne (by omega)⟩
theorem ax_gs {h : ax_H} {a : Nat} {e0 e : ax_E} (ha : h[a]? = some e0) : (h.set a e)[a]? = some e := List.getElem?_set_self (List.getElem?_eq_some_iff.mp ha).1
theorem ax_gn {h : ax_H} {a k : Nat} {e : ax_E} {x : Option ax_E} (hn : a ≠ k) (hk : h[k]? = x) : (h.set a e)[k]? = x := (List.getElem?_set_ne hn).trans hk
end
section
section AXN
variable {p : Program} {l : Launch} {e : Env} {R : Room} {s : State} {m : MethodId} {args : Array Value} {below : List Frame} {meth : Method} {c : Code} {b : Nat} {D : va_G} {dA : Nat → ClassId} {nL n0 z0 : Nat} {Q : State → Prop} {cc : ByteArray} {own : String} {ht : Nat} {pc : Nat} {L : List (Option ax_V)} {st : List ax_V} {h : ax_H}
/-- a method that makes no cells: it answers r and leaves h' with P r h' -/
def ax_Qr (b : Nat) (D : va_G) (dA : Nat → ClassId) (h : ax_H) (P : Option ax_V → ax_H → Prop) : Array Value → State → Outcome → State → Prop := fun a u o t => ∃ (r : Option ax_V) (h' : ax_H), P r h' ∧ (h'.length = h.length ∧ ax_sz h' = ax_sz h) ∧ ax_Qc b D dA r h' a u o t
def ax_Mt (y : ax_M) (av : List ax_V) (h : ax_H) (P : Option ax_V → ax_H → Prop) : Prop :=
  ∀ (l : Launch) (b : Nat) (D : va_G) (dA : Nat → ClassId), Met l y.1 (ax_ws y) (ax_rm y 0 0) (ax_Pc b D dA av h) (ax_Qr b D dA h P) 0 0 (fun q => b ≤ q)
theorem ax_mt0 {y : ax_M} {av : List ax_V} {L0 : List (Option ax_V)} {P : Option ax_V → ax_H → Prop} (hpl : plainName y.1.cls = true) (hn : av.length ≤ y.2.2.1) (hL : av.map some ++ List.replicate (y.2.2.1 - av.length) none = L0)
    (body : ∀ (p : Program) (l : Launch) (e : Env) (R : Room) (s : State) (m : MethodId) (args : Array Value) (below : List Frame) (meth : Method) (c : Code) (b : Nat) (D : va_G) (dA : Nat → ClassId), ax_C p R s m args meth c b D dA y.2.2.1 h.length y.2.1 y.1.cls y.2.2.2.2 → meth.sig.returnType = y.2.2.2.1 →
      ax_G p l e R s m args below meth c b D dA y.2.2.1 h.length (ax_sz h) (MQ below (ax_Qr b D dA h P) args s 0 0 (fun q => b ≤ q)) 0 L0 [] h) : ax_Mt y av h P := by
  intro l b D dA
  subst hL
  refine Met.ofW (cc := y.2.1) (maxL := y.2.2.1) (ret := y.2.2.2.1) hpl rfl ?_
  intro p e s m args below meth c s₁ B hml hv
  obtain ⟨rfl, hsz, hP, hK⟩ := hv
  have hts := atoms_spec (ws := ax_ws y) B.pre
  have hown : s.vm.findClass y.1.cls = some m.cls := findClass_of_methodNamed B.named
  have hcat : ∀ w ∈ av.map (ax_v b), w.category = 1 := fun w hw => by
    obtain ⟨v, -, rfl⟩ := List.mem_map.mp hw
    exact ax_cat b v
  have hlen := lg_sl1 (av.map (ax_v b)) hcat
  rw [List.length_map] at hlen
  have hle := lv_entry (av.map (ax_v b)) (n := y.2.2.1) (by rw [hlen]; exact hn)
  rw [lg_entry_eq]
  generalize (lg_sl (av.map (ax_v b)) ++ List.replicate (y.2.2.1 - (lg_sl (av.map (ax_v b))).length) Slot.unset).toArray = ls at hle ⊢
  refine body p l e _ s m _ below meth c b D dA ⟨B.exec, B.bytes, hml, hown, fun w hw => hts w (List.mem_cons_of_mem _ hw), hK, rfl, rfl, hsz, B.notSynchronized⟩ B.returns s.heap ls [] 0 0 ?_
  refine ⟨hsz, hP, fun _ _ => rfl, (fun _ h => by cases h), ⟨hle.1, hle.2.1, fun i v hi => ?_⟩, by omega, by omega, by omega, by omega⟩
  have hi2 : av[i]? = some v := by
    by_cases hq : i < (av.map some).length
    · rw [List.getElem?_append_left hq, List.getElem?_map] at hi
      cases hx : av[i]? with
      | none => rw [hx] at hi; cases hi
      | some w => rw [hx] at hi; cases hi; rfl
    · rw [List.getElem?_append_right (by omega)] at hi
      have := List.mem_of_getElem? hi
      have := List.eq_of_mem_replicate this
      cases this
  have := lv_args1 (av.map (ax_v b)) 0 i (ax_v b v) hcat (by rw [List.getElem?_map, hi2]; rfl)
  rw [Nat.zero_add] at this
  exact hle.2.2 _ this
theorem ax_qr {P : Option ax_V → ax_H → Prop} {hh : ax_H} {r : Option ax_V} {H : Heap} {ls : Array Slot} {locs : List Loc} {cells slots : Nat} (I : ax_I R s b D dA nL n0 z0 L hh H ls locs cells slots) {t : State} (ht : t.heap = H) {a : Array Value} {o : Outcome} (hP : P r hh) (hz : hh.length = h.length ∧ ax_sz hh = ax_sz h) (ho : o = .returned (r.map (ax_v b))) : ax_Qr b D dA h P a s o t := ⟨r, hh, hP, hz, ax_q I ht ho⟩
theorem ax_ri {y : ax_M} {av : List ax_V} {L0 : List (Option ax_V)} {P : Option ax_V → ax_H → Prop} (hpl : plainName y.1.cls = true) (hty : y.2.2.2.1 = some .int) (hn : av.length ≤ y.2.2.1) (hL : av.map some ++ List.replicate (y.2.2.1 - av.length) none = L0)
    (body : ∀ (p : Program) (l : Launch) (e : Env) (R : Room) (s : State) (m : MethodId) (args : Array Value) (below : List Frame) (meth : Method) (c : Code) (b : Nat) (D : va_G) (dA : Nat → ClassId) (Q : State → Prop), ax_C p R s m args meth c b D dA y.2.2.1 h.length y.2.1 y.1.cls y.2.2.2.2 →
      (∀ (pc : Nat) (L : List (Option ax_V)) (x : Int) (hh : ax_H), decode y.2.1 pc = .ok (.ireturn, 1) → P (some (iv x)) hh → (hh.length = h.length ∧ ax_sz hh = ax_sz h) → ax_G p l e R s m args below meth c b D dA y.2.2.1 h.length (ax_sz h) Q pc L [iv x] hh) →
      ax_G p l e R s m args below meth c b D dA y.2.2.1 h.length (ax_sz h) Q 0 L0 [] h) : ax_Mt y av h P :=
  ax_mt0 hpl hn hL (fun p l e R s m args below meth c b D dA C hr => body p l e R s m args below meth c b D dA _ C (fun pc L x hh hd hx hz H ls locs cells slots I => by
    have e1 : cells = 0 := by have := I.2.2.2.2.2.1; omega
    have e2 : slots = 0 := by have := I.2.2.2.2.2.2.1; omega
    subst e1; subst e2
    exact W.zret C.1 C.2.1 (hr.trans hty) rfl (fun t ht _ => ax_qr (r := some (iv x)) I ht hx hz rfl) I.2.2.2.1 hd C.2.2.2.2.2.2.2.2.2))
theorem ax_rz {y : ax_M} {av : List ax_V} {L0 : List (Option ax_V)} {P : Option ax_V → ax_H → Prop} (hpl : plainName y.1.cls = true) (hty : y.2.2.2.1 = some .boolean) (hn : av.length ≤ y.2.2.1) (hL : av.map some ++ List.replicate (y.2.2.1 - av.length) none = L0)
    (body : ∀ (p : Program) (l : Launch) (e : Env) (R : Room) (s : State) (m : MethodId) (args : Array Value) (below : List Frame) (meth : Method) (c : Code) (b : Nat) (D : va_G) (dA : Nat → ClassId) (Q : State → Prop), ax_C p R s m args meth c b D dA y.2.2.1 h.length y.2.1 y.1.cls y.2.2.2.2 →
      (∀ (pc : Nat) (L : List (Option ax_V)) (x : Int) (hh : ax_H), decode y.2.1 pc = .ok (.ireturn, 1) → (x = 0 ∨ x = 1) → P (some (iv x)) hh → (hh.length = h.length ∧ ax_sz hh = ax_sz h) → ax_G p l e R s m args below meth c b D dA y.2.2.1 h.length (ax_sz h) Q pc L [iv x] hh) →
      ax_G p l e R s m args below meth c b D dA y.2.2.1 h.length (ax_sz h) Q 0 L0 [] h) : ax_Mt y av h P :=
  ax_mt0 hpl hn hL (fun p l e R s m args below meth c b D dA C hr => body p l e R s m args below meth c b D dA _ C (fun pc L x hh hd h01 hx hz H ls locs cells slots I => by
    have e1 : cells = 0 := by have := I.2.2.2.2.2.1; omega
    have e2 : slots = 0 := by have := I.2.2.2.2.2.2.1; omega
    subst e1; subst e2
    exact W.zret C.1 C.2.1 (hr.trans hty) (by rcases h01 with rfl | rfl <;> rfl) (fun t ht _ => ax_qr (r := some (iv x)) I ht hx hz rfl) I.2.2.2.1 hd C.2.2.2.2.2.2.2.2.2))
theorem ax_rv {y : ax_M} {av : List ax_V} {L0 : List (Option ax_V)} {P : Option ax_V → ax_H → Prop} (hpl : plainName y.1.cls = true) (hty : y.2.2.2.1 = none) (hn : av.length ≤ y.2.2.1) (hL : av.map some ++ List.replicate (y.2.2.1 - av.length) none = L0)
    (body : ∀ (p : Program) (l : Launch) (e : Env) (R : Room) (s : State) (m : MethodId) (args : Array Value) (below : List Frame) (meth : Method) (c : Code) (b : Nat) (D : va_G) (dA : Nat → ClassId) (Q : State → Prop), ax_C p R s m args meth c b D dA y.2.2.1 h.length y.2.1 y.1.cls y.2.2.2.2 →
      (∀ (pc : Nat) (L : List (Option ax_V)) (hh : ax_H), decode y.2.1 pc = .ok (.return_, 1) → P none hh → (hh.length = h.length ∧ ax_sz hh = ax_sz h) → ax_G p l e R s m args below meth c b D dA y.2.2.1 h.length (ax_sz h) Q pc L [] hh) →
      ax_G p l e R s m args below meth c b D dA y.2.2.1 h.length (ax_sz h) Q 0 L0 [] h) : ax_Mt y av h P :=
  ax_mt0 hpl hn hL (fun p l e R s m args below meth c b D dA C hr => body p l e R s m args below meth c b D dA _ C (fun pc L hh hd hx hz H ls locs cells slots I => by
    have e1 : cells = 0 := by have := I.2.2.2.2.2.1; omega
    have e2 : slots = 0 := by have := I.2.2.2.2.2.2.1; omega
    subst e1; subst e2
    exact W.vret C.1 C.2.1 (hr.trans hty) (fun t ht _ => ax_qr (r := none) I ht hx hz rfl) I.2.2.2.1 hd C.2.2.2.2.2.2.2.2.2))
theorem ax_ra {y : ax_M} {av : List ax_V} {L0 : List (Option ax_V)} {P : Option ax_V → ax_H → Prop} {ty : FieldType} (hpl : plainName y.1.cls = true) (hty : y.2.2.2.1 = some ty) (hrt : (∃ n, ty = .object n) ∨ ∃ t, ty = .array t) (hn : av.length ≤ y.2.2.1) (hL : av.map some ++ List.replicate (y.2.2.1 - av.length) none = L0)
    (body : ∀ (p : Program) (l : Launch) (e : Env) (R : Room) (s : State) (m : MethodId) (args : Array Value) (below : List Frame) (meth : Method) (c : Code) (b : Nat) (D : va_G) (dA : Nat → ClassId) (Q : State → Prop), ax_C p R s m args meth c b D dA y.2.2.1 h.length y.2.1 y.1.cls y.2.2.2.2 →
      (∀ (pc : Nat) (L : List (Option ax_V)) (o : Option Nat) (hh : ax_H), decode y.2.1 pc = .ok (.areturn, 1) → P (some (.inr o)) hh → (hh.length = h.length ∧ ax_sz hh = ax_sz h) → ax_G p l e R s m args below meth c b D dA y.2.2.1 h.length (ax_sz h) Q pc L [.inr o] hh) →
      ax_G p l e R s m args below meth c b D dA y.2.2.1 h.length (ax_sz h) Q 0 L0 [] h) : ax_Mt y av h P :=
  ax_mt0 hpl hn hL (fun p l e R s m args below meth c b D dA C hr => body p l e R s m args below meth c b D dA _ C (fun pc L o hh hd hx hz H ls locs cells slots I => by
    have e1 : cells = 0 := by have := I.2.2.2.2.2.1; omega
    have e2 : slots = 0 := by have := I.2.2.2.2.2.2.1; omega
    subst e1; subst e2
    exact W.aret C.1 C.2.1 (hr.trans hty) hrt (by cases o with
      | none => exact Or.inl rfl
      | some a => exact Or.inr ⟨_, rfl⟩) (fun t ht _ => ax_qr (r := some (.inr o)) I ht hx hz rfl) I.2.2.2.1 hd C.2.2.2.2.2.2.2.2.2))
/-! calls -/
theorem ax_afterR (C : ax_C p R s m args meth c b D dA nL n0 cc own ht) {H : Heap} {ls : Array Slot} {locs : List Loc} {cells slots : Nat} (I : ax_I R s b D dA nL n0 z0 L h H ls locs cells slots) {stk : List Value} {rest : List ax_V} {P : Option ax_V → ax_H → Prop} {a : Array Value}
    (run : va_Run p l e R s m args below meth c H locs cells slots 0 0 (F0 m pc ls stk) (rest.map (ax_v b)) (ax_Qr b D dA h P a) (fun q => b ≤ q)) (k : ∀ (r : Option ax_V) (h1 : ax_H), P r h1 → (h1.length = h.length ∧ ax_sz h1 = ax_sz h) → ax_G p l e R s m args below meth c b D dA nL n0 z0 Q (pc + 3) (L) (r.toList ++ rest) (h1)) : W p l e R s m args below meth c H locs cells slots Q (F0 m pc ls stk) := by
  intro T hT X
  obtain ⟨v, st₀, t, T', Lc, e0, X', hL, e1, e2, ⟨r, h1, hP, hz, hv, hz1, hp1, hq1⟩, go⟩ := run T hT X
  obtain ⟨i1, i2, i3, i4, i5, i6, i7, i8, i9⟩ := I
  have I' : ax_I R s b D dA nL n0 z0 L h1 T'.heap ls (locs ++ Lc) (cells + 0) (slots + 0) := by
    refine ⟨by rw [e1]; exact hz1, by rw [e1]; exact hp1, fun q hq => ?_, fun x hx => ?_, i5, by omega, by omega, by omega, by omega⟩
    · rw [e1, hq1 q hq, e0]
      exact i3 q hq
    · rcases List.mem_append.mp hx with q | q
      · exact i4 x q
      · exact hL x q
  obtain ⟨t2, a1, b1⟩ := k r h1 hP hz T'.heap ls _ _ _ I' T' rfl X'
  refine ⟨t2, go t2 ?_, b1⟩
  have hv2 : v = r.map (ax_v b) := by cases hv; rfl
  have hstk : v.toList ++ rest.map (ax_v b) = (r.toList ++ rest).map (ax_v b) := by subst hv2; cases r <;> rfl
  rw [hstk]
  exact a1
theorem g_RV (C : ax_C p R s m args meth c b D dA nL n0 cc own ht) {y : ax_M} {n a ci idx : Nat} {av rest : List ax_V} {fs : List ax_V} {P : Option ax_V → ax_H → Prop} {q : vw_C} (M : ax_Mt y (rv a :: av) h P) (hd : decode cc pc = .ok (.invokevirtual idx, 3)) (cw : ax_cw y n) (hl : Cond.methodLink own idx y.1 ∈ ax_tb) (hi : Cond.instanceMethod y.1 ∈ ax_tb) (hse : Cond.selects y.1.cls y.1 y.1 ∈ ax_tb) (hh : y.2.2.2.2 + 1 ≤ ht) (hn : av.length = n) (ha : h[a]? = some (.inr (ci, fs))) (hq : vwCl[ci]? = some q) (hq1 : q.1 = y.1.cls) (hst : st = av.reverse ++ rv a :: rest) (hr : rest.length ≤ 8) (k : ∀ (r : Option ax_V) (h1 : ax_H), P r h1 → (h1.length = h.length ∧ ax_sz h1 = ax_sz h) → ax_G p l e R s m args below meth c b D dA nL n0 z0 Q (pc + 3) (L) (r.toList ++ rest) (h1)) : ax_G p l e R s m args below meth c b D dA nL n0 z0 Q (pc) (L) (st) (h) := fun H ls locs cells slots I => by
  obtain ⟨cell, g1, g2, g3⟩ := va_recv C.2.2.2.2.2.1 I.2.1 hq (ax_w_at ha)
  rw [hq1] at g3
  have hp := ax_pre C I (rv a :: av)
  have hR : cells + 0 ≤ R.cells ∧ slots + 0 ≤ R.slots := by obtain ⟨i1, i2, i3, i4, i5, i6, i7, i8, i9⟩ := I; omega
  exact ax_afterR C I (va_runV (As := av.map (ax_v b)) (rest := rest.map (ax_v b)) ⟨C.1, C.2.1, C.2.2.1, C.2.2.2.1, C.2.2.2.2.1⟩ (M l b D dA) ⟨ax_cb C cw hl hh, C.2.2.2.2.1 _ hi, C.2.2.2.2.1 _ hse⟩ ⟨hp.1, ⟨cell, g1, g2, g3⟩, hp.2⟩ rfl (by rw [List.length_map]; exact hn) I.2.2.2.2.1.1 (by rw [hst]; simp [ax_v]) (lv_room (by rw [ax_catsum]; exact hr)) hd hR) k
theorem g_RS (C : ax_C p R s m args meth c b D dA nL n0 cc own ht) {y : ax_M} {n idx : Nat} {av rest : List ax_V} {P : Option ax_V → ax_H → Prop} (M : ax_Mt y av h P) (hd : decode cc pc = .ok (.invokestatic idx, 3)) (cw : ax_cw y n) (hl : Cond.methodLink own idx y.1 ∈ ax_tb) (hi : Cond.static y.1 ∈ ax_tb) (hh : y.2.2.2.2 + 1 ≤ ht) (hn : av.length = n) (hst : st = av.reverse ++ rest) (hr : rest.length ≤ 8) (k : ∀ (r : Option ax_V) (h1 : ax_H), P r h1 → (h1.length = h.length ∧ ax_sz h1 = ax_sz h) → ax_G p l e R s m args below meth c b D dA nL n0 z0 Q (pc + 3) (L) (r.toList ++ rest) (h1)) : ax_G p l e R s m args below meth c b D dA nL n0 z0 Q (pc) (L) (st) (h) := fun H ls locs cells slots I => by
  have hR : cells + 0 ≤ R.cells ∧ slots + 0 ≤ R.slots := by obtain ⟨i1, i2, i3, i4, i5, i6, i7, i8, i9⟩ := I; omega
  exact ax_afterR C I (va_runS (As := av.map (ax_v b)) (rest := rest.map (ax_v b)) ⟨C.1, C.2.1, C.2.2.1, C.2.2.2.1, C.2.2.2.2.1⟩ (M l b D dA) ⟨ax_cb C cw hl hh, C.2.2.2.2.1 _ hi⟩ (ax_pre C I av) rfl (by rw [List.length_map]; exact hn) I.2.2.2.2.1.1 (by rw [hst]; simp) (lv_room (by rw [ax_catsum]; exact hr)) hd hR) k
end AXN
end
section
section OBJ
variable {p : Program} {l : Launch} {e : Env} {R : Room} {s : State} {m : MethodId} {args : Array Value} {below : List Frame} {meth : Method} {c : Code} {b : Nat} {D : va_G} {dA : Nat → ClassId} {nL n0 z0 : Nat} {Q : State → Prop} {pc : Nat} {L : List (Option ax_V)} {st : List ax_V} {h hb : ax_H} {a : Nat}

/-- a Body: points (X k, Y k) of weight V k, k below n -/
def bo_at (h : ax_H) (a : Nat) (X : Nat → Int) (Y : Nat → Int) (V : Nat → Int) (n : Nat) : Prop := h[a]? = some (.inr (0, [rv (a + 1), rv (a + 2), rv (a + 3), iv (n : Int)])) ∧ h[a + 1]? = some (.inl (0, 7, .inl X)) ∧ h[a + 2]? = some (.inl (0, 7, .inl Y)) ∧ h[a + 3]? = some (.inl (0, 7, .inl V))
theorem bo_at.sm {X : Nat → Int} {Y : Nat → Int} {V : Nat → Int} {n : Nat} {h1 : ax_H} {lo hi : Nat} (B : bo_at h a X Y V n) (S : ax_sm lo hi h h1) (hn : a + 4 ≤ lo ∨ hi ≤ a) : bo_at h1 a X Y V n := by
  obtain ⟨q0, q1, q2, q3⟩ := B
  exact ⟨(S.2 a (by omega)).trans q0, (S.2 (a + 1) (by omega)).trans q1, (S.2 (a + 2) (by omega)).trans q2, (S.2 (a + 3) (by omega)).trans q3⟩
theorem bo_s_X {X : Nat → Int} {Y : Nat → Int} {V : Nat → Int} {n : Nat} {Z : Nat → Int} (B : bo_at h a X Y V n) (S : ax_sm a (a + 4) hb h) (k : ∀ hh : ax_H, bo_at hh a Z Y V n → ax_sm a (a + 4) hb hh → ax_G p l e R s m args below meth c b D dA nL n0 z0 Q pc L st hh) : ax_G p l e R s m args below meth c b D dA nL n0 z0 Q pc L st (h.set (a + 1) (.inl (0, 7, .inl Z))) := by
  obtain ⟨q0, q1, q2, q3⟩ := B
  exact k _ ⟨ax_gn (by omega) q0, ax_gs q1, ax_gn (by omega) q2, ax_gn (by omega) q3⟩ (S.tr (ax_sm.set q1 rfl (by omega) (by omega)))
theorem bo_s_Y {X : Nat → Int} {Y : Nat → Int} {V : Nat → Int} {n : Nat} {Z : Nat → Int} (B : bo_at h a X Y V n) (S : ax_sm a (a + 4) hb h) (k : ∀ hh : ax_H, bo_at hh a X Z V n → ax_sm a (a + 4) hb hh → ax_G p l e R s m args below meth c b D dA nL n0 z0 Q pc L st hh) : ax_G p l e R s m args below meth c b D dA nL n0 z0 Q pc L st (h.set (a + 2) (.inl (0, 7, .inl Z))) := by
  obtain ⟨q0, q1, q2, q3⟩ := B
  exact k _ ⟨ax_gn (by omega) q0, ax_gn (by omega) q1, ax_gs q2, ax_gn (by omega) q3⟩ (S.tr (ax_sm.set q2 rfl (by omega) (by omega)))
theorem bo_s_V {X : Nat → Int} {Y : Nat → Int} {V : Nat → Int} {n : Nat} {Z : Nat → Int} (B : bo_at h a X Y V n) (S : ax_sm a (a + 4) hb h) (k : ∀ hh : ax_H, bo_at hh a X Y Z n → ax_sm a (a + 4) hb hh → ax_G p l e R s m args below meth c b D dA nL n0 z0 Q pc L st hh) : ax_G p l e R s m args below meth c b D dA nL n0 z0 Q pc L st (h.set (a + 3) (.inl (0, 7, .inl Z))) := by
  obtain ⟨q0, q1, q2, q3⟩ := B
  exact k _ ⟨ax_gn (by omega) q0, ax_gn (by omega) q1, ax_gn (by omega) q2, ax_gs q3⟩ (S.tr (ax_sm.set q3 rfl (by omega) (by omega)))
theorem bo_s_n {X : Nat → Int} {Y : Nat → Int} {V : Nat → Int} {n : Nat} {Z : Int} (z : Nat) (hz : Z = (z : Int)) (B : bo_at h a X Y V n) (S : ax_sm a (a + 4) hb h) (k : ∀ hh : ax_H, bo_at hh a X Y V z → ax_sm a (a + 4) hb hh → ax_G p l e R s m args below meth c b D dA nL n0 z0 Q pc L st hh) : ax_G p l e R s m args below meth c b D dA nL n0 z0 Q pc L st (h.set a (.inr (0, [rv (a + 1), rv (a + 2), rv (a + 3), iv Z]))) := by
  subst hz
  obtain ⟨q0, q1, q2, q3⟩ := B
  exact k _ ⟨ax_gs q0, ax_gn (by omega) q1, ax_gn (by omega) q2, ax_gn (by omega) q3⟩ (S.tr (ax_sm.set q0 rfl (by omega) (by omega)))
/-- a Region -/
def rg_at (h : ax_H) (a : Nat) (xs : Nat → Int) (ys : Nat → Int) (sz : Nat) (rd : Nat → Int) (cn : Nat) : Prop := h[a]? = some (.inr (3, [rv (a + 1), rv (a + 2), iv (sz : Int), rv (a + 3), iv (cn : Int)])) ∧ h[a + 1]? = some (.inl (0, 128, .inl xs)) ∧ h[a + 2]? = some (.inl (0, 128, .inl ys)) ∧ h[a + 3]? = some (.inl (0, 256, .inl rd))
theorem rg_at.sm {xs : Nat → Int} {ys : Nat → Int} {sz : Nat} {rd : Nat → Int} {cn : Nat} {h1 : ax_H} {lo hi : Nat} (B : rg_at h a xs ys sz rd cn) (S : ax_sm lo hi h h1) (hn : a + 4 ≤ lo ∨ hi ≤ a) : rg_at h1 a xs ys sz rd cn := by
  obtain ⟨q0, q1, q2, q3⟩ := B
  exact ⟨(S.2 a (by omega)).trans q0, (S.2 (a + 1) (by omega)).trans q1, (S.2 (a + 2) (by omega)).trans q2, (S.2 (a + 3) (by omega)).trans q3⟩
theorem rg_s_xs {xs : Nat → Int} {ys : Nat → Int} {sz : Nat} {rd : Nat → Int} {cn : Nat} {Z : Nat → Int} (B : rg_at h a xs ys sz rd cn) (S : ax_sm a (a + 4) hb h) (k : ∀ hh : ax_H, rg_at hh a Z ys sz rd cn → ax_sm a (a + 4) hb hh → ax_G p l e R s m args below meth c b D dA nL n0 z0 Q pc L st hh) : ax_G p l e R s m args below meth c b D dA nL n0 z0 Q pc L st (h.set (a + 1) (.inl (0, 128, .inl Z))) := by
  obtain ⟨q0, q1, q2, q3⟩ := B
  exact k _ ⟨ax_gn (by omega) q0, ax_gs q1, ax_gn (by omega) q2, ax_gn (by omega) q3⟩ (S.tr (ax_sm.set q1 rfl (by omega) (by omega)))
theorem rg_s_ys {xs : Nat → Int} {ys : Nat → Int} {sz : Nat} {rd : Nat → Int} {cn : Nat} {Z : Nat → Int} (B : rg_at h a xs ys sz rd cn) (S : ax_sm a (a + 4) hb h) (k : ∀ hh : ax_H, rg_at hh a xs Z sz rd cn → ax_sm a (a + 4) hb hh → ax_G p l e R s m args below meth c b D dA nL n0 z0 Q pc L st hh) : ax_G p l e R s m args below meth c b D dA nL n0 z0 Q pc L st (h.set (a + 2) (.inl (0, 128, .inl Z))) := by
  obtain ⟨q0, q1, q2, q3⟩ := B
  exact k _ ⟨ax_gn (by omega) q0, ax_gn (by omega) q1, ax_gs q2, ax_gn (by omega) q3⟩ (S.tr (ax_sm.set q2 rfl (by omega) (by omega)))
theorem rg_s_rd {xs : Nat → Int} {ys : Nat → Int} {sz : Nat} {rd : Nat → Int} {cn : Nat} {Z : Nat → Int} (B : rg_at h a xs ys sz rd cn) (S : ax_sm a (a + 4) hb h) (k : ∀ hh : ax_H, rg_at hh a xs ys sz Z cn → ax_sm a (a + 4) hb hh → ax_G p l e R s m args below meth c b D dA nL n0 z0 Q pc L st hh) : ax_G p l e R s m args below meth c b D dA nL n0 z0 Q pc L st (h.set (a + 3) (.inl (0, 256, .inl Z))) := by
  obtain ⟨q0, q1, q2, q3⟩ := B
  exact k _ ⟨ax_gn (by omega) q0, ax_gn (by omega) q1, ax_gn (by omega) q2, ax_gs q3⟩ (S.tr (ax_sm.set q3 rfl (by omega) (by omega)))
theorem rg_s_sz {xs : Nat → Int} {ys : Nat → Int} {sz : Nat} {rd : Nat → Int} {cn : Nat} {Z : Int} (z : Nat) (hz : Z = (z : Int)) (B : rg_at h a xs ys sz rd cn) (S : ax_sm a (a + 4) hb h) (k : ∀ hh : ax_H, rg_at hh a xs ys z rd cn → ax_sm a (a + 4) hb hh → ax_G p l e R s m args below meth c b D dA nL n0 z0 Q pc L st hh) : ax_G p l e R s m args below meth c b D dA nL n0 z0 Q pc L st (h.set a (.inr (3, [rv (a + 1), rv (a + 2), iv Z, rv (a + 3), iv (cn : Int)]))) := by
  subst hz
  obtain ⟨q0, q1, q2, q3⟩ := B
  exact k _ ⟨ax_gs q0, ax_gn (by omega) q1, ax_gn (by omega) q2, ax_gn (by omega) q3⟩ (S.tr (ax_sm.set q0 rfl (by omega) (by omega)))
theorem rg_s_cn {xs : Nat → Int} {ys : Nat → Int} {sz : Nat} {rd : Nat → Int} {cn : Nat} {Z : Int} (z : Nat) (hz : Z = (z : Int)) (B : rg_at h a xs ys sz rd cn) (S : ax_sm a (a + 4) hb h) (k : ∀ hh : ax_H, rg_at hh a xs ys sz rd z → ax_sm a (a + 4) hb hh → ax_G p l e R s m args below meth c b D dA nL n0 z0 Q pc L st hh) : ax_G p l e R s m args below meth c b D dA nL n0 z0 Q pc L st (h.set a (.inr (3, [rv (a + 1), rv (a + 2), iv (sz : Int), rv (a + 3), iv Z]))) := by
  subst hz
  obtain ⟨q0, q1, q2, q3⟩ := B
  exact k _ ⟨ax_gs q0, ax_gn (by omega) q1, ax_gn (by omega) q2, ax_gn (by omega) q3⟩ (S.tr (ax_sm.set q0 rfl (by omega) (by omega)))
/-- a Cutting, its cells apart -/
def ct_at (h : ax_H) (a : Nat) (fd : Nat → Option Nat) (sz : Nat) (dx : Nat → Int) (dy : Nat → Int) (dw : Nat → Int) (en : Nat → Int) (pr : Nat) : Prop := h[a]? = some (.inr (2, [rv (a + 1), iv (sz : Int), rv (a + 2), rv (a + 3), rv (a + 4), rv (a + 5), iv (pr : Int)])) ∧ h[a + 1]? = some (.inl (3, 94, .inr fd)) ∧ h[a + 2]? = some (.inl (0, 42, .inl dx)) ∧ h[a + 3]? = some (.inl (0, 42, .inl dy)) ∧ h[a + 4]? = some (.inl (0, 42, .inl dw)) ∧ h[a + 5]? = some (.inl (0, 42, .inl en))
theorem ct_at.sm {fd : Nat → Option Nat} {sz : Nat} {dx : Nat → Int} {dy : Nat → Int} {dw : Nat → Int} {en : Nat → Int} {pr : Nat} {h1 : ax_H} {lo hi : Nat} (B : ct_at h a fd sz dx dy dw en pr) (S : ax_sm lo hi h h1) (hn : a + 6 ≤ lo ∨ hi ≤ a) : ct_at h1 a fd sz dx dy dw en pr := by
  obtain ⟨q0, q1, q2, q3, q4, q5⟩ := B
  exact ⟨(S.2 a (by omega)).trans q0, (S.2 (a + 1) (by omega)).trans q1, (S.2 (a + 2) (by omega)).trans q2, (S.2 (a + 3) (by omega)).trans q3, (S.2 (a + 4) (by omega)).trans q4, (S.2 (a + 5) (by omega)).trans q5⟩
theorem ct_s_fd {fd : Nat → Option Nat} {sz : Nat} {dx : Nat → Int} {dy : Nat → Int} {dw : Nat → Int} {en : Nat → Int} {pr : Nat} {Z : Nat → Option Nat} (B : ct_at h a fd sz dx dy dw en pr) (S : ax_sm a (a + 6) hb h) (k : ∀ hh : ax_H, ct_at hh a Z sz dx dy dw en pr → ax_sm a (a + 6) hb hh → ax_G p l e R s m args below meth c b D dA nL n0 z0 Q pc L st hh) : ax_G p l e R s m args below meth c b D dA nL n0 z0 Q pc L st (h.set (a + 1) (.inl (3, 94, .inr Z))) := by
  obtain ⟨q0, q1, q2, q3, q4, q5⟩ := B
  exact k _ ⟨ax_gn (by omega) q0, ax_gs q1, ax_gn (by omega) q2, ax_gn (by omega) q3, ax_gn (by omega) q4, ax_gn (by omega) q5⟩ (S.tr (ax_sm.set q1 rfl (by omega) (by omega)))
theorem ct_s_dx {fd : Nat → Option Nat} {sz : Nat} {dx : Nat → Int} {dy : Nat → Int} {dw : Nat → Int} {en : Nat → Int} {pr : Nat} {Z : Nat → Int} (B : ct_at h a fd sz dx dy dw en pr) (S : ax_sm a (a + 6) hb h) (k : ∀ hh : ax_H, ct_at hh a fd sz Z dy dw en pr → ax_sm a (a + 6) hb hh → ax_G p l e R s m args below meth c b D dA nL n0 z0 Q pc L st hh) : ax_G p l e R s m args below meth c b D dA nL n0 z0 Q pc L st (h.set (a + 2) (.inl (0, 42, .inl Z))) := by
  obtain ⟨q0, q1, q2, q3, q4, q5⟩ := B
  exact k _ ⟨ax_gn (by omega) q0, ax_gn (by omega) q1, ax_gs q2, ax_gn (by omega) q3, ax_gn (by omega) q4, ax_gn (by omega) q5⟩ (S.tr (ax_sm.set q2 rfl (by omega) (by omega)))
theorem ct_s_dy {fd : Nat → Option Nat} {sz : Nat} {dx : Nat → Int} {dy : Nat → Int} {dw : Nat → Int} {en : Nat → Int} {pr : Nat} {Z : Nat → Int} (B : ct_at h a fd sz dx dy dw en pr) (S : ax_sm a (a + 6) hb h) (k : ∀ hh : ax_H, ct_at hh a fd sz dx Z dw en pr → ax_sm a (a + 6) hb hh → ax_G p l e R s m args below meth c b D dA nL n0 z0 Q pc L st hh) : ax_G p l e R s m args below meth c b D dA nL n0 z0 Q pc L st (h.set (a + 3) (.inl (0, 42, .inl Z))) := by
  obtain ⟨q0, q1, q2, q3, q4, q5⟩ := B
  exact k _ ⟨ax_gn (by omega) q0, ax_gn (by omega) q1, ax_gn (by omega) q2, ax_gs q3, ax_gn (by omega) q4, ax_gn (by omega) q5⟩ (S.tr (ax_sm.set q3 rfl (by omega) (by omega)))
theorem ct_s_dw {fd : Nat → Option Nat} {sz : Nat} {dx : Nat → Int} {dy : Nat → Int} {dw : Nat → Int} {en : Nat → Int} {pr : Nat} {Z : Nat → Int} (B : ct_at h a fd sz dx dy dw en pr) (S : ax_sm a (a + 6) hb h) (k : ∀ hh : ax_H, ct_at hh a fd sz dx dy Z en pr → ax_sm a (a + 6) hb hh → ax_G p l e R s m args below meth c b D dA nL n0 z0 Q pc L st hh) : ax_G p l e R s m args below meth c b D dA nL n0 z0 Q pc L st (h.set (a + 4) (.inl (0, 42, .inl Z))) := by
  obtain ⟨q0, q1, q2, q3, q4, q5⟩ := B
  exact k _ ⟨ax_gn (by omega) q0, ax_gn (by omega) q1, ax_gn (by omega) q2, ax_gn (by omega) q3, ax_gs q4, ax_gn (by omega) q5⟩ (S.tr (ax_sm.set q4 rfl (by omega) (by omega)))
theorem ct_s_en {fd : Nat → Option Nat} {sz : Nat} {dx : Nat → Int} {dy : Nat → Int} {dw : Nat → Int} {en : Nat → Int} {pr : Nat} {Z : Nat → Int} (B : ct_at h a fd sz dx dy dw en pr) (S : ax_sm a (a + 6) hb h) (k : ∀ hh : ax_H, ct_at hh a fd sz dx dy dw Z pr → ax_sm a (a + 6) hb hh → ax_G p l e R s m args below meth c b D dA nL n0 z0 Q pc L st hh) : ax_G p l e R s m args below meth c b D dA nL n0 z0 Q pc L st (h.set (a + 5) (.inl (0, 42, .inl Z))) := by
  obtain ⟨q0, q1, q2, q3, q4, q5⟩ := B
  exact k _ ⟨ax_gn (by omega) q0, ax_gn (by omega) q1, ax_gn (by omega) q2, ax_gn (by omega) q3, ax_gn (by omega) q4, ax_gs q5⟩ (S.tr (ax_sm.set q5 rfl (by omega) (by omega)))
theorem ct_s_sz {fd : Nat → Option Nat} {sz : Nat} {dx : Nat → Int} {dy : Nat → Int} {dw : Nat → Int} {en : Nat → Int} {pr : Nat} {Z : Int} (z : Nat) (hz : Z = (z : Int)) (B : ct_at h a fd sz dx dy dw en pr) (S : ax_sm a (a + 6) hb h) (k : ∀ hh : ax_H, ct_at hh a fd z dx dy dw en pr → ax_sm a (a + 6) hb hh → ax_G p l e R s m args below meth c b D dA nL n0 z0 Q pc L st hh) : ax_G p l e R s m args below meth c b D dA nL n0 z0 Q pc L st (h.set a (.inr (2, [rv (a + 1), iv Z, rv (a + 2), rv (a + 3), rv (a + 4), rv (a + 5), iv (pr : Int)]))) := by
  subst hz
  obtain ⟨q0, q1, q2, q3, q4, q5⟩ := B
  exact k _ ⟨ax_gs q0, ax_gn (by omega) q1, ax_gn (by omega) q2, ax_gn (by omega) q3, ax_gn (by omega) q4, ax_gn (by omega) q5⟩ (S.tr (ax_sm.set q0 rfl (by omega) (by omega)))
theorem ct_s_pr {fd : Nat → Option Nat} {sz : Nat} {dx : Nat → Int} {dy : Nat → Int} {dw : Nat → Int} {en : Nat → Int} {pr : Nat} {Z : Int} (z : Nat) (hz : Z = (z : Int)) (B : ct_at h a fd sz dx dy dw en pr) (S : ax_sm a (a + 6) hb h) (k : ∀ hh : ax_H, ct_at hh a fd sz dx dy dw en z → ax_sm a (a + 6) hb hh → ax_G p l e R s m args below meth c b D dA nL n0 z0 Q pc L st hh) : ax_G p l e R s m args below meth c b D dA nL n0 z0 Q pc L st (h.set a (.inr (2, [rv (a + 1), iv (sz : Int), rv (a + 2), rv (a + 3), rv (a + 4), rv (a + 5), iv Z]))) := by
  subst hz
  obtain ⟨q0, q1, q2, q3, q4, q5⟩ := B
  exact k _ ⟨ax_gs q0, ax_gn (by omega) q1, ax_gn (by omega) q2, ax_gn (by omega) q3, ax_gn (by omega) q4, ax_gn (by omega) q5⟩ (S.tr (ax_sm.set q0 rfl (by omega) (by omega)))
/-- a Model -/
def mo_at (h : ax_H) (a : Nat) (sa : Nat → Int) (im : Nat → Int) (kp : Nat → Int) (xs : Nat → Int) (ys : Nat → Int) (pt : Nat) (co : Nat → Int) (cc : Nat) (us : Nat → Int) (vs : Nat → Int) (lw : Nat → Int) (ce : Nat) (fi : Nat → Int) (se : Nat → Int) : Prop := h[a]? = some (.inr (5, [rv (a + 1), rv (a + 2), rv (a + 3), rv (a + 4), rv (a + 5), iv (pt : Int), rv (a + 6), iv (cc : Int), rv (a + 7), rv (a + 8), rv (a + 9), iv (ce : Int), rv (a + 10), rv (a + 11)])) ∧ h[a + 1]? = some (.inl (0, 88, .inl sa)) ∧ h[a + 2]? = some (.inl (0, 176, .inl im)) ∧ h[a + 3]? = some (.inl (1, 2, .inl kp)) ∧ h[a + 4]? = some (.inl (0, 128, .inl xs)) ∧ h[a + 5]? = some (.inl (0, 128, .inl ys)) ∧ h[a + 6]? = some (.inl (0, 128, .inl co)) ∧ h[a + 7]? = some (.inl (0, 512, .inl us)) ∧ h[a + 8]? = some (.inl (0, 512, .inl vs)) ∧ h[a + 9]? = some (.inl (0, 512, .inl lw)) ∧ h[a + 10]? = some (.inl (0, 49, .inl fi)) ∧ h[a + 11]? = some (.inl (0, 49, .inl se))
theorem mo_at.sm {sa : Nat → Int} {im : Nat → Int} {kp : Nat → Int} {xs : Nat → Int} {ys : Nat → Int} {pt : Nat} {co : Nat → Int} {cc : Nat} {us : Nat → Int} {vs : Nat → Int} {lw : Nat → Int} {ce : Nat} {fi : Nat → Int} {se : Nat → Int} {h1 : ax_H} {lo hi : Nat} (B : mo_at h a sa im kp xs ys pt co cc us vs lw ce fi se) (S : ax_sm lo hi h h1) (hn : a + 12 ≤ lo ∨ hi ≤ a) : mo_at h1 a sa im kp xs ys pt co cc us vs lw ce fi se := by
  obtain ⟨q0, q1, q2, q3, q4, q5, q6, q7, q8, q9, q10, q11⟩ := B
  exact ⟨(S.2 a (by omega)).trans q0, (S.2 (a + 1) (by omega)).trans q1, (S.2 (a + 2) (by omega)).trans q2, (S.2 (a + 3) (by omega)).trans q3, (S.2 (a + 4) (by omega)).trans q4, (S.2 (a + 5) (by omega)).trans q5, (S.2 (a + 6) (by omega)).trans q6, (S.2 (a + 7) (by omega)).trans q7, (S.2 (a + 8) (by omega)).trans q8, (S.2 (a + 9) (by omega)).trans q9, (S.2 (a + 10) (by omega)).trans q10, (S.2 (a + 11) (by omega)).trans q11⟩
theorem mo_s_sa {sa : Nat → Int} {im : Nat → Int} {kp : Nat → Int} {xs : Nat → Int} {ys : Nat → Int} {pt : Nat} {co : Nat → Int} {cc : Nat} {us : Nat → Int} {vs : Nat → Int} {lw : Nat → Int} {ce : Nat} {fi : Nat → Int} {se : Nat → Int} {Z : Nat → Int} (B : mo_at h a sa im kp xs ys pt co cc us vs lw ce fi se) (S : ax_sm a (a + 12) hb h) (k : ∀ hh : ax_H, mo_at hh a Z im kp xs ys pt co cc us vs lw ce fi se → ax_sm a (a + 12) hb hh → ax_G p l e R s m args below meth c b D dA nL n0 z0 Q pc L st hh) : ax_G p l e R s m args below meth c b D dA nL n0 z0 Q pc L st (h.set (a + 1) (.inl (0, 88, .inl Z))) := by
  obtain ⟨q0, q1, q2, q3, q4, q5, q6, q7, q8, q9, q10, q11⟩ := B
  exact k _ ⟨ax_gn (by omega) q0, ax_gs q1, ax_gn (by omega) q2, ax_gn (by omega) q3, ax_gn (by omega) q4, ax_gn (by omega) q5, ax_gn (by omega) q6, ax_gn (by omega) q7, ax_gn (by omega) q8, ax_gn (by omega) q9, ax_gn (by omega) q10, ax_gn (by omega) q11⟩ (S.tr (ax_sm.set q1 rfl (by omega) (by omega)))
theorem mo_s_im {sa : Nat → Int} {im : Nat → Int} {kp : Nat → Int} {xs : Nat → Int} {ys : Nat → Int} {pt : Nat} {co : Nat → Int} {cc : Nat} {us : Nat → Int} {vs : Nat → Int} {lw : Nat → Int} {ce : Nat} {fi : Nat → Int} {se : Nat → Int} {Z : Nat → Int} (B : mo_at h a sa im kp xs ys pt co cc us vs lw ce fi se) (S : ax_sm a (a + 12) hb h) (k : ∀ hh : ax_H, mo_at hh a sa Z kp xs ys pt co cc us vs lw ce fi se → ax_sm a (a + 12) hb hh → ax_G p l e R s m args below meth c b D dA nL n0 z0 Q pc L st hh) : ax_G p l e R s m args below meth c b D dA nL n0 z0 Q pc L st (h.set (a + 2) (.inl (0, 176, .inl Z))) := by
  obtain ⟨q0, q1, q2, q3, q4, q5, q6, q7, q8, q9, q10, q11⟩ := B
  exact k _ ⟨ax_gn (by omega) q0, ax_gn (by omega) q1, ax_gs q2, ax_gn (by omega) q3, ax_gn (by omega) q4, ax_gn (by omega) q5, ax_gn (by omega) q6, ax_gn (by omega) q7, ax_gn (by omega) q8, ax_gn (by omega) q9, ax_gn (by omega) q10, ax_gn (by omega) q11⟩ (S.tr (ax_sm.set q2 rfl (by omega) (by omega)))
theorem mo_s_kp {sa : Nat → Int} {im : Nat → Int} {kp : Nat → Int} {xs : Nat → Int} {ys : Nat → Int} {pt : Nat} {co : Nat → Int} {cc : Nat} {us : Nat → Int} {vs : Nat → Int} {lw : Nat → Int} {ce : Nat} {fi : Nat → Int} {se : Nat → Int} {Z : Nat → Int} (B : mo_at h a sa im kp xs ys pt co cc us vs lw ce fi se) (S : ax_sm a (a + 12) hb h) (k : ∀ hh : ax_H, mo_at hh a sa im Z xs ys pt co cc us vs lw ce fi se → ax_sm a (a + 12) hb hh → ax_G p l e R s m args below meth c b D dA nL n0 z0 Q pc L st hh) : ax_G p l e R s m args below meth c b D dA nL n0 z0 Q pc L st (h.set (a + 3) (.inl (1, 2, .inl Z))) := by
  obtain ⟨q0, q1, q2, q3, q4, q5, q6, q7, q8, q9, q10, q11⟩ := B
  exact k _ ⟨ax_gn (by omega) q0, ax_gn (by omega) q1, ax_gn (by omega) q2, ax_gs q3, ax_gn (by omega) q4, ax_gn (by omega) q5, ax_gn (by omega) q6, ax_gn (by omega) q7, ax_gn (by omega) q8, ax_gn (by omega) q9, ax_gn (by omega) q10, ax_gn (by omega) q11⟩ (S.tr (ax_sm.set q3 rfl (by omega) (by omega)))
theorem mo_s_xs {sa : Nat → Int} {im : Nat → Int} {kp : Nat → Int} {xs : Nat → Int} {ys : Nat → Int} {pt : Nat} {co : Nat → Int} {cc : Nat} {us : Nat → Int} {vs : Nat → Int} {lw : Nat → Int} {ce : Nat} {fi : Nat → Int} {se : Nat → Int} {Z : Nat → Int} (B : mo_at h a sa im kp xs ys pt co cc us vs lw ce fi se) (S : ax_sm a (a + 12) hb h) (k : ∀ hh : ax_H, mo_at hh a sa im kp Z ys pt co cc us vs lw ce fi se → ax_sm a (a + 12) hb hh → ax_G p l e R s m args below meth c b D dA nL n0 z0 Q pc L st hh) : ax_G p l e R s m args below meth c b D dA nL n0 z0 Q pc L st (h.set (a + 4) (.inl (0, 128, .inl Z))) := by
  obtain ⟨q0, q1, q2, q3, q4, q5, q6, q7, q8, q9, q10, q11⟩ := B
  exact k _ ⟨ax_gn (by omega) q0, ax_gn (by omega) q1, ax_gn (by omega) q2, ax_gn (by omega) q3, ax_gs q4, ax_gn (by omega) q5, ax_gn (by omega) q6, ax_gn (by omega) q7, ax_gn (by omega) q8, ax_gn (by omega) q9, ax_gn (by omega) q10, ax_gn (by omega) q11⟩ (S.tr (ax_sm.set q4 rfl (by omega) (by omega)))
theorem mo_s_ys {sa : Nat → Int} {im : Nat → Int} {kp : Nat → Int} {xs : Nat → Int} {ys : Nat → Int} {pt : Nat} {co : Nat → Int} {cc : Nat} {us : Nat → Int} {vs : Nat → Int} {lw : Nat → Int} {ce : Nat} {fi : Nat → Int} {se : Nat → Int} {Z : Nat → Int} (B : mo_at h a sa im kp xs ys pt co cc us vs lw ce fi se) (S : ax_sm a (a + 12) hb h) (k : ∀ hh : ax_H, mo_at hh a sa im kp xs Z pt co cc us vs lw ce fi se → ax_sm a (a + 12) hb hh → ax_G p l e R s m args below meth c b D dA nL n0 z0 Q pc L st hh) : ax_G p l e R s m args below meth c b D dA nL n0 z0 Q pc L st (h.set (a + 5) (.inl (0, 128, .inl Z))) := by
  obtain ⟨q0, q1, q2, q3, q4, q5, q6, q7, q8, q9, q10, q11⟩ := B
  exact k _ ⟨ax_gn (by omega) q0, ax_gn (by omega) q1, ax_gn (by omega) q2, ax_gn (by omega) q3, ax_gn (by omega) q4, ax_gs q5, ax_gn (by omega) q6, ax_gn (by omega) q7, ax_gn (by omega) q8, ax_gn (by omega) q9, ax_gn (by omega) q10, ax_gn (by omega) q11⟩ (S.tr (ax_sm.set q5 rfl (by omega) (by omega)))
theorem mo_s_co {sa : Nat → Int} {im : Nat → Int} {kp : Nat → Int} {xs : Nat → Int} {ys : Nat → Int} {pt : Nat} {co : Nat → Int} {cc : Nat} {us : Nat → Int} {vs : Nat → Int} {lw : Nat → Int} {ce : Nat} {fi : Nat → Int} {se : Nat → Int} {Z : Nat → Int} (B : mo_at h a sa im kp xs ys pt co cc us vs lw ce fi se) (S : ax_sm a (a + 12) hb h) (k : ∀ hh : ax_H, mo_at hh a sa im kp xs ys pt Z cc us vs lw ce fi se → ax_sm a (a + 12) hb hh → ax_G p l e R s m args below meth c b D dA nL n0 z0 Q pc L st hh) : ax_G p l e R s m args below meth c b D dA nL n0 z0 Q pc L st (h.set (a + 6) (.inl (0, 128, .inl Z))) := by
  obtain ⟨q0, q1, q2, q3, q4, q5, q6, q7, q8, q9, q10, q11⟩ := B
  exact k _ ⟨ax_gn (by omega) q0, ax_gn (by omega) q1, ax_gn (by omega) q2, ax_gn (by omega) q3, ax_gn (by omega) q4, ax_gn (by omega) q5, ax_gs q6, ax_gn (by omega) q7, ax_gn (by omega) q8, ax_gn (by omega) q9, ax_gn (by omega) q10, ax_gn (by omega) q11⟩ (S.tr (ax_sm.set q6 rfl (by omega) (by omega)))
theorem mo_s_us {sa : Nat → Int} {im : Nat → Int} {kp : Nat → Int} {xs : Nat → Int} {ys : Nat → Int} {pt : Nat} {co : Nat → Int} {cc : Nat} {us : Nat → Int} {vs : Nat → Int} {lw : Nat → Int} {ce : Nat} {fi : Nat → Int} {se : Nat → Int} {Z : Nat → Int} (B : mo_at h a sa im kp xs ys pt co cc us vs lw ce fi se) (S : ax_sm a (a + 12) hb h) (k : ∀ hh : ax_H, mo_at hh a sa im kp xs ys pt co cc Z vs lw ce fi se → ax_sm a (a + 12) hb hh → ax_G p l e R s m args below meth c b D dA nL n0 z0 Q pc L st hh) : ax_G p l e R s m args below meth c b D dA nL n0 z0 Q pc L st (h.set (a + 7) (.inl (0, 512, .inl Z))) := by
  obtain ⟨q0, q1, q2, q3, q4, q5, q6, q7, q8, q9, q10, q11⟩ := B
  exact k _ ⟨ax_gn (by omega) q0, ax_gn (by omega) q1, ax_gn (by omega) q2, ax_gn (by omega) q3, ax_gn (by omega) q4, ax_gn (by omega) q5, ax_gn (by omega) q6, ax_gs q7, ax_gn (by omega) q8, ax_gn (by omega) q9, ax_gn (by omega) q10, ax_gn (by omega) q11⟩ (S.tr (ax_sm.set q7 rfl (by omega) (by omega)))
theorem mo_s_vs {sa : Nat → Int} {im : Nat → Int} {kp : Nat → Int} {xs : Nat → Int} {ys : Nat → Int} {pt : Nat} {co : Nat → Int} {cc : Nat} {us : Nat → Int} {vs : Nat → Int} {lw : Nat → Int} {ce : Nat} {fi : Nat → Int} {se : Nat → Int} {Z : Nat → Int} (B : mo_at h a sa im kp xs ys pt co cc us vs lw ce fi se) (S : ax_sm a (a + 12) hb h) (k : ∀ hh : ax_H, mo_at hh a sa im kp xs ys pt co cc us Z lw ce fi se → ax_sm a (a + 12) hb hh → ax_G p l e R s m args below meth c b D dA nL n0 z0 Q pc L st hh) : ax_G p l e R s m args below meth c b D dA nL n0 z0 Q pc L st (h.set (a + 8) (.inl (0, 512, .inl Z))) := by
  obtain ⟨q0, q1, q2, q3, q4, q5, q6, q7, q8, q9, q10, q11⟩ := B
  exact k _ ⟨ax_gn (by omega) q0, ax_gn (by omega) q1, ax_gn (by omega) q2, ax_gn (by omega) q3, ax_gn (by omega) q4, ax_gn (by omega) q5, ax_gn (by omega) q6, ax_gn (by omega) q7, ax_gs q8, ax_gn (by omega) q9, ax_gn (by omega) q10, ax_gn (by omega) q11⟩ (S.tr (ax_sm.set q8 rfl (by omega) (by omega)))
theorem mo_s_lw {sa : Nat → Int} {im : Nat → Int} {kp : Nat → Int} {xs : Nat → Int} {ys : Nat → Int} {pt : Nat} {co : Nat → Int} {cc : Nat} {us : Nat → Int} {vs : Nat → Int} {lw : Nat → Int} {ce : Nat} {fi : Nat → Int} {se : Nat → Int} {Z : Nat → Int} (B : mo_at h a sa im kp xs ys pt co cc us vs lw ce fi se) (S : ax_sm a (a + 12) hb h) (k : ∀ hh : ax_H, mo_at hh a sa im kp xs ys pt co cc us vs Z ce fi se → ax_sm a (a + 12) hb hh → ax_G p l e R s m args below meth c b D dA nL n0 z0 Q pc L st hh) : ax_G p l e R s m args below meth c b D dA nL n0 z0 Q pc L st (h.set (a + 9) (.inl (0, 512, .inl Z))) := by
  obtain ⟨q0, q1, q2, q3, q4, q5, q6, q7, q8, q9, q10, q11⟩ := B
  exact k _ ⟨ax_gn (by omega) q0, ax_gn (by omega) q1, ax_gn (by omega) q2, ax_gn (by omega) q3, ax_gn (by omega) q4, ax_gn (by omega) q5, ax_gn (by omega) q6, ax_gn (by omega) q7, ax_gn (by omega) q8, ax_gs q9, ax_gn (by omega) q10, ax_gn (by omega) q11⟩ (S.tr (ax_sm.set q9 rfl (by omega) (by omega)))
theorem mo_s_fi {sa : Nat → Int} {im : Nat → Int} {kp : Nat → Int} {xs : Nat → Int} {ys : Nat → Int} {pt : Nat} {co : Nat → Int} {cc : Nat} {us : Nat → Int} {vs : Nat → Int} {lw : Nat → Int} {ce : Nat} {fi : Nat → Int} {se : Nat → Int} {Z : Nat → Int} (B : mo_at h a sa im kp xs ys pt co cc us vs lw ce fi se) (S : ax_sm a (a + 12) hb h) (k : ∀ hh : ax_H, mo_at hh a sa im kp xs ys pt co cc us vs lw ce Z se → ax_sm a (a + 12) hb hh → ax_G p l e R s m args below meth c b D dA nL n0 z0 Q pc L st hh) : ax_G p l e R s m args below meth c b D dA nL n0 z0 Q pc L st (h.set (a + 10) (.inl (0, 49, .inl Z))) := by
  obtain ⟨q0, q1, q2, q3, q4, q5, q6, q7, q8, q9, q10, q11⟩ := B
  exact k _ ⟨ax_gn (by omega) q0, ax_gn (by omega) q1, ax_gn (by omega) q2, ax_gn (by omega) q3, ax_gn (by omega) q4, ax_gn (by omega) q5, ax_gn (by omega) q6, ax_gn (by omega) q7, ax_gn (by omega) q8, ax_gn (by omega) q9, ax_gs q10, ax_gn (by omega) q11⟩ (S.tr (ax_sm.set q10 rfl (by omega) (by omega)))
theorem mo_s_se {sa : Nat → Int} {im : Nat → Int} {kp : Nat → Int} {xs : Nat → Int} {ys : Nat → Int} {pt : Nat} {co : Nat → Int} {cc : Nat} {us : Nat → Int} {vs : Nat → Int} {lw : Nat → Int} {ce : Nat} {fi : Nat → Int} {se : Nat → Int} {Z : Nat → Int} (B : mo_at h a sa im kp xs ys pt co cc us vs lw ce fi se) (S : ax_sm a (a + 12) hb h) (k : ∀ hh : ax_H, mo_at hh a sa im kp xs ys pt co cc us vs lw ce fi Z → ax_sm a (a + 12) hb hh → ax_G p l e R s m args below meth c b D dA nL n0 z0 Q pc L st hh) : ax_G p l e R s m args below meth c b D dA nL n0 z0 Q pc L st (h.set (a + 11) (.inl (0, 49, .inl Z))) := by
  obtain ⟨q0, q1, q2, q3, q4, q5, q6, q7, q8, q9, q10, q11⟩ := B
  exact k _ ⟨ax_gn (by omega) q0, ax_gn (by omega) q1, ax_gn (by omega) q2, ax_gn (by omega) q3, ax_gn (by omega) q4, ax_gn (by omega) q5, ax_gn (by omega) q6, ax_gn (by omega) q7, ax_gn (by omega) q8, ax_gn (by omega) q9, ax_gn (by omega) q10, ax_gs q11⟩ (S.tr (ax_sm.set q11 rfl (by omega) (by omega)))
theorem mo_s_pt {sa : Nat → Int} {im : Nat → Int} {kp : Nat → Int} {xs : Nat → Int} {ys : Nat → Int} {pt : Nat} {co : Nat → Int} {cc : Nat} {us : Nat → Int} {vs : Nat → Int} {lw : Nat → Int} {ce : Nat} {fi : Nat → Int} {se : Nat → Int} {Z : Int} (z : Nat) (hz : Z = (z : Int)) (B : mo_at h a sa im kp xs ys pt co cc us vs lw ce fi se) (S : ax_sm a (a + 12) hb h) (k : ∀ hh : ax_H, mo_at hh a sa im kp xs ys z co cc us vs lw ce fi se → ax_sm a (a + 12) hb hh → ax_G p l e R s m args below meth c b D dA nL n0 z0 Q pc L st hh) : ax_G p l e R s m args below meth c b D dA nL n0 z0 Q pc L st (h.set a (.inr (5, [rv (a + 1), rv (a + 2), rv (a + 3), rv (a + 4), rv (a + 5), iv Z, rv (a + 6), iv (cc : Int), rv (a + 7), rv (a + 8), rv (a + 9), iv (ce : Int), rv (a + 10), rv (a + 11)]))) := by
  subst hz
  obtain ⟨q0, q1, q2, q3, q4, q5, q6, q7, q8, q9, q10, q11⟩ := B
  exact k _ ⟨ax_gs q0, ax_gn (by omega) q1, ax_gn (by omega) q2, ax_gn (by omega) q3, ax_gn (by omega) q4, ax_gn (by omega) q5, ax_gn (by omega) q6, ax_gn (by omega) q7, ax_gn (by omega) q8, ax_gn (by omega) q9, ax_gn (by omega) q10, ax_gn (by omega) q11⟩ (S.tr (ax_sm.set q0 rfl (by omega) (by omega)))
theorem mo_s_cc {sa : Nat → Int} {im : Nat → Int} {kp : Nat → Int} {xs : Nat → Int} {ys : Nat → Int} {pt : Nat} {co : Nat → Int} {cc : Nat} {us : Nat → Int} {vs : Nat → Int} {lw : Nat → Int} {ce : Nat} {fi : Nat → Int} {se : Nat → Int} {Z : Int} (z : Nat) (hz : Z = (z : Int)) (B : mo_at h a sa im kp xs ys pt co cc us vs lw ce fi se) (S : ax_sm a (a + 12) hb h) (k : ∀ hh : ax_H, mo_at hh a sa im kp xs ys pt co z us vs lw ce fi se → ax_sm a (a + 12) hb hh → ax_G p l e R s m args below meth c b D dA nL n0 z0 Q pc L st hh) : ax_G p l e R s m args below meth c b D dA nL n0 z0 Q pc L st (h.set a (.inr (5, [rv (a + 1), rv (a + 2), rv (a + 3), rv (a + 4), rv (a + 5), iv (pt : Int), rv (a + 6), iv Z, rv (a + 7), rv (a + 8), rv (a + 9), iv (ce : Int), rv (a + 10), rv (a + 11)]))) := by
  subst hz
  obtain ⟨q0, q1, q2, q3, q4, q5, q6, q7, q8, q9, q10, q11⟩ := B
  exact k _ ⟨ax_gs q0, ax_gn (by omega) q1, ax_gn (by omega) q2, ax_gn (by omega) q3, ax_gn (by omega) q4, ax_gn (by omega) q5, ax_gn (by omega) q6, ax_gn (by omega) q7, ax_gn (by omega) q8, ax_gn (by omega) q9, ax_gn (by omega) q10, ax_gn (by omega) q11⟩ (S.tr (ax_sm.set q0 rfl (by omega) (by omega)))
theorem mo_s_ce {sa : Nat → Int} {im : Nat → Int} {kp : Nat → Int} {xs : Nat → Int} {ys : Nat → Int} {pt : Nat} {co : Nat → Int} {cc : Nat} {us : Nat → Int} {vs : Nat → Int} {lw : Nat → Int} {ce : Nat} {fi : Nat → Int} {se : Nat → Int} {Z : Int} (z : Nat) (hz : Z = (z : Int)) (B : mo_at h a sa im kp xs ys pt co cc us vs lw ce fi se) (S : ax_sm a (a + 12) hb h) (k : ∀ hh : ax_H, mo_at hh a sa im kp xs ys pt co cc us vs lw z fi se → ax_sm a (a + 12) hb hh → ax_G p l e R s m args below meth c b D dA nL n0 z0 Q pc L st hh) : ax_G p l e R s m args below meth c b D dA nL n0 z0 Q pc L st (h.set a (.inr (5, [rv (a + 1), rv (a + 2), rv (a + 3), rv (a + 4), rv (a + 5), iv (pt : Int), rv (a + 6), iv (cc : Int), rv (a + 7), rv (a + 8), rv (a + 9), iv Z, rv (a + 10), rv (a + 11)]))) := by
  subst hz
  obtain ⟨q0, q1, q2, q3, q4, q5, q6, q7, q8, q9, q10, q11⟩ := B
  exact k _ ⟨ax_gs q0, ax_gn (by omega) q1, ax_gn (by omega) q2, ax_gn (by omega) q3, ax_gn (by omega) q4, ax_gn (by omega) q5, ax_gn (by omega) q6, ax_gn (by omega) q7, ax_gn (by omega) q8, ax_gn (by omega) q9, ax_gn (by omega) q10, ax_gn (by omega) q11⟩ (S.tr (ax_sm.set q0 rfl (by omega) (by omega)))
end OBJ
end
section
/-! small rows on numbers -/
theorem mb {u x U M : Int} (h1 : -U ≤ u ∧ u ≤ U) (h3 : 0 ≤ x ∧ x ≤ M) : -(U * M) ≤ u * x ∧ u * x ≤ U * M := by
  have hU : 0 ≤ U := by omega
  have a1 : u * x ≤ U * x := Int.mul_le_mul_of_nonneg_right h1.2 h3.1
  have a2 : U * x ≤ U * M := Int.mul_le_mul_of_nonneg_left h3.2 hU
  have a3 : (-U) * x ≤ u * x := Int.mul_le_mul_of_nonneg_right h1.1 h3.1
  have a4 : (-U) * x = -(U * x) := Int.neg_mul U x
  omega
theorem ax_orN (x y : Nat) : Int32.ofInt (x : Int) ||| Int32.ofInt (y : Int) = Int32.ofInt ((x ||| y : Nat) : Int) := by
  apply Int32.toBitVec_inj.1
  simp only [Int32.toBitVec_or, Int32.toBitVec_ofInt, BitVec.ofInt_natCast]
  apply BitVec.eq_of_getLsbD_eq
  intro i hi
  simp [hi]
theorem ax_andN (x y : Nat) : Int32.ofInt (x : Int) &&& Int32.ofInt (y : Int) = Int32.ofInt ((x &&& y : Nat) : Int) := by
  apply Int32.toBitVec_inj.1
  simp only [Int32.toBitVec_and, Int32.toBitVec_ofInt, BitVec.ofInt_natCast]
  apply BitVec.eq_of_getLsbD_eq
  intro i hi
  simp [hi]
theorem ax_1p (k : Nat) : (1 : Int) * 2 ^ k = ((2 ^ k : Nat) : Int) := by simp
/-! Body -/
def bo_find (X Y : Nat → Int) (x y : Int) : Nat → Nat → Int
  | 0, _ => -1
  | d + 1, k => if X k = x ∧ Y k = y then (k : Int) else bo_find X Y x y d (k + 1)
def bo_ok (X Y V : Nat → Int) (n : Nat) : Prop := n ≤ 7 ∧ ∀ k, k < n → (0 ≤ X k ∧ X k ≤ 12) ∧ (0 ≤ Y k ∧ Y k ≤ 12) ∧ (0 ≤ V k ∧ V k ≤ 50)
theorem t_has {h : ax_H} {a n : Nat} {X Y V : Nat → Int} (hB : bo_at h a X Y V n) (hn : n ≤ 7) {k : Int} (hk : -2147483648 ≤ k ∧ k < 2147483648) : ax_Met MX0_has [rv a, iv k] h (some (iv (if 0 ≤ k ∧ k < n then 1 else 0))) h := by
  obtain ⟨h0, h1, h2, h3⟩ := hB
  refine ax_mz (L0 := [some (rv a), some (iv k)]) rfl rfl (Nat.le_refl _) (Nat.le_refl _) (Nat.le_of_ble_eq_true rfl) rfl ?_
  intro p9 l9 e9 R9 s9 m9 args9 below9 meth9 c9 b9 D9 dA9 Q9 C kr
  refine g_iload_n C dX0_has_0 rfl ?_
  refine g_if_lt C dX0_has_1 (tgt := 16) (by decide) (by omega) (fun h1 => ?_) (fun h1 => ?_)
  · refine g_iconst C dX0_has_16 ?_
    first | exact kr _ _ _ dX0_has_17 (Or.inr rfl) (by rw [if_pos (by omega)]) | exact kr _ _ _ dX0_has_17 (Or.inl rfl) (by rw [if_neg (by omega)])
  · refine g_iload_n C dX0_has_4 rfl ?_
    refine g_aload_n C dX0_has_5 rfl ?_
    refine g_get C FX0_21 dX0_has_6 (by assumption) rfl ?_
    refine g_icmp_ge C dX0_has_9 (tgt := 16) (by decide) (by omega) (by omega) (fun h9 => ?_) (fun h9 => ?_)
    · refine g_iconst C dX0_has_16 ?_
      first | exact kr _ _ _ dX0_has_17 (Or.inr rfl) (by rw [if_pos (by omega)]) | exact kr _ _ _ dX0_has_17 (Or.inl rfl) (by rw [if_neg (by omega)])
    · refine g_iconst C dX0_has_12 ?_
      refine g_goto C dX0_has_13 (tgt := 17) (by decide) ?_
      first | exact kr _ _ _ dX0_has_17 (Or.inr rfl) (by rw [if_pos (by omega)]) | exact kr _ _ _ dX0_has_17 (Or.inl rfl) (by rw [if_neg (by omega)])
theorem t_all {h : ax_H} {a n : Nat} {X Y V : Nat → Int} (hB : bo_at h a X Y V n) (hn : n ≤ 7) : ax_Met MX0_all [rv a] h (some (iv (((2 ^ n - 1 : Nat) : Int)))) h := by
  obtain ⟨h0, h1, h2, h3⟩ := hB
  refine ax_mi (L0 := [some (rv a)]) rfl rfl (Nat.le_refl _) (Nat.le_refl _) (Nat.le_of_ble_eq_true rfl) rfl ?_
  intro p9 l9 e9 R9 s9 m9 args9 below9 meth9 c9 b9 D9 dA9 Q9 C kr
  refine g_iconst C dX0_all_0 ?_
  refine g_aload_n C dX0_all_1 rfl ?_
  refine g_get C FX0_21 dX0_all_2 (by assumption) rfl ?_
  refine g_ishl C dX0_all_5 (by omega) ?_
  refine g_iconst C dX0_all_6 ?_
  refine g_isub C dX0_all_7 ?_
  exact kr _ _ _ dX0_all_8 (congrArg (fun z => some (iv z)) (by have := Nat.two_pow_pos n; rw [ax_1p]; omega))
theorem t_find {h : ax_H} {a n : Nat} {X Y V : Nat → Int} (hB : bo_at h a X Y V n) (ho : bo_ok X Y V n) {x y : Int} (hx : -2147483648 ≤ x ∧ x < 2147483648) (hy : -2147483648 ≤ y ∧ y < 2147483648) : ax_Met MX0_find [rv a, iv x, iv y] h (some (iv (bo_find X Y x y n 0))) h := by
  obtain ⟨h0, h1, h2, h3⟩ := hB
  refine ax_mi (L0 := [some (rv a), some (iv x), some (iv y), none]) rfl rfl (Nat.le_refl _) (Nat.le_refl _) (Nat.le_of_ble_eq_true rfl) rfl ?_
  intro p9 l9 e9 R9 s9 m9 args9 below9 meth9 c9 b9 D9 dA9 Q9 C kr
  have loop : ∀ (d k : Nat), k + d = n → bo_find X Y x y n 0 = bo_find X Y x y d k → ax_G p9 l9 e9 R9 s9 m9 args9 below9 meth9 c9 b9 D9 dA9 MX0_find.2.2.1 h.length (ax_sz h) Q9 (2) ([some (rv a), some (iv x), some (iv y), some (iv (k : Int))]) ([]) (h) := by
    intro d
    induction d with
    | zero =>
      intro k hk e
      have hn := ho.1
      refine g_iload_n C dX0_find_2 rfl ?_
      refine g_aload_n C dX0_find_3 rfl ?_
      refine g_get C FX0_21 dX0_find_4 (by assumption) rfl ?_
      refine g_icmp_ge C dX0_find_7 (tgt := 38) (by decide) (by omega) (by omega) (fun h7 => ?_) (fun h7 => ?_)
      · refine g_iconst C dX0_find_38 ?_
        exact kr _ _ _ dX0_find_39 (congrArg (fun z => some (iv z)) e)
      · exfalso; omega
    | succ d ih =>
      intro k hk e
      have hn := ho.1
      have hb := ho.2 k (by omega)
      rw [bo_find] at e
      refine g_iload_n C dX0_find_2 rfl ?_
      refine g_aload_n C dX0_find_3 rfl ?_
      refine g_get C FX0_21 dX0_find_4 (by assumption) rfl ?_
      refine g_icmp_ge C dX0_find_7 (tgt := 38) (by decide) (by omega) (by omega) (fun h7 => ?_) (fun h7 => ?_)
      · exfalso; omega
      · refine g_aload_n C dX0_find_10 rfl ?_
        refine g_get C FX0_9 dX0_find_11 (by assumption) rfl ?_
        refine g_iload_n C dX0_find_14 rfl ?_
        refine g_iald C dX0_find_15 (by assumption) rfl (by omega) (by decide) ?_
        refine g_iload_n C dX0_find_16 rfl ?_
        refine g_icmp_ne C dX0_find_17 (tgt := 32) (by decide) (by omega) (by omega) (fun h17 => ?_) (fun h17 => ?_)
        · rw [if_neg (by omega)] at e
          refine g_iinc C dX0_find_32 (by decide) rfl rfl ?_
          dsimp only [List.set]
          refine g_goto C dX0_find_35 (tgt := 2) (by decide) ?_
          exact ih (k + 1) (by omega) e
        · refine g_aload_n C dX0_find_20 rfl ?_
          refine g_get C FX0_15 dX0_find_21 (by assumption) rfl ?_
          refine g_iload_n C dX0_find_24 rfl ?_
          refine g_iald C dX0_find_25 (by assumption) rfl (by omega) (by decide) ?_
          refine g_iload_n C dX0_find_26 rfl ?_
          refine g_icmp_ne C dX0_find_27 (tgt := 32) (by decide) (by omega) (by omega) (fun h27 => ?_) (fun h27 => ?_)
          · rw [if_neg (by omega)] at e
            refine g_iinc C dX0_find_32 (by decide) rfl rfl ?_
            dsimp only [List.set]
            refine g_goto C dX0_find_35 (tgt := 2) (by decide) ?_
            exact ih (k + 1) (by omega) e
          · rw [if_pos ⟨h17, h27⟩] at e
            refine g_iload_n C dX0_find_30 rfl ?_
            exact kr _ _ _ dX0_find_31 (congrArg (fun z => some (iv z)) e)
  refine g_iconst C dX0_find_0 ?_
  refine g_istore_n C dX0_find_1 (by decide) rfl ?_
  dsimp only [List.set]
  exact loop n 0 (by omega) rfl
theorem t_append {h : ax_H} {a n : Nat} {X Y V : Nat → Int} (hB : bo_at h a X Y V n) (hn : n < 7) {x y w : Int} : ax_Mt MX0_append [rv a, iv x, iv y, iv w] h (fun r h' => r = some (iv (n : Int)) ∧ bo_at h' a (va_up X n x) (va_up Y n y) (va_up V n w) (n + 1) ∧ ax_sm a (a + 4) h h') := by
  have hs := ax_sm.rf (lo := a) (hi := a + 4) h
  refine ax_ri (L0 := [some (rv a), some (iv x), some (iv y), some (iv w)]) rfl rfl (Nat.le_of_ble_eq_true rfl) rfl ?_
  intro p9 l9 e9 R9 s9 m9 args9 below9 meth9 c9 b9 D9 dA9 Q9 C kr
  have ⟨h0, h1, h2, h3⟩ := hB
  refine g_aload_n C dX0_append_0 rfl ?_
  refine g_get C FX0_21 dX0_append_1 (by assumption) rfl ?_
  refine g_bipush C dX0_append_4 (by decide) ?_
  refine g_icmp_lt C dX0_append_6 (tgt := 11) (by decide) (by omega) (by omega) (fun h6 => ?_) (fun h6 => ?_)
  · refine g_aload_n C dX0_append_11 rfl ?_
    refine g_get C FX0_9 dX0_append_12 (by assumption) rfl ?_
    refine g_aload_n C dX0_append_15 rfl ?_
    refine g_get C FX0_21 dX0_append_16 (by assumption) rfl ?_
    refine g_iload_n C dX0_append_19 rfl ?_
    refine g_iast C dX0_append_20 (by assumption) rfl (by omega) (by decide) ?_
    refine bo_s_X hB hs ?_
    intro h1 hB hs
    have ⟨h0, h1, h2, h3⟩ := hB
    refine g_aload_n C dX0_append_21 rfl ?_
    refine g_get C FX0_15 dX0_append_22 (by assumption) rfl ?_
    refine g_aload_n C dX0_append_25 rfl ?_
    refine g_get C FX0_21 dX0_append_26 (by assumption) rfl ?_
    refine g_iload_n C dX0_append_29 rfl ?_
    refine g_iast C dX0_append_30 (by assumption) rfl (by omega) (by decide) ?_
    refine bo_s_Y hB hs ?_
    intro h1 hB hs
    have ⟨h0, h1, h2, h3⟩ := hB
    refine g_aload_n C dX0_append_31 rfl ?_
    refine g_get C FX0_18 dX0_append_32 (by assumption) rfl ?_
    refine g_aload_n C dX0_append_35 rfl ?_
    refine g_get C FX0_21 dX0_append_36 (by assumption) rfl ?_
    refine g_iload_n C dX0_append_39 rfl ?_
    refine g_iast C dX0_append_40 (by assumption) rfl (by omega) (by decide) ?_
    refine bo_s_V hB hs ?_
    intro h1 hB hs
    have ⟨h0, h1, h2, h3⟩ := hB
    refine g_aload_n C dX0_append_41 rfl ?_
    refine g_dup C dX0_append_42 ?_
    refine g_get C FX0_21 dX0_append_43 (by assumption) rfl ?_
    refine g_iconst C dX0_append_46 ?_
    refine g_iadd C dX0_append_47 ?_
    refine g_put C FX0_21 dX0_append_48 (by assumption) rfl rfl (Nat.le_of_ble_eq_true rfl) ?_
    dsimp only [List.set]
    refine bo_s_n (n + 1) rfl hB hs ?_
    intro h1 hB hs
    have ⟨h0, h1, h2, h3⟩ := hB
    refine g_aload_n C dX0_append_51 rfl ?_
    refine g_get C FX0_21 dX0_append_52 (by assumption) rfl ?_
    refine g_iconst C dX0_append_55 ?_
    refine g_isub C dX0_append_56 ?_
    exact kr _ _ _ _ dX0_append_57 ⟨congrArg (fun z => some (iv z)) (by omega), hB, hs⟩ hs.1
  · exfalso; omega
theorem t_remove {h : ax_H} {a n k : Nat} {X Y V : Nat → Int} (hB : bo_at h a X Y V n) (hn : n ≤ 7) (hk : k < n) : ax_Mt MX0_remove [rv a, iv (k : Int)] h (fun r h' => r = none ∧ ∃ X' Y' V' : Nat → Int, bo_at h' a X' Y' V' (n - 1) ∧ ax_sm a (a + 4) h h' ∧ (∀ i, i < k → X' i = X i ∧ Y' i = Y i ∧ V' i = V i) ∧ (∀ i, k ≤ i → i + 1 < n → X' i = X (i + 1) ∧ Y' i = Y (i + 1) ∧ V' i = V (i + 1))) := by
  have hs := ax_sm.rf (lo := a) (hi := a + 4) h
  refine ax_rv (L0 := [some (rv a), some (iv (k : Int)), none]) rfl rfl (Nat.le_of_ble_eq_true rfl) rfl ?_
  intro p9 l9 e9 R9 s9 m9 args9 below9 meth9 c9 b9 D9 dA9 Q9 C kr
  have loop : ∀ (d i : Nat) (hh : ax_H) (X1 Y1 V1 : Nat → Int), i + d = n → k < i → bo_at hh a X1 Y1 V1 n → ax_sm a (a + 4) h hh → (∀ j, j < k → X1 j = X j ∧ Y1 j = Y j ∧ V1 j = V j) → (∀ j, k ≤ j → j + 1 < i → X1 j = X (j + 1) ∧ Y1 j = Y (j + 1) ∧ V1 j = V (j + 1)) → (∀ j, i ≤ j → X1 j = X j ∧ Y1 j = Y j ∧ V1 j = V j) → ax_G p9 l9 e9 R9 s9 m9 args9 below9 meth9 c9 b9 D9 dA9 MX0_remove.2.2.1 h.length (ax_sz h) Q9 (13) ([some (rv a), some (iv (k : Int)), some (iv (i : Int))]) ([]) (hh) := by
    intro d
    induction d with
    | zero =>
      intro i hh X1 Y1 V1 hi hki hB hs g1 g2 g3
      have ⟨h0, h1, h2, h3⟩ := hB
      refine g_iload_n C dX0_remove_13 rfl ?_
      refine g_aload_n C dX0_remove_14 rfl ?_
      refine g_get C FX0_21 dX0_remove_15 (by assumption) rfl ?_
      refine g_icmp_ge C dX0_remove_18 (tgt := 69) (by decide) (by omega) (by omega) (fun h18 => ?_) (fun h18 => ?_)
      · refine g_aload_n C dX0_remove_69 rfl ?_
        refine g_dup C dX0_remove_70 ?_
        refine g_get C FX0_21 dX0_remove_71 (by assumption) rfl ?_
        refine g_iconst C dX0_remove_74 ?_
        refine g_isub C dX0_remove_75 ?_
        refine g_put C FX0_21 dX0_remove_76 (by assumption) rfl rfl (Nat.le_of_ble_eq_true rfl) ?_
        dsimp only [List.set]
        refine bo_s_n (n - 1) (by omega) hB hs ?_
        intro h1 hB hs
        exact kr _ _ _ dX0_remove_79 ⟨rfl, X1, Y1, V1, hB, hs, g1, fun j h1 h2 => g2 j h1 (by omega)⟩ hs.1
      · exfalso; omega
    | succ d ih =>
      intro i hh X1 Y1 V1 hi hki hB hs g1 g2 g3
      have ⟨h0, h1, h2, h3⟩ := hB
      have gi := g3 i (Nat.le_refl i)
      refine g_iload_n C dX0_remove_13 rfl ?_
      refine g_aload_n C dX0_remove_14 rfl ?_
      refine g_get C FX0_21 dX0_remove_15 (by assumption) rfl ?_
      refine g_icmp_ge C dX0_remove_18 (tgt := 69) (by decide) (by omega) (by omega) (fun h18 => ?_) (fun h18 => ?_)
      · exfalso; omega
      · refine g_aload_n C dX0_remove_21 rfl ?_
        refine g_get C FX0_9 dX0_remove_22 (by assumption) rfl ?_
        refine g_iload_n C dX0_remove_25 rfl ?_
        refine g_iconst C dX0_remove_26 ?_
        refine g_isub C dX0_remove_27 ?_
        refine g_aload_n C dX0_remove_28 rfl ?_
        refine g_get C FX0_9 dX0_remove_29 (by assumption) rfl ?_
        refine g_iload_n C dX0_remove_32 rfl ?_
        refine g_iald C dX0_remove_33 (by assumption) rfl (by omega) (by decide) ?_
        refine g_iast C dX0_remove_34 (by assumption) (show (i : Int) - 1 = ((i - 1 : Nat) : Int) by omega) (by omega) (by decide) ?_
        refine bo_s_X hB hs ?_
        intro h1 hB hs
        have ⟨h0, h1, h2, h3⟩ := hB
        refine g_aload_n C dX0_remove_35 rfl ?_
        refine g_get C FX0_15 dX0_remove_36 (by assumption) rfl ?_
        refine g_iload_n C dX0_remove_39 rfl ?_
        refine g_iconst C dX0_remove_40 ?_
        refine g_isub C dX0_remove_41 ?_
        refine g_aload_n C dX0_remove_42 rfl ?_
        refine g_get C FX0_15 dX0_remove_43 (by assumption) rfl ?_
        refine g_iload_n C dX0_remove_46 rfl ?_
        refine g_iald C dX0_remove_47 (by assumption) rfl (by omega) (by decide) ?_
        refine g_iast C dX0_remove_48 (by assumption) (show (i : Int) - 1 = ((i - 1 : Nat) : Int) by omega) (by omega) (by decide) ?_
        refine bo_s_Y hB hs ?_
        intro h1 hB hs
        have ⟨h0, h1, h2, h3⟩ := hB
        refine g_aload_n C dX0_remove_49 rfl ?_
        refine g_get C FX0_18 dX0_remove_50 (by assumption) rfl ?_
        refine g_iload_n C dX0_remove_53 rfl ?_
        refine g_iconst C dX0_remove_54 ?_
        refine g_isub C dX0_remove_55 ?_
        refine g_aload_n C dX0_remove_56 rfl ?_
        refine g_get C FX0_18 dX0_remove_57 (by assumption) rfl ?_
        refine g_iload_n C dX0_remove_60 rfl ?_
        refine g_iald C dX0_remove_61 (by assumption) rfl (by omega) (by decide) ?_
        refine g_iast C dX0_remove_62 (by assumption) (show (i : Int) - 1 = ((i - 1 : Nat) : Int) by omega) (by omega) (by decide) ?_
        refine bo_s_V hB hs ?_
        intro h1 hB hs
        have ⟨h0, h1, h2, h3⟩ := hB
        refine g_iinc C dX0_remove_63 (by decide) rfl rfl ?_
        dsimp only [List.set]
        refine g_goto C dX0_remove_66 (tgt := 13) (by decide) ?_
        refine ih (i + 1) _ _ _ _ (by omega) (by omega) hB hs (fun j hj => ?_) (fun j h1 h2 => ?_) (fun j hj => ?_)
        · simp only [va_up, if_neg (show ¬ j = i - 1 by omega)]; exact g1 j hj
        · by_cases hj : j = i - 1
          · subst hj; simp only [va_up, if_pos]; rw [gi.1, gi.2.1, gi.2.2, show i - 1 + 1 = i by omega]; exact ⟨rfl, rfl, rfl⟩
          · simp only [va_up, if_neg hj]; exact g2 j h1 (by omega)
        · simp only [va_up, if_neg (show ¬ j = i - 1 by omega)]; exact g3 j (by omega)
  have ⟨h0, h1, h2, h3⟩ := hB
  refine g_aload_n C dX0_remove_0 rfl ?_
  refine g_iload_n C dX0_remove_1 rfl ?_
  refine g_V C (t_has hB hn (by omega)) dX0_remove_2 KX0_has LX0_25 IX0_has VX0_has (by decide) rfl (by assumption) rfl rfl rfl (Nat.le_of_ble_eq_true rfl) ⟨rfl, rfl⟩ ?_
  dsimp only [Option.toList, List.cons_append, List.nil_append]
  rw [if_pos (by omega)]
  refine g_if_ne C dX0_remove_5 (tgt := 9) (by decide) (by omega) (fun h5 => ?_) (fun h5 => ?_)
  · refine g_iload_n C dX0_remove_9 rfl ?_
    refine g_iconst C dX0_remove_10 ?_
    refine g_iadd C dX0_remove_11 ?_
    refine g_istore_n C dX0_remove_12 (by decide) rfl ?_
    dsimp only [List.set]
    exact loop (n - (k + 1)) (k + 1) h X Y V (by omega) (by omega) hB hs (fun _ _ => ⟨rfl, rfl, rfl⟩) (fun j h1 h2 => by omega) (fun _ _ => ⟨rfl, rfl, rfl⟩)
  · exact absurd h5 (by decide)
theorem t_copyFrom {h : ax_H} {a a2 n n2 : Nat} {X Y V X2 Y2 V2 : Nat → Int} (hB : bo_at h a X Y V n) (hB2 : bo_at h a2 X2 Y2 V2 n2) (hn : n2 ≤ 7) (hd : a + 4 ≤ a2 ∨ a2 + 4 ≤ a) : ax_Mt MX0_copyFrom [rv a, rv a2] h (fun r h' => r = none ∧ ∃ X' Y' V' : Nat → Int, bo_at h' a X' Y' V' n2 ∧ ax_sm a (a + 4) h h' ∧ (∀ i, i < n2 → X' i = X2 i ∧ Y' i = Y2 i ∧ V' i = V2 i)) := by
  have hs := ax_sm.rf (lo := a) (hi := a + 4) h
  refine ax_rv (L0 := [some (rv a), some (rv a2), none]) rfl rfl (Nat.le_of_ble_eq_true rfl) rfl ?_
  intro p9 l9 e9 R9 s9 m9 args9 below9 meth9 c9 b9 D9 dA9 Q9 C kr
  have loop : ∀ (d i : Nat) (hh : ax_H) (X1 Y1 V1 : Nat → Int), i + d = n2 → bo_at hh a X1 Y1 V1 n → ax_sm a (a + 4) h hh → (∀ j, j < i → X1 j = X2 j ∧ Y1 j = Y2 j ∧ V1 j = V2 j) → ax_G p9 l9 e9 R9 s9 m9 args9 below9 meth9 c9 b9 D9 dA9 MX0_copyFrom.2.2.1 h.length (ax_sz h) Q9 (2) ([some (rv a), some (rv a2), some (iv (i : Int))]) ([]) (hh) := by
    intro d
    induction d with
    | zero =>
      intro i hh X1 Y1 V1 hi hB hs g1
      have ⟨h0, h1, h2, h3⟩ := hB
      have ⟨k0, k1, k2, k3⟩ := hB2.sm hs (by omega)
      refine g_iload_n C dX0_copyFrom_2 rfl ?_
      refine g_aload_n C dX0_copyFrom_3 rfl ?_
      refine g_get C FX0_21 dX0_copyFrom_4 (by assumption) rfl ?_
      refine g_icmp_ge C dX0_copyFrom_7 (tgt := 52) (by decide) (by omega) (by omega) (fun h7 => ?_) (fun h7 => ?_)
      · refine g_aload_n C dX0_copyFrom_52 rfl ?_
        refine g_aload_n C dX0_copyFrom_53 rfl ?_
        refine g_get C FX0_21 dX0_copyFrom_54 (by assumption) rfl ?_
        refine g_put C FX0_21 dX0_copyFrom_57 (by assumption) rfl rfl (Nat.le_of_ble_eq_true rfl) ?_
        dsimp only [List.set]
        refine bo_s_n n2 rfl hB hs ?_
        intro h1 hB hs
        exact kr _ _ _ dX0_copyFrom_60 ⟨rfl, X1, Y1, V1, hB, hs, fun j hj => g1 j (by omega)⟩ hs.1
      · exfalso; omega
    | succ d ih =>
      intro i hh X1 Y1 V1 hi hB hs g1
      have ⟨h0, h1, h2, h3⟩ := hB
      have ⟨k0, k1, k2, k3⟩ := hB2.sm hs (by omega)
      refine g_iload_n C dX0_copyFrom_2 rfl ?_
      refine g_aload_n C dX0_copyFrom_3 rfl ?_
      refine g_get C FX0_21 dX0_copyFrom_4 (by assumption) rfl ?_
      refine g_icmp_ge C dX0_copyFrom_7 (tgt := 52) (by decide) (by omega) (by omega) (fun h7 => ?_) (fun h7 => ?_)
      · exfalso; omega
      · refine g_aload_n C dX0_copyFrom_10 rfl ?_
        refine g_get C FX0_9 dX0_copyFrom_11 (by assumption) rfl ?_
        refine g_iload_n C dX0_copyFrom_14 rfl ?_
        refine g_aload_n C dX0_copyFrom_15 rfl ?_
        refine g_get C FX0_9 dX0_copyFrom_16 (by assumption) rfl ?_
        refine g_iload_n C dX0_copyFrom_19 rfl ?_
        refine g_iald C dX0_copyFrom_20 (by assumption) rfl (by omega) (by decide) ?_
        refine g_iast C dX0_copyFrom_21 (by assumption) rfl (by omega) (by decide) ?_
        refine bo_s_X hB hs ?_
        intro h1 hB hs
        have ⟨h0, h1, h2, h3⟩ := hB
        have ⟨k0, k1, k2, k3⟩ := hB2.sm hs (by omega)
        refine g_aload_n C dX0_copyFrom_22 rfl ?_
        refine g_get C FX0_15 dX0_copyFrom_23 (by assumption) rfl ?_
        refine g_iload_n C dX0_copyFrom_26 rfl ?_
        refine g_aload_n C dX0_copyFrom_27 rfl ?_
        refine g_get C FX0_15 dX0_copyFrom_28 (by assumption) rfl ?_
        refine g_iload_n C dX0_copyFrom_31 rfl ?_
        refine g_iald C dX0_copyFrom_32 (by assumption) rfl (by omega) (by decide) ?_
        refine g_iast C dX0_copyFrom_33 (by assumption) rfl (by omega) (by decide) ?_
        refine bo_s_Y hB hs ?_
        intro h1 hB hs
        have ⟨h0, h1, h2, h3⟩ := hB
        have ⟨k0, k1, k2, k3⟩ := hB2.sm hs (by omega)
        refine g_aload_n C dX0_copyFrom_34 rfl ?_
        refine g_get C FX0_18 dX0_copyFrom_35 (by assumption) rfl ?_
        refine g_iload_n C dX0_copyFrom_38 rfl ?_
        refine g_aload_n C dX0_copyFrom_39 rfl ?_
        refine g_get C FX0_18 dX0_copyFrom_40 (by assumption) rfl ?_
        refine g_iload_n C dX0_copyFrom_43 rfl ?_
        refine g_iald C dX0_copyFrom_44 (by assumption) rfl (by omega) (by decide) ?_
        refine g_iast C dX0_copyFrom_45 (by assumption) rfl (by omega) (by decide) ?_
        refine bo_s_V hB hs ?_
        intro h1 hB hs
        have ⟨h0, h1, h2, h3⟩ := hB
        have ⟨k0, k1, k2, k3⟩ := hB2.sm hs (by omega)
        refine g_iinc C dX0_copyFrom_46 (by decide) rfl rfl ?_
        dsimp only [List.set]
        refine g_goto C dX0_copyFrom_49 (tgt := 2) (by decide) ?_
        refine ih (i + 1) _ _ _ _ (by omega) hB hs (fun j hj => ?_)
        by_cases hji : j = i
        · subst hji; simp [va_up]
        · simp only [va_up, if_neg hji]; exact g1 j (by omega)
  refine g_iconst C dX0_copyFrom_0 ?_
  refine g_istore_n C dX0_copyFrom_1 (by decide) rfl ?_
  dsimp only [List.set]
  exact loop n2 0 h X Y V (by omega) hB hs (fun j hj => by omega)
def bo_h (X Y V : Nat → Int) (u v w : Int) (k : Nat) : Int := w * V k + u * X k + v * Y k
/-- of the first k heights f: which are least, as a set of bits; the least one -/
def bo_low (f : Nat → Int) : Nat → Nat × Int
  | 0 => (0, 0)
  | k + 1 => if (bo_low f k).1 = 0 ∨ f k < (bo_low f k).2 then (2 ^ k, f k) else if f k = (bo_low f k).2 then ((bo_low f k).1 ||| 2 ^ k, (bo_low f k).2) else bo_low f k
theorem bo_low_lt (f : Nat → Int) : ∀ k, (bo_low f k).1 < 2 ^ k
  | 0 => by simp [bo_low]
  | k + 1 => by
    have := bo_low_lt f k
    have h2 : 2 ^ (k + 1) = 2 ^ k * 2 := Nat.pow_succ 2 k
    rw [bo_low]
    split
    · show 2 ^ k < _; have := Nat.two_pow_pos k; omega
    · split
      · show _ ||| 2 ^ k < _
        exact Nat.or_lt_two_pow (by omega) (by have := Nat.two_pow_pos k; omega)
      · omega
theorem bo_low_in (f : Nat → Int) (B : Int) : ∀ k, (∀ j, j < k → -B ≤ f j ∧ f j ≤ B) → 0 ≤ B → -B ≤ (bo_low f k).2 ∧ (bo_low f k).2 ≤ B
  | 0, _, hB => by simp [bo_low]; omega
  | k + 1, hf, hB => by
    have := bo_low_in f B k (fun j hj => hf j (by omega)) hB
    have := hf k (by omega)
    rw [bo_low]
    split
    · assumption
    · split <;> assumption
theorem bo_h_in {X Y V : Nat → Int} {n : Nat} (ho : bo_ok X Y V n) {u v w : Int} (hu : -1000000 ≤ u ∧ u ≤ 1000000) (hv : -1000000 ≤ v ∧ v ≤ 1000000) (hw : -1000000 ≤ w ∧ w ≤ 1000000) : ∀ j, j < n → -74000000 ≤ bo_h X Y V u v w j ∧ bo_h X Y V u v w j ≤ 74000000 := fun j hj => by
  obtain ⟨a1, a2, a3⟩ := ho.2 j hj
  have b1 := mb (U := 1000000) (M := 50) hw a3
  have b2 := mb (U := 1000000) (M := 12) hu a1
  have b3 := mb (U := 1000000) (M := 12) hv a2
  unfold bo_h
  omega
theorem t_lowest {h : ax_H} {a n : Nat} {X Y V : Nat → Int} (hB : bo_at h a X Y V n) (ho : bo_ok X Y V n) {u v w : Int} (hu : -1000000 ≤ u ∧ u ≤ 1000000) (hv : -1000000 ≤ v ∧ v ≤ 1000000) (hw : -1000000 ≤ w ∧ w ≤ 1000000) : ax_Met MX0_lowest [rv a, iv u, iv v, iv w] h (some (iv ((bo_low (bo_h X Y V u v w) n).1 : Int))) h := by
  obtain ⟨h0, h1, h2, h3⟩ := hB
  refine ax_mi (L0 := [some (rv a), some (iv u), some (iv v), some (iv w), none, none, none, none]) rfl rfl (Nat.le_refl _) (Nat.le_refl _) (Nat.le_of_ble_eq_true rfl) rfl ?_
  intro p9 l9 e9 R9 s9 m9 args9 below9 meth9 c9 b9 D9 dA9 Q9 C kr
  have hn := ho.1
  generalize hf : bo_h X Y V u v w = f at *
  have hfk : ∀ k, f k = w * V k + u * X k + v * Y k := fun k => by rw [← hf]; rfl
  have hin := bo_h_in ho hu hv hw
  rw [hf] at hin
  have loop : ∀ (d k : Nat) (x7 : Option ax_V), k + d = n → ax_G p9 l9 e9 R9 s9 m9 args9 below9 meth9 c9 b9 D9 dA9 MX0_lowest.2.2.1 h.length (ax_sz h) Q9 (9) ([some (rv a), some (iv u), some (iv v), some (iv w), some (iv ((bo_low f k).1 : Int)), some (iv (bo_low f k).2), some (iv (k : Int)), x7]) ([]) (h) := by
    intro d
    induction d with
    | zero =>
      intro k x7 hk
      have e : k = n := by omega
      subst e
      refine g_iload C dX0_lowest_9 rfl ?_
      refine g_aload_n C dX0_lowest_11 rfl ?_
      refine g_get C FX0_21 dX0_lowest_12 (by assumption) rfl ?_
      refine g_icmp_ge C dX0_lowest_15 (tgt := 96) (by decide) (by omega) (by omega) (fun h15 => ?_) (fun h15 => ?_)
      · refine g_iload C dX0_lowest_96 rfl ?_
        exact kr _ _ _ dX0_lowest_98 rfl
      · exfalso; omega
    | succ d ih =>
      intro k x7 hk
      have b1 := bo_low_in f 74000000 k (fun j hj => hin j (by omega)) (by omega)
      have b2 := hin k (by omega)
      have b3 := bo_low_lt f k
      have b4 : 2 ^ k ≤ 2 ^ 7 := Nat.pow_le_pow_right (by decide) (by omega)
      refine g_iload C dX0_lowest_9 rfl ?_
      refine g_aload_n C dX0_lowest_11 rfl ?_
      refine g_get C FX0_21 dX0_lowest_12 (by assumption) rfl ?_
      refine g_icmp_ge C dX0_lowest_15 (tgt := 96) (by decide) (by omega) (by omega) (fun h15 => ?_) (fun h15 => ?_)
      · exfalso; omega
      · refine g_iload_n C dX0_lowest_18 rfl ?_
        refine g_aload_n C dX0_lowest_19 rfl ?_
        refine g_get C FX0_18 dX0_lowest_20 (by assumption) rfl ?_
        refine g_iload C dX0_lowest_23 rfl ?_
        refine g_iald C dX0_lowest_25 (by assumption) rfl (by omega) (by decide) ?_
        refine g_imul C dX0_lowest_26 ?_
        refine g_iload_n C dX0_lowest_27 rfl ?_
        refine g_aload_n C dX0_lowest_28 rfl ?_
        refine g_get C FX0_9 dX0_lowest_29 (by assumption) rfl ?_
        refine g_iload C dX0_lowest_32 rfl ?_
        refine g_iald C dX0_lowest_34 (by assumption) rfl (by omega) (by decide) ?_
        refine g_imul C dX0_lowest_35 ?_
        refine g_iadd C dX0_lowest_36 ?_
        refine g_iload_n C dX0_lowest_37 rfl ?_
        refine g_aload_n C dX0_lowest_38 rfl ?_
        refine g_get C FX0_15 dX0_lowest_39 (by assumption) rfl ?_
        refine g_iload C dX0_lowest_42 rfl ?_
        refine g_iald C dX0_lowest_44 (by assumption) rfl (by omega) (by decide) ?_
        refine g_imul C dX0_lowest_45 ?_
        refine g_iadd C dX0_lowest_46 ?_
        rw [← hfk k]
        refine g_istore C dX0_lowest_47 (by decide) rfl ?_
        dsimp only [List.set]
        refine g_iload C dX0_lowest_49 rfl ?_
        refine g_if_eq C dX0_lowest_51 (tgt := 61) (by decide) (by omega) (fun h51 => ?_) (fun h51 => ?_)
        · have e : bo_low f (k + 1) = (2 ^ k, f k) := by rw [bo_low, if_pos (Or.inl (by omega))]
          refine g_iload C dX0_lowest_61 rfl ?_
          refine g_istore C dX0_lowest_63 (by decide) rfl ?_
          dsimp only [List.set]
          refine g_iconst C dX0_lowest_65 ?_
          refine g_iload C dX0_lowest_66 rfl ?_
          refine g_ishl C dX0_lowest_68 (by omega) ?_
          refine g_top (ax_1p k) ?_
          refine g_istore C dX0_lowest_69 (by decide) rfl ?_
          dsimp only [List.set]
          refine g_goto C dX0_lowest_71 (tgt := 90) (by decide) ?_
          refine g_iinc C dX0_lowest_90 (by decide) rfl rfl ?_
          dsimp only [List.set]
          refine g_goto C dX0_lowest_93 (tgt := 9) (by decide) ?_
          have q := ih (k + 1) (some (iv (f k))) (by omega)
          rw [e] at q
          exact q
        · refine g_iload C dX0_lowest_54 rfl ?_
          refine g_iload C dX0_lowest_56 rfl ?_
          refine g_icmp_ge C dX0_lowest_58 (tgt := 74) (by decide) (by omega) (by omega) (fun h58 => ?_) (fun h58 => ?_)
          · have e0 : ¬ ((bo_low f k).1 = 0 ∨ f k < (bo_low f k).2) := by omega
            refine g_iload C dX0_lowest_74 rfl ?_
            refine g_iload C dX0_lowest_76 rfl ?_
            refine g_icmp_ne C dX0_lowest_78 (tgt := 90) (by decide) (by omega) (by omega) (fun h78 => ?_) (fun h78 => ?_)
            · have e : bo_low f (k + 1) = bo_low f k := by rw [bo_low, if_neg e0, if_neg h78]
              refine g_iinc C dX0_lowest_90 (by decide) rfl rfl ?_
              dsimp only [List.set]
              refine g_goto C dX0_lowest_93 (tgt := 9) (by decide) ?_
              have q := ih (k + 1) (some (iv (f k))) (by omega)
              rw [e] at q
              exact q
            · have e : bo_low f (k + 1) = ((bo_low f k).1 ||| 2 ^ k, (bo_low f k).2) := by rw [bo_low, if_neg e0, if_pos h78]
              refine g_iload C dX0_lowest_81 rfl ?_
              refine g_iconst C dX0_lowest_83 ?_
              refine g_iload C dX0_lowest_84 rfl ?_
              refine g_ishl C dX0_lowest_86 (by omega) ?_
              refine g_top (ax_1p k) ?_
              refine g_ior C dX0_lowest_87 (ax_orN _ _) ?_
              refine g_istore C dX0_lowest_88 (by decide) rfl ?_
              dsimp only [List.set]
              refine g_iinc C dX0_lowest_90 (by decide) rfl rfl ?_
              dsimp only [List.set]
              refine g_goto C dX0_lowest_93 (tgt := 9) (by decide) ?_
              have q := ih (k + 1) (some (iv (f k))) (by omega)
              rw [e] at q
              exact q
          · have e : bo_low f (k + 1) = (2 ^ k, f k) := by rw [bo_low, if_pos (Or.inr (by omega))]
            refine g_iload C dX0_lowest_61 rfl ?_
            refine g_istore C dX0_lowest_63 (by decide) rfl ?_
            dsimp only [List.set]
            refine g_iconst C dX0_lowest_65 ?_
            refine g_iload C dX0_lowest_66 rfl ?_
            refine g_ishl C dX0_lowest_68 (by omega) ?_
            refine g_top (ax_1p k) ?_
            refine g_istore C dX0_lowest_69 (by decide) rfl ?_
            dsimp only [List.set]
            refine g_goto C dX0_lowest_71 (tgt := 90) (by decide) ?_
            refine g_iinc C dX0_lowest_90 (by decide) rfl rfl ?_
            dsimp only [List.set]
            refine g_goto C dX0_lowest_93 (tgt := 9) (by decide) ?_
            have q := ih (k + 1) (some (iv (f k))) (by omega)
            rw [e] at q
            exact q
  refine g_iconst C dX0_lowest_0 ?_
  refine g_istore C dX0_lowest_1 (by decide) rfl ?_
  dsimp only [List.set]
  refine g_iconst C dX0_lowest_3 ?_
  refine g_istore C dX0_lowest_4 (by decide) rfl ?_
  dsimp only [List.set]
  refine g_iconst C dX0_lowest_6 ?_
  refine g_istore C dX0_lowest_7 (by decide) rfl ?_
  dsimp only [List.set]
  exact loop n 0 none (by omega)
end
section
/-! Points in the plane: turns, chains, hulls -/
def tn (px py : Nat → Int) (i j k : Nat) : Int := (px j - px i) * (py k - py i) - (py j - py i) * (px k - px i)
def kp (px py : Nat → Int) (A B : Int) (i : Nat) : Int := A * px i + B * py i
theorem ps_r {a t : Int} (h : 0 < a) (h2 : 0 ≤ a * t) : 0 ≤ t := by
  by_cases q : t < 0
  · have := Int.mul_neg_of_pos_of_neg h q
    omega
  · omega
theorem ps_a {a b c d : Int} (h1 : 0 ≤ a) (h2 : 0 ≤ b) (h3 : 0 ≤ c) (h4 : 0 ≤ d) : 0 ≤ a * b + c * d := by
  have := Int.mul_nonneg h1 h2
  have := Int.mul_nonneg h3 h4
  omega
section TN
variable (px py : Nat → Int) (A B : Int)
theorem tn_sw (i j k : Nat) : tn px py i j k = -tn px py i k j := by unfold tn; grind
theorem tn_ro (i j k : Nat) : tn px py i j k = tn px py j k i := by unfold tn; grind
theorem tn_ii (i j : Nat) : tn px py i j j = 0 := by unfold tn; grind
theorem tn_ij (i j : Nat) : tn px py i j i = 0 := by unfold tn; grind
theorem tn_1 (s t i j : Nat) : (kp px py A B i - kp px py A B t) * tn px py s i j = (kp px py A B i - kp px py A B j) * tn px py s i t + (kp px py A B i - kp px py A B s) * tn px py t i j := by unfold tn kp; grind
theorem tn_2 (s t i j : Nat) : (kp px py A B t - kp px py A B s) * tn px py s i j = (kp px py A B i - kp px py A B s) * tn px py s t j + (kp px py A B j - kp px py A B s) * tn px py s i t := by unfold tn kp; grind
theorem tn_3 (q s t i : Nat) : (kp px py A B t - kp px py A B s) * tn px py q s i = (kp px py A B i - kp px py A B s) * tn px py q s t + (kp px py A B s - kp px py A B q) * tn px py s t i := by unfold tn kp; grind
theorem tn_4 (s t i j : Nat) : (kp px py A B t - kp px py A B s) * tn px py t i j = (kp px py A B i - kp px py A B t) * tn px py s t j + (kp px py A B t - kp px py A B j) * tn px py s t i := by unfold tn kp; grind
end TN

/-- a chain over the points S: from the first of them, rising by A x + B y, turning left at each, all of S to its left -/
def ch_ok (px py : Nat → Int) (A B : Int) (S : Nat → Prop) (rk : Nat → Nat) (r : Nat → Nat) (lo cn : Nat) : Prop :=
  lo < cn ∧ (∀ e, lo ≤ e → e < cn → S (r e)) ∧ (∀ e, lo ≤ e → e + 1 < cn → kp px py A B (r e) < kp px py A B (r (e + 1))) ∧ (∀ e, lo ≤ e → e + 2 < cn → 0 < tn px py (r e) (r (e + 1)) (r (e + 2))) ∧ (∀ e j, lo ≤ e → e + 1 < cn → S j → 0 ≤ tn px py (r e) (r (e + 1)) j) ∧ (∀ j, S j → kp px py A B (r lo) ≤ kp px py A B j) ∧ (∀ e, lo ≤ e → e < cn → e - lo ≤ rk (r e))
/-- while the way to i is sought: what stands behind the top lies to the left of the way from the top to i -/
def ch_pop (px py : Nat → Int) (A B : Int) (S : Nat → Prop) (rk : Nat → Nat) (r : Nat → Nat) (lo cn i : Nat) : Prop :=
  ch_ok px py A B S rk r lo cn ∧ ∀ j, S j → kp px py A B (r (cn - 1)) ≤ kp px py A B j → 0 ≤ tn px py (r (cn - 1)) i j
section CH
variable {px py : Nat → Int} {A B : Int} {S : Nat → Prop} {rk r : Nat → Nat} {lo cn i : Nat}
theorem ch_ok.sub (h : ch_ok px py A B S rk r lo cn) {cn2 : Nat} (h1 : lo < cn2) (h2 : cn2 ≤ cn) : ch_ok px py A B S rk r lo cn2 := by
  obtain ⟨a1, a2, a3, a4, a5, a6, a7⟩ := h
  exact ⟨h1, fun e q1 q2 => a2 e q1 (by omega), fun e q1 q2 => a3 e q1 (by omega), fun e q1 q2 => a4 e q1 (by omega), fun e j q1 q2 => a5 e j q1 (by omega), a6, fun e q1 q2 => a7 e q1 (by omega)⟩
theorem ch_pop.start (h : ch_ok px py A B S rk r lo cn) (hl : ∀ j, S j → kp px py A B (r (cn - 1)) ≤ kp px py A B j → j = r (cn - 1)) : ch_pop px py A B S rk r lo cn i := ⟨h, fun j hj hk => by rw [hl j hj hk, tn_ij]; omega⟩
theorem ch_pop.pop (h : ch_pop px py A B S rk r lo cn i) (hi : ∀ j, S j → kp px py A B j < kp px py A B i) (hc : lo + 1 < cn) (ht : ¬ 0 < tn px py (r (cn - 2)) (r (cn - 1)) i) : ch_pop px py A B S rk r lo (cn - 1) i := by
  obtain ⟨ho, hp⟩ := h
  refine ⟨ho.sub (by omega) (by omega), fun j hj hk => ?_⟩
  obtain ⟨a1, a2, a3, a4, a5, a6, a7⟩ := ho
  have e1 : cn - 1 - 1 = cn - 2 := by omega
  have e2 : cn - 2 + 1 = cn - 1 := by omega
  rw [e1] at hk ⊢
  have m1 := a3 (cn - 2) (by omega) (by omega)
  rw [e2] at m1
  have m2 := a5 (cn - 2) j (by omega) (by omega) hj
  rw [e2] at m2
  have s1 := a2 (cn - 2) (by omega) (by omega)
  have s2 := a2 (cn - 1) (by omega) (by omega)
  generalize r (cn - 2) = s at *
  generalize r (cn - 1) = t at *
  have k1 := hi s s1
  have k2 := hi t s2
  have k3 := hi j hj
  have w1 := tn_sw px py s t i
  by_cases q : kp px py A B t ≤ kp px py A B j
  · have := hp j hj q
    exact ps_r (a := kp px py A B i - kp px py A B t) (by omega) (by rw [tn_1]; exact ps_a (by omega) (by omega) (by omega) (by omega))
  · exact ps_r (a := kp px py A B t - kp px py A B s) (by omega) (by rw [tn_2 px py A B s t i j]; exact ps_a (by omega) (by omega) (by omega) (by omega))
theorem ch_pop.push (h : ch_pop px py A B S rk r lo cn i) (hi : ∀ j, S j → kp px py A B j < kp px py A B i) (hrk : ∀ j, S j → rk j < rk i) (ht : lo + 1 < cn → 0 < tn px py (r (cn - 2)) (r (cn - 1)) i) {r2 : Nat → Nat} (hr : ∀ e, e < cn → r2 e = r e) (hrn : r2 cn = i) {S2 : Nat → Prop} (hS : ∀ j, S2 j ↔ S j ∨ j = i) : ch_ok px py A B S2 rk r2 lo (cn + 1) := by
  obtain ⟨⟨a1, a2, a3, a4, a5, a6, a7⟩, hp⟩ := h
  -- i lies to the left of each edge
  have left : ∀ d e, lo ≤ e → e + 1 < cn → e + 2 + d = cn → 0 ≤ tn px py (r e) (r (e + 1)) i := by
    intro d
    induction d with
    | zero =>
      intro e q1 q2 q3
      have e1 : e = cn - 2 := by omega
      subst e1
      have := ht (by omega)
      rw [show cn - 2 + 1 = cn - 1 by omega]
      omega
    | succ d ih =>
      intro e q1 q2 q3
      have m1 := ih (e + 1) (by omega) (by omega) (by omega)
      have m2 := a4 e q1 (by omega)
      rw [show e + 2 = e + 1 + 1 by omega] at m2
      have m3 := a3 e q1 q2
      have m4 := a3 (e + 1) (by omega) (by omega)
      have k1 := hi _ (a2 (e + 1) (by omega) (by omega))
      exact ps_r (a := kp px py A B (r (e + 1 + 1)) - kp px py A B (r (e + 1))) (by omega) (by rw [tn_3]; exact ps_a (by omega) (by omega) (by omega) (by omega))
  have hlast : ∀ j, S j → 0 ≤ tn px py (r (cn - 1)) i j := by
    intro j hj
    by_cases q : kp px py A B (r (cn - 1)) ≤ kp px py A B j
    · exact hp j hj q
    · have hc : lo + 1 < cn := by
        by_cases hc : lo + 1 < cn
        · exact hc
        · have := a6 j hj
          rw [show cn - 1 = lo by omega] at q
          omega
      have m1 := a3 (cn - 2) (by omega) (by omega)
      have m2 := a5 (cn - 2) j (by omega) (by omega) hj
      rw [show cn - 2 + 1 = cn - 1 by omega] at m1 m2
      have m3 := ht hc
      have k1 := hi _ (a2 (cn - 1) (by omega) (by omega))
      exact ps_r (a := kp px py A B (r (cn - 1)) - kp px py A B (r (cn - 2))) (by omega) (by rw [tn_4]; exact ps_a (by omega) (by omega) (by omega) (by omega))
  have ht2 := hi _ (a2 (cn - 1) (by omega) (by omega))
  refine ⟨by omega, fun e q1 q2 => ?_, fun e q1 q2 => ?_, fun e q1 q2 => ?_, fun e j q1 q2 hj => ?_, fun j hj => ?_, fun e q1 q2 => ?_⟩
  · by_cases q : e < cn
    · rw [hr e q]; exact (hS _).mpr (Or.inl (a2 e q1 q))
    · rw [show e = cn by omega, hrn]; exact (hS _).mpr (Or.inr rfl)
  · rw [hr e (by omega)]
    by_cases q : e + 1 < cn
    · rw [hr _ q]; exact a3 e q1 q
    · rw [show e + 1 = cn by omega, hrn, show e = cn - 1 by omega]; exact ht2
  · rw [hr e (by omega), hr (e + 1) (by omega)]
    by_cases q : e + 2 < cn
    · rw [hr _ q]; exact a4 e q1 q
    · rw [show e + 2 = cn by omega, hrn, show e = cn - 2 by omega, show cn - 2 + 1 = cn - 1 by omega]
      exact ht (by omega)
  · rw [hr e (by omega)]
    by_cases q : e + 1 < cn
    · rw [hr _ q]
      rcases (hS j).mp hj with hj | hj
      · exact a5 e j q1 q hj
      · subst hj; exact left (cn - 2 - e) e q1 q (by omega)
    · rw [show e + 1 = cn by omega, hrn, show e = cn - 1 by omega]
      rcases (hS j).mp hj with hj | hj
      · exact hlast j hj
      · subst hj; rw [tn_ii]; omega
  · rw [hr lo a1]
    rcases (hS j).mp hj with hj | hj
    · exact a6 j hj
    · subst hj; have := hi _ (a2 lo (by omega) a1); omega
  · by_cases q : e < cn
    · rw [hr e q]; exact a7 e q1 q
    · rw [show e = cn by omega, hrn]
      have b1 := a7 (cn - 1) (by omega) (by omega)
      have b2 := hrk _ (a2 (cn - 1) (by omega) (by omega))
      omega
/-- the first point alone -/
theorem ch_one (hr : r lo = i) (hS : ∀ j, S j ↔ j = i) : ch_ok px py A B S rk r lo (lo + 1) := by
  refine ⟨by omega, fun e q1 q2 => ?_, fun e q1 q2 => by omega, fun e q1 q2 => by omega, fun e j q1 q2 => by omega, fun j hj => ?_, fun e q1 q2 => by omega⟩
  · rw [show e = lo by omega, hr]; exact (hS i).mpr rfl
  · rw [hr, (hS j).mp hj]; omega
/-- j is next behind i, as one goes round the points S: all are to the left, or between them -/
def nx_ok (px py : Nat → Int) (S : Nat → Prop) (i j : Nat) : Prop := S i ∧ S j ∧ kp px py 1 1000 i ≠ kp px py 1 1000 j ∧ ∀ k, S k → 0 ≤ tn px py i j k ∧ (tn px py i j k = 0 → (kp px py 1 1000 i ≤ kp px py 1 1000 k ∧ kp px py 1 1000 k ≤ kp px py 1 1000 j) ∨ (kp px py 1 1000 j ≤ kp px py 1 1000 k ∧ kp px py 1 1000 k ≤ kp px py 1 1000 i))
theorem ch_edge (h : ch_ok px py A B S rk r lo cn) (hl : ∀ j, S j → kp px py A B j ≤ kp px py A B (r (cn - 1))) {e k : Nat} (h1 : lo ≤ e) (h2 : e + 1 < cn) (hk : S k) (hz : tn px py (r e) (r (e + 1)) k = 0) : kp px py A B (r e) ≤ kp px py A B k ∧ kp px py A B k ≤ kp px py A B (r (e + 1)) := by
  obtain ⟨a1, a2, a3, a4, a5, a6, a7⟩ := h
  have m1 := a3 e h1 h2
  constructor
  · by_cases q : lo < e
    · have m2 := a3 (e - 1) (by omega) (by omega)
      have m3 := a4 (e - 1) (by omega) (by omega)
      have m4 := a5 (e - 1) k (by omega) (by omega) hk
      rw [show e - 1 + 1 = e by omega] at m2 m3 m4
      rw [show e - 1 + 2 = e + 1 by omega] at m3
      have t4 := tn_4 px py A B (r (e - 1)) (r e) (r (e + 1)) k
      rw [hz, Int.mul_zero] at t4
      by_cases q2 : kp px py A B k < kp px py A B (r e)
      · have b1 := Int.mul_nonneg (show 0 ≤ kp px py A B (r (e + 1)) - kp px py A B (r e) by omega) m4
        have b2 := Int.mul_pos (show 0 < kp px py A B (r e) - kp px py A B k by omega) m3
        omega
      · omega
    · rw [show e = lo by omega]; exact a6 k hk
  · by_cases q : e + 2 < cn
    · have m2 := a3 (e + 1) (by omega) (by omega)
      have m3 := a4 e h1 q
      have m4 := a5 (e + 1) k (by omega) (by omega) hk
      rw [show e + 1 + 1 = e + 2 by omega] at m2 m4
      have t4 := tn_4 px py A B (r e) (r (e + 1)) (r (e + 2)) k
      rw [hz, Int.mul_zero] at t4
      by_cases q2 : kp px py A B (r (e + 1)) < kp px py A B k
      · have b1 := Int.mul_pos (show 0 < kp px py A B k - kp px py A B (r (e + 1)) by omega) m3
        have b2 := Int.mul_nonneg (show 0 ≤ kp px py A B (r (e + 1)) - kp px py A B (r e) by omega) m4
        have b3 : (kp px py A B (r (e + 1)) - kp px py A B k) * tn px py (r e) (r (e + 1)) (r (e + 2)) = -((kp px py A B k - kp px py A B (r (e + 1))) * tn px py (r e) (r (e + 1)) (r (e + 2))) := by grind
        omega
      · omega
    · have := hl k hk
      rw [show cn - 1 = e + 1 by omega] at this
      exact this
end CH

/-- the corners of the first sz points, by their numbers -/
def hl_ok (px py : Nat → Int) (sz : Nat) (r : Nat → Nat) (cn : Nat) : Prop := (sz = 0 → cn = 0) ∧ (sz = 1 → cn = 1 ∧ r 0 = 0) ∧ (2 ≤ sz → 2 ≤ cn ∧ r 0 = 0 ∧ (∀ e, e < cn → nx_ok px py (fun i => i < sz) (r e) (if e + 1 < cn then r (e + 1) else r 0)) ∧ (∀ e, 0 < e → e < cn → r e ≠ 0))
theorem kp_neg (px py : Nat → Int) (i : Nat) : kp px py (-1) (-1000) i = -kp px py 1 1000 i := by unfold kp; omega
theorem hl_join {px py : Nat → Int} {sz top cn : Nat} {r : Nat → Nat} {rk rk2 : Nat → Nat} (hs : 2 ≤ sz) (hk : ∀ i j, i < j → j < sz → kp px py 1 1000 i < kp px py 1 1000 j) (h1 : ch_ok px py 1 1000 (fun i => i < sz) rk r 0 top) (e0 : r 0 = 0) (e1 : r (top - 1) = sz - 1) (h2 : ch_ok px py (-1) (-1000) (fun i => i < sz) rk2 r (top - 1) cn) (e2 : r (cn - 1) = 0) : hl_ok px py sz r (cn - 1) := by
  have ht : 2 ≤ top := by
    have := h1.1
    by_cases q : top = 1
    · subst q; rw [e0] at e1; omega
    · omega
  have hle : ∀ j, j < sz → kp px py 1 1000 j ≤ kp px py 1 1000 (sz - 1) := fun j hj => by
    by_cases q : j = sz - 1
    · subst q; omega
    · have := hk j (sz - 1) (by omega) (by omega); omega
  have hge : ∀ j, j < sz → kp px py 1 1000 0 ≤ kp px py 1 1000 j := fun j hj => by
    by_cases q : j = 0
    · subst q; omega
    · have := hk 0 j (by omega) (by omega); omega
  have hcn : top < cn := by
    have := h2.1
    by_cases q : cn = top
    · subst q; rw [e1] at e2; omega
    · omega
  have n1 : ∀ e, e + 1 < top → nx_ok px py (fun i => i < sz) (r e) (r (e + 1)) := fun e he => by
    have m := h1.2.2.1 e (by omega) he
    refine ⟨h1.2.1 e (by omega) (by omega), h1.2.1 (e + 1) (by omega) he, by omega, fun k hk1 => ⟨h1.2.2.2.2.1 e k (by omega) he hk1, fun hz => Or.inl ?_⟩⟩
    exact ch_edge h1 (fun j hj => by rw [e1]; exact hle j hj) (by omega) he hk1 hz
  have n2 : ∀ e, top - 1 ≤ e → e + 1 < cn → nx_ok px py (fun i => i < sz) (r e) (r (e + 1)) := fun e he1 he => by
    have m := h2.2.2.1 e he1 he
    rw [kp_neg, kp_neg] at m
    refine ⟨h2.2.1 e he1 (by omega), h2.2.1 (e + 1) (by omega) he, by omega, fun k hk1 => ⟨h2.2.2.2.2.1 e k he1 he hk1, fun hz => Or.inr ?_⟩⟩
    have := ch_edge h2 (fun j hj => by rw [e2, kp_neg, kp_neg]; have := hge j hj; omega) he1 he hk1 hz
    simp only [kp_neg] at this
    omega
  refine ⟨fun h => by omega, fun h => by omega, fun _ => ⟨by omega, e0, fun e he => ?_, fun e h3 h4 => ?_⟩⟩
  · have hn : nx_ok px py (fun i => i < sz) (r e) (r (e + 1)) := by
      by_cases q : e + 1 < top
      · exact n1 e q
      · exact n2 e (by omega) (by omega)
    by_cases q : e + 1 < cn - 1
    · rw [if_pos q]; exact hn
    · rw [if_neg q, e0]
      rw [show e + 1 = cn - 1 by omega, e2] at hn
      exact hn
  · intro hz
    by_cases q : e < top
    · have mono : ∀ d, d + 1 ≤ e → kp px py 1 1000 (r 0) < kp px py 1 1000 (r (d + 1)) := by
        intro d
        induction d with
        | zero => intro _; exact h1.2.2.1 0 (by omega) (by omega)
        | succ d ih => intro hd; have := ih (by omega); have := h1.2.2.1 (d + 1) (by omega) (by omega); omega
      have := mono (e - 1) (by omega)
      rw [show e - 1 + 1 = e by omega, hz, e0] at this
      omega
    · have mono : ∀ d, e + d + 1 ≤ cn - 1 → kp px py 1 1000 (r (e + d + 1)) < kp px py 1 1000 (r e) := by
        intro d
        induction d with
        | zero => intro _; have := h2.2.2.1 e (by omega) (by omega); rw [kp_neg, kp_neg] at this; rw [Nat.add_zero]; omega
        | succ d ih => intro hd; have := ih (by omega); have := h2.2.2.1 (e + d + 1) (by omega) (by omega); rw [kp_neg, kp_neg] at this; rw [show e + (d + 1) + 1 = e + d + 1 + 1 by omega]; omega
      have := mono (cn - 2 - e) (by omega)
      rw [show e + (cn - 2 - e) + 1 = cn - 1 by omega, e2, hz] at this
      omega
/-! that there is such a chain -/
theorem ch_down {px py : Nat → Int} {A B : Int} {S : Nat → Prop} {rk r : Nat → Nat} {lo i : Nat} (hi : ∀ j, S j → kp px py A B j < kp px py A B i) : ∀ (d cn : Nat), cn = lo + 1 + d → ch_pop px py A B S rk r lo cn i → ∃ cn2, cn2 ≤ cn ∧ ch_pop px py A B S rk r lo cn2 i ∧ (lo + 1 < cn2 → 0 < tn px py (r (cn2 - 2)) (r (cn2 - 1)) i)
  | 0, cn, hc, h => ⟨cn, Nat.le_refl _, h, fun q => by omega⟩
  | d + 1, cn, hc, h => by
    by_cases q : 0 < tn px py (r (cn - 2)) (r (cn - 1)) i
    · exact ⟨cn, Nat.le_refl _, h, fun _ => q⟩
    · obtain ⟨c2, a1, a2, a3⟩ := ch_down hi d (cn - 1) (by omega) (h.pop hi (by omega) q)
      exact ⟨c2, by omega, a2, a3⟩
theorem ch_next {px py : Nat → Int} {A B : Int} {S S2 : Nat → Prop} {rk r : Nat → Nat} {lo cn i : Nat} (h : ch_ok px py A B S rk r lo cn) (hl : ∀ j, S j → kp px py A B (r (cn - 1)) ≤ kp px py A B j → j = r (cn - 1)) (hi : ∀ j, S j → kp px py A B j < kp px py A B i) (hrk : ∀ j, S j → rk j < rk i) (hS : ∀ j, S2 j ↔ S j ∨ j = i) : ∃ r2 cn2, ch_ok px py A B S2 rk r2 lo cn2 ∧ r2 (cn2 - 1) = i ∧ ∀ e, e ≤ lo → r2 e = r e := by
  obtain ⟨c2, a1, a2, a3⟩ := ch_down hi (cn - lo - 1) cn (by have := h.1; omega) (ch_pop.start (i := i) h hl)
  have hlo := a2.1.1
  refine ⟨fun e => if e < c2 then r e else i, c2 + 1, a2.push hi hrk a3 (fun e he => if_pos he) (if_neg (by omega)) hS, ?_, fun e he => if_pos (by omega)⟩
  show (if c2 + 1 - 1 < c2 then _ else i) = i
  rw [if_neg (by omega)]
theorem ch_up {px py : Nat → Int} (sz : Nat) (hk : ∀ i j, i < j → j < sz → kp px py 1 1000 i < kp px py 1 1000 j) : ∀ n, n < sz → ∃ r cn, ch_ok px py 1 1000 (fun i => i < n + 1) (fun i => i) r 0 cn ∧ r 0 = 0 ∧ r (cn - 1) = n
  | 0, h => ⟨fun _ => 0, 1, ch_one (i := 0) rfl (fun j => by omega), rfl, rfl⟩
  | n + 1, h => by
    obtain ⟨r, cn, h1, h2, h3⟩ := ch_up sz hk n (by omega)
    obtain ⟨r2, c2, g1, g2, g3⟩ := ch_next (S2 := fun i => i < n + 1 + 1) (i := n + 1) h1 (fun j hj hk2 => by
      rw [h3] at hk2 ⊢
      by_cases q : j < n
      · have := hk j n q (by omega); omega
      · have : j < n + 1 := hj; omega) (fun j hj => hk j (n + 1) hj h) (fun j hj => hj) (fun j => by omega)
    exact ⟨r2, c2, g1, by rw [g3 0 (by omega)]; exact h2, g2⟩
theorem ch_dn {px py : Nat → Int} (sz lo : Nat) (r0 : Nat → Nat) (hr0 : r0 lo = sz - 1) (hk : ∀ i j, i < j → j < sz → kp px py 1 1000 i < kp px py 1 1000 j) : ∀ n, n < sz → ∃ r cn, ch_ok px py (-1) (-1000) (fun i => sz - 1 - n ≤ i ∧ i < sz) (fun i => sz - 1 - i) r lo cn ∧ (∀ e, e ≤ lo → r e = r0 e) ∧ r (cn - 1) = sz - 1 - n
  | 0, h => ⟨r0, lo + 1, ch_one (i := sz - 1) hr0 (fun j => by omega), fun _ _ => rfl, by rw [show lo + 1 - 1 = lo by omega, hr0]; omega⟩
  | n + 1, h => by
    obtain ⟨r, cn, h1, h2, h3⟩ := ch_dn sz lo r0 hr0 hk n (by omega)
    obtain ⟨r2, c2, g1, g2, g3⟩ := ch_next (S2 := fun i => sz - 1 - (n + 1) ≤ i ∧ i < sz) (i := sz - 1 - (n + 1)) h1 (fun j hj hk2 => by
      rw [h3] at hk2 ⊢
      rw [kp_neg, kp_neg] at hk2
      by_cases q : sz - 1 - n < j
      · have := hk _ j q hj.2; omega
      · omega) (fun j hj => by rw [kp_neg, kp_neg]; have := hk (sz - 1 - (n + 1)) j (by omega) hj.2; omega) (fun j hj => by show sz - 1 - j < sz - 1 - (sz - 1 - (n + 1)); omega) (fun j => by omega)
    exact ⟨r2, c2, g1, fun e he => by rw [g3 e he]; exact h2 e he, g2⟩
theorem hl_exists {px py : Nat → Int} (sz : Nat) (hk : ∀ i j, i < j → j < sz → kp px py 1 1000 i < kp px py 1 1000 j) : ∃ r cn, hl_ok px py sz r cn := by
  by_cases h0 : sz = 0
  · exact ⟨fun _ => 0, 0, fun _ => rfl, fun h => by omega, fun h => by omega⟩
  by_cases h1 : sz = 1
  · exact ⟨fun _ => 0, 1, fun h => by omega, fun _ => ⟨rfl, rfl⟩, fun h => by omega⟩
  obtain ⟨r, top, a1, a2, a3⟩ := ch_up sz hk (sz - 1) (by omega)
  have ht := a1.1
  obtain ⟨r2, cn, b1, b2, b3⟩ := ch_dn sz (top - 1) r a3 hk (sz - 1) (by omega)
  have a1' : ch_ok px py 1 1000 (fun i => i < sz) (fun i => i) r2 0 top := by
    obtain ⟨c1, c2, c3, c4, c5, c6, c7⟩ := a1
    have E : ∀ e, e < top → r2 e = r e := fun e he => b2 e (by omega)
    refine ⟨c1, fun e q1 q2 => ?_, fun e q1 q2 => ?_, fun e q1 q2 => ?_, fun e j q1 q2 hj => ?_, fun j hj => ?_, fun e q1 q2 => ?_⟩
    · rw [E e q2]; have := c2 e q1 q2; show _ < sz; omega
    · rw [E e (by omega), E _ q2]; exact c3 e q1 q2
    · rw [E e (by omega), E _ (by omega), E _ q2]; exact c4 e q1 q2
    · rw [E e (by omega), E _ q2]; exact c5 e j q1 q2 (by show j < sz - 1 + 1; have : j < sz := hj; omega)
    · rw [E 0 c1]; exact c6 j (by show j < sz - 1 + 1; have : j < sz := hj; omega)
    · rw [E e q2]; exact c7 e q1 q2
  have b1' : ch_ok px py (-1) (-1000) (fun i => i < sz) (fun i => sz - 1 - i) r2 (top - 1) cn := by
    obtain ⟨c1, c2, c3, c4, c5, c6, c7⟩ := b1
    exact ⟨c1, fun e q1 q2 => (c2 e q1 q2).2, c3, c4, fun e j q1 q2 hj => c5 e j q1 q2 ⟨by omega, hj⟩, fun j hj => c6 j ⟨by omega, hj⟩, c7⟩
  exact ⟨r2, cn - 1, hl_join (by omega) hk a1' (by rw [b2 0 (by omega)]; exact a2) (by rw [b2 _ (Nat.le_refl _)]; exact a3) b1' (by rw [b3]; omega)⟩
end
section
/-! The hull of a set of points of whole numbers from 0 to 84, by coordinates -/
def tu (x0 y0 x1 y1 x2 y2 : Int) : Int := (x1 - x0) * (y2 - y0) - (y1 - y0) * (x2 - x0)
def ky (x y : Int) : Int := x + 1000 * y
def rng (S : Int → Int → Prop) : Prop := ∀ x y, S x y → (0 ≤ x ∧ x ≤ 84) ∧ (0 ≤ y ∧ y ≤ 84)
def nxt (S : Int → Int → Prop) (x0 y0 x1 y1 : Int) : Prop := S x0 y0 ∧ S x1 y1 ∧ ky x0 y0 ≠ ky x1 y1 ∧ ∀ x y, S x y → 0 ≤ tu x0 y0 x1 y1 x y ∧ (tu x0 y0 x1 y1 x y = 0 → (ky x0 y0 ≤ ky x y ∧ ky x y ≤ ky x1 y1) ∨ (ky x1 y1 ≤ ky x y ∧ ky x y ≤ ky x0 y0))
def nxi (cn i : Nat) : Nat := if i + 1 < cn then i + 1 else 0
def hull (S : Int → Int → Prop) (cx cy : Nat → Int) (cn : Nat) : Prop :=
  (∀ x y, S x y → 0 < cn) ∧ (∀ e, e < cn → S (cx e) (cy e)) ∧ (∀ x y, S x y → ky (cx 0) (cy 0) ≤ ky x y) ∧ (cn = 1 → ∀ x y, S x y → x = cx 0 ∧ y = cy 0) ∧ (2 ≤ cn → ∀ e, e < cn → nxt S (cx e) (cy e) (cx (nxi cn e)) (cy (nxi cn e))) ∧ (∀ e, 0 < e → e < cn → ¬ (cx e = cx 0 ∧ cy e = cy 0))
theorem tu_sw (x0 y0 x1 y1 x2 y2 : Int) : tu x0 y0 x1 y1 x2 y2 = -tu x0 y0 x2 y2 x1 y1 := by unfold tu; grind
theorem nxt_uniq {S : Int → Int → Prop} (hr : rng S) {x0 y0 x1 y1 x2 y2 : Int} (h1 : nxt S x0 y0 x1 y1) (h2 : nxt S x0 y0 x2 y2) : x1 = x2 ∧ y1 = y2 := by
  obtain ⟨a1, a2, a3, a4⟩ := h1
  obtain ⟨b1, b2, b3, b4⟩ := h2
  have c1 := a4 x2 y2 b2
  have c2 := b4 x1 y1 a2
  have r0 := hr _ _ a1
  have r1 := hr _ _ a2
  have r2 := hr _ _ b2
  have sw := tu_sw x0 y0 x1 y1 x2 y2
  have z1 := c1.2 (by omega)
  have z2 := c2.2 (by omega)
  unfold ky at *
  omega
theorem hull_uniq {S : Int → Int → Prop} (hr : rng S) {cx cy dx dy : Nat → Int} {cn dn : Nat} (h1 : hull S cx cy cn) (h2 : hull S dx dy dn) : cn = dn ∧ ∀ e, e < cn → cx e = dx e ∧ cy e = dy e := by
  obtain ⟨a1, a2, a3, a4, a5, a6⟩ := h1
  obtain ⟨b1, b2, b3, b4, b5, b6⟩ := h2
  by_cases c0 : cn = 0
  · by_cases d0 : dn = 0
    · exact ⟨by omega, fun e he => by omega⟩
    · have := a1 _ _ (b2 0 (by omega)); omega
  have d0 : 0 < dn := b1 _ _ (a2 0 (by omega))
  have f0 : cx 0 = dx 0 ∧ cy 0 = dy 0 := by
    have q1 := a3 _ _ (b2 0 d0)
    have q2 := b3 _ _ (a2 0 (by omega))
    have r1 := hr _ _ (a2 0 (by omega))
    have r2 := hr _ _ (b2 0 d0)
    unfold ky at *
    omega
  by_cases c1 : cn = 1
  · have d1 : dn = 1 := by
      by_cases d1 : dn = 1
      · exact d1
      · have q := b5 (by omega) 0 d0
        have w1 := a4 c1 _ _ q.1
        have w2 := a4 c1 _ _ q.2.1
        have w3 := q.2.2.1
        rw [w1.1, w1.2, w2.1, w2.2] at w3
        exact absurd rfl w3
    exact ⟨by omega, fun e he => by rw [show e = 0 by omega]; exact f0⟩
  have d2 : 2 ≤ dn := by
    by_cases d1 : dn = 1
    · have q := a5 (by omega) 0 (by omega)
      have w1 := b4 d1 _ _ q.1
      have w2 := b4 d1 _ _ q.2.1
      have w3 := q.2.2.1
      rw [w1.1, w1.2, w2.1, w2.2] at w3
      exact absurd rfl w3
    · omega
  have main : ∀ e, e < cn → e < dn ∧ cx e = dx e ∧ cy e = dy e := by
    intro e
    induction e with
    | zero => intro _; exact ⟨d0, f0⟩
    | succ e ih =>
      intro he
      obtain ⟨g1, g2, g3⟩ := ih (by omega)
      have n1 := a5 (by omega) e (by omega)
      have n2 := b5 d2 e g1
      rw [← g2, ← g3] at n2
      have u := nxt_uniq hr n1 n2
      rw [show nxi cn e = e + 1 from if_pos he] at u
      by_cases q : e + 1 < dn
      · rw [show nxi dn e = e + 1 from if_pos q] at u
        exact ⟨q, u⟩
      · rw [show nxi dn e = 0 from if_neg q, ← f0.1, ← f0.2] at u
        exact absurd u (a6 (e + 1) (by omega) he)
  refine ⟨?_, fun e he => (main e he).2⟩
  have m1 := (main (cn - 1) (by omega)).1
  by_cases q : cn = dn
  · exact q
  · exfalso
    obtain ⟨g1, g2, g3⟩ := main (cn - 1) (by omega)
    have n1 := a5 (by omega) (cn - 1) (by omega)
    have n2 := b5 d2 (cn - 1) g1
    rw [← g2, ← g3] at n2
    have u := nxt_uniq hr n1 n2
    rw [show nxi cn (cn - 1) = 0 from if_neg (by omega), show nxi dn (cn - 1) = cn - 1 + 1 from if_pos (by omega)] at u
    rw [f0.1, f0.2] at u
    exact b6 (cn - 1 + 1) (by omega) (by omega) ⟨u.1.symm, u.2.symm⟩
/-! sorted points -/
def srt (px py : Nat → Int) (sz : Nat) : Prop := ∀ i j, i < j → j < sz → ky (px i) (py i) < ky (px j) (py j)
def pin (px py : Nat → Int) (sz : Nat) (x y : Int) : Prop := ∃ i, i < sz ∧ px i = x ∧ py i = y
theorem ins_ok {px py qx qy : Nat → Int} {sz at1 : Nat} {x y : Int} (hs : srt px py sz) (ha : at1 ≤ sz) (h1 : ∀ i, i < at1 → ky (px i) (py i) < ky x y) (h2 : ∀ i, at1 ≤ i → i < sz → ky x y < ky (px i) (py i)) (g1 : ∀ i, i < at1 → qx i = px i ∧ qy i = py i) (g2 : qx at1 = x ∧ qy at1 = y) (g3 : ∀ i, at1 < i → i ≤ sz → qx i = px (i - 1) ∧ qy i = py (i - 1)) : srt qx qy (sz + 1) ∧ ∀ u v, pin qx qy (sz + 1) u v ↔ pin px py sz u v ∨ (u = x ∧ v = y) := by
  constructor
  · intro i j hij hj
    by_cases c1 : j < at1
    · rw [(g1 i (by omega)).1, (g1 i (by omega)).2, (g1 j c1).1, (g1 j c1).2]; exact hs i j hij (by omega)
    by_cases c2 : j = at1
    · subst c2; rw [g2.1, g2.2, (g1 i hij).1, (g1 i hij).2]; exact h1 i hij
    rw [(g3 j (by omega) (by omega)).1, (g3 j (by omega) (by omega)).2]
    by_cases c3 : i < at1
    · rw [(g1 i c3).1, (g1 i c3).2]; exact hs i (j - 1) (by omega) (by omega)
    by_cases c4 : i = at1
    · subst c4; rw [g2.1, g2.2]; exact h2 (j - 1) (by omega) (by omega)
    rw [(g3 i (by omega) (by omega)).1, (g3 i (by omega) (by omega)).2]
    exact hs (i - 1) (j - 1) (by omega) (by omega)
  · intro u v
    constructor
    · rintro ⟨i, hi, e1, e2⟩
      by_cases c1 : i < at1
      · exact Or.inl ⟨i, by omega, by rw [← (g1 i c1).1]; exact e1, by rw [← (g1 i c1).2]; exact e2⟩
      by_cases c2 : i = at1
      · subst c2; exact Or.inr ⟨by rw [← e1]; exact g2.1, by rw [← e2]; exact g2.2⟩
      · exact Or.inl ⟨i - 1, by omega, by rw [← (g3 i (by omega) (by omega)).1]; exact e1, by rw [← (g3 i (by omega) (by omega)).2]; exact e2⟩
    · rintro (⟨i, hi, e1, e2⟩ | ⟨e1, e2⟩)
      · by_cases c1 : i < at1
        · exact ⟨i, by omega, by rw [(g1 i c1).1]; exact e1, by rw [(g1 i c1).2]; exact e2⟩
        · refine ⟨i + 1, by omega, ?_, ?_⟩
          · rw [(g3 (i + 1) (by omega) (by omega)).1]; exact e1
          · rw [(g3 (i + 1) (by omega) (by omega)).2]; exact e2
      · exact ⟨at1, by omega, by rw [g2.1]; exact e1.symm, by rw [g2.2]; exact e2.symm⟩
/-- a place for a key among sorted ones -/
theorem srt_place {px py : Nat → Int} {sz : Nat} (hs : srt px py sz) (K : Int) : ∃ at1, at1 ≤ sz ∧ (∀ i, i < at1 → ky (px i) (py i) ≤ K) ∧ (∀ i, at1 ≤ i → i < sz → K < ky (px i) (py i)) := by
  induction sz with
  | zero => exact ⟨0, by omega, fun i hi => by omega, fun i h1 h2 => by omega⟩
  | succ sz ih =>
    obtain ⟨k, a1, a2, a3⟩ := ih (fun i j h1 h2 => hs i j h1 (by omega))
    by_cases q : ky (px sz) (py sz) ≤ K
    · refine ⟨sz + 1, by omega, fun i hi => ?_, fun i h1 h2 => by omega⟩
      by_cases c : i = sz
      · subst c; exact q
      · have := hs i sz (by omega) (by omega); omega
    · refine ⟨k, by omega, a2, fun i h1 h2 => ?_⟩
      by_cases c : i = sz
      · subst c; omega
      · exact a3 i h1 (by omega)
theorem srt_exists (qx qy : Nat → Int) : ∀ m, (∀ i, i < m → (0 ≤ qx i ∧ qx i ≤ 84) ∧ (0 ≤ qy i ∧ qy i ≤ 84)) → ∃ px py sz, srt px py sz ∧ ∀ x y, pin px py sz x y ↔ pin qx qy m x y
  | 0, _ => ⟨qx, qy, 0, fun i j h1 h2 => by omega, fun x y => Iff.rfl⟩
  | m + 1, hr => by
    obtain ⟨px, py, sz, h1, h2⟩ := srt_exists qx qy m (fun i hi => hr i (by omega))
    have hm : ∀ x y, pin qx qy (m + 1) x y ↔ pin qx qy m x y ∨ (x = qx m ∧ y = qy m) := by
      intro x y
      constructor
      · rintro ⟨i, hi, e1, e2⟩
        by_cases c : i = m
        · subst c; exact Or.inr ⟨e1.symm, e2.symm⟩
        · exact Or.inl ⟨i, by omega, e1, e2⟩
      · rintro (⟨i, hi, e1, e2⟩ | ⟨e1, e2⟩)
        · exact ⟨i, by omega, e1, e2⟩
        · exact ⟨m, by omega, e1.symm, e2.symm⟩
    by_cases c : pin qx qy m (qx m) (qy m)
    · exact ⟨px, py, sz, h1, fun x y => by
        rw [hm, h2]
        constructor
        · exact Or.inl
        · rintro (q | ⟨rfl, rfl⟩)
          · exact q
          · exact c⟩
    · obtain ⟨k, a1, a2, a3⟩ := srt_place h1 (ky (qx m) (qy m))
      have hk : ∀ i, i < k → ky (px i) (py i) < ky (qx m) (qy m) := fun i hi => by
        have q1 := a2 i hi
        by_cases q : ky (px i) (py i) = ky (qx m) (qy m)
        · exfalso
          have q3 : pin qx qy m (px i) (py i) := (h2 _ _).mp ⟨i, by omega, rfl, rfl⟩
          obtain ⟨j, j1, j2, j3⟩ := q3
          have r1 := hr j (by omega)
          have r2 := hr m (by omega)
          rw [j2, j3] at r1
          unfold ky at q
          exact c ⟨j, j1, by omega, by omega⟩
        · omega
      have := ins_ok (qx := fun i => if i < k then px i else if i = k then qx m else px (i - 1)) (qy := fun i => if i < k then py i else if i = k then qy m else py (i - 1)) h1 a1 hk a3 (fun i hi => by simp [hi]) (by simp) (fun i h1 h2 => by simp [show ¬ i < k by omega, show ¬ i = k by omega])
      exact ⟨_, _, sz + 1, this.1, fun x y => by rw [this.2, hm, h2]⟩
theorem kp_ky (px py : Nat → Int) (i : Nat) : kp px py 1 1000 i = ky (px i) (py i) := by unfold kp ky; omega
/-- the corners by number give the hull -/
theorem hl_hull {px py : Nat → Int} {sz cn : Nat} {r : Nat → Nat} (hs : srt px py sz) (h : hl_ok px py sz r cn) : hull (pin px py sz) (fun e => px (r e)) (fun e => py (r e)) cn := by
  obtain ⟨a0, a1, a2⟩ := h
  have key0 : ∀ x y, pin px py sz x y → ky (px 0) (py 0) ≤ ky x y := by
    rintro x y ⟨i, hi, rfl, rfl⟩
    by_cases c : i = 0
    · subst c; omega
    · have := hs 0 i (by omega) hi; omega
  have pos : ∀ x y, pin px py sz x y → 0 < sz := by rintro x y ⟨i, hi, -⟩; omega
  by_cases c0 : sz = 0
  · have := a0 c0
    subst this
    exact ⟨fun x y q => by have := pos x y q; omega, fun e he => by omega, fun x y q => by have := pos x y q; omega, fun h => by omega, fun h => by omega, fun e h1 h2 => by omega⟩
  by_cases c1 : sz = 1
  · obtain ⟨rfl, e0⟩ := a1 c1
    refine ⟨fun x y q => by omega, fun e he => ?_, fun x y q => ?_, fun _ x y q => ?_, fun h => by omega, fun e h1 h2 => by omega⟩
    · rw [show e = 0 by omega]; exact ⟨r 0, by omega, rfl, rfl⟩
    · show ky (px (r 0)) (py (r 0)) ≤ _; rw [e0]; exact key0 x y q
    · obtain ⟨i, hi, rfl, rfl⟩ := q
      show px i = px (r 0) ∧ py i = py (r 0)
      rw [show i = 0 by omega, e0]
      exact ⟨rfl, rfl⟩
  obtain ⟨b1, b2, b3, b4⟩ := a2 (by omega)
  refine ⟨fun x y q => by omega, fun e he => ⟨r e, (b3 e he).1, rfl, rfl⟩, fun x y q => ?_, fun h => by omega, fun _ e he => ?_, fun e h1 h2 q => ?_⟩
  · show ky (px (r 0)) (py (r 0)) ≤ _; rw [b2]; exact key0 x y q
  · have := b3 e he
    have e9 : (if e + 1 < cn then r (e + 1) else r 0) = r (nxi cn e) := by unfold nxi; split <;> rfl
    rw [e9] at this
    obtain ⟨q1, q2, q3, q4⟩ := this
    refine ⟨⟨_, q1, rfl, rfl⟩, ⟨_, q2, rfl, rfl⟩, by rw [kp_ky, kp_ky] at q3; exact q3, ?_⟩
    rintro x y ⟨i, hi, rfl, rfl⟩
    have := q4 i hi
    simp only [kp_ky] at this
    exact this
  · have r1 := (b3 e h2).1
    have := b4 e h1 h2
    have r1' : r e < sz := r1
    have := hs 0 (r e) (by omega) r1'
    have q' : px (r e) = px (r 0) ∧ py (r e) = py (r 0) := q
    rw [b2] at q'
    rw [q'.1, q'.2] at this
    omega
theorem hull_exists (qx qy : Nat → Int) (m : Nat) (hr : ∀ i, i < m → (0 ≤ qx i ∧ qx i ≤ 84) ∧ (0 ≤ qy i ∧ qy i ≤ 84)) : ∃ q : Nat × (Nat → Int) × (Nat → Int), hull (pin qx qy m) q.2.1 q.2.2 q.1 := by
  obtain ⟨px, py, sz, h1, h2⟩ := srt_exists qx qy m hr
  obtain ⟨r, cn, h3⟩ := hl_exists (px := px) (py := py) sz (fun i j a b => by rw [kp_ky, kp_ky]; exact h1 i j a b)
  have e : pin px py sz = pin qx qy m := by funext x y; exact propext (h2 x y)
  exact ⟨(cn, _, _), e ▸ hl_hull h1 h3⟩
/-- the corners of S: how many, and where -/
noncomputable def hC (S : Int → Int → Prop) : Nat × (Nat → Int) × (Nat → Int) := Classical.epsilon (fun q => hull S q.2.1 q.2.2 q.1)
def arS (cx cy : Nat → Int) (cn : Nat) : Nat → Int
  | 0 => 0
  | i + 1 => arS cx cy cn i + (cx i * cy (nxi cn i) - cx (nxi cn i) * cy i)
noncomputable def hA (S : Int → Int → Prop) : Int := arS (hC S).2.1 (hC S).2.2 (hC S).1 (hC S).1
theorem hC_is {S : Int → Int → Prop} (hr : rng S) {cx cy : Nat → Int} {cn : Nat} (h : hull S cx cy cn) : cn = (hC S).1 ∧ ∀ e, e < cn → cx e = (hC S).2.1 e ∧ cy e = (hC S).2.2 e :=
  hull_uniq hr h (Classical.epsilon_spec (p := fun q : Nat × (Nat → Int) × (Nat → Int) => hull S q.2.1 q.2.2 q.1) ⟨(cn, cx, cy), h⟩)
theorem arS_congr {cx cy dx dy : Nat → Int} {cn : Nat} (h : ∀ e, e < cn → cx e = dx e ∧ cy e = dy e) : ∀ i, i ≤ cn → arS cx cy cn i = arS dx dy cn i
  | 0, _ => rfl
  | i + 1, hi => by
    have hn : nxi cn i < cn := by unfold nxi; split <;> omega
    rw [arS, arS, arS_congr h i (by omega), (h i (by omega)).1, (h i (by omega)).2, (h _ hn).1, (h _ hn).2]
theorem hA_is {S : Int → Int → Prop} (hr : rng S) {cx cy : Nat → Int} {cn : Nat} (h : hull S cx cy cn) : arS cx cy cn cn = hA S := by
  obtain ⟨e, g⟩ := hC_is hr h
  unfold hA
  rw [← e]
  exact arS_congr g cn (Nat.le_refl _)
theorem hull_congr {S S2 : Int → Int → Prop} (h : ∀ x y, S x y ↔ S2 x y) : S = S2 := by funext x y; exact propext (h x y)
end
section
section SM
variable {p : Program} {l : Launch} {e : Env} {R : Room} {s : State} {m : MethodId} {args : Array Value} {below : List Frame} {meth : Method} {c : Code} {b : Nat} {D : va_G} {dA : Nat → ClassId} {nL n0 z0 : Nat} {Q : State → Prop} {cc : ByteArray} {own : String} {ht : Nat} {pc : Nat} {L : List (Option ax_V)} {st : List ax_V} {h : ax_H}
theorem g_iincT (C : ax_C p R s m args meth c b D dA nL n0 cc own ht) {i : Nat} {n z z2 : Int} {L' : List (Option ax_V)} (hd : decode cc pc = .ok (.iinc i n, 3)) (hn : i < nL) (hi : L[i]? = some (some (.inl z))) (hz : z + n = z2) (hL : L.set i (some (.inl z2)) = L') (k : ax_G p l e R s m args below meth c b D dA nL n0 z0 Q (pc + 3) (L') (st) (h)) : ax_G p l e R s m args below meth c b D dA nL n0 z0 Q (pc) (L) (st) (h) := by
  subst hz
  exact g_iinc C hd hn hi hL k
theorem g_gen {F : ax_H → Prop} (hF : F h) (k : ∀ h' : ax_H, F h' → ax_G p l e R s m args below meth c b D dA nL n0 z0 Q (pc) (L) (st) (h')) : ax_G p l e R s m args below meth c b D dA nL n0 z0 Q (pc) (L) (st) (h) := k h hF
end SM
theorem mb2 {u x U M : Int} (h1 : -U ≤ u ∧ u ≤ U) (h3 : -M ≤ x ∧ x ≤ M) : -(U * M) ≤ u * x ∧ u * x ≤ U * M := by
  by_cases h : 0 ≤ x
  · exact mb h1 ⟨h, h3.2⟩
  · have := mb (x := -x) (M := M) h1 ⟨by omega, by omega⟩
    rw [Int.mul_neg] at this
    omega
/-! small methods of MixedCells, Integer -/
theorem t_isWithin {h : ax_H} {x y z : Int} (hx : -2147483648 ≤ x ∧ x < 2147483648) (hy : -2147483648 ≤ y ∧ y < 2147483648) (hz : -2147483648 ≤ z ∧ z < 2147483648) : ax_Met MX4_isWithin [iv x, iv y, iv z] h (some (iv (if y ≤ x ∧ x ≤ z then 1 else 0))) h := by
  refine ax_mz (L0 := [some (iv x), some (iv y), some (iv z)]) rfl rfl (Nat.le_refl _) (Nat.le_refl _) (Nat.le_of_ble_eq_true rfl) rfl ?_
  intro p9 l9 e9 R9 s9 m9 args9 below9 meth9 c9 b9 D9 dA9 Q9 C kr
  refine g_iload_n C dX4_isWithin_0 rfl ?_
  refine g_iload_n C dX4_isWithin_1 rfl ?_
  refine g_icmp_lt C dX4_isWithin_2 (tgt := 14) (by decide) (by omega) (by omega) (fun h2 => ?_) (fun h2 => ?_)
  · refine g_iconst C dX4_isWithin_14 ?_
    first | exact kr _ _ _ dX4_isWithin_15 (Or.inr rfl) (by rw [if_pos (by omega)]) | exact kr _ _ _ dX4_isWithin_15 (Or.inl rfl) (by rw [if_neg (by omega)])
  · refine g_iload_n C dX4_isWithin_5 rfl ?_
    refine g_iload_n C dX4_isWithin_6 rfl ?_
    refine g_icmp_gt C dX4_isWithin_7 (tgt := 14) (by decide) (by omega) (by omega) (fun h7 => ?_) (fun h7 => ?_)
    · refine g_iconst C dX4_isWithin_14 ?_
      first | exact kr _ _ _ dX4_isWithin_15 (Or.inr rfl) (by rw [if_pos (by omega)]) | exact kr _ _ _ dX4_isWithin_15 (Or.inl rfl) (by rw [if_neg (by omega)])
    · refine g_iconst C dX4_isWithin_10 ?_
      refine g_goto C dX4_isWithin_11 (tgt := 15) (by decide) ?_
      first | exact kr _ _ _ dX4_isWithin_15 (Or.inr rfl) (by rw [if_pos (by omega)]) | exact kr _ _ _ dX4_isWithin_15 (Or.inl rfl) (by rw [if_neg (by omega)])
theorem t_compare {h : ax_H} {x y : Int} (hx : -2147483648 ≤ x ∧ x < 2147483648) (hy : -2147483648 ≤ y ∧ y < 2147483648) : ax_Met MJ6_compare_7cf53 [iv x, iv y] h (some (iv (if x < y then -1 else if x = y then 0 else 1))) h := by
  refine ax_mi (L0 := [some (iv x), some (iv y)]) rfl rfl (Nat.le_refl _) (Nat.le_refl _) (Nat.le_of_ble_eq_true rfl) rfl ?_
  intro p9 l9 e9 R9 s9 m9 args9 below9 meth9 c9 b9 D9 dA9 Q9 C kr
  refine g_iload_n C dJ6_compare_7cf53_0 rfl ?_
  refine g_iload_n C dJ6_compare_7cf53_1 rfl ?_
  refine g_icmp_ge C dJ6_compare_7cf53_2 (tgt := 9) (by decide) (by omega) (by omega) (fun h2 => ?_) (fun h2 => ?_)
  · refine g_iload_n C dJ6_compare_7cf53_9 rfl ?_
    refine g_iload_n C dJ6_compare_7cf53_10 rfl ?_
    refine g_icmp_ne C dJ6_compare_7cf53_11 (tgt := 18) (by decide) (by omega) (by omega) (fun h11 => ?_) (fun h11 => ?_)
    · refine g_iconst C dJ6_compare_7cf53_18 ?_
      first | exact kr _ _ _ dJ6_compare_7cf53_19 (by rw [if_pos (by omega)]) | exact kr _ _ _ dJ6_compare_7cf53_19 (by rw [if_neg (by omega), if_pos (by omega)]) | exact kr _ _ _ dJ6_compare_7cf53_19 (by rw [if_neg (by omega), if_neg (by omega)])
    · refine g_iconst C dJ6_compare_7cf53_14 ?_
      refine g_goto C dJ6_compare_7cf53_15 (tgt := 19) (by decide) ?_
      first | exact kr _ _ _ dJ6_compare_7cf53_19 (by rw [if_pos (by omega)]) | exact kr _ _ _ dJ6_compare_7cf53_19 (by rw [if_neg (by omega), if_pos (by omega)]) | exact kr _ _ _ dJ6_compare_7cf53_19 (by rw [if_neg (by omega), if_neg (by omega)])
  · refine g_iconst C dJ6_compare_7cf53_5 ?_
    refine g_goto C dJ6_compare_7cf53_6 (tgt := 19) (by decide) ?_
    first | exact kr _ _ _ dJ6_compare_7cf53_19 (by rw [if_pos (by omega)]) | exact kr _ _ _ dJ6_compare_7cf53_19 (by rw [if_neg (by omega), if_pos (by omega)]) | exact kr _ _ _ dJ6_compare_7cf53_19 (by rw [if_neg (by omega), if_neg (by omega)])
def euF : Nat → Nat → Nat → Nat
  | 0, a, _ => a
  | d + 1, a, b => if b = 0 then a else euF d b (a % b)
theorem euF_0 : ∀ d a, euF d a 0 = a
  | 0, _ => rfl
  | d + 1, a => by rw [euF, if_pos rfl]
theorem euF_gcd : ∀ (m d a b : Nat), b < 2 ^ m → 2 * m ≤ d → euF d a b = Nat.gcd a b
  | 0, d, a, b, hb, _ => by
    have : b = 0 := by simp at hb; exact hb
    subst this
    rw [euF_0, Nat.gcd_zero_right]
  | m + 1, d, a, b, hb, hd => by
    by_cases b0 : b = 0
    · subst b0; rw [euF_0, Nat.gcd_zero_right]
    obtain ⟨d2, rfl⟩ : ∃ d2, d = d2 + 2 := ⟨d - 2, by omega⟩
    rw [euF, if_neg b0, euF]
    have e1 : Nat.gcd a b = Nat.gcd b (a % b) := by rw [Nat.gcd_comm a b, Nat.gcd_rec b a, Nat.gcd_comm]
    by_cases r0 : a % b = 0
    · rw [if_pos r0, e1, r0, Nat.gcd_zero_right]
    · rw [if_neg r0, e1]
      have hr := Nat.mod_lt a (show b > 0 by omega)
      have h1 := Nat.mod_lt b (show a % b > 0 by omega)
      have h2 : b % (a % b) + (a % b) ≤ b := by
        have q := Nat.div_add_mod b (a % b)
        have q2 : 1 ≤ b / (a % b) := Nat.div_pos (by omega) (by omega)
        have q3 : (a % b) * 1 ≤ (a % b) * (b / (a % b)) := Nat.mul_le_mul_left _ q2
        omega
      have hp : 2 ^ (m + 1) = 2 ^ m * 2 := Nat.pow_succ 2 m
      rw [euF_gcd m d2 (a % b) (b % (a % b)) (by omega) (by omega)]
      have e2 : Nat.gcd b (a % b) = Nat.gcd (a % b) (b % (a % b)) := by rw [Nat.gcd_comm b (a % b), Nat.gcd_rec (a % b) b, Nat.gcd_comm]
      exact e2.symm
theorem t_commonDivisor {h : ax_H} {x y : Nat} (hx : x < 2147483648) (hy : y < 2147483648) : ax_Met MX4_commonDivisor [iv (x : Int), iv (y : Int)] h (some (iv (Nat.gcd x y : Int))) h := by
  refine ax_mi (L0 := [some (iv (x : Int)), some (iv (y : Int)), none, none, none, none]) rfl rfl (Nat.le_refl _) (Nat.le_refl _) (Nat.le_of_ble_eq_true rfl) rfl ?_
  intro p9 l9 e9 R9 s9 m9 args9 below9 meth9 c9 b9 D9 dA9 Q9 C kr
  have loop : ∀ (d k u v : Nat) (x5 : Option ax_V), k + d = 64 → u < 2147483648 → v < 2147483648 → Nat.gcd x y = euF d u v → ax_G p9 l9 e9 R9 s9 m9 args9 below9 meth9 c9 b9 D9 dA9 MX4_commonDivisor.2.2.1 h.length (ax_sz h) Q9 (7) ([some (iv (x : Int)), some (iv (y : Int)), some (iv (u : Int)), some (iv (v : Int)), some (iv (k : Int)), x5]) ([]) (h) := by
    intro d
    induction d with
    | zero =>
      intro k u v x5 hk hu hv e
      refine g_iload C dX4_commonDivisor_7 rfl ?_
      refine g_bipush C dX4_commonDivisor_9 (by decide) ?_
      refine g_icmp_ge C dX4_commonDivisor_11 (tgt := 34) (by decide) (by omega) (by omega) (fun h11 => ?_) (fun h11 => ?_)
      · refine g_iload_n C dX4_commonDivisor_34 rfl ?_
        exact kr _ _ _ dX4_commonDivisor_35 (congrArg (fun z : Nat => some (iv (z : Int))) e)
      · exfalso; omega
    | succ d ih =>
      intro k u v x5 hk hu hv e
      rw [euF] at e
      refine g_iload C dX4_commonDivisor_7 rfl ?_
      refine g_bipush C dX4_commonDivisor_9 (by decide) ?_
      refine g_icmp_ge C dX4_commonDivisor_11 (tgt := 34) (by decide) (by omega) (by omega) (fun h11 => ?_) (fun h11 => ?_)
      · exfalso; omega
      · refine g_iload_n C dX4_commonDivisor_14 rfl ?_
        refine g_if_eq C dX4_commonDivisor_15 (tgt := 34) (by decide) (by omega) (fun h15 => ?_) (fun h15 => ?_)
        · rw [if_pos (by omega)] at e
          refine g_iload_n C dX4_commonDivisor_34 rfl ?_
          exact kr _ _ _ dX4_commonDivisor_35 (congrArg (fun z : Nat => some (iv (z : Int))) e)
        · rw [if_neg (by omega)] at e
          refine g_iload_n C dX4_commonDivisor_18 rfl ?_
          refine g_iload_n C dX4_commonDivisor_19 rfl ?_
          refine g_irem C dX4_commonDivisor_20 (by omega) (by omega) (by omega) ?_
          refine g_top (Int.ofNat_tmod u v).symm ?_
          refine g_istore C dX4_commonDivisor_21 (by decide) rfl ?_
          dsimp only [List.set]
          refine g_iload_n C dX4_commonDivisor_23 rfl ?_
          refine g_istore_n C dX4_commonDivisor_24 (by decide) rfl ?_
          dsimp only [List.set]
          refine g_iload C dX4_commonDivisor_25 rfl ?_
          refine g_istore_n C dX4_commonDivisor_27 (by decide) rfl ?_
          dsimp only [List.set]
          refine g_iinc C dX4_commonDivisor_28 (by decide) rfl rfl ?_
          dsimp only [List.set]
          refine g_goto C dX4_commonDivisor_31 (tgt := 7) (by decide) ?_
          exact ih (k + 1) v (u % v) _ (by omega) hv (by have := Nat.mod_lt u (show v > 0 by omega); omega) e
  refine g_iload_n C dX4_commonDivisor_0 rfl ?_
  refine g_istore_n C dX4_commonDivisor_1 (by decide) rfl ?_
  dsimp only [List.set]
  refine g_iload_n C dX4_commonDivisor_2 rfl ?_
  refine g_istore_n C dX4_commonDivisor_3 (by decide) rfl ?_
  dsimp only [List.set]
  refine g_iconst C dX4_commonDivisor_4 ?_
  refine g_istore C dX4_commonDivisor_5 (by decide) rfl ?_
  dsimp only [List.set]
  exact loop 64 0 x y none rfl hx hy (euF_gcd 31 64 x y (by omega) (by omega)).symm
end
section
/-! Region -/
def rg_rg (xs ys : Nat → Int) (sz : Nat) : Prop := ∀ i, i < sz → (0 ≤ xs i ∧ xs i ≤ 84) ∧ (0 ≤ ys i ∧ ys i ≤ 84)
theorem t_comesBehind {h : ax_H} {a sz cn i : Nat} {xs ys rd : Nat → Int} (hR : rg_at h a xs ys sz rd cn) (hr : rg_rg xs ys sz) (hz : sz ≤ 128) (hi : i < sz) {x y : Int} (hx : 0 ≤ x ∧ x ≤ 84) (hy : 0 ≤ y ∧ y ≤ 84) : ax_Met MX3_comesBehind [rv a, iv (i : Int), iv x, iv y] h (some (iv (if ky x y < ky (xs i) (ys i) then 1 else 0))) h := by
  obtain ⟨h0, h1, h2, h3⟩ := hR
  have q := hr i hi
  unfold ky
  refine ax_mz (L0 := [some (rv a), some (iv (i : Int)), some (iv x), some (iv y)]) rfl rfl (Nat.le_refl _) (Nat.le_refl _) (Nat.le_of_ble_eq_true rfl) rfl ?_
  intro p9 l9 e9 R9 s9 m9 args9 below9 meth9 c9 b9 D9 dA9 Q9 C kr
  refine g_aload_n C dX3_comesBehind_0 rfl ?_
  refine g_get C FX3_15 dX3_comesBehind_1 (by assumption) rfl ?_
  refine g_iload_n C dX3_comesBehind_4 rfl ?_
  refine g_iald C dX3_comesBehind_5 (by assumption) rfl (by omega) (by decide) ?_
  refine g_iload_n C dX3_comesBehind_6 rfl ?_
  refine g_icmp_gt C dX3_comesBehind_7 (tgt := 30) (by decide) (by omega) (by omega) (fun h7 => ?_) (fun h7 => ?_)
  · refine g_iconst C dX3_comesBehind_30 ?_
    refine g_goto C dX3_comesBehind_31 (tgt := 35) (by decide) ?_
    first | exact kr _ _ _ dX3_comesBehind_35 (Or.inr rfl) (by rw [if_pos (by omega)]) | exact kr _ _ _ dX3_comesBehind_35 (Or.inl rfl) (by rw [if_neg (by omega)])
  · refine g_aload_n C dX3_comesBehind_10 rfl ?_
    refine g_get C FX3_15 dX3_comesBehind_11 (by assumption) rfl ?_
    refine g_iload_n C dX3_comesBehind_14 rfl ?_
    refine g_iald C dX3_comesBehind_15 (by assumption) rfl (by omega) (by decide) ?_
    refine g_iload_n C dX3_comesBehind_16 rfl ?_
    refine g_icmp_ne C dX3_comesBehind_17 (tgt := 34) (by decide) (by omega) (by omega) (fun h17 => ?_) (fun h17 => ?_)
    · refine g_iconst C dX3_comesBehind_34 ?_
      first | exact kr _ _ _ dX3_comesBehind_35 (Or.inr rfl) (by rw [if_pos (by omega)]) | exact kr _ _ _ dX3_comesBehind_35 (Or.inl rfl) (by rw [if_neg (by omega)])
    · refine g_aload_n C dX3_comesBehind_20 rfl ?_
      refine g_get C FX3_11 dX3_comesBehind_21 (by assumption) rfl ?_
      refine g_iload_n C dX3_comesBehind_24 rfl ?_
      refine g_iald C dX3_comesBehind_25 (by assumption) rfl (by omega) (by decide) ?_
      refine g_iload_n C dX3_comesBehind_26 rfl ?_
      refine g_icmp_le C dX3_comesBehind_27 (tgt := 34) (by decide) (by omega) (by omega) (fun h27 => ?_) (fun h27 => ?_)
      · refine g_iconst C dX3_comesBehind_34 ?_
        first | exact kr _ _ _ dX3_comesBehind_35 (Or.inr rfl) (by rw [if_pos (by omega)]) | exact kr _ _ _ dX3_comesBehind_35 (Or.inl rfl) (by rw [if_neg (by omega)])
      · refine g_iconst C dX3_comesBehind_30 ?_
        refine g_goto C dX3_comesBehind_31 (tgt := 35) (by decide) ?_
        first | exact kr _ _ _ dX3_comesBehind_35 (Or.inr rfl) (by rw [if_pos (by omega)]) | exact kr _ _ _ dX3_comesBehind_35 (Or.inl rfl) (by rw [if_neg (by omega)])
theorem t_include {h : ax_H} {a sz cn : Nat} {xs ys rd : Nat → Int} (hR : rg_at h a xs ys sz rd cn) (hr : rg_rg xs ys sz) (hs : srt xs ys sz) (hz : sz < 128) {x y : Int} (hx : 0 ≤ x ∧ x ≤ 84) (hy : 0 ≤ y ∧ y ≤ 84) : ax_Mt MX3_include [rv a, iv x, iv y] h (fun r h' => r = none ∧ ∃ (xs' ys' : Nat → Int) (sz' : Nat), rg_at h' a xs' ys' sz' rd cn ∧ ax_sm a (a + 4) h h' ∧ rg_rg xs' ys' sz' ∧ srt xs' ys' sz' ∧ sz' ≤ sz + 1 ∧ ∀ u v, pin xs' ys' sz' u v ↔ pin xs ys sz u v ∨ (u = x ∧ v = y)) := by
  have hm := ax_sm.rf (lo := a) (hi := a + 4) h
  have ⟨h0, h1, h2, h3⟩ := hR
  refine ax_rv (L0 := [some (rv a), some (iv x), some (iv y), none, none, none]) rfl rfl (Nat.le_of_ble_eq_true rfl) rfl ?_
  intro p9 l9 e9 R9 s9 m9 args9 below9 meth9 c9 b9 D9 dA9 Q9 C kr
  -- the second loop: the ones behind go one place on
  have loop2 : ∀ (t : Nat), t ≤ sz → (∀ i, i < t → ky (xs i) (ys i) < ky x y) → (∀ i, t ≤ i → i < sz → ky x y < ky (xs i) (ys i)) → ∀ (d i : Nat) (hh : ax_H) (X1 Y1 : Nat → Int), i = t + d → i ≤ sz → rg_at hh a X1 Y1 sz rd cn → ax_sm a (a + 4) h hh → (∀ j, j ≤ i → j < 128 → (j < sz ∨ j < i) → X1 j = xs j ∧ Y1 j = ys j) → (∀ j, i < j → j ≤ sz → X1 j = xs (j - 1) ∧ Y1 j = ys (j - 1)) → ax_G p9 l9 e9 R9 s9 m9 args9 below9 meth9 c9 b9 D9 dA9 MX3_include.2.2.1 h.length (ax_sz h) Q9 (84) ([some (rv a), some (iv x), some (iv y), some (iv (t : Int)), some (iv 0), some (iv (i : Int))]) ([]) (hh) := by
    intro t ht k1 k2 d
    induction d with
    | zero =>
      intro i hh X1 Y1 hi his hR hm g1 g2
      have ⟨h0, h1, h2, h3⟩ := hR
      refine g_iload C dX3_include_84 rfl ?_
      refine g_iload_n C dX3_include_86 rfl ?_
      refine g_icmp_le C dX3_include_87 (tgt := 128) (by decide) (by omega) (by omega) (fun h87 => ?_) (fun h87 => ?_)
      · refine g_aload_n C dX3_include_128 rfl ?_
        refine g_get C FX3_11 dX3_include_129 (by assumption) rfl ?_
        refine g_iload_n C dX3_include_132 rfl ?_
        refine g_iload_n C dX3_include_133 rfl ?_
        refine g_iast C dX3_include_134 (by assumption) rfl (by omega) (by decide) ?_
        refine rg_s_xs hR hm ?_
        intro h9 hR hm
        have ⟨h0, h1, h2, h3⟩ := hR
        refine g_aload_n C dX3_include_135 rfl ?_
        refine g_get C FX3_15 dX3_include_136 (by assumption) rfl ?_
        refine g_iload_n C dX3_include_139 rfl ?_
        refine g_iload_n C dX3_include_140 rfl ?_
        refine g_iast C dX3_include_141 (by assumption) rfl (by omega) (by decide) ?_
        refine rg_s_ys hR hm ?_
        intro h9 hR hm
        have ⟨h0, h1, h2, h3⟩ := hR
        refine g_aload_n C dX3_include_142 rfl ?_
        refine g_dup C dX3_include_143 ?_
        refine g_get C FX3_21 dX3_include_144 (by assumption) rfl ?_
        refine g_iconst C dX3_include_147 ?_
        refine g_iadd C dX3_include_148 ?_
        refine g_put C FX3_21 dX3_include_149 (by assumption) rfl rfl (Nat.le_of_ble_eq_true rfl) ?_
        dsimp only [List.set]
        refine rg_s_sz (sz + 1) rfl hR hm ?_
        intro h9 hR hm
        have ins := ins_ok (qx := va_up X1 t x) (qy := va_up Y1 t y) hs ht k1 k2 (fun j hj => by simp only [va_up, if_neg (show ¬ j = t by omega)]; exact g1 j (by omega) (by omega) (by omega)) (by simp [va_up]) (fun j h5 h6 => by simp only [va_up, if_neg (show ¬ j = t by omega)]; exact g2 j (by omega) h6)
        refine kr _ _ _ dX3_include_152 ⟨rfl, _, _, _, hR, hm, fun j hj => ?_, ins.1, Nat.le_refl _, ins.2⟩ hm.1
        rcases (ins.2 _ _).mp ⟨j, hj, rfl, rfl⟩ with ⟨j2, q1, q2, q3⟩ | ⟨q1, q2⟩
        · rw [← q2, ← q3]; exact hr j2 q1
        · rw [q1, q2]; exact ⟨hx, hy⟩
      · exfalso; omega
    | succ d ih =>
      intro i hh X1 Y1 hi his hR hm g1 g2
      have ⟨h0, h1, h2, h3⟩ := hR
      have gi := g1 (i - 1) (by omega) (by omega) (by omega)
      refine g_iload C dX3_include_84 rfl ?_
      refine g_iload_n C dX3_include_86 rfl ?_
      refine g_icmp_le C dX3_include_87 (tgt := 128) (by decide) (by omega) (by omega) (fun h87 => ?_) (fun h87 => ?_)
      · exfalso; omega
      · refine g_aload_n C dX3_include_90 rfl ?_
        refine g_get C FX3_11 dX3_include_91 (by assumption) rfl ?_
        refine g_iload C dX3_include_94 rfl ?_
        refine g_aload_n C dX3_include_96 rfl ?_
        refine g_get C FX3_11 dX3_include_97 (by assumption) rfl ?_
        refine g_iload C dX3_include_100 rfl ?_
        refine g_iconst C dX3_include_102 ?_
        refine g_isub C dX3_include_103 ?_
        refine g_top (show _ = ((i - 1 : Nat) : Int) by omega) ?_
        refine g_iald C dX3_include_104 (by assumption) rfl (by omega) (by decide) ?_
        refine g_iast C dX3_include_105 (by assumption) rfl (by omega) (by decide) ?_
        refine rg_s_xs hR hm ?_
        intro h9 hR hm
        have ⟨h0, h1, h2, h3⟩ := hR
        refine g_aload_n C dX3_include_106 rfl ?_
        refine g_get C FX3_15 dX3_include_107 (by assumption) rfl ?_
        refine g_iload C dX3_include_110 rfl ?_
        refine g_aload_n C dX3_include_112 rfl ?_
        refine g_get C FX3_15 dX3_include_113 (by assumption) rfl ?_
        refine g_iload C dX3_include_116 rfl ?_
        refine g_iconst C dX3_include_118 ?_
        refine g_isub C dX3_include_119 ?_
        refine g_top (show _ = ((i - 1 : Nat) : Int) by omega) ?_
        refine g_iald C dX3_include_120 (by assumption) rfl (by omega) (by decide) ?_
        refine g_iast C dX3_include_121 (by assumption) rfl (by omega) (by decide) ?_
        refine rg_s_ys hR hm ?_
        intro h9 hR hm
        have ⟨h0, h1, h2, h3⟩ := hR
        refine g_iincT C dX3_include_122 (by decide) rfl (show _ = ((i - 1 : Nat) : Int) by omega) rfl ?_
        dsimp only [List.set]
        refine g_goto C dX3_include_125 (tgt := 84) (by decide) ?_
        refine ih (i - 1) _ _ _ (by omega) (by omega) hR hm (fun j h5 h6 h7 => ?_) (fun j h5 h6 => ?_)
        · simp only [va_up, if_neg (show ¬ j = i by omega)]; exact g1 j (by omega) h6 (by omega)
        · by_cases c : j = i
          · subst c; simp only [va_up, if_pos]; exact gi
          · simp only [va_up, if_neg c]; exact g2 j (by omega) h6
  -- the first loop: where its place is
  have loop1 : ∀ (t : Nat), t ≤ sz → (∀ i, t ≤ i → i < sz → ky x y < ky (xs i) (ys i)) → ax_G p9 l9 e9 R9 s9 m9 args9 below9 meth9 c9 b9 D9 dA9 MX3_include.2.2.1 h.length (ax_sz h) Q9 (5) ([some (rv a), some (iv x), some (iv y), some (iv (t : Int)), none, none]) ([]) (h) := by
    intro t
    induction t with
    | zero =>
      intro ht k2
      refine g_iload_n C dX3_include_5 rfl ?_
      refine g_if_le C dX3_include_6 (tgt := 27) (by decide) (by omega) (fun h6 => ?_) (fun h6 => ?_)
      · refine g_iload_n C dX3_include_27 rfl ?_
        refine g_if_le C dX3_include_28 (tgt := 59) (by decide) (by omega) (fun h28 => ?_) (fun h28 => ?_)
        · refine g_iconst C dX3_include_59 ?_
          refine g_istore C dX3_include_60 (by decide) rfl ?_
          dsimp only [List.set]
          refine g_iload C dX3_include_62 rfl ?_
          refine g_if_ne C dX3_include_64 (tgt := 77) (by decide) (by omega) (fun h64 => ?_) (fun h64 => ?_)
          · exact absurd rfl h64
          · refine g_aload_n C dX3_include_67 rfl ?_
            refine g_get C FX3_21 dX3_include_68 (by assumption) rfl ?_
            refine g_sipush C dX3_include_71 (by decide) ?_
            refine g_icmp_lt C dX3_include_74 (tgt := 78) (by decide) (by omega) (by omega) (fun h74 => ?_) (fun h74 => ?_)
            · refine g_aload_n C dX3_include_78 rfl ?_
              refine g_get C FX3_21 dX3_include_79 (by assumption) rfl ?_
              refine g_istore C dX3_include_82 (by decide) rfl ?_
              dsimp only [List.set]
              exact loop2 0 (by omega) (fun i hi => by omega) k2 sz sz h xs ys (by omega) (Nat.le_refl _) hR hm (fun j _ _ _ => ⟨rfl, rfl⟩) (fun j h5 h6 => by omega)
            · exfalso; omega
        · exfalso; omega
      · exfalso; omega
    | succ t ih =>
      intro ht k2
      have qt := hr t (by omega)
      have fin : ¬ (ky x y < ky (xs t) (ys t)) → ax_G p9 l9 e9 R9 s9 m9 args9 below9 meth9 c9 b9 D9 dA9 MX3_include.2.2.1 h.length (ax_sz h) Q9 (27) ([some (rv a), some (iv x), some (iv y), some (iv ((t + 1 : Nat) : Int)), none, none]) ([]) (h) := by
        intro hk
        unfold ky at hk
        refine g_iload_n C dX3_include_27 rfl ?_
        refine g_if_le C dX3_include_28 (tgt := 59) (by decide) (by omega) (fun h28 => ?_) (fun h28 => ?_)
        · exfalso; omega
        · refine g_aload_n C dX3_include_31 rfl ?_
          refine g_get C FX3_11 dX3_include_32 (by assumption) rfl ?_
          refine g_iload_n C dX3_include_35 rfl ?_
          refine g_iconst C dX3_include_36 ?_
          refine g_isub C dX3_include_37 ?_
          refine g_top (show _ = (t : Int) by omega) ?_
          refine g_iald C dX3_include_38 (by assumption) rfl (by omega) (by decide) ?_
          refine g_iload_n C dX3_include_39 rfl ?_
          refine g_icmp_ne C dX3_include_40 (tgt := 59) (by decide) (by omega) (by omega) (fun h40 => ?_) (fun h40 => ?_)
          · have hne : ¬ (xs t = x ∧ ys t = y) := fun q => h40 q.1
            refine g_iconst C dX3_include_59 ?_
            refine g_istore C dX3_include_60 (by decide) rfl ?_
            dsimp only [List.set]
            first
            | (
              refine g_iload C dX3_include_62 rfl ?_
              refine g_if_ne C dX3_include_64 (tgt := 77) (by decide) (by omega) (fun h64 => ?_) (fun h64 => ?_)
              · exact absurd rfl h64
              · refine g_aload_n C dX3_include_67 rfl ?_
                refine g_get C FX3_21 dX3_include_68 (by assumption) rfl ?_
                refine g_sipush C dX3_include_71 (by decide) ?_
                refine g_icmp_lt C dX3_include_74 (tgt := 78) (by decide) (by omega) (by omega) (fun h74 => ?_) (fun h74 => ?_)
                · refine g_aload_n C dX3_include_78 rfl ?_
                  refine g_get C FX3_21 dX3_include_79 (by assumption) rfl ?_
                  refine g_istore C dX3_include_82 (by decide) rfl ?_
                  dsimp only [List.set]
                  refine loop2 (t + 1) ht (fun i hi => ?_) k2 (sz - (t + 1)) sz h xs ys (by omega) (Nat.le_refl _) hR hm (fun j _ _ _ => ⟨rfl, rfl⟩) (fun j h5 h6 => by omega)
                  have e1 : ky (xs t) (ys t) < ky x y := by unfold ky; omega
                  by_cases c : i = t
                  · subst c; exact e1
                  · have := hs i t (by omega) (by omega); omega
                · exfalso; omega)
            | (
              refine g_iload C dX3_include_62 rfl ?_
              refine g_if_ne C dX3_include_64 (tgt := 77) (by decide) (by omega) (fun h64 => ?_) (fun h64 => ?_)
              · refine kr _ _ _ dX3_include_77 ⟨rfl, xs, ys, sz, hR, hm, hr, hs, by omega, fun u v => ⟨Or.inl, fun q => ?_⟩⟩ hm.1
                rcases q with q | ⟨q1, q2⟩
                · exact q
                · exact ⟨t, by omega, by rw [q1]; exact h40, by rw [q2]; exact h52⟩
              · exact absurd h64 (by decide))
          · refine g_aload_n C dX3_include_43 rfl ?_
            refine g_get C FX3_15 dX3_include_44 (by assumption) rfl ?_
            refine g_iload_n C dX3_include_47 rfl ?_
            refine g_iconst C dX3_include_48 ?_
            refine g_isub C dX3_include_49 ?_
            refine g_top (show _ = (t : Int) by omega) ?_
            refine g_iald C dX3_include_50 (by assumption) rfl (by omega) (by decide) ?_
            refine g_iload_n C dX3_include_51 rfl ?_
            refine g_icmp_ne C dX3_include_52 (tgt := 59) (by decide) (by omega) (by omega) (fun h52 => ?_) (fun h52 => ?_)
            · have hne : ¬ (xs t = x ∧ ys t = y) := fun q => h52 q.2
              refine g_iconst C dX3_include_59 ?_
              refine g_istore C dX3_include_60 (by decide) rfl ?_
              dsimp only [List.set]
              first
              | (
                refine g_iload C dX3_include_62 rfl ?_
                refine g_if_ne C dX3_include_64 (tgt := 77) (by decide) (by omega) (fun h64 => ?_) (fun h64 => ?_)
                · exact absurd rfl h64
                · refine g_aload_n C dX3_include_67 rfl ?_
                  refine g_get C FX3_21 dX3_include_68 (by assumption) rfl ?_
                  refine g_sipush C dX3_include_71 (by decide) ?_
                  refine g_icmp_lt C dX3_include_74 (tgt := 78) (by decide) (by omega) (by omega) (fun h74 => ?_) (fun h74 => ?_)
                  · refine g_aload_n C dX3_include_78 rfl ?_
                    refine g_get C FX3_21 dX3_include_79 (by assumption) rfl ?_
                    refine g_istore C dX3_include_82 (by decide) rfl ?_
                    dsimp only [List.set]
                    refine loop2 (t + 1) ht (fun i hi => ?_) k2 (sz - (t + 1)) sz h xs ys (by omega) (Nat.le_refl _) hR hm (fun j _ _ _ => ⟨rfl, rfl⟩) (fun j h5 h6 => by omega)
                    have e1 : ky (xs t) (ys t) < ky x y := by unfold ky; omega
                    by_cases c : i = t
                    · subst c; exact e1
                    · have := hs i t (by omega) (by omega); omega
                  · exfalso; omega)
              | (
                refine g_iload C dX3_include_62 rfl ?_
                refine g_if_ne C dX3_include_64 (tgt := 77) (by decide) (by omega) (fun h64 => ?_) (fun h64 => ?_)
                · refine kr _ _ _ dX3_include_77 ⟨rfl, xs, ys, sz, hR, hm, hr, hs, by omega, fun u v => ⟨Or.inl, fun q => ?_⟩⟩ hm.1
                  rcases q with q | ⟨q1, q2⟩
                  · exact q
                  · exact ⟨t, by omega, by rw [q1]; exact h40, by rw [q2]; exact h52⟩
                · exact absurd h64 (by decide))
            · refine g_iconst C dX3_include_55 ?_
              refine g_goto C dX3_include_56 (tgt := 60) (by decide) ?_
              refine g_istore C dX3_include_60 (by decide) rfl ?_
              dsimp only [List.set]
              first
              | (
                refine g_iload C dX3_include_62 rfl ?_
                refine g_if_ne C dX3_include_64 (tgt := 77) (by decide) (by omega) (fun h64 => ?_) (fun h64 => ?_)
                · exact absurd rfl h64
                · refine g_aload_n C dX3_include_67 rfl ?_
                  refine g_get C FX3_21 dX3_include_68 (by assumption) rfl ?_
                  refine g_sipush C dX3_include_71 (by decide) ?_
                  refine g_icmp_lt C dX3_include_74 (tgt := 78) (by decide) (by omega) (by omega) (fun h74 => ?_) (fun h74 => ?_)
                  · refine g_aload_n C dX3_include_78 rfl ?_
                    refine g_get C FX3_21 dX3_include_79 (by assumption) rfl ?_
                    refine g_istore C dX3_include_82 (by decide) rfl ?_
                    dsimp only [List.set]
                    refine loop2 (t + 1) ht (fun i hi => ?_) k2 (sz - (t + 1)) sz h xs ys (by omega) (Nat.le_refl _) hR hm (fun j _ _ _ => ⟨rfl, rfl⟩) (fun j h5 h6 => by omega)
                    have e1 : ky (xs t) (ys t) < ky x y := by unfold ky; omega
                    by_cases c : i = t
                    · subst c; exact e1
                    · have := hs i t (by omega) (by omega); omega
                  · exfalso; omega)
              | (
                refine g_iload C dX3_include_62 rfl ?_
                refine g_if_ne C dX3_include_64 (tgt := 77) (by decide) (by omega) (fun h64 => ?_) (fun h64 => ?_)
                · refine kr _ _ _ dX3_include_77 ⟨rfl, xs, ys, sz, hR, hm, hr, hs, by omega, fun u v => ⟨Or.inl, fun q => ?_⟩⟩ hm.1
                  rcases q with q | ⟨q1, q2⟩
                  · exact q
                  · exact ⟨t, by omega, by rw [q1]; exact h40, by rw [q2]; exact h52⟩
                · exact absurd h64 (by decide))
      refine g_iload_n C dX3_include_5 rfl ?_
      refine g_if_le C dX3_include_6 (tgt := 27) (by decide) (by omega) (fun h6 => ?_) (fun h6 => ?_)
      · exfalso; omega
      · refine g_aload_n C dX3_include_9 rfl ?_
        refine g_iload_n C dX3_include_10 rfl ?_
        refine g_iconst C dX3_include_11 ?_
        refine g_isub C dX3_include_12 ?_
        refine g_top (show _ = (t : Int) by omega) ?_
        refine g_iload_n C dX3_include_13 rfl ?_
        refine g_iload_n C dX3_include_14 rfl ?_
        refine g_V C (t_comesBehind hR hr (by omega) (show t < sz by omega) hx hy) dX3_include_15 KX3_comesBehind LX3_46 IX3_comesBehind VX3_comesBehind (by decide) rfl (by assumption) rfl rfl rfl (Nat.le_of_ble_eq_true rfl) ⟨rfl, rfl⟩ ?_
        dsimp only [Option.toList, List.cons_append, List.nil_append]
        refine g_if_eq C dX3_include_18 (tgt := 27) (by decide) (by split <;> omega) (fun h18 => ?_) (fun h18 => ?_)
        · have hk : ¬ (ky x y < ky (xs t) (ys t)) := fun q => by rw [if_pos q] at h18; exact absurd h18 (by decide)
          exact fin hk
        · have hk : ky x y < ky (xs t) (ys t) := by
            by_cases q : ky x y < ky (xs t) (ys t)
            · exact q
            · rw [if_neg q] at h18; exact absurd rfl h18
          refine g_iincT C dX3_include_21 (by decide) rfl (show _ = (t : Int) by omega) rfl ?_
          dsimp only [List.set]
          refine g_goto C dX3_include_24 (tgt := 5) (by decide) ?_
          refine ih (by omega) (fun i h5 h6 => ?_)
          by_cases c : i = t
          · subst c; exact hk
          · exact k2 i (by omega) h6
  refine g_aload_n C dX3_include_0 rfl ?_
  refine g_get C FX3_21 dX3_include_1 (by assumption) rfl ?_
  refine g_istore_n C dX3_include_4 (by decide) rfl ?_
  dsimp only [List.set]
  exact loop1 sz (Nat.le_refl _) (fun i h5 h6 => by omega)
end
section
theorem rg_tn {xs ys : Nat → Int} {sz i j k : Nat} (hr : rg_rg xs ys sz) (hi : i < sz) (hj : j < sz) (hk : k < sz) : (-7056 ≤ (xs j - xs i) * (ys k - ys i) ∧ (xs j - xs i) * (ys k - ys i) ≤ 7056) ∧ (-7056 ≤ (ys j - ys i) * (xs k - xs i) ∧ (ys j - ys i) * (xs k - xs i) ≤ 7056) := by
  have a := hr i hi
  have b := hr j hj
  have c := hr k hk
  exact ⟨mb2 (U := 84) (M := 84) (by omega) (by omega), mb2 (U := 84) (M := 84) (by omega) (by omega)⟩
theorem t_turnsLeft {h : ax_H} {a sz cn i j k : Nat} {xs ys rd : Nat → Int} (hR : rg_at h a xs ys sz rd cn) (hr : rg_rg xs ys sz) (hz : sz ≤ 128) (hi : i < sz) (hj : j < sz) (hk : k < sz) : ax_Met MX3_turnsLeft [rv a, iv (i : Int), iv (j : Int), iv (k : Int)] h (some (iv (if 0 < tn xs ys i j k then 1 else 0))) h := by
  obtain ⟨h0, h1, h2, h3⟩ := hR
  have q := rg_tn hr hi hj hk
  unfold tn
  refine ax_mz (L0 := [some (rv a), some (iv (i : Int)), some (iv (j : Int)), some (iv (k : Int))]) rfl rfl (Nat.le_refl _) (Nat.le_refl _) (Nat.le_of_ble_eq_true rfl) rfl ?_
  intro p9 l9 e9 R9 s9 m9 args9 below9 meth9 c9 b9 D9 dA9 Q9 C kr
  refine g_aload_n C dX3_turnsLeft_0 rfl ?_
  refine g_get C FX3_11 dX3_turnsLeft_1 (by assumption) rfl ?_
  refine g_iload_n C dX3_turnsLeft_4 rfl ?_
  refine g_iald C dX3_turnsLeft_5 (by assumption) rfl (by omega) (by decide) ?_
  refine g_aload_n C dX3_turnsLeft_6 rfl ?_
  refine g_get C FX3_11 dX3_turnsLeft_7 (by assumption) rfl ?_
  refine g_iload_n C dX3_turnsLeft_10 rfl ?_
  refine g_iald C dX3_turnsLeft_11 (by assumption) rfl (by omega) (by decide) ?_
  refine g_isub C dX3_turnsLeft_12 ?_
  refine g_aload_n C dX3_turnsLeft_13 rfl ?_
  refine g_get C FX3_15 dX3_turnsLeft_14 (by assumption) rfl ?_
  refine g_iload_n C dX3_turnsLeft_17 rfl ?_
  refine g_iald C dX3_turnsLeft_18 (by assumption) rfl (by omega) (by decide) ?_
  refine g_aload_n C dX3_turnsLeft_19 rfl ?_
  refine g_get C FX3_15 dX3_turnsLeft_20 (by assumption) rfl ?_
  refine g_iload_n C dX3_turnsLeft_23 rfl ?_
  refine g_iald C dX3_turnsLeft_24 (by assumption) rfl (by omega) (by decide) ?_
  refine g_isub C dX3_turnsLeft_25 ?_
  refine g_imul C dX3_turnsLeft_26 ?_
  refine g_aload_n C dX3_turnsLeft_27 rfl ?_
  refine g_get C FX3_15 dX3_turnsLeft_28 (by assumption) rfl ?_
  refine g_iload_n C dX3_turnsLeft_31 rfl ?_
  refine g_iald C dX3_turnsLeft_32 (by assumption) rfl (by omega) (by decide) ?_
  refine g_aload_n C dX3_turnsLeft_33 rfl ?_
  refine g_get C FX3_15 dX3_turnsLeft_34 (by assumption) rfl ?_
  refine g_iload_n C dX3_turnsLeft_37 rfl ?_
  refine g_iald C dX3_turnsLeft_38 (by assumption) rfl (by omega) (by decide) ?_
  refine g_isub C dX3_turnsLeft_39 ?_
  refine g_aload_n C dX3_turnsLeft_40 rfl ?_
  refine g_get C FX3_11 dX3_turnsLeft_41 (by assumption) rfl ?_
  refine g_iload_n C dX3_turnsLeft_44 rfl ?_
  refine g_iald C dX3_turnsLeft_45 (by assumption) rfl (by omega) (by decide) ?_
  refine g_aload_n C dX3_turnsLeft_46 rfl ?_
  refine g_get C FX3_11 dX3_turnsLeft_47 (by assumption) rfl ?_
  refine g_iload_n C dX3_turnsLeft_50 rfl ?_
  refine g_iald C dX3_turnsLeft_51 (by assumption) rfl (by omega) (by decide) ?_
  refine g_isub C dX3_turnsLeft_52 ?_
  refine g_imul C dX3_turnsLeft_53 ?_
  refine g_icmp_le C dX3_turnsLeft_54 (tgt := 61) (by decide) (by omega) (by omega) (fun h54 => ?_) (fun h54 => ?_)
  · refine g_iconst C dX3_turnsLeft_61 ?_
    first | exact kr _ _ _ dX3_turnsLeft_62 (Or.inr rfl) (by rw [if_pos (by omega)]) | exact kr _ _ _ dX3_turnsLeft_62 (Or.inl rfl) (by rw [if_neg (by omega)])
  · refine g_iconst C dX3_turnsLeft_57 ?_
    refine g_goto C dX3_turnsLeft_58 (tgt := 62) (by decide) ?_
    first | exact kr _ _ _ dX3_turnsLeft_62 (Or.inr rfl) (by rw [if_pos (by omega)]) | exact kr _ _ _ dX3_turnsLeft_62 (Or.inl rfl) (by rw [if_neg (by omega)])
/-- the first corner -/
theorem t_turnTo0 {h : ax_H} {a sz i : Nat} {xs ys rd : Nat → Int} (hR : rg_at h a xs ys sz rd 0) : ax_Mt MX3_turnTo [rv a, iv (i : Int), iv 1] h (fun r h' => r = none ∧ rg_at h' a xs ys sz (va_up rd 0 (i : Int)) 1 ∧ ax_sm a (a + 4) h h') := by
  have hm := ax_sm.rf (lo := a) (hi := a + 4) h
  have ⟨h0, h1, h2, h3⟩ := hR
  refine ax_rv (L0 := [some (rv a), some (iv (i : Int)), some (iv 1)]) rfl rfl (Nat.le_of_ble_eq_true rfl) rfl ?_
  intro p9 l9 e9 R9 s9 m9 args9 below9 meth9 c9 b9 D9 dA9 Q9 C kr
  refine g_aload_n C dX3_turnTo_0 rfl ?_
  refine g_get C FX3_50 dX3_turnTo_1 (by assumption) rfl ?_
  refine g_iload_n C dX3_turnTo_4 rfl ?_
  refine g_icmp_le C dX3_turnTo_5 (tgt := 51) (by decide) (by omega) (by omega) (fun h5 => ?_) (fun h5 => ?_)
  · refine g_aload_n C dX3_turnTo_51 rfl ?_
    refine g_get C FX3_50 dX3_turnTo_52 (by assumption) rfl ?_
    refine g_aload_n C dX3_turnTo_55 rfl ?_
    refine g_get C FX3_18 dX3_turnTo_56 (by assumption) rfl ?_
    refine g_alen C dX3_turnTo_59 (by assumption) rfl ?_
    refine g_icmp_ge C dX3_turnTo_60 (tgt := 83) (by decide) (by omega) (by omega) (fun h60 => ?_) (fun h60 => ?_)
    · exfalso; omega
    · refine g_aload_n C dX3_turnTo_63 rfl ?_
      refine g_get C FX3_18 dX3_turnTo_64 (by assumption) rfl ?_
      refine g_aload_n C dX3_turnTo_67 rfl ?_
      refine g_get C FX3_50 dX3_turnTo_68 (by assumption) rfl ?_
      refine g_iload_n C dX3_turnTo_71 rfl ?_
      refine g_iast C dX3_turnTo_72 (by assumption) rfl (by omega) (by decide) ?_
      refine rg_s_rd hR hm ?_
      intro h9 hR hm
      have ⟨h0, h1, h2, h3⟩ := hR
      refine g_aload_n C dX3_turnTo_73 rfl ?_
      refine g_dup C dX3_turnTo_74 ?_
      refine g_get C FX3_50 dX3_turnTo_75 (by assumption) rfl ?_
      refine g_iconst C dX3_turnTo_78 ?_
      refine g_iadd C dX3_turnTo_79 ?_
      refine g_put C FX3_50 dX3_turnTo_80 (by assumption) rfl rfl (Nat.le_of_ble_eq_true rfl) ?_
      dsimp only [List.set]
      refine rg_s_cn 1 rfl hR hm ?_
      intro h9 hR hm
      exact kr _ _ _ dX3_turnTo_83 ⟨rfl, hR, hm⟩ hm.1
  · exfalso; omega
theorem t_turnTo {h : ax_H} {a sz cn lo i : Nat} {xs ys rd : Nat → Int} (hR : rg_at h a xs ys sz rd cn) (hr : rg_rg xs ys sz) (hz : sz ≤ 128) (hi : i < sz) (hc : cn ≤ 255) {A B : Int} {S S2 : Nat → Prop} {rk r : Nat → Nat} (hS : ∀ j, S j → j < sz) (hrd : ∀ e, e < cn → rd e = (r e : Int)) (hP : ch_pop xs ys A B S rk r lo cn i) (hk : ∀ j, S j → kp xs ys A B j < kp xs ys A B i) (hrk : ∀ j, S j → rk j < rk i) (hS2 : ∀ j, S2 j ↔ S j ∨ j = i) : ax_Mt MX3_turnTo [rv a, iv (i : Int), iv ((lo + 1 : Nat) : Int)] h (fun v h' => v = none ∧ ∃ (rd' : Nat → Int) (cn' : Nat) (r' : Nat → Nat), rg_at h' a xs ys sz rd' cn' ∧ ax_sm a (a + 4) h h' ∧ (∀ e, e < cn' → rd' e = (r' e : Int)) ∧ ch_ok xs ys A B S2 rk r' lo cn' ∧ r' (cn' - 1) = i ∧ (∀ e, e ≤ lo → r' e = r e) ∧ lo + 1 < cn') := by
  have hm := ax_sm.rf (lo := a) (hi := a + 4) h
  refine ax_rv (L0 := [some (rv a), some (iv (i : Int)), some (iv ((lo + 1 : Nat) : Int))]) rfl rfl (Nat.le_of_ble_eq_true rfl) rfl ?_
  intro p9 l9 e9 R9 s9 m9 args9 below9 meth9 c9 b9 D9 dA9 Q9 C kr
  have fin : ∀ (cn : Nat) (hh : ax_H), cn ≤ 255 → rg_at hh a xs ys sz rd cn → ax_sm a (a + 4) h hh → (∀ e, e < cn → rd e = (r e : Int)) → ch_pop xs ys A B S rk r lo cn i → (lo + 1 < cn → 0 < tn xs ys (r (cn - 2)) (r (cn - 1)) i) → ax_G p9 l9 e9 R9 s9 m9 args9 below9 meth9 c9 b9 D9 dA9 MX3_turnTo.2.2.1 h.length (ax_sz h) Q9 (51) ([some (rv a), some (iv (i : Int)), some (iv ((lo + 1 : Nat) : Int))]) ([]) (hh) := by
    intro cn hh hc hR hm hrd hP ht
    have ⟨h0, h1, h2, h3⟩ := hR
    have hlo := hP.1.1
    refine g_aload_n C dX3_turnTo_51 rfl ?_
    refine g_get C FX3_50 dX3_turnTo_52 (by assumption) rfl ?_
    refine g_aload_n C dX3_turnTo_55 rfl ?_
    refine g_get C FX3_18 dX3_turnTo_56 (by assumption) rfl ?_
    refine g_alen C dX3_turnTo_59 (by assumption) rfl ?_
    refine g_icmp_ge C dX3_turnTo_60 (tgt := 83) (by decide) (by omega) (by omega) (fun h60 => ?_) (fun h60 => ?_)
    · exfalso; omega
    · refine g_aload_n C dX3_turnTo_63 rfl ?_
      refine g_get C FX3_18 dX3_turnTo_64 (by assumption) rfl ?_
      refine g_aload_n C dX3_turnTo_67 rfl ?_
      refine g_get C FX3_50 dX3_turnTo_68 (by assumption) rfl ?_
      refine g_iload_n C dX3_turnTo_71 rfl ?_
      refine g_iast C dX3_turnTo_72 (by assumption) rfl (by omega) (by decide) ?_
      refine rg_s_rd hR hm ?_
      intro h9 hR hm
      have ⟨h0, h1, h2, h3⟩ := hR
      refine g_aload_n C dX3_turnTo_73 rfl ?_
      refine g_dup C dX3_turnTo_74 ?_
      refine g_get C FX3_50 dX3_turnTo_75 (by assumption) rfl ?_
      refine g_iconst C dX3_turnTo_78 ?_
      refine g_iadd C dX3_turnTo_79 ?_
      refine g_put C FX3_50 dX3_turnTo_80 (by assumption) rfl rfl (Nat.le_of_ble_eq_true rfl) ?_
      dsimp only [List.set]
      refine rg_s_cn (cn + 1) rfl hR hm ?_
      intro h9 hR hm
      refine kr _ _ _ dX3_turnTo_83 ⟨rfl, _, _, fun e => if e < cn then r e else i, hR, hm, fun e he => ?_, hP.push hk hrk ht (fun e he => if_pos he) (if_neg (by omega)) hS2, ?_, fun e he => if_pos (by omega), by omega⟩ hm.1
      · by_cases q : e = cn
        · subst q; simp [va_up]
        · simp only [va_up, if_neg q]; rw [if_pos (by omega)]; exact hrd e (by omega)
      · show (if cn + 1 - 1 < cn then _ else i) = i; rw [if_neg (by omega)]
  have loop : ∀ (d cn : Nat) (hh : ax_H), cn = lo + 1 + d → cn ≤ 255 → rg_at hh a xs ys sz rd cn → ax_sm a (a + 4) h hh → (∀ e, e < cn → rd e = (r e : Int)) → ch_pop xs ys A B S rk r lo cn i → ax_G p9 l9 e9 R9 s9 m9 args9 below9 meth9 c9 b9 D9 dA9 MX3_turnTo.2.2.1 h.length (ax_sz h) Q9 (0) ([some (rv a), some (iv (i : Int)), some (iv ((lo + 1 : Nat) : Int))]) ([]) (hh) := by
    intro d
    induction d with
    | zero =>
      intro cn hh hcd hc hR hm hrd hP
      have ⟨h0, h1, h2, h3⟩ := hR
      refine g_aload_n C dX3_turnTo_0 rfl ?_
      refine g_get C FX3_50 dX3_turnTo_1 (by assumption) rfl ?_
      refine g_iload_n C dX3_turnTo_4 rfl ?_
      refine g_icmp_le C dX3_turnTo_5 (tgt := 51) (by decide) (by omega) (by omega) (fun h5 => ?_) (fun h5 => ?_)
      · exact fin cn hh hc hR hm hrd hP (fun q => by omega)
      · exfalso; omega
    | succ d ih =>
      intro cn hh hcd hc hR hm hrd hP
      have ⟨h0, h1, h2, h3⟩ := hR
      have s1 := hS _ (hP.1.2.1 (cn - 2) (by omega) (by omega))
      have s2 := hS _ (hP.1.2.1 (cn - 1) (by omega) (by omega))
      refine g_aload_n C dX3_turnTo_0 rfl ?_
      refine g_get C FX3_50 dX3_turnTo_1 (by assumption) rfl ?_
      refine g_iload_n C dX3_turnTo_4 rfl ?_
      refine g_icmp_le C dX3_turnTo_5 (tgt := 51) (by decide) (by omega) (by omega) (fun h5 => ?_) (fun h5 => ?_)
      · exfalso; omega
      · refine g_aload_n C dX3_turnTo_8 rfl ?_
        refine g_aload_n C dX3_turnTo_9 rfl ?_
        refine g_get C FX3_18 dX3_turnTo_10 (by assumption) rfl ?_
        refine g_aload_n C dX3_turnTo_13 rfl ?_
        refine g_get C FX3_50 dX3_turnTo_14 (by assumption) rfl ?_
        refine g_iconst C dX3_turnTo_17 ?_
        refine g_isub C dX3_turnTo_18 ?_
        refine g_top (show _ = ((cn - 2 : Nat) : Int) by omega) ?_
        refine g_iald C dX3_turnTo_19 (by assumption) rfl (by omega) (by decide) ?_
        rw [hrd (cn - 2) (by omega)]
        refine g_aload_n C dX3_turnTo_20 rfl ?_
        refine g_get C FX3_18 dX3_turnTo_21 (by assumption) rfl ?_
        refine g_aload_n C dX3_turnTo_24 rfl ?_
        refine g_get C FX3_50 dX3_turnTo_25 (by assumption) rfl ?_
        refine g_iconst C dX3_turnTo_28 ?_
        refine g_isub C dX3_turnTo_29 ?_
        refine g_top (show _ = ((cn - 1 : Nat) : Int) by omega) ?_
        refine g_iald C dX3_turnTo_30 (by assumption) rfl (by omega) (by decide) ?_
        rw [hrd (cn - 1) (by omega)]
        refine g_iload_n C dX3_turnTo_31 rfl ?_
        refine g_V C (t_turnsLeft hR hr hz s1 s2 hi) dX3_turnTo_32 KX3_turnsLeft LX3_56 IX3_turnsLeft VX3_turnsLeft (by decide) rfl (by assumption) rfl rfl rfl (Nat.le_of_ble_eq_true rfl) ⟨rfl, rfl⟩ ?_
        dsimp only [Option.toList, List.cons_append, List.nil_append]
        refine g_if_ne C dX3_turnTo_35 (tgt := 51) (by decide) (by split <;> omega) (fun h35 => ?_) (fun h35 => ?_)
        · have ht : 0 < tn xs ys (r (cn - 2)) (r (cn - 1)) i := by
            by_cases q : 0 < tn xs ys (r (cn - 2)) (r (cn - 1)) i
            · exact q
            · rw [if_neg q] at h35; exact absurd rfl h35
          exact fin cn hh hc hR hm hrd hP (fun _ => ht)
        · have ht : ¬ 0 < tn xs ys (r (cn - 2)) (r (cn - 1)) i := fun q => by rw [if_pos q] at h35; exact absurd h35 (by decide)
          refine g_aload_n C dX3_turnTo_38 rfl ?_
          refine g_dup C dX3_turnTo_39 ?_
          refine g_get C FX3_50 dX3_turnTo_40 (by assumption) rfl ?_
          refine g_iconst C dX3_turnTo_43 ?_
          refine g_isub C dX3_turnTo_44 ?_
          refine g_put C FX3_50 dX3_turnTo_45 (by assumption) rfl rfl (Nat.le_of_ble_eq_true rfl) ?_
          dsimp only [List.set]
          refine rg_s_cn (cn - 1) (by omega) hR hm ?_
          intro h9 hR hm
          refine g_goto C dX3_turnTo_48 (tgt := 0) (by decide) ?_
          exact ih (cn - 1) _ (by omega) (by omega) hR hm (fun e he => hrd e (by omega)) (hP.pop hk (by omega) ht)
  exact loop (cn - (lo + 1)) cn h (by have := hP.1.1; omega) hc hR hm hrd hP
theorem t_findCorners {h : ax_H} {a sz cn : Nat} {xs ys rd : Nat → Int} (hR : rg_at h a xs ys sz rd cn) (hr : rg_rg xs ys sz) (hs : srt xs ys sz) (hz : sz ≤ 128) : ax_Mt MX3_findCorners [rv a] h (fun v h' => v = some (rv a) ∧ ∃ (rd' : Nat → Int) (cn' : Nat) (r' : Nat → Nat), rg_at h' a xs ys sz rd' cn' ∧ ax_sm a (a + 4) h h' ∧ cn' ≤ 256 ∧ (∀ e, e < cn' → rd' e = (r' e : Int) ∧ r' e < sz) ∧ hl_ok xs ys sz r' cn') := by
  have hm := ax_sm.rf (lo := a) (hi := a + 4) h
  have hk : ∀ i j, i < j → j < sz → kp xs ys 1 1000 i < kp xs ys 1 1000 j := fun i j a b => by rw [kp_ky, kp_ky]; exact hs i j a b
  refine ax_ra (L0 := [some (rv a), none, none]) rfl rfl (Or.inl ⟨_, rfl⟩) (Nat.le_of_ble_eq_true rfl) rfl ?_
  intro p9 l9 e9 R9 s9 m9 args9 below9 meth9 c9 b9 D9 dA9 Q9 C kr
  have fin : ∀ (cn : Nat) (hh : ax_H) (rd : Nat → Int) (r : Nat → Nat) (x1 x2 : Option ax_V), 2 ≤ sz → cn ≤ 256 → rg_at hh a xs ys sz rd cn → ax_sm a (a + 4) h hh → (∀ e, e < cn → rd e = (r e : Int) ∧ r e < sz) → 2 ≤ cn → hl_ok xs ys sz r (cn - 1) → ax_G p9 l9 e9 R9 s9 m9 args9 below9 meth9 c9 b9 D9 dA9 MX3_findCorners.2.2.1 h.length (ax_sz h) Q9 (55) ([some (rv a), x1, x2]) ([]) (hh) := by
    intro cn hh rd r x1 x2 hs2 hc hR hm hrd hc2 ho
    have ⟨h0, h1, h2, h3⟩ := hR
    refine g_aload_n C dX3_findCorners_55 rfl ?_
    refine g_get C FX3_21 dX3_findCorners_56 (by assumption) rfl ?_
    refine g_iconst C dX3_findCorners_59 ?_
    refine g_icmp_le C dX3_findCorners_60 (tgt := 73) (by decide) (by omega) (by omega) (fun h60 => ?_) (fun h60 => ?_)
    · exfalso; omega
    · refine g_aload_n C dX3_findCorners_63 rfl ?_
      refine g_dup C dX3_findCorners_64 ?_
      refine g_get C FX3_50 dX3_findCorners_65 (by assumption) rfl ?_
      refine g_iconst C dX3_findCorners_68 ?_
      refine g_isub C dX3_findCorners_69 ?_
      refine g_put C FX3_50 dX3_findCorners_70 (by assumption) rfl rfl (Nat.le_of_ble_eq_true rfl) ?_
      dsimp only [List.set]
      refine rg_s_cn (cn - 1) (by omega) hR hm ?_
      intro h9 hR hm
      refine g_aload_n C dX3_findCorners_73 rfl ?_
      exact kr _ _ _ _ dX3_findCorners_74 ⟨rfl, _, _, r, hR, hm, by omega, fun e he => hrd e (by omega), ho⟩ hm.1
  -- down along the left side
  have loop2 : ∀ (top : Nat) (r0 : Nat → Nat), ch_ok xs ys 1 1000 (fun i => i < sz) (fun i => i) r0 0 top → r0 0 = 0 → r0 (top - 1) = sz - 1 → 2 ≤ sz → ∀ (d n cn : Nat) (hh : ax_H) (rd : Nat → Int) (r : Nat → Nat), n + d = sz - 1 → cn ≤ 256 → rg_at hh a xs ys sz rd cn → ax_sm a (a + 4) h hh → (∀ e, e < cn → rd e = (r e : Int)) → ch_ok xs ys (-1) (-1000) (fun i => sz - 1 - n ≤ i ∧ i < sz) (fun i => sz - 1 - i) r (top - 1) cn → r (cn - 1) = sz - 1 - n → (∀ e, e < top → r e = r0 e) → ax_G p9 l9 e9 R9 s9 m9 args9 below9 meth9 c9 b9 D9 dA9 MX3_findCorners.2.2.1 h.length (ax_sz h) Q9 (39) ([some (rv a), some (iv (top : Int)), some (iv ((sz : Int) - 2 - n))]) ([]) (hh) := by
    intro top r0 hch1 he0 he1 hs2 d
    have htop := hch1.1
    have htz : top ≤ sz := by
      have q1 := hch1.2.2.2.2.2.2 (top - 1) (by omega) (by omega)
      rw [he1] at q1
      have q2 : top - 1 - 0 ≤ sz - 1 := q1
      omega
    induction d with
    | zero =>
      intro n cn hh rd r hn hc hR hm hrd hch hlast hsame
      have ⟨h0, h1, h2, h3⟩ := hR
      have e9 : sz - 1 - n = 0 := by omega
      have hch' : ch_ok xs ys (-1) (-1000) (fun i => i < sz) (fun i => sz - 1 - i) r (top - 1) cn := by
        obtain ⟨c1, c2, c3, c4, c5, c6, c7⟩ := hch
        exact ⟨c1, fun e q1 q2 => (c2 e q1 q2).2, c3, c4, fun e j q1 q2 hj => c5 e j q1 q2 ⟨by omega, hj⟩, fun j hj => c6 j ⟨by omega, hj⟩, c7⟩
      have hch1' : ch_ok xs ys 1 1000 (fun i => i < sz) (fun i => i) r 0 top := by
        obtain ⟨c1, c2, c3, c4, c5, c6, c7⟩ := hch1
        refine ⟨c1, fun e q1 q2 => ?_, fun e q1 q2 => ?_, fun e q1 q2 => ?_, fun e j q1 q2 hj => ?_, fun j hj => ?_, fun e q1 q2 => ?_⟩
        · rw [hsame e q2]; exact c2 e q1 q2
        · rw [hsame e (by omega), hsame _ q2]; exact c3 e q1 q2
        · rw [hsame e (by omega), hsame _ (by omega), hsame _ q2]; exact c4 e q1 q2
        · rw [hsame e (by omega), hsame _ q2]; exact c5 e j q1 q2 hj
        · rw [hsame 0 c1]; exact c6 j hj
        · rw [hsame e q2]; exact c7 e q1 q2
      have ho := hl_join hs2 hk hch1' (by rw [hsame 0 htop]; exact he0) (by rw [hsame (top - 1) (by omega)]; exact he1) hch' (by rw [hlast]; exact e9)
      have hcn : 2 ≤ cn := by
        have := (ho.2.2 hs2).1
        omega
      refine g_iload_n C dX3_findCorners_39 rfl ?_
      refine g_if_lt C dX3_findCorners_40 (tgt := 55) (by decide) (by omega) (fun h40 => ?_) (fun h40 => ?_)
      · exact fin cn hh rd r _ _ hs2 hc hR hm (fun e he => ⟨hrd e he, by
          by_cases q : e < top
          · exact hch1'.2.1 e (by omega) q
          · exact hch'.2.1 e (by omega) he⟩) hcn ho
      · exfalso; omega
    | succ d ih =>
      intro n cn hh rd r hn hc hR hm hrd hch hlast hsame
      have ⟨h0, h1, h2, h3⟩ := hR
      have hlo := hch.1
      have hcr := hch.2.2.2.2.2.2 (cn - 1) (by omega) (by omega)
      rw [hlast] at hcr
      have hcr2 : cn - 1 - (top - 1) ≤ sz - 1 - (sz - 1 - n) := hcr
      have hP := ch_pop.start (i := sz - 1 - (n + 1)) hch (fun j hj hk2 => by
        rw [hlast] at hk2 ⊢
        rw [kp_neg, kp_neg] at hk2
        by_cases q : sz - 1 - n < j
        · have := hk _ j q hj.2; omega
        · omega)
      refine g_iload_n C dX3_findCorners_39 rfl ?_
      refine g_if_lt C dX3_findCorners_40 (tgt := 55) (by decide) (by omega) (fun h40 => ?_) (fun h40 => ?_)
      · exfalso; omega
      · refine g_aload_n C dX3_findCorners_43 rfl ?_
        refine g_iload_n C dX3_findCorners_44 rfl ?_
        refine g_top (show (sz : Int) - 2 - n = ((sz - 1 - (n + 1) : Nat) : Int) by omega) ?_
        refine g_iload_n C dX3_findCorners_45 rfl ?_
        refine g_top (show (top : Int) = ((top - 1 + 1 : Nat) : Int) by omega) ?_
        refine g_RV C (t_turnTo (S2 := fun i => sz - 1 - (n + 1) ≤ i ∧ i < sz) hR hr hz (show sz - 1 - (n + 1) < sz by omega) (by omega) (fun j hj => hj.2) hrd hP (fun j hj => by rw [kp_neg, kp_neg]; have := hk (sz - 1 - (n + 1)) j (by omega) hj.2; omega) (fun j hj => by show sz - 1 - j < sz - 1 - (sz - 1 - (n + 1)); omega) (fun j => by omega)) dX3_findCorners_46 KX3_turnTo LX3_53 IX3_turnTo VX3_turnTo (by decide) rfl (by assumption) rfl rfl rfl (Nat.le_of_ble_eq_true rfl) ?_
        intro r1 h1 hP1 hz1
        obtain ⟨rfl, rd', cn', r', hR, hm1, hrd', hch', hl', hsm', hcn'⟩ := hP1
        have hm := hm.tr hm1
        have hcr' := hch'.2.2.2.2.2.2 (cn' - 1) (by omega) (by omega)
        rw [hl'] at hcr'
        have hcr3 : cn' - 1 - (top - 1) ≤ sz - 1 - (sz - 1 - (n + 1)) := hcr'
        dsimp only [Option.toList, List.cons_append, List.nil_append]
        refine g_iincT C dX3_findCorners_49 (by decide) rfl (show _ = ((sz : Int) - 2 - ((n + 1 : Nat) : Int)) by omega) rfl ?_
        dsimp only [List.set]
        refine g_goto C dX3_findCorners_52 (tgt := 39) (by decide) ?_
        exact ih (n + 1) cn' _ rd' r' (by omega) (by omega) hR hm hrd' hch' hl' (fun e he => by rw [hsm' e (by omega)]; exact hsame e he)
  -- up along the right side
  have loop1 : ∀ (d n cn : Nat) (hh : ax_H) (rd : Nat → Int) (r : Nat → Nat), n + d + 1 = sz → cn ≤ 128 → rg_at hh a xs ys sz rd cn → ax_sm a (a + 4) h hh → (∀ e, e < cn → rd e = (r e : Int)) → ch_ok xs ys 1 1000 (fun i => i < n + 1) (fun i => i) r 0 cn → r 0 = 0 → r (cn - 1) = n → ax_G p9 l9 e9 R9 s9 m9 args9 below9 meth9 c9 b9 D9 dA9 MX3_findCorners.2.2.1 h.length (ax_sz h) Q9 (7) ([some (rv a), some (iv ((n + 1 : Nat) : Int)), none]) ([]) (hh) := by
    intro d
    induction d with
    | zero =>
      intro n cn hh rd r hn hc hR hm hrd hch he0 he1
      have ⟨h0, h1, h2, h3⟩ := hR
      have hlo := hch.1
      refine g_iload_n C dX3_findCorners_7 rfl ?_
      refine g_aload_n C dX3_findCorners_8 rfl ?_
      refine g_get C FX3_21 dX3_findCorners_9 (by assumption) rfl ?_
      refine g_icmp_ge C dX3_findCorners_12 (tgt := 27) (by decide) (by omega) (by omega) (fun h12 => ?_) (fun h12 => ?_)
      · refine g_aload_n C dX3_findCorners_27 rfl ?_
        refine g_get C FX3_50 dX3_findCorners_28 (by assumption) rfl ?_
        refine g_istore_n C dX3_findCorners_31 (by decide) rfl ?_
        dsimp only [List.set]
        refine g_aload_n C dX3_findCorners_32 rfl ?_
        refine g_get C FX3_21 dX3_findCorners_33 (by assumption) rfl ?_
        refine g_iconst C dX3_findCorners_36 ?_
        by_cases hs1 : sz = 1
        · have hcn1 : cn = 1 := by
            by_cases q : cn = 1
            · exact q
            · have q1 := hch.2.2.1 0 (by omega) (by omega)
              have q2 : r 0 < n + 1 := hch.2.1 0 (by omega) (by omega)
              have q3 : r (0 + 1) < n + 1 := hch.2.1 1 (by omega) (by omega)
              rw [show r 0 = r (0 + 1) by omega] at q1
              omega
          refine g_isub C dX3_findCorners_37 ?_
          refine g_istore_n C dX3_findCorners_38 (by decide) rfl ?_
          dsimp only [List.set]
          refine g_iload_n C dX3_findCorners_39 rfl ?_
          refine g_if_lt C dX3_findCorners_40 (tgt := 55) (by decide) (by omega) (fun h40 => ?_) (fun h40 => ?_)
          · refine g_aload_n C dX3_findCorners_55 rfl ?_
            refine g_get C FX3_21 dX3_findCorners_56 (by assumption) rfl ?_
            refine g_iconst C dX3_findCorners_59 ?_
            refine g_icmp_le C dX3_findCorners_60 (tgt := 73) (by decide) (by omega) (by omega) (fun h60 => ?_) (fun h60 => ?_)
            · refine g_aload_n C dX3_findCorners_73 rfl ?_
              exact kr _ _ _ _ dX3_findCorners_74 ⟨rfl, _, _, r, hR, hm, by omega, fun e he => ⟨hrd e he, by have : r e < n + 1 := hch.2.1 e (by omega) he; omega⟩, fun q => by omega, fun _ => ⟨hcn1, he0⟩, fun q => by omega⟩ hm.1
            · exfalso; omega
          · exfalso; omega
        · refine g_isub C dX3_findCorners_37 ?_
          refine g_istore_n C dX3_findCorners_38 (by decide) rfl ?_
          dsimp only [List.set]
          refine g_L (show _ = [some (rv a), some (iv (cn : Int)), some (iv ((sz : Int) - 2 - ((0 : Nat) : Int)))] by simp) ?_
          have hn9 : n + 1 = sz := by omega
          rw [hn9] at hch
          exact loop2 cn r hch he0 (by rw [he1]; omega) (by omega) (sz - 1) 0 cn hh rd r (by omega) (by omega) hR hm hrd (by
            have := ch_one (px := xs) (py := ys) (A := -1) (B := -1000) (rk := fun i => sz - 1 - i) (lo := cn - 1) (i := sz - 1) (r := r) (S := fun i => sz - 1 - 0 ≤ i ∧ i < sz) (by rw [he1]; omega) (fun j => by omega)
            rw [show cn - 1 + 1 = cn by omega] at this
            exact this) (by rw [he1]; omega) (fun e he => rfl)
      · exfalso; omega
    | succ d ih =>
      intro n cn hh rd r hn hc hR hm hrd hch he0 he1
      have ⟨h0, h1, h2, h3⟩ := hR
      have hlo := hch.1
      have hcr := hch.2.2.2.2.2.2 (cn - 1) (by omega) (by omega)
      rw [he1] at hcr
      have hcr' : cn - 1 - 0 ≤ n := hcr
      have hP := ch_pop.start (i := n + 1) hch (fun j hj hk2 => by
        rw [he1] at hk2 ⊢
        by_cases q : j < n
        · have := hk j n q (by omega); omega
        · have : j < n + 1 := hj; omega)
      refine g_iload_n C dX3_findCorners_7 rfl ?_
      refine g_aload_n C dX3_findCorners_8 rfl ?_
      refine g_get C FX3_21 dX3_findCorners_9 (by assumption) rfl ?_
      refine g_icmp_ge C dX3_findCorners_12 (tgt := 27) (by decide) (by omega) (by omega) (fun h12 => ?_) (fun h12 => ?_)
      · exfalso; omega
      · refine g_aload_n C dX3_findCorners_15 rfl ?_
        refine g_iload_n C dX3_findCorners_16 rfl ?_
        refine g_iconst C dX3_findCorners_17 ?_
        refine g_top (show (1 : Int) = ((0 + 1 : Nat) : Int) by rfl) ?_
        refine g_RV C (t_turnTo (S2 := fun i => i < n + 1 + 1) hR hr hz (show n + 1 < sz by omega) (by omega) (fun j hj => by have : j < n + 1 := hj; omega) hrd hP (fun j hj => hk j (n + 1) hj (by omega)) (fun j hj => hj) (fun j => by omega)) dX3_findCorners_18 KX3_turnTo LX3_53 IX3_turnTo VX3_turnTo (by decide) rfl (by assumption) rfl rfl rfl (Nat.le_of_ble_eq_true rfl) ?_
        intro r1 h1 hP1 hz1
        obtain ⟨rfl, rd', cn', r', hR, hm1, hrd', hch', hl', hsm', hcn'⟩ := hP1
        have hm := hm.tr hm1
        have hcr' := hch'.2.2.2.2.2.2 (cn' - 1) (by omega) (by omega)
        rw [hl'] at hcr'
        have hcr'' : cn' - 1 - 0 ≤ n + 1 := hcr'
        dsimp only [Option.toList, List.cons_append, List.nil_append]
        refine g_iinc C dX3_findCorners_21 (by decide) rfl rfl ?_
        dsimp only [List.set]
        refine g_goto C dX3_findCorners_24 (tgt := 7) (by decide) ?_
        exact ih (n + 1) cn' _ rd' r' (by omega) (by omega) hR hm hrd' hch' (by rw [hsm' 0 (by omega)]; exact he0) hl'
  have start : ∀ (hh : ax_H), rg_at hh a xs ys sz rd 0 → ax_sm a (a + 4) h hh → ax_G p9 l9 e9 R9 s9 m9 args9 below9 meth9 c9 b9 D9 dA9 MX3_findCorners.2.2.1 h.length (ax_sz h) Q9 (7) ([some (rv a), some (iv 0), none]) ([]) (hh) := by
    intro hh hR hm
    have ⟨h0, h1, h2, h3⟩ := hR
    by_cases hs0 : sz = 0
    · refine g_iload_n C dX3_findCorners_7 rfl ?_
      refine g_aload_n C dX3_findCorners_8 rfl ?_
      refine g_get C FX3_21 dX3_findCorners_9 (by assumption) rfl ?_
      refine g_icmp_ge C dX3_findCorners_12 (tgt := 27) (by decide) (by omega) (by omega) (fun h12 => ?_) (fun h12 => ?_)
      · refine g_aload_n C dX3_findCorners_27 rfl ?_
        refine g_get C FX3_50 dX3_findCorners_28 (by assumption) rfl ?_
        refine g_istore_n C dX3_findCorners_31 (by decide) rfl ?_
        dsimp only [List.set]
        refine g_aload_n C dX3_findCorners_32 rfl ?_
        refine g_get C FX3_21 dX3_findCorners_33 (by assumption) rfl ?_
        refine g_iconst C dX3_findCorners_36 ?_
        refine g_isub C dX3_findCorners_37 ?_
        refine g_istore_n C dX3_findCorners_38 (by decide) rfl ?_
        dsimp only [List.set]
        refine g_iload_n C dX3_findCorners_39 rfl ?_
        refine g_if_lt C dX3_findCorners_40 (tgt := 55) (by decide) (by omega) (fun h40 => ?_) (fun h40 => ?_)
        · refine g_aload_n C dX3_findCorners_55 rfl ?_
          refine g_get C FX3_21 dX3_findCorners_56 (by assumption) rfl ?_
          refine g_iconst C dX3_findCorners_59 ?_
          refine g_icmp_le C dX3_findCorners_60 (tgt := 73) (by decide) (by omega) (by omega) (fun h60 => ?_) (fun h60 => ?_)
          · refine g_aload_n C dX3_findCorners_73 rfl ?_
            exact kr _ _ _ _ dX3_findCorners_74 ⟨rfl, _, _, fun _ => 0, hR, hm, by omega, fun e he => by omega, fun _ => rfl, fun q => by omega, fun q => by omega⟩ hm.1
          · exfalso; omega
        · exfalso; omega
      · exfalso; omega
    · refine g_iload_n C dX3_findCorners_7 rfl ?_
      refine g_aload_n C dX3_findCorners_8 rfl ?_
      refine g_get C FX3_21 dX3_findCorners_9 (by assumption) rfl ?_
      refine g_icmp_ge C dX3_findCorners_12 (tgt := 27) (by decide) (by omega) (by omega) (fun h12 => ?_) (fun h12 => ?_)
      · exfalso; omega
      · refine g_aload_n C dX3_findCorners_15 rfl ?_
        refine g_iload_n C dX3_findCorners_16 rfl ?_
        refine g_iconst C dX3_findCorners_17 ?_
        refine g_RV C (t_turnTo0 (i := 0) hR) dX3_findCorners_18 KX3_turnTo LX3_53 IX3_turnTo VX3_turnTo (by decide) rfl (by assumption) rfl rfl rfl (Nat.le_of_ble_eq_true rfl) ?_
        intro r1 h1 hP1 hz1
        obtain ⟨rfl, hR, hm1⟩ := hP1
        have hm := hm.tr hm1
        dsimp only [Option.toList, List.cons_append, List.nil_append]
        refine g_iinc C dX3_findCorners_21 (by decide) rfl rfl ?_
        dsimp only [List.set]
        refine g_goto C dX3_findCorners_24 (tgt := 7) (by decide) ?_
        exact loop1 (sz - 1) 0 1 _ (va_up rd 0 ((0 : Nat) : Int)) (fun _ => 0) (by omega) (by omega) hR hm (fun e he => by simp [show e = 0 by omega, va_up]) (ch_one (i := 0) rfl (fun j => by omega)) rfl rfl
  have ⟨h0, h1, h2, h3⟩ := hR
  refine g_aload_n C dX3_findCorners_0 rfl ?_
  refine g_iconst C dX3_findCorners_1 ?_
  refine g_put C FX3_50 dX3_findCorners_2 (by assumption) rfl rfl (Nat.le_of_ble_eq_true rfl) ?_
  dsimp only [List.set]
  refine rg_s_cn 0 rfl hR hm ?_
  intro h9 hR hm
  refine g_iconst C dX3_findCorners_5 ?_
  refine g_istore_n C dX3_findCorners_6 (by decide) rfl ?_
  dsimp only [List.set]
  exact start _ hR hm
end
section
/-! how many: two lists of one set, none twice, are as long as each other -/
theorem pigeon : ∀ (n m : Nat) (f : Nat → Nat), (∀ i, i < m → f i < n) → (∀ i j, i < m → j < m → f i = f j → i = j) → m ≤ n
  | 0, m, f, h1, _ => by
    by_cases q : m = 0
    · omega
    · have := h1 0 (by omega); omega
  | n + 1, 0, f, _, _ => by omega
  | n + 1, m + 1, f, h1, h2 => by
    have := pigeon n m (fun i => if f i = n then f m else f i) (fun i hi => by
      show (if f i = n then f m else f i) < n
      have a := h1 i (by omega)
      have b := h1 m (by omega)
      split
      · by_cases q : f m = n
        · have := h2 i m (by omega) (by omega) (by omega); omega
        · omega
      · omega) (fun i j hi hj e => by
      have e' : (if f i = n then f m else f i) = (if f j = n then f m else f j) := e
      by_cases q1 : f i = n
      · by_cases q2 : f j = n
        · exact h2 i j (by omega) (by omega) (by omega)
        · rw [if_pos q1, if_neg q2] at e'; have := h2 m j (by omega) (by omega) e'; omega
      · by_cases q2 : f j = n
        · rw [if_neg q1, if_pos q2] at e'; have := h2 i m (by omega) (by omega) e'; omega
        · rw [if_neg q1, if_neg q2] at e'; exact h2 i j (by omega) (by omega) e')
    omega
def inj2 (px py : Nat → Int) (n : Nat) : Prop := ∀ i j, i < n → j < n → px i = px j → py i = py j → i = j
theorem inj2_le {px py qx qy : Nat → Int} {n m : Nat} (h1 : inj2 qx qy m) (h : ∀ x y, pin qx qy m x y → pin px py n x y) : m ≤ n := by
  have w : ∀ i : Nat, ∃ k : Nat, i < m → k < n ∧ px k = qx i ∧ py k = qy i := fun i => by
    by_cases q : i < m
    · obtain ⟨k, a, b, c⟩ := h _ _ ⟨i, q, rfl, rfl⟩
      exact ⟨k, fun _ => ⟨a, b, c⟩⟩
    · exact ⟨0, fun z => absurd z q⟩
  refine pigeon n m (fun i => Classical.choose (w i)) (fun i hi => (Classical.choose_spec (w i) hi).1) (fun i j hi hj e => ?_)
  have a := (Classical.choose_spec (w i) hi).2
  have b := (Classical.choose_spec (w j) hj).2
  have e' : Classical.choose (w i) = Classical.choose (w j) := e
  rw [e'] at a
  exact h1 i j hi hj (by rw [← a.1, b.1]) (by rw [← a.2, b.2])
noncomputable def hZ (S : Int → Int → Prop) : Nat := Classical.epsilon (fun n => ∃ px py, inj2 px py n ∧ pin px py n = S)
theorem hZ_is {S : Int → Int → Prop} {px py : Nat → Int} {n : Nat} (h1 : inj2 px py n) (h2 : pin px py n = S) : n = hZ S := by
  obtain ⟨qx, qy, g1, g2⟩ := Classical.epsilon_spec (p := fun n => ∃ px py, inj2 px py n ∧ pin px py n = S) ⟨n, px, py, h1, h2⟩
  have e : pin px py n = pin qx qy (hZ S) := h2.trans g2.symm
  have a := inj2_le h1 (fun x y q => by rw [← e]; exact q)
  have b := inj2_le (n := n) (px := px) (py := py) g1 (fun x y q => by rw [e]; exact q)
  exact Nat.le_antisymm a b
theorem srt_inj {px py : Nat → Int} {n : Nat} (h : srt px py n) : inj2 px py n := fun i j hi hj e1 e2 => by
  rcases Nat.lt_trichotomy i j with q | q | q
  · have := h i j q hj; rw [e1, e2] at this; omega
  · exact q
  · have := h j i q hi; rw [e1, e2] at this; omega
/-! a Region that has been gathered: the set S -/
def rg_any (h : ax_H) (a : Nat) : Prop := ∃ xs ys sz rd cn, rg_at h a xs ys sz rd cn
def rg_pre (h : ax_H) (a : Nat) (S : Int → Int → Prop) (bd : Nat) : Prop := ∃ xs ys sz rd cn, rg_at h a xs ys sz rd cn ∧ rg_rg xs ys sz ∧ srt xs ys sz ∧ sz ≤ bd ∧ pin xs ys sz = S
def rg_of (h : ax_H) (a : Nat) (S : Int → Int → Prop) : Prop := ∃ xs ys sz rd cn, ∃ r : Nat → Nat, rg_at h a xs ys sz rd cn ∧ rg_rg xs ys sz ∧ srt xs ys sz ∧ sz ≤ 128 ∧ cn ≤ 256 ∧ (∀ e, e < cn → rd e = (r e : Int) ∧ r e < sz) ∧ hl_ok xs ys sz r cn ∧ pin xs ys sz = S
theorem rg_of.any {h : ax_H} {a : Nat} {S : Int → Int → Prop} (H : rg_of h a S) : rg_any h a := by
  obtain ⟨xs, ys, sz, rd, cn, r, h1, -⟩ := H
  exact ⟨xs, ys, sz, rd, cn, h1⟩
theorem rg_any.sm {h h1 : ax_H} {a lo hi : Nat} (H : rg_any h a) (S : ax_sm lo hi h h1) (hn : a + 4 ≤ lo ∨ hi ≤ a) : rg_any h1 a := by
  obtain ⟨xs, ys, sz, rd, cn, q⟩ := H
  exact ⟨xs, ys, sz, rd, cn, q.sm S hn⟩
theorem rg_of.rng {h : ax_H} {a : Nat} {S : Int → Int → Prop} (H : rg_of h a S) : rng S := by
  obtain ⟨xs, ys, sz, rd, cn, r, h1, h2, h3, h4, h5, h6, h7, rfl⟩ := H
  rintro x y ⟨i, hi, rfl, rfl⟩
  exact h2 i hi
/-- its numbers are those of the set -/
theorem rg_of.use {h : ax_H} {a : Nat} {S : Int → Int → Prop} (H : rg_of h a S) : ∃ xs ys sz rd cn, ∃ r : Nat → Nat, rg_at h a xs ys sz rd cn ∧ rg_rg xs ys sz ∧ sz ≤ 128 ∧ cn ≤ 256 ∧ (∀ e, e < cn → rd e = (r e : Int) ∧ r e < sz) ∧ sz = hZ S ∧ cn = (hC S).1 ∧ (∀ e, e < cn → xs (r e) = (hC S).2.1 e ∧ ys (r e) = (hC S).2.2 e) ∧ hull S (fun e => xs (r e)) (fun e => ys (r e)) cn := by
  have hg := H.rng
  obtain ⟨xs, ys, sz, rd, cn, r, h1, h2, h3, h4, h5, h6, h7, h8⟩ := H
  have hh := hl_hull h3 h7
  rw [h8] at hh
  have := hC_is hg hh
  exact ⟨xs, ys, sz, rd, cn, r, h1, h2, h4, h5, h6, hZ_is (srt_inj h3) h8, this.1, this.2, hh⟩
theorem ax_Mt.mono {y : ax_M} {av : List ax_V} {h : ax_H} {P P2 : Option ax_V → ax_H → Prop} (M : ax_Mt y av h P) (hP : ∀ r h', P r h' → P2 r h') : ax_Mt y av h P2 := fun l b D dA p e a1 a2 a3 s m args below a4 a5 a6 a7 => by
  obtain ⟨n, o, g1, g2, g3, ⟨r, h', hq, hz, hc⟩, g4⟩ := M l b D dA p e a1 a2 a3 s m args below a4 a5 a6 a7
  exact ⟨n, o, g1, g2, g3, ⟨r, h', hP r h' hq, hz, hc⟩, g4⟩
/-- one more point -/
theorem t_inc {h : ax_H} {a bd : Nat} {S : Int → Int → Prop} (H : rg_pre h a S bd) (hb : bd < 128) {x y : Int} (hx : 0 ≤ x ∧ x ≤ 84) (hy : 0 ≤ y ∧ y ≤ 84) : ax_Mt MX3_include [rv a, iv x, iv y] h (fun r h' => r = none ∧ rg_pre h' a (fun u v => S u v ∨ (u = x ∧ v = y)) (bd + 1) ∧ ax_sm a (a + 4) h h') := by
  obtain ⟨xs, ys, sz, rd, cn, h1, h2, h3, h4, rfl⟩ := H
  refine (t_include h1 h2 h3 (by omega) hx hy).mono ?_
  rintro r h' ⟨rfl, xs', ys', sz', g1, g2, g3, g4, g5, g6⟩
  exact ⟨rfl, ⟨xs', ys', sz', rd, cn, g1, g3, g4, by omega, hull_congr g6⟩, g2⟩
theorem t_fc {h : ax_H} {a bd : Nat} {S : Int → Int → Prop} (H : rg_pre h a S bd) (hb : bd ≤ 128) : ax_Mt MX3_findCorners [rv a] h (fun v h' => v = some (rv a) ∧ rg_of h' a S ∧ ax_sm a (a + 4) h h') := by
  obtain ⟨xs, ys, sz, rd, cn, h1, h2, h3, h4, rfl⟩ := H
  refine (t_findCorners h1 h2 h3 (by omega)).mono ?_
  rintro r h' ⟨rfl, rd', cn', r', g1, g2, g3, g4, g5⟩
  exact ⟨rfl, ⟨xs, ys, sz, rd', cn', r', g1, h2, h3, by omega, g3, g4, g5, rfl⟩, g2⟩
theorem rg_pre.ob {h : ax_H} {a bd : Nat} {S : Int → Int → Prop} (H : rg_pre h a S bd) : ∃ fs, h[a]? = some (.inr (3, fs)) := by
  obtain ⟨xs, ys, sz, rd, cn, h1, -⟩ := H
  exact ⟨_, h1.1⟩
theorem rg_of.ob {h : ax_H} {a : Nat} {S : Int → Int → Prop} (H : rg_of h a S) : ∃ fs, h[a]? = some (.inr (3, fs)) := by
  obtain ⟨xs, ys, sz, rd, cn, r, h1, -⟩ := H
  exact ⟨_, h1.1⟩
/-- an empty region -/
theorem rg_pre0 {h : ax_H} {a : Nat} {xs ys rd : Nat → Int} {cn : Nat} (h1 : rg_at h a xs ys 0 rd cn) : rg_pre h a (fun _ _ => False) 0 := ⟨xs, ys, 0, rd, cn, h1, fun i hi => by omega, fun i j h1 h2 => by omega, by omega, hull_congr (fun x y => ⟨fun ⟨i, hi, _⟩ => by omega, fun q => q.elim⟩)⟩
theorem rg_pre.eqv {h : ax_H} {a bd bd2 : Nat} {S S2 : Int → Int → Prop} (H : rg_pre h a S bd) (e : ∀ x y, S x y ↔ S2 x y) (hb : bd ≤ bd2) : rg_pre h a S2 bd2 := by
  rw [← hull_congr e]
  obtain ⟨xs, ys, sz, rd, cn, h1, h2, h3, h4, h5⟩ := H
  exact ⟨xs, ys, sz, rd, cn, h1, h2, h3, by omega, h5⟩
/-! sets of bits -/
def bt (T k : Nat) : Prop := T / 2 ^ k % 2 = 1
theorem ax_bit {T k : Nat} : Int32.ofInt ((T : Int) / 2 ^ k) &&& Int32.ofInt 1 = Int32.ofInt ((T / 2 ^ k % 2 : Nat) : Int) := by
  have e : (T : Int) / 2 ^ k = ((T / 2 ^ k : Nat) : Int) := by rw [Int.natCast_ediv, Int.natCast_pow]; rfl
  rw [e, show (1 : Int) = ((1 : Nat) : Int) from rfl, ax_andN, Nat.and_one_is_mod]
/-- the points of a set -/
def bs (X Y : Nat → Int) (n T : Nat) (x y : Int) : Prop := ∃ k, k < n ∧ bt T k ∧ X k = x ∧ Y k = y
def bss (X Y : Nat → Int) (n T : Nat) (X2 Y2 : Nat → Int) (n2 T2 : Nat) (x y : Int) : Prop := ∃ i, i < n ∧ bt T i ∧ ∃ j, j < n2 ∧ bt T2 j ∧ X i + X2 j = x ∧ Y i + Y2 j = y
theorem bs_succ (X Y : Nat → Int) (n T : Nat) (x y : Int) : bs X Y (n + 1) T x y ↔ bs X Y n T x y ∨ (bt T n ∧ x = X n ∧ y = Y n) := by
  constructor
  · rintro ⟨k, h1, h2, h3, h4⟩
    by_cases q : k = n
    · subst q; exact Or.inr ⟨h2, h3.symm, h4.symm⟩
    · exact Or.inl ⟨k, by omega, h2, h3, h4⟩
  · rintro (⟨k, h1, h2, h3, h4⟩ | ⟨h2, h3, h4⟩)
    · exact ⟨k, by omega, h2, h3, h4⟩
    · exact ⟨n, by omega, h2, h3.symm, h4.symm⟩
theorem t_gather {h : ax_H} {a ab n T : Nat} {X Y V : Nat → Int} (hR : rg_any h a) (hB : bo_at h ab X Y V n) (ho : bo_ok X Y V n) (hT : T < 2147483648) (hd : ab + 4 ≤ a ∨ a + 4 ≤ ab) : ax_Mt MX3_gather [rv a, rv ab, iv (T : Int)] h (fun v h' => v = some (rv a) ∧ rg_of h' a (bs X Y n T) ∧ ax_sm a (a + 4) h h') := by
  have hm := ax_sm.rf (lo := a) (hi := a + 4) h
  have hn := ho.1
  refine ax_ra (L0 := [some (rv a), some (rv ab), some (iv (T : Int)), none]) rfl rfl (Or.inl ⟨_, rfl⟩) (Nat.le_of_ble_eq_true rfl) rfl ?_
  intro p9 l9 e9 R9 s9 m9 args9 below9 meth9 c9 b9 D9 dA9 Q9 C kr
  have loop : ∀ (d k : Nat) (hh : ax_H), k + d = n → rg_pre hh a (bs X Y k T) k → ax_sm a (a + 4) h hh → ax_G p9 l9 e9 R9 s9 m9 args9 below9 meth9 c9 b9 D9 dA9 MX3_gather.2.2.1 h.length (ax_sz h) Q9 (7) ([some (rv a), some (rv ab), some (iv (T : Int)), some (iv (k : Int))]) ([]) (hh) := by
    intro d
    induction d with
    | zero =>
      intro k hh hk hP hm
      obtain ⟨fs, hf⟩ := hP.ob
      have ⟨k0, k1, k2, k3⟩ := hB.sm hm hd
      have e9 : k = n := by omega
      subst e9
      refine g_iload_n C dX3_gather_7 rfl ?_
      refine g_aload_n C dX3_gather_8 rfl ?_
      refine g_get C FX3_25 dX3_gather_9 (by assumption) rfl ?_
      refine g_icmp_ge C dX3_gather_12 (tgt := 45) (by decide) (by omega) (by omega) (fun h12 => ?_) (fun h12 => ?_)
      · refine g_aload_n C dX3_gather_45 rfl ?_
        refine g_RV C (t_fc hP (by omega)) dX3_gather_46 KX3_findCorners LX3_38 IX3_findCorners VX3_findCorners (by decide) rfl (by assumption) rfl rfl rfl (Nat.le_of_ble_eq_true rfl) ?_
        intro r1 h1 hP1 hz1
        obtain ⟨rfl, hR, hm1⟩ := hP1
        dsimp only [Option.toList, List.cons_append, List.nil_append]
        exact kr _ _ _ _ dX3_gather_49 ⟨rfl, hR, hm.tr hm1⟩ (hm.tr hm1).1
      · exfalso; omega
    | succ d ih =>
      intro k hh hk hP hm
      obtain ⟨fs, hf⟩ := hP.ob
      have ⟨k0, k1, k2, k3⟩ := hB.sm hm hd
      have hb := ho.2 k (by omega)
      have hbit := Nat.mod_lt (T / 2 ^ k) (show 2 > 0 by decide)
      refine g_iload_n C dX3_gather_7 rfl ?_
      refine g_aload_n C dX3_gather_8 rfl ?_
      refine g_get C FX3_25 dX3_gather_9 (by assumption) rfl ?_
      refine g_icmp_ge C dX3_gather_12 (tgt := 45) (by decide) (by omega) (by omega) (fun h12 => ?_) (fun h12 => ?_)
      · exfalso; omega
      · refine g_iload_n C dX3_gather_15 rfl ?_
        refine g_iload_n C dX3_gather_16 rfl ?_
        refine g_ishr C dX3_gather_17 (by omega) (by omega) ?_
        refine g_iconst C dX3_gather_18 ?_
        refine g_iand C dX3_gather_19 ax_bit ?_
        refine g_if_eq C dX3_gather_20 (tgt := 39) (by decide) (by omega) (fun h20 => ?_) (fun h20 => ?_)
        · have hP := hP.eqv (bd2 := k + 1) (S2 := bs X Y (k + 1) T) (fun x y => by rw [bs_succ]; exact ⟨Or.inl, fun q => q.elim id (fun z => by have : T / 2 ^ k % 2 = 1 := z.1; omega)⟩) (by omega)
          refine g_iinc C dX3_gather_39 (by decide) rfl rfl ?_
          dsimp only [List.set]
          refine g_goto C dX3_gather_42 (tgt := 7) (by decide) ?_
          exact ih (k + 1) _ (by omega) hP hm
        · refine g_aload_n C dX3_gather_23 rfl ?_
          refine g_aload_n C dX3_gather_24 rfl ?_
          refine g_get C FX3_28 dX3_gather_25 (by assumption) rfl ?_
          refine g_iload_n C dX3_gather_28 rfl ?_
          refine g_iald C dX3_gather_29 (by assumption) rfl (by omega) (by decide) ?_
          refine g_aload_n C dX3_gather_30 rfl ?_
          refine g_get C FX3_31 dX3_gather_31 (by assumption) rfl ?_
          refine g_iload_n C dX3_gather_34 rfl ?_
          refine g_iald C dX3_gather_35 (by assumption) rfl (by omega) (by decide) ?_
          refine g_RV C (t_inc hP (by omega) (show 0 ≤ X k ∧ X k ≤ 84 by omega) (show 0 ≤ Y k ∧ Y k ≤ 84 by omega)) dX3_gather_36 KX3_include LX3_34 IX3_include VX3_include (by decide) rfl (by assumption) rfl rfl rfl (Nat.le_of_ble_eq_true rfl) ?_
          intro r1 h1 hP1 hz1
          obtain ⟨rfl, hP, hm1⟩ := hP1
          have hm := hm.tr hm1
          have hP := hP.eqv (bd2 := k + 1) (S2 := bs X Y (k + 1) T) (fun x y => by rw [bs_succ]; exact ⟨fun q => q.elim Or.inl (fun z => Or.inr ⟨show T / 2 ^ k % 2 = 1 by omega, z⟩), fun q => q.elim Or.inl (fun z => Or.inr z.2)⟩) (by omega)
          dsimp only [Option.toList, List.cons_append, List.nil_append]
          refine g_iinc C dX3_gather_39 (by decide) rfl rfl ?_
          dsimp only [List.set]
          refine g_goto C dX3_gather_42 (tgt := 7) (by decide) ?_
          exact ih (k + 1) _ (by omega) hP hm
  obtain ⟨xs, ys, sz, rd, cn, hR⟩ := hR
  have ⟨h0, h1, h2, h3⟩ := hR
  refine g_aload_n C dX3_gather_0 rfl ?_
  refine g_iconst C dX3_gather_1 ?_
  refine g_put C FX3_21 dX3_gather_2 (by assumption) rfl rfl (Nat.le_of_ble_eq_true rfl) ?_
  dsimp only [List.set]
  refine rg_s_sz 0 rfl hR hm ?_
  intro h9 hR hm
  refine g_iconst C dX3_gather_5 ?_
  refine g_istore_n C dX3_gather_6 (by decide) rfl ?_
  dsimp only [List.set]
  exact loop n 0 _ (by omega) ((rg_pre0 hR).eqv (fun x y => ⟨fun q => q.elim, fun ⟨k, hk, _⟩ => by omega⟩) (Nat.le_refl _)) hm
end
section
theorem bss_succ (X Y : Nat → Int) (n T : Nat) (X2 Y2 : Nat → Int) (n2 T2 : Nat) (x y : Int) : bss X Y (n + 1) T X2 Y2 n2 T2 x y ↔ bss X Y n T X2 Y2 n2 T2 x y ∨ (bt T n ∧ ∃ j, j < n2 ∧ bt T2 j ∧ X n + X2 j = x ∧ Y n + Y2 j = y) := by
  constructor
  · rintro ⟨k, h1, h2, h3⟩
    by_cases q : k = n
    · subst q; exact Or.inr ⟨h2, h3⟩
    · exact Or.inl ⟨k, by omega, h2, h3⟩
  · rintro (⟨k, h1, h2, h3⟩ | ⟨h2, h3⟩)
    · exact ⟨k, by omega, h2, h3⟩
    · exact ⟨n, by omega, h2, h3⟩
theorem t_gatherSums {h : ax_H} {a aa ab n n2 T T2 : Nat} {X Y V X2 Y2 V2 : Nat → Int} (hR : rg_any h a) (hA : bo_at h aa X Y V n) (hB : bo_at h ab X2 Y2 V2 n2) (ho : bo_ok X Y V n) (ho2 : bo_ok X2 Y2 V2 n2) (hT : T < 2147483648) (hT2 : T2 < 2147483648) (hd : aa + 4 ≤ a ∨ a + 4 ≤ aa) (hd2 : ab + 4 ≤ a ∨ a + 4 ≤ ab) : ax_Mt MX3_gatherSums [rv a, rv aa, iv (T : Int), rv ab, iv (T2 : Int)] h (fun v h' => v = some (rv a) ∧ rg_of h' a (bss X Y n T X2 Y2 n2 T2) ∧ ax_sm a (a + 4) h h') := by
  have hm := ax_sm.rf (lo := a) (hi := a + 4) h
  have hn := ho.1
  have hn2 := ho2.1
  refine ax_ra (L0 := [some (rv a), some (rv aa), some (iv (T : Int)), some (rv ab), some (iv (T2 : Int)), none, none]) rfl rfl (Or.inl ⟨_, rfl⟩) (Nat.le_of_ble_eq_true rfl) rfl ?_
  intro p9 l9 e9 R9 s9 m9 args9 below9 meth9 c9 b9 D9 dA9 Q9 C kr
  have inner : ∀ (i : Nat), i < n → (∀ hh : ax_H, rg_pre hh a (bss X Y (i + 1) T X2 Y2 n2 T2) (7 * (i + 1)) → ax_sm a (a + 4) h hh → ax_G p9 l9 e9 R9 s9 m9 args9 below9 meth9 c9 b9 D9 dA9 MX3_gatherSums.2.2.1 h.length (ax_sz h) Q9 (8) ([some (rv a), some (rv aa), some (iv (T : Int)), some (rv ab), some (iv (T2 : Int)), some (iv ((i + 1 : Nat) : Int)), some (iv (n2 : Int))]) ([]) (hh)) → ∀ (d j : Nat) (hh : ax_H), j + d = n2 → rg_pre hh a (fun x y => bss X Y i T X2 Y2 n2 T2 x y ∨ (bt T i ∧ ∃ j', j' < j ∧ bt T2 j' ∧ X i + X2 j' = x ∧ Y i + Y2 j' = y)) (7 * i + j) → ax_sm a (a + 4) h hh → ax_G p9 l9 e9 R9 s9 m9 args9 below9 meth9 c9 b9 D9 dA9 MX3_gatherSums.2.2.1 h.length (ax_sz h) Q9 (20) ([some (rv a), some (rv aa), some (iv (T : Int)), some (rv ab), some (iv (T2 : Int)), some (iv (i : Int)), some (iv (j : Int))]) ([]) (hh) := by
    intro i hi K d
    have hbi := ho.2 i hi
    have hbit := Nat.mod_lt (T / 2 ^ i) (show 2 > 0 by decide)
    induction d with
    | zero =>
      intro j hh hj hP hm
      obtain ⟨fs, hf⟩ := hP.ob
      have ⟨k0, k1, k2, k3⟩ := hA.sm hm hd
      have ⟨l0, l1, l2, l3⟩ := hB.sm hm hd2
      have e9 : j = n2 := by omega
      subst e9
      refine g_iload C dX3_gatherSums_20 rfl ?_
      refine g_aload_n C dX3_gatherSums_22 rfl ?_
      refine g_get C FX3_25 dX3_gatherSums_23 (by assumption) rfl ?_
      refine g_icmp_ge C dX3_gatherSums_26 (tgt := 88) (by decide) (by omega) (by omega) (fun h26 => ?_) (fun h26 => ?_)
      · refine g_iinc C dX3_gatherSums_88 (by decide) rfl rfl ?_
        dsimp only [List.set]
        refine g_goto C dX3_gatherSums_91 (tgt := 8) (by decide) ?_
        exact K hh (hP.eqv (fun x y => by rw [bss_succ]) (by omega)) hm
      · exfalso; omega
    | succ d ih =>
      intro j hh hj hP hm
      obtain ⟨fs, hf⟩ := hP.ob
      have ⟨k0, k1, k2, k3⟩ := hA.sm hm hd
      have ⟨l0, l1, l2, l3⟩ := hB.sm hm hd2
      have hbj := ho2.2 j (by omega)
      have hbit2 := Nat.mod_lt (T2 / 2 ^ j) (show 2 > 0 by decide)
      refine g_iload C dX3_gatherSums_20 rfl ?_
      refine g_aload_n C dX3_gatherSums_22 rfl ?_
      refine g_get C FX3_25 dX3_gatherSums_23 (by assumption) rfl ?_
      refine g_icmp_ge C dX3_gatherSums_26 (tgt := 88) (by decide) (by omega) (by omega) (fun h26 => ?_) (fun h26 => ?_)
      · exfalso; omega
      · refine g_iload_n C dX3_gatherSums_29 rfl ?_
        refine g_iload C dX3_gatherSums_30 rfl ?_
        refine g_ishr C dX3_gatherSums_32 (by omega) (by omega) ?_
        refine g_iconst C dX3_gatherSums_33 ?_
        refine g_iand C dX3_gatherSums_34 ax_bit ?_
        refine g_if_eq C dX3_gatherSums_35 (tgt := 82) (by decide) (by omega) (fun h35 => ?_) (fun h35 => ?_)
        · have hP := hP.eqv (bd2 := 7 * i + (j + 1)) (S2 := fun x y => bss X Y i T X2 Y2 n2 T2 x y ∨ (bt T i ∧ ∃ j', j' < j + 1 ∧ bt T2 j' ∧ X i + X2 j' = x ∧ Y i + Y2 j' = y)) (fun x y => ⟨fun q => q.elim Or.inl (fun ⟨z1, j', z2, z3⟩ => Or.inr ⟨z1, j', by omega, z3⟩), fun q => q.elim Or.inl (fun ⟨z1, _⟩ => by have : T / 2 ^ i % 2 = 1 := z1; omega)⟩) (by omega)
          refine g_iinc C dX3_gatherSums_82 (by decide) rfl rfl ?_
          dsimp only [List.set]
          refine g_goto C dX3_gatherSums_85 (tgt := 20) (by decide) ?_
          exact ih (j + 1) _ (by omega) hP hm
        · refine g_iload C dX3_gatherSums_38 rfl ?_
          refine g_iload C dX3_gatherSums_40 rfl ?_
          refine g_ishr C dX3_gatherSums_42 (by omega) (by omega) ?_
          refine g_iconst C dX3_gatherSums_43 ?_
          refine g_iand C dX3_gatherSums_44 ax_bit ?_
          refine g_if_eq C dX3_gatherSums_45 (tgt := 82) (by decide) (by omega) (fun h45 => ?_) (fun h45 => ?_)
          · have hP := hP.eqv (bd2 := 7 * i + (j + 1)) (S2 := fun x y => bss X Y i T X2 Y2 n2 T2 x y ∨ (bt T i ∧ ∃ j', j' < j + 1 ∧ bt T2 j' ∧ X i + X2 j' = x ∧ Y i + Y2 j' = y)) (fun x y => ⟨fun q => q.elim Or.inl (fun ⟨z1, j', z2, z3⟩ => Or.inr ⟨z1, j', by omega, z3⟩), fun q => q.elim Or.inl (fun ⟨z1, j', z2, z3⟩ => Or.inr ⟨z1, j', by
              by_cases c : j' = j
              · subst c; have : T2 / 2 ^ j' % 2 = 1 := z3.1; omega
              · omega, z3⟩)⟩) (by omega)
            refine g_iinc C dX3_gatherSums_82 (by decide) rfl rfl ?_
            dsimp only [List.set]
            refine g_goto C dX3_gatherSums_85 (tgt := 20) (by decide) ?_
            exact ih (j + 1) _ (by omega) hP hm
          · refine g_aload_n C dX3_gatherSums_48 rfl ?_
            refine g_aload_n C dX3_gatherSums_49 rfl ?_
            refine g_get C FX3_28 dX3_gatherSums_50 (by assumption) rfl ?_
            refine g_iload C dX3_gatherSums_53 rfl ?_
            refine g_iald C dX3_gatherSums_55 (by assumption) rfl (by omega) (by decide) ?_
            refine g_aload_n C dX3_gatherSums_56 rfl ?_
            refine g_get C FX3_28 dX3_gatherSums_57 (by assumption) rfl ?_
            refine g_iload C dX3_gatherSums_60 rfl ?_
            refine g_iald C dX3_gatherSums_62 (by assumption) rfl (by omega) (by decide) ?_
            refine g_iadd C dX3_gatherSums_63 ?_
            refine g_aload_n C dX3_gatherSums_64 rfl ?_
            refine g_get C FX3_31 dX3_gatherSums_65 (by assumption) rfl ?_
            refine g_iload C dX3_gatherSums_68 rfl ?_
            refine g_iald C dX3_gatherSums_70 (by assumption) rfl (by omega) (by decide) ?_
            refine g_aload_n C dX3_gatherSums_71 rfl ?_
            refine g_get C FX3_31 dX3_gatherSums_72 (by assumption) rfl ?_
            refine g_iload C dX3_gatherSums_75 rfl ?_
            refine g_iald C dX3_gatherSums_77 (by assumption) rfl (by omega) (by decide) ?_
            refine g_iadd C dX3_gatherSums_78 ?_
            refine g_RV C (t_inc hP (by omega) (show 0 ≤ X i + X2 j ∧ X i + X2 j ≤ 84 by omega) (show 0 ≤ Y i + Y2 j ∧ Y i + Y2 j ≤ 84 by omega)) dX3_gatherSums_79 KX3_include LX3_34 IX3_include VX3_include (by decide) rfl (by assumption) rfl rfl rfl (Nat.le_of_ble_eq_true rfl) ?_
            intro r1 h1 hP1 hz1
            obtain ⟨rfl, hP, hm1⟩ := hP1
            have hm := hm.tr hm1
            have b1 : bt T i := show T / 2 ^ i % 2 = 1 by omega
            have b2 : bt T2 j := show T2 / 2 ^ j % 2 = 1 by omega
            have hP := hP.eqv (bd2 := 7 * i + (j + 1)) (S2 := fun x y => bss X Y i T X2 Y2 n2 T2 x y ∨ (bt T i ∧ ∃ j', j' < j + 1 ∧ bt T2 j' ∧ X i + X2 j' = x ∧ Y i + Y2 j' = y)) (fun x y => ⟨fun q => q.elim (fun q => q.elim Or.inl (fun ⟨z1, j', z2, z3⟩ => Or.inr ⟨z1, j', by omega, z3⟩)) (fun z => Or.inr ⟨b1, j, by omega, b2, z.1.symm, z.2.symm⟩), fun q => q.elim (fun q => Or.inl (Or.inl q)) (fun ⟨z1, j', z2, z3⟩ => by
              by_cases c : j' = j
              · subst c; exact Or.inr ⟨z3.2.1.symm, z3.2.2.symm⟩
              · exact Or.inl (Or.inr ⟨z1, j', by omega, z3⟩))⟩) (by omega)
            dsimp only [Option.toList, List.cons_append, List.nil_append]
            refine g_iinc C dX3_gatherSums_82 (by decide) rfl rfl ?_
            dsimp only [List.set]
            refine g_goto C dX3_gatherSums_85 (tgt := 20) (by decide) ?_
            exact ih (j + 1) _ (by omega) hP hm
  have outer : ∀ (d i : Nat) (hh : ax_H) (x6 : Option ax_V), i + d = n → rg_pre hh a (bss X Y i T X2 Y2 n2 T2) (7 * i) → ax_sm a (a + 4) h hh → ax_G p9 l9 e9 R9 s9 m9 args9 below9 meth9 c9 b9 D9 dA9 MX3_gatherSums.2.2.1 h.length (ax_sz h) Q9 (8) ([some (rv a), some (rv aa), some (iv (T : Int)), some (rv ab), some (iv (T2 : Int)), some (iv (i : Int)), x6]) ([]) (hh) := by
    intro d
    induction d with
    | zero =>
      intro i hh x6 hi hP hm
      obtain ⟨fs, hf⟩ := hP.ob
      have ⟨k0, k1, k2, k3⟩ := hA.sm hm hd
      have e9 : i = n := by omega
      subst e9
      refine g_iload C dX3_gatherSums_8 rfl ?_
      refine g_aload_n C dX3_gatherSums_10 rfl ?_
      refine g_get C FX3_25 dX3_gatherSums_11 (by assumption) rfl ?_
      refine g_icmp_ge C dX3_gatherSums_14 (tgt := 94) (by decide) (by omega) (by omega) (fun h14 => ?_) (fun h14 => ?_)
      · refine g_aload_n C dX3_gatherSums_94 rfl ?_
        refine g_RV C (t_fc hP (by omega)) dX3_gatherSums_95 KX3_findCorners LX3_38 IX3_findCorners VX3_findCorners (by decide) rfl (by assumption) rfl rfl rfl (Nat.le_of_ble_eq_true rfl) ?_
        intro r1 h1 hP1 hz1
        obtain ⟨rfl, hR, hm1⟩ := hP1
        dsimp only [Option.toList, List.cons_append, List.nil_append]
        exact kr _ _ _ _ dX3_gatherSums_98 ⟨rfl, hR, hm.tr hm1⟩ (hm.tr hm1).1
      · exfalso; omega
    | succ d ih =>
      intro i hh x6 hi hP hm
      obtain ⟨fs, hf⟩ := hP.ob
      have ⟨k0, k1, k2, k3⟩ := hA.sm hm hd
      refine g_iload C dX3_gatherSums_8 rfl ?_
      refine g_aload_n C dX3_gatherSums_10 rfl ?_
      refine g_get C FX3_25 dX3_gatherSums_11 (by assumption) rfl ?_
      refine g_icmp_ge C dX3_gatherSums_14 (tgt := 94) (by decide) (by omega) (by omega) (fun h14 => ?_) (fun h14 => ?_)
      · exfalso; omega
      · refine g_iconst C dX3_gatherSums_17 ?_
        refine g_istore C dX3_gatherSums_18 (by decide) rfl ?_
        dsimp only [List.set]
        exact inner i (by omega) (fun hh q1 q2 => ih (i + 1) hh _ (by omega) q1 q2) n2 0 hh (by omega) (hP.eqv (fun x y => ⟨Or.inl, fun q => q.elim id (fun ⟨_, j', z, _⟩ => by omega)⟩) (by omega)) hm
  obtain ⟨xs, ys, sz, rd, cn, hR⟩ := hR
  have ⟨h0, h1, h2, h3⟩ := hR
  refine g_aload_n C dX3_gatherSums_0 rfl ?_
  refine g_iconst C dX3_gatherSums_1 ?_
  refine g_put C FX3_21 dX3_gatherSums_2 (by assumption) rfl rfl (Nat.le_of_ble_eq_true rfl) ?_
  dsimp only [List.set]
  refine rg_s_sz 0 rfl hR hm ?_
  intro h9 hR hm
  refine g_iconst C dX3_gatherSums_5 ?_
  refine g_istore C dX3_gatherSums_6 (by decide) rfl ?_
  dsimp only [List.set]
  exact outer n 0 _ none (by omega) ((rg_pre0 hR).eqv (fun x y => ⟨fun q => q.elim, fun ⟨k, hk, _⟩ => by omega⟩) (Nat.le_refl _)) hm
/-! the fan -/
def fsm (X : Nat → Int) (T : Nat) : Nat → Int
  | 0 => 0
  | k + 1 => fsm X T k + ((T / 2 ^ k % 2 : Nat) : Int) * X k
theorem fsm_in {X : Nat → Int} {T : Nat} : ∀ k, (∀ j, j < k → 0 ≤ X j ∧ X j ≤ 12) → 0 ≤ fsm X T k ∧ fsm X T k ≤ 12 * k
  | 0, _ => by simp [fsm]
  | k + 1, hX => by
    have a := fsm_in (X := X) (T := T) k (fun j hj => hX j (by omega))
    have b := hX k (by omega)
    have hb := Nat.mod_lt (T / 2 ^ k) (show 2 > 0 by decide)
    rw [fsm]
    have c : T / 2 ^ k % 2 = 0 ∨ T / 2 ^ k % 2 = 1 := by omega
    rcases c with c | c
    · rw [c, Int.natCast_zero, Int.zero_mul]; omega
    · rw [c, Int.natCast_one, Int.one_mul]; omega
def fan (X Y : Nat → Int) (n t : Nat) (x y : Int) : Prop := ∃ T, T < t ∧ fsm X T n = x ∧ fsm Y T n = y
theorem t_gatherFan {h : ax_H} {a ab n : Nat} {X Y V : Nat → Int} (hR : rg_any h a) (hB : bo_at h ab X Y V n) (ho : bo_ok X Y V n) (hd : ab + 4 ≤ a ∨ a + 4 ≤ ab) : ax_Mt MX3_gatherFan [rv a, rv ab] h (fun v h' => v = some (rv a) ∧ rg_of h' a (fan X Y n (2 ^ n)) ∧ ax_sm a (a + 4) h h') := by
  have hm := ax_sm.rf (lo := a) (hi := a + 4) h
  have hn := ho.1
  have hp := Nat.two_pow_pos n
  have hp7 : 2 ^ n ≤ 2 ^ 7 := Nat.pow_le_pow_right (by decide) hn
  have hp8 : 2 ^ 7 = 128 := rfl
  refine ax_ra (L0 := [some (rv a), some (rv ab), none, none, none, none]) rfl rfl (Or.inl ⟨_, rfl⟩) (Nat.le_of_ble_eq_true rfl) rfl ?_
  intro p9 l9 e9 R9 s9 m9 args9 below9 meth9 c9 b9 D9 dA9 Q9 C kr
  have inner : ∀ (T : Nat) (hh : ax_H), T < 2 ^ n → bo_at hh ab X Y V n → ax_G p9 l9 e9 R9 s9 m9 args9 below9 meth9 c9 b9 D9 dA9 MX3_gatherFan.2.2.1 h.length (ax_sz h) Q9 (74) ([some (rv a), some (rv ab), some (iv (T : Int)), some (iv (fsm X T n)), some (iv (fsm Y T n)), some (iv (n : Int))]) ([]) (hh) → ∀ (d k : Nat), k + d = n → ax_G p9 l9 e9 R9 s9 m9 args9 below9 meth9 c9 b9 D9 dA9 MX3_gatherFan.2.2.1 h.length (ax_sz h) Q9 (23) ([some (rv a), some (rv ab), some (iv (T : Int)), some (iv (fsm X T k)), some (iv (fsm Y T k)), some (iv (k : Int))]) ([]) (hh) := by
    intro T hh hT hB K d
    have ⟨k0, k1, k2, k3⟩ := hB
    induction d with
    | zero =>
      intro k hk
      have e9 : k = n := by omega
      subst e9
      refine g_iload C dX3_gatherFan_23 rfl ?_
      refine g_aload_n C dX3_gatherFan_25 rfl ?_
      refine g_get C FX3_25 dX3_gatherFan_26 (by assumption) rfl ?_
      refine g_icmp_ge C dX3_gatherFan_29 (tgt := 74) (by decide) (by omega) (by omega) (fun h29 => ?_) (fun h29 => ?_)
      · exact K
      · exfalso; omega
    | succ d ih =>
      intro k hk
      refine g_iload C dX3_gatherFan_23 rfl ?_
      refine g_aload_n C dX3_gatherFan_25 rfl ?_
      refine g_get C FX3_25 dX3_gatherFan_26 (by assumption) rfl ?_
      refine g_icmp_ge C dX3_gatherFan_29 (tgt := 74) (by decide) (by omega) (by omega) (fun h29 => ?_) (fun h29 => ?_)
      · exfalso; omega
      · refine g_iload_n C dX3_gatherFan_32 rfl ?_
        refine g_iload_n C dX3_gatherFan_33 rfl ?_
        refine g_iload C dX3_gatherFan_34 rfl ?_
        refine g_ishr C dX3_gatherFan_36 (by omega) (by omega) ?_
        refine g_iconst C dX3_gatherFan_37 ?_
        refine g_iand C dX3_gatherFan_38 ax_bit ?_
        refine g_aload_n C dX3_gatherFan_39 rfl ?_
        refine g_get C FX3_28 dX3_gatherFan_40 (by assumption) rfl ?_
        refine g_iload C dX3_gatherFan_43 rfl ?_
        refine g_iald C dX3_gatherFan_45 (by assumption) rfl (by omega) (by decide) ?_
        refine g_imul C dX3_gatherFan_46 ?_
        refine g_iadd C dX3_gatherFan_47 ?_
        refine g_istore_n C dX3_gatherFan_48 (by decide) rfl ?_
        dsimp only [List.set]
        refine g_iload C dX3_gatherFan_49 rfl ?_
        refine g_iload_n C dX3_gatherFan_51 rfl ?_
        refine g_iload C dX3_gatherFan_52 rfl ?_
        refine g_ishr C dX3_gatherFan_54 (by omega) (by omega) ?_
        refine g_iconst C dX3_gatherFan_55 ?_
        refine g_iand C dX3_gatherFan_56 ax_bit ?_
        refine g_aload_n C dX3_gatherFan_57 rfl ?_
        refine g_get C FX3_31 dX3_gatherFan_58 (by assumption) rfl ?_
        refine g_iload C dX3_gatherFan_61 rfl ?_
        refine g_iald C dX3_gatherFan_63 (by assumption) rfl (by omega) (by decide) ?_
        refine g_imul C dX3_gatherFan_64 ?_
        refine g_iadd C dX3_gatherFan_65 ?_
        refine g_istore C dX3_gatherFan_66 (by decide) rfl ?_
        dsimp only [List.set]
        refine g_iinc C dX3_gatherFan_68 (by decide) rfl rfl ?_
        dsimp only [List.set]
        refine g_goto C dX3_gatherFan_71 (tgt := 23) (by decide) ?_
        exact ih (k + 1) (by omega)
  have outer : ∀ (d T : Nat) (hh : ax_H) (x3 x4 x5 : Option ax_V), T + d = 2 ^ n → rg_pre hh a (fan X Y n T) T → ax_sm a (a + 4) h hh → ax_G p9 l9 e9 R9 s9 m9 args9 below9 meth9 c9 b9 D9 dA9 MX3_gatherFan.2.2.1 h.length (ax_sz h) Q9 (7) ([some (rv a), some (rv ab), some (iv (T : Int)), x3, x4, x5]) ([]) (hh) := by
    intro d
    induction d with
    | zero =>
      intro T hh x3 x4 x5 hT hP hm
      obtain ⟨fs, hf⟩ := hP.ob
      have hB := hB.sm hm hd
      have ⟨k0, k1, k2, k3⟩ := hB
      have e9 : T = 2 ^ n := by omega
      subst e9
      refine g_iload_n C dX3_gatherFan_7 rfl ?_
      refine g_aload_n C dX3_gatherFan_8 rfl ?_
      refine g_V C (t_all hB hn) dX3_gatherFan_9 KX0_all LX3_42 IX0_all VX0_all (by decide) rfl (by assumption) rfl rfl rfl (Nat.le_of_ble_eq_true rfl) ⟨rfl, rfl⟩ ?_
      dsimp only [Option.toList, List.cons_append, List.nil_append]
      refine g_icmp_gt C dX3_gatherFan_12 (tgt := 87) (by decide) (by omega) (by omega) (fun h12 => ?_) (fun h12 => ?_)
      · refine g_aload_n C dX3_gatherFan_87 rfl ?_
        refine g_RV C (t_fc hP (by omega)) dX3_gatherFan_88 KX3_findCorners LX3_38 IX3_findCorners VX3_findCorners (by decide) rfl (by assumption) rfl rfl rfl (Nat.le_of_ble_eq_true rfl) ?_
        intro r1 h1 hP1 hz1
        obtain ⟨rfl, hR, hm1⟩ := hP1
        dsimp only [Option.toList, List.cons_append, List.nil_append]
        exact kr _ _ _ _ dX3_gatherFan_91 ⟨rfl, hR, hm.tr hm1⟩ (hm.tr hm1).1
      · exfalso; omega
    | succ d ih =>
      intro T hh x3 x4 x5 hT hP hm
      obtain ⟨fs, hf⟩ := hP.ob
      have hB9 := hB.sm hm hd
      have ⟨k0, k1, k2, k3⟩ := hB9
      have f1 := fsm_in (X := X) (T := T) n (fun j hj => (ho.2 j hj).1)
      have f2 := fsm_in (X := Y) (T := T) n (fun j hj => (ho.2 j hj).2.1)
      refine g_iload_n C dX3_gatherFan_7 rfl ?_
      refine g_aload_n C dX3_gatherFan_8 rfl ?_
      refine g_V C (t_all hB9 hn) dX3_gatherFan_9 KX0_all LX3_42 IX0_all VX0_all (by decide) rfl (by assumption) rfl rfl rfl (Nat.le_of_ble_eq_true rfl) ⟨rfl, rfl⟩ ?_
      dsimp only [Option.toList, List.cons_append, List.nil_append]
      refine g_icmp_gt C dX3_gatherFan_12 (tgt := 87) (by decide) (by omega) (by omega) (fun h12 => ?_) (fun h12 => ?_)
      · exfalso; omega
      · refine g_iconst C dX3_gatherFan_15 ?_
        refine g_istore_n C dX3_gatherFan_16 (by decide) rfl ?_
        dsimp only [List.set]
        refine g_iconst C dX3_gatherFan_17 ?_
        refine g_istore C dX3_gatherFan_18 (by decide) rfl ?_
        dsimp only [List.set]
        refine g_iconst C dX3_gatherFan_20 ?_
        refine g_istore C dX3_gatherFan_21 (by decide) rfl ?_
        dsimp only [List.set]
        refine inner T hh (by omega) hB9 ?_ n 0 (by omega)
        refine g_aload_n C dX3_gatherFan_74 rfl ?_
        refine g_iload_n C dX3_gatherFan_75 rfl ?_
        refine g_iload C dX3_gatherFan_76 rfl ?_
        refine g_RV C (t_inc hP (by omega) (show 0 ≤ fsm X T n ∧ fsm X T n ≤ 84 by omega) (show 0 ≤ fsm Y T n ∧ fsm Y T n ≤ 84 by omega)) dX3_gatherFan_78 KX3_include LX3_34 IX3_include VX3_include (by decide) rfl hf rfl rfl rfl (by decide) ?_
        rintro r1 h1 ⟨rfl, hP, hm1⟩ hz1
        dsimp only [Option.toList, List.cons_append, List.nil_append]
        refine g_iinc C dX3_gatherFan_81 (by decide) rfl rfl ?_
        dsimp only [List.set]
        refine g_goto C dX3_gatherFan_84 (tgt := 7) (by decide) ?_
        refine ih (T + 1) _ _ _ _ (by omega) (hP.eqv (fun x y => ⟨fun q => q.elim (fun ⟨z, z1, z2⟩ => ⟨z, by omega, z2⟩) (fun z => ⟨T, by omega, z.1.symm, z.2.symm⟩), fun ⟨z, z1, z2⟩ => ?_⟩) (by omega)) (hm.tr hm1)
        by_cases c : z = T
        · subst c; exact Or.inr ⟨z2.1.symm, z2.2.symm⟩
        · exact Or.inl ⟨z, by omega, z2⟩
  obtain ⟨xs, ys, sz, rd, cn, hR⟩ := hR
  have ⟨h0, h1, h2, h3⟩ := hR
  refine g_aload_n C dX3_gatherFan_0 rfl ?_
  refine g_iconst C dX3_gatherFan_1 ?_
  refine g_put C FX3_21 dX3_gatherFan_2 (by assumption) rfl rfl (Nat.le_of_ble_eq_true rfl) ?_
  dsimp only [List.set]
  refine rg_s_sz 0 rfl hR hm ?_
  intro h9 hR hm
  refine g_iconst C dX3_gatherFan_5 ?_
  refine g_istore_n C dX3_gatherFan_6 (by decide) rfl ?_
  dsimp only [List.set]
  exact outer (2 ^ n) 0 _ none none none (by omega) ((rg_pre0 hR).eqv (fun x y => ⟨fun q => q.elim, fun ⟨k, hk, _⟩ => by omega⟩) (Nat.le_refl _)) hm
end
section
/-! what a gathered Region answers -/
theorem nxi_lt {cn i : Nat} (h : i < cn) : nxi cn i < cn := by unfold nxi; split <;> omega
theorem t_hasCorner {h : ax_H} {a : Nat} {S : Int → Int → Prop} (H : rg_of h a S) {k : Int} (hk : -2147483648 ≤ k ∧ k < 2147483648) : ax_Met MX3_hasCorner [rv a, iv k] h (some (iv (if 0 ≤ k ∧ k < ((hC S).1 : Int) then 1 else 0))) h := by
  obtain ⟨xs, ys, sz, rd, cn, r, hR, hr, hz, hc, hrd, e1, e2, e3, hh⟩ := H.use
  obtain ⟨h0, h1, h2, h3⟩ := hR
  rw [← e2]
  refine ax_mz (L0 := [some (rv a), some (iv k)]) rfl rfl (Nat.le_refl _) (Nat.le_refl _) (Nat.le_of_ble_eq_true rfl) rfl ?_
  intro p9 l9 e9 R9 s9 m9 args9 below9 meth9 c9 b9 D9 dA9 Q9 C kr
  refine g_iload_n C dX3_hasCorner_0 rfl ?_
  refine g_if_lt C dX3_hasCorner_1 (tgt := 16) (by decide) (by omega) (fun h1 => ?_) (fun h1 => ?_)
  · refine g_iconst C dX3_hasCorner_16 ?_
    first | exact kr _ _ _ dX3_hasCorner_17 (Or.inr rfl) (by rw [if_pos (by omega)]) | exact kr _ _ _ dX3_hasCorner_17 (Or.inl rfl) (by rw [if_neg (by omega)])
  · refine g_iload_n C dX3_hasCorner_4 rfl ?_
    refine g_aload_n C dX3_hasCorner_5 rfl ?_
    refine g_get C FX3_50 dX3_hasCorner_6 (by assumption) rfl ?_
    refine g_icmp_ge C dX3_hasCorner_9 (tgt := 16) (by decide) (by omega) (by omega) (fun h9 => ?_) (fun h9 => ?_)
    · refine g_iconst C dX3_hasCorner_16 ?_
      first | exact kr _ _ _ dX3_hasCorner_17 (Or.inr rfl) (by rw [if_pos (by omega)]) | exact kr _ _ _ dX3_hasCorner_17 (Or.inl rfl) (by rw [if_neg (by omega)])
    · refine g_iconst C dX3_hasCorner_12 ?_
      refine g_goto C dX3_hasCorner_13 (tgt := 17) (by decide) ?_
      first | exact kr _ _ _ dX3_hasCorner_17 (Or.inr rfl) (by rw [if_pos (by omega)]) | exact kr _ _ _ dX3_hasCorner_17 (Or.inl rfl) (by rw [if_neg (by omega)])
theorem t_cornerX {h : ax_H} {a k : Nat} {S : Int → Int → Prop} (H : rg_of h a S) (hk : k < (hC S).1) : ax_Met MX3_cornerX [rv a, iv (k : Int)] h (some (iv ((hC S).2.1 k))) h := by
  obtain ⟨xs, ys, sz, rd, cn, r, hR, hr, hz, hc, hrd, e1, e2, e3, hh⟩ := H.use
  have ⟨h0, h1, h2, h3⟩ := hR
  have q := hrd k (by omega)
  rw [← (e3 k (by omega)).1]
  refine ax_mi (L0 := [some (rv a), some (iv (k : Int))]) rfl rfl (Nat.le_refl _) (Nat.le_refl _) (Nat.le_of_ble_eq_true rfl) rfl ?_
  intro p9 l9 e9 R9 s9 m9 args9 below9 meth9 c9 b9 D9 dA9 Q9 C kr
  refine g_aload_n C dX3_cornerX_0 rfl ?_
  refine g_iload_n C dX3_cornerX_1 rfl ?_
  refine g_V C (t_hasCorner H (k := (k : Int)) (by omega)) dX3_cornerX_2 KX3_hasCorner LX3_59 IX3_hasCorner VX3_hasCorner (by decide) rfl (by assumption) rfl rfl rfl (Nat.le_of_ble_eq_true rfl) ⟨rfl, rfl⟩ ?_
  dsimp only [Option.toList, List.cons_append, List.nil_append]
  rw [if_pos (show 0 ≤ (k : Int) ∧ (k : Int) < ((hC S).1 : Int) by omega)]
  refine g_if_eq C dX3_cornerX_5 (tgt := 22) (by decide) (by omega) (fun h5 => ?_) (fun h5 => ?_)
  · exact absurd h5 (by decide)
  · refine g_aload_n C dX3_cornerX_8 rfl ?_
    refine g_get C FX3_11 dX3_cornerX_9 (by assumption) rfl ?_
    refine g_aload_n C dX3_cornerX_12 rfl ?_
    refine g_get C FX3_18 dX3_cornerX_13 (by assumption) rfl ?_
    refine g_iload_n C dX3_cornerX_16 rfl ?_
    refine g_iald C dX3_cornerX_17 (by assumption) rfl (by omega) (by decide) ?_
    rw [q.1]
    refine g_iald C dX3_cornerX_18 (by assumption) rfl (by omega) (by decide) ?_
    refine g_goto C dX3_cornerX_19 (tgt := 23) (by decide) ?_
    exact kr _ _ _ dX3_cornerX_23 rfl
theorem t_cornerY {h : ax_H} {a k : Nat} {S : Int → Int → Prop} (H : rg_of h a S) (hk : k < (hC S).1) : ax_Met MX3_cornerY [rv a, iv (k : Int)] h (some (iv ((hC S).2.2 k))) h := by
  obtain ⟨xs, ys, sz, rd, cn, r, hR, hr, hz, hc, hrd, e1, e2, e3, hh⟩ := H.use
  have ⟨h0, h1, h2, h3⟩ := hR
  have q := hrd k (by omega)
  rw [← (e3 k (by omega)).2]
  refine ax_mi (L0 := [some (rv a), some (iv (k : Int))]) rfl rfl (Nat.le_refl _) (Nat.le_refl _) (Nat.le_of_ble_eq_true rfl) rfl ?_
  intro p9 l9 e9 R9 s9 m9 args9 below9 meth9 c9 b9 D9 dA9 Q9 C kr
  refine g_aload_n C dX3_cornerY_0 rfl ?_
  refine g_iload_n C dX3_cornerY_1 rfl ?_
  refine g_V C (t_hasCorner H (k := (k : Int)) (by omega)) dX3_cornerY_2 KX3_hasCorner LX3_59 IX3_hasCorner VX3_hasCorner (by decide) rfl (by assumption) rfl rfl rfl (Nat.le_of_ble_eq_true rfl) ⟨rfl, rfl⟩ ?_
  dsimp only [Option.toList, List.cons_append, List.nil_append]
  rw [if_pos (show 0 ≤ (k : Int) ∧ (k : Int) < ((hC S).1 : Int) by omega)]
  refine g_if_eq C dX3_cornerY_5 (tgt := 22) (by decide) (by omega) (fun h5 => ?_) (fun h5 => ?_)
  · exact absurd h5 (by decide)
  · refine g_aload_n C dX3_cornerY_8 rfl ?_
    refine g_get C FX3_15 dX3_cornerY_9 (by assumption) rfl ?_
    refine g_aload_n C dX3_cornerY_12 rfl ?_
    refine g_get C FX3_18 dX3_cornerY_13 (by assumption) rfl ?_
    refine g_iload_n C dX3_cornerY_16 rfl ?_
    refine g_iald C dX3_cornerY_17 (by assumption) rfl (by omega) (by decide) ?_
    rw [q.1]
    refine g_iald C dX3_cornerY_18 (by assumption) rfl (by omega) (by decide) ?_
    refine g_goto C dX3_cornerY_19 (tgt := 23) (by decide) ?_
    exact kr _ _ _ dX3_cornerY_23 rfl
theorem t_next {h : ax_H} {a k : Nat} {S : Int → Int → Prop} (H : rg_of h a S) (hk : k < (hC S).1) : ax_Met MX3_next [rv a, iv (k : Int)] h (some (iv (nxi (hC S).1 k : Int))) h := by
  obtain ⟨xs, ys, sz, rd, cn, r, hR, hr, hz, hc, hrd, e1, e2, e3, hh⟩ := H.use
  have ⟨h0, h1, h2, h3⟩ := hR
  rw [← e2] at hk ⊢
  unfold nxi
  refine ax_mi (L0 := [some (rv a), some (iv (k : Int))]) rfl rfl (Nat.le_refl _) (Nat.le_refl _) (Nat.le_of_ble_eq_true rfl) rfl ?_
  intro p9 l9 e9 R9 s9 m9 args9 below9 meth9 c9 b9 D9 dA9 Q9 C kr
  refine g_iload_n C dX3_next_0 rfl ?_
  refine g_iconst C dX3_next_1 ?_
  refine g_iadd C dX3_next_2 ?_
  refine g_aload_n C dX3_next_3 rfl ?_
  refine g_get C FX3_50 dX3_next_4 (by assumption) rfl ?_
  refine g_icmp_ge C dX3_next_7 (tgt := 16) (by decide) (by omega) (by omega) (fun h7 => ?_) (fun h7 => ?_)
  · refine g_iconst C dX3_next_16 ?_
    first | exact kr _ _ _ dX3_next_17 (by rw [if_pos (by omega)]; rfl) | exact kr _ _ _ dX3_next_17 (by rw [if_neg (by omega)]; rfl)
  · refine g_iload_n C dX3_next_10 rfl ?_
    refine g_iconst C dX3_next_11 ?_
    refine g_iadd C dX3_next_12 ?_
    refine g_goto C dX3_next_13 (tgt := 17) (by decide) ?_
    first | exact kr _ _ _ dX3_next_17 (by rw [if_pos (by omega)]; rfl) | exact kr _ _ _ dX3_next_17 (by rw [if_neg (by omega)]; rfl)
theorem t_area {h : ax_H} {a : Nat} {S : Int → Int → Prop} (H : rg_of h a S) : ax_Met MX3_area [rv a] h (some (iv (hA S))) h := by
  obtain ⟨xs, ys, sz, rd, cn, r, hR, hr, hz, hc, hrd, e1, e2, e3, hh⟩ := H.use
  have ⟨h0, h1, h2, h3⟩ := hR
  refine ax_mi (L0 := [some (rv a), none, none, none]) rfl rfl (Nat.le_refl _) (Nat.le_refl _) (Nat.le_of_ble_eq_true rfl) rfl ?_
  intro p9 l9 e9 R9 s9 m9 args9 below9 meth9 c9 b9 D9 dA9 Q9 C kr
  have loop : ∀ (d i : Nat) (x3 : Option ax_V), i + d = cn → ax_G p9 l9 e9 R9 s9 m9 args9 below9 meth9 c9 b9 D9 dA9 MX3_area.2.2.1 h.length (ax_sz h) Q9 (4) ([some (rv a), some (iv (arS (hC S).2.1 (hC S).2.2 (hC S).1 i)), some (iv (i : Int)), x3]) ([]) (h) := by
    intro d
    induction d with
    | zero =>
      intro i x3 hi
      refine g_iload_n C dX3_area_4 rfl ?_
      refine g_aload_n C dX3_area_5 rfl ?_
      refine g_get C FX3_50 dX3_area_6 (by assumption) rfl ?_
      refine g_icmp_ge C dX3_area_9 (tgt := 50) (by decide) (by omega) (by omega) (fun h9 => ?_) (fun h9 => ?_)
      · refine g_iload_n C dX3_area_50 rfl ?_
        exact kr _ _ _ dX3_area_51 (by unfold hA; rw [show (hC S).1 = i by omega])
      · exfalso; omega
    | succ d ih =>
      intro i x3 hi
      have hn := nxi_lt (show i < (hC S).1 by omega)
      refine g_iload_n C dX3_area_4 rfl ?_
      refine g_aload_n C dX3_area_5 rfl ?_
      refine g_get C FX3_50 dX3_area_6 (by assumption) rfl ?_
      refine g_icmp_ge C dX3_area_9 (tgt := 50) (by decide) (by omega) (by omega) (fun h9 => ?_) (fun h9 => ?_)
      · exfalso; omega
      · refine g_aload_n C dX3_area_12 rfl ?_
        refine g_iload_n C dX3_area_13 rfl ?_
        refine g_V C (t_next H (show i < (hC S).1 by omega)) dX3_area_14 KX3_next LX3_63 IX3_next VX3_next (by decide) rfl (by assumption) rfl rfl rfl (Nat.le_of_ble_eq_true rfl) ⟨rfl, rfl⟩ ?_
        dsimp only [Option.toList, List.cons_append, List.nil_append]
        refine g_istore_n C dX3_area_17 (by decide) rfl ?_
        dsimp only [List.set]
        refine g_iload_n C dX3_area_18 rfl ?_
        refine g_aload_n C dX3_area_19 rfl ?_
        refine g_iload_n C dX3_area_20 rfl ?_
        refine g_V C (t_cornerX H (show i < (hC S).1 by omega)) dX3_area_21 KX3_cornerX LX3_67 IX3_cornerX VX3_cornerX (by decide) rfl (by assumption) rfl rfl rfl (Nat.le_of_ble_eq_true rfl) ⟨rfl, rfl⟩ ?_
        dsimp only [Option.toList, List.cons_append, List.nil_append]
        refine g_aload_n C dX3_area_24 rfl ?_
        refine g_iload_n C dX3_area_25 rfl ?_
        refine g_V C (t_cornerY H hn) dX3_area_26 KX3_cornerY LX3_70 IX3_cornerY VX3_cornerY (by decide) rfl (by assumption) rfl rfl rfl (Nat.le_of_ble_eq_true rfl) ⟨rfl, rfl⟩ ?_
        dsimp only [Option.toList, List.cons_append, List.nil_append]
        refine g_imul C dX3_area_29 ?_
        refine g_aload_n C dX3_area_30 rfl ?_
        refine g_iload_n C dX3_area_31 rfl ?_
        refine g_V C (t_cornerX H hn) dX3_area_32 KX3_cornerX LX3_67 IX3_cornerX VX3_cornerX (by decide) rfl (by assumption) rfl rfl rfl (Nat.le_of_ble_eq_true rfl) ⟨rfl, rfl⟩ ?_
        dsimp only [Option.toList, List.cons_append, List.nil_append]
        refine g_aload_n C dX3_area_35 rfl ?_
        refine g_iload_n C dX3_area_36 rfl ?_
        refine g_V C (t_cornerY H (show i < (hC S).1 by omega)) dX3_area_37 KX3_cornerY LX3_70 IX3_cornerY VX3_cornerY (by decide) rfl (by assumption) rfl rfl rfl (Nat.le_of_ble_eq_true rfl) ⟨rfl, rfl⟩ ?_
        dsimp only [Option.toList, List.cons_append, List.nil_append]
        refine g_imul C dX3_area_40 ?_
        refine g_isub C dX3_area_41 ?_
        refine g_iadd C dX3_area_42 ?_
        refine g_istore_n C dX3_area_43 (by decide) rfl ?_
        dsimp only [List.set]
        refine g_iinc C dX3_area_44 (by decide) rfl rfl ?_
        dsimp only [List.set]
        refine g_goto C dX3_area_47 (tgt := 4) (by decide) ?_
        exact ih (i + 1) _ (by omega)
  refine g_iconst C dX3_area_0 ?_
  refine g_istore_n C dX3_area_1 (by decide) rfl ?_
  dsimp only [List.set]
  refine g_iconst C dX3_area_2 ?_
  refine g_istore_n C dX3_area_3 (by decide) rfl ?_
  dsimp only [List.set]
  exact loop cn 0 none (by omega)
noncomputable def hS (S : Int → Int → Prop) : Int := if (hC S).1 = 0 then -6 else (if 3 < ((hC S).1 : Int) then 3 else ((hC S).1 : Int)) - 1
theorem t_span {h : ax_H} {a : Nat} {S : Int → Int → Prop} (H : rg_of h a S) : ax_Met MX3_span [rv a] h (some (iv (hS S))) h := by
  obtain ⟨xs, ys, sz, rd, cn, r, hR, hr, hz, hc, hrd, e1, e2, e3, hh⟩ := H.use
  have ⟨h0, h1, h2, h3⟩ := hR
  unfold hS
  rw [← e2]
  refine ax_mi (L0 := [some (rv a)]) rfl rfl (Nat.le_refl _) (Nat.le_refl _) (Nat.le_of_ble_eq_true rfl) rfl ?_
  intro p9 l9 e9 R9 s9 m9 args9 below9 meth9 c9 b9 D9 dA9 Q9 C kr
  refine g_aload_n C dX3_span_0 rfl ?_
  refine g_get C FX3_50 dX3_span_1 (by assumption) rfl ?_
  refine g_if_ne C dX3_span_4 (tgt := 12) (by decide) (by omega) (fun h4 => ?_) (fun h4 => ?_)
  · refine g_aload_n C dX3_span_12 rfl ?_
    refine g_get C FX3_50 dX3_span_13 (by assumption) rfl ?_
    refine g_iconst C dX3_span_16 ?_
    refine g_mmin C dX3_span_17 LX3_73 (by decide) (Nat.le_of_ble_eq_true rfl) (by omega) (by omega) ?_
    refine g_iconst C dX3_span_20 ?_
    refine g_isub C dX3_span_21 ?_
    first | exact kr _ _ _ dX3_span_22 (by rw [if_neg (by omega)]) | exact kr _ _ _ dX3_span_22 (by rw [if_pos (by omega)])
  · refine g_bipush C dX3_span_7 (by decide) ?_
    refine g_goto C dX3_span_9 (tgt := 22) (by decide) ?_
    first | exact kr _ _ _ dX3_span_22 (by rw [if_neg (by omega)]) | exact kr _ _ _ dX3_span_22 (by rw [if_pos (by omega)])
/-! the way round, in whole steps -/
def stS (cx cy : Nat → Int) (cn : Nat) : Nat → Nat
  | 0 => 0
  | i + 1 => stS cx cy cn i + Nat.gcd (cx (nxi cn i) - cx i).natAbs (cy (nxi cn i) - cy i).natAbs
noncomputable def hG (S : Int → Int → Prop) : Nat := stS (hC S).2.1 (hC S).2.2 (hC S).1 (hC S).1
theorem ax_abs (x : Int) : (if 0 ≤ x then x else -x) = (x.natAbs : Int) := by split <;> omega
theorem rg_of.cr {h : ax_H} {a : Nat} {S : Int → Int → Prop} (H : rg_of h a S) : (hC S).1 ≤ 256 ∧ ∀ e, e < (hC S).1 → (0 ≤ (hC S).2.1 e ∧ (hC S).2.1 e ≤ 84) ∧ (0 ≤ (hC S).2.2 e ∧ (hC S).2.2 e ≤ 84) := by
  obtain ⟨xs, ys, sz, rd, cn, r, hR, hr, hz, hc, hrd, e1, e2, e3, hh⟩ := H.use
  refine ⟨by omega, fun e he => ?_⟩
  have := hr (r e) (hrd e (by omega)).2
  rw [(e3 e (by omega)).1, (e3 e (by omega)).2] at this
  exact this
theorem t_stepsRound {h : ax_H} {a : Nat} {S : Int → Int → Prop} (H : rg_of h a S) : ax_Met MX3_stepsRound [rv a] h (some (iv (hG S : Int))) h := by
  have hcr := H.cr
  obtain ⟨xs, ys, sz, rd, cn, r, hR, hr, hz, hc, hrd, e1, e2, e3, hh⟩ := H.use
  have ⟨h0, h1, h2, h3⟩ := hR
  refine ax_mi (L0 := [some (rv a), none, none, none, none]) rfl rfl (Nat.le_refl _) (Nat.le_refl _) (Nat.le_of_ble_eq_true rfl) rfl ?_
  intro p9 l9 e9 R9 s9 m9 args9 below9 meth9 c9 b9 D9 dA9 Q9 C kr
  have loop : ∀ (d i : Nat) (x3 x4 : Option ax_V), i + d = cn → ax_G p9 l9 e9 R9 s9 m9 args9 below9 meth9 c9 b9 D9 dA9 MX3_stepsRound.2.2.1 h.length (ax_sz h) Q9 (4) ([some (rv a), some (iv (stS (hC S).2.1 (hC S).2.2 (hC S).1 i : Int)), some (iv (i : Int)), x3, x4]) ([]) (h) := by
    intro d
    induction d with
    | zero =>
      intro i x3 x4 hi
      refine g_iload_n C dX3_stepsRound_4 rfl ?_
      refine g_aload_n C dX3_stepsRound_5 rfl ?_
      refine g_get C FX3_50 dX3_stepsRound_6 (by assumption) rfl ?_
      refine g_icmp_ge C dX3_stepsRound_9 (tgt := 66) (by decide) (by omega) (by omega) (fun h9 => ?_) (fun h9 => ?_)
      · refine g_iload_n C dX3_stepsRound_66 rfl ?_
        exact kr _ _ _ dX3_stepsRound_67 (by unfold hG; rw [show (hC S).1 = i by omega])
      · exfalso; omega
    | succ d ih =>
      intro i x3 x4 hi
      have hi2 : i < (hC S).1 := by omega
      have hn := nxi_lt hi2
      have b1 := hcr.2 i hi2
      have b2 := hcr.2 _ hn
      refine g_iload_n C dX3_stepsRound_4 rfl ?_
      refine g_aload_n C dX3_stepsRound_5 rfl ?_
      refine g_get C FX3_50 dX3_stepsRound_6 (by assumption) rfl ?_
      refine g_icmp_ge C dX3_stepsRound_9 (tgt := 66) (by decide) (by omega) (by omega) (fun h9 => ?_) (fun h9 => ?_)
      · exfalso; omega
      · refine g_aload_n C dX3_stepsRound_12 rfl ?_
        refine g_aload_n C dX3_stepsRound_13 rfl ?_
        refine g_iload_n C dX3_stepsRound_14 rfl ?_
        refine g_V C (t_next H hi2) dX3_stepsRound_15 KX3_next LX3_63 IX3_next VX3_next (by decide) rfl (by assumption) rfl rfl rfl (Nat.le_of_ble_eq_true rfl) ⟨rfl, rfl⟩ ?_
        dsimp only [Option.toList, List.cons_append, List.nil_append]
        refine g_V C (t_cornerX H hn) dX3_stepsRound_18 KX3_cornerX LX3_67 IX3_cornerX VX3_cornerX (by decide) rfl (by assumption) rfl rfl rfl (Nat.le_of_ble_eq_true rfl) ⟨rfl, rfl⟩ ?_
        dsimp only [Option.toList, List.cons_append, List.nil_append]
        refine g_aload_n C dX3_stepsRound_21 rfl ?_
        refine g_iload_n C dX3_stepsRound_22 rfl ?_
        refine g_V C (t_cornerX H hi2) dX3_stepsRound_23 KX3_cornerX LX3_67 IX3_cornerX VX3_cornerX (by decide) rfl (by assumption) rfl rfl rfl (Nat.le_of_ble_eq_true rfl) ⟨rfl, rfl⟩ ?_
        dsimp only [Option.toList, List.cons_append, List.nil_append]
        refine g_isub C dX3_stepsRound_26 ?_
        refine g_mabs C dX3_stepsRound_27 LX3_79 (by decide) (Nat.le_of_ble_eq_true rfl) (by omega) ?_
        refine g_top (ax_abs _) ?_
        refine g_istore_n C dX3_stepsRound_30 (by decide) rfl ?_
        dsimp only [List.set]
        refine g_aload_n C dX3_stepsRound_31 rfl ?_
        refine g_aload_n C dX3_stepsRound_32 rfl ?_
        refine g_iload_n C dX3_stepsRound_33 rfl ?_
        refine g_V C (t_next H hi2) dX3_stepsRound_34 KX3_next LX3_63 IX3_next VX3_next (by decide) rfl (by assumption) rfl rfl rfl (Nat.le_of_ble_eq_true rfl) ⟨rfl, rfl⟩ ?_
        dsimp only [Option.toList, List.cons_append, List.nil_append]
        refine g_V C (t_cornerY H hn) dX3_stepsRound_37 KX3_cornerY LX3_70 IX3_cornerY VX3_cornerY (by decide) rfl (by assumption) rfl rfl rfl (Nat.le_of_ble_eq_true rfl) ⟨rfl, rfl⟩ ?_
        dsimp only [Option.toList, List.cons_append, List.nil_append]
        refine g_aload_n C dX3_stepsRound_40 rfl ?_
        refine g_iload_n C dX3_stepsRound_41 rfl ?_
        refine g_V C (t_cornerY H hi2) dX3_stepsRound_42 KX3_cornerY LX3_70 IX3_cornerY VX3_cornerY (by decide) rfl (by assumption) rfl rfl rfl (Nat.le_of_ble_eq_true rfl) ⟨rfl, rfl⟩ ?_
        dsimp only [Option.toList, List.cons_append, List.nil_append]
        refine g_isub C dX3_stepsRound_45 ?_
        refine g_mabs C dX3_stepsRound_46 LX3_79 (by decide) (Nat.le_of_ble_eq_true rfl) (by omega) ?_
        refine g_top (ax_abs _) ?_
        refine g_istore C dX3_stepsRound_49 (by decide) rfl ?_
        dsimp only [List.set]
        refine g_iload_n C dX3_stepsRound_51 rfl ?_
        refine g_iload_n C dX3_stepsRound_52 rfl ?_
        refine g_iload C dX3_stepsRound_53 rfl ?_
        refine g_SN C (t_commonDivisor (by omega) (by omega)) dX3_stepsRound_55 KX4_commonDivisor LX3_82 SX4_commonDivisor (by decide) rfl rfl (Nat.le_of_ble_eq_true rfl) ⟨rfl, rfl⟩ ?_
        dsimp only [Option.toList, List.cons_append, List.nil_append]
        refine g_iadd C dX3_stepsRound_58 ?_
        refine g_istore_n C dX3_stepsRound_59 (by decide) rfl ?_
        dsimp only [List.set]
        refine g_iinc C dX3_stepsRound_60 (by decide) rfl rfl ?_
        dsimp only [List.set]
        refine g_goto C dX3_stepsRound_63 (tgt := 4) (by decide) ?_
        exact ih (i + 1) _ _ (by omega)
  refine g_iconst C dX3_stepsRound_0 ?_
  refine g_istore_n C dX3_stepsRound_1 (by decide) rfl ?_
  dsimp only [List.set]
  refine g_iconst C dX3_stepsRound_2 ?_
  refine g_istore_n C dX3_stepsRound_3 (by decide) rfl ?_
  dsimp only [List.set]
  exact loop cn 0 none none (by omega)
theorem arS_in {cx cy : Nat → Int} {cn : Nat} (hb : ∀ e, e < cn → (0 ≤ cx e ∧ cx e ≤ 84) ∧ (0 ≤ cy e ∧ cy e ≤ 84)) : ∀ i, i ≤ cn → -7056 * (i : Int) ≤ arS cx cy cn i ∧ arS cx cy cn i ≤ 7056 * i
  | 0, _ => by simp [arS]
  | i + 1, hi => by
    have a := arS_in hb i (by omega)
    have b1 := hb i (by omega)
    have b2 := hb _ (nxi_lt (show i < cn by omega))
    have m1 := mb (u := cx i) (x := cy (nxi cn i)) (U := 84) (M := 84) (by omega) (by omega)
    have m2 := mb (u := cx (nxi cn i)) (x := cy i) (U := 84) (M := 84) (by omega) (by omega)
    have m3 := Int.mul_nonneg b1.1.1 b2.2.1
    have m4 := Int.mul_nonneg b2.1.1 b1.2.1
    rw [arS]
    omega
theorem stS_in {cx cy : Nat → Int} {cn : Nat} (hb : ∀ e, e < cn → (0 ≤ cx e ∧ cx e ≤ 84) ∧ (0 ≤ cy e ∧ cy e ≤ 84)) : ∀ i, i ≤ cn → stS cx cy cn i ≤ 168 * i
  | 0, _ => by simp [stS]
  | i + 1, hi => by
    have a := stS_in hb i (by omega)
    have b1 := hb i (by omega)
    have b2 := hb _ (nxi_lt (show i < cn by omega))
    rw [stS]
    generalize e1 : (cx (nxi cn i) - cx i).natAbs = u
    generalize e2 : (cy (nxi cn i) - cy i).natAbs = v
    have hu : u ≤ 84 := by omega
    have hv : v ≤ 84 := by omega
    have g : Nat.gcd u v ≤ u + v := by
      by_cases q : u = 0
      · subst q; rw [Nat.gcd_zero_left]; omega
      · have := Nat.gcd_le_left v (show 0 < u by omega); omega
    omega
noncomputable def hW (S : Int → Int → Prop) : Int := if (hC S).1 = 0 then 0 else (hA S + hG S).tdiv 2 + 1
noncomputable def hB (S : Int → Int → Prop) : Int := if (hC S).1 < 3 then hW S else hG S
theorem t_wholePoints {h : ax_H} {a : Nat} {S : Int → Int → Prop} (H : rg_of h a S) : ax_Met MX3_wholePoints [rv a] h (some (iv (hW S))) h := by
  have hcr := H.cr
  obtain ⟨xs, ys, sz, rd, cn, r, hR, hr, hz, hc, hrd, e1, e2, e3, hh⟩ := H.use
  have ⟨h0, h1, h2, h3⟩ := hR
  have b1 := arS_in hcr.2 (hC S).1 (Nat.le_refl _)
  have b2 := stS_in hcr.2 (hC S).1 (Nat.le_refl _)
  change -7056 * ((hC S).1 : Int) ≤ hA S ∧ hA S ≤ 7056 * ((hC S).1 : Int) at b1
  change hG S ≤ 168 * (hC S).1 at b2
  have b3 := hcr.1
  unfold hW
  refine ax_mi (L0 := [some (rv a)]) rfl rfl (Nat.le_refl _) (Nat.le_refl _) (Nat.le_of_ble_eq_true rfl) rfl ?_
  intro p9 l9 e9 R9 s9 m9 args9 below9 meth9 c9 b9 D9 dA9 Q9 C kr
  refine g_aload_n C dX3_wholePoints_0 rfl ?_
  refine g_get C FX3_50 dX3_wholePoints_1 (by assumption) rfl ?_
  refine g_if_ne C dX3_wholePoints_4 (tgt := 11) (by decide) (by omega) (fun h4 => ?_) (fun h4 => ?_)
  · refine g_aload_n C dX3_wholePoints_11 rfl ?_
    refine g_V C (t_area H) dX3_wholePoints_12 KX3_area LX3_85 IX3_area VX3_area (by decide) rfl (by assumption) rfl rfl rfl (Nat.le_of_ble_eq_true rfl) ⟨rfl, rfl⟩ ?_
    dsimp only [Option.toList, List.cons_append, List.nil_append]
    refine g_aload_n C dX3_wholePoints_15 rfl ?_
    refine g_V C (t_stepsRound H) dX3_wholePoints_16 KX3_stepsRound LX3_88 IX3_stepsRound VX3_stepsRound (by decide) rfl (by assumption) rfl rfl rfl (Nat.le_of_ble_eq_true rfl) ⟨rfl, rfl⟩ ?_
    dsimp only [Option.toList, List.cons_append, List.nil_append]
    refine g_iadd C dX3_wholePoints_19 ?_
    refine g_iconst C dX3_wholePoints_20 ?_
    refine g_idiv C dX3_wholePoints_21 (by omega) (by omega) (by omega) ?_
    refine g_iconst C dX3_wholePoints_22 ?_
    refine g_iadd C dX3_wholePoints_23 ?_
    first | exact kr _ _ _ dX3_wholePoints_24 (by rw [if_neg (by omega)]) | exact kr _ _ _ dX3_wholePoints_24 (by rw [if_pos (by omega)])
  · refine g_iconst C dX3_wholePoints_7 ?_
    refine g_goto C dX3_wholePoints_8 (tgt := 24) (by decide) ?_
    first | exact kr _ _ _ dX3_wholePoints_24 (by rw [if_neg (by omega)]) | exact kr _ _ _ dX3_wholePoints_24 (by rw [if_pos (by omega)])
theorem t_rimPoints {h : ax_H} {a : Nat} {S : Int → Int → Prop} (H : rg_of h a S) : ax_Met MX3_rimPoints [rv a] h (some (iv (hB S))) h := by
  obtain ⟨xs, ys, sz, rd, cn, r, hR, hr, hz, hc, hrd, e1, e2, e3, hh⟩ := H.use
  have ⟨h0, h1, h2, h3⟩ := hR
  unfold hB
  refine ax_mi (L0 := [some (rv a)]) rfl rfl (Nat.le_refl _) (Nat.le_refl _) (Nat.le_of_ble_eq_true rfl) rfl ?_
  intro p9 l9 e9 R9 s9 m9 args9 below9 meth9 c9 b9 D9 dA9 Q9 C kr
  refine g_aload_n C dX3_rimPoints_0 rfl ?_
  refine g_get C FX3_50 dX3_rimPoints_1 (by assumption) rfl ?_
  refine g_iconst C dX3_rimPoints_4 ?_
  refine g_icmp_ge C dX3_rimPoints_5 (tgt := 15) (by decide) (by omega) (by omega) (fun h5 => ?_) (fun h5 => ?_)
  · refine g_aload_n C dX3_rimPoints_15 rfl ?_
    refine g_V C (t_stepsRound H) dX3_rimPoints_16 KX3_stepsRound LX3_88 IX3_stepsRound VX3_stepsRound (by decide) rfl (by assumption) rfl rfl rfl (Nat.le_of_ble_eq_true rfl) ⟨rfl, rfl⟩ ?_
    dsimp only [Option.toList, List.cons_append, List.nil_append]
    first | exact kr _ _ _ dX3_rimPoints_19 (by rw [if_pos (by omega)]) | exact kr _ _ _ dX3_rimPoints_19 (by rw [if_neg (by omega)])
  · refine g_aload_n C dX3_rimPoints_8 rfl ?_
    refine g_V C (t_wholePoints H) dX3_rimPoints_9 KX3_wholePoints LX3_91 IX3_wholePoints VX3_wholePoints (by decide) rfl (by assumption) rfl rfl rfl (Nat.le_of_ble_eq_true rfl) ⟨rfl, rfl⟩ ?_
    dsimp only [Option.toList, List.cons_append, List.nil_append]
    refine g_goto C dX3_rimPoints_12 (tgt := 19) (by decide) ?_
    first | exact kr _ _ _ dX3_rimPoints_19 (by rw [if_pos (by omega)]) | exact kr _ _ _ dX3_rimPoints_19 (by rw [if_neg (by omega)])
end
section
/-! slopes as threes (u, v, w), w above 0: u / w and v / w -/
abbrev Tr : Type := Int × Int × Int
def teq (s t : Tr) : Prop := s.1 * t.2.2 = t.1 * s.2.2 ∧ s.2.1 * t.2.2 = t.2.1 * s.2.2
def tlt (s t : Tr) : Prop := s.1 * t.2.2 < t.1 * s.2.2 ∨ (s.1 * t.2.2 = t.1 * s.2.2 ∧ s.2.1 * t.2.2 < t.2.1 * s.2.2)
theorem fr_id (a b c d e f : Int) : d * (a * f - e * b) = f * (a * d - c * b) + b * (c * f - e * d) := by grind
theorem ps_l {a t : Int} (h : 0 < a) (h2 : a * t ≤ 0) : t ≤ 0 := by
  by_cases q : 0 < t
  · have := Int.mul_pos h q; omega
  · omega
theorem ps_n {a t : Int} (h : 0 < a) (h2 : a * t < 0) : t < 0 := by
  by_cases q : 0 ≤ t
  · have := Int.mul_nonneg (Int.le_of_lt h) q; omega
  · omega
theorem mn_l {a t : Int} (h : 0 < a) (h2 : t ≤ 0) : a * t ≤ 0 := by
  have := Int.mul_nonneg (Int.le_of_lt h) (show 0 ≤ -t by omega)
  rw [Int.mul_neg] at this
  omega
theorem mn_n {a t : Int} (h : 0 < a) (h2 : t < 0) : a * t < 0 := Int.mul_neg_of_pos_of_neg h h2
theorem fr_le {a b c d e f : Int} (hb : 0 < b) (hd : 0 < d) (hf : 0 < f) (h1 : a * d ≤ c * b) (h2 : c * f ≤ e * d) : a * f ≤ e * b := by
  have i := fr_id a b c d e f
  have m1 := mn_l hf (show a * d - c * b ≤ 0 by omega)
  have m2 := mn_l hb (show c * f - e * d ≤ 0 by omega)
  have := ps_l hd (show d * (a * f - e * b) ≤ 0 by omega)
  omega
theorem fr_lt1 {a b c d e f : Int} (hb : 0 < b) (hd : 0 < d) (hf : 0 < f) (h1 : a * d < c * b) (h2 : c * f ≤ e * d) : a * f < e * b := by
  have i := fr_id a b c d e f
  have m1 := mn_n hf (show a * d - c * b < 0 by omega)
  have m2 := mn_l hb (show c * f - e * d ≤ 0 by omega)
  have := ps_n hd (show d * (a * f - e * b) < 0 by omega)
  omega
theorem fr_lt2 {a b c d e f : Int} (hb : 0 < b) (hd : 0 < d) (hf : 0 < f) (h1 : a * d ≤ c * b) (h2 : c * f < e * d) : a * f < e * b := by
  have i := fr_id a b c d e f
  have m1 := mn_l hf (show a * d - c * b ≤ 0 by omega)
  have m2 := mn_n hb (show c * f - e * d < 0 by omega)
  have := ps_n hd (show d * (a * f - e * b) < 0 by omega)
  omega
theorem fr_eq {a b c d e f : Int} (hb : 0 < b) (hd : 0 < d) (hf : 0 < f) (h1 : a * d = c * b) (h2 : c * f = e * d) : a * f = e * b := by
  have q1 := fr_le hb hd hf (Int.le_of_eq h1) (Int.le_of_eq h2)
  have q2 := fr_le hf hd hb (Int.le_of_eq h2.symm) (Int.le_of_eq h1.symm)
  omega
theorem teq.rf (s : Tr) : teq s s := ⟨rfl, rfl⟩
theorem teq.sy {s t : Tr} (h : teq s t) : teq t s := ⟨h.1.symm, h.2.symm⟩
theorem teq.tr {s t r : Tr} (hs : 0 < s.2.2) (ht : 0 < t.2.2) (hr : 0 < r.2.2) (h1 : teq s t) (h2 : teq t r) : teq s r := ⟨fr_eq hs ht hr h1.1 h2.1, fr_eq hs ht hr h1.2 h2.2⟩
theorem tlt.tr {s t r : Tr} (hs : 0 < s.2.2) (ht : 0 < t.2.2) (hr : 0 < r.2.2) (h1 : tlt s t) (h2 : tlt t r) : tlt s r := by
  rcases h1 with h1 | ⟨h1, h3⟩
  · rcases h2 with h2 | ⟨h2, h4⟩
    · exact Or.inl (fr_lt1 hs ht hr h1 (Int.le_of_lt h2))
    · exact Or.inl (fr_lt1 hs ht hr h1 (Int.le_of_eq h2))
  · rcases h2 with h2 | ⟨h2, h4⟩
    · exact Or.inl (fr_lt2 hs ht hr (Int.le_of_eq h1) h2)
    · exact Or.inr ⟨fr_eq hs ht hr h1 h2, fr_lt1 hs ht hr h3 (Int.le_of_lt h4)⟩
theorem tlt.el {s t r : Tr} (hs : 0 < s.2.2) (ht : 0 < t.2.2) (hr : 0 < r.2.2) (h1 : teq s t) (h2 : tlt t r) : tlt s r := by
  rcases h2 with h2 | ⟨h2, h4⟩
  · exact Or.inl (fr_lt2 hs ht hr (Int.le_of_eq h1.1) h2)
  · exact Or.inr ⟨fr_eq hs ht hr h1.1 h2, fr_lt2 hs ht hr (Int.le_of_eq h1.2) h4⟩
theorem tlt.er {s t r : Tr} (hs : 0 < s.2.2) (ht : 0 < t.2.2) (hr : 0 < r.2.2) (h1 : tlt s t) (h2 : teq t r) : tlt s r := by
  rcases h1 with h1 | ⟨h1, h3⟩
  · exact Or.inl (fr_lt1 hs ht hr h1 (Int.le_of_eq h2.1))
  · exact Or.inr ⟨fr_eq hs ht hr h1 h2.1, fr_lt1 hs ht hr h3 (Int.le_of_eq h2.2)⟩
theorem tlt.ne {s t : Tr} (h : tlt s t) : ¬ teq s t := fun q => by
  rcases h with h | ⟨h, h3⟩
  · have := q.1; omega
  · have := q.2; omega
theorem tlt.as {s t : Tr} (h : tlt s t) (h2 : tlt t s) : False := by
  rcases h with h | ⟨h, h3⟩ <;> rcases h2 with h2 | ⟨h2, h4⟩ <;> omega
theorem t3 (s t : Tr) : tlt s t ∨ teq s t ∨ tlt t s := by
  unfold tlt teq
  by_cases q1 : s.1 * t.2.2 < t.1 * s.2.2
  · exact Or.inl (Or.inl q1)
  by_cases q2 : t.1 * s.2.2 < s.1 * t.2.2
  · exact Or.inr (Or.inr (Or.inl q2))
  by_cases q3 : s.2.1 * t.2.2 < t.2.1 * s.2.2
  · exact Or.inl (Or.inr ⟨by omega, q3⟩)
  by_cases q4 : t.2.1 * s.2.2 < s.2.1 * t.2.2
  · exact Or.inr (Or.inr (Or.inr ⟨by omega, q4⟩))
  · exact Or.inr (Or.inl ⟨by omega, by omega⟩)
/-! sorted lists of slopes -/
def tsr (τ : Nat → Tr) (m : Nat) : Prop := (∀ i, i < m → 0 < (τ i).2.2) ∧ ∀ i j, i < j → j < m → tlt (τ i) (τ j)
theorem tsr.inj {τ : Nat → Tr} {m : Nat} (h : tsr τ m) {i j : Nat} (hi : i < m) (hj : j < m) (e : teq (τ i) (τ j)) : i = j := by
  rcases Nat.lt_trichotomy i j with q | q | q
  · exact absurd e (h.2 i j q hj).ne
  · exact q
  · exact absurd e.sy (h.2 j i q hi).ne
theorem mono_le {f : Nat → Nat} {m : Nat} (h : ∀ i j, i < j → j < m → f i < f j) : ∀ i, i < m → i ≤ f i
  | 0, _ => by omega
  | i + 1, hi => by
    have := mono_le h i (by omega)
    have := h i (i + 1) (by omega) hi
    omega
theorem mono_ge {f : Nat → Nat} {m M : Nat} (h : ∀ i j, i < j → j < m → f i < f j) (hM : ∀ i, i < m → f i < M) : ∀ d i, i + d + 1 = m → f i + d + 1 ≤ M
  | 0, i, hi => by have := hM i (by omega); omega
  | d + 1, i, hi => by
    have := mono_ge h hM d (i + 1) (by omega)
    have := h i (i + 1) (by omega) (by omega)
    omega
theorem tsr_map {τ σ : Nat → Tr} {m k : Nat} (h1 : tsr τ m) (h2 : tsr σ k) (h : ∀ i, i < m → ∃ j, j < k ∧ teq (τ i) (σ j)) : ∃ f : Nat → Nat, (∀ i, i < m → f i < k ∧ teq (τ i) (σ (f i))) ∧ ∀ i j, i < j → j < m → f i < f j := by
  have w : ∀ i : Nat, ∃ j : Nat, i < m → j < k ∧ teq (τ i) (σ j) := fun i => by
    by_cases q : i < m
    · obtain ⟨j, a⟩ := h i q; exact ⟨j, fun _ => a⟩
    · exact ⟨0, fun z => absurd z q⟩
  refine ⟨fun i => Classical.choose (w i), fun i hi => Classical.choose_spec (w i) hi, fun i j hij hj => ?_⟩
  have a := Classical.choose_spec (w i) (by omega)
  have b := Classical.choose_spec (w j) hj
  show Classical.choose (w i) < Classical.choose (w j)
  generalize Classical.choose (w i) = x at *
  generalize Classical.choose (w j) = y at *
  have p1 := h1.1 i (by omega)
  have p2 := h1.1 j hj
  have p3 := h2.1 x a.1
  have p4 := h2.1 y b.1
  have l := (h1.2 i j hij hj)
  have l2 : tlt (σ x) (σ y) := tlt.er p3 p2 p4 (tlt.el p3 p1 p2 a.2.sy l) b.2
  rcases Nat.lt_trichotomy x y with q | q | q
  · exact q
  · subst q; exact absurd (teq.rf _) l2.ne
  · exact (l2.as (h2.2 y x q a.1)).elim
/-- two sorted lists of the same slopes are alike -/
theorem tsr_same {τ σ : Nat → Tr} {m k : Nat} (h1 : tsr τ m) (h2 : tsr σ k) (ha : ∀ i, i < m → ∃ j, j < k ∧ teq (τ i) (σ j)) (hb : ∀ j, j < k → ∃ i, i < m ∧ teq (σ j) (τ i)) : m = k ∧ ∀ i, i < m → teq (τ i) (σ i) := by
  obtain ⟨f, f1, f2⟩ := tsr_map h1 h2 ha
  obtain ⟨g, g1, g2⟩ := tsr_map h2 h1 hb
  have e : m = k := by
    by_cases q : m = 0
    · by_cases q2 : k = 0
      · omega
      · have := (g1 0 (by omega)).1; omega
    · have a := (f1 (m - 1) (by omega)).1
      have b := mono_le f2 (m - 1) (by omega)
      have a2 := (g1 (k - 1) (by omega)).1
      have b2 := mono_le g2 (k - 1) (by omega)
      omega
  refine ⟨e, fun i hi => ?_⟩
  have a := mono_le f2 i hi
  have b := mono_ge f2 (fun j hj => (f1 j hj).1) (m - 1 - i) i (by omega)
  have c : f i = i := by omega
  have := (f1 i hi).2
  rw [c] at this
  exact this
/-! low points -/
def lwm (f : Nat → Int) (n k : Nat) : Prop := k < n ∧ ∀ j, j < n → f k ≤ f j
theorem bt_tb (T k : Nat) : bt T k ↔ T.testBit k = true := by
  unfold bt
  rw [Nat.testBit_eq_decide_div_mod_eq, decide_eq_true_eq]
theorem bt_or (T U k : Nat) : bt (T ||| U) k ↔ bt T k ∨ bt U k := by
  rw [bt_tb, bt_tb, bt_tb, Nat.testBit_or, Bool.or_eq_true]
theorem bt_2 (n k : Nat) : bt (2 ^ n) k ↔ k = n := by
  rw [bt_tb, Nat.testBit_two_pow, decide_eq_true_eq]
  exact eq_comm
theorem bt_0 (k : Nat) : ¬ bt 0 k := by rw [bt_tb, Nat.zero_testBit]; decide
theorem bt_ext {T U : Nat} (h : ∀ k, bt T k ↔ bt U k) : T = U := by
  apply Nat.eq_of_testBit_eq
  intro k
  have := h k
  rw [bt_tb, bt_tb] at this
  exact Bool.eq_iff_iff.mpr this
theorem bo_low_ok (f : Nat → Int) : ∀ n, 0 < n → (∀ j, j < n → (bo_low f n).2 ≤ f j) ∧ (∃ j, j < n ∧ f j = (bo_low f n).2) ∧ ∀ k, bt (bo_low f n).1 k ↔ k < n ∧ f k = (bo_low f n).2
  | 0, h => by omega
  | n + 1, _ => by
    by_cases q0 : n = 0
    · subst q0
      rw [show bo_low f 1 = (2 ^ 0, f 0) from by rw [bo_low, if_pos (Or.inl (show (bo_low f 0).1 = 0 from rfl))]]
      refine ⟨fun j hj => by rw [show j = 0 by omega]; exact Int.le_refl _, ⟨0, by omega, rfl⟩, fun k => ?_⟩
      rw [bt_2]
      constructor
      · rintro rfl; exact ⟨by omega, rfl⟩
      · intro z; omega
    · obtain ⟨a1, ⟨j0, a2, a3⟩, a4⟩ := bo_low_ok f n (by omega)
      have hne : ¬ (bo_low f n).1 = 0 := fun z => by
        have := (a4 j0).mpr ⟨a2, a3⟩
        rw [z] at this
        exact bt_0 _ this
      by_cases q1 : f n < (bo_low f n).2
      · rw [show bo_low f (n + 1) = (2 ^ n, f n) from by rw [bo_low, if_pos (Or.inr q1)]]
        refine ⟨fun j hj => ?_, ⟨n, by omega, rfl⟩, fun k => ?_⟩
        · show f n ≤ f j
          by_cases c : j = n
          · subst c; exact Int.le_refl _
          · have := a1 j (by omega); omega
        · show bt (2 ^ n) k ↔ k < n + 1 ∧ f k = f n
          rw [bt_2]
          constructor
          · rintro rfl; exact ⟨by omega, rfl⟩
          · rintro ⟨z1, z2⟩
            by_cases c : k = n
            · exact c
            · have := a1 k (by omega); omega
      · by_cases q2 : f n = (bo_low f n).2
        · rw [show bo_low f (n + 1) = ((bo_low f n).1 ||| 2 ^ n, (bo_low f n).2) from by rw [bo_low, if_neg (by omega), if_pos q2]]
          refine ⟨fun j hj => ?_, ⟨j0, by omega, a3⟩, fun k => ?_⟩
          · show (bo_low f n).2 ≤ f j
            by_cases c : j = n
            · subst c; omega
            · exact a1 j (by omega)
          · show bt ((bo_low f n).1 ||| 2 ^ n) k ↔ k < n + 1 ∧ f k = (bo_low f n).2
            rw [bt_or, bt_2, a4]
            constructor
            · rintro (z | rfl)
              · exact ⟨by omega, z.2⟩
              · exact ⟨by omega, q2⟩
            · rintro ⟨z1, z2⟩
              by_cases c : k = n
              · exact Or.inr c
              · exact Or.inl ⟨by omega, z2⟩
        · rw [show bo_low f (n + 1) = bo_low f n from by rw [bo_low, if_neg (by omega), if_neg q2]]
          refine ⟨fun j hj => ?_, ⟨j0, by omega, a3⟩, fun k => ?_⟩
          · by_cases c : j = n
            · subst c; omega
            · exact a1 j (by omega)
          · rw [a4]
            constructor
            · rintro ⟨z1, z2⟩; exact ⟨by omega, z2⟩
            · rintro ⟨z1, z2⟩
              by_cases c : k = n
              · subst c; omega
              · exact ⟨by omega, z2⟩
theorem bo_low_bt (f : Nat → Int) (n k : Nat) : bt (bo_low f n).1 k ↔ lwm f n k := by
  by_cases q : n = 0
  · subst q
    constructor
    · intro z; exact absurd z (bt_0 k)
    · intro z; exact absurd z.1 (by omega)
  · obtain ⟨a1, ⟨j0, a2, a3⟩, a4⟩ := bo_low_ok f n (by omega)
    rw [a4]
    constructor
    · rintro ⟨z1, z2⟩; exact ⟨z1, fun j hj => by rw [z2]; exact a1 j hj⟩
    · rintro ⟨z1, z2⟩; exact ⟨z1, by have := z2 j0 a2; have := a1 k z1; omega⟩
theorem lwm_ex (f : Nat → Int) (n : Nat) (h : 0 < n) : ∃ k, lwm f n k := by
  obtain ⟨a1, ⟨j0, a2, a3⟩, a4⟩ := bo_low_ok f n h
  exact ⟨j0, a2, fun j hj => by rw [a3]; exact a1 j hj⟩
abbrev th (X Y V : Nat → Int) (t : Tr) : Nat → Int := bo_h X Y V t.1 t.2.1 t.2.2
theorem th_scale {X Y V : Nat → Int} {s t : Tr} (e : teq s t) (k : Nat) : t.2.2 * th X Y V s k = s.2.2 * th X Y V t k := by
  unfold th bo_h
  have e1 := e.1
  have e2 := e.2
  have : t.2.2 * (s.2.2 * V k + s.1 * X k + s.2.1 * Y k) = t.2.2 * s.2.2 * V k + (s.1 * t.2.2) * X k + (s.2.1 * t.2.2) * Y k := by grind
  rw [this, e1, e2]
  grind
theorem lwm_teq {X Y V : Nat → Int} {s t : Tr} (hs : 0 < s.2.2) (ht : 0 < t.2.2) (e : teq s t) {n k : Nat} (h : lwm (th X Y V s) n k) : lwm (th X Y V t) n k := by
  refine ⟨h.1, fun j hj => ?_⟩
  have a := h.2 j hj
  have e1 := th_scale (X := X) (Y := Y) (V := V) e k
  have e2 := th_scale (X := X) (Y := Y) (V := V) e j
  have m := Int.mul_le_mul_of_nonneg_left a (Int.le_of_lt ht)
  rw [e1, e2] at m
  exact Int.le_of_mul_le_mul_left m hs
theorem low_teq {X Y V : Nat → Int} {s t : Tr} (hs : 0 < s.2.2) (ht : 0 < t.2.2) (e : teq s t) (n : Nat) : (bo_low (th X Y V s) n).1 = (bo_low (th X Y V t) n).1 := bt_ext fun k => by
  rw [bo_low_bt, bo_low_bt]
  exact ⟨lwm_teq hs ht e, lwm_teq ht hs e.sy⟩
/-- the slope of a cell: three sums of low points that are not on one line -/
def CS (X Y V : Nat → Int) (n : Nat) (X2 Y2 V2 : Nat → Int) (n2 : Nat) (t : Tr) : Prop := 0 < t.2.2 ∧ ∃ i1 i2 i3 j1 j2 j3, (lwm (th X Y V t) n i1 ∧ lwm (th X Y V t) n i2 ∧ lwm (th X Y V t) n i3) ∧ (lwm (th X2 Y2 V2 t) n2 j1 ∧ lwm (th X2 Y2 V2 t) n2 j2 ∧ lwm (th X2 Y2 V2 t) n2 j3) ∧ tu (X i1 + X2 j1) (Y i1 + Y2 j1) (X i2 + X2 j2) (Y i2 + Y2 j2) (X i3 + X2 j3) (Y i3 + Y2 j3) ≠ 0
theorem CS.teq {X Y V : Nat → Int} {n : Nat} {X2 Y2 V2 : Nat → Int} {n2 : Nat} {s t : Tr} (h : CS X Y V n X2 Y2 V2 n2 s) (ht : 0 < t.2.2) (e : teq s t) : CS X Y V n X2 Y2 V2 n2 t := by
  obtain ⟨hs, i1, i2, i3, j1, j2, j3, ⟨a1, a2, a3⟩, ⟨b1, b2, b3⟩, c⟩ := h
  exact ⟨ht, i1, i2, i3, j1, j2, j3, ⟨lwm_teq hs ht e a1, lwm_teq hs ht e a2, lwm_teq hs ht e a3⟩, ⟨lwm_teq hs ht e b1, lwm_teq hs ht e b2, lwm_teq hs ht e b3⟩, c⟩
end
section
/-! at most 93 cells -/
theorem ex_min (P : Nat → Prop) (f : Nat → Int) : ∀ N, (∃ s, s < N ∧ P s) → ∃ a, a < N ∧ P a ∧ ∀ s, s < N → P s → f a ≤ f s
  | 0, h => by obtain ⟨s, h1, _⟩ := h; omega
  | N + 1, h => by
    by_cases q : ∃ s, s < N ∧ P s
    · obtain ⟨a, a1, a2, a3⟩ := ex_min P f N q
      by_cases q2 : P N ∧ f N < f a
      · exact ⟨N, by omega, q2.1, fun s h1 h2 => by
          by_cases c : s = N
          · subst c; exact Int.le_refl _
          · have := a3 s (by omega) h2; have := q2.2; omega⟩
      · exact ⟨a, by omega, a2, fun s h1 h2 => by
          by_cases c : s = N
          · subst c
            by_cases c2 : f s < f a
            · exact absurd ⟨h2, c2⟩ q2
            · omega
          · exact a3 s (by omega) h2⟩
    · obtain ⟨s, h1, h2⟩ := h
      have e : s = N := by
        by_cases c : s = N
        · exact c
        · exact absurd ⟨s, by omega, h2⟩ q
      subst e
      exact ⟨s, by omega, h2, fun s' h3 h4 => by
        by_cases c : s' = s
        · subst c; exact Int.le_refl _
        · exact absurd ⟨s', by omega, h4⟩ q⟩
section BD
variable {px py pw : Nat → Int} {vs : Nat → Prop}
/-- 25 y + x: another for each point -/
def l25 (px py : Nat → Int) (s : Nat) : Int := px s + 25 * py s
def hs (px py pw : Nat → Int) (t : Tr) (s : Nat) : Int := t.2.2 * pw s + t.1 * px s + t.2.1 * py s
def lsp (px py pw : Nat → Int) (vs : Nat → Prop) (t : Tr) (s : Nat) : Prop := s < 49 ∧ vs s ∧ ∀ r, r < 49 → vs r → hs px py pw t s ≤ hs px py pw t r
abbrev tp (px py : Nat → Int) (a c s : Nat) : Int := tu (px a) (py a) (px c) (py c) (px s) (py s)
theorem id_line (a c s1 s2 s3 : Nat) : (l25 px py c - l25 px py a) * tp px py s1 s2 s3 = (l25 px py s2 - l25 px py s1) * (tp px py a c s3 - tp px py a c s1) - (tp px py a c s2 - tp px py a c s1) * (l25 px py s3 - l25 px py s1) := by unfold l25 tp tu; grind
theorem id_aff (al be ga : Int) (a b c : Nat) : (l25 px py c - l25 px py b) * (al * px a + be * py a + ga) + (l25 px py b - l25 px py a) * (al * px c + be * py c + ga) = (l25 px py c - l25 px py a) * (al * px b + be * py b + ga) + tp px py a c b * (25 * al - be) := by unfold l25 tp tu; grind
/-- a cell's middle corner, and on which side its far line lies -/
def mid (px py pw : Nat → Int) (vs : Nat → Prop) (t : Tr) (a b c : Nat) : Prop := lsp px py pw vs t a ∧ lsp px py pw vs t b ∧ lsp px py pw vs t c ∧ l25 px py a < l25 px py b ∧ l25 px py b < l25 px py c ∧ tp px py a c b ≠ 0
theorem mid_ex (hr : ∀ s, s < 49 → vs s → 0 ≤ px s ∧ px s ≤ 24) {t : Tr} {s1 s2 s3 : Nat} (h1 : lsp px py pw vs t s1) (h2 : lsp px py pw vs t s2) (h3 : lsp px py pw vs t s3) (hn : tp px py s1 s2 s3 ≠ 0) : ∃ a b c, mid px py pw vs t a b c := by
  obtain ⟨a, a1, a2, a3⟩ := ex_min (lsp px py pw vs t) (l25 px py) 49 ⟨s1, h1.1, h1⟩
  obtain ⟨c, c1, c2, c3⟩ := ex_min (lsp px py pw vs t) (fun s => -l25 px py s) 49 ⟨s1, h1.1, h1⟩
  have loc : ∀ s r, lsp px py pw vs t s → lsp px py pw vs t r → l25 px py s = l25 px py r → px s = px r ∧ py s = py r := fun s r q1 q2 e => by
    have r1 := hr s q1.1 q1.2.1
    have r2 := hr r q2.1 q2.2.1
    unfold l25 at e
    omega
  have key : ¬ (tp px py a c s1 = 0 ∧ tp px py a c s2 = 0 ∧ tp px py a c s3 = 0) := fun ⟨z1, z2, z3⟩ => by
    have i := id_line (px := px) (py := py) a c s1 s2 s3
    rw [z1, z2, z3, Int.sub_self, Int.mul_zero, Int.zero_mul, Int.sub_self] at i
    rcases Int.mul_eq_zero.mp i with i | i
    · have e1 := a3 s1 h1.1 h1
      have e2 := a3 s2 h2.1 h2
      have e3 := a3 s3 h3.1 h3
      have f1 := c3 s1 h1.1 h1
      have f2 := c3 s2 h2.1 h2
      have f3 := c3 s3 h3.1 h3
      have g1 := loc s1 s2 h1 h2 (by omega)
      apply hn
      unfold tp tu
      rw [g1.1, g1.2]
      grind
    · exact hn i
  have ex : ∃ b, lsp px py pw vs t b ∧ tp px py a c b ≠ 0 := by
    by_cases z1 : tp px py a c s1 = 0
    · by_cases z2 : tp px py a c s2 = 0
      · by_cases z3 : tp px py a c s3 = 0
        · exact absurd ⟨z1, z2, z3⟩ key
        · exact ⟨s3, h3, z3⟩
      · exact ⟨s2, h2, z2⟩
    · exact ⟨s1, h1, z1⟩
  obtain ⟨b, b1, b2⟩ := ex
  have e1 := a3 b b1.1 b1
  have e2 := c3 b b1.1 b1
  refine ⟨a, b, c, a2, b1, c2, ?_, ?_, b2⟩
  · by_cases q : l25 px py a = l25 px py b
    · have g := loc a b a2 b1 q
      exact absurd (by unfold tp tu; rw [g.1, g.2]; grind) b2
    · omega
  · by_cases q : l25 px py b = l25 px py c
    · have g := loc b c b1 c2 q
      exact absurd (by unfold tp tu; rw [g.1, g.2]; grind) b2
    · omega
/-- two slopes with one middle corner and one side are one -/
theorem mid_inj {t r : Tr} (ht : 0 < t.2.2) (hr : 0 < r.2.2) {a b c a2 c2 : Nat} (h1 : mid px py pw vs t a b c) (h2 : mid px py pw vs r a2 b c2) (hsd : 0 < tp px py a c b ↔ 0 < tp px py a2 c2 b) : teq t r := by
  obtain ⟨la, lb, lc, k1, k2, nz⟩ := h1
  obtain ⟨la2, lb2, lc2, k3, k4, nz2⟩ := h2
  -- the difference of both heights, each times the other's w: an affine function that is 0 at b
  generalize hal : r.2.2 * t.1 - t.2.2 * r.1 = al
  generalize hbe : r.2.2 * t.2.1 - t.2.2 * r.2.1 = be
  generalize hga : -(r.2.2 * hs px py pw t b - t.2.2 * hs px py pw r b) = ga
  have E : ∀ s, al * px s + be * py s + ga = r.2.2 * (hs px py pw t s - hs px py pw t b) - t.2.2 * (hs px py pw r s - hs px py pw r b) := fun s => by
    rw [← hal, ← hbe, ← hga]; unfold hs; grind
  have Eb : al * px b + be * py b + ga = 0 := by rw [E b, Int.sub_self, Int.sub_self, Int.mul_zero, Int.mul_zero, Int.sub_self]
  have low : ∀ s, lsp px py pw vs t s → al * px s + be * py s + ga ≤ 0 := fun s q => by
    have e1 : hs px py pw t s - hs px py pw t b = 0 := by have := q.2.2 b lb.1 lb.2.1; have := lb.2.2 s q.1 q.2.1; omega
    have e2 := Int.mul_nonneg (Int.le_of_lt ht) (show 0 ≤ hs px py pw r s - hs px py pw r b by have := lb2.2.2 s q.1 q.2.1; omega)
    rw [E s, e1, Int.mul_zero]; omega
  have hig : ∀ s, lsp px py pw vs r s → 0 ≤ al * px s + be * py s + ga := fun s q => by
    have e1 : hs px py pw r s - hs px py pw r b = 0 := by have := q.2.2 b lb2.1 lb2.2.1; have := lb2.2.2 s q.1 q.2.1; omega
    have e2 := Int.mul_nonneg (Int.le_of_lt hr) (show 0 ≤ hs px py pw t s - hs px py pw t b by have := lb.2.2 s q.1 q.2.1; omega)
    rw [E s, e1, Int.mul_zero]; omega
  have i1 := id_aff (px := px) (py := py) al be ga a b c
  have i2 := id_aff (px := px) (py := py) al be ga a2 b c2
  rw [Eb, Int.mul_zero, Int.zero_add] at i1 i2
  have m1 := mn_l (show 0 < l25 px py c - l25 px py b by omega) (low a la)
  have m2 := mn_l (show 0 < l25 px py b - l25 px py a by omega) (low c lc)
  have m3 := Int.mul_nonneg (show 0 ≤ l25 px py c2 - l25 px py b by omega) (hig a2 la2)
  have m4 := Int.mul_nonneg (show 0 ≤ l25 px py b - l25 px py a2 by omega) (hig c2 lc2)
  have d0 : 25 * al - be = 0 := by
    have w1 : tp px py a c b * (25 * al - be) ≤ 0 := by omega
    have w2 : 0 ≤ tp px py a2 c2 b * (25 * al - be) := by omega
    by_cases q : 0 < tp px py a c b
    · have q2 := hsd.mp q
      have := ps_l q w1
      have := ps_r q2 w2
      omega
    · have q2 : tp px py a2 c2 b < 0 := by
        by_cases q3 : 0 < tp px py a2 c2 b
        · exact absurd (hsd.mpr q3) q
        · omega
      have := ps_r (a := -tp px py a c b) (t := 25 * al - be) (by omega) (by rw [Int.neg_mul]; omega)
      have := ps_l (a := -tp px py a2 c2 b) (t := 25 * al - be) (by omega) (by rw [Int.neg_mul]; omega)
      omega
  rw [d0, Int.mul_zero] at i1
  have ea : al * px a + be * py a + ga = 0 := by
    have : (l25 px py c - l25 px py b) * (al * px a + be * py a + ga) = 0 := by omega
    rcases Int.mul_eq_zero.mp this with z | z
    · omega
    · exact z
  have ec : al * px c + be * py c + ga = 0 := by
    have : (l25 px py b - l25 px py a) * (al * px c + be * py c + ga) = 0 := by omega
    rcases Int.mul_eq_zero.mp this with z | z
    · omega
    · exact z
  have z1 : tp px py a c b * al = 0 := by
    have : tp px py a c b * al = (py b - py a) * ((al * px c + be * py c + ga) - (al * px a + be * py a + ga)) - (py c - py a) * ((al * px b + be * py b + ga) - (al * px a + be * py a + ga)) := by unfold tp tu; grind
    rw [this, ea, ec, Eb]; simp
  have z2 : al = 0 := by
    rcases Int.mul_eq_zero.mp z1 with z | z
    · exact absurd z nz
    · exact z
  have z3 : be = 0 := by omega
  have c1 := Int.mul_comm t.2.2 r.1
  have c2 := Int.mul_comm r.2.2 t.1
  have c3 := Int.mul_comm t.2.2 r.2.1
  have c4 := Int.mul_comm r.2.2 t.2.1
  exact ⟨by omega, by omega⟩
theorem bound93 (hr : ∀ s, s < 49 → vs s → 0 ≤ px s ∧ px s ≤ 24) {τ : Nat → Tr} {m : Nat} (hp : ∀ i, i < m → 0 < (τ i).2.2) (hc : ∀ i, i < m → ∃ s1 s2 s3, lsp px py pw vs (τ i) s1 ∧ lsp px py pw vs (τ i) s2 ∧ lsp px py pw vs (τ i) s3 ∧ tp px py s1 s2 s3 ≠ 0) (hd : ∀ i j, i < m → j < m → teq (τ i) (τ j) → i = j) : m ≤ 93 := by
  by_cases m0 : m = 0
  · omega
  have hm : ∀ i, i < m → ∃ q : Nat × Nat × Nat, mid px py pw vs (τ i) q.1 q.2.1 q.2.2 := fun i hi => by
    obtain ⟨s1, s2, s3, h1, h2, h3, h4⟩ := hc i hi
    obtain ⟨a, b, c, h⟩ := mid_ex hr h1 h2 h3 h4
    exact ⟨(a, b, c), h⟩
  have w : ∀ i : Nat, ∃ q : Nat × Nat × Nat, i < m → mid px py pw vs (τ i) q.1 q.2.1 q.2.2 := fun i => by
    by_cases q : i < m
    · obtain ⟨x, hx⟩ := hm i q; exact ⟨x, fun _ => hx⟩
    · exact ⟨(0, 0, 0), fun z => absurd z q⟩
  -- the ends of all
  obtain ⟨q0, hq0⟩ := hm 0 (by omega)
  have v0 : ∃ s, s < 49 ∧ vs s := ⟨q0.1, hq0.1.1, hq0.1.2.1⟩
  obtain ⟨mn, n1, n2, n3⟩ := ex_min vs (l25 px py) 49 v0
  obtain ⟨mx, x1, x2, x3⟩ := ex_min vs (fun s => -l25 px py s) 49 v0
  have lmm : l25 px py mn < l25 px py mx := by
    have b1 := n3 q0.1 hq0.1.1 hq0.1.2.1
    have b2 := x3 q0.2.2 hq0.2.2.1.1 hq0.2.2.1.2.1
    have b3 := hq0.2.2.2.1
    have b4 := hq0.2.2.2.2.1
    omega
  -- the code of a cell
  let cd : Nat → Nat := fun i => 2 * (Classical.choose (w i)).2.1 + (if 0 < tp px py (Classical.choose (w i)).1 (Classical.choose (w i)).2.2 (Classical.choose (w i)).2.1 then 1 else 0)
  have cdE : ∀ i, cd i = 2 * (Classical.choose (w i)).2.1 + (if 0 < tp px py (Classical.choose (w i)).1 (Classical.choose (w i)).2.2 (Classical.choose (w i)).2.1 then 1 else 0) := fun i => rfl
  have cdlt : ∀ i, i < m → cd i < 98 := fun i hi => by
    have := (Classical.choose_spec (w i) hi).2.1.1
    rw [cdE]; split <;> omega
  have cdinj : ∀ i j, i < m → j < m → cd i = cd j → i = j := fun i j hi hj e => by
    have a := Classical.choose_spec (w i) hi
    have b := Classical.choose_spec (w j) hj
    rw [cdE, cdE] at e
    generalize Classical.choose (w i) = x at *
    generalize Classical.choose (w j) = y at *
    have e1 : x.2.1 = y.2.1 := by
      split at e <;> split at e <;> omega
    rw [← e1] at b e
    refine hd i j hi hj (mid_inj (hp i hi) (hp j hj) a b ?_)
    by_cases q1 : 0 < tp px py x.1 x.2.2 x.2.1 <;> by_cases q2 : 0 < tp px py y.1 y.2.2 x.2.1
    · exact ⟨fun _ => q2, fun _ => q1⟩
    · rw [if_pos q1, if_neg q2] at e; omega
    · rw [if_neg q1, if_pos q2] at e; omega
    · exact ⟨fun z => absurd z q1, fun z => absurd z q2⟩
  have cdmn : ∀ i, i < m → (Classical.choose (w i)).2.1 ≠ mn ∧ (Classical.choose (w i)).2.1 ≠ mx := fun i hi => by
    have a := Classical.choose_spec (w i) hi
    generalize Classical.choose (w i) = x at *
    have b1 := n3 x.1 a.1.1 a.1.2.1
    have b2 := x3 x.2.2 a.2.2.1.1 a.2.2.1.2.1
    have b3 := a.2.2.2.1
    have b4 := a.2.2.2.2.1
    exact ⟨fun e => by rw [e] at b3; omega, fun e => by rw [e] at b4; omega⟩
  -- one more code that none has
  have out : ∃ o, o < 98 ∧ o / 2 ≠ mn ∧ o / 2 ≠ mx ∧ ∀ i, i < m → cd i ≠ o := by
    -- G: to which side of the line of both ends
    have G : ∀ (sg : Int) (p : Nat), (sg = 1 ∨ sg = -1) → p < 49 → vs p → 0 < sg * tp px py mn mx p → (∀ s, s < 49 → vs s → sg * tp px py mn mx s ≤ sg * tp px py mn mx p) → ∀ i, i < m → (Classical.choose (w i)).2.1 = p → 0 < sg * tp px py (Classical.choose (w i)).1 (Classical.choose (w i)).2.2 p := by
      intro sg p hsg p1 p2 p3 p4 i hi e
      have a := Classical.choose_spec (w i) hi
      generalize Classical.choose (w i) = x at *
      obtain ⟨xa, xb, xc⟩ := x
      dsimp only at *
      subst e
      obtain ⟨la, lb, lc, k1, k2, nz⟩ := a
      have i1 := id_aff (px := px) (py := py) (-(py mx - py mn)) (px mx - px mn) (-((px mx - px mn) * py mn) + (py mx - py mn) * px mn) xa xb xc
      have T : ∀ s, -(py mx - py mn) * px s + (px mx - px mn) * py s + (-((px mx - px mn) * py mn) + (py mx - py mn) * px mn) = tp px py mn mx s := fun s => by unfold tp tu; grind
      rw [T xa, T xb, T xc] at i1
      have dl : 25 * -(py mx - py mn) - (px mx - px mn) = -(l25 px py mx - l25 px py mn) := by unfold l25; omega
      rw [dl] at i1
      have g1 := p4 xa la.1 la.2.1
      have g2 := p4 xc lc.1 lc.2.1
      have m1 := mn_l (show 0 < l25 px py xc - l25 px py xb by omega) (show sg * tp px py mn mx xa - sg * tp px py mn mx xb ≤ 0 by omega)
      have m2 := mn_l (show 0 < l25 px py xb - l25 px py xa by omega) (show sg * tp px py mn mx xc - sg * tp px py mn mx xb ≤ 0 by omega)
      have sm : (l25 px py mx - l25 px py mn) * (sg * tp px py xa xc xb) = -((l25 px py xc - l25 px py xb) * (sg * tp px py mn mx xa - sg * tp px py mn mx xb) + (l25 px py xb - l25 px py xa) * (sg * tp px py mn mx xc - sg * tp px py mn mx xb)) := by
        have : sg * ((l25 px py xc - l25 px py xb) * tp px py mn mx xa + (l25 px py xb - l25 px py xa) * tp px py mn mx xc) = sg * ((l25 px py xc - l25 px py xa) * tp px py mn mx xb + tp px py xa xc xb * -(l25 px py mx - l25 px py mn)) := by rw [i1]
        grind
      have nn := ps_r (a := l25 px py mx - l25 px py mn) (t := sg * tp px py xa xc xb) (by omega) (by omega)
      have n0 : sg * tp px py xa xc xb ≠ 0 := fun z => by
        rcases Int.mul_eq_zero.mp z with z | z
        · omega
        · exact nz z
      omega
    have nzx : ∃ s, s < 49 ∧ vs s ∧ tp px py mn mx s ≠ 0 := by
      by_cases q : ∃ s, s < 49 ∧ vs s ∧ tp px py mn mx s ≠ 0
      · exact q
      · exfalso
        have z : ∀ s, s < 49 → vs s → tp px py mn mx s = 0 := fun s h1 h2 => by
          by_cases c : tp px py mn mx s = 0
          · exact c
          · exact absurd ⟨s, h1, h2, c⟩ q
        have i := id_line (px := px) (py := py) mn mx q0.1 q0.2.2 q0.2.1
        rw [z _ hq0.1.1 hq0.1.2.1, z _ hq0.2.1.1 hq0.2.1.2.1, z _ hq0.2.2.1.1 hq0.2.2.1.2.1, Int.sub_self, Int.mul_zero, Int.zero_mul, Int.sub_self] at i
        rcases Int.mul_eq_zero.mp i with i | i
        · omega
        · exact hq0.2.2.2.2.2 i
    have fin : ∀ sg : Int, (sg = 1 ∨ sg = -1) → (∃ s, s < 49 ∧ vs s ∧ 0 < sg * tp px py mn mx s) → ∃ o, o < 98 ∧ o / 2 ≠ mn ∧ o / 2 ≠ mx ∧ ∀ i, i < m → cd i ≠ o := by
      intro sg hsg ⟨s, s1, s2, s3⟩
      obtain ⟨p, p1, p2, p3⟩ := ex_min vs (fun s => -(sg * tp px py mn mx s)) 49 ⟨s, s1, s2⟩
      have p4 : 0 < sg * tp px py mn mx p := by have := p3 s s1 s2; omega
      have pn : p ≠ mn := fun e => by subst e; apply absurd p4; unfold tp tu; grind
      have px' : p ≠ mx := fun e => by subst e; apply absurd p4; unfold tp tu; grind
      refine ⟨2 * p + (if sg = 1 then 0 else 1), by split <;> omega, by split <;> omega, by split <;> omega, fun i hi e => ?_⟩
      have g := G sg p hsg p1 p2 p4 (fun s h1 h2 => by have := p3 s h1 h2; omega) i hi
      rw [cdE] at e
      have eb : (Classical.choose (w i)).2.1 = p := by split at e <;> split at e <;> omega
      have g2 := g eb
      rw [eb] at e
      rcases hsg with rfl | rfl
      · rw [Int.one_mul] at g2
        rw [if_pos g2, if_pos rfl] at e
        omega
      · rw [Int.neg_mul, Int.one_mul] at g2
        rw [if_neg (by omega), if_neg (by decide)] at e
        omega
    obtain ⟨s, s1, s2, s3⟩ := nzx
    by_cases q : 0 < tp px py mn mx s
    · exact fin 1 (Or.inl rfl) ⟨s, s1, s2, by omega⟩
    · exact fin (-1) (Or.inr rfl) ⟨s, s1, s2, by omega⟩
  obtain ⟨o, o1, o2, o3, o4⟩ := out
  have hne : mn ≠ mx := fun e => by rw [e] at lmm; omega
  have cd2 : ∀ i, i < m → cd i / 2 ≠ mn ∧ cd i / 2 ≠ mx := fun i hi => by
    have := cdmn i hi
    have e : cd i / 2 = (Classical.choose (w i)).2.1 := by rw [cdE]; split <;> omega
    rw [e]; exact this
  have P := pigeon 98 (m + 5) (fun i => if i < m then cd i else if i = m then 2 * mn else if i = m + 1 then 2 * mn + 1 else if i = m + 2 then 2 * mx else if i = m + 3 then 2 * mx + 1 else o) (fun i hi => by
    show (if i < m then cd i else if i = m then 2 * mn else if i = m + 1 then 2 * mn + 1 else if i = m + 2 then 2 * mx else if i = m + 3 then 2 * mx + 1 else o) < 98
    split
    · exact cdlt i (by assumption)
    · split
      · omega
      · split
        · omega
        · split
          · omega
          · split
            · omega
            · exact o1) (fun i j hi hj e => by
    have V : ∀ k, k < m + 5 → (k < m ∧ (if k < m then cd k else if k = m then 2 * mn else if k = m + 1 then 2 * mn + 1 else if k = m + 2 then 2 * mx else if k = m + 3 then 2 * mx + 1 else o) = cd k) ∨ (k = m ∧ (if k < m then cd k else if k = m then 2 * mn else if k = m + 1 then 2 * mn + 1 else if k = m + 2 then 2 * mx else if k = m + 3 then 2 * mx + 1 else o) = 2 * mn) ∨ (k = m + 1 ∧ (if k < m then cd k else if k = m then 2 * mn else if k = m + 1 then 2 * mn + 1 else if k = m + 2 then 2 * mx else if k = m + 3 then 2 * mx + 1 else o) = 2 * mn + 1) ∨ (k = m + 2 ∧ (if k < m then cd k else if k = m then 2 * mn else if k = m + 1 then 2 * mn + 1 else if k = m + 2 then 2 * mx else if k = m + 3 then 2 * mx + 1 else o) = 2 * mx) ∨ (k = m + 3 ∧ (if k < m then cd k else if k = m then 2 * mn else if k = m + 1 then 2 * mn + 1 else if k = m + 2 then 2 * mx else if k = m + 3 then 2 * mx + 1 else o) = 2 * mx + 1) ∨ (k = m + 4 ∧ (if k < m then cd k else if k = m then 2 * mn else if k = m + 1 then 2 * mn + 1 else if k = m + 2 then 2 * mx else if k = m + 3 then 2 * mx + 1 else o) = o) := fun k hk => by
      by_cases c0 : k < m
      · exact Or.inl ⟨c0, if_pos c0⟩
      rw [if_neg c0]
      by_cases c1 : k = m
      · exact Or.inr (Or.inl ⟨c1, if_pos c1⟩)
      rw [if_neg c1]
      by_cases c2 : k = m + 1
      · exact Or.inr (Or.inr (Or.inl ⟨c2, if_pos c2⟩))
      rw [if_neg c2]
      by_cases c3 : k = m + 2
      · exact Or.inr (Or.inr (Or.inr (Or.inl ⟨c3, if_pos c3⟩)))
      rw [if_neg c3]
      by_cases c4 : k = m + 3
      · exact Or.inr (Or.inr (Or.inr (Or.inr (Or.inl ⟨c4, if_pos c4⟩))))
      rw [if_neg c4]
      exact Or.inr (Or.inr (Or.inr (Or.inr (Or.inr ⟨by omega, rfl⟩))))
    have e' := e
    rcases V i hi with ⟨c1, d1⟩ | ⟨c1, d1⟩ | ⟨c1, d1⟩ | ⟨c1, d1⟩ | ⟨c1, d1⟩ | ⟨c1, d1⟩ <;> rcases V j hj with ⟨c2, d2⟩ | ⟨c2, d2⟩ | ⟨c2, d2⟩ | ⟨c2, d2⟩ | ⟨c2, d2⟩ | ⟨c2, d2⟩ <;> rw [d1, d2] at e'
    · exact cdinj i j c1 c2 e'
    · have := cd2 i c1; omega
    · have := cd2 i c1; omega
    · have := cd2 i c1; omega
    · have := cd2 i c1; omega
    · exact absurd e' (o4 i c1)
    · have := cd2 j c2; omega
    · omega
    · omega
    · omega
    · omega
    · omega
    · have := cd2 j c2; omega
    · omega
    · omega
    · omega
    · omega
    · omega
    · have := cd2 j c2; omega
    · omega
    · omega
    · omega
    · omega
    · omega
    · have := cd2 j c2; omega
    · omega
    · omega
    · omega
    · omega
    · omega
    · exact absurd e'.symm (o4 j c2)
    · omega
    · omega
    · omega
    · omega
    · omega)
  omega
end BD
end
section
/-! the slopes that pairs and threes of sums tell -/
theorem cs93 {X Y V : Nat → Int} {n : Nat} {X2 Y2 V2 : Nat → Int} {n2 : Nat} (ho : bo_ok X Y V n) (ho2 : bo_ok X2 Y2 V2 n2) {τ : Nat → Tr} {m : Nat} (hc : ∀ i, i < m → CS X Y V n X2 Y2 V2 n2 (τ i)) (hd : ∀ i j, i < m → j < m → teq (τ i) (τ j) → i = j) : m ≤ 93 := by
  have hn := ho.1
  have hn2 := ho2.1
  refine bound93 (px := fun s => X (s / 7) + X2 (s % 7)) (py := fun s => Y (s / 7) + Y2 (s % 7)) (pw := fun s => V (s / 7) + V2 (s % 7)) (vs := fun s => s / 7 < n ∧ s % 7 < n2) (fun s _ h => ?_) (τ := τ) (fun i hi => (hc i hi).1) (fun i hi => ?_) hd
  · have a := ho.2 (s / 7) h.1
    have b := ho2.2 (s % 7) h.2
    show 0 ≤ X (s / 7) + X2 (s % 7) ∧ X (s / 7) + X2 (s % 7) ≤ 24
    omega
  · obtain ⟨hw, i1, i2, i3, j1, j2, j3, ⟨a1, a2, a3⟩, ⟨b1, b2, b3⟩, c⟩ := hc i hi
    have L : ∀ i0 j0, lwm (th X Y V (τ i)) n i0 → lwm (th X2 Y2 V2 (τ i)) n2 j0 → (7 * i0 + j0) / 7 = i0 ∧ (7 * i0 + j0) % 7 = j0 ∧ lsp (fun s => X (s / 7) + X2 (s % 7)) (fun s => Y (s / 7) + Y2 (s % 7)) (fun s => V (s / 7) + V2 (s % 7)) (fun s => s / 7 < n ∧ s % 7 < n2) (τ i) (7 * i0 + j0) := fun i0 j0 h1 h2 => by
      have p1 := h1.1
      have p2 := h2.1
      have e1 : (7 * i0 + j0) / 7 = i0 := by omega
      have e2 : (7 * i0 + j0) % 7 = j0 := by omega
      refine ⟨e1, e2, by omega, by dsimp only; rw [e1, e2]; exact ⟨p1, p2⟩, fun r _ hv => ?_⟩
      have q1 := h1.2 _ hv.1
      have q2 := h2.2 _ hv.2
      unfold hs
      dsimp only
      rw [e1, e2]
      unfold th bo_h at q1 q2
      have s1 : (τ i).2.2 * (V i0 + V2 j0) + (τ i).1 * (X i0 + X2 j0) + (τ i).2.1 * (Y i0 + Y2 j0) = ((τ i).2.2 * V i0 + (τ i).1 * X i0 + (τ i).2.1 * Y i0) + ((τ i).2.2 * V2 j0 + (τ i).1 * X2 j0 + (τ i).2.1 * Y2 j0) := by grind
      have s2 : (τ i).2.2 * (V (r / 7) + V2 (r % 7)) + (τ i).1 * (X (r / 7) + X2 (r % 7)) + (τ i).2.1 * (Y (r / 7) + Y2 (r % 7)) = ((τ i).2.2 * V (r / 7) + (τ i).1 * X (r / 7) + (τ i).2.1 * Y (r / 7)) + ((τ i).2.2 * V2 (r % 7) + (τ i).1 * X2 (r % 7) + (τ i).2.1 * Y2 (r % 7)) := by grind
      rw [s1, s2]
      omega
    obtain ⟨e1, f1, g1⟩ := L i1 j1 a1 b1
    obtain ⟨e2, f2, g2⟩ := L i2 j2 a2 b2
    obtain ⟨e3, f3, g3⟩ := L i3 j3 a3 b3
    refine ⟨_, _, _, g1, g2, g3, ?_⟩
    unfold tp
    simp only [e1, f1, e2, f2, e3, f3]
    exact c
/-- the slope at which both differences have no height -/
def pr3 (x1 y1 w1 x2 y2 w2 : Int) : Tr := if x1 * y2 - x2 * y1 < 0 then (-1 * (w2 * y1 - w1 * y2), -1 * (w1 * x2 - w2 * x1), -1 * (x1 * y2 - x2 * y1)) else (1 * (w2 * y1 - w1 * y2), 1 * (w1 * x2 - w2 * x1), 1 * (x1 * y2 - x2 * y1))
theorem pr3_pos {x1 y1 w1 x2 y2 w2 : Int} (h : x1 * y2 - x2 * y1 ≠ 0) : 0 < (pr3 x1 y1 w1 x2 y2 w2).2.2 := by
  unfold pr3; split
  · show 0 < -1 * _; omega
  · show 0 < 1 * _; omega
theorem pr3_teq {x1 y1 w1 x2 y2 w2 : Int} {t : Tr} (e1 : t.2.2 * w1 + t.1 * x1 + t.2.1 * y1 = 0) (e2 : t.2.2 * w2 + t.1 * x2 + t.2.1 * y2 = 0) : teq t (pr3 x1 y1 w1 x2 y2 w2) := by
  have a : t.1 * (x1 * y2 - x2 * y1) = (w2 * y1 - w1 * y2) * t.2.2 := by
    have : t.1 * (x1 * y2 - x2 * y1) - (w2 * y1 - w1 * y2) * t.2.2 = y2 * (t.2.2 * w1 + t.1 * x1 + t.2.1 * y1) - y1 * (t.2.2 * w2 + t.1 * x2 + t.2.1 * y2) := by grind
    rw [e1, e2] at this; omega
  have b : t.2.1 * (x1 * y2 - x2 * y1) = (w1 * x2 - w2 * x1) * t.2.2 := by
    have : t.2.1 * (x1 * y2 - x2 * y1) - (w1 * x2 - w2 * x1) * t.2.2 = x1 * (t.2.2 * w2 + t.1 * x2 + t.2.1 * y2) - x2 * (t.2.2 * w1 + t.1 * x1 + t.2.1 * y1) := by grind
    rw [e1, e2] at this; omega
  unfold pr3
  split
  · refine ⟨?_, ?_⟩
    · show t.1 * (-1 * (x1 * y2 - x2 * y1)) = -1 * (w2 * y1 - w1 * y2) * t.2.2
      grind
    · show t.2.1 * (-1 * (x1 * y2 - x2 * y1)) = -1 * (w1 * x2 - w2 * x1) * t.2.2
      grind
  · refine ⟨?_, ?_⟩
    · show t.1 * (1 * (x1 * y2 - x2 * y1)) = 1 * (w2 * y1 - w1 * y2) * t.2.2
      grind
    · show t.2.1 * (1 * (x1 * y2 - x2 * y1)) = 1 * (w1 * x2 - w2 * x1) * t.2.2
      grind
/-- two low points of a body: their difference has no height -/
theorem lwm_dif {X Y V : Nat → Int} {t : Tr} {n i j : Nat} (h1 : lwm (th X Y V t) n i) (h2 : lwm (th X Y V t) n j) : t.2.2 * (V j - V i) + t.1 * (X j - X i) + t.2.1 * (Y j - Y i) = 0 := by
  have a := h1.2 j h2.1
  have b := h2.2 i h1.1
  unfold th bo_h at a b
  have : t.2.2 * (V j - V i) + t.1 * (X j - X i) + t.2.1 * (Y j - Y i) = (t.2.2 * V j + t.1 * X j + t.2.1 * Y j) - (t.2.2 * V i + t.1 * X i + t.2.1 * Y i) := by grind
  omega
section CND
variable {X Y V : Nat → Int} {n : Nat} {X2 Y2 V2 : Nat → Int} {n2 : Nat} {t : Tr}
theorem cs_AA (ht : 0 < t.2.2) (hn : 0 < n2) {i j k : Nat} (h1 : lwm (th X Y V t) n i) (h2 : lwm (th X Y V t) n j) (h3 : lwm (th X Y V t) n k) (hc : (X j - X i) * (Y k - Y i) - (X k - X i) * (Y j - Y i) ≠ 0) : CS X Y V n X2 Y2 V2 n2 t := by
  obtain ⟨l, hl⟩ := lwm_ex (th X2 Y2 V2 t) n2 hn
  refine ⟨ht, i, j, k, l, l, l, ⟨h1, h2, h3⟩, ⟨hl, hl, hl⟩, fun z => hc ?_⟩
  unfold tu at z
  grind
theorem cs_BB (ht : 0 < t.2.2) (hn : 0 < n) {i j k : Nat} (h1 : lwm (th X2 Y2 V2 t) n2 i) (h2 : lwm (th X2 Y2 V2 t) n2 j) (h3 : lwm (th X2 Y2 V2 t) n2 k) (hc : (X2 j - X2 i) * (Y2 k - Y2 i) - (X2 k - X2 i) * (Y2 j - Y2 i) ≠ 0) : CS X Y V n X2 Y2 V2 n2 t := by
  obtain ⟨l, hl⟩ := lwm_ex (th X Y V t) n hn
  refine ⟨ht, l, l, l, i, j, k, ⟨hl, hl, hl⟩, ⟨h1, h2, h3⟩, fun z => hc ?_⟩
  unfold tu at z
  grind
theorem cs_AB (ht : 0 < t.2.2) {i j k l : Nat} (h1 : lwm (th X Y V t) n i) (h2 : lwm (th X Y V t) n j) (h3 : lwm (th X2 Y2 V2 t) n2 k) (h4 : lwm (th X2 Y2 V2 t) n2 l) (hc : (X j - X i) * (Y2 l - Y2 k) - (X2 l - X2 k) * (Y j - Y i) ≠ 0) : CS X Y V n X2 Y2 V2 n2 t := by
  refine ⟨ht, i, j, i, k, k, l, ⟨h1, h2, h1⟩, ⟨h3, h3, h4⟩, fun z => hc ?_⟩
  unfold tu at z
  grind
/-- three numbers in their order -/
theorem ord3 {P : Nat → Prop} {c : Nat → Nat → Nat → Int} (hs1 : ∀ i j k, c i j k = -c i k j) (hs2 : ∀ i j k, c i j k = c j k i) (hz : ∀ i j, c i i j = 0) {i j k : Nat} (h1 : P i) (h2 : P j) (h3 : P k) (hc : c i j k ≠ 0) : ∃ a b d, a < b ∧ b < d ∧ P a ∧ P b ∧ P d ∧ c a b d ≠ 0 := by
  have n1 : i ≠ j := fun e => hc (by rw [e]; exact hz _ _)
  have n2 : j ≠ k := fun e => hc (by rw [e, hs2]; exact hz _ _)
  have n3 : i ≠ k := fun e => hc (by rw [hs1, e, hz]; rfl)
  have a1 := hs1 i j k
  have a2 := hs2 i j k
  have a3 := hs2 j k i
  have a4 := hs2 i k j
  have a5 := hs2 k j i
  by_cases c1 : i < j
  · by_cases c2 : j < k
    · exact ⟨i, j, k, c1, c2, h1, h2, h3, hc⟩
    · by_cases c3 : i < k
      · exact ⟨i, k, j, c3, by omega, h1, h3, h2, by omega⟩
      · exact ⟨k, i, j, by omega, c1, h3, h1, h2, by omega⟩
  · by_cases c2 : i < k
    · exact ⟨j, i, k, by omega, c2, h2, h1, h3, by omega⟩
    · by_cases c3 : j < k
      · exact ⟨j, k, i, c3, by omega, h2, h3, h1, by omega⟩
      · exact ⟨k, j, i, by omega, by omega, h3, h2, h1, by omega⟩
theorem cs_find (h : CS X Y V n X2 Y2 V2 n2 t) : (∃ i j k, i < j ∧ j < k ∧ lwm (th X Y V t) n i ∧ lwm (th X Y V t) n j ∧ lwm (th X Y V t) n k ∧ (X j - X i) * (Y k - Y i) - (X k - X i) * (Y j - Y i) ≠ 0) ∨ (∃ i j k, i < j ∧ j < k ∧ lwm (th X2 Y2 V2 t) n2 i ∧ lwm (th X2 Y2 V2 t) n2 j ∧ lwm (th X2 Y2 V2 t) n2 k ∧ (X2 j - X2 i) * (Y2 k - Y2 i) - (X2 k - X2 i) * (Y2 j - Y2 i) ≠ 0) ∨ ∃ i j k l, i < j ∧ k < l ∧ lwm (th X Y V t) n i ∧ lwm (th X Y V t) n j ∧ lwm (th X2 Y2 V2 t) n2 k ∧ lwm (th X2 Y2 V2 t) n2 l ∧ (X j - X i) * (Y2 l - Y2 k) - (X2 l - X2 k) * (Y j - Y i) ≠ 0 := by
  obtain ⟨ht, i1, i2, i3, j1, j2, j3, ⟨a1, a2, a3⟩, ⟨b1, b2, b3⟩, hc⟩ := h
  have T : ∀ (U W : Nat → Int) (P : Nat → Prop) (i j k : Nat), P i → P j → P k → (U j - U i) * (W k - W i) - (U k - U i) * (W j - W i) ≠ 0 → ∃ a b d, a < b ∧ b < d ∧ P a ∧ P b ∧ P d ∧ (U b - U a) * (W d - W a) - (U d - U a) * (W b - W a) ≠ 0 := fun U W P i j k p1 p2 p3 p4 =>
    ord3 (P := P) (c := fun i j k => (U j - U i) * (W k - W i) - (U k - U i) * (W j - W i)) (fun i j k => by grind) (fun i j k => by grind) (fun i j => by grind) p1 p2 p3 p4
  have Q : ∀ (i j k l : Nat), lwm (th X Y V t) n i → lwm (th X Y V t) n j → lwm (th X2 Y2 V2 t) n2 k → lwm (th X2 Y2 V2 t) n2 l → (X j - X i) * (Y2 l - Y2 k) - (X2 l - X2 k) * (Y j - Y i) ≠ 0 → ∃ i j k l, i < j ∧ k < l ∧ lwm (th X Y V t) n i ∧ lwm (th X Y V t) n j ∧ lwm (th X2 Y2 V2 t) n2 k ∧ lwm (th X2 Y2 V2 t) n2 l ∧ (X j - X i) * (Y2 l - Y2 k) - (X2 l - X2 k) * (Y j - Y i) ≠ 0 := fun i j k l p1 p2 p3 p4 p5 => by
    have m1 : i ≠ j := fun e => p5 (by rw [e]; grind)
    have m2 : k ≠ l := fun e => p5 (by rw [e]; grind)
    by_cases c1 : i < j <;> by_cases c2 : k < l
    · exact ⟨i, j, k, l, c1, c2, p1, p2, p3, p4, p5⟩
    · exact ⟨i, j, l, k, c1, by omega, p1, p2, p4, p3, fun z => p5 (by grind)⟩
    · exact ⟨j, i, k, l, by omega, c2, p2, p1, p3, p4, fun z => p5 (by grind)⟩
    · exact ⟨j, i, l, k, by omega, by omega, p2, p1, p4, p3, fun z => p5 (by grind)⟩
  by_cases q1 : (X i2 - X i1) * (Y i3 - Y i1) - (X i3 - X i1) * (Y i2 - Y i1) = 0
  · by_cases q2 : (X2 j2 - X2 j1) * (Y2 j3 - Y2 j1) - (X2 j3 - X2 j1) * (Y2 j2 - Y2 j1) = 0
    · by_cases q3 : (X i2 - X i1) * (Y2 j3 - Y2 j1) - (X2 j3 - X2 j1) * (Y i2 - Y i1) = 0
      · by_cases q4 : (X i3 - X i1) * (Y2 j2 - Y2 j1) - (X2 j2 - X2 j1) * (Y i3 - Y i1) = 0
        · exfalso
          apply hc
          unfold tu
          have : (X i2 + X2 j2 - (X i1 + X2 j1)) * (Y i3 + Y2 j3 - (Y i1 + Y2 j1)) - (Y i2 + Y2 j2 - (Y i1 + Y2 j1)) * (X i3 + X2 j3 - (X i1 + X2 j1)) = ((X i2 - X i1) * (Y i3 - Y i1) - (X i3 - X i1) * (Y i2 - Y i1)) + ((X2 j2 - X2 j1) * (Y2 j3 - Y2 j1) - (X2 j3 - X2 j1) * (Y2 j2 - Y2 j1)) + ((X i2 - X i1) * (Y2 j3 - Y2 j1) - (X2 j3 - X2 j1) * (Y i2 - Y i1)) - ((X i3 - X i1) * (Y2 j2 - Y2 j1) - (X2 j2 - X2 j1) * (Y i3 - Y i1)) := by grind
          rw [this, q1, q2, q3, q4]; rfl
        · exact Or.inr (Or.inr (Q i1 i3 j1 j2 a1 a3 b1 b2 q4))
      · exact Or.inr (Or.inr (Q i1 i2 j1 j3 a1 a2 b1 b3 q3))
    · exact Or.inr (Or.inl (T X2 Y2 _ j1 j2 j3 b1 b2 b3 q2))
  · exact Or.inl (T X Y _ i1 i2 i3 a1 a2 a3 q1)
end CND
/-! fractions in lowest terms -/
def fU (u w : Int) : Int := u.tdiv (Nat.gcd u.natAbs w.natAbs : Int)
def fL (u w : Int) : Int := w.tdiv (Nat.gcd u.natAbs w.natAbs : Int)
theorem f_ok {u w : Int} (hw : 0 < w) : 0 < (Nat.gcd u.natAbs w.natAbs : Int) ∧ u = (Nat.gcd u.natAbs w.natAbs : Int) * fU u w ∧ w = (Nat.gcd u.natAbs w.natAbs : Int) * fL u w ∧ 0 < fL u w ∧ Nat.gcd (fU u w).natAbs (fL u w).natAbs = 1 := by
  have g0 : 0 < Nat.gcd u.natAbs w.natAbs := Nat.gcd_pos_of_pos_right _ (by omega)
  have d1 : (Nat.gcd u.natAbs w.natAbs : Int) ∣ u := Int.ofNat_dvd_left.mpr (Nat.gcd_dvd_left _ _)
  have d2 : (Nat.gcd u.natAbs w.natAbs : Int) ∣ w := Int.ofNat_dvd_left.mpr (Nat.gcd_dvd_right _ _)
  have e1 : u = (Nat.gcd u.natAbs w.natAbs : Int) * fU u w := (Int.mul_tdiv_cancel' d1).symm
  have e2 : w = (Nat.gcd u.natAbs w.natAbs : Int) * fL u w := (Int.mul_tdiv_cancel' d2).symm
  have p : 0 < fL u w := by
    by_cases q : 0 < fL u w
    · exact q
    · have := mn_l (show 0 < (Nat.gcd u.natAbs w.natAbs : Int) by omega) (show fL u w ≤ 0 by omega)
      omega
  refine ⟨by omega, e1, e2, p, ?_⟩
  have n1 : u.natAbs = Nat.gcd u.natAbs w.natAbs * (fU u w).natAbs := by
    have := congrArg Int.natAbs e1
    rw [Int.natAbs_mul, Int.natAbs_natCast] at this
    exact this
  have n2 : w.natAbs = Nat.gcd u.natAbs w.natAbs * (fL u w).natAbs := by
    have := congrArg Int.natAbs e2
    rw [Int.natAbs_mul, Int.natAbs_natCast] at this
    exact this
  have n3 : Nat.gcd u.natAbs w.natAbs = Nat.gcd u.natAbs w.natAbs * Nat.gcd (fU u w).natAbs (fL u w).natAbs := by
    rw [← Nat.gcd_mul_left, ← n1, ← n2]
  generalize Nat.gcd u.natAbs w.natAbs = g at *
  exact Nat.eq_of_mul_eq_mul_left g0 (by omega)
theorem f_same {u w u2 w2 : Int} (hw : 0 < w) (hw2 : 0 < w2) (e : u * w2 = u2 * w) : fU u w = fU u2 w2 ∧ fL u w = fL u2 w2 := by
  obtain ⟨g0, e1, e2, p, c⟩ := f_ok (u := u) hw
  obtain ⟨h0, f1, f2, q, d⟩ := f_ok (u := u2) hw2
  generalize (Nat.gcd u.natAbs w.natAbs : Int) = g at *
  generalize (Nat.gcd u2.natAbs w2.natAbs : Int) = k at *
  generalize fU u w = a at *
  generalize fL u w = b at *
  generalize fU u2 w2 = a2 at *
  generalize fL u2 w2 = b2 at *
  have m : a * b2 = a2 * b := by
    rw [e1, f2, f1, e2] at e
    have z : (g * k) * (a * b2 - a2 * b) = 0 := by
      have : (g * k) * (a * b2 - a2 * b) = g * a * (k * b2) - k * a2 * (g * b) := by grind
      rw [this, e]; omega
    rcases Int.mul_eq_zero.mp z with z | z
    · have := Int.mul_pos g0 h0; omega
    · omega
  have mN : a.natAbs * b2.natAbs = a2.natAbs * b.natAbs := by rw [← Int.natAbs_mul, ← Int.natAbs_mul, m]
  have k1 : b.natAbs ∣ b2.natAbs := by
    have cp : Nat.Coprime b.natAbs a.natAbs := by unfold Nat.Coprime; rw [Nat.gcd_comm]; exact c
    exact cp.dvd_of_dvd_mul_left (show b.natAbs ∣ a.natAbs * b2.natAbs by rw [mN]; exact Nat.dvd_mul_left _ _)
  have k2 : b2.natAbs ∣ b.natAbs := by
    have cp : Nat.Coprime b2.natAbs a2.natAbs := by unfold Nat.Coprime; rw [Nat.gcd_comm]; exact d
    exact cp.dvd_of_dvd_mul_left (show b2.natAbs ∣ a2.natAbs * b.natAbs by rw [← mN]; exact Nat.dvd_mul_left _ _)
  have k3 := Nat.dvd_antisymm k1 k2
  have eb : b = b2 := by omega
  subst eb
  refine ⟨?_, rfl⟩
  have z : b * (a - a2) = 0 := by
    have : b * (a - a2) = a * b - a2 * b := by grind
    omega
  rcases Int.mul_eq_zero.mp z with z | z <;> omega
/-- comparing fractions in lowest terms -/
theorem f_lt {u w u2 w2 : Int} (hw : 0 < w) (hw2 : 0 < w2) : (fU u w * fL u2 w2 < fU u2 w2 * fL u w ↔ u * w2 < u2 * w) ∧ (fU u w * fL u2 w2 = fU u2 w2 * fL u w ↔ u * w2 = u2 * w) := by
  obtain ⟨g0, e1, e2, p, c⟩ := f_ok (u := u) hw
  obtain ⟨h0, f1, f2, q, d⟩ := f_ok (u := u2) hw2
  generalize (Nat.gcd u.natAbs w.natAbs : Int) = g at *
  generalize (Nat.gcd u2.natAbs w2.natAbs : Int) = k at *
  generalize fU u w = a at *
  generalize fL u w = b at *
  generalize fU u2 w2 = a2 at *
  generalize fL u2 w2 = b2 at *
  have gk := Int.mul_pos g0 h0
  have id : u * w2 - u2 * w = (g * k) * (a * b2 - a2 * b) := by rw [e1, e2, f1, f2]; grind
  refine ⟨⟨fun z => ?_, fun z => ?_⟩, ⟨fun z => ?_, fun z => ?_⟩⟩
  · have := mn_n gk (show a * b2 - a2 * b < 0 by omega); omega
  · have := ps_n gk (show (g * k) * (a * b2 - a2 * b) < 0 by omega); omega
  · have : a * b2 - a2 * b = 0 := by omega
    rw [this, Int.mul_zero] at id; omega
  · have z2 : (g * k) * (a * b2 - a2 * b) = 0 := by omega
    rcases Int.mul_eq_zero.mp z2 with z3 | z3 <;> omega
end
section
section CE
variable {p : Program} {l : Launch} {e : Env} {R : Room} {s : State} {m : MethodId} {args : Array Value} {below : List Frame} {meth : Method} {c : Code} {b : Nat} {D : va_G} {dA : Nat → ClassId} {nL n0 z0 : Nat} {Q : State → Prop} {pc : Nat} {L : List (Option ax_V)} {st : List ax_V} {h hb : ax_H} {a : Nat}
/-- a store into an object of kind ci, looked at as that cell alone -/
theorem ob_s {ci : Nat} {fs fs2 : List ax_V} (B : h[a]? = some (.inr (ci, fs))) (S : ax_sm a (a + 1) hb h) (hl : fs2.length = fs.length) (k : ∀ hh : ax_H, hh[a]? = some (.inr (ci, fs2)) → ax_sm a (a + 1) hb hh → ax_G p l e R s m args below meth c b D dA nL n0 z0 Q pc L st hh) : ax_G p l e R s m args below meth c b D dA nL n0 z0 Q pc L st (h.set a (.inr (ci, fs2))) := k _ (ax_gs B) (S.tr (ax_sm.set B hl (by omega) (by omega)))
end CE
theorem t_setSlope {h : ax_H} {a : Nat} {x1 x2 x3 x4 x5 x6 : Int} (hC : h[a]? = some (.inr (1, [iv x1, iv x2, iv x3, iv x4, iv x5, iv x6]))) {u v w : Int} (hu : -1000000 ≤ u ∧ u ≤ 1000000) (hv : -1000000 ≤ v ∧ v ≤ 1000000) (hw : 0 < w ∧ w ≤ 1000000) : ax_Mt MX1_setSlope [rv a, iv u, iv v, iv w] h (fun r h' => r = none ∧ h'[a]? = some (.inr (1, [iv (fU u w), iv (fL u w), iv (fU v w), iv (fL v w), iv x5, iv x6])) ∧ ax_sm a (a + 1) h h') := by
  have hm := ax_sm.rf (lo := a) (hi := a + 1) h
  have g1 := (f_ok (u := u) hw.1).1
  have g2 := (f_ok (u := v) hw.1).1
  have g3 : Nat.gcd u.natAbs w.natAbs ≤ w.natAbs := Nat.gcd_le_right _ (by omega)
  have g4 : Nat.gcd v.natAbs w.natAbs ≤ w.natAbs := Nat.gcd_le_right _ (by omega)
  refine ax_rv (L0 := [some (rv a), some (iv u), some (iv v), some (iv w), none, none]) rfl rfl (Nat.le_of_ble_eq_true rfl) rfl ?_
  intro p9 l9 e9 R9 s9 m9 args9 below9 meth9 c9 b9 D9 dA9 Q9 C kr
  refine g_iconst C dX1_setSlope_0 ?_
  refine g_iload_n C dX1_setSlope_1 rfl ?_
  refine g_mabs C dX1_setSlope_2 LX1_7 (by decide) (Nat.le_of_ble_eq_true rfl) (by omega) ?_
  refine g_top (ax_abs _) ?_
  refine g_iload_n C dX1_setSlope_5 rfl ?_
  refine g_top (show w = (w.natAbs : Int) by omega) ?_
  refine g_SN C (t_commonDivisor (by omega) (by omega)) dX1_setSlope_6 KX4_commonDivisor LX1_13 SX4_commonDivisor (by decide) rfl rfl (Nat.le_of_ble_eq_true rfl) ⟨rfl, rfl⟩ ?_
  dsimp only [Option.toList, List.cons_append, List.nil_append]
  refine g_mmax C dX1_setSlope_9 LX1_19 (by decide) (Nat.le_of_ble_eq_true rfl) (by omega) (by omega) ?_
  refine g_top (show _ = (Nat.gcd u.natAbs w.natAbs : Int) from by split <;> omega) ?_
  refine g_istore C dX1_setSlope_12 (by decide) rfl ?_
  dsimp only [List.set]
  refine g_iconst C dX1_setSlope_14 ?_
  refine g_iload_n C dX1_setSlope_15 rfl ?_
  refine g_mabs C dX1_setSlope_16 LX1_7 (by decide) (Nat.le_of_ble_eq_true rfl) (by omega) ?_
  refine g_top (ax_abs _) ?_
  refine g_iload_n C dX1_setSlope_19 rfl ?_
  refine g_top (show w = (w.natAbs : Int) by omega) ?_
  refine g_SN C (t_commonDivisor (by omega) (by omega)) dX1_setSlope_20 KX4_commonDivisor LX1_13 SX4_commonDivisor (by decide) rfl rfl (Nat.le_of_ble_eq_true rfl) ⟨rfl, rfl⟩ ?_
  dsimp only [Option.toList, List.cons_append, List.nil_append]
  refine g_mmax C dX1_setSlope_23 LX1_19 (by decide) (Nat.le_of_ble_eq_true rfl) (by omega) (by omega) ?_
  refine g_top (show _ = (Nat.gcd v.natAbs w.natAbs : Int) from by split <;> omega) ?_
  refine g_istore C dX1_setSlope_26 (by decide) rfl ?_
  dsimp only [List.set]
  refine g_aload_n C dX1_setSlope_28 rfl ?_
  refine g_iload_n C dX1_setSlope_29 rfl ?_
  refine g_iload C dX1_setSlope_30 rfl ?_
  refine g_idiv C dX1_setSlope_32 (by omega) (by omega) (by omega) ?_
  refine g_put C FX1_22 dX1_setSlope_33 (by assumption) rfl rfl (Nat.le_of_ble_eq_true rfl) ?_
  dsimp only [List.set]
  refine ob_s hC hm rfl ?_
  intro h9 hC hm
  refine g_aload_n C dX1_setSlope_36 rfl ?_
  refine g_iload_n C dX1_setSlope_37 rfl ?_
  refine g_iload C dX1_setSlope_38 rfl ?_
  refine g_idiv C dX1_setSlope_40 (by omega) (by omega) (by omega) ?_
  refine g_put C FX1_28 dX1_setSlope_41 (by assumption) rfl rfl (Nat.le_of_ble_eq_true rfl) ?_
  dsimp only [List.set]
  refine ob_s hC hm rfl ?_
  intro h9 hC hm
  refine g_aload_n C dX1_setSlope_44 rfl ?_
  refine g_iload_n C dX1_setSlope_45 rfl ?_
  refine g_iload C dX1_setSlope_46 rfl ?_
  refine g_idiv C dX1_setSlope_48 (by omega) (by omega) (by omega) ?_
  refine g_put C FX1_31 dX1_setSlope_49 (by assumption) rfl rfl (Nat.le_of_ble_eq_true rfl) ?_
  dsimp only [List.set]
  refine ob_s hC hm rfl ?_
  intro h9 hC hm
  refine g_aload_n C dX1_setSlope_52 rfl ?_
  refine g_iload_n C dX1_setSlope_53 rfl ?_
  refine g_iload C dX1_setSlope_54 rfl ?_
  refine g_idiv C dX1_setSlope_56 (by omega) (by omega) (by omega) ?_
  refine g_put C FX1_34 dX1_setSlope_57 (by assumption) rfl rfl (Nat.le_of_ble_eq_true rfl) ?_
  dsimp only [List.set]
  refine ob_s hC hm rfl ?_
  intro h9 hC hm
  exact kr _ _ _ dX1_setSlope_60 ⟨rfl, hC, hm⟩ hm.1
/-- a slope as a Cell holds it, with its low points -/
def rcd (LA LB : Tr → Int) (t : Tr) : List ax_V := [iv (fU t.1 t.2.2), iv (fL t.1 t.2.2), iv (fU t.2.1 t.2.2), iv (fL t.2.1 t.2.2), iv (LA t), iv (LB t)]
def cmp3 (s t : Tr) : Int := if s.1 * t.2.2 < t.1 * s.2.2 then -1 else if s.1 * t.2.2 = t.1 * s.2.2 then (if s.2.1 * t.2.2 < t.2.1 * s.2.2 then -1 else if s.2.1 * t.2.2 = t.2.1 * s.2.2 then 0 else 1) else 1
theorem cmp3_lt (s t : Tr) : cmp3 s t < 0 ↔ tlt s t := by
  unfold cmp3 tlt
  constructor
  · intro z
    split at z
    · exact Or.inl (by assumption)
    · split at z
      · split at z
        · exact Or.inr ⟨by assumption, by assumption⟩
        · split at z <;> omega
      · omega
  · rintro (z | ⟨z1, z2⟩)
    · rw [if_pos z]; omega
    · rw [if_neg (by omega), if_pos z1, if_pos z2]; omega
theorem cmp3_eq (s t : Tr) : cmp3 s t = 0 ↔ teq s t := by
  unfold cmp3 teq
  constructor
  · intro z
    split at z
    · omega
    · split at z
      · split at z
        · omega
        · split at z
          · exact ⟨by assumption, by assumption⟩
          · omega
      · omega
  · rintro ⟨z1, z2⟩
    rw [if_neg (by omega), if_pos z1, if_neg (by omega), if_pos z2]
theorem cmp3_in (s t : Tr) : -1 ≤ cmp3 s t ∧ cmp3 s t ≤ 1 := by
  unfold cmp3
  split
  · omega
  · split
    · split
      · omega
      · split <;> omega
    · omega
def tbd (t : Tr) : Prop := (-10000 ≤ t.1 ∧ t.1 ≤ 10000) ∧ (-10000 ≤ t.2.1 ∧ t.2.1 ≤ 10000) ∧ (0 < t.2.2 ∧ t.2.2 ≤ 10000)
theorem f_in {u w : Int} (hw : 0 < w) : (-(u.natAbs : Int) ≤ fU u w ∧ fU u w ≤ (u.natAbs : Int)) ∧ (0 < fL u w ∧ fL u w ≤ w) := by
  obtain ⟨g0, e1, e2, p, c⟩ := f_ok (u := u) hw
  generalize (Nat.gcd u.natAbs w.natAbs : Int) = g at *
  generalize hfu : fU u w = a at *
  generalize hfl : fL u w = b at *
  have h1 : b ≤ w := by
    have := Int.mul_le_mul_of_nonneg_right (show 1 ≤ g by omega) (Int.le_of_lt p)
    omega
  refine ⟨?_, p, h1⟩
  by_cases q : 0 ≤ a
  · have := Int.mul_le_mul_of_nonneg_right (show 1 ≤ g by omega) q
    omega
  · have := Int.mul_le_mul_of_nonneg_right (show 1 ≤ g by omega) (show 0 ≤ -a by omega)
    rw [Int.mul_neg, Int.mul_neg] at this
    omega
theorem t_compareSlope {h : ax_H} {a a2 : Nat} {LA LB : Tr → Int} {s t : Tr} (h1 : h[a]? = some (.inr (1, rcd LA LB s))) (h2 : h[a2]? = some (.inr (1, rcd LA LB t))) (hs : tbd s) (ht : tbd t) : ax_Met MX1_compareSlope [rv a, rv a2] h (some (iv (cmp3 s t))) h := by
  have b1 := f_in (u := s.1) hs.2.2.1
  have b2 := f_in (u := s.2.1) hs.2.2.1
  have b3 := f_in (u := t.1) ht.2.2.1
  have b4 := f_in (u := t.2.1) ht.2.2.1
  obtain ⟨s1, s2, s3⟩ := hs
  obtain ⟨t1, t2, t3⟩ := ht
  have m1 := mb (u := fU s.1 s.2.2) (x := fL t.1 t.2.2) (U := 10000) (M := 10000) (by omega) (by omega)
  have m2 := mb (u := fU t.1 t.2.2) (x := fL s.1 s.2.2) (U := 10000) (M := 10000) (by omega) (by omega)
  have m3 := mb (u := fU s.2.1 s.2.2) (x := fL t.2.1 t.2.2) (U := 10000) (M := 10000) (by omega) (by omega)
  have m4 := mb (u := fU t.2.1 t.2.2) (x := fL s.2.1 s.2.2) (U := 10000) (M := 10000) (by omega) (by omega)
  have k1 := f_lt (u := s.1) (w := s.2.2) (u2 := t.1) (w2 := t.2.2) s3.1 t3.1
  have k2 := f_lt (u := s.2.1) (w := s.2.2) (u2 := t.2.1) (w2 := t.2.2) s3.1 t3.1
  unfold rcd at h1 h2
  refine ax_mi (L0 := [some (rv a), some (rv a2), none]) rfl rfl (Nat.le_refl _) (Nat.le_refl _) (Nat.le_of_ble_eq_true rfl) rfl ?_
  intro p9 l9 e9 R9 s9 m9 args9 below9 meth9 c9 b9 D9 dA9 Q9 C kr
  refine g_aload_n C dX1_compareSlope_0 rfl ?_
  refine g_get C FX1_22 dX1_compareSlope_1 (by assumption) rfl ?_
  refine g_aload_n C dX1_compareSlope_4 rfl ?_
  refine g_get C FX1_28 dX1_compareSlope_5 (by assumption) rfl ?_
  refine g_imul C dX1_compareSlope_8 ?_
  refine g_aload_n C dX1_compareSlope_9 rfl ?_
  refine g_get C FX1_22 dX1_compareSlope_10 (by assumption) rfl ?_
  refine g_aload_n C dX1_compareSlope_13 rfl ?_
  refine g_get C FX1_28 dX1_compareSlope_14 (by assumption) rfl ?_
  refine g_imul C dX1_compareSlope_17 ?_
  refine g_S C (t_compare (by omega) (by omega)) dX1_compareSlope_18 KJ6_compare_7cf53 LX1_37 SJ6_compare_7cf53 (by decide) rfl rfl (Nat.le_of_ble_eq_true rfl) ⟨rfl, rfl⟩ ?_
  dsimp only [Option.toList, List.cons_append, List.nil_append]
  refine g_top (show _ = (if s.1 * t.2.2 < t.1 * s.2.2 then -1 else if s.1 * t.2.2 = t.1 * s.2.2 then 0 else 1) from by simp only [k1.1, k1.2]) ?_
  refine g_istore_n C dX1_compareSlope_21 (by decide) rfl ?_
  dsimp only [List.set]
  refine g_iload_n C dX1_compareSlope_22 rfl ?_
  refine g_if_eq C dX1_compareSlope_23 (tgt := 30) (by decide) (by split <;> (try split) <;> omega) (fun h23 => ?_) (fun h23 => ?_)
  · have e0 : ¬ (s.1 * t.2.2 < t.1 * s.2.2) ∧ s.1 * t.2.2 = t.1 * s.2.2 := by
      split at h23
      · omega
      · split at h23
        · exact ⟨by assumption, by assumption⟩
        · omega
    refine g_aload_n C dX1_compareSlope_30 rfl ?_
    refine g_get C FX1_31 dX1_compareSlope_31 (by assumption) rfl ?_
    refine g_aload_n C dX1_compareSlope_34 rfl ?_
    refine g_get C FX1_34 dX1_compareSlope_35 (by assumption) rfl ?_
    refine g_imul C dX1_compareSlope_38 ?_
    refine g_aload_n C dX1_compareSlope_39 rfl ?_
    refine g_get C FX1_31 dX1_compareSlope_40 (by assumption) rfl ?_
    refine g_aload_n C dX1_compareSlope_43 rfl ?_
    refine g_get C FX1_34 dX1_compareSlope_44 (by assumption) rfl ?_
    refine g_imul C dX1_compareSlope_47 ?_
    refine g_S C (t_compare (by omega) (by omega)) dX1_compareSlope_48 KJ6_compare_7cf53 LX1_37 SJ6_compare_7cf53 (by decide) rfl rfl (Nat.le_of_ble_eq_true rfl) ⟨rfl, rfl⟩ ?_
    dsimp only [Option.toList, List.cons_append, List.nil_append]
    refine g_top (show _ = (if s.2.1 * t.2.2 < t.2.1 * s.2.2 then -1 else if s.2.1 * t.2.2 = t.2.1 * s.2.2 then 0 else 1) from by simp only [k2.1, k2.2]) ?_
    first
    | exact kr _ _ _ dX1_compareSlope_51 (by unfold cmp3; rw [if_neg e0.1, if_pos e0.2])
    | (refine kr _ _ _ dX1_compareSlope_51 ?_
       unfold cmp3
       by_cases q1 : s.1 * t.2.2 < t.1 * s.2.2
       · rw [if_pos q1, if_pos q1]
       · rw [if_neg q1, if_neg q1]
         by_cases q2 : s.1 * t.2.2 = t.1 * s.2.2
         · rw [if_neg q1, if_pos q2] at h23; exact absurd rfl h23
         · rw [if_neg q2, if_neg q2])
  · refine g_iload_n C dX1_compareSlope_26 rfl ?_
    refine g_goto C dX1_compareSlope_27 (tgt := 51) (by decide) ?_
    first
    | exact kr _ _ _ dX1_compareSlope_51 (by unfold cmp3; rw [if_neg e0.1, if_pos e0.2])
    | (refine kr _ _ _ dX1_compareSlope_51 ?_
       unfold cmp3
       by_cases q1 : s.1 * t.2.2 < t.1 * s.2.2
       · rw [if_pos q1, if_pos q1]
       · rw [if_neg q1, if_neg q1]
         by_cases q2 : s.1 * t.2.2 = t.1 * s.2.2
         · rw [if_neg q1, if_pos q2] at h23; exact absurd rfl h23
         · rw [if_neg q2, if_neg q2])
end
section
/-! Cutting: its cells as a sorted list of slopes -/
def cu_at (h : ax_H) (a : Nat) (LA LB : Tr → Int) (pp : Nat → Nat) (τ : Nat → Tr) (m : Nat) (dx dy dw en : Nat → Int) (pr : Nat) : Prop :=
  (∃ fd, ct_at h a fd m dx dy dw en pr ∧ ∀ i, i < 94 → fd i = some (pp i)) ∧ (∀ i, i < 94 → a + 6 ≤ pp i ∧ pp i < a + 100) ∧ (∀ i j, i < 94 → j < 94 → pp i = pp j → i = j) ∧ (∀ i, i < 94 → ∃ x1 x2 x3 x4 x5 x6 : Int, h[pp i]? = some (.inr (1, [iv x1, iv x2, iv x3, iv x4, iv x5, iv x6]))) ∧ (∀ i, i < m → h[pp i]? = some (.inr (1, rcd LA LB (τ i)))) ∧ m ≤ 93
theorem tsr_ins {τ σ : Nat → Tr} {m k : Nat} {t : Tr} (h : tsr τ m) (ht : 0 < t.2.2) (hk : k ≤ m) (h1 : ∀ i, i < k → tlt (τ i) t) (h2 : ∀ i, k ≤ i → i < m → tlt t (τ i)) (g1 : ∀ i, i < k → σ i = τ i) (g2 : σ k = t) (g3 : ∀ i, k < i → i ≤ m → σ i = τ (i - 1)) : tsr σ (m + 1) := by
  refine ⟨fun i hi => ?_, fun i j hij hj => ?_⟩
  · by_cases c1 : i < k
    · rw [g1 i c1]; exact h.1 i (by omega)
    · by_cases c2 : i = k
      · rw [c2, g2]; exact ht
      · rw [g3 i (by omega) (by omega)]; exact h.1 _ (by omega)
  · by_cases c1 : j < k
    · rw [g1 i (by omega), g1 j c1]; exact h.2 i j hij (by omega)
    by_cases c2 : j = k
    · rw [c2, g2, g1 i (by omega)]; exact h1 i (by omega)
    rw [g3 j (by omega) (by omega)]
    by_cases c3 : i < k
    · rw [g1 i c3]; exact h.2 i (j - 1) (by omega) (by omega)
    by_cases c4 : i = k
    · rw [c4, g2]; exact h2 (j - 1) (by omega) (by omega)
    rw [g3 i (by omega) (by omega)]
    exact h.2 (i - 1) (j - 1) (by omega) (by omega)
theorem t_sortIn {h : ax_H} {a : Nat} {LA LB : Tr → Int} {pp : Nat → Nat} {τ : Nat → Tr} {m : Nat} {dx dy dw en : Nat → Int} {pr : Nat} {t : Tr} (H : cu_at h a LA LB pp τ m dx dy dw en pr) (hs : tsr τ m) (hb : ∀ i, i < m → tbd (τ i)) (ht : tbd t) (hc : h[pp m]? = some (.inr (1, rcd LA LB t))) (hf : (∀ i, i < m → ¬ teq t (τ i)) → m < 93) : ax_Mt MX2_sortIn [rv a, rv (pp m)] h (fun r h' => r = none ∧ ∃ (pp' : Nat → Nat) (τ' : Nat → Tr) (m' : Nat), cu_at h' a LA LB pp' τ' m' dx dy dw en pr ∧ tsr τ' m' ∧ ax_sm a (a + 100) h h' ∧ (∀ i, i < m' → (∃ j, j < m ∧ τ' i = τ j) ∨ τ' i = t) ∧ (∀ j, j < m → ∃ i, i < m' ∧ τ' i = τ j) ∧ (∃ i, i < m' ∧ teq t (τ' i))) := by
  have hm := ax_sm.rf (lo := a) (hi := a + 6) h
  have H0 := H
  obtain ⟨⟨fd, hT, hfd⟩, hp1, hp2, hp3, hp4, hm93⟩ := H
  have ⟨h0, h1, h2, h3, h4, h5⟩ := hT
  refine ax_rv (L0 := [some (rv a), some (rv (pp m)), none, none, none]) rfl rfl (Nat.le_of_ble_eq_true rfl) rfl ?_
  intro p9 l9 e9 R9 s9 m9 args9 below9 meth9 c9 b9 D9 dA9 Q9 C kr
  have loop2 : ∀ (k : Nat), k ≤ m → m < 93 → (∀ i, i < k → tlt (τ i) t) → (∀ i, k ≤ i → i < m → tlt t (τ i)) → ∀ (d i : Nat) (hh : ax_H) (f1 : Nat → Option Nat), i = k + d → i ≤ m → ct_at hh a f1 m dx dy dw en pr → ax_sm a (a + 6) h hh → (∀ j, j < 94 → j ≤ i → (j < m ∨ j < i ∨ m ≤ j) → f1 j = some (pp j)) → (∀ j, i < j → j ≤ m → f1 j = some (pp (j - 1))) → (∀ j, j < 94 → m < j → f1 j = some (pp j)) → ax_G p9 l9 e9 R9 s9 m9 args9 below9 meth9 c9 b9 D9 dA9 MX2_sortIn.2.2.1 h.length (ax_sz h) Q9 (75) ([some (rv a), some (rv (pp m)), some (iv (k : Int)), some (iv 0), some (iv (i : Int))]) ([]) (hh) := by
    intro k hk hm9 k1 k2 d
    induction d with
    | zero =>
      intro i hh f1 hi him hT hm g1 g2 g3
      have ⟨h0, h1, h2, h3, h4, h5⟩ := hT
      have hc9 : hh[pp m]? = some (.inr (1, rcd LA LB t)) := (hm.2 (pp m) (Or.inr (hp1 m (by omega)).1)).trans hc
      refine g_iload C dX2_sortIn_75 rfl ?_
      refine g_iload_n C dX2_sortIn_77 rfl ?_
      refine g_icmp_le C dX2_sortIn_78 (tgt := 103) (by decide) (by omega) (by omega) (fun h78 => ?_) (fun h78 => ?_)
      · refine g_aload_n C dX2_sortIn_103 rfl ?_
        refine g_get C FX2_13 dX2_sortIn_104 (by assumption) rfl ?_
        refine g_iload_n C dX2_sortIn_107 rfl ?_
        refine g_aload_n C dX2_sortIn_108 rfl ?_
        refine g_aast C dX2_sortIn_109 (by assumption) rfl (by assumption) rfl rfl (by omega) (by decide) ?_
        refine ct_s_fd hT hm ?_
        intro h9 hT hm
        have ⟨h0, h1, h2, h3, h4, h5⟩ := hT
        refine g_aload_n C dX2_sortIn_110 rfl ?_
        refine g_dup C dX2_sortIn_111 ?_
        refine g_get C FX2_31 dX2_sortIn_112 (by assumption) rfl ?_
        refine g_iconst C dX2_sortIn_115 ?_
        refine g_iadd C dX2_sortIn_116 ?_
        refine g_put C FX2_31 dX2_sortIn_117 (by assumption) rfl rfl (Nat.le_of_ble_eq_true rfl) ?_
        dsimp only [List.set]
        refine ct_s_sz (m + 1) rfl hT hm ?_
        intro h9 hT hm
        have hp9 := hm.wide (lo2 := a) (hi2 := a + 100) (Nat.le_refl _) (by omega)
        have hcell : ∀ q, q < 94 → h9[pp q]? = h[pp q]? := fun q hq => hm.2 (pp q) (Or.inr (hp1 q hq).1)
        have P : ∀ j, j < 94 → (j < k ∧ (if j < k then pp j else if j = k then pp m else if j ≤ m then pp (j - 1) else pp j) = pp j) ∨ (j = k ∧ (if j < k then pp j else if j = k then pp m else if j ≤ m then pp (j - 1) else pp j) = pp m) ∨ (k < j ∧ j ≤ m ∧ (if j < k then pp j else if j = k then pp m else if j ≤ m then pp (j - 1) else pp j) = pp (j - 1)) ∨ (m < j ∧ (if j < k then pp j else if j = k then pp m else if j ≤ m then pp (j - 1) else pp j) = pp j) := fun j hj => by
          by_cases c1 : j < k
          · exact Or.inl ⟨c1, if_pos c1⟩
          rw [if_neg c1]
          by_cases c2 : j = k
          · exact Or.inr (Or.inl ⟨c2, if_pos c2⟩)
          rw [if_neg c2]
          by_cases c3 : j ≤ m
          · exact Or.inr (Or.inr (Or.inl ⟨by omega, c3, if_pos c3⟩))
          · exact Or.inr (Or.inr (Or.inr ⟨by omega, if_neg c3⟩))
        refine kr _ _ _ dX2_sortIn_120 ⟨rfl, fun j => if j < k then pp j else if j = k then pp m else if j ≤ m then pp (j - 1) else pp j, fun j => if j < k then τ j else if j = k then t else τ (j - 1), m + 1, ⟨⟨_, hT, fun j hj => ?_⟩, fun j hj => ?_, fun i j hi hj e => ?_, fun j hj => ?_, fun j hj => ?_, by omega⟩, tsr_ins hs ht.2.2.1 hk k1 k2 (fun i hi => if_pos hi) (by rw [if_neg (by omega), if_pos rfl]) (fun i h1 h2 => by rw [if_neg (by omega), if_neg (by omega)]), hp9, fun i hi => ?_, fun j hj => ?_, ?_⟩ hm.1
        · show va_up f1 k (some (pp m)) j = some (if j < k then pp j else if j = k then pp m else if j ≤ m then pp (j - 1) else pp j)
          rcases P j hj with ⟨c, e⟩ | ⟨c, e⟩ | ⟨c, c2, e⟩ | ⟨c, e⟩ <;> rw [e]
          · simp only [va_up, if_neg (show ¬ j = k by omega)]; exact g1 j hj (by omega) (by omega)
          · simp only [va_up, if_pos c]
          · simp only [va_up, if_neg (show ¬ j = k by omega)]; exact g2 j (by omega) c2
          · simp only [va_up, if_neg (show ¬ j = k by omega)]; exact g3 j hj c
        · show a + 6 ≤ (if j < k then pp j else if j = k then pp m else if j ≤ m then pp (j - 1) else pp j) ∧ (if j < k then pp j else if j = k then pp m else if j ≤ m then pp (j - 1) else pp j) < a + 100
          rcases P j hj with ⟨c, e⟩ | ⟨c, e⟩ | ⟨c, c2, e⟩ | ⟨c, e⟩ <;> rw [e] <;> exact hp1 _ (by omega)
        · have e' : (if i < k then pp i else if i = k then pp m else if i ≤ m then pp (i - 1) else pp i) = (if j < k then pp j else if j = k then pp m else if j ≤ m then pp (j - 1) else pp j) := e
          rcases P i hi with ⟨c, e1⟩ | ⟨c, e1⟩ | ⟨c, c2, e1⟩ | ⟨c, e1⟩ <;> rcases P j hj with ⟨d, e2⟩ | ⟨d, e2⟩ | ⟨d, d2, e2⟩ | ⟨d, e2⟩ <;> rw [e1, e2] at e' <;> (have := hp2 _ _ (by omega) (by omega) e'; omega)
        · show ∃ x1 x2 x3 x4 x5 x6 : Int, h9[if j < k then pp j else if j = k then pp m else if j ≤ m then pp (j - 1) else pp j]? = _
          rcases P j hj with ⟨c, e⟩ | ⟨c, e⟩ | ⟨c, c2, e⟩ | ⟨c, e⟩ <;> rw [e, hcell _ (by omega)] <;> exact hp3 _ (by omega)
        · show h9[if j < k then pp j else if j = k then pp m else if j ≤ m then pp (j - 1) else pp j]? = some (.inr (1, rcd LA LB (if j < k then τ j else if j = k then t else τ (j - 1))))
          rcases P j (by omega) with ⟨c, e⟩ | ⟨c, e⟩ | ⟨c, c2, e⟩ | ⟨c, e⟩ <;> rw [e]
          · rw [if_pos c, hcell _ (by omega)]; exact hp4 j (by omega)
          · rw [if_neg (by omega), if_pos c, hcell _ (by omega)]; exact hc
          · rw [if_neg (by omega), if_neg (by omega), hcell _ (by omega)]; exact hp4 (j - 1) (by omega)
          · omega
        · show (∃ j, j < m ∧ (if i < k then τ i else if i = k then t else τ (i - 1)) = τ j) ∨ (if i < k then τ i else if i = k then t else τ (i - 1)) = t
          by_cases c1 : i < k
          · exact Or.inl ⟨i, by omega, if_pos c1⟩
          · rw [if_neg c1]
            by_cases c2 : i = k
            · exact Or.inr (if_pos c2)
            · exact Or.inl ⟨i - 1, by omega, if_neg c2⟩
        · by_cases c1 : j < k
          · exact ⟨j, by omega, if_pos c1⟩
          · refine ⟨j + 1, by omega, ?_⟩
            show (if j + 1 < k then τ (j + 1) else if j + 1 = k then t else τ (j + 1 - 1)) = τ j
            rw [if_neg (by omega), if_neg (by omega), show j + 1 - 1 = j by omega]
        · refine ⟨k, by omega, ?_⟩
          show teq t (if k < k then τ k else if k = k then t else τ (k - 1))
          rw [if_neg (by omega), if_pos rfl]
          exact teq.rf t
      · exfalso; omega
    | succ d ih =>
      intro i hh f1 hi him hT hm g1 g2 g3
      have ⟨h0, h1, h2, h3, h4, h5⟩ := hT
      have gi := g1 (i - 1) (by omega) (by omega) (by omega)
      obtain ⟨x1, x2, x3, x4, x5, x6, hx⟩ := hp3 (i - 1) (by omega)
      have hv9 : hh[pp (i - 1)]? = some (.inr (1, [iv x1, iv x2, iv x3, iv x4, iv x5, iv x6])) := (hm.2 (pp (i - 1)) (Or.inr (hp1 (i - 1) (by omega)).1)).trans hx
      refine g_iload C dX2_sortIn_75 rfl ?_
      refine g_iload_n C dX2_sortIn_77 rfl ?_
      refine g_icmp_le C dX2_sortIn_78 (tgt := 103) (by decide) (by omega) (by omega) (fun h78 => ?_) (fun h78 => ?_)
      · exfalso; omega
      · refine g_aload_n C dX2_sortIn_81 rfl ?_
        refine g_get C FX2_13 dX2_sortIn_82 (by assumption) rfl ?_
        refine g_iload C dX2_sortIn_85 rfl ?_
        refine g_aload_n C dX2_sortIn_87 rfl ?_
        refine g_get C FX2_13 dX2_sortIn_88 (by assumption) rfl ?_
        refine g_iload C dX2_sortIn_91 rfl ?_
        refine g_iconst C dX2_sortIn_93 ?_
        refine g_isub C dX2_sortIn_94 ?_
        refine g_top (show _ = ((i - 1 : Nat) : Int) by omega) ?_
        refine g_aald C dX2_sortIn_95 (by assumption) rfl rfl rfl (by omega) (by decide) ?_
        rw [gi]
        refine g_aast C dX2_sortIn_96 (by assumption) rfl (by assumption) rfl rfl (by omega) (by decide) ?_
        refine ct_s_fd hT hm ?_
        intro h9 hT hm
        refine g_iincT C dX2_sortIn_97 (by decide) rfl (show _ = ((i - 1 : Nat) : Int) by omega) rfl ?_
        dsimp only [List.set]
        refine g_goto C dX2_sortIn_100 (tgt := 75) (by decide) ?_
        refine ih (i - 1) _ _ (by omega) (by omega) hT hm (fun j h1 h2 h3 => ?_) (fun j h1 h2 => ?_) (fun j h1 h2 => ?_)
        · simp only [va_up, if_neg (show ¬ j = i by omega)]; exact g1 j h1 (by omega) (by omega)
        · by_cases c : j = i
          · subst c; simp only [va_up, if_pos]
          · simp only [va_up, if_neg c]; exact g2 j (by omega) h2
        · simp only [va_up, if_neg (show ¬ j = i by omega)]; exact g3 j h1 h2
  have go2 : ∀ (k : Nat), k ≤ m → (∀ i, i < k → tlt (τ i) t) → (∀ i, k ≤ i → i < m → tlt t (τ i)) → ax_G p9 l9 e9 R9 s9 m9 args9 below9 meth9 c9 b9 D9 dA9 MX2_sortIn.2.2.1 h.length (ax_sz h) Q9 (55) ([some (rv a), some (rv (pp m)), some (iv (k : Int)), some (iv 0), none]) ([]) (h) := by
    intro k hk k1 k2
    have hm9 : m < 93 := hf (fun i hi q => by
      by_cases c : i < k
      · exact (k1 i c).ne q.sy
      · exact (k2 i (by omega) hi).ne q)
    refine g_iload_n C dX2_sortIn_55 rfl ?_
    refine g_if_ne C dX2_sortIn_56 (tgt := 68) (by decide) (by omega) (fun h56 => ?_) (fun h56 => ?_)
    · exact absurd rfl h56
    · refine g_aload_n C dX2_sortIn_59 rfl ?_
      refine g_get C FX2_31 dX2_sortIn_60 (by assumption) rfl ?_
      refine g_bipush C dX2_sortIn_63 (by decide) ?_
      refine g_icmp_lt C dX2_sortIn_65 (tgt := 69) (by decide) (by omega) (by omega) (fun h65 => ?_) (fun h65 => ?_)
      · refine g_aload_n C dX2_sortIn_69 rfl ?_
        refine g_get C FX2_31 dX2_sortIn_70 (by assumption) rfl ?_
        refine g_istore C dX2_sortIn_73 (by decide) rfl ?_
        dsimp only [List.set]
        exact loop2 k hk hm9 k1 k2 (m - k) m h fd (by omega) (Nat.le_refl _) hT hm (fun j h1 _ _ => hfd j h1) (fun j h1 h2 => by omega) (fun j h1 _ => hfd j h1)
      · exfalso; omega
  have loop1 : ∀ (k : Nat), k ≤ m → (∀ i, k ≤ i → i < m → tlt t (τ i)) → ax_G p9 l9 e9 R9 s9 m9 args9 below9 meth9 c9 b9 D9 dA9 MX2_sortIn.2.2.1 h.length (ax_sz h) Q9 (5) ([some (rv a), some (rv (pp m)), some (iv (k : Int)), none, none]) ([]) (h) := by
    intro k
    induction k with
    | zero =>
      intro hk k2
      refine g_iload_n C dX2_sortIn_5 rfl ?_
      refine g_if_le C dX2_sortIn_6 (tgt := 30) (by decide) (by omega) (fun h6 => ?_) (fun h6 => ?_)
      · refine g_iload_n C dX2_sortIn_30 rfl ?_
        refine g_if_le C dX2_sortIn_31 (tgt := 53) (by decide) (by omega) (fun h31 => ?_) (fun h31 => ?_)
        · refine g_iconst C dX2_sortIn_53 ?_
          refine g_istore_n C dX2_sortIn_54 (by decide) rfl ?_
          dsimp only [List.set]
          exact go2 0 hk (fun i hi => by omega) k2
        · exfalso; omega
      · exfalso; omega
    | succ k ih =>
      intro hk k2
      have hck := hp4 k (by omega)
      have hfk := hfd k (by omega)
      have hin := cmp3_in t (τ k)
      have fin : ¬ tlt t (τ k) → ax_G p9 l9 e9 R9 s9 m9 args9 below9 meth9 c9 b9 D9 dA9 MX2_sortIn.2.2.1 h.length (ax_sz h) Q9 (30) ([some (rv a), some (rv (pp m)), some (iv ((k + 1 : Nat) : Int)), none, none]) ([]) (h) := by
        intro hn
        refine g_iload_n C dX2_sortIn_30 rfl ?_
        refine g_if_le C dX2_sortIn_31 (tgt := 53) (by decide) (by omega) (fun h31 => ?_) (fun h31 => ?_)
        · exfalso; omega
        · refine g_aload_n C dX2_sortIn_34 rfl ?_
          refine g_aload_n C dX2_sortIn_35 rfl ?_
          refine g_get C FX2_13 dX2_sortIn_36 (by assumption) rfl ?_
          refine g_iload_n C dX2_sortIn_39 rfl ?_
          refine g_iconst C dX2_sortIn_40 ?_
          refine g_isub C dX2_sortIn_41 ?_
          refine g_top (show _ = (k : Int) by omega) ?_
          refine g_aald C dX2_sortIn_42 (by assumption) rfl rfl rfl (by omega) (by decide) ?_
          rw [hfk]
          refine g_V C (t_compareSlope hc hck ht (hb k (by omega))) dX2_sortIn_43 KX1_compareSlope LX2_85 IX1_compareSlope VX1_compareSlope (by decide) rfl (by assumption) rfl rfl rfl (Nat.le_of_ble_eq_true rfl) ⟨rfl, rfl⟩ ?_
          dsimp only [Option.toList, List.cons_append, List.nil_append]
          refine g_if_ne C dX2_sortIn_46 (tgt := 53) (by decide) (by omega) (fun h46 => ?_) (fun h46 => ?_)
          · have hne : ¬ teq t (τ k) := fun q => h46 ((cmp3_eq _ _).mpr q)
            refine g_iconst C dX2_sortIn_53 ?_
            refine g_istore_n C dX2_sortIn_54 (by decide) rfl ?_
            dsimp only [List.set]
            first
            | (refine go2 (k + 1) hk (fun i hi => ?_) k2
               have hkt : tlt (τ k) t := by
                 rcases t3 t (τ k) with q | q | q
                 · exact absurd q hn
                 · exact absurd q hne
                 · exact q
               by_cases c : i = k
               · subst c; exact hkt
               · exact tlt.tr (hs.1 i (by omega)) (hs.1 k (by omega)) ht.2.2.1 (hs.2 i k (by omega) (by omega)) hkt)
            | (refine g_iload_n C dX2_sortIn_55 rfl ?_
               refine g_if_ne C dX2_sortIn_56 (tgt := 68) (by decide) (by omega) (fun h56 => ?_) (fun h56 => ?_)
               · exact kr _ _ _ dX2_sortIn_68 ⟨rfl, pp, τ, m, H0, hs, ax_sm.rf h, fun i hi => Or.inl ⟨i, hi, rfl⟩, fun j hj => ⟨j, hj, rfl⟩, ⟨k, by omega, heq⟩⟩ ⟨rfl, rfl⟩
               · exact absurd h56 (by decide))
          · have heq : teq t (τ k) := (cmp3_eq _ _).mp h46
            refine g_iconst C dX2_sortIn_49 ?_
            refine g_goto C dX2_sortIn_50 (tgt := 54) (by decide) ?_
            refine g_istore_n C dX2_sortIn_54 (by decide) rfl ?_
            dsimp only [List.set]
            first
            | (refine go2 (k + 1) hk (fun i hi => ?_) k2
               have hkt : tlt (τ k) t := by
                 rcases t3 t (τ k) with q | q | q
                 · exact absurd q hn
                 · exact absurd q hne
                 · exact q
               by_cases c : i = k
               · subst c; exact hkt
               · exact tlt.tr (hs.1 i (by omega)) (hs.1 k (by omega)) ht.2.2.1 (hs.2 i k (by omega) (by omega)) hkt)
            | (refine g_iload_n C dX2_sortIn_55 rfl ?_
               refine g_if_ne C dX2_sortIn_56 (tgt := 68) (by decide) (by omega) (fun h56 => ?_) (fun h56 => ?_)
               · exact kr _ _ _ dX2_sortIn_68 ⟨rfl, pp, τ, m, H0, hs, ax_sm.rf h, fun i hi => Or.inl ⟨i, hi, rfl⟩, fun j hj => ⟨j, hj, rfl⟩, ⟨k, by omega, heq⟩⟩ ⟨rfl, rfl⟩
               · exact absurd h56 (by decide))
      refine g_iload_n C dX2_sortIn_5 rfl ?_
      refine g_if_le C dX2_sortIn_6 (tgt := 30) (by decide) (by omega) (fun h6 => ?_) (fun h6 => ?_)
      · exfalso; omega
      · refine g_aload_n C dX2_sortIn_9 rfl ?_
        refine g_aload_n C dX2_sortIn_10 rfl ?_
        refine g_get C FX2_13 dX2_sortIn_11 (by assumption) rfl ?_
        refine g_iload_n C dX2_sortIn_14 rfl ?_
        refine g_iconst C dX2_sortIn_15 ?_
        refine g_isub C dX2_sortIn_16 ?_
        refine g_top (show _ = (k : Int) by omega) ?_
        refine g_aald C dX2_sortIn_17 (by assumption) rfl rfl rfl (by omega) (by decide) ?_
        rw [hfk]
        refine g_V C (t_compareSlope hc hck ht (hb k (by omega))) dX2_sortIn_18 KX1_compareSlope LX2_85 IX1_compareSlope VX1_compareSlope (by decide) rfl (by assumption) rfl rfl rfl (Nat.le_of_ble_eq_true rfl) ⟨rfl, rfl⟩ ?_
        dsimp only [Option.toList, List.cons_append, List.nil_append]
        refine g_if_ge C dX2_sortIn_21 (tgt := 30) (by decide) (by omega) (fun h21 => ?_) (fun h21 => ?_)
        · have hn : ¬ tlt t (τ k) := fun q => by have := (cmp3_lt _ _).mpr q; omega
          exact fin hn
        · have hl : tlt t (τ k) := (cmp3_lt _ _).mp (by omega)
          refine g_iincT C dX2_sortIn_24 (by decide) rfl (show _ = (k : Int) by omega) rfl ?_
          dsimp only [List.set]
          refine g_goto C dX2_sortIn_27 (tgt := 5) (by decide) ?_
          refine ih (by omega) (fun i h1 h2 => ?_)
          by_cases c : i = k
          · subst c; exact hl
          · exact k2 i (by omega) h2
  refine g_aload_n C dX2_sortIn_0 rfl ?_
  refine g_get C FX2_31 dX2_sortIn_1 (by assumption) rfl ?_
  refine g_istore_n C dX2_sortIn_4 (by decide) rfl ?_
  dsimp only [List.set]
  exact loop1 m (Nat.le_refl _) (fun i h1 h2 => by omega)
end
section
section NZ
variable {p : Program} {l : Launch} {e : Env} {R : Room} {s : State} {m : MethodId} {args : Array Value} {below : List Frame} {meth : Method} {c : Code} {b : Nat} {D : va_G} {dA : Nat → ClassId} {nL n0 z0 : Nat} {Q : State → Prop} {cc : ByteArray} {own : String} {ht : Nat} {pc : Nat} {L : List (Option ax_V)} {st : List ax_V} {h : ax_H}
theorem g_ldcw (C : ax_C p R s m args meth c b D dA nL n0 cc own ht) {z : Int} {idx : Nat} {v : Int32} (hd : decode cc pc = .ok (.ldc_w idx, 3)) (hw : Cond.constant own idx v ∈ ax_tb) (hv : v = Int32.ofInt z) (k : ax_G p l e R s m args below meth c b D dA nL n0 z0 Q (pc + 3) (L) (iv z :: st) (h)) : ax_G p l e R s m args below meth c b D dA nL n0 z0 Q (pc) (L) (st) (h) := fun H ls locs cells slots I => lv_ldcw C.1 C.2.1 C.2.2.2.1 (C.2.2.2.2.1 _ hw) hd (by subst hv; exact k H ls locs cells slots I)
end NZ
/-! Integer.numberOfTrailingZeros, as its code goes -/
def ushr (x : Int) (k : Int) : Int := ((Int32.ofInt x).toUInt32 >>> ((Int32.ofInt k).toUInt32 &&& Int32.toUInt32 31)).toInt32.toInt
def nz5 (x n : Int) : Int := n + ushr x 1
def nz4 (x n : Int) : Int := if x ≤ 4 then nz5 x n else nz5 (ushr x 2) (n + 2)
def nz3 (x n : Int) : Int := if x ≤ 16 then nz4 x n else nz4 (ushr x 4) (n + 4)
def nz2 (x n : Int) : Int := if x ≤ 256 then nz3 x n else nz3 (ushr x 8) (n + 8)
def nz1 (x n : Int) : Int := if x ≤ 65536 then nz2 x n else nz2 (ushr x 16) (n + 16)
def nz0 (x : Int) : Int := (Int32.ofInt ((Int32.ofInt x ^^^ Int32.ofInt (-1)).toInt) &&& Int32.ofInt (x - 1)).toInt
def ntz (x : Int) : Int := if 0 < nz0 x then nz1 (nz0 x) 1 else (Int32.ofInt (nz0 x) &&& Int32.ofInt 32).toInt
theorem i32_in (x : Int32) : -2147483648 ≤ x.toInt ∧ x.toInt < 2147483648 := ⟨Int32.le_toInt x, Int32.toInt_lt x⟩
theorem ushr_in (x k : Int) : -2147483648 ≤ ushr x k ∧ ushr x k < 2147483648 := i32_in _
theorem t_ntz {h : ax_H} {x : Int} (hx : -2147483648 ≤ x ∧ x < 2147483648) : ax_Met MJ6_numberOfTrailingZeros_0f7a4 [iv x] h (some (iv (ntz x))) h := by
  refine ax_mi (L0 := [some (iv x), none]) rfl rfl (Nat.le_refl _) (Nat.le_refl _) (Nat.le_of_ble_eq_true rfl) rfl ?_
  intro p9 l9 e9 R9 s9 m9 args9 below9 meth9 c9 b9 D9 dA9 Q9 C kr
  have s74 : ∀ y n : Int, (-2147483648 ≤ y ∧ y < 2147483648) → ntz x = nz5 y n → ax_G p9 l9 e9 R9 s9 m9 args9 below9 meth9 c9 b9 D9 dA9 MJ6_numberOfTrailingZeros_0f7a4.2.2.1 h.length (ax_sz h) Q9 (74) ([some (iv y), some (iv n)]) ([]) (h) := by
    intro y n hy e
    refine g_iload_n C dJ6_numberOfTrailingZeros_0f7a4_74 rfl ?_
    refine g_iload_n C dJ6_numberOfTrailingZeros_0f7a4_75 rfl ?_
    refine g_iconst C dJ6_numberOfTrailingZeros_0f7a4_76 ?_
    refine g_iushr C dJ6_numberOfTrailingZeros_0f7a4_77 (z := ushr y 1) (Int32.ofInt_toInt _).symm ?_
    refine g_iadd C dJ6_numberOfTrailingZeros_0f7a4_78 ?_
    exact kr _ _ _ dJ6_numberOfTrailingZeros_0f7a4_79 (congrArg (fun z => some (iv z)) e)
  have s62 : ∀ y n : Int, (-2147483648 ≤ y ∧ y < 2147483648) → ntz x = nz4 y n → ax_G p9 l9 e9 R9 s9 m9 args9 below9 meth9 c9 b9 D9 dA9 MJ6_numberOfTrailingZeros_0f7a4.2.2.1 h.length (ax_sz h) Q9 (62) ([some (iv y), some (iv n)]) ([]) (h) := by
    intro y n hy e
    unfold nz4 at e
    refine g_iload_n C dJ6_numberOfTrailingZeros_0f7a4_62 rfl ?_
    refine g_iconst C dJ6_numberOfTrailingZeros_0f7a4_63 ?_
    refine g_icmp_le C dJ6_numberOfTrailingZeros_0f7a4_64 (tgt := 74) (by decide) (by omega) (by omega) (fun h64 => ?_) (fun h64 => ?_)
    · rw [if_pos h64] at e
      first | exact s74 y n hy e | exact s74 _ _ (ushr_in _ _) e
    · rw [if_neg h64] at e
      refine g_iinc C dJ6_numberOfTrailingZeros_0f7a4_67 (by decide) rfl rfl ?_
      dsimp only [List.set]
      refine g_iload_n C dJ6_numberOfTrailingZeros_0f7a4_70 rfl ?_
      refine g_iconst C dJ6_numberOfTrailingZeros_0f7a4_71 ?_
      refine g_iushr C dJ6_numberOfTrailingZeros_0f7a4_72 (z := ushr y 2) (Int32.ofInt_toInt _).symm ?_
      refine g_istore_n C dJ6_numberOfTrailingZeros_0f7a4_73 (by decide) rfl ?_
      dsimp only [List.set]
      first | exact s74 y n hy e | exact s74 _ _ (ushr_in _ _) e
  have s49 : ∀ y n : Int, (-2147483648 ≤ y ∧ y < 2147483648) → ntz x = nz3 y n → ax_G p9 l9 e9 R9 s9 m9 args9 below9 meth9 c9 b9 D9 dA9 MJ6_numberOfTrailingZeros_0f7a4.2.2.1 h.length (ax_sz h) Q9 (49) ([some (iv y), some (iv n)]) ([]) (h) := by
    intro y n hy e
    unfold nz3 at e
    refine g_iload_n C dJ6_numberOfTrailingZeros_0f7a4_49 rfl ?_
    refine g_bipush C dJ6_numberOfTrailingZeros_0f7a4_50 (by decide) ?_
    refine g_icmp_le C dJ6_numberOfTrailingZeros_0f7a4_52 (tgt := 62) (by decide) (by omega) (by omega) (fun h52 => ?_) (fun h52 => ?_)
    · rw [if_pos h52] at e
      first | exact s62 y n hy e | exact s62 _ _ (ushr_in _ _) e
    · rw [if_neg h52] at e
      refine g_iinc C dJ6_numberOfTrailingZeros_0f7a4_55 (by decide) rfl rfl ?_
      dsimp only [List.set]
      refine g_iload_n C dJ6_numberOfTrailingZeros_0f7a4_58 rfl ?_
      refine g_iconst C dJ6_numberOfTrailingZeros_0f7a4_59 ?_
      refine g_iushr C dJ6_numberOfTrailingZeros_0f7a4_60 (z := ushr y 4) (Int32.ofInt_toInt _).symm ?_
      refine g_istore_n C dJ6_numberOfTrailingZeros_0f7a4_61 (by decide) rfl ?_
      dsimp only [List.set]
      first | exact s62 y n hy e | exact s62 _ _ (ushr_in _ _) e
  have s34 : ∀ y n : Int, (-2147483648 ≤ y ∧ y < 2147483648) → ntz x = nz2 y n → ax_G p9 l9 e9 R9 s9 m9 args9 below9 meth9 c9 b9 D9 dA9 MJ6_numberOfTrailingZeros_0f7a4.2.2.1 h.length (ax_sz h) Q9 (34) ([some (iv y), some (iv n)]) ([]) (h) := by
    intro y n hy e
    unfold nz2 at e
    refine g_iload_n C dJ6_numberOfTrailingZeros_0f7a4_34 rfl ?_
    refine g_sipush C dJ6_numberOfTrailingZeros_0f7a4_35 (by decide) ?_
    refine g_icmp_le C dJ6_numberOfTrailingZeros_0f7a4_38 (tgt := 49) (by decide) (by omega) (by omega) (fun h38 => ?_) (fun h38 => ?_)
    · rw [if_pos h38] at e
      first | exact s49 y n hy e | exact s49 _ _ (ushr_in _ _) e
    · rw [if_neg h38] at e
      refine g_iinc C dJ6_numberOfTrailingZeros_0f7a4_41 (by decide) rfl rfl ?_
      dsimp only [List.set]
      refine g_iload_n C dJ6_numberOfTrailingZeros_0f7a4_44 rfl ?_
      refine g_bipush C dJ6_numberOfTrailingZeros_0f7a4_45 (by decide) ?_
      refine g_iushr C dJ6_numberOfTrailingZeros_0f7a4_47 (z := ushr y 8) (Int32.ofInt_toInt _).symm ?_
      refine g_istore_n C dJ6_numberOfTrailingZeros_0f7a4_48 (by decide) rfl ?_
      dsimp only [List.set]
      first | exact s49 y n hy e | exact s49 _ _ (ushr_in _ _) e
  have hz := i32_in (Int32.ofInt ((Int32.ofInt x ^^^ Int32.ofInt (-1)).toInt) &&& Int32.ofInt (x - 1))
  change -2147483648 ≤ nz0 x ∧ nz0 x < 2147483648 at hz
  refine g_iload_n C dJ6_numberOfTrailingZeros_0f7a4_0 rfl ?_
  refine g_iconst C dJ6_numberOfTrailingZeros_0f7a4_1 ?_
  refine g_ixor C dJ6_numberOfTrailingZeros_0f7a4_2 (z := (Int32.ofInt x ^^^ Int32.ofInt (-1)).toInt) (Int32.ofInt_toInt _).symm ?_
  refine g_iload_n C dJ6_numberOfTrailingZeros_0f7a4_3 rfl ?_
  refine g_iconst C dJ6_numberOfTrailingZeros_0f7a4_4 ?_
  refine g_isub C dJ6_numberOfTrailingZeros_0f7a4_5 ?_
  refine g_iand C dJ6_numberOfTrailingZeros_0f7a4_6 (z := nz0 x) (Int32.ofInt_toInt _).symm ?_
  refine g_istore_n C dJ6_numberOfTrailingZeros_0f7a4_7 (by decide) rfl ?_
  dsimp only [List.set]
  refine g_iload_n C dJ6_numberOfTrailingZeros_0f7a4_8 rfl ?_
  refine g_if_gt C dJ6_numberOfTrailingZeros_0f7a4_9 (tgt := 17) (by decide) (by omega) (fun h9 => ?_) (fun h9 => ?_)
  · refine g_iconst C dJ6_numberOfTrailingZeros_0f7a4_17 ?_
    refine g_istore_n C dJ6_numberOfTrailingZeros_0f7a4_18 (by decide) rfl ?_
    dsimp only [List.set]
    refine g_iload_n C dJ6_numberOfTrailingZeros_0f7a4_19 rfl ?_
    refine g_ldcw C dJ6_numberOfTrailingZeros_0f7a4_20 QJ6_264 (z := 65536) rfl ?_
    refine g_icmp_le C dJ6_numberOfTrailingZeros_0f7a4_23 (tgt := 34) (by decide) (by omega) (by omega) (fun h23 => ?_) (fun h23 => ?_)
    · have e : ntz x = nz2 (nz0 x) 1 := by unfold ntz; rw [if_pos h9]; unfold nz1; rw [if_pos h23]
      first | exact s34 _ _ hz e | exact s34 _ _ (ushr_in _ _) e
    · have e : ntz x = nz2 (ushr (nz0 x) 16) (1 + 16) := by unfold ntz; rw [if_pos h9]; unfold nz1; rw [if_neg h23]
      refine g_iinc C dJ6_numberOfTrailingZeros_0f7a4_26 (by decide) rfl rfl ?_
      dsimp only [List.set]
      refine g_iload_n C dJ6_numberOfTrailingZeros_0f7a4_29 rfl ?_
      refine g_bipush C dJ6_numberOfTrailingZeros_0f7a4_30 (by decide) ?_
      refine g_iushr C dJ6_numberOfTrailingZeros_0f7a4_32 (z := ushr (nz0 x) 16) (Int32.ofInt_toInt _).symm ?_
      refine g_istore_n C dJ6_numberOfTrailingZeros_0f7a4_33 (by decide) rfl ?_
      dsimp only [List.set]
      first | exact s34 _ _ hz e | exact s34 _ _ (ushr_in _ _) e
  · refine g_iload_n C dJ6_numberOfTrailingZeros_0f7a4_12 rfl ?_
    refine g_bipush C dJ6_numberOfTrailingZeros_0f7a4_13 (by decide) ?_
    refine g_iand C dJ6_numberOfTrailingZeros_0f7a4_15 (z := (Int32.ofInt (nz0 x) &&& Int32.ofInt 32).toInt) (Int32.ofInt_toInt _).symm ?_
    exact kr _ _ _ dJ6_numberOfTrailingZeros_0f7a4_16 (by unfold ntz; rw [if_neg h9])
theorem ntz_ok : ∀ j : Nat, j < 7 → ∀ i : Nat, i < j → ntz (((2 ^ i ||| 2 ^ j : Nat) : Int) * 2 ^ 0) = (i : Int) ∧ ntz (((2 ^ i ||| 2 ^ j : Nat) : Int) * 2 ^ 7) = (i : Int) + 7 := by decide +kernel
/-! the pairs of points -/
def tri (n : Nat) : Nat → Nat
  | 0 => 0
  | i + 1 => tri n i + (n - 1 - i)
theorem tri_in : ∀ n, n < 8 → ∀ i, i < n → ∀ j, j < n → i < j → tri n i + (j - i - 1) < 21 := by decide +kernel
theorem tri_n : ∀ n, n < 8 → ∀ i, i < 8 → tri n i ≤ 21 := by decide +kernel
/-- pairs q0 up to q1 are those of a body: I t below J t -/
def prs (dx dy dw en : Nat → Int) (q0 q1 : Nat) (X Y V : Nat → Int) (n fr : Nat) (I J : Nat → Nat) : Prop := (∀ t, q0 ≤ t → t < q1 → I t < J t ∧ J t < n ∧ dx t = X (J t) - X (I t) ∧ dy t = Y (J t) - Y (I t) ∧ dw t = V (J t) - V (I t) ∧ en t = ((2 ^ I t ||| 2 ^ J t : Nat) : Int) * 2 ^ fr) ∧ ∀ i j, i < j → j < n → ∃ t, q0 ≤ t ∧ t < q1 ∧ I t = i ∧ J t = j
theorem t_addPairs {h : ax_H} {a ab n pr fr m : Nat} {X Y V : Nat → Int} {fd : Nat → Option Nat} {dx dy dw en : Nat → Int} (hT : ct_at h a fd m dx dy dw en pr) (hB : bo_at h ab X Y V n) (hn : n ≤ 7) (hd : ab + 4 ≤ a ∨ a + 6 ≤ ab) (hpr : pr ≤ 21) (hfr : fr ≤ 7) : ax_Mt MX2_addPairs [rv a, rv ab, iv (fr : Int)] h (fun r h' => r = none ∧ ∃ (dx' dy' dw' en' : Nat → Int) (pr' : Nat) (I J : Nat → Nat), ct_at h' a fd m dx' dy' dw' en' pr' ∧ ax_sm a (a + 6) h h' ∧ pr ≤ pr' ∧ pr' ≤ pr + 21 ∧ (∀ t, t < pr → dx' t = dx t ∧ dy' t = dy t ∧ dw' t = dw t ∧ en' t = en t) ∧ prs dx' dy' dw' en' pr pr' X Y V n fr I J) := by
  have hm := ax_sm.rf (lo := a) (hi := a + 6) h
  refine ax_rv (L0 := [some (rv a), some (rv ab), some (iv (fr : Int)), none, none]) rfl rfl (Nat.le_of_ble_eq_true rfl) rfl ?_
  intro p9 l9 e9 R9 s9 m9 args9 below9 meth9 c9 b9 D9 dA9 Q9 C kr
  have inner : ∀ (i : Nat), i < n → (∀ (hh : ax_H) (d1 d2 d3 d4 : Nat → Int) (I J : Nat → Nat), ct_at hh a fd m d1 d2 d3 d4 (pr + tri n (i + 1)) → ax_sm a (a + 6) h hh → (∀ t, t < pr → d1 t = dx t ∧ d2 t = dy t ∧ d3 t = dw t ∧ d4 t = en t) → (∀ t, pr ≤ t → t < pr + tri n (i + 1) → I t < J t ∧ J t < n ∧ d1 t = X (J t) - X (I t) ∧ d2 t = Y (J t) - Y (I t) ∧ d3 t = V (J t) - V (I t) ∧ d4 t = ((2 ^ I t ||| 2 ^ J t : Nat) : Int) * 2 ^ fr) → (∀ i' j', i' < i + 1 → i' < j' → j' < n → ∃ t, pr ≤ t ∧ t < pr + tri n (i + 1) ∧ I t = i' ∧ J t = j') → ∀ x4, ax_G p9 l9 e9 R9 s9 m9 args9 below9 meth9 c9 b9 D9 dA9 MX2_addPairs.2.2.1 h.length (ax_sz h) Q9 (2) ([some (rv a), some (rv ab), some (iv (fr : Int)), some (iv ((i + 1 : Nat) : Int)), x4]) ([]) (hh)) → ∀ (d j : Nat) (hh : ax_H) (d1 d2 d3 d4 : Nat → Int) (I J : Nat → Nat), j + d = n → i < j → ct_at hh a fd m d1 d2 d3 d4 (pr + (tri n i + (j - i - 1))) → ax_sm a (a + 6) h hh → (∀ t, t < pr → d1 t = dx t ∧ d2 t = dy t ∧ d3 t = dw t ∧ d4 t = en t) → (∀ t, pr ≤ t → t < pr + (tri n i + (j - i - 1)) → I t < J t ∧ J t < n ∧ d1 t = X (J t) - X (I t) ∧ d2 t = Y (J t) - Y (I t) ∧ d3 t = V (J t) - V (I t) ∧ d4 t = ((2 ^ I t ||| 2 ^ J t : Nat) : Int) * 2 ^ fr) → (∀ i' j', (i' < i ∨ (i' = i ∧ j' < j)) → i' < j' → j' < n → ∃ t, pr ≤ t ∧ t < pr + (tri n i + (j - i - 1)) ∧ I t = i' ∧ J t = j') → ax_G p9 l9 e9 R9 s9 m9 args9 below9 meth9 c9 b9 D9 dA9 MX2_addPairs.2.2.1 h.length (ax_sz h) Q9 (15) ([some (rv a), some (rv ab), some (iv (fr : Int)), some (iv (i : Int)), some (iv (j : Int))]) ([]) (hh) := by
    intro i hi K d
    induction d with
    | zero =>
      intro j hh d1 d2 d3 d4 I J hj hij hT hm g1 g2 g3
      have ⟨h0, h1, h2, h3, h4, h5⟩ := hT
      have ⟨k0, k1, k2, k3⟩ := hB.sm hm hd
      have e9 : tri n i + (j - i - 1) = tri n (i + 1) := by rw [tri]; omega
      rw [e9] at hT g2 g3
      refine g_iload C dX2_addPairs_15 rfl ?_
      refine g_aload_n C dX2_addPairs_17 rfl ?_
      refine g_get C FX2_35 dX2_addPairs_18 (by assumption) rfl ?_
      refine g_icmp_ge C dX2_addPairs_21 (tgt := 137) (by decide) (by omega) (by omega) (fun h21 => ?_) (fun h21 => ?_)
      · refine g_iinc C dX2_addPairs_137 (by decide) rfl rfl ?_
        dsimp only [List.set]
        refine g_goto C dX2_addPairs_140 (tgt := 2) (by decide) ?_
        exact K hh d1 d2 d3 d4 I J hT hm g1 g2 (fun i' j' q1 q2 q3 => g3 i' j' (by omega) q2 q3) _
      · exfalso; omega
    | succ d ih =>
      intro j hh d1 d2 d3 d4 I J hj hij hT hm g1 g2 g3
      have ⟨h0, h1, h2, h3, h4, h5⟩ := hT
      have ⟨k0, k1, k2, k3⟩ := hB.sm hm hd
      have hti := tri_in n (by omega) i hi j (by omega) hij
      generalize hq : tri n i + (j - i - 1) = q at *
      refine g_iload C dX2_addPairs_15 rfl ?_
      refine g_aload_n C dX2_addPairs_17 rfl ?_
      refine g_get C FX2_35 dX2_addPairs_18 (by assumption) rfl ?_
      refine g_icmp_ge C dX2_addPairs_21 (tgt := 137) (by decide) (by omega) (by omega) (fun h21 => ?_) (fun h21 => ?_)
      · exfalso; omega
      · refine g_aload_n C dX2_addPairs_24 rfl ?_
        refine g_get C FX2_38 dX2_addPairs_25 (by assumption) rfl ?_
        refine g_bipush C dX2_addPairs_28 (by decide) ?_
        refine g_icmp_ge C dX2_addPairs_30 (tgt := 137) (by decide) (by omega) (by omega) (fun h30 => ?_) (fun h30 => ?_)
        · exfalso; omega
        · refine g_aload_n C dX2_addPairs_33 rfl ?_
          refine g_get C FX2_17 dX2_addPairs_34 (by assumption) rfl ?_
          refine g_aload_n C dX2_addPairs_37 rfl ?_
          refine g_get C FX2_38 dX2_addPairs_38 (by assumption) rfl ?_
          refine g_aload_n C dX2_addPairs_41 rfl ?_
          refine g_get C FX2_53 dX2_addPairs_42 (by assumption) rfl ?_
          refine g_iload C dX2_addPairs_45 rfl ?_
          refine g_iald C dX2_addPairs_47 (by assumption) rfl (by omega) (by decide) ?_
          refine g_aload_n C dX2_addPairs_48 rfl ?_
          refine g_get C FX2_53 dX2_addPairs_49 (by assumption) rfl ?_
          refine g_iload_n C dX2_addPairs_52 rfl ?_
          refine g_iald C dX2_addPairs_53 (by assumption) rfl (by omega) (by decide) ?_
          refine g_isub C dX2_addPairs_54 ?_
          refine g_iast C dX2_addPairs_55 (by assumption) rfl (by omega) (by decide) ?_
          refine ct_s_dx hT hm ?_
          intro h9 hT hm
          have ⟨h0, h1, h2, h3, h4, h5⟩ := hT
          have ⟨k0, k1, k2, k3⟩ := hB.sm hm hd
          refine g_aload_n C dX2_addPairs_56 rfl ?_
          refine g_get C FX2_21 dX2_addPairs_57 (by assumption) rfl ?_
          refine g_aload_n C dX2_addPairs_60 rfl ?_
          refine g_get C FX2_38 dX2_addPairs_61 (by assumption) rfl ?_
          refine g_aload_n C dX2_addPairs_64 rfl ?_
          refine g_get C FX2_56 dX2_addPairs_65 (by assumption) rfl ?_
          refine g_iload C dX2_addPairs_68 rfl ?_
          refine g_iald C dX2_addPairs_70 (by assumption) rfl (by omega) (by decide) ?_
          refine g_aload_n C dX2_addPairs_71 rfl ?_
          refine g_get C FX2_56 dX2_addPairs_72 (by assumption) rfl ?_
          refine g_iload_n C dX2_addPairs_75 rfl ?_
          refine g_iald C dX2_addPairs_76 (by assumption) rfl (by omega) (by decide) ?_
          refine g_isub C dX2_addPairs_77 ?_
          refine g_iast C dX2_addPairs_78 (by assumption) rfl (by omega) (by decide) ?_
          refine ct_s_dy hT hm ?_
          intro h9 hT hm
          have ⟨h0, h1, h2, h3, h4, h5⟩ := hT
          have ⟨k0, k1, k2, k3⟩ := hB.sm hm hd
          refine g_aload_n C dX2_addPairs_79 rfl ?_
          refine g_get C FX2_24 dX2_addPairs_80 (by assumption) rfl ?_
          refine g_aload_n C dX2_addPairs_83 rfl ?_
          refine g_get C FX2_38 dX2_addPairs_84 (by assumption) rfl ?_
          refine g_aload_n C dX2_addPairs_87 rfl ?_
          refine g_get C FX2_59 dX2_addPairs_88 (by assumption) rfl ?_
          refine g_iload C dX2_addPairs_91 rfl ?_
          refine g_iald C dX2_addPairs_93 (by assumption) rfl (by omega) (by decide) ?_
          refine g_aload_n C dX2_addPairs_94 rfl ?_
          refine g_get C FX2_59 dX2_addPairs_95 (by assumption) rfl ?_
          refine g_iload_n C dX2_addPairs_98 rfl ?_
          refine g_iald C dX2_addPairs_99 (by assumption) rfl (by omega) (by decide) ?_
          refine g_isub C dX2_addPairs_100 ?_
          refine g_iast C dX2_addPairs_101 (by assumption) rfl (by omega) (by decide) ?_
          refine ct_s_dw hT hm ?_
          intro h9 hT hm
          have ⟨h0, h1, h2, h3, h4, h5⟩ := hT
          have ⟨k0, k1, k2, k3⟩ := hB.sm hm hd
          refine g_aload_n C dX2_addPairs_102 rfl ?_
          refine g_get C FX2_27 dX2_addPairs_103 (by assumption) rfl ?_
          refine g_aload_n C dX2_addPairs_106 rfl ?_
          refine g_get C FX2_38 dX2_addPairs_107 (by assumption) rfl ?_
          refine g_iconst C dX2_addPairs_110 ?_
          refine g_iload_n C dX2_addPairs_111 rfl ?_
          refine g_ishl C dX2_addPairs_112 (by omega) ?_
          refine g_top (ax_1p i) ?_
          refine g_iconst C dX2_addPairs_113 ?_
          refine g_iload C dX2_addPairs_114 rfl ?_
          refine g_ishl C dX2_addPairs_116 (by omega) ?_
          refine g_top (ax_1p j) ?_
          refine g_ior C dX2_addPairs_117 (ax_orN _ _) ?_
          refine g_iload_n C dX2_addPairs_118 rfl ?_
          refine g_ishl C dX2_addPairs_119 (by omega) ?_
          refine g_iast C dX2_addPairs_120 (by assumption) rfl (by omega) (by decide) ?_
          refine ct_s_en hT hm ?_
          intro h9 hT hm
          have ⟨h0, h1, h2, h3, h4, h5⟩ := hT
          have ⟨k0, k1, k2, k3⟩ := hB.sm hm hd
          refine g_aload_n C dX2_addPairs_121 rfl ?_
          refine g_dup C dX2_addPairs_122 ?_
          refine g_get C FX2_38 dX2_addPairs_123 (by assumption) rfl ?_
          refine g_iconst C dX2_addPairs_126 ?_
          refine g_iadd C dX2_addPairs_127 ?_
          refine g_put C FX2_38 dX2_addPairs_128 (by assumption) rfl rfl (Nat.le_of_ble_eq_true rfl) ?_
          dsimp only [List.set]
          refine ct_s_pr (pr + (q + 1)) (by omega) hT hm ?_
          intro h9 hT hm
          refine g_iinc C dX2_addPairs_131 (by decide) rfl rfl ?_
          dsimp only [List.set]
          refine g_goto C dX2_addPairs_134 (tgt := 15) (by decide) ?_
          have hT' := hT
          rw [show pr + (q + 1) = pr + (tri n i + (j + 1 - i - 1)) by omega] at hT'
          refine ih (j + 1) _ _ _ _ _ (va_up I (pr + q) i) (va_up J (pr + q) j) (by omega) (by omega) hT' hm (fun t ht => ?_) (fun t ht1 ht2 => ?_) (fun i' j' q1 q2 q3 => ?_)
          · simp only [va_up, if_neg (show ¬ t = pr + q by omega)]; exact g1 t ht
          · by_cases c : t = pr + q
            · subst c; simp [va_up]; omega
            · simp only [va_up, if_neg c]; exact g2 t ht1 (by omega)
          · by_cases c : i' = i ∧ j' = j
            · exact ⟨pr + q, by omega, by omega, by simp [va_up, c.1], by simp [va_up, c.2]⟩
            · obtain ⟨t, t1, t2, t3, t4⟩ := g3 i' j' (by omega) q2 q3
              exact ⟨t, t1, by omega, by simp only [va_up, if_neg (show ¬ t = pr + q by omega)]; exact t3, by simp only [va_up, if_neg (show ¬ t = pr + q by omega)]; exact t4⟩
  have outer : ∀ (d i : Nat) (hh : ax_H) (d1 d2 d3 d4 : Nat → Int) (I J : Nat → Nat) (x4 : Option ax_V), i + d = n → ct_at hh a fd m d1 d2 d3 d4 (pr + tri n i) → ax_sm a (a + 6) h hh → (∀ t, t < pr → d1 t = dx t ∧ d2 t = dy t ∧ d3 t = dw t ∧ d4 t = en t) → (∀ t, pr ≤ t → t < pr + tri n i → I t < J t ∧ J t < n ∧ d1 t = X (J t) - X (I t) ∧ d2 t = Y (J t) - Y (I t) ∧ d3 t = V (J t) - V (I t) ∧ d4 t = ((2 ^ I t ||| 2 ^ J t : Nat) : Int) * 2 ^ fr) → (∀ i' j', i' < i → i' < j' → j' < n → ∃ t, pr ≤ t ∧ t < pr + tri n i ∧ I t = i' ∧ J t = j') → ax_G p9 l9 e9 R9 s9 m9 args9 below9 meth9 c9 b9 D9 dA9 MX2_addPairs.2.2.1 h.length (ax_sz h) Q9 (2) ([some (rv a), some (rv ab), some (iv (fr : Int)), some (iv (i : Int)), x4]) ([]) (hh) := by
    intro d
    induction d with
    | zero =>
      intro i hh d1 d2 d3 d4 I J x4 hi hT hm g1 g2 g3
      have ⟨h0, h1, h2, h3, h4, h5⟩ := hT
      have ⟨k0, k1, k2, k3⟩ := hB.sm hm hd
      refine g_iload_n C dX2_addPairs_2 rfl ?_
      refine g_aload_n C dX2_addPairs_3 rfl ?_
      refine g_get C FX2_35 dX2_addPairs_4 (by assumption) rfl ?_
      refine g_icmp_ge C dX2_addPairs_7 (tgt := 143) (by decide) (by omega) (by omega) (fun h7 => ?_) (fun h7 => ?_)
      · exact kr _ _ _ dX2_addPairs_143 ⟨rfl, d1, d2, d3, d4, pr + tri n i, I, J, hT, hm, by omega, by have := tri_n n (by omega) i (by omega); omega, g1, g2, fun i' j' q1 q2 => g3 i' j' (by omega) q1 q2⟩ hm.1
      · exfalso; omega
    | succ d ih =>
      intro i hh d1 d2 d3 d4 I J x4 hi hT hm g1 g2 g3
      have ⟨h0, h1, h2, h3, h4, h5⟩ := hT
      have ⟨k0, k1, k2, k3⟩ := hB.sm hm hd
      have e9 : tri n i + (i + 1 - i - 1) = tri n i := by omega
      refine g_iload_n C dX2_addPairs_2 rfl ?_
      refine g_aload_n C dX2_addPairs_3 rfl ?_
      refine g_get C FX2_35 dX2_addPairs_4 (by assumption) rfl ?_
      refine g_icmp_ge C dX2_addPairs_7 (tgt := 143) (by decide) (by omega) (by omega) (fun h7 => ?_) (fun h7 => ?_)
      · exfalso; omega
      · refine g_iload_n C dX2_addPairs_10 rfl ?_
        refine g_iconst C dX2_addPairs_11 ?_
        refine g_iadd C dX2_addPairs_12 ?_
        refine g_istore C dX2_addPairs_13 (by decide) rfl ?_
        dsimp only [List.set]
        exact inner i (by omega) (fun hh e1 e2 e3 e4 I J z1 z2 z3 z4 z5 x4 => ih (i + 1) hh e1 e2 e3 e4 I J x4 (by omega) z1 z2 z3 z4 z5) (n - (i + 1)) (i + 1) hh d1 d2 d3 d4 I J (by omega) (by omega) (by rw [e9]; exact hT) hm g1 (by rw [e9]; exact g2) (fun i' j' q1 q2 q3 => by rw [e9]; exact g3 i' j' (by omega) q2 q3)
  refine g_iconst C dX2_addPairs_0 ?_
  refine g_istore_n C dX2_addPairs_1 (by decide) rfl ?_
  dsimp only [List.set]
  exact outer n 0 h dx dy dw en (fun _ => 0) (fun _ => 0) none (by omega) hT hm (fun _ _ => ⟨rfl, rfl, rfl, rfl⟩) (fun t t1 t2 => by simp only [tri] at t2; omega) (fun i' j' q1 => by omega)
end
