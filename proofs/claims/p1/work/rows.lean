section
-- ===== PART A: goes FIRST, ahead of the names: the tables' words, and 'selects' of the private methods out of them =====
/-- a private method of a class that the tables say can be made, by its rows of tables_1 -/
def lw_okq (q : MethodName × Nat) : Prop := (q.1.cls ≠ "java/lang/invoke/MethodHandle" ∧ q.1.cls ≠ "java/lang/invoke/VarHandle") ∧ Cond.instantiable q.1.cls q.2 ∈ tables_1 ∧ Cond.privateMethod q.1 ∈ tables_1 ∧ Cond.instanceMethod q.1 ∈ tables_1
theorem lw_p0 : lw_okq (⟨"CallSlicer", "putFour", "(I)V"⟩, 8) := ⟨⟨by decide +kernel, by decide +kernel⟩, List.mem_of_getElem? (i := 16) (by decide +kernel), List.mem_of_getElem? (i := 404) (by decide +kernel), List.mem_of_getElem? (i := 405) (by decide +kernel)⟩
theorem lw_p1 : lw_okq (⟨"CallSlicer$Reader", "read", "([BILCallSlicer$Code;)I"⟩, 11) := ⟨⟨by decide +kernel, by decide +kernel⟩, List.mem_of_getElem? (i := 148) (by decide +kernel), List.mem_of_getElem? (i := 416) (by decide +kernel), List.mem_of_getElem? (i := 417) (by decide +kernel)⟩
theorem lw_p2 : lw_okq (⟨"CallSlicer$Reader", "start", "([BILCallSlicer$Code;)V"⟩, 11) := ⟨⟨by decide +kernel, by decide +kernel⟩, List.mem_of_getElem? (i := 148) (by decide +kernel), List.mem_of_getElem? (i := 420) (by decide +kernel), List.mem_of_getElem? (i := 421) (by decide +kernel)⟩
theorem lw_p3 : lw_okq (⟨"CallSlicer$Code", "clear", "()V"⟩, 20) := ⟨⟨by decide +kernel, by decide +kernel⟩, List.mem_of_getElem? (i := 24) (by decide +kernel), List.mem_of_getElem? (i := 427) (by decide +kernel), List.mem_of_getElem? (i := 428) (by decide +kernel)⟩
theorem lw_p4 : lw_okq (⟨"CallSlicer$Reader", "readProcedure", "()V"⟩, 11) := ⟨⟨by decide +kernel, by decide +kernel⟩, List.mem_of_getElem? (i := 148) (by decide +kernel), List.mem_of_getElem? (i := 431) (by decide +kernel), List.mem_of_getElem? (i := 432) (by decide +kernel)⟩
theorem lw_p5 : lw_okq (⟨"CallSlicer$Reader", "look", "()I"⟩, 11) := ⟨⟨by decide +kernel, by decide +kernel⟩, List.mem_of_getElem? (i := 148) (by decide +kernel), List.mem_of_getElem? (i := 435) (by decide +kernel), List.mem_of_getElem? (i := 436) (by decide +kernel)⟩
theorem lw_p6 : lw_okq (⟨"CallSlicer$Reader", "blame", "(II)V"⟩, 11) := ⟨⟨by decide +kernel, by decide +kernel⟩, List.mem_of_getElem? (i := 148) (by decide +kernel), List.mem_of_getElem? (i := 439) (by decide +kernel), List.mem_of_getElem? (i := 440) (by decide +kernel)⟩
theorem lw_p7 : lw_okq (⟨"CallSlicer$Reader", "openBlock", "(IZ)V"⟩, 11) := ⟨⟨by decide +kernel, by decide +kernel⟩, List.mem_of_getElem? (i := 148) (by decide +kernel), List.mem_of_getElem? (i := 443) (by decide +kernel), List.mem_of_getElem? (i := 444) (by decide +kernel)⟩
theorem lw_p8 : lw_okq (⟨"CallSlicer$Reader", "closeBlock", "()V"⟩, 11) := ⟨⟨by decide +kernel, by decide +kernel⟩, List.mem_of_getElem? (i := 148) (by decide +kernel), List.mem_of_getElem? (i := 447) (by decide +kernel), List.mem_of_getElem? (i := 448) (by decide +kernel)⟩
theorem lw_p9 : lw_okq (⟨"CallSlicer$Reader", "readSecond", "(I)V"⟩, 11) := ⟨⟨by decide +kernel, by decide +kernel⟩, List.mem_of_getElem? (i := 148) (by decide +kernel), List.mem_of_getElem? (i := 451) (by decide +kernel), List.mem_of_getElem? (i := 452) (by decide +kernel)⟩
theorem lw_p10 : lw_okq (⟨"CallSlicer$Reader", "readTry", "()V"⟩, 11) := ⟨⟨by decide +kernel, by decide +kernel⟩, List.mem_of_getElem? (i := 148) (by decide +kernel), List.mem_of_getElem? (i := 461) (by decide +kernel), List.mem_of_getElem? (i := 462) (by decide +kernel)⟩
theorem lw_p11 : lw_okq (⟨"CallSlicer$Reader", "addItem", "(I)I"⟩, 11) := ⟨⟨by decide +kernel, by decide +kernel⟩, List.mem_of_getElem? (i := 148) (by decide +kernel), List.mem_of_getElem? (i := 465) (by decide +kernel), List.mem_of_getElem? (i := 466) (by decide +kernel)⟩
theorem lw_p12 : lw_okq (⟨"CallSlicer$Tree", "add", "(I)I"⟩, 9) := ⟨⟨by decide +kernel, by decide +kernel⟩, List.mem_of_getElem? (i := 154) (by decide +kernel), List.mem_of_getElem? (i := 469) (by decide +kernel), List.mem_of_getElem? (i := 470) (by decide +kernel)⟩
theorem lw_p13 : lw_okq (⟨"CallSlicer$Reader", "readStatement", "(I)V"⟩, 11) := ⟨⟨by decide +kernel, by decide +kernel⟩, List.mem_of_getElem? (i := 148) (by decide +kernel), List.mem_of_getElem? (i := 473) (by decide +kernel), List.mem_of_getElem? (i := 474) (by decide +kernel)⟩
theorem lw_p14 : lw_okq (⟨"CallSlicer$Code", "add", "(IIII)I"⟩, 20) := ⟨⟨by decide +kernel, by decide +kernel⟩, List.mem_of_getElem? (i := 24) (by decide +kernel), List.mem_of_getElem? (i := 480) (by decide +kernel), List.mem_of_getElem? (i := 481) (by decide +kernel)⟩
theorem lw_p15 : lw_okq (⟨"CallSlicer$Reader", "readAssignment", "(II)V"⟩, 11) := ⟨⟨by decide +kernel, by decide +kernel⟩, List.mem_of_getElem? (i := 148) (by decide +kernel), List.mem_of_getElem? (i := 484) (by decide +kernel), List.mem_of_getElem? (i := 485) (by decide +kernel)⟩
def lw_privs_1 : List (MethodName × Nat) := [(⟨"CallSlicer", "putFour", "(I)V"⟩, 8), (⟨"CallSlicer$Reader", "read", "([BILCallSlicer$Code;)I"⟩, 11), (⟨"CallSlicer$Reader", "start", "([BILCallSlicer$Code;)V"⟩, 11), (⟨"CallSlicer$Code", "clear", "()V"⟩, 20), (⟨"CallSlicer$Reader", "readProcedure", "()V"⟩, 11), (⟨"CallSlicer$Reader", "look", "()I"⟩, 11), (⟨"CallSlicer$Reader", "blame", "(II)V"⟩, 11), (⟨"CallSlicer$Reader", "openBlock", "(IZ)V"⟩, 11), (⟨"CallSlicer$Reader", "closeBlock", "()V"⟩, 11), (⟨"CallSlicer$Reader", "readSecond", "(I)V"⟩, 11), (⟨"CallSlicer$Reader", "readTry", "()V"⟩, 11), (⟨"CallSlicer$Reader", "addItem", "(I)I"⟩, 11), (⟨"CallSlicer$Tree", "add", "(I)I"⟩, 9), (⟨"CallSlicer$Reader", "readStatement", "(I)V"⟩, 11), (⟨"CallSlicer$Code", "add", "(IIII)I"⟩, 20), (⟨"CallSlicer$Reader", "readAssignment", "(II)V"⟩, 11)]
theorem lw_r1 : ∀ q ∈ lw_privs_1, lw_okq q := List.forall_mem_cons.mpr ⟨lw_p0, List.forall_mem_cons.mpr ⟨lw_p1, List.forall_mem_cons.mpr ⟨lw_p2, List.forall_mem_cons.mpr ⟨lw_p3, List.forall_mem_cons.mpr ⟨lw_p4, List.forall_mem_cons.mpr ⟨lw_p5, List.forall_mem_cons.mpr ⟨lw_p6, List.forall_mem_cons.mpr ⟨lw_p7, List.forall_mem_cons.mpr ⟨lw_p8, List.forall_mem_cons.mpr ⟨lw_p9, List.forall_mem_cons.mpr ⟨lw_p10, List.forall_mem_cons.mpr ⟨lw_p11, List.forall_mem_cons.mpr ⟨lw_p12, List.forall_mem_cons.mpr ⟨lw_p13, List.forall_mem_cons.mpr ⟨lw_p14, List.forall_mem_cons.mpr ⟨lw_p15, fun _ h => absurd h List.not_mem_nil⟩⟩⟩⟩⟩⟩⟩⟩⟩⟩⟩⟩⟩⟩⟩⟩
theorem lw_p16 : lw_okq (⟨"CallSlicer$Reader", "take", "(I)V"⟩, 11) := ⟨⟨by decide +kernel, by decide +kernel⟩, List.mem_of_getElem? (i := 148) (by decide +kernel), List.mem_of_getElem? (i := 488) (by decide +kernel), List.mem_of_getElem? (i := 489) (by decide +kernel)⟩
theorem lw_p17 : lw_okq (⟨"CallSlicer$Reader", "readCall", "(II)V"⟩, 11) := ⟨⟨by decide +kernel, by decide +kernel⟩, List.mem_of_getElem? (i := 148) (by decide +kernel), List.mem_of_getElem? (i := 492) (by decide +kernel), List.mem_of_getElem? (i := 493) (by decide +kernel)⟩
theorem lw_p18 : lw_okq (⟨"CallSlicer$Reader", "readOperand", "()I"⟩, 11) := ⟨⟨by decide +kernel, by decide +kernel⟩, List.mem_of_getElem? (i := 148) (by decide +kernel), List.mem_of_getElem? (i := 499) (by decide +kernel), List.mem_of_getElem? (i := 500) (by decide +kernel)⟩
theorem lw_p19 : lw_okq (⟨"CallSlicer$Reader", "readNumber", "()I"⟩, 11) := ⟨⟨by decide +kernel, by decide +kernel⟩, List.mem_of_getElem? (i := 148) (by decide +kernel), List.mem_of_getElem? (i := 506) (by decide +kernel), List.mem_of_getElem? (i := 507) (by decide +kernel)⟩
theorem lw_p20 : lw_okq (⟨"CallSlicer$Reader", "readNumbers", "(I)V"⟩, 11) := ⟨⟨by decide +kernel, by decide +kernel⟩, List.mem_of_getElem? (i := 148) (by decide +kernel), List.mem_of_getElem? (i := 510) (by decide +kernel), List.mem_of_getElem? (i := 511) (by decide +kernel)⟩
theorem lw_p21 : lw_okq (⟨"CallSlicer$Reader", "readCondition", "(II)V"⟩, 11) := ⟨⟨by decide +kernel, by decide +kernel⟩, List.mem_of_getElem? (i := 148) (by decide +kernel), List.mem_of_getElem? (i := 514) (by decide +kernel), List.mem_of_getElem? (i := 515) (by decide +kernel)⟩
theorem lw_p22 : lw_okq (⟨"CallSlicer$Reader", "finish", "()V"⟩, 11) := ⟨⟨by decide +kernel, by decide +kernel⟩, List.mem_of_getElem? (i := 148) (by decide +kernel), List.mem_of_getElem? (i := 518) (by decide +kernel), List.mem_of_getElem? (i := 519) (by decide +kernel)⟩
theorem lw_p23 : lw_okq (⟨"CallSlicer$Code", "callsOnlyTold", "()Z"⟩, 20) := ⟨⟨by decide +kernel, by decide +kernel⟩, List.mem_of_getElem? (i := 24) (by decide +kernel), List.mem_of_getElem? (i := 522) (by decide +kernel), List.mem_of_getElem? (i := 523) (by decide +kernel)⟩
theorem lw_p24 : lw_okq (⟨"CallSlicer$Wiring", "wire", "(LCallSlicer$Code;)V"⟩, 2) := ⟨⟨by decide +kernel, by decide +kernel⟩, List.mem_of_getElem? (i := 203) (by decide +kernel), List.mem_of_getElem? (i := 526) (by decide +kernel), List.mem_of_getElem? (i := 527) (by decide +kernel)⟩
theorem lw_p25 : lw_okq (⟨"CallSlicer$Wiring", "wireBlock", "(IIII)I"⟩, 2) := ⟨⟨by decide +kernel, by decide +kernel⟩, List.mem_of_getElem? (i := 203) (by decide +kernel), List.mem_of_getElem? (i := 530) (by decide +kernel), List.mem_of_getElem? (i := 531) (by decide +kernel)⟩
theorem lw_p26 : lw_okq (⟨"CallSlicer$Wiring", "wireTry", "(IIII)I"⟩, 2) := ⟨⟨by decide +kernel, by decide +kernel⟩, List.mem_of_getElem? (i := 203) (by decide +kernel), List.mem_of_getElem? (i := 534) (by decide +kernel), List.mem_of_getElem? (i := 535) (by decide +kernel)⟩
theorem lw_p27 : lw_okq (⟨"CallSlicer$Wiring", "wireStatement", "(IIII)I"⟩, 2) := ⟨⟨by decide +kernel, by decide +kernel⟩, List.mem_of_getElem? (i := 203) (by decide +kernel), List.mem_of_getElem? (i := 538) (by decide +kernel), List.mem_of_getElem? (i := 539) (by decide +kernel)⟩
theorem lw_p28 : lw_okq (⟨"CallSlicer$Code", "settleEnds", "()V"⟩, 20) := ⟨⟨by decide +kernel, by decide +kernel⟩, List.mem_of_getElem? (i := 24) (by decide +kernel), List.mem_of_getElem? (i := 542) (by decide +kernel), List.mem_of_getElem? (i := 543) (by decide +kernel)⟩
theorem lw_p29 : lw_okq (⟨"CallSlicer$Code", "walk", "(I)V"⟩, 20) := ⟨⟨by decide +kernel, by decide +kernel⟩, List.mem_of_getElem? (i := 24) (by decide +kernel), List.mem_of_getElem? (i := 546) (by decide +kernel), List.mem_of_getElem? (i := 547) (by decide +kernel)⟩
theorem lw_p30 : lw_okq (⟨"CallSlicer$Code", "goesStraight", "(I)Z"⟩, 20) := ⟨⟨by decide +kernel, by decide +kernel⟩, List.mem_of_getElem? (i := 24) (by decide +kernel), List.mem_of_getElem? (i := 554) (by decide +kernel), List.mem_of_getElem? (i := 555) (by decide +kernel)⟩
theorem lw_p31 : lw_okq (⟨"CallSlicer$Code", "escapes", "(I)Z"⟩, 20) := ⟨⟨by decide +kernel, by decide +kernel⟩, List.mem_of_getElem? (i := 24) (by decide +kernel), List.mem_of_getElem? (i := 558) (by decide +kernel), List.mem_of_getElem? (i := 559) (by decide +kernel)⟩
def lw_privs_2 : List (MethodName × Nat) := [(⟨"CallSlicer$Reader", "take", "(I)V"⟩, 11), (⟨"CallSlicer$Reader", "readCall", "(II)V"⟩, 11), (⟨"CallSlicer$Reader", "readOperand", "()I"⟩, 11), (⟨"CallSlicer$Reader", "readNumber", "()I"⟩, 11), (⟨"CallSlicer$Reader", "readNumbers", "(I)V"⟩, 11), (⟨"CallSlicer$Reader", "readCondition", "(II)V"⟩, 11), (⟨"CallSlicer$Reader", "finish", "()V"⟩, 11), (⟨"CallSlicer$Code", "callsOnlyTold", "()Z"⟩, 20), (⟨"CallSlicer$Wiring", "wire", "(LCallSlicer$Code;)V"⟩, 2), (⟨"CallSlicer$Wiring", "wireBlock", "(IIII)I"⟩, 2), (⟨"CallSlicer$Wiring", "wireTry", "(IIII)I"⟩, 2), (⟨"CallSlicer$Wiring", "wireStatement", "(IIII)I"⟩, 2), (⟨"CallSlicer$Code", "settleEnds", "()V"⟩, 20), (⟨"CallSlicer$Code", "walk", "(I)V"⟩, 20), (⟨"CallSlicer$Code", "goesStraight", "(I)Z"⟩, 20), (⟨"CallSlicer$Code", "escapes", "(I)Z"⟩, 20)]
theorem lw_r2 : ∀ q ∈ lw_privs_2, lw_okq q := List.forall_mem_cons.mpr ⟨lw_p16, List.forall_mem_cons.mpr ⟨lw_p17, List.forall_mem_cons.mpr ⟨lw_p18, List.forall_mem_cons.mpr ⟨lw_p19, List.forall_mem_cons.mpr ⟨lw_p20, List.forall_mem_cons.mpr ⟨lw_p21, List.forall_mem_cons.mpr ⟨lw_p22, List.forall_mem_cons.mpr ⟨lw_p23, List.forall_mem_cons.mpr ⟨lw_p24, List.forall_mem_cons.mpr ⟨lw_p25, List.forall_mem_cons.mpr ⟨lw_p26, List.forall_mem_cons.mpr ⟨lw_p27, List.forall_mem_cons.mpr ⟨lw_p28, List.forall_mem_cons.mpr ⟨lw_p29, List.forall_mem_cons.mpr ⟨lw_p30, List.forall_mem_cons.mpr ⟨lw_p31, fun _ h => absurd h List.not_mem_nil⟩⟩⟩⟩⟩⟩⟩⟩⟩⟩⟩⟩⟩⟩⟩⟩
theorem lw_p32 : lw_okq (⟨"CallSlicer$Code", "decides", "(I)Z"⟩, 20) := ⟨⟨by decide +kernel, by decide +kernel⟩, List.mem_of_getElem? (i := 24) (by decide +kernel), List.mem_of_getElem? (i := 562) (by decide +kernel), List.mem_of_getElem? (i := 563) (by decide +kernel)⟩
theorem lw_p33 : lw_okq (⟨"CallSlicer$Code", "allMayEnd", "()Z"⟩, 20) := ⟨⟨by decide +kernel, by decide +kernel⟩, List.mem_of_getElem? (i := 24) (by decide +kernel), List.mem_of_getElem? (i := 566) (by decide +kernel), List.mem_of_getElem? (i := 567) (by decide +kernel)⟩
theorem lw_p34 : lw_okq (⟨"CallSlicer$Slicing", "forget", "()V"⟩, 13) := ⟨⟨by decide +kernel, by decide +kernel⟩, List.mem_of_getElem? (i := 251) (by decide +kernel), List.mem_of_getElem? (i := 570) (by decide +kernel), List.mem_of_getElem? (i := 571) (by decide +kernel)⟩
theorem lw_p35 : lw_okq (⟨"CallSlicer$Machine", "forget", "()V"⟩, 13) := ⟨⟨by decide +kernel, by decide +kernel⟩, List.mem_of_getElem? (i := 329) (by decide +kernel), List.mem_of_getElem? (i := 574) (by decide +kernel), List.mem_of_getElem? (i := 575) (by decide +kernel)⟩
theorem lw_p36 : lw_okq (⟨"CallSlicer", "isStatement", "(I)Z"⟩, 8) := ⟨⟨by decide +kernel, by decide +kernel⟩, List.mem_of_getElem? (i := 16) (by decide +kernel), List.mem_of_getElem? (i := 596) (by decide +kernel), List.mem_of_getElem? (i := 597) (by decide +kernel)⟩
theorem lw_p37 : lw_okq (⟨"CallSlicer$Slicing", "prepare", "(LCallSlicer$Code;)V"⟩, 13) := ⟨⟨by decide +kernel, by decide +kernel⟩, List.mem_of_getElem? (i := 251) (by decide +kernel), List.mem_of_getElem? (i := 605) (by decide +kernel), List.mem_of_getElem? (i := 606) (by decide +kernel)⟩
theorem lw_p38 : lw_okq (⟨"CallSlicer$Hanging", "build", "(LCallSlicer$Code;)V"⟩, 7) := ⟨⟨by decide +kernel, by decide +kernel⟩, List.mem_of_getElem? (i := 257) (by decide +kernel), List.mem_of_getElem? (i := 609) (by decide +kernel), List.mem_of_getElem? (i := 610) (by decide +kernel)⟩
theorem lw_p39 : lw_okq (⟨"CallSlicer$Hanging", "tieByWay", "()V"⟩, 7) := ⟨⟨by decide +kernel, by decide +kernel⟩, List.mem_of_getElem? (i := 257) (by decide +kernel), List.mem_of_getElem? (i := 616) (by decide +kernel), List.mem_of_getElem? (i := 617) (by decide +kernel)⟩
theorem lw_p40 : lw_okq (⟨"CallSlicer$Hanging", "findCertain", "()V"⟩, 7) := ⟨⟨by decide +kernel, by decide +kernel⟩, List.mem_of_getElem? (i := 257) (by decide +kernel), List.mem_of_getElem? (i := 620) (by decide +kernel), List.mem_of_getElem? (i := 621) (by decide +kernel)⟩
theorem lw_p41 : lw_okq (⟨"CallSlicer$Hanging", "tieDecided", "(IJ)V"⟩, 7) := ⟨⟨by decide +kernel, by decide +kernel⟩, List.mem_of_getElem? (i := 257) (by decide +kernel), List.mem_of_getElem? (i := 627) (by decide +kernel), List.mem_of_getElem? (i := 628) (by decide +kernel)⟩
theorem lw_p42 : lw_okq (⟨"CallSlicer$Hanging", "tieAll", "(JII)V"⟩, 7) := ⟨⟨by decide +kernel, by decide +kernel⟩, List.mem_of_getElem? (i := 257) (by decide +kernel), List.mem_of_getElem? (i := 631) (by decide +kernel), List.mem_of_getElem? (i := 632) (by decide +kernel)⟩
theorem lw_p43 : lw_okq (⟨"CallSlicer$Hanging", "tie", "(IIIJ)V"⟩, 7) := ⟨⟨by decide +kernel, by decide +kernel⟩, List.mem_of_getElem? (i := 257) (by decide +kernel), List.mem_of_getElem? (i := 636) (by decide +kernel), List.mem_of_getElem? (i := 637) (by decide +kernel)⟩
theorem lw_p44 : lw_okq (⟨"CallSlicer$Hanging", "findTellers", "(I)V"⟩, 7) := ⟨⟨by decide +kernel, by decide +kernel⟩, List.mem_of_getElem? (i := 257) (by decide +kernel), List.mem_of_getElem? (i := 640) (by decide +kernel), List.mem_of_getElem? (i := 641) (by decide +kernel)⟩
theorem lw_p45 : lw_okq (⟨"CallSlicer$Hanging", "passOn", "(II)Z"⟩, 7) := ⟨⟨by decide +kernel, by decide +kernel⟩, List.mem_of_getElem? (i := 257) (by decide +kernel), List.mem_of_getElem? (i := 645) (by decide +kernel), List.mem_of_getElem? (i := 646) (by decide +kernel)⟩
theorem lw_p46 : lw_okq (⟨"CallSlicer$Code", "tellsStraight", "(II)Z"⟩, 20) := ⟨⟨by decide +kernel, by decide +kernel⟩, List.mem_of_getElem? (i := 24) (by decide +kernel), List.mem_of_getElem? (i := 650) (by decide +kernel), List.mem_of_getElem? (i := 651) (by decide +kernel)⟩
theorem lw_p47 : lw_okq (⟨"CallSlicer$Hanging", "addTellers", "(IJ)Z"⟩, 7) := ⟨⟨by decide +kernel, by decide +kernel⟩, List.mem_of_getElem? (i := 257) (by decide +kernel), List.mem_of_getElem? (i := 655) (by decide +kernel), List.mem_of_getElem? (i := 656) (by decide +kernel)⟩
def lw_privs_3 : List (MethodName × Nat) := [(⟨"CallSlicer$Code", "decides", "(I)Z"⟩, 20), (⟨"CallSlicer$Code", "allMayEnd", "()Z"⟩, 20), (⟨"CallSlicer$Slicing", "forget", "()V"⟩, 13), (⟨"CallSlicer$Machine", "forget", "()V"⟩, 13), (⟨"CallSlicer", "isStatement", "(I)Z"⟩, 8), (⟨"CallSlicer$Slicing", "prepare", "(LCallSlicer$Code;)V"⟩, 13), (⟨"CallSlicer$Hanging", "build", "(LCallSlicer$Code;)V"⟩, 7), (⟨"CallSlicer$Hanging", "tieByWay", "()V"⟩, 7), (⟨"CallSlicer$Hanging", "findCertain", "()V"⟩, 7), (⟨"CallSlicer$Hanging", "tieDecided", "(IJ)V"⟩, 7), (⟨"CallSlicer$Hanging", "tieAll", "(JII)V"⟩, 7), (⟨"CallSlicer$Hanging", "tie", "(IIIJ)V"⟩, 7), (⟨"CallSlicer$Hanging", "findTellers", "(I)V"⟩, 7), (⟨"CallSlicer$Hanging", "passOn", "(II)Z"⟩, 7), (⟨"CallSlicer$Code", "tellsStraight", "(II)Z"⟩, 20), (⟨"CallSlicer$Hanging", "addTellers", "(IJ)Z"⟩, 7)]
theorem lw_r3 : ∀ q ∈ lw_privs_3, lw_okq q := List.forall_mem_cons.mpr ⟨lw_p32, List.forall_mem_cons.mpr ⟨lw_p33, List.forall_mem_cons.mpr ⟨lw_p34, List.forall_mem_cons.mpr ⟨lw_p35, List.forall_mem_cons.mpr ⟨lw_p36, List.forall_mem_cons.mpr ⟨lw_p37, List.forall_mem_cons.mpr ⟨lw_p38, List.forall_mem_cons.mpr ⟨lw_p39, List.forall_mem_cons.mpr ⟨lw_p40, List.forall_mem_cons.mpr ⟨lw_p41, List.forall_mem_cons.mpr ⟨lw_p42, List.forall_mem_cons.mpr ⟨lw_p43, List.forall_mem_cons.mpr ⟨lw_p44, List.forall_mem_cons.mpr ⟨lw_p45, List.forall_mem_cons.mpr ⟨lw_p46, List.forall_mem_cons.mpr ⟨lw_p47, fun _ h => absurd h List.not_mem_nil⟩⟩⟩⟩⟩⟩⟩⟩⟩⟩⟩⟩⟩⟩⟩⟩
theorem lw_p48 : lw_okq (⟨"CallSlicer$Code", "tellsAside", "(II)Z"⟩, 20) := ⟨⟨by decide +kernel, by decide +kernel⟩, List.mem_of_getElem? (i := 24) (by decide +kernel), List.mem_of_getElem? (i := 659) (by decide +kernel), List.mem_of_getElem? (i := 660) (by decide +kernel)⟩
theorem lw_p49 : lw_okq (⟨"CallSlicer$Hanging", "tieByValue", "(I)V"⟩, 7) := ⟨⟨by decide +kernel, by decide +kernel⟩, List.mem_of_getElem? (i := 257) (by decide +kernel), List.mem_of_getElem? (i := 663) (by decide +kernel), List.mem_of_getElem? (i := 664) (by decide +kernel)⟩
theorem lw_p50 : lw_okq (⟨"CallSlicer$Hanging", "tieUse", "(III)V"⟩, 7) := ⟨⟨by decide +kernel, by decide +kernel⟩, List.mem_of_getElem? (i := 257) (by decide +kernel), List.mem_of_getElem? (i := 667) (by decide +kernel), List.mem_of_getElem? (i := 668) (by decide +kernel)⟩
theorem lw_p51 : lw_okq (⟨"CallSlicer$Hanging", "tieEnds", "()V"⟩, 7) := ⟨⟨by decide +kernel, by decide +kernel⟩, List.mem_of_getElem? (i := 257) (by decide +kernel), List.mem_of_getElem? (i := 676) (by decide +kernel), List.mem_of_getElem? (i := 677) (by decide +kernel)⟩
theorem lw_p52 : lw_okq (⟨"CallSlicer$Hanging", "tieCalls", "()V"⟩, 7) := ⟨⟨by decide +kernel, by decide +kernel⟩, List.mem_of_getElem? (i := 257) (by decide +kernel), List.mem_of_getElem? (i := 681) (by decide +kernel), List.mem_of_getElem? (i := 682) (by decide +kernel)⟩
theorem lw_p53 : lw_okq (⟨"CallSlicer$Code", "callsOf", "(I)J"⟩, 20) := ⟨⟨by decide +kernel, by decide +kernel⟩, List.mem_of_getElem? (i := 24) (by decide +kernel), List.mem_of_getElem? (i := 685) (by decide +kernel), List.mem_of_getElem? (i := 686) (by decide +kernel)⟩
theorem lw_p54 : lw_okq (⟨"CallSlicer$Slicing", "growThrough", "()Z"⟩, 13) := ⟨⟨by decide +kernel, by decide +kernel⟩, List.mem_of_getElem? (i := 251) (by decide +kernel), List.mem_of_getElem? (i := 692) (by decide +kernel), List.mem_of_getElem? (i := 693) (by decide +kernel)⟩
theorem lw_p55 : lw_okq (⟨"CallSlicer$Slicing", "insFrom", "(II)I"⟩, 13) := ⟨⟨by decide +kernel, by decide +kernel⟩, List.mem_of_getElem? (i := 251) (by decide +kernel), List.mem_of_getElem? (i := 696) (by decide +kernel), List.mem_of_getElem? (i := 697) (by decide +kernel)⟩
theorem lw_p56 : lw_okq (⟨"CallSlicer$Slicing", "clearFound", "()V"⟩, 13) := ⟨⟨by decide +kernel, by decide +kernel⟩, List.mem_of_getElem? (i := 251) (by decide +kernel), List.mem_of_getElem? (i := 700) (by decide +kernel), List.mem_of_getElem? (i := 701) (by decide +kernel)⟩
theorem lw_p57 : lw_okq (⟨"CallSlicer$Slicing", "add", "([JIJ)V"⟩, 13) := ⟨⟨by decide +kernel, by decide +kernel⟩, List.mem_of_getElem? (i := 251) (by decide +kernel), List.mem_of_getElem? (i := 706) (by decide +kernel), List.mem_of_getElem? (i := 707) (by decide +kernel)⟩
theorem lw_p58 : lw_okq (⟨"CallSlicer$Slicing", "spread", "([JI)V"⟩, 13) := ⟨⟨by decide +kernel, by decide +kernel⟩, List.mem_of_getElem? (i := 251) (by decide +kernel), List.mem_of_getElem? (i := 711) (by decide +kernel), List.mem_of_getElem? (i := 712) (by decide +kernel)⟩
theorem lw_p59 : lw_okq (⟨"CallSlicer$Slicing", "followRow", "([JI)V"⟩, 13) := ⟨⟨by decide +kernel, by decide +kernel⟩, List.mem_of_getElem? (i := 251) (by decide +kernel), List.mem_of_getElem? (i := 715) (by decide +kernel), List.mem_of_getElem? (i := 716) (by decide +kernel)⟩
theorem lw_p60 : lw_okq (⟨"CallSlicer$Slicing", "followCall", "([JIII)V"⟩, 13) := ⟨⟨by decide +kernel, by decide +kernel⟩, List.mem_of_getElem? (i := 251) (by decide +kernel), List.mem_of_getElem? (i := 719) (by decide +kernel), List.mem_of_getElem? (i := 720) (by decide +kernel)⟩
theorem lw_p61 : lw_okq (⟨"CallSlicer$Hanging", "kindsBetween", "(II)I"⟩, 7) := ⟨⟨by decide +kernel, by decide +kernel⟩, List.mem_of_getElem? (i := 257) (by decide +kernel), List.mem_of_getElem? (i := 724) (by decide +kernel), List.mem_of_getElem? (i := 725) (by decide +kernel)⟩
theorem lw_p62 : lw_okq (⟨"CallSlicer", "isProcedure", "(I)Z"⟩, 8) := ⟨⟨by decide +kernel, by decide +kernel⟩, List.mem_of_getElem? (i := 16) (by decide +kernel), List.mem_of_getElem? (i := 732) (by decide +kernel), List.mem_of_getElem? (i := 733) (by decide +kernel)⟩
theorem lw_p63 : lw_okq (⟨"CallSlicer$Slicing", "leadsThrough", "(III)Z"⟩, 13) := ⟨⟨by decide +kernel, by decide +kernel⟩, List.mem_of_getElem? (i := 251) (by decide +kernel), List.mem_of_getElem? (i := 743) (by decide +kernel), List.mem_of_getElem? (i := 744) (by decide +kernel)⟩
def lw_privs_4 : List (MethodName × Nat) := [(⟨"CallSlicer$Code", "tellsAside", "(II)Z"⟩, 20), (⟨"CallSlicer$Hanging", "tieByValue", "(I)V"⟩, 7), (⟨"CallSlicer$Hanging", "tieUse", "(III)V"⟩, 7), (⟨"CallSlicer$Hanging", "tieEnds", "()V"⟩, 7), (⟨"CallSlicer$Hanging", "tieCalls", "()V"⟩, 7), (⟨"CallSlicer$Code", "callsOf", "(I)J"⟩, 20), (⟨"CallSlicer$Slicing", "growThrough", "()Z"⟩, 13), (⟨"CallSlicer$Slicing", "insFrom", "(II)I"⟩, 13), (⟨"CallSlicer$Slicing", "clearFound", "()V"⟩, 13), (⟨"CallSlicer$Slicing", "add", "([JIJ)V"⟩, 13), (⟨"CallSlicer$Slicing", "spread", "([JI)V"⟩, 13), (⟨"CallSlicer$Slicing", "followRow", "([JI)V"⟩, 13), (⟨"CallSlicer$Slicing", "followCall", "([JIII)V"⟩, 13), (⟨"CallSlicer$Hanging", "kindsBetween", "(II)I"⟩, 7), (⟨"CallSlicer", "isProcedure", "(I)Z"⟩, 8), (⟨"CallSlicer$Slicing", "leadsThrough", "(III)Z"⟩, 13)]
theorem lw_r4 : ∀ q ∈ lw_privs_4, lw_okq q := List.forall_mem_cons.mpr ⟨lw_p48, List.forall_mem_cons.mpr ⟨lw_p49, List.forall_mem_cons.mpr ⟨lw_p50, List.forall_mem_cons.mpr ⟨lw_p51, List.forall_mem_cons.mpr ⟨lw_p52, List.forall_mem_cons.mpr ⟨lw_p53, List.forall_mem_cons.mpr ⟨lw_p54, List.forall_mem_cons.mpr ⟨lw_p55, List.forall_mem_cons.mpr ⟨lw_p56, List.forall_mem_cons.mpr ⟨lw_p57, List.forall_mem_cons.mpr ⟨lw_p58, List.forall_mem_cons.mpr ⟨lw_p59, List.forall_mem_cons.mpr ⟨lw_p60, List.forall_mem_cons.mpr ⟨lw_p61, List.forall_mem_cons.mpr ⟨lw_p62, List.forall_mem_cons.mpr ⟨lw_p63, fun _ h => absurd h List.not_mem_nil⟩⟩⟩⟩⟩⟩⟩⟩⟩⟩⟩⟩⟩⟩⟩⟩
theorem lw_p64 : lw_okq (⟨"CallSlicer$Slicing", "backFrom", "(I)J"⟩, 13) := ⟨⟨by decide +kernel, by decide +kernel⟩, List.mem_of_getElem? (i := 251) (by decide +kernel), List.mem_of_getElem? (i := 752) (by decide +kernel), List.mem_of_getElem? (i := 753) (by decide +kernel)⟩
theorem lw_p65 : lw_okq (⟨"CallSlicer$Slicing", "beginFrom", "(I)V"⟩, 13) := ⟨⟨by decide +kernel, by decide +kernel⟩, List.mem_of_getElem? (i := 251) (by decide +kernel), List.mem_of_getElem? (i := 756) (by decide +kernel), List.mem_of_getElem? (i := 757) (by decide +kernel)⟩
theorem lw_p66 : lw_okq (⟨"CallSlicer$Slicing", "findOn", "()V"⟩, 13) := ⟨⟨by decide +kernel, by decide +kernel⟩, List.mem_of_getElem? (i := 251) (by decide +kernel), List.mem_of_getElem? (i := 760) (by decide +kernel), List.mem_of_getElem? (i := 761) (by decide +kernel)⟩
theorem lw_p67 : lw_okq (⟨"CallSlicer$Slicing", "statementsFound", "()J"⟩, 13) := ⟨⟨by decide +kernel, by decide +kernel⟩, List.mem_of_getElem? (i := 251) (by decide +kernel), List.mem_of_getElem? (i := 764) (by decide +kernel), List.mem_of_getElem? (i := 765) (by decide +kernel)⟩
theorem lw_p68 : lw_okq (⟨"CallSlicer$Slicing", "forthFrom", "(I)J"⟩, 13) := ⟨⟨by decide +kernel, by decide +kernel⟩, List.mem_of_getElem? (i := 251) (by decide +kernel), List.mem_of_getElem? (i := 773) (by decide +kernel), List.mem_of_getElem? (i := 774) (by decide +kernel)⟩
theorem lw_p69 : lw_okq (⟨"CallSlicer$Slicing", "backFromOut", "(II)J"⟩, 13) := ⟨⟨by decide +kernel, by decide +kernel⟩, List.mem_of_getElem? (i := 251) (by decide +kernel), List.mem_of_getElem? (i := 786) (by decide +kernel), List.mem_of_getElem? (i := 787) (by decide +kernel)⟩
theorem lw_p70 : lw_okq (⟨"CallSlicer$Slicing", "keptFor", "(I)J"⟩, 13) := ⟨⟨by decide +kernel, by decide +kernel⟩, List.mem_of_getElem? (i := 251) (by decide +kernel), List.mem_of_getElem? (i := 794) (by decide +kernel), List.mem_of_getElem? (i := 795) (by decide +kernel)⟩
theorem lw_p71 : lw_okq (⟨"CallSlicer$Slicing", "findKept", "(I)J"⟩, 13) := ⟨⟨by decide +kernel, by decide +kernel⟩, List.mem_of_getElem? (i := 251) (by decide +kernel), List.mem_of_getElem? (i := 798) (by decide +kernel), List.mem_of_getElem? (i := 799) (by decide +kernel)⟩
theorem lw_p72 : lw_okq (⟨"CallSlicer$Slicing", "completeCalls", "()Z"⟩, 13) := ⟨⟨by decide +kernel, by decide +kernel⟩, List.mem_of_getElem? (i := 251) (by decide +kernel), List.mem_of_getElem? (i := 802) (by decide +kernel), List.mem_of_getElem? (i := 803) (by decide +kernel)⟩
theorem lw_p73 : lw_okq (⟨"CallSlicer$Machine", "play", "(LCallSlicer$Code;JII)I"⟩, 13) := ⟨⟨by decide +kernel, by decide +kernel⟩, List.mem_of_getElem? (i := 329) (by decide +kernel), List.mem_of_getElem? (i := 811) (by decide +kernel), List.mem_of_getElem? (i := 812) (by decide +kernel)⟩
theorem lw_p74 : lw_okq (⟨"CallSlicer$Machine", "enter", "(III)V"⟩, 13) := ⟨⟨by decide +kernel, by decide +kernel⟩, List.mem_of_getElem? (i := 329) (by decide +kernel), List.mem_of_getElem? (i := 816) (by decide +kernel), List.mem_of_getElem? (i := 817) (by decide +kernel)⟩
theorem lw_p75 : lw_okq (⟨"CallSlicer$Machine", "step", "()V"⟩, 13) := ⟨⟨by decide +kernel, by decide +kernel⟩, List.mem_of_getElem? (i := 329) (by decide +kernel), List.mem_of_getElem? (i := 821) (by decide +kernel), List.mem_of_getElem? (i := 822) (by decide +kernel)⟩
theorem lw_p76 : lw_okq (⟨"CallSlicer$Machine", "leave", "(IZ)V"⟩, 13) := ⟨⟨by decide +kernel, by decide +kernel⟩, List.mem_of_getElem? (i := 329) (by decide +kernel), List.mem_of_getElem? (i := 825) (by decide +kernel), List.mem_of_getElem? (i := 826) (by decide +kernel)⟩
theorem lw_p77 : lw_okq (⟨"CallSlicer$Machine", "see", "(II)V"⟩, 13) := ⟨⟨by decide +kernel, by decide +kernel⟩, List.mem_of_getElem? (i := 329) (by decide +kernel), List.mem_of_getElem? (i := 829) (by decide +kernel), List.mem_of_getElem? (i := 830) (by decide +kernel)⟩
theorem lw_p78 : lw_okq (⟨"CallSlicer$Machine", "store", "(II)V"⟩, 13) := ⟨⟨by decide +kernel, by decide +kernel⟩, List.mem_of_getElem? (i := 329) (by decide +kernel), List.mem_of_getElem? (i := 833) (by decide +kernel), List.mem_of_getElem? (i := 834) (by decide +kernel)⟩
theorem lw_p79 : lw_okq (⟨"CallSlicer$Machine", "perform", "(I)V"⟩, 13) := ⟨⟨by decide +kernel, by decide +kernel⟩, List.mem_of_getElem? (i := 329) (by decide +kernel), List.mem_of_getElem? (i := 838) (by decide +kernel), List.mem_of_getElem? (i := 839) (by decide +kernel)⟩
def lw_privs_5 : List (MethodName × Nat) := [(⟨"CallSlicer$Slicing", "backFrom", "(I)J"⟩, 13), (⟨"CallSlicer$Slicing", "beginFrom", "(I)V"⟩, 13), (⟨"CallSlicer$Slicing", "findOn", "()V"⟩, 13), (⟨"CallSlicer$Slicing", "statementsFound", "()J"⟩, 13), (⟨"CallSlicer$Slicing", "forthFrom", "(I)J"⟩, 13), (⟨"CallSlicer$Slicing", "backFromOut", "(II)J"⟩, 13), (⟨"CallSlicer$Slicing", "keptFor", "(I)J"⟩, 13), (⟨"CallSlicer$Slicing", "findKept", "(I)J"⟩, 13), (⟨"CallSlicer$Slicing", "completeCalls", "()Z"⟩, 13), (⟨"CallSlicer$Machine", "play", "(LCallSlicer$Code;JII)I"⟩, 13), (⟨"CallSlicer$Machine", "enter", "(III)V"⟩, 13), (⟨"CallSlicer$Machine", "step", "()V"⟩, 13), (⟨"CallSlicer$Machine", "leave", "(IZ)V"⟩, 13), (⟨"CallSlicer$Machine", "see", "(II)V"⟩, 13), (⟨"CallSlicer$Machine", "store", "(II)V"⟩, 13), (⟨"CallSlicer$Machine", "perform", "(I)V"⟩, 13)]
theorem lw_r5 : ∀ q ∈ lw_privs_5, lw_okq q := List.forall_mem_cons.mpr ⟨lw_p64, List.forall_mem_cons.mpr ⟨lw_p65, List.forall_mem_cons.mpr ⟨lw_p66, List.forall_mem_cons.mpr ⟨lw_p67, List.forall_mem_cons.mpr ⟨lw_p68, List.forall_mem_cons.mpr ⟨lw_p69, List.forall_mem_cons.mpr ⟨lw_p70, List.forall_mem_cons.mpr ⟨lw_p71, List.forall_mem_cons.mpr ⟨lw_p72, List.forall_mem_cons.mpr ⟨lw_p73, List.forall_mem_cons.mpr ⟨lw_p74, List.forall_mem_cons.mpr ⟨lw_p75, List.forall_mem_cons.mpr ⟨lw_p76, List.forall_mem_cons.mpr ⟨lw_p77, List.forall_mem_cons.mpr ⟨lw_p78, List.forall_mem_cons.mpr ⟨lw_p79, fun _ h => absurd h List.not_mem_nil⟩⟩⟩⟩⟩⟩⟩⟩⟩⟩⟩⟩⟩⟩⟩⟩
theorem lw_p80 : lw_okq (⟨"CallSlicer$Machine", "compute", "(I)I"⟩, 13) := ⟨⟨by decide +kernel, by decide +kernel⟩, List.mem_of_getElem? (i := 329) (by decide +kernel), List.mem_of_getElem? (i := 842) (by decide +kernel), List.mem_of_getElem? (i := 843) (by decide +kernel)⟩
theorem lw_p81 : lw_okq (⟨"CallSlicer$Machine", "load", "(I)I"⟩, 13) := ⟨⟨by decide +kernel, by decide +kernel⟩, List.mem_of_getElem? (i := 329) (by decide +kernel), List.mem_of_getElem? (i := 846) (by decide +kernel), List.mem_of_getElem? (i := 847) (by decide +kernel)⟩
theorem lw_p82 : lw_okq (⟨"CallSlicer$Machine", "open", "(I)V"⟩, 13) := ⟨⟨by decide +kernel, by decide +kernel⟩, List.mem_of_getElem? (i := 329) (by decide +kernel), List.mem_of_getElem? (i := 850) (by decide +kernel), List.mem_of_getElem? (i := 851) (by decide +kernel)⟩
theorem lw_p83 : lw_okq (⟨"CallSlicer$Machine", "raise", "(II)V"⟩, 13) := ⟨⟨by decide +kernel, by decide +kernel⟩, List.mem_of_getElem? (i := 329) (by decide +kernel), List.mem_of_getElem? (i := 854) (by decide +kernel), List.mem_of_getElem? (i := 855) (by decide +kernel)⟩
theorem lw_p84 : lw_okq (⟨"CallSlicer$Machine", "tell", "(I)I"⟩, 13) := ⟨⟨by decide +kernel, by decide +kernel⟩, List.mem_of_getElem? (i := 329) (by decide +kernel), List.mem_of_getElem? (i := 866) (by decide +kernel), List.mem_of_getElem? (i := 867) (by decide +kernel)⟩
theorem lw_p85 : lw_okq (⟨"CallSlicer$Machine", "sightsOf", "(I)I"⟩, 13) := ⟨⟨by decide +kernel, by decide +kernel⟩, List.mem_of_getElem? (i := 329) (by decide +kernel), List.mem_of_getElem? (i := 874) (by decide +kernel), List.mem_of_getElem? (i := 875) (by decide +kernel)⟩
theorem lw_p86 : lw_okq (⟨"CallSlicer$Machine", "sightOf", "(II)I"⟩, 13) := ⟨⟨by decide +kernel, by decide +kernel⟩, List.mem_of_getElem? (i := 329) (by decide +kernel), List.mem_of_getElem? (i := 878) (by decide +kernel), List.mem_of_getElem? (i := 879) (by decide +kernel)⟩
theorem lw_p87 : lw_okq (⟨"CallSlicerModel", "put", "(I)V"⟩, 60) := ⟨⟨by decide +kernel, by decide +kernel⟩, List.mem_of_getElem? (i := 882) (by decide +kernel), List.mem_of_getElem? (i := 1073) (by decide +kernel), List.mem_of_getElem? (i := 1074) (by decide +kernel)⟩
theorem lw_p88 : lw_okq (⟨"CallSlicerModel", "readAll", "()V"⟩, 60) := ⟨⟨by decide +kernel, by decide +kernel⟩, List.mem_of_getElem? (i := 882) (by decide +kernel), List.mem_of_getElem? (i := 1088) (by decide +kernel), List.mem_of_getElem? (i := 1089) (by decide +kernel)⟩
theorem lw_p89 : lw_okq (⟨"CallSlicerModel", "here", "()I"⟩, 60) := ⟨⟨by decide +kernel, by decide +kernel⟩, List.mem_of_getElem? (i := 882) (by decide +kernel), List.mem_of_getElem? (i := 1092) (by decide +kernel), List.mem_of_getElem? (i := 1093) (by decide +kernel)⟩
theorem lw_p90 : lw_okq (⟨"CallSlicerModel", "fails", "(I)V"⟩, 60) := ⟨⟨by decide +kernel, by decide +kernel⟩, List.mem_of_getElem? (i := 882) (by decide +kernel), List.mem_of_getElem? (i := 1096) (by decide +kernel), List.mem_of_getElem? (i := 1097) (by decide +kernel)⟩
theorem lw_p91 : lw_okq (⟨"CallSlicerModel", "isGood", "()Z"⟩, 60) := ⟨⟨by decide +kernel, by decide +kernel⟩, List.mem_of_getElem? (i := 882) (by decide +kernel), List.mem_of_getElem? (i := 1100) (by decide +kernel), List.mem_of_getElem? (i := 1101) (by decide +kernel)⟩
theorem lw_p92 : lw_okq (⟨"CallSlicerModel", "readBlock", "(III)I"⟩, 60) := ⟨⟨by decide +kernel, by decide +kernel⟩, List.mem_of_getElem? (i := 882) (by decide +kernel), List.mem_of_getElem? (i := 1104) (by decide +kernel), List.mem_of_getElem? (i := 1105) (by decide +kernel)⟩
theorem lw_p93 : lw_okq (⟨"CallSlicerModel", "newBlock", "(II)I"⟩, 60) := ⟨⟨by decide +kernel, by decide +kernel⟩, List.mem_of_getElem? (i := 882) (by decide +kernel), List.mem_of_getElem? (i := 1108) (by decide +kernel), List.mem_of_getElem? (i := 1109) (by decide +kernel)⟩
theorem lw_p94 : lw_okq (⟨"CallSlicerModel", "readItem", "(III)V"⟩, 60) := ⟨⟨by decide +kernel, by decide +kernel⟩, List.mem_of_getElem? (i := 882) (by decide +kernel), List.mem_of_getElem? (i := 1112) (by decide +kernel), List.mem_of_getElem? (i := 1113) (by decide +kernel)⟩
theorem lw_p95 : lw_okq (⟨"CallSlicerModel", "nameHere", "(Z)I"⟩, 60) := ⟨⟨by decide +kernel, by decide +kernel⟩, List.mem_of_getElem? (i := 882) (by decide +kernel), List.mem_of_getElem? (i := 1116) (by decide +kernel), List.mem_of_getElem? (i := 1117) (by decide +kernel)⟩
def lw_privs_6 : List (MethodName × Nat) := [(⟨"CallSlicer$Machine", "compute", "(I)I"⟩, 13), (⟨"CallSlicer$Machine", "load", "(I)I"⟩, 13), (⟨"CallSlicer$Machine", "open", "(I)V"⟩, 13), (⟨"CallSlicer$Machine", "raise", "(II)V"⟩, 13), (⟨"CallSlicer$Machine", "tell", "(I)I"⟩, 13), (⟨"CallSlicer$Machine", "sightsOf", "(I)I"⟩, 13), (⟨"CallSlicer$Machine", "sightOf", "(II)I"⟩, 13), (⟨"CallSlicerModel", "put", "(I)V"⟩, 60), (⟨"CallSlicerModel", "readAll", "()V"⟩, 60), (⟨"CallSlicerModel", "here", "()I"⟩, 60), (⟨"CallSlicerModel", "fails", "(I)V"⟩, 60), (⟨"CallSlicerModel", "isGood", "()Z"⟩, 60), (⟨"CallSlicerModel", "readBlock", "(III)I"⟩, 60), (⟨"CallSlicerModel", "newBlock", "(II)I"⟩, 60), (⟨"CallSlicerModel", "readItem", "(III)V"⟩, 60), (⟨"CallSlicerModel", "nameHere", "(Z)I"⟩, 60)]
theorem lw_r6 : ∀ q ∈ lw_privs_6, lw_okq q := List.forall_mem_cons.mpr ⟨lw_p80, List.forall_mem_cons.mpr ⟨lw_p81, List.forall_mem_cons.mpr ⟨lw_p82, List.forall_mem_cons.mpr ⟨lw_p83, List.forall_mem_cons.mpr ⟨lw_p84, List.forall_mem_cons.mpr ⟨lw_p85, List.forall_mem_cons.mpr ⟨lw_p86, List.forall_mem_cons.mpr ⟨lw_p87, List.forall_mem_cons.mpr ⟨lw_p88, List.forall_mem_cons.mpr ⟨lw_p89, List.forall_mem_cons.mpr ⟨lw_p90, List.forall_mem_cons.mpr ⟨lw_p91, List.forall_mem_cons.mpr ⟨lw_p92, List.forall_mem_cons.mpr ⟨lw_p93, List.forall_mem_cons.mpr ⟨lw_p94, List.forall_mem_cons.mpr ⟨lw_p95, fun _ h => absurd h List.not_mem_nil⟩⟩⟩⟩⟩⟩⟩⟩⟩⟩⟩⟩⟩⟩⟩⟩
theorem lw_p96 : lw_okq (⟨"CallSlicerModel", "readSet", "(II)V"⟩, 60) := ⟨⟨by decide +kernel, by decide +kernel⟩, List.mem_of_getElem? (i := 882) (by decide +kernel), List.mem_of_getElem? (i := 1123) (by decide +kernel), List.mem_of_getElem? (i := 1124) (by decide +kernel)⟩
theorem lw_p97 : lw_okq (⟨"CallSlicerModel", "must", "(I)V"⟩, 60) := ⟨⟨by decide +kernel, by decide +kernel⟩, List.mem_of_getElem? (i := 882) (by decide +kernel), List.mem_of_getElem? (i := 1127) (by decide +kernel), List.mem_of_getElem? (i := 1128) (by decide +kernel)⟩
theorem lw_p98 : lw_okq (⟨"CallSlicerModel", "operand", "(II)V"⟩, 60) := ⟨⟨by decide +kernel, by decide +kernel⟩, List.mem_of_getElem? (i := 882) (by decide +kernel), List.mem_of_getElem? (i := 1131) (by decide +kernel), List.mem_of_getElem? (i := 1132) (by decide +kernel)⟩
theorem lw_p99 : lw_okq (⟨"CallSlicerModel", "readTest", "(III)V"⟩, 60) := ⟨⟨by decide +kernel, by decide +kernel⟩, List.mem_of_getElem? (i := 882) (by decide +kernel), List.mem_of_getElem? (i := 1138) (by decide +kernel), List.mem_of_getElem? (i := 1139) (by decide +kernel)⟩
theorem lw_p100 : lw_okq (⟨"CallSlicerModel", "readTry", "(III)V"⟩, 60) := ⟨⟨by decide +kernel, by decide +kernel⟩, List.mem_of_getElem? (i := 882) (by decide +kernel), List.mem_of_getElem? (i := 1142) (by decide +kernel), List.mem_of_getElem? (i := 1143) (by decide +kernel)⟩
theorem lw_p101 : lw_okq (⟨"CallSlicerModel", "readEnd", "(I)V"⟩, 60) := ⟨⟨by decide +kernel, by decide +kernel⟩, List.mem_of_getElem? (i := 882) (by decide +kernel), List.mem_of_getElem? (i := 1146) (by decide +kernel), List.mem_of_getElem? (i := 1147) (by decide +kernel)⟩
theorem lw_p102 : lw_okq (⟨"CallSlicerModel", "isTold", "()Z"⟩, 60) := ⟨⟨by decide +kernel, by decide +kernel⟩, List.mem_of_getElem? (i := 882) (by decide +kernel), List.mem_of_getElem? (i := 1150) (by decide +kernel), List.mem_of_getElem? (i := 1151) (by decide +kernel)⟩
theorem lw_p103 : lw_okq (⟨"CallSlicerModel", "laysWays", "()V"⟩, 60) := ⟨⟨by decide +kernel, by decide +kernel⟩, List.mem_of_getElem? (i := 882) (by decide +kernel), List.mem_of_getElem? (i := 1154) (by decide +kernel), List.mem_of_getElem? (i := 1155) (by decide +kernel)⟩
theorem lw_p104 : lw_okq (⟨"CallSlicerModel", "tryOf", "(I)I"⟩, 60) := ⟨⟨by decide +kernel, by decide +kernel⟩, List.mem_of_getElem? (i := 882) (by decide +kernel), List.mem_of_getElem? (i := 1158) (by decide +kernel), List.mem_of_getElem? (i := 1159) (by decide +kernel)⟩
theorem lw_p105 : lw_okq (⟨"CallSlicerModel", "behind", "(I)I"⟩, 60) := ⟨⟨by decide +kernel, by decide +kernel⟩, List.mem_of_getElem? (i := 882) (by decide +kernel), List.mem_of_getElem? (i := 1162) (by decide +kernel), List.mem_of_getElem? (i := 1163) (by decide +kernel)⟩
theorem lw_p106 : lw_okq (⟨"CallSlicerModel", "endOf", "(I)I"⟩, 60) := ⟨⟨by decide +kernel, by decide +kernel⟩, List.mem_of_getElem? (i := 882) (by decide +kernel), List.mem_of_getElem? (i := 1166) (by decide +kernel), List.mem_of_getElem? (i := 1167) (by decide +kernel)⟩
theorem lw_p107 : lw_okq (⟨"CallSlicerModel", "entryOf", "(I)I"⟩, 60) := ⟨⟨by decide +kernel, by decide +kernel⟩, List.mem_of_getElem? (i := 882) (by decide +kernel), List.mem_of_getElem? (i := 1170) (by decide +kernel), List.mem_of_getElem? (i := 1171) (by decide +kernel)⟩
theorem lw_p108 : lw_okq (⟨"CallSlicerModel", "firstOf", "(I)I"⟩, 60) := ⟨⟨by decide +kernel, by decide +kernel⟩, List.mem_of_getElem? (i := 882) (by decide +kernel), List.mem_of_getElem? (i := 1174) (by decide +kernel), List.mem_of_getElem? (i := 1175) (by decide +kernel)⟩
theorem lw_p109 : lw_okq (⟨"CallSlicerModel", "laysMay", "()V"⟩, 60) := ⟨⟨by decide +kernel, by decide +kernel⟩, List.mem_of_getElem? (i := 882) (by decide +kernel), List.mem_of_getElem? (i := 1178) (by decide +kernel), List.mem_of_getElem? (i := 1179) (by decide +kernel)⟩
theorem lw_p110 : lw_okq (⟨"CallSlicerModel", "comesTo", "(IZ)Z"⟩, 60) := ⟨⟨by decide +kernel, by decide +kernel⟩, List.mem_of_getElem? (i := 882) (by decide +kernel), List.mem_of_getElem? (i := 1182) (by decide +kernel), List.mem_of_getElem? (i := 1183) (by decide +kernel)⟩
theorem lw_p111 : lw_okq (⟨"CallSlicerModel", "way", "(II)I"⟩, 60) := ⟨⟨by decide +kernel, by decide +kernel⟩, List.mem_of_getElem? (i := 882) (by decide +kernel), List.mem_of_getElem? (i := 1189) (by decide +kernel), List.mem_of_getElem? (i := 1190) (by decide +kernel)⟩
def lw_privs_7 : List (MethodName × Nat) := [(⟨"CallSlicerModel", "readSet", "(II)V"⟩, 60), (⟨"CallSlicerModel", "must", "(I)V"⟩, 60), (⟨"CallSlicerModel", "operand", "(II)V"⟩, 60), (⟨"CallSlicerModel", "readTest", "(III)V"⟩, 60), (⟨"CallSlicerModel", "readTry", "(III)V"⟩, 60), (⟨"CallSlicerModel", "readEnd", "(I)V"⟩, 60), (⟨"CallSlicerModel", "isTold", "()Z"⟩, 60), (⟨"CallSlicerModel", "laysWays", "()V"⟩, 60), (⟨"CallSlicerModel", "tryOf", "(I)I"⟩, 60), (⟨"CallSlicerModel", "behind", "(I)I"⟩, 60), (⟨"CallSlicerModel", "endOf", "(I)I"⟩, 60), (⟨"CallSlicerModel", "entryOf", "(I)I"⟩, 60), (⟨"CallSlicerModel", "firstOf", "(I)I"⟩, 60), (⟨"CallSlicerModel", "laysMay", "()V"⟩, 60), (⟨"CallSlicerModel", "comesTo", "(IZ)Z"⟩, 60), (⟨"CallSlicerModel", "way", "(II)I"⟩, 60)]
theorem lw_r7 : ∀ q ∈ lw_privs_7, lw_okq q := List.forall_mem_cons.mpr ⟨lw_p96, List.forall_mem_cons.mpr ⟨lw_p97, List.forall_mem_cons.mpr ⟨lw_p98, List.forall_mem_cons.mpr ⟨lw_p99, List.forall_mem_cons.mpr ⟨lw_p100, List.forall_mem_cons.mpr ⟨lw_p101, List.forall_mem_cons.mpr ⟨lw_p102, List.forall_mem_cons.mpr ⟨lw_p103, List.forall_mem_cons.mpr ⟨lw_p104, List.forall_mem_cons.mpr ⟨lw_p105, List.forall_mem_cons.mpr ⟨lw_p106, List.forall_mem_cons.mpr ⟨lw_p107, List.forall_mem_cons.mpr ⟨lw_p108, List.forall_mem_cons.mpr ⟨lw_p109, List.forall_mem_cons.mpr ⟨lw_p110, List.forall_mem_cons.mpr ⟨lw_p111, fun _ h => absurd h List.not_mem_nil⟩⟩⟩⟩⟩⟩⟩⟩⟩⟩⟩⟩⟩⟩⟩⟩
theorem lw_p112 : lw_okq (⟨"CallSlicerModel", "kindAt", "(I)I"⟩, 60) := ⟨⟨by decide +kernel, by decide +kernel⟩, List.mem_of_getElem? (i := 882) (by decide +kernel), List.mem_of_getElem? (i := 1193) (by decide +kernel), List.mem_of_getElem? (i := 1194) (by decide +kernel)⟩
theorem lw_p113 : lw_okq (⟨"CallSlicerModel", "item", "(I)I"⟩, 60) := ⟨⟨by decide +kernel, by decide +kernel⟩, List.mem_of_getElem? (i := 882) (by decide +kernel), List.mem_of_getElem? (i := 1197) (by decide +kernel), List.mem_of_getElem? (i := 1198) (by decide +kernel)⟩
theorem lw_p114 : lw_okq (⟨"CallSlicerModel", "isReturning", "(I)Z"⟩, 60) := ⟨⟨by decide +kernel, by decide +kernel⟩, List.mem_of_getElem? (i := 882) (by decide +kernel), List.mem_of_getElem? (i := 1201) (by decide +kernel), List.mem_of_getElem? (i := 1202) (by decide +kernel)⟩
theorem lw_p115 : lw_okq (⟨"CallSlicerModel", "isThrowing", "(I)Z"⟩, 60) := ⟨⟨by decide +kernel, by decide +kernel⟩, List.mem_of_getElem? (i := 882) (by decide +kernel), List.mem_of_getElem? (i := 1205) (by decide +kernel), List.mem_of_getElem? (i := 1206) (by decide +kernel)⟩
theorem lw_p116 : lw_okq (⟨"CallSlicerModel", "laysAll", "()V"⟩, 60) := ⟨⟨by decide +kernel, by decide +kernel⟩, List.mem_of_getElem? (i := 882) (by decide +kernel), List.mem_of_getElem? (i := 1209) (by decide +kernel), List.mem_of_getElem? (i := 1210) (by decide +kernel)⟩
theorem lw_p117 : lw_okq (⟨"CallSlicerModel", "laysValues", "()V"⟩, 60) := ⟨⟨by decide +kernel, by decide +kernel⟩, List.mem_of_getElem? (i := 882) (by decide +kernel), List.mem_of_getElem? (i := 1213) (by decide +kernel), List.mem_of_getElem? (i := 1214) (by decide +kernel)⟩
theorem lw_p118 : lw_okq (⟨"CallSlicerModel", "usesOperand", "(III)V"⟩, 60) := ⟨⟨by decide +kernel, by decide +kernel⟩, List.mem_of_getElem? (i := 882) (by decide +kernel), List.mem_of_getElem? (i := 1220) (by decide +kernel), List.mem_of_getElem? (i := 1221) (by decide +kernel)⟩
theorem lw_p119 : lw_okq (⟨"CallSlicerModel", "procedureOf", "(I)I"⟩, 60) := ⟨⟨by decide +kernel, by decide +kernel⟩, List.mem_of_getElem? (i := 882) (by decide +kernel), List.mem_of_getElem? (i := 1224) (by decide +kernel), List.mem_of_getElem? (i := 1225) (by decide +kernel)⟩
theorem lw_p120 : lw_okq (⟨"CallSlicerModel", "uses", "(IIII)V"⟩, 60) := ⟨⟨by decide +kernel, by decide +kernel⟩, List.mem_of_getElem? (i := 882) (by decide +kernel), List.mem_of_getElem? (i := 1228) (by decide +kernel), List.mem_of_getElem? (i := 1229) (by decide +kernel)⟩
theorem lw_p121 : lw_okq (⟨"CallSlicerModel", "hang", "(II)V"⟩, 60) := ⟨⟨by decide +kernel, by decide +kernel⟩, List.mem_of_getElem? (i := 882) (by decide +kernel), List.mem_of_getElem? (i := 1242) (by decide +kernel), List.mem_of_getElem? (i := 1243) (by decide +kernel)⟩
theorem lw_p122 : lw_okq (⟨"CallSlicerModel", "tells", "(III)I"⟩, 60) := ⟨⟨by decide +kernel, by decide +kernel⟩, List.mem_of_getElem? (i := 882) (by decide +kernel), List.mem_of_getElem? (i := 1246) (by decide +kernel), List.mem_of_getElem? (i := 1247) (by decide +kernel)⟩
theorem lw_p123 : lw_okq (⟨"CallSlicerModel", "isAnyHung", "(II)Z"⟩, 60) := ⟨⟨by decide +kernel, by decide +kernel⟩, List.mem_of_getElem? (i := 882) (by decide +kernel), List.mem_of_getElem? (i := 1250) (by decide +kernel), List.mem_of_getElem? (i := 1251) (by decide +kernel)⟩
theorem lw_p124 : lw_okq (⟨"CallSlicerModel", "isHung", "(II)Z"⟩, 60) := ⟨⟨by decide +kernel, by decide +kernel⟩, List.mem_of_getElem? (i := 882) (by decide +kernel), List.mem_of_getElem? (i := 1254) (by decide +kernel), List.mem_of_getElem? (i := 1255) (by decide +kernel)⟩
theorem lw_p125 : lw_okq (⟨"CallSlicerModel", "ends", "(I)V"⟩, 60) := ⟨⟨by decide +kernel, by decide +kernel⟩, List.mem_of_getElem? (i := 882) (by decide +kernel), List.mem_of_getElem? (i := 1258) (by decide +kernel), List.mem_of_getElem? (i := 1259) (by decide +kernel)⟩
theorem lw_p126 : lw_okq (⟨"CallSlicerModel", "laysWay", "()V"⟩, 60) := ⟨⟨by decide +kernel, by decide +kernel⟩, List.mem_of_getElem? (i := 882) (by decide +kernel), List.mem_of_getElem? (i := 1262) (by decide +kernel), List.mem_of_getElem? (i := 1263) (by decide +kernel)⟩
theorem lw_p127 : lw_okq (⟨"CallSlicerModel", "wayOf", "(II)I"⟩, 60) := ⟨⟨by decide +kernel, by decide +kernel⟩, List.mem_of_getElem? (i := 882) (by decide +kernel), List.mem_of_getElem? (i := 1267) (by decide +kernel), List.mem_of_getElem? (i := 1268) (by decide +kernel)⟩
def lw_privs_8 : List (MethodName × Nat) := [(⟨"CallSlicerModel", "kindAt", "(I)I"⟩, 60), (⟨"CallSlicerModel", "item", "(I)I"⟩, 60), (⟨"CallSlicerModel", "isReturning", "(I)Z"⟩, 60), (⟨"CallSlicerModel", "isThrowing", "(I)Z"⟩, 60), (⟨"CallSlicerModel", "laysAll", "()V"⟩, 60), (⟨"CallSlicerModel", "laysValues", "()V"⟩, 60), (⟨"CallSlicerModel", "usesOperand", "(III)V"⟩, 60), (⟨"CallSlicerModel", "procedureOf", "(I)I"⟩, 60), (⟨"CallSlicerModel", "uses", "(IIII)V"⟩, 60), (⟨"CallSlicerModel", "hang", "(II)V"⟩, 60), (⟨"CallSlicerModel", "tells", "(III)I"⟩, 60), (⟨"CallSlicerModel", "isAnyHung", "(II)Z"⟩, 60), (⟨"CallSlicerModel", "isHung", "(II)Z"⟩, 60), (⟨"CallSlicerModel", "ends", "(I)V"⟩, 60), (⟨"CallSlicerModel", "laysWay", "()V"⟩, 60), (⟨"CallSlicerModel", "wayOf", "(II)I"⟩, 60)]
theorem lw_r8 : ∀ q ∈ lw_privs_8, lw_okq q := List.forall_mem_cons.mpr ⟨lw_p112, List.forall_mem_cons.mpr ⟨lw_p113, List.forall_mem_cons.mpr ⟨lw_p114, List.forall_mem_cons.mpr ⟨lw_p115, List.forall_mem_cons.mpr ⟨lw_p116, List.forall_mem_cons.mpr ⟨lw_p117, List.forall_mem_cons.mpr ⟨lw_p118, List.forall_mem_cons.mpr ⟨lw_p119, List.forall_mem_cons.mpr ⟨lw_p120, List.forall_mem_cons.mpr ⟨lw_p121, List.forall_mem_cons.mpr ⟨lw_p122, List.forall_mem_cons.mpr ⟨lw_p123, List.forall_mem_cons.mpr ⟨lw_p124, List.forall_mem_cons.mpr ⟨lw_p125, List.forall_mem_cons.mpr ⟨lw_p126, List.forall_mem_cons.mpr ⟨lw_p127, fun _ h => absurd h List.not_mem_nil⟩⟩⟩⟩⟩⟩⟩⟩⟩⟩⟩⟩⟩⟩⟩⟩
theorem lw_p128 : lw_okq (⟨"CallSlicerModel", "onAllFrom", "(I)J"⟩, 60) := ⟨⟨by decide +kernel, by decide +kernel⟩, List.mem_of_getElem? (i := 882) (by decide +kernel), List.mem_of_getElem? (i := 1271) (by decide +kernel), List.mem_of_getElem? (i := 1272) (by decide +kernel)⟩
theorem lw_p129 : lw_okq (⟨"CallSlicerModel", "decides", "(I)Z"⟩, 60) := ⟨⟨by decide +kernel, by decide +kernel⟩, List.mem_of_getElem? (i := 882) (by decide +kernel), List.mem_of_getElem? (i := 1275) (by decide +kernel), List.mem_of_getElem? (i := 1276) (by decide +kernel)⟩
theorem lw_p130 : lw_okq (⟨"CallSlicerModel", "laysThrough", "()V"⟩, 60) := ⟨⟨by decide +kernel, by decide +kernel⟩, List.mem_of_getElem? (i := 882) (by decide +kernel), List.mem_of_getElem? (i := 1279) (by decide +kernel), List.mem_of_getElem? (i := 1280) (by decide +kernel)⟩
theorem lw_p131 : lw_okq (⟨"CallSlicerModel", "empties", "()V"⟩, 60) := ⟨⟨by decide +kernel, by decide +kernel⟩, List.mem_of_getElem? (i := 882) (by decide +kernel), List.mem_of_getElem? (i := 1283) (by decide +kernel), List.mem_of_getElem? (i := 1284) (by decide +kernel)⟩
theorem lw_p132 : lw_okq (⟨"CallSlicerModel", "reach", "(I)V"⟩, 60) := ⟨⟨by decide +kernel, by decide +kernel⟩, List.mem_of_getElem? (i := 882) (by decide +kernel), List.mem_of_getElem? (i := 1287) (by decide +kernel), List.mem_of_getElem? (i := 1288) (by decide +kernel)⟩
theorem lw_p133 : lw_okq (⟨"CallSlicerModel", "isInSet", "(I)Z"⟩, 60) := ⟨⟨by decide +kernel, by decide +kernel⟩, List.mem_of_getElem? (i := 882) (by decide +kernel), List.mem_of_getElem? (i := 1291) (by decide +kernel), List.mem_of_getElem? (i := 1292) (by decide +kernel)⟩
theorem lw_p134 : lw_okq (⟨"CallSlicerModel", "goes", "(ZZ)V"⟩, 60) := ⟨⟨by decide +kernel, by decide +kernel⟩, List.mem_of_getElem? (i := 882) (by decide +kernel), List.mem_of_getElem? (i := 1295) (by decide +kernel), List.mem_of_getElem? (i := 1296) (by decide +kernel)⟩
theorem lw_p135 : lw_okq (⟨"CallSlicerModel", "isCall", "(I)Z"⟩, 60) := ⟨⟨by decide +kernel, by decide +kernel⟩, List.mem_of_getElem? (i := 882) (by decide +kernel), List.mem_of_getElem? (i := 1299) (by decide +kernel), List.mem_of_getElem? (i := 1300) (by decide +kernel)⟩
theorem lw_p136 : lw_okq (⟨"CallSlicerModel", "goesUp", "(II)V"⟩, 60) := ⟨⟨by decide +kernel, by decide +kernel⟩, List.mem_of_getElem? (i := 882) (by decide +kernel), List.mem_of_getElem? (i := 1303) (by decide +kernel), List.mem_of_getElem? (i := 1304) (by decide +kernel)⟩
theorem lw_p137 : lw_okq (⟨"CallSlicerModel", "reachAll", "(I)V"⟩, 60) := ⟨⟨by decide +kernel, by decide +kernel⟩, List.mem_of_getElem? (i := 882) (by decide +kernel), List.mem_of_getElem? (i := 1307) (by decide +kernel), List.mem_of_getElem? (i := 1308) (by decide +kernel)⟩
theorem lw_p138 : lw_okq (⟨"CallSlicerModel", "goesBack", "()V"⟩, 60) := ⟨⟨by decide +kernel, by decide +kernel⟩, List.mem_of_getElem? (i := 882) (by decide +kernel), List.mem_of_getElem? (i := 1311) (by decide +kernel), List.mem_of_getElem? (i := 1312) (by decide +kernel)⟩
theorem lw_p139 : lw_okq (⟨"CallSlicerModel", "inSet", "()J"⟩, 60) := ⟨⟨by decide +kernel, by decide +kernel⟩, List.mem_of_getElem? (i := 882) (by decide +kernel), List.mem_of_getElem? (i := 1315) (by decide +kernel), List.mem_of_getElem? (i := 1316) (by decide +kernel)⟩
theorem lw_p140 : lw_okq (⟨"CallSlicerModel", "calls", "()I"⟩, 60) := ⟨⟨by decide +kernel, by decide +kernel⟩, List.mem_of_getElem? (i := 882) (by decide +kernel), List.mem_of_getElem? (i := 1327) (by decide +kernel), List.mem_of_getElem? (i := 1328) (by decide +kernel)⟩
theorem lw_p141 : lw_okq (⟨"CallSlicerModel", "may", "([Z)I"⟩, 60) := ⟨⟨by decide +kernel, by decide +kernel⟩, List.mem_of_getElem? (i := 882) (by decide +kernel), List.mem_of_getElem? (i := 1331) (by decide +kernel), List.mem_of_getElem? (i := 1332) (by decide +kernel)⟩
theorem lw_p142 : lw_okq (⟨"CallSlicerModel", "isStatement", "(I)Z"⟩, 60) := ⟨⟨by decide +kernel, by decide +kernel⟩, List.mem_of_getElem? (i := 882) (by decide +kernel), List.mem_of_getElem? (i := 1339) (by decide +kernel), List.mem_of_getElem? (i := 1340) (by decide +kernel)⟩
theorem lw_p143 : lw_okq (⟨"CallSlicerModel", "catcher", "(I)I"⟩, 60) := ⟨⟨by decide +kernel, by decide +kernel⟩, List.mem_of_getElem? (i := 882) (by decide +kernel), List.mem_of_getElem? (i := 1343) (by decide +kernel), List.mem_of_getElem? (i := 1344) (by decide +kernel)⟩
def lw_privs_9 : List (MethodName × Nat) := [(⟨"CallSlicerModel", "onAllFrom", "(I)J"⟩, 60), (⟨"CallSlicerModel", "decides", "(I)Z"⟩, 60), (⟨"CallSlicerModel", "laysThrough", "()V"⟩, 60), (⟨"CallSlicerModel", "empties", "()V"⟩, 60), (⟨"CallSlicerModel", "reach", "(I)V"⟩, 60), (⟨"CallSlicerModel", "isInSet", "(I)Z"⟩, 60), (⟨"CallSlicerModel", "goes", "(ZZ)V"⟩, 60), (⟨"CallSlicerModel", "isCall", "(I)Z"⟩, 60), (⟨"CallSlicerModel", "goesUp", "(II)V"⟩, 60), (⟨"CallSlicerModel", "reachAll", "(I)V"⟩, 60), (⟨"CallSlicerModel", "goesBack", "()V"⟩, 60), (⟨"CallSlicerModel", "inSet", "()J"⟩, 60), (⟨"CallSlicerModel", "calls", "()I"⟩, 60), (⟨"CallSlicerModel", "may", "([Z)I"⟩, 60), (⟨"CallSlicerModel", "isStatement", "(I)Z"⟩, 60), (⟨"CallSlicerModel", "catcher", "(I)I"⟩, 60)]
theorem lw_r9 : ∀ q ∈ lw_privs_9, lw_okq q := List.forall_mem_cons.mpr ⟨lw_p128, List.forall_mem_cons.mpr ⟨lw_p129, List.forall_mem_cons.mpr ⟨lw_p130, List.forall_mem_cons.mpr ⟨lw_p131, List.forall_mem_cons.mpr ⟨lw_p132, List.forall_mem_cons.mpr ⟨lw_p133, List.forall_mem_cons.mpr ⟨lw_p134, List.forall_mem_cons.mpr ⟨lw_p135, List.forall_mem_cons.mpr ⟨lw_p136, List.forall_mem_cons.mpr ⟨lw_p137, List.forall_mem_cons.mpr ⟨lw_p138, List.forall_mem_cons.mpr ⟨lw_p139, List.forall_mem_cons.mpr ⟨lw_p140, List.forall_mem_cons.mpr ⟨lw_p141, List.forall_mem_cons.mpr ⟨lw_p142, List.forall_mem_cons.mpr ⟨lw_p143, fun _ h => absurd h List.not_mem_nil⟩⟩⟩⟩⟩⟩⟩⟩⟩⟩⟩⟩⟩⟩⟩⟩
theorem lw_p144 : lw_okq (⟨"CallSlicerModel", "isProcedure", "(I)Z"⟩, 60) := ⟨⟨by decide +kernel, by decide +kernel⟩, List.mem_of_getElem? (i := 882) (by decide +kernel), List.mem_of_getElem? (i := 1355) (by decide +kernel), List.mem_of_getElem? (i := 1356) (by decide +kernel)⟩
theorem lw_p145 : lw_okq (⟨"CallSlicerModel", "forthOf", "(I)J"⟩, 60) := ⟨⟨by decide +kernel, by decide +kernel⟩, List.mem_of_getElem? (i := 882) (by decide +kernel), List.mem_of_getElem? (i := 1371) (by decide +kernel), List.mem_of_getElem? (i := 1372) (by decide +kernel)⟩
theorem lw_p146 : lw_okq (⟨"CallSlicerModel", "keptFor", "(I)J"⟩, 60) := ⟨⟨by decide +kernel, by decide +kernel⟩, List.mem_of_getElem? (i := 882) (by decide +kernel), List.mem_of_getElem? (i := 1387) (by decide +kernel), List.mem_of_getElem? (i := 1388) (by decide +kernel)⟩
theorem lw_p147 : lw_okq (⟨"CallSlicerModel", "joins", "()V"⟩, 60) := ⟨⟨by decide +kernel, by decide +kernel⟩, List.mem_of_getElem? (i := 882) (by decide +kernel), List.mem_of_getElem? (i := 1391) (by decide +kernel), List.mem_of_getElem? (i := 1392) (by decide +kernel)⟩
theorem lw_p148 : lw_okq (⟨"CallSlicerModel", "isWanted", "(II)Z"⟩, 60) := ⟨⟨by decide +kernel, by decide +kernel⟩, List.mem_of_getElem? (i := 882) (by decide +kernel), List.mem_of_getElem? (i := 1395) (by decide +kernel), List.mem_of_getElem? (i := 1396) (by decide +kernel)⟩
theorem lw_p149 : lw_okq (⟨"CallSlicerModel", "isKept", "(I)Z"⟩, 60) := ⟨⟨by decide +kernel, by decide +kernel⟩, List.mem_of_getElem? (i := 882) (by decide +kernel), List.mem_of_getElem? (i := 1399) (by decide +kernel), List.mem_of_getElem? (i := 1400) (by decide +kernel)⟩
theorem lw_p150 : lw_okq (⟨"CallSlicerModel", "isAnyKept", "(I)Z"⟩, 60) := ⟨⟨by decide +kernel, by decide +kernel⟩, List.mem_of_getElem? (i := 882) (by decide +kernel), List.mem_of_getElem? (i := 1403) (by decide +kernel), List.mem_of_getElem? (i := 1404) (by decide +kernel)⟩
theorem lw_p151 : lw_okq (⟨"CallSlicerModel", "runs", "(JII)I"⟩, 60) := ⟨⟨by decide +kernel, by decide +kernel⟩, List.mem_of_getElem? (i := 882) (by decide +kernel), List.mem_of_getElem? (i := 1411) (by decide +kernel), List.mem_of_getElem? (i := 1412) (by decide +kernel)⟩
theorem lw_p152 : lw_okq (⟨"CallSlicerModel", "procedure", "(IIII)I"⟩, 60) := ⟨⟨by decide +kernel, by decide +kernel⟩, List.mem_of_getElem? (i := 882) (by decide +kernel), List.mem_of_getElem? (i := 1415) (by decide +kernel), List.mem_of_getElem? (i := 1416) (by decide +kernel)⟩
theorem lw_p153 : lw_okq (⟨"CallSlicerModel", "goesBlock", "(II)I"⟩, 60) := ⟨⟨by decide +kernel, by decide +kernel⟩, List.mem_of_getElem? (i := 882) (by decide +kernel), List.mem_of_getElem? (i := 1419) (by decide +kernel), List.mem_of_getElem? (i := 1420) (by decide +kernel)⟩
theorem lw_p154 : lw_okq (⟨"CallSlicerModel", "tries", "(II)I"⟩, 60) := ⟨⟨by decide +kernel, by decide +kernel⟩, List.mem_of_getElem? (i := 882) (by decide +kernel), List.mem_of_getElem? (i := 1423) (by decide +kernel), List.mem_of_getElem? (i := 1424) (by decide +kernel)⟩
theorem lw_p155 : lw_okq (⟨"CallSlicerModel", "does", "(II)I"⟩, 60) := ⟨⟨by decide +kernel, by decide +kernel⟩, List.mem_of_getElem? (i := 882) (by decide +kernel), List.mem_of_getElem? (i := 1427) (by decide +kernel), List.mem_of_getElem? (i := 1428) (by decide +kernel)⟩
theorem lw_p156 : lw_okq (⟨"CallSlicerModel", "number", "(III)I"⟩, 60) := ⟨⟨by decide +kernel, by decide +kernel⟩, List.mem_of_getElem? (i := 882) (by decide +kernel), List.mem_of_getElem? (i := 1431) (by decide +kernel), List.mem_of_getElem? (i := 1432) (by decide +kernel)⟩
theorem lw_p157 : lw_okq (⟨"CallSlicerModel", "number", "(II)I"⟩, 60) := ⟨⟨by decide +kernel, by decide +kernel⟩, List.mem_of_getElem? (i := 882) (by decide +kernel), List.mem_of_getElem? (i := 1435) (by decide +kernel), List.mem_of_getElem? (i := 1436) (by decide +kernel)⟩
theorem lw_p158 : lw_okq (⟨"CallSlicerModel", "tellsName", "(III)V"⟩, 60) := ⟨⟨by decide +kernel, by decide +kernel⟩, List.mem_of_getElem? (i := 882) (by decide +kernel), List.mem_of_getElem? (i := 1442) (by decide +kernel), List.mem_of_getElem? (i := 1443) (by decide +kernel)⟩
theorem lw_p159 : lw_okq (⟨"CallSlicerModel", "sees", "(II)V"⟩, 60) := ⟨⟨by decide +kernel, by decide +kernel⟩, List.mem_of_getElem? (i := 882) (by decide +kernel), List.mem_of_getElem? (i := 1446) (by decide +kernel), List.mem_of_getElem? (i := 1447) (by decide +kernel)⟩
def lw_privs_10 : List (MethodName × Nat) := [(⟨"CallSlicerModel", "isProcedure", "(I)Z"⟩, 60), (⟨"CallSlicerModel", "forthOf", "(I)J"⟩, 60), (⟨"CallSlicerModel", "keptFor", "(I)J"⟩, 60), (⟨"CallSlicerModel", "joins", "()V"⟩, 60), (⟨"CallSlicerModel", "isWanted", "(II)Z"⟩, 60), (⟨"CallSlicerModel", "isKept", "(I)Z"⟩, 60), (⟨"CallSlicerModel", "isAnyKept", "(I)Z"⟩, 60), (⟨"CallSlicerModel", "runs", "(JII)I"⟩, 60), (⟨"CallSlicerModel", "procedure", "(IIII)I"⟩, 60), (⟨"CallSlicerModel", "goesBlock", "(II)I"⟩, 60), (⟨"CallSlicerModel", "tries", "(II)I"⟩, 60), (⟨"CallSlicerModel", "does", "(II)I"⟩, 60), (⟨"CallSlicerModel", "number", "(III)I"⟩, 60), (⟨"CallSlicerModel", "number", "(II)I"⟩, 60), (⟨"CallSlicerModel", "tellsName", "(III)V"⟩, 60), (⟨"CallSlicerModel", "sees", "(II)V"⟩, 60)]
theorem lw_r10 : ∀ q ∈ lw_privs_10, lw_okq q := List.forall_mem_cons.mpr ⟨lw_p144, List.forall_mem_cons.mpr ⟨lw_p145, List.forall_mem_cons.mpr ⟨lw_p146, List.forall_mem_cons.mpr ⟨lw_p147, List.forall_mem_cons.mpr ⟨lw_p148, List.forall_mem_cons.mpr ⟨lw_p149, List.forall_mem_cons.mpr ⟨lw_p150, List.forall_mem_cons.mpr ⟨lw_p151, List.forall_mem_cons.mpr ⟨lw_p152, List.forall_mem_cons.mpr ⟨lw_p153, List.forall_mem_cons.mpr ⟨lw_p154, List.forall_mem_cons.mpr ⟨lw_p155, List.forall_mem_cons.mpr ⟨lw_p156, List.forall_mem_cons.mpr ⟨lw_p157, List.forall_mem_cons.mpr ⟨lw_p158, List.forall_mem_cons.mpr ⟨lw_p159, fun _ h => absurd h List.not_mem_nil⟩⟩⟩⟩⟩⟩⟩⟩⟩⟩⟩⟩⟩⟩⟩⟩
theorem lw_p160 : lw_okq (⟨"CallSlicerModel", "calls", "(IIII)I"⟩, 60) := ⟨⟨by decide +kernel, by decide +kernel⟩, List.mem_of_getElem? (i := 882) (by decide +kernel), List.mem_of_getElem? (i := 1450) (by decide +kernel), List.mem_of_getElem? (i := 1451) (by decide +kernel)⟩
theorem lw_p161 : lw_okq (⟨"CallSlicerModel", "loops", "(II)I"⟩, 60) := ⟨⟨by decide +kernel, by decide +kernel⟩, List.mem_of_getElem? (i := 882) (by decide +kernel), List.mem_of_getElem? (i := 1454) (by decide +kernel), List.mem_of_getElem? (i := 1455) (by decide +kernel)⟩
def lw_privs_11 : List (MethodName × Nat) := [(⟨"CallSlicerModel", "calls", "(IIII)I"⟩, 60), (⟨"CallSlicerModel", "loops", "(II)I"⟩, 60)]
theorem lw_r11 : ∀ q ∈ lw_privs_11, lw_okq q := List.forall_mem_cons.mpr ⟨lw_p160, List.forall_mem_cons.mpr ⟨lw_p161, fun _ h => absurd h List.not_mem_nil⟩⟩
def lw_privs : List (MethodName × Nat) := lw_privs_1 ++ (lw_privs_2 ++ (lw_privs_3 ++ (lw_privs_4 ++ (lw_privs_5 ++ (lw_privs_6 ++ (lw_privs_7 ++ (lw_privs_8 ++ (lw_privs_9 ++ (lw_privs_10 ++ (lw_privs_11))))))))))
def lw_tbl : List Cond := k2_sels lw_privs ++ tables_1
theorem lw_privs_ok : ∀ q ∈ lw_privs, lw_okq q := by
  show ∀ q ∈ lw_privs_1 ++ (lw_privs_2 ++ (lw_privs_3 ++ (lw_privs_4 ++ (lw_privs_5 ++ (lw_privs_6 ++ (lw_privs_7 ++ (lw_privs_8 ++ (lw_privs_9 ++ (lw_privs_10 ++ (lw_privs_11)))))))))), lw_okq q
  exact List.forall_mem_append.mpr ⟨lw_r1, List.forall_mem_append.mpr ⟨lw_r2, List.forall_mem_append.mpr ⟨lw_r3, List.forall_mem_append.mpr ⟨lw_r4, List.forall_mem_append.mpr ⟨lw_r5, List.forall_mem_append.mpr ⟨lw_r6, List.forall_mem_append.mpr ⟨lw_r7, List.forall_mem_append.mpr ⟨lw_r8, List.forall_mem_append.mpr ⟨lw_r9, List.forall_mem_append.mpr ⟨lw_r10, lw_r11⟩⟩⟩⟩⟩⟩⟩⟩⟩⟩
-- ===== end of PART A; then your names; then what follows =====
/-- the words that may be handed on to a callee, and those of nest mates -/
def gw_nest : Cond → Bool
  | .fieldLinkNest .. => true
  | .methodLinkNest .. => true
  | _ => false
def gw : List Cond := lw_tbl.filter goodWord
def gw_n : List Cond := lw_tbl.filter gw_nest
theorem gw_mem (i : Nat) {w : Cond} (h : lw_tbl[i]? = some w) (hg : goodWord w = true) : w ∈ gw := List.mem_filter.mpr ⟨List.mem_of_getElem? h, hg⟩
theorem gw_nmem (i : Nat) {w : Cond} (h : lw_tbl[i]? = some w) (hg : gw_nest w = true) : w ∈ gw_n := List.mem_filter.mpr ⟨List.mem_of_getElem? h, hg⟩
theorem gw_good {Ts : List Cond} (hT : ∀ w ∈ gw, w ∈ Ts) {cd : Cond} (hc : cd ∈ gw) : GoodIn Ts (cd :: gw) := by
  intro w hw
  have hm : w ∈ gw := by
    rcases List.mem_cons.mp hw with rfl | h
    · exact hc
    · exact h
  exact ⟨hT w hm, good_of_word (List.mem_filter.mp hm).2⟩
def gw_N (U : State) : Prop := ∀ w ∈ gw_n, va_Nw w U
theorem gw_N.warm {s U : State} (hW : s.WarmedH U.vm) (h : gw_N s) : gw_N U := by
  intro w hw
  have h1 := h w hw
  have h2 := (List.mem_filter.mp hw).2
  cases w <;> first | (exact va_Nw.warmF hW h1) | (exact va_Nw.warmM hW h1) | (exact absurd h2 (by simp [gw_nest]))
theorem gw_N.same {u U : State} (hv : u.vm = U.vm) (h : gw_N u) : gw_N U := by
  intro w hw
  have h1 := h w hw
  have h2 := (List.mem_filter.mp hw).2
  cases w <;> first | (exact va_Nw.same rfl hv h1) | (exact absurd h2 (by simp [gw_nest]))
end
section
/-! ===== BEGIN printed: names, fields, word lists, decode rows ===== -/
def RX0 : String := "CallSlicer$Code"
def TX0 : u_T := fun k => match k with
  | 0 => ("CallSlicer$Code", "statements", "I", false)
  | 1 => ("CallSlicer$Code", "procedures", "I", false)
  | 2 => ("CallSlicer$Code", "calls", "J", false)
  | 3 => ("CallSlicer$Code", "mayReturn", "I", false)
  | 4 => ("CallSlicer$Code", "mayThrow", "I", false)
  | 5 => ("CallSlicer$Code", "first", "[I", true)
  | 6 => ("CallSlicer$Code", "kind", "[I", true)
  | 7 => ("CallSlicer$Code", "owner", "[I", true)
  | 8 => ("CallSlicer$Code", "depth", "[I", true)
  | 9 => ("CallSlicer$Code", "at", "[I", true)
  | 10 => ("CallSlicer$Code", "name", "[I", true)
  | 11 => ("CallSlicer$Code", "callee", "[I", true)
  | 12 => ("CallSlicer$Code", "sign", "[I", true)
  | 13 => ("CallSlicer$Code", "left", "[I", true)
  | 14 => ("CallSlicer$Code", "right", "[I", true)
  | 15 => ("CallSlicer$Code", "next", "[I", true)
  | 16 => ("CallSlicer$Code", "straight", "[I", true)
  | 17 => ("CallSlicer$Code", "aside", "[I", true)
  | 18 => ("CallSlicer$Code", "catchVariable", "[I", true)
  | _ => ("CallSlicer$Code", "catchFirst", "[I", true)
def tyX0 : Nat → FieldType := fun k => match k with
  | 0 => .int
  | 1 => .int
  | 2 => .long
  | 3 => .int
  | 4 => .int
  | 5 => .array .int
  | 6 => .array .int
  | 7 => .array .int
  | 8 => .array .int
  | 9 => .array .int
  | 10 => .array .int
  | 11 => .array .int
  | 12 => .array .int
  | 13 => .array .int
  | 14 => .array .int
  | 15 => .array .int
  | 16 => .array .int
  | 17 => .array .int
  | 18 => .array .int
  | _ => .array .int
abbrev wsX00 : List Cond := u_ws RX0 TX0 20
theorem nmX0 : ∀ a, a < 20 → ∀ b, b < 20 → a ≠ b → (TX0 a).2.1 ≠ (TX0 b).2.1 := by decide +kernel
theorem tyX0_ok : ∀ k, k < 20 → parseFieldDescriptor (TX0 k).2.2.1 = some (tyX0 k) := by decide +kernel
abbrev cX0_init : ByteArray := prog_2_method_1_code
def yX0_init : MethodName := ⟨RX0, "<init>", "()V"⟩
abbrev cX0_clear : ByteArray := prog_2_method_2_code
def yX0_clear : MethodName := ⟨RX0, "clear", "()V"⟩
abbrev cX0_add : ByteArray := prog_2_method_3_code
def yX0_add : MethodName := ⟨RX0, "add", "(IIII)I"⟩
abbrev cX0_decides : ByteArray := prog_2_method_4_code
def yX0_decides : MethodName := ⟨RX0, "decides", "(I)Z"⟩
abbrev cX0_goesStraight : ByteArray := prog_2_method_5_code
def yX0_goesStraight : MethodName := ⟨RX0, "goesStraight", "(I)Z"⟩
abbrev cX0_escapes : ByteArray := prog_2_method_6_code
def yX0_escapes : MethodName := ⟨RX0, "escapes", "(I)Z"⟩
abbrev cX0_tellsStraight : ByteArray := prog_2_method_7_code
def yX0_tellsStraight : MethodName := ⟨RX0, "tellsStraight", "(II)Z"⟩
abbrev cX0_tellsAside : ByteArray := prog_2_method_8_code
def yX0_tellsAside : MethodName := ⟨RX0, "tellsAside", "(II)Z"⟩
abbrev cX0_callsOnlyTold : ByteArray := prog_2_method_9_code
def yX0_callsOnlyTold : MethodName := ⟨RX0, "callsOnlyTold", "()Z"⟩
abbrev cX0_settleEnds : ByteArray := prog_2_method_10_code
def yX0_settleEnds : MethodName := ⟨RX0, "settleEnds", "()V"⟩
abbrev cX0_walk : ByteArray := prog_2_method_11_code
def yX0_walk : MethodName := ⟨RX0, "walk", "(I)V"⟩
abbrev cX0_allMayEnd : ByteArray := prog_2_method_12_code
def yX0_allMayEnd : MethodName := ⟨RX0, "allMayEnd", "()Z"⟩
abbrev cX0_callsOf : ByteArray := prog_2_method_13_code
def yX0_callsOf : MethodName := ⟨RX0, "callsOf", "(I)J"⟩
def RX1 : String := "CallSlicer$Hanging"
def TX1 : u_T := fun k => match k with
  | 0 => ("CallSlicer$Hanging", "rows", "[J", true)
  | 1 => ("CallSlicer$Hanging", "byValue", "[J", true)
  | 2 => ("CallSlicer$Hanging", "byWay", "[J", true)
  | 3 => ("CallSlicer$Hanging", "onBegin", "[J", true)
  | 4 => ("CallSlicer$Hanging", "tellers", "[J", true)
  | 5 => ("CallSlicer$Hanging", "certain", "[J", true)
  | _ => ("CallSlicer$Hanging", "code", "LCallSlicer$Code;", false)
def tyX1 : Nat → FieldType := fun k => match k with
  | 0 => .array .long
  | 1 => .array .long
  | 2 => .array .long
  | 3 => .array .long
  | 4 => .array .long
  | 5 => .array .long
  | _ => .object "CallSlicer$Code"
abbrev wsX10 : List Cond := u_ws RX1 TX1 7
theorem nmX1 : ∀ a, a < 7 → ∀ b, b < 7 → a ≠ b → (TX1 a).2.1 ≠ (TX1 b).2.1 := by decide +kernel
theorem tyX1_ok : ∀ k, k < 7 → parseFieldDescriptor (TX1 k).2.2.1 = some (tyX1 k) := by decide +kernel
abbrev cX1_init : ByteArray := prog_3_method_1_code
def yX1_init : MethodName := ⟨RX1, "<init>", "(LCallSlicer$Code;)V"⟩
abbrev cX1_build : ByteArray := prog_3_method_2_code
def yX1_build : MethodName := ⟨RX1, "build", "(LCallSlicer$Code;)V"⟩
abbrev cX1_kindsBetween : ByteArray := prog_3_method_3_code
def yX1_kindsBetween : MethodName := ⟨RX1, "kindsBetween", "(II)I"⟩
abbrev cX1_tie : ByteArray := prog_3_method_4_code
def yX1_tie : MethodName := ⟨RX1, "tie", "(IIIJ)V"⟩
abbrev cX1_findCertain : ByteArray := prog_3_method_5_code
def yX1_findCertain : MethodName := ⟨RX1, "findCertain", "()V"⟩
abbrev cX1_tieByWay : ByteArray := prog_3_method_6_code
def yX1_tieByWay : MethodName := ⟨RX1, "tieByWay", "()V"⟩
abbrev cX1_tieDecided : ByteArray := prog_3_method_7_code
def yX1_tieDecided : MethodName := ⟨RX1, "tieDecided", "(IJ)V"⟩
abbrev cX1_tieAll : ByteArray := prog_3_method_8_code
def yX1_tieAll : MethodName := ⟨RX1, "tieAll", "(JII)V"⟩
abbrev cX1_findTellers : ByteArray := prog_3_method_9_code
def yX1_findTellers : MethodName := ⟨RX1, "findTellers", "(I)V"⟩
abbrev cX1_passOn : ByteArray := prog_3_method_10_code
def yX1_passOn : MethodName := ⟨RX1, "passOn", "(II)Z"⟩
abbrev cX1_addTellers : ByteArray := prog_3_method_11_code
def yX1_addTellers : MethodName := ⟨RX1, "addTellers", "(IJ)Z"⟩
abbrev cX1_tieByValue : ByteArray := prog_3_method_12_code
def yX1_tieByValue : MethodName := ⟨RX1, "tieByValue", "(I)V"⟩
abbrev cX1_tieUse : ByteArray := prog_3_method_13_code
def yX1_tieUse : MethodName := ⟨RX1, "tieUse", "(III)V"⟩
abbrev cX1_tieEnds : ByteArray := prog_3_method_14_code
def yX1_tieEnds : MethodName := ⟨RX1, "tieEnds", "()V"⟩
abbrev cX1_tieCalls : ByteArray := prog_3_method_15_code
def yX1_tieCalls : MethodName := ⟨RX1, "tieCalls", "()V"⟩
def RX2 : String := "CallSlicer$Machine"
def TX2 : u_T := fun k => match k with
  | 0 => ("CallSlicer$Machine", "fields", "[I", true)
  | 1 => ("CallSlicer$Machine", "variables", "[I", true)
  | 2 => ("CallSlicer$Machine", "opener", "[I", true)
  | 3 => ("CallSlicer$Machine", "frame", "I", false)
  | 4 => ("CallSlicer$Machine", "unit", "I", false)
  | 5 => ("CallSlicer$Machine", "done", "I", false)
  | 6 => ("CallSlicer$Machine", "how", "I", false)
  | 7 => ("CallSlicer$Machine", "value", "I", false)
  | 8 => ("CallSlicer$Machine", "seer", "[I", true)
  | 9 => ("CallSlicer$Machine", "sight", "[I", true)
  | 10 => ("CallSlicer$Machine", "sights", "I", false)
  | 11 => ("CallSlicer$Machine", "code", "LCallSlicer$Code;", false)
  | _ => ("CallSlicer$Machine", "keep", "J", false)
def tyX2 : Nat → FieldType := fun k => match k with
  | 0 => .array .int
  | 1 => .array .int
  | 2 => .array .int
  | 3 => .int
  | 4 => .int
  | 5 => .int
  | 6 => .int
  | 7 => .int
  | 8 => .array .int
  | 9 => .array .int
  | 10 => .int
  | 11 => .object "CallSlicer$Code"
  | _ => .long
abbrev wsX20 : List Cond := u_ws RX2 TX2 13
theorem nmX2 : ∀ a, a < 13 → ∀ b, b < 13 → a ≠ b → (TX2 a).2.1 ≠ (TX2 b).2.1 := by decide +kernel
theorem tyX2_ok : ∀ k, k < 13 → parseFieldDescriptor (TX2 k).2.2.1 = some (tyX2 k) := by decide +kernel
abbrev cX2_init : ByteArray := prog_4_method_1_code
def yX2_init : MethodName := ⟨RX2, "<init>", "(LCallSlicer$Code;)V"⟩
abbrev cX2_forget : ByteArray := prog_4_method_2_code
def yX2_forget : MethodName := ⟨RX2, "forget", "()V"⟩
abbrev cX2_play : ByteArray := prog_4_method_3_code
def yX2_play : MethodName := ⟨RX2, "play", "(LCallSlicer$Code;JII)I"⟩
abbrev cX2_enter : ByteArray := prog_4_method_4_code
def yX2_enter : MethodName := ⟨RX2, "enter", "(III)V"⟩
abbrev cX2_step : ByteArray := prog_4_method_5_code
def yX2_step : MethodName := ⟨RX2, "step", "()V"⟩
abbrev cX2_perform : ByteArray := prog_4_method_6_code
def yX2_perform : MethodName := ⟨RX2, "perform", "(I)V"⟩
abbrev cX2_compute : ByteArray := prog_4_method_7_code
def yX2_compute : MethodName := ⟨RX2, "compute", "(I)I"⟩
abbrev cX2_load : ByteArray := prog_4_method_8_code
def yX2_load : MethodName := ⟨RX2, "load", "(I)I"⟩
abbrev cX2_store : ByteArray := prog_4_method_9_code
def yX2_store : MethodName := ⟨RX2, "store", "(II)V"⟩
abbrev cX2_see : ByteArray := prog_4_method_10_code
def yX2_see : MethodName := ⟨RX2, "see", "(II)V"⟩
abbrev cX2_open : ByteArray := prog_4_method_11_code
def yX2_open : MethodName := ⟨RX2, "open", "(I)V"⟩
abbrev cX2_raise : ByteArray := prog_4_method_12_code
def yX2_raise : MethodName := ⟨RX2, "raise", "(II)V"⟩
abbrev cX2_leave : ByteArray := prog_4_method_13_code
def yX2_leave : MethodName := ⟨RX2, "leave", "(IZ)V"⟩
abbrev cX2_tell : ByteArray := prog_4_method_14_code
def yX2_tell : MethodName := ⟨RX2, "tell", "(I)I"⟩
abbrev cX2_sightsOf : ByteArray := prog_4_method_15_code
def yX2_sightsOf : MethodName := ⟨RX2, "sightsOf", "(I)I"⟩
abbrev cX2_sightOf : ByteArray := prog_4_method_16_code
def yX2_sightOf : MethodName := ⟨RX2, "sightOf", "(II)I"⟩
def RX3 : String := "CallSlicer$Reader"
def TX3 : u_T := fun k => match k with
  | 0 => ("CallSlicer$Reader", "text", "[B", false)
  | 1 => ("CallSlicer$Reader", "length", "I", false)
  | 2 => ("CallSlicer$Reader", "place", "I", false)
  | 3 => ("CallSlicer$Reader", "blamed", "I", false)
  | 4 => ("CallSlicer$Reader", "code", "LCallSlicer$Code;", false)
  | 5 => ("CallSlicer$Reader", "tree", "LCallSlicer$Tree;", true)
  | 6 => ("CallSlicer$Reader", "wiring", "LCallSlicer$Wiring;", true)
  | 7 => ("CallSlicer$Reader", "open", "I", false)
  | 8 => ("CallSlicer$Reader", "holder", "[I", true)
  | 9 => ("CallSlicer$Reader", "last", "[I", true)
  | _ => ("CallSlicer$Reader", "second", "[Z", true)
def tyX3 : Nat → FieldType := fun k => match k with
  | 0 => .array .byte
  | 1 => .int
  | 2 => .int
  | 3 => .int
  | 4 => .object "CallSlicer$Code"
  | 5 => .object "CallSlicer$Tree"
  | 6 => .object "CallSlicer$Wiring"
  | 7 => .int
  | 8 => .array .int
  | 9 => .array .int
  | _ => .array .boolean
abbrev wsX30 : List Cond := u_ws RX3 TX3 11
theorem nmX3 : ∀ a, a < 11 → ∀ b, b < 11 → a ≠ b → (TX3 a).2.1 ≠ (TX3 b).2.1 := by decide +kernel
theorem tyX3_ok : ∀ k, k < 11 → parseFieldDescriptor (TX3 k).2.2.1 = some (tyX3 k) := by decide +kernel
abbrev cX3_init : ByteArray := prog_5_method_1_code
def yX3_init : MethodName := ⟨RX3, "<init>", "(LCallSlicer$Code;)V"⟩
abbrev cX3_read : ByteArray := prog_5_method_2_code
def yX3_read : MethodName := ⟨RX3, "read", "([BILCallSlicer$Code;)I"⟩
abbrev cX3_start : ByteArray := prog_5_method_3_code
def yX3_start : MethodName := ⟨RX3, "start", "([BILCallSlicer$Code;)V"⟩
abbrev cX3_finish : ByteArray := prog_5_method_4_code
def yX3_finish : MethodName := ⟨RX3, "finish", "()V"⟩
abbrev cX3_blame : ByteArray := prog_5_method_5_code
def yX3_blame : MethodName := ⟨RX3, "blame", "(II)V"⟩
abbrev cX3_look : ByteArray := prog_5_method_6_code
def yX3_look : MethodName := ⟨RX3, "look", "()I"⟩
abbrev cX3_take : ByteArray := prog_5_method_7_code
def yX3_take : MethodName := ⟨RX3, "take", "(I)V"⟩
abbrev cX3_readProcedure : ByteArray := prog_5_method_8_code
def yX3_readProcedure : MethodName := ⟨RX3, "readProcedure", "()V"⟩
abbrev cX3_openBlock : ByteArray := prog_5_method_9_code
def yX3_openBlock : MethodName := ⟨RX3, "openBlock", "(IZ)V"⟩
abbrev cX3_closeBlock : ByteArray := prog_5_method_10_code
def yX3_closeBlock : MethodName := ⟨RX3, "closeBlock", "()V"⟩
abbrev cX3_readSecond : ByteArray := prog_5_method_11_code
def yX3_readSecond : MethodName := ⟨RX3, "readSecond", "(I)V"⟩
abbrev cX3_addItem : ByteArray := prog_5_method_12_code
def yX3_addItem : MethodName := ⟨RX3, "addItem", "(I)I"⟩
abbrev cX3_readTry : ByteArray := prog_5_method_13_code
def yX3_readTry : MethodName := ⟨RX3, "readTry", "()V"⟩
abbrev cX3_readStatement : ByteArray := prog_5_method_14_code
def yX3_readStatement : MethodName := ⟨RX3, "readStatement", "(I)V"⟩
abbrev cX3_kindBegunBy : ByteArray := prog_5_method_15_code
def yX3_kindBegunBy : MethodName := ⟨RX3, "kindBegunBy", "(I)I"⟩
abbrev cX3_readCondition : ByteArray := prog_5_method_16_code
def yX3_readCondition : MethodName := ⟨RX3, "readCondition", "(II)V"⟩
abbrev cX3_readAssignment : ByteArray := prog_5_method_17_code
def yX3_readAssignment : MethodName := ⟨RX3, "readAssignment", "(II)V"⟩
abbrev cX3_readCall : ByteArray := prog_5_method_18_code
def yX3_readCall : MethodName := ⟨RX3, "readCall", "(II)V"⟩
abbrev cX3_readNumbers : ByteArray := prog_5_method_19_code
def yX3_readNumbers : MethodName := ⟨RX3, "readNumbers", "(I)V"⟩
abbrev cX3_readOperand : ByteArray := prog_5_method_20_code
def yX3_readOperand : MethodName := ⟨RX3, "readOperand", "()I"⟩
abbrev cX3_readNumber : ByteArray := prog_5_method_21_code
def yX3_readNumber : MethodName := ⟨RX3, "readNumber", "()I"⟩
abbrev cX3_isDigit : ByteArray := prog_5_method_22_code
def yX3_isDigit : MethodName := ⟨RX3, "isDigit", "(I)Z"⟩
abbrev cX3_nameOf : ByteArray := prog_5_method_23_code
def yX3_nameOf : MethodName := ⟨RX3, "nameOf", "(I)I"⟩
def RX4 : String := "CallSlicer$Slicing"
def TX4 : u_T := fun k => match k with
  | 0 => ("CallSlicer$Slicing", "hanging", "LCallSlicer$Hanging;", true)
  | 1 => ("CallSlicer$Slicing", "code", "LCallSlicer$Code;", false)
  | 2 => ("CallSlicer$Slicing", "ready", "Z", false)
  | 3 => ("CallSlicer$Slicing", "callers", "[J", true)
  | 4 => ("CallSlicer$Slicing", "through", "[I", true)
  | 5 => ("CallSlicer$Slicing", "risen", "[J", true)
  | 6 => ("CallSlicer$Slicing", "found", "[J", true)
  | 7 => ("CallSlicer$Slicing", "queue", "[I", true)
  | 8 => ("CallSlicer$Slicing", "queued", "I", false)
  | 9 => ("CallSlicer$Slicing", "backs", "[J", true)
  | 10 => ("CallSlicer$Slicing", "backsKnown", "J", false)
  | 11 => ("CallSlicer$Slicing", "keeps", "[J", true)
  | _ => ("CallSlicer$Slicing", "keepsKnown", "J", false)
def tyX4 : Nat → FieldType := fun k => match k with
  | 0 => .object "CallSlicer$Hanging"
  | 1 => .object "CallSlicer$Code"
  | 2 => .boolean
  | 3 => .array .long
  | 4 => .array .int
  | 5 => .array .long
  | 6 => .array .long
  | 7 => .array .int
  | 8 => .int
  | 9 => .array .long
  | 10 => .long
  | 11 => .array .long
  | _ => .long
abbrev wsX40 : List Cond := u_ws RX4 TX4 13
theorem nmX4 : ∀ a, a < 13 → ∀ b, b < 13 → a ≠ b → (TX4 a).2.1 ≠ (TX4 b).2.1 := by decide +kernel
theorem tyX4_ok : ∀ k, k < 13 → parseFieldDescriptor (TX4 k).2.2.1 = some (tyX4 k) := by decide +kernel
abbrev cX4_init : ByteArray := prog_6_method_1_code
def yX4_init : MethodName := ⟨RX4, "<init>", "(LCallSlicer$Code;)V"⟩
abbrev cX4_forget : ByteArray := prog_6_method_2_code
def yX4_forget : MethodName := ⟨RX4, "forget", "()V"⟩
abbrev cX4_prepare : ByteArray := prog_6_method_3_code
def yX4_prepare : MethodName := ⟨RX4, "prepare", "(LCallSlicer$Code;)V"⟩
abbrev cX4_growThrough : ByteArray := prog_6_method_4_code
def yX4_growThrough : MethodName := ⟨RX4, "growThrough", "()Z"⟩
abbrev cX4_insFrom : ByteArray := prog_6_method_5_code
def yX4_insFrom : MethodName := ⟨RX4, "insFrom", "(II)I"⟩
abbrev cX4_leadsThrough : ByteArray := prog_6_method_6_code
def yX4_leadsThrough : MethodName := ⟨RX4, "leadsThrough", "(III)Z"⟩
abbrev cX4_clearFound : ByteArray := prog_6_method_7_code
def yX4_clearFound : MethodName := ⟨RX4, "clearFound", "()V"⟩
abbrev cX4_add : ByteArray := prog_6_method_8_code
def yX4_add : MethodName := ⟨RX4, "add", "([JIJ)V"⟩
abbrev cX4_spread : ByteArray := prog_6_method_9_code
def yX4_spread : MethodName := ⟨RX4, "spread", "([JI)V"⟩
abbrev cX4_followRow : ByteArray := prog_6_method_10_code
def yX4_followRow : MethodName := ⟨RX4, "followRow", "([JI)V"⟩
abbrev cX4_followCall : ByteArray := prog_6_method_11_code
def yX4_followCall : MethodName := ⟨RX4, "followCall", "([JIII)V"⟩
abbrev cX4_findOn : ByteArray := prog_6_method_12_code
def yX4_findOn : MethodName := ⟨RX4, "findOn", "()V"⟩
abbrev cX4_beginFrom : ByteArray := prog_6_method_13_code
def yX4_beginFrom : MethodName := ⟨RX4, "beginFrom", "(I)V"⟩
abbrev cX4_statementsFound : ByteArray := prog_6_method_14_code
def yX4_statementsFound : MethodName := ⟨RX4, "statementsFound", "()J"⟩
abbrev cX4_backFrom : ByteArray := prog_6_method_15_code
def yX4_backFrom : MethodName := ⟨RX4, "backFrom", "(I)J"⟩
abbrev cX4_forthFrom : ByteArray := prog_6_method_16_code
def yX4_forthFrom : MethodName := ⟨RX4, "forthFrom", "(I)J"⟩
abbrev cX4_backFromOut : ByteArray := prog_6_method_17_code
def yX4_backFromOut : MethodName := ⟨RX4, "backFromOut", "(II)J"⟩
abbrev cX4_keptFor : ByteArray := prog_6_method_18_code
def yX4_keptFor : MethodName := ⟨RX4, "keptFor", "(I)J"⟩
abbrev cX4_findKept : ByteArray := prog_6_method_19_code
def yX4_findKept : MethodName := ⟨RX4, "findKept", "(I)J"⟩
abbrev cX4_completeCalls : ByteArray := prog_6_method_20_code
def yX4_completeCalls : MethodName := ⟨RX4, "completeCalls", "()Z"⟩
def RX5 : String := "CallSlicer$Tree"
def TX5 : u_T := fun k => match k with
  | 0 => ("CallSlicer$Tree", "items", "I", false)
  | 1 => ("CallSlicer$Tree", "statement", "[I", true)
  | 2 => ("CallSlicer$Tree", "before", "[I", true)
  | 3 => ("CallSlicer$Tree", "lastInner", "[I", true)
  | 4 => ("CallSlicer$Tree", "lastOther", "[I", true)
  | 5 => ("CallSlicer$Tree", "variable", "[I", true)
  | 6 => ("CallSlicer$Tree", "catchEntry", "[I", true)
  | 7 => ("CallSlicer$Tree", "catchFirst", "[I", true)
  | _ => ("CallSlicer$Tree", "lastOfProcedure", "[I", true)
def tyX5 : Nat → FieldType := fun k => match k with
  | 0 => .int
  | 1 => .array .int
  | 2 => .array .int
  | 3 => .array .int
  | 4 => .array .int
  | 5 => .array .int
  | 6 => .array .int
  | 7 => .array .int
  | _ => .array .int
abbrev wsX50 : List Cond := u_ws RX5 TX5 9
theorem nmX5 : ∀ a, a < 9 → ∀ b, b < 9 → a ≠ b → (TX5 a).2.1 ≠ (TX5 b).2.1 := by decide +kernel
theorem tyX5_ok : ∀ k, k < 9 → parseFieldDescriptor (TX5 k).2.2.1 = some (tyX5 k) := by decide +kernel
abbrev cX5_init : ByteArray := prog_7_method_1_code
def yX5_init : MethodName := ⟨RX5, "<init>", "()V"⟩
abbrev cX5_add : ByteArray := prog_7_method_2_code
def yX5_add : MethodName := ⟨RX5, "add", "(I)I"⟩
def RX6 : String := "CallSlicer$Wiring"
def TX6 : u_T := fun k => match k with
  | 0 => ("CallSlicer$Wiring", "tree", "LCallSlicer$Tree;", true)
  | _ => ("CallSlicer$Wiring", "code", "LCallSlicer$Code;", false)
def tyX6 : Nat → FieldType := fun k => match k with
  | 0 => .object "CallSlicer$Tree"
  | _ => .object "CallSlicer$Code"
abbrev wsX60 : List Cond := u_ws RX6 TX6 2
theorem nmX6 : ∀ a, a < 2 → ∀ b, b < 2 → a ≠ b → (TX6 a).2.1 ≠ (TX6 b).2.1 := by decide +kernel
theorem tyX6_ok : ∀ k, k < 2 → parseFieldDescriptor (TX6 k).2.2.1 = some (tyX6 k) := by decide +kernel
abbrev cX6_init : ByteArray := prog_8_method_1_code
def yX6_init : MethodName := ⟨RX6, "<init>", "(LCallSlicer$Tree;LCallSlicer$Code;)V"⟩
abbrev cX6_wire : ByteArray := prog_8_method_2_code
def yX6_wire : MethodName := ⟨RX6, "wire", "(LCallSlicer$Code;)V"⟩
abbrev cX6_wireBlock : ByteArray := prog_8_method_3_code
def yX6_wireBlock : MethodName := ⟨RX6, "wireBlock", "(IIII)I"⟩
abbrev cX6_wireTry : ByteArray := prog_8_method_4_code
def yX6_wireTry : MethodName := ⟨RX6, "wireTry", "(IIII)I"⟩
abbrev cX6_wireStatement : ByteArray := prog_8_method_5_code
def yX6_wireStatement : MethodName := ⟨RX6, "wireStatement", "(IIII)I"⟩
def RX7 : String := "CallSlicer"
def TX7 : u_T := fun k => match k with
  | 0 => ("CallSlicer", "tape", "[B", true)
  | 1 => ("CallSlicer", "taped", "I", false)
  | 2 => ("CallSlicer", "latestFault", "I", false)
  | 3 => ("CallSlicer", "code", "LCallSlicer$Code;", false)
  | 4 => ("CallSlicer", "spare", "LCallSlicer$Code;", false)
  | 5 => ("CallSlicer", "reader", "LCallSlicer$Reader;", true)
  | 6 => ("CallSlicer", "slicing", "LCallSlicer$Slicing;", true)
  | _ => ("CallSlicer", "machine", "LCallSlicer$Machine;", true)
def tyX7 : Nat → FieldType := fun k => match k with
  | 0 => .array .byte
  | 1 => .int
  | 2 => .int
  | 3 => .object "CallSlicer$Code"
  | 4 => .object "CallSlicer$Code"
  | 5 => .object "CallSlicer$Reader"
  | 6 => .object "CallSlicer$Slicing"
  | _ => .object "CallSlicer$Machine"
abbrev wsX70 : List Cond := u_ws RX7 TX7 8
theorem nmX7 : ∀ a, a < 8 → ∀ b, b < 8 → a ≠ b → (TX7 a).2.1 ≠ (TX7 b).2.1 := by decide +kernel
theorem tyX7_ok : ∀ k, k < 8 → parseFieldDescriptor (TX7 k).2.2.1 = some (tyX7 k) := by decide +kernel
abbrev cX7_init : ByteArray := prog_1_method_1_code
def yX7_init : MethodName := ⟨RX7, "<init>", "()V"⟩
abbrev cX7_feed : ByteArray := prog_1_method_2_code
def yX7_feed : MethodName := ⟨RX7, "feed", "(IIIII)I"⟩
abbrev cX7_putFour : ByteArray := prog_1_method_3_code
def yX7_putFour : MethodName := ⟨RX7, "putFour", "(I)V"⟩
abbrev cX7_end : ByteArray := prog_1_method_4_code
def yX7_end : MethodName := ⟨RX7, "end", "(I)Z"⟩
abbrev cX7_program : ByteArray := prog_1_method_5_code
def yX7_program : MethodName := ⟨RX7, "program", "()I"⟩
abbrev cX7_fault : ByteArray := prog_1_method_6_code
def yX7_fault : MethodName := ⟨RX7, "fault", "()I"⟩
abbrev cX7_count : ByteArray := prog_1_method_7_code
def yX7_count : MethodName := ⟨RX7, "count", "(I)I"⟩
abbrev cX7_of : ByteArray := prog_1_method_8_code
def yX7_of : MethodName := ⟨RX7, "of", "(II)I"⟩
abbrev cX7_hangs : ByteArray := prog_1_method_9_code
def yX7_hangs : MethodName := ⟨RX7, "hangs", "(II)I"⟩
abbrev cX7_begun : ByteArray := prog_1_method_10_code
def yX7_begun : MethodName := ⟨RX7, "begun", "(I)J"⟩
abbrev cX7_summary : ByteArray := prog_1_method_11_code
def yX7_summary : MethodName := ⟨RX7, "summary", "(III)Z"⟩
abbrev cX7_back : ByteArray := prog_1_method_12_code
def yX7_back : MethodName := ⟨RX7, "back", "(I)J"⟩
abbrev cX7_forth : ByteArray := prog_1_method_13_code
def yX7_forth : MethodName := ⟨RX7, "forth", "(I)J"⟩
abbrev cX7_between : ByteArray := prog_1_method_14_code
def yX7_between : MethodName := ⟨RX7, "between", "(II)J"⟩
abbrev cX7_backOf : ByteArray := prog_1_method_15_code
def yX7_backOf : MethodName := ⟨RX7, "backOf", "(II)J"⟩
abbrev cX7_kept : ByteArray := prog_1_method_16_code
def yX7_kept : MethodName := ⟨RX7, "kept", "(I)J"⟩
abbrev cX7_run : ByteArray := prog_1_method_17_code
def yX7_run : MethodName := ⟨RX7, "run", "(II)I"⟩
abbrev cX7_runKept : ByteArray := prog_1_method_18_code
def yX7_runKept : MethodName := ⟨RX7, "runKept", "(III)I"⟩
abbrev cX7_ended : ByteArray := prog_1_method_19_code
def yX7_ended : MethodName := ⟨RX7, "ended", "(I)I"⟩
abbrev cX7_saw : ByteArray := prog_1_method_20_code
def yX7_saw : MethodName := ⟨RX7, "saw", "(II)I"⟩
abbrev cX7_isStatement : ByteArray := prog_1_method_21_code
def yX7_isStatement : MethodName := ⟨RX7, "isStatement", "(I)Z"⟩
abbrev cX7_isProcedure : ByteArray := prog_1_method_22_code
def yX7_isProcedure : MethodName := ⟨RX7, "isProcedure", "(I)Z"⟩
abbrev cX7_isPort : ByteArray := prog_1_method_23_code
def yX7_isPort : MethodName := ⟨RX7, "isPort", "(I)Z"⟩
abbrev cX7_bit : ByteArray := prog_1_method_24_code
def yX7_bit : MethodName := ⟨RX7, "bit", "(I)J"⟩
abbrev cX7_has : ByteArray := prog_1_method_25_code
def yX7_has : MethodName := ⟨RX7, "has", "(JI)Z"⟩
abbrev cX7_isField : ByteArray := prog_1_method_26_code
def yX7_isField : MethodName := ⟨RX7, "isField", "(I)Z"⟩
abbrev cX7_portOfField : ByteArray := prog_1_method_27_code
def yX7_portOfField : MethodName := ⟨RX7, "portOfField", "(I)I"⟩
def RX8 : String := "CallSlicerModel"
def TX8 : u_T := fun k => match k with
  | 0 => ("CallSlicerModel", "tape", "[B", true)
  | 1 => ("CallSlicerModel", "text", "[B", true)
  | 2 => ("CallSlicerModel", "taped", "I", false)
  | 3 => ("CallSlicerModel", "size", "I", false)
  | 4 => ("CallSlicerModel", "at", "I", false)
  | 5 => ("CallSlicerModel", "fault", "I", false)
  | 6 => ("CallSlicerModel", "side", "I", false)
  | 7 => ("CallSlicerModel", "items", "[I", true)
  | 8 => ("CallSlicerModel", "blocks", "[I", true)
  | 9 => ("CallSlicerModel", "statements", "[I", true)
  | 10 => ("CallSlicerModel", "procedures", "[I", true)
  | 11 => ("CallSlicerModel", "kind", "[I", true)
  | 12 => ("CallSlicerModel", "number", "[I", true)
  | 13 => ("CallSlicerModel", "procedure", "[I", true)
  | 14 => ("CallSlicerModel", "deep", "[I", true)
  | 15 => ("CallSlicerModel", "place", "[I", true)
  | 16 => ("CallSlicerModel", "name", "[I", true)
  | 17 => ("CallSlicerModel", "sign", "[I", true)
  | 18 => ("CallSlicerModel", "callee", "[I", true)
  | 19 => ("CallSlicerModel", "block", "[I", true)
  | 20 => ("CallSlicerModel", "other", "[I", true)
  | 21 => ("CallSlicerModel", "next", "[I", true)
  | 22 => ("CallSlicerModel", "in", "[I", true)
  | 23 => ("CallSlicerModel", "operand", "[I", true)
  | 24 => ("CallSlicerModel", "first", "[I", true)
  | 25 => ("CallSlicerModel", "last", "[I", true)
  | 26 => ("CallSlicerModel", "owner", "[I", true)
  | 27 => ("CallSlicerModel", "itemOf", "[I", true)
  | 28 => ("CallSlicerModel", "whole", "[I", true)
  | 29 => ("CallSlicerModel", "live", "I", false)
  | 30 => ("CallSlicerModel", "isThere", "Z", false)
  | 31 => ("CallSlicerModel", "goesOn", "[I", true)
  | 32 => ("CallSlicerModel", "within", "[I", true)
  | 33 => ("CallSlicerModel", "others", "[I", true)
  | 34 => ("CallSlicerModel", "thrownTo", "[I", true)
  | 35 => ("CallSlicerModel", "caughtBy", "[I", true)
  | 36 => ("CallSlicerModel", "entry", "[I", true)
  | 37 => ("CallSlicerModel", "mayReturn", "[Z", true)
  | 38 => ("CallSlicerModel", "mayThrow", "[Z", true)
  | 39 => ("CallSlicerModel", "hangs", "[I", true)
  | 40 => ("CallSlicerModel", "byValue", "[J", true)
  | 41 => ("CallSlicerModel", "byWay", "[J", true)
  | 42 => ("CallSlicerModel", "onAll", "[J", true)
  | 43 => ("CallSlicerModel", "begun", "[J", true)
  | 44 => ("CallSlicerModel", "through", "[I", true)
  | 45 => ("CallSlicerModel", "set", "[I", true)
  | 46 => ("CallSlicerModel", "frontier", "[I", true)
  | 47 => ("CallSlicerModel", "waiting", "I", false)
  | 48 => ("CallSlicerModel", "backs", "[J", true)
  | 49 => ("CallSlicerModel", "keptSet", "[I", true)
  | 50 => ("CallSlicerModel", "hasRun", "Z", false)
  | 51 => ("CallSlicerModel", "ended", "I", false)
  | 52 => ("CallSlicerModel", "value", "I", false)
  | 53 => ("CallSlicerModel", "done", "I", false)
  | 54 => ("CallSlicerModel", "sights", "I", false)
  | 55 => ("CallSlicerModel", "kept", "J", false)
  | 56 => ("CallSlicerModel", "field", "[I", true)
  | 57 => ("CallSlicerModel", "variable", "[I", true)
  | 58 => ("CallSlicerModel", "sawBy", "[I", true)
  | _ => ("CallSlicerModel", "sawWhat", "[I", true)
def tyX8 : Nat → FieldType := fun k => match k with
  | 0 => .array .byte
  | 1 => .array .byte
  | 2 => .int
  | 3 => .int
  | 4 => .int
  | 5 => .int
  | 6 => .int
  | 7 => .array .int
  | 8 => .array .int
  | 9 => .array .int
  | 10 => .array .int
  | 11 => .array .int
  | 12 => .array .int
  | 13 => .array .int
  | 14 => .array .int
  | 15 => .array .int
  | 16 => .array .int
  | 17 => .array .int
  | 18 => .array .int
  | 19 => .array .int
  | 20 => .array .int
  | 21 => .array .int
  | 22 => .array .int
  | 23 => .array .int
  | 24 => .array .int
  | 25 => .array .int
  | 26 => .array .int
  | 27 => .array .int
  | 28 => .array .int
  | 29 => .int
  | 30 => .boolean
  | 31 => .array .int
  | 32 => .array .int
  | 33 => .array .int
  | 34 => .array .int
  | 35 => .array .int
  | 36 => .array .int
  | 37 => .array .boolean
  | 38 => .array .boolean
  | 39 => .array .int
  | 40 => .array .long
  | 41 => .array .long
  | 42 => .array .long
  | 43 => .array .long
  | 44 => .array .int
  | 45 => .array .int
  | 46 => .array .int
  | 47 => .int
  | 48 => .array .long
  | 49 => .array .int
  | 50 => .boolean
  | 51 => .int
  | 52 => .int
  | 53 => .int
  | 54 => .int
  | 55 => .long
  | 56 => .array .int
  | 57 => .array .int
  | 58 => .array .int
  | _ => .array .int
abbrev wsX80 : List Cond := u_ws RX8 TX8 60
theorem nmX8 : ∀ a, a < 60 → ∀ b, b < 60 → a ≠ b → (TX8 a).2.1 ≠ (TX8 b).2.1 := by decide +kernel
theorem tyX8_ok : ∀ k, k < 60 → parseFieldDescriptor (TX8 k).2.2.1 = some (tyX8 k) := by decide +kernel
abbrev cX8_init : ByteArray := prog_10_method_1_code
def yX8_init : MethodName := ⟨RX8, "<init>", "()V"⟩
abbrev cX8_isIn : ByteArray := prog_10_method_2_code
def yX8_isIn : MethodName := ⟨RX8, "isIn", "(III)Z"⟩
abbrev cX8_has : ByteArray := prog_10_method_3_code
def yX8_has : MethodName := ⟨RX8, "has", "(JI)Z"⟩
abbrev cX8_put : ByteArray := prog_10_method_4_code
def yX8_put : MethodName := ⟨RX8, "put", "(I)V"⟩
abbrev cX8_feed : ByteArray := prog_10_method_5_code
def yX8_feed : MethodName := ⟨RX8, "feed", "(IIIII)I"⟩
abbrev cX8_end : ByteArray := prog_10_method_6_code
def yX8_end : MethodName := ⟨RX8, "end", "(I)Z"⟩
abbrev cX8_here : ByteArray := prog_10_method_7_code
def yX8_here : MethodName := ⟨RX8, "here", "()I"⟩
abbrev cX8_fails : ByteArray := prog_10_method_8_code
def yX8_fails : MethodName := ⟨RX8, "fails", "(I)V"⟩
abbrev cX8_isGood : ByteArray := prog_10_method_9_code
def yX8_isGood : MethodName := ⟨RX8, "isGood", "()Z"⟩
abbrev cX8_must : ByteArray := prog_10_method_10_code
def yX8_must : MethodName := ⟨RX8, "must", "(I)V"⟩
abbrev cX8_nameHere : ByteArray := prog_10_method_11_code
def yX8_nameHere : MethodName := ⟨RX8, "nameHere", "(Z)I"⟩
abbrev cX8_operand : ByteArray := prog_10_method_12_code
def yX8_operand : MethodName := ⟨RX8, "operand", "(II)V"⟩
abbrev cX8_newBlock : ByteArray := prog_10_method_13_code
def yX8_newBlock : MethodName := ⟨RX8, "newBlock", "(II)I"⟩
abbrev cX8_readBlock : ByteArray := prog_10_method_14_code
def yX8_readBlock : MethodName := ⟨RX8, "readBlock", "(III)I"⟩
abbrev cX8_kindOf : ByteArray := prog_10_method_15_code
def yX8_kindOf : MethodName := ⟨RX8, "kindOf", "(I)I"⟩
abbrev cX8_readItem : ByteArray := prog_10_method_16_code
def yX8_readItem : MethodName := ⟨RX8, "readItem", "(III)V"⟩
abbrev cX8_readEnd : ByteArray := prog_10_method_17_code
def yX8_readEnd : MethodName := ⟨RX8, "readEnd", "(I)V"⟩
abbrev cX8_isSign : ByteArray := prog_10_method_18_code
def yX8_isSign : MethodName := ⟨RX8, "isSign", "(I)Z"⟩
abbrev cX8_readSet : ByteArray := prog_10_method_19_code
def yX8_readSet : MethodName := ⟨RX8, "readSet", "(II)V"⟩
abbrev cX8_readTest : ByteArray := prog_10_method_20_code
def yX8_readTest : MethodName := ⟨RX8, "readTest", "(III)V"⟩
abbrev cX8_readTry : ByteArray := prog_10_method_21_code
def yX8_readTry : MethodName := ⟨RX8, "readTry", "(III)V"⟩
abbrev cX8_readAll : ByteArray := prog_10_method_22_code
def yX8_readAll : MethodName := ⟨RX8, "readAll", "()V"⟩
abbrev cX8_isTold : ByteArray := prog_10_method_23_code
def yX8_isTold : MethodName := ⟨RX8, "isTold", "()Z"⟩
abbrev cX8_program : ByteArray := prog_10_method_24_code
def yX8_program : MethodName := ⟨RX8, "program", "()I"⟩
abbrev cX8_fault : ByteArray := prog_10_method_25_code
def yX8_fault : MethodName := ⟨RX8, "fault", "()I"⟩
abbrev cX8_entryOf : ByteArray := prog_10_method_26_code
def yX8_entryOf : MethodName := ⟨RX8, "entryOf", "(I)I"⟩
abbrev cX8_firstOf : ByteArray := prog_10_method_27_code
def yX8_firstOf : MethodName := ⟨RX8, "firstOf", "(I)I"⟩
abbrev cX8_endOf : ByteArray := prog_10_method_28_code
def yX8_endOf : MethodName := ⟨RX8, "endOf", "(I)I"⟩
abbrev cX8_behind : ByteArray := prog_10_method_29_code
def yX8_behind : MethodName := ⟨RX8, "behind", "(I)I"⟩
abbrev cX8_tryOf : ByteArray := prog_10_method_30_code
def yX8_tryOf : MethodName := ⟨RX8, "tryOf", "(I)I"⟩
abbrev cX8_laysWays : ByteArray := prog_10_method_31_code
def yX8_laysWays : MethodName := ⟨RX8, "laysWays", "()V"⟩
abbrev cX8_item : ByteArray := prog_10_method_32_code
def yX8_item : MethodName := ⟨RX8, "item", "(I)I"⟩
abbrev cX8_kindAt : ByteArray := prog_10_method_33_code
def yX8_kindAt : MethodName := ⟨RX8, "kindAt", "(I)I"⟩
abbrev cX8_isThrowing : ByteArray := prog_10_method_34_code
def yX8_isThrowing : MethodName := ⟨RX8, "isThrowing", "(I)Z"⟩
abbrev cX8_isReturning : ByteArray := prog_10_method_35_code
def yX8_isReturning : MethodName := ⟨RX8, "isReturning", "(I)Z"⟩
abbrev cX8_way : ByteArray := prog_10_method_36_code
def yX8_way : MethodName := ⟨RX8, "way", "(II)I"⟩
abbrev cX8_comesTo : ByteArray := prog_10_method_37_code
def yX8_comesTo : MethodName := ⟨RX8, "comesTo", "(IZ)Z"⟩
abbrev cX8_laysMay : ByteArray := prog_10_method_38_code
def yX8_laysMay : MethodName := ⟨RX8, "laysMay", "()V"⟩
abbrev cX8_statementPlace : ByteArray := prog_10_method_39_code
def yX8_statementPlace : MethodName := ⟨RX8, "statementPlace", "(II)I"⟩
abbrev cX8_procedurePlace : ByteArray := prog_10_method_40_code
def yX8_procedurePlace : MethodName := ⟨RX8, "procedurePlace", "(II)I"⟩
abbrev cX8_hang : ByteArray := prog_10_method_41_code
def yX8_hang : MethodName := ⟨RX8, "hang", "(II)V"⟩
abbrev cX8_isHung : ByteArray := prog_10_method_42_code
def yX8_isHung : MethodName := ⟨RX8, "isHung", "(II)Z"⟩
abbrev cX8_procedureOf : ByteArray := prog_10_method_43_code
def yX8_procedureOf : MethodName := ⟨RX8, "procedureOf", "(I)I"⟩
abbrev cX8_tells : ByteArray := prog_10_method_44_code
def yX8_tells : MethodName := ⟨RX8, "tells", "(III)I"⟩
abbrev cX8_uses : ByteArray := prog_10_method_45_code
def yX8_uses : MethodName := ⟨RX8, "uses", "(IIII)V"⟩
abbrev cX8_usesOperand : ByteArray := prog_10_method_46_code
def yX8_usesOperand : MethodName := ⟨RX8, "usesOperand", "(III)V"⟩
abbrev cX8_laysValues : ByteArray := prog_10_method_47_code
def yX8_laysValues : MethodName := ⟨RX8, "laysValues", "()V"⟩
abbrev cX8_isAnyHung : ByteArray := prog_10_method_48_code
def yX8_isAnyHung : MethodName := ⟨RX8, "isAnyHung", "(II)Z"⟩
abbrev cX8_ends : ByteArray := prog_10_method_49_code
def yX8_ends : MethodName := ⟨RX8, "ends", "(I)V"⟩
abbrev cX8_decides : ByteArray := prog_10_method_50_code
def yX8_decides : MethodName := ⟨RX8, "decides", "(I)Z"⟩
abbrev cX8_wayOf : ByteArray := prog_10_method_51_code
def yX8_wayOf : MethodName := ⟨RX8, "wayOf", "(II)I"⟩
abbrev cX8_onAllFrom : ByteArray := prog_10_method_52_code
def yX8_onAllFrom : MethodName := ⟨RX8, "onAllFrom", "(I)J"⟩
abbrev cX8_laysWay : ByteArray := prog_10_method_53_code
def yX8_laysWay : MethodName := ⟨RX8, "laysWay", "()V"⟩
abbrev cX8_isInSet : ByteArray := prog_10_method_54_code
def yX8_isInSet : MethodName := ⟨RX8, "isInSet", "(I)Z"⟩
abbrev cX8_reach : ByteArray := prog_10_method_55_code
def yX8_reach : MethodName := ⟨RX8, "reach", "(I)V"⟩
abbrev cX8_isCall : ByteArray := prog_10_method_56_code
def yX8_isCall : MethodName := ⟨RX8, "isCall", "(I)Z"⟩
abbrev cX8_goes : ByteArray := prog_10_method_57_code
def yX8_goes : MethodName := ⟨RX8, "goes", "(ZZ)V"⟩
abbrev cX8_goesUp : ByteArray := prog_10_method_58_code
def yX8_goesUp : MethodName := ⟨RX8, "goesUp", "(II)V"⟩
abbrev cX8_empties : ByteArray := prog_10_method_59_code
def yX8_empties : MethodName := ⟨RX8, "empties", "()V"⟩
abbrev cX8_laysThrough : ByteArray := prog_10_method_60_code
def yX8_laysThrough : MethodName := ⟨RX8, "laysThrough", "()V"⟩
abbrev cX8_goesBack : ByteArray := prog_10_method_61_code
def yX8_goesBack : MethodName := ⟨RX8, "goesBack", "()V"⟩
abbrev cX8_inSet : ByteArray := prog_10_method_62_code
def yX8_inSet : MethodName := ⟨RX8, "inSet", "()J"⟩
abbrev cX8_reachAll : ByteArray := prog_10_method_63_code
def yX8_reachAll : MethodName := ⟨RX8, "reachAll", "(I)V"⟩
abbrev cX8_laysAll : ByteArray := prog_10_method_64_code
def yX8_laysAll : MethodName := ⟨RX8, "laysAll", "()V"⟩
abbrev cX8_isStatement : ByteArray := prog_10_method_65_code
def yX8_isStatement : MethodName := ⟨RX8, "isStatement", "(I)Z"⟩
abbrev cX8_isProcedure : ByteArray := prog_10_method_66_code
def yX8_isProcedure : MethodName := ⟨RX8, "isProcedure", "(I)Z"⟩
abbrev cX8_calls : ByteArray := prog_10_method_67_code
def yX8_calls : MethodName := ⟨RX8, "calls", "()I"⟩
abbrev cX8_may : ByteArray := prog_10_method_68_code
def yX8_may : MethodName := ⟨RX8, "may", "([Z)I"⟩
abbrev cX8_count : ByteArray := prog_10_method_69_code
def yX8_count : MethodName := ⟨RX8, "count", "(I)I"⟩
abbrev cX8_catcher : ByteArray := prog_10_method_70_code
def yX8_catcher : MethodName := ⟨RX8, "catcher", "(I)I"⟩
abbrev cX8_of : ByteArray := prog_10_method_71_code
def yX8_of : MethodName := ⟨RX8, "of", "(II)I"⟩
abbrev cX8_hangs : ByteArray := prog_10_method_72_code
def yX8_hangs : MethodName := ⟨RX8, "hangs", "(II)I"⟩
abbrev cX8_begun : ByteArray := prog_10_method_73_code
def yX8_begun : MethodName := ⟨RX8, "begun", "(I)J"⟩
abbrev cX8_summary : ByteArray := prog_10_method_74_code
def yX8_summary : MethodName := ⟨RX8, "summary", "(III)Z"⟩
abbrev cX8_back : ByteArray := prog_10_method_75_code
def yX8_back : MethodName := ⟨RX8, "back", "(I)J"⟩
abbrev cX8_forthOf : ByteArray := prog_10_method_76_code
def yX8_forthOf : MethodName := ⟨RX8, "forthOf", "(I)J"⟩
abbrev cX8_forth : ByteArray := prog_10_method_77_code
def yX8_forth : MethodName := ⟨RX8, "forth", "(I)J"⟩
abbrev cX8_between : ByteArray := prog_10_method_78_code
def yX8_between : MethodName := ⟨RX8, "between", "(II)J"⟩
abbrev cX8_backOf : ByteArray := prog_10_method_79_code
def yX8_backOf : MethodName := ⟨RX8, "backOf", "(II)J"⟩
abbrev cX8_joins : ByteArray := prog_10_method_80_code
def yX8_joins : MethodName := ⟨RX8, "joins", "()V"⟩
abbrev cX8_isKept : ByteArray := prog_10_method_81_code
def yX8_isKept : MethodName := ⟨RX8, "isKept", "(I)Z"⟩
abbrev cX8_isAnyKept : ByteArray := prog_10_method_82_code
def yX8_isAnyKept : MethodName := ⟨RX8, "isAnyKept", "(I)Z"⟩
abbrev cX8_isWanted : ByteArray := prog_10_method_83_code
def yX8_isWanted : MethodName := ⟨RX8, "isWanted", "(II)Z"⟩
abbrev cX8_keptFor : ByteArray := prog_10_method_84_code
def yX8_keptFor : MethodName := ⟨RX8, "keptFor", "(I)J"⟩
abbrev cX8_kept : ByteArray := prog_10_method_85_code
def yX8_kept : MethodName := ⟨RX8, "kept", "(I)J"⟩
abbrev cX8_number : ByteArray := prog_10_method_86_code
def yX8_number : MethodName := ⟨RX8, "number", "(II)I"⟩
abbrev cX8_number_ : ByteArray := prog_10_method_87_code
def yX8_number_ : MethodName := ⟨RX8, "number", "(III)I"⟩
abbrev cX8_tellsName : ByteArray := prog_10_method_88_code
def yX8_tellsName : MethodName := ⟨RX8, "tellsName", "(III)V"⟩
abbrev cX8_sees : ByteArray := prog_10_method_89_code
def yX8_sees : MethodName := ⟨RX8, "sees", "(II)V"⟩
abbrev cX8_goesBlock : ByteArray := prog_10_method_90_code
def yX8_goesBlock : MethodName := ⟨RX8, "goesBlock", "(II)I"⟩
abbrev cX8_tries : ByteArray := prog_10_method_91_code
def yX8_tries : MethodName := ⟨RX8, "tries", "(II)I"⟩
abbrev cX8_worked : ByteArray := prog_10_method_92_code
def yX8_worked : MethodName := ⟨RX8, "worked", "(III)I"⟩
abbrev cX8_does : ByteArray := prog_10_method_93_code
def yX8_does : MethodName := ⟨RX8, "does", "(II)I"⟩
abbrev cX8_loops : ByteArray := prog_10_method_94_code
def yX8_loops : MethodName := ⟨RX8, "loops", "(II)I"⟩
abbrev cX8_calls_ : ByteArray := prog_10_method_95_code
def yX8_calls_ : MethodName := ⟨RX8, "calls", "(IIII)I"⟩
abbrev cX8_procedure : ByteArray := prog_10_method_96_code
def yX8_procedure : MethodName := ⟨RX8, "procedure", "(IIII)I"⟩
abbrev cX8_runs : ByteArray := prog_10_method_97_code
def yX8_runs : MethodName := ⟨RX8, "runs", "(JII)I"⟩
abbrev cX8_run : ByteArray := prog_10_method_98_code
def yX8_run : MethodName := ⟨RX8, "run", "(II)I"⟩
abbrev cX8_runKept : ByteArray := prog_10_method_99_code
def yX8_runKept : MethodName := ⟨RX8, "runKept", "(III)I"⟩
abbrev cX8_ended : ByteArray := prog_10_method_100_code
def yX8_ended : MethodName := ⟨RX8, "ended", "(I)I"⟩
abbrev cX8_saw : ByteArray := prog_10_method_101_code
def yX8_saw : MethodName := ⟨RX8, "saw", "(II)I"⟩
def RJx145de : String := "java/io/Serializable"
def TJx145de : u_T := fun k => match k with
  | _ => ("", "", "", false)
def tyJx145de : Nat → FieldType := fun k => match k with
  | _ => .int
abbrev wsJx145de0 : List Cond := u_ws RJx145de TJx145de 0
theorem nmJx145de : ∀ a, a < 0 → ∀ b, b < 0 → a ≠ b → (TJx145de a).2.1 ≠ (TJx145de b).2.1 := by decide +kernel
theorem tyJx145de_ok : ∀ k, k < 0 → parseFieldDescriptor (TJx145de k).2.2.1 = some (tyJx145de k) := by decide +kernel
def RJxb160c : String := "java/lang/Comparable"
def TJxb160c : u_T := fun k => match k with
  | _ => ("", "", "", false)
def tyJxb160c : Nat → FieldType := fun k => match k with
  | _ => .int
abbrev wsJxb160c0 : List Cond := u_ws RJxb160c TJxb160c 0
theorem nmJxb160c : ∀ a, a < 0 → ∀ b, b < 0 → a ≠ b → (TJxb160c a).2.1 ≠ (TJxb160c b).2.1 := by decide +kernel
theorem tyJxb160c_ok : ∀ k, k < 0 → parseFieldDescriptor (TJxb160c k).2.2.1 = some (tyJxb160c k) := by decide +kernel
def RJ6 : String := "java/lang/Integer"
def TJ6 : u_T := fun k => match k with
  | _ => ("", "", "", false)
def tyJ6 : Nat → FieldType := fun k => match k with
  | _ => .int
abbrev wsJ60 : List Cond := u_ws RJ6 TJ6 0
theorem nmJ6 : ∀ a, a < 0 → ∀ b, b < 0 → a ≠ b → (TJ6 a).2.1 ≠ (TJ6 b).2.1 := by decide +kernel
theorem tyJ6_ok : ∀ k, k < 0 → parseFieldDescriptor (TJ6 k).2.2.1 = some (tyJ6 k) := by decide +kernel
abbrev cJ6_numberOfTrailingZeros_0f7a4 : ByteArray := prog_11_method_48_code
def yJ6_numberOfTrailingZeros_0f7a4 : MethodName := ⟨RJ6, "numberOfTrailingZeros", "(I)I"⟩
def RJ13 : String := "java/lang/Long"
def TJ13 : u_T := fun k => match k with
  | _ => ("", "", "", false)
def tyJ13 : Nat → FieldType := fun k => match k with
  | _ => .int
abbrev wsJ130 : List Cond := u_ws RJ13 TJ13 0
theorem nmJ13 : ∀ a, a < 0 → ∀ b, b < 0 → a ≠ b → (TJ13 a).2.1 ≠ (TJ13 b).2.1 := by decide +kernel
theorem tyJ13_ok : ∀ k, k < 0 → parseFieldDescriptor (TJ13 k).2.2.1 = some (tyJ13 k) := by decide +kernel
abbrev cJ13_numberOfTrailingZeros_95d88 : ByteArray := prog_12_method_49_code
def yJ13_numberOfTrailingZeros_95d88 : MethodName := ⟨RJ13, "numberOfTrailingZeros", "(J)I"⟩
abbrev cJ13_bitCount_95d88 : ByteArray := prog_12_method_50_code
def yJ13_bitCount_95d88 : MethodName := ⟨RJ13, "bitCount", "(J)I"⟩
def RJ9 : String := "java/lang/Math"
def TJ9 : u_T := fun k => match k with
  | _ => ("", "", "", false)
def tyJ9 : Nat → FieldType := fun k => match k with
  | _ => .int
abbrev wsJ90 : List Cond := u_ws RJ9 TJ9 0
theorem nmJ9 : ∀ a, a < 0 → ∀ b, b < 0 → a ≠ b → (TJ9 a).2.1 ≠ (TJ9 b).2.1 := by decide +kernel
theorem tyJ9_ok : ∀ k, k < 0 → parseFieldDescriptor (TJ9 k).2.2.1 = some (tyJ9 k) := by decide +kernel
abbrev cJ9_min_7cf53 : ByteArray := prog_13_method_69_code
def yJ9_min_7cf53 : MethodName := ⟨RJ9, "min", "(II)I"⟩
def RJxd2413 : String := "java/lang/Number"
def TJxd2413 : u_T := fun k => match k with
  | _ => ("", "", "", false)
def tyJxd2413 : Nat → FieldType := fun k => match k with
  | _ => .int
abbrev wsJxd24130 : List Cond := u_ws RJxd2413 TJxd2413 0
theorem nmJxd2413 : ∀ a, a < 0 → ∀ b, b < 0 → a ≠ b → (TJxd2413 a).2.1 ≠ (TJxd2413 b).2.1 := by decide +kernel
theorem tyJxd2413_ok : ∀ k, k < 0 → parseFieldDescriptor (TJxd2413 k).2.2.1 = some (tyJxd2413 k) := by decide +kernel
def RJxfd54e : String := "java/lang/constant/Constable"
def TJxfd54e : u_T := fun k => match k with
  | _ => ("", "", "", false)
def tyJxfd54e : Nat → FieldType := fun k => match k with
  | _ => .int
abbrev wsJxfd54e0 : List Cond := u_ws RJxfd54e TJxfd54e 0
theorem nmJxfd54e : ∀ a, a < 0 → ∀ b, b < 0 → a ≠ b → (TJxfd54e a).2.1 ≠ (TJxfd54e b).2.1 := by decide +kernel
theorem tyJxfd54e_ok : ∀ k, k < 0 → parseFieldDescriptor (TJxfd54e k).2.2.1 = some (tyJxfd54e k) := by decide +kernel
def RJx3cf43 : String := "java/lang/constant/ConstantDesc"
def TJx3cf43 : u_T := fun k => match k with
  | _ => ("", "", "", false)
def tyJx3cf43 : Nat → FieldType := fun k => match k with
  | _ => .int
abbrev wsJx3cf430 : List Cond := u_ws RJx3cf43 TJx3cf43 0
theorem nmJx3cf43 : ∀ a, a < 0 → ∀ b, b < 0 → a ≠ b → (TJx3cf43 a).2.1 ≠ (TJx3cf43 b).2.1 := by decide +kernel
theorem tyJx3cf43_ok : ∀ k, k < 0 → parseFieldDescriptor (TJx3cf43 k).2.2.1 = some (tyJx3cf43 k) := by decide +kernel
def RJ7 : String := "java/util/Arrays"
def TJ7 : u_T := fun k => match k with
  | _ => ("", "", "", false)
def tyJ7 : Nat → FieldType := fun k => match k with
  | _ => .int
abbrev wsJ70 : List Cond := u_ws RJ7 TJ7 0
theorem nmJ7 : ∀ a, a < 0 → ∀ b, b < 0 → a ≠ b → (TJ7 a).2.1 ≠ (TJ7 b).2.1 := by decide +kernel
theorem tyJ7_ok : ∀ k, k < 0 → parseFieldDescriptor (TJ7 k).2.2.1 = some (tyJ7 k) := by decide +kernel
abbrev cJ7_fill_d0a16 : ByteArray := prog_15_method_101_code
def yJ7_fill_d0a16 : MethodName := ⟨RJ7, "fill", "([JJ)V"⟩
abbrev cJ7_fill_53178 : ByteArray := prog_15_method_103_code
def yJ7_fill_53178 : MethodName := ⟨RJ7, "fill", "([II)V"⟩
def RL : String := "CallSlicerLaw"
abbrev cL_law : ByteArray := code
def yL_law : MethodName := ⟨RL, "law", "([I)Z"⟩
abbrev vwCl : List vw_C := [(RX0, TX0, 20), (RX1, TX1, 7), (RX2, TX2, 13), (RX3, TX3, 11), (RX4, TX4, 13), (RX5, TX5, 9), (RX6, TX6, 2), (RX7, TX7, 8), (RX8, TX8, 60)]
end
section
theorem gw_sub {ws : List Cond} (ps : List Nat) (hp : ws = ps.filterMap (fun i => lw_tbl[i]?)) (h : ws.all goodWord = true) : ∀ w ∈ ws, w ∈ gw := by
  intro w hw
  have h1 := List.all_eq_true.mp h w hw
  rw [hp] at hw
  obtain ⟨i, -, hi⟩ := List.mem_filterMap.mp hw
  exact List.mem_filter.mpr ⟨List.mem_of_getElem? hi, h1⟩
set_option maxRecDepth 20000 in
theorem inGX0 : ∀ w ∈ u_ws RX0 TX0 20, w ∈ gw := gw_sub [266, 268, 270, 272, 274, 276, 278, 280, 282, 284, 286, 288, 290, 292, 294, 296, 298, 300, 302, 304] (by decide +kernel) (by decide +kernel)
set_option maxRecDepth 20000 in
theorem inGX1 : ∀ w ∈ u_ws RX1 TX1 7, w ∈ gw := gw_sub [433, 435, 437, 439, 441, 443, 445] (by decide +kernel) (by decide +kernel)
set_option maxRecDepth 20000 in
theorem inGX2 : ∀ w ∈ u_ws RX2 TX2 13, w ∈ gw := gw_sub [509, 511, 513, 515, 517, 519, 521, 523, 525, 527, 529, 531, 533] (by decide +kernel) (by decide +kernel)
set_option maxRecDepth 20000 in
theorem inGX3 : ∀ w ∈ u_ws RX3 TX3 11, w ∈ gw := gw_sub [389, 391, 393, 395, 397, 399, 401, 403, 405, 407, 409] (by decide +kernel) (by decide +kernel)
set_option maxRecDepth 20000 in
theorem inGX4 : ∀ w ∈ u_ws RX4 TX4 13, w ∈ gw := gw_sub [463, 465, 467, 469, 471, 473, 475, 477, 479, 481, 483, 485, 487] (by decide +kernel) (by decide +kernel)
set_option maxRecDepth 20000 in
theorem inGX5 : ∀ w ∈ u_ws RX5 TX5 9, w ∈ gw := gw_sub [345, 347, 349, 351, 353, 355, 357, 359, 361] (by decide +kernel) (by decide +kernel)
set_option maxRecDepth 20000 in
theorem inGX6 : ∀ w ∈ u_ws RX6 TX6 2, w ∈ gw := gw_sub [372, 374] (by decide +kernel) (by decide +kernel)
set_option maxRecDepth 20000 in
theorem inGX7 : ∀ w ∈ u_ws RX7 TX7 8, w ∈ gw := gw_sub [544, 546, 548, 550, 552, 554, 556, 558] (by decide +kernel) (by decide +kernel)
set_option maxRecDepth 20000 in
theorem inGX8 : ∀ w ∈ u_ws RX8 TX8 60, w ∈ gw := gw_sub [1109, 1111, 1113, 1115, 1117, 1119, 1121, 1123, 1125, 1127, 1129, 1131, 1133, 1135, 1137, 1139, 1141, 1143, 1145, 1147, 1149, 1151, 1153, 1155, 1157, 1159, 1161, 1163, 1165, 1167, 1169, 1171, 1173, 1175, 1177, 1179, 1181, 1183, 1185, 1187, 1189, 1191, 1193, 1195, 1197, 1199, 1201, 1203, 1205, 1207, 1209, 1211, 1213, 1215, 1217, 1219, 1221, 1223, 1225, 1227] (by decide +kernel) (by decide +kernel)
end
section
/-! THE PURE HEAP: cells by their number (the n-th that was made), fields and elements by their type; its picture in the machine's heap from address z on. -/
abbrev HP : Type := List (Nat × Nat) × (Nat → Nat → Int32) × (Nat → Nat → Int64) × (Nat → Nat → Value)
/-- a value as the machine has it: cell k lies at z + k; the script (a mark here) at b -/
def gv (zb : Nat × Nat) : Value → Value
  | .ref k => .ref (zb.1 + k)
  | .retAddr _ => .ref zb.2
  | v => v
theorem gv_cat (zb : Nat × Nat) (v : Value) : (gv zb v).category = v.category := by cases v <;> rfl
def g_ty (ci : Nat) : Nat → FieldType := match ci with
  | 0 => tyX0
  | 1 => tyX1
  | 2 => tyX2
  | 3 => tyX3
  | 4 => tyX4
  | 5 => tyX5
  | 6 => tyX6
  | 7 => tyX7
  | _ => tyX8
def g_kind : FieldType → Nat
  | .long => 1
  | .object _ => 2
  | .array _ => 2
  | _ => 0
def g_fv (zb : Nat × Nat) (h : HP) (c j : Nat) (ty : FieldType) : Value := if g_kind ty = 0 then .int (h.2.1 c j) else if g_kind ty = 1 then .long (h.2.2.1 c j) else gv zb (h.2.2.2 c j)
/-- kinds 0 to 8: objects; 9 bytes, 10 ints, 11 longs, 12 booleans -/
def g_cell (cy : Nat → ClassId) (zb : Nat × Nat) (h : HP) (c : Nat) (sh : Nat × Nat) : va_E :=
  if sh.1 < 9 then .inr (sh.1, (List.range sh.2).map (fun j => g_fv zb h c j (g_ty sh.1 j)))
  else if sh.1 = 11 then .inl (cy 11, sh.2, .inr (.inl (h.2.2.1 c)))
  else .inl (cy sh.1, sh.2, .inl (h.2.1 c))
def g_ws (cy : Nat → ClassId) (zb : Nat × Nat) (h : HP) : va_W := h.1.zipIdx.map (fun q => (zb.1 + q.2, g_cell cy zb h q.2 q.1))
theorem g_ws_at (cy : Nat → ClassId) (zb : Nat × Nat) (h : HP) (c : Nat) : (g_ws cy zb h)[c]? = (h.1[c]?).map (fun sh => (zb.1 + c, g_cell cy zb h c sh)) := by
  unfold g_ws
  rw [List.getElem?_map, List.getElem?_zipIdx]
  cases h.1[c]? <;> simp
theorem g_ws_get {cy : Nat → ClassId} {zb : Nat × Nat} {h : HP} {c : Nat} {sh : Nat × Nat} (hc : h.1[c]? = some sh) : (g_ws cy zb h)[c]? = some (zb.1 + c, g_cell cy zb h c sh) := by
  rw [g_ws_at, hc]; rfl
theorem g_ws_len (cy : Nat → ClassId) (zb : Nat × Nat) (h : HP) : (g_ws cy zb h).length = h.1.length := by simp [g_ws]
theorem g_ws_set {cy : Nat → ClassId} {zb : Nat × Nat} {h h' : HP} {c : Nat} {sh : Nat × Nat} {e : va_E} (h1 : h'.1 = h.1) (hc : h.1[c]? = some sh) (ho : ∀ (c' : Nat) (sh' : Nat × Nat), c' ≠ c → g_cell cy zb h' c' sh' = g_cell cy zb h c' sh') (he : g_cell cy zb h' c sh = e) : (g_ws cy zb h).set c (zb.1 + c, e) = g_ws cy zb h' := by
  apply List.ext_getElem?
  intro i
  rw [List.getElem?_set, g_ws_at, g_ws_at, h1, g_ws_len]
  by_cases hi : c = i
  · subst hi
    rw [if_pos rfl, if_pos (List.getElem?_eq_some_iff.mp hc).1, hc]
    simp [he]
  · rw [if_neg hi]
    cases h.1[i]? with
    | none => rfl
    | some sh' => simp [ho i sh' (fun q => hi q.symm)]
theorem g_ws_push {cy : Nat → ClassId} {zb : Nat × Nat} {h h' : HP} {sh : Nat × Nat} {e : va_E} (h1 : h'.1 = h.1 ++ [sh]) (ho : ∀ (c' : Nat) (sh' : Nat × Nat), c' ≠ h.1.length → g_cell cy zb h' c' sh' = g_cell cy zb h c' sh') (he : g_cell cy zb h' h.1.length sh = e) : g_ws cy zb h ++ [(zb.1 + h.1.length, e)] = g_ws cy zb h' := by
  apply List.ext_getElem?
  intro i
  rw [g_ws_at, h1]
  by_cases hi : i < h.1.length
  · rw [List.getElem?_append_left (by rw [g_ws_len]; exact hi), List.getElem?_append_left hi, g_ws_at]
    cases h.1[i]? with
    | none => rfl
    | some sh' => simp [ho i sh' (by omega)]
  · rw [List.getElem?_append_right (by rw [g_ws_len]; omega), List.getElem?_append_right (by omega), g_ws_len]
    by_cases hz : i = h.1.length
    · subst hz
      simp [he]
    · have : ∃ q, i - h.1.length = q + 1 := ⟨i - h.1.length - 1, by omega⟩
      obtain ⟨q, hq⟩ := this
      rw [hq]
      rfl
theorem g_D (cy : Nat → ClassId) (zb : Nat × Nat) (h : HP) : va_D (fun q => zb.1 ≤ q) (g_ws cy zb h) := by
  have key : ∀ (i : Nat) (p : Nat × va_E), (g_ws cy zb h)[i]? = some p → p.1 = zb.1 + i := by
    intro i p hi
    rw [g_ws_at] at hi
    cases hs : h.1[i]? with
    | none => rw [hs] at hi; cases hi
    | some sh => rw [hs] at hi; cases hi; rfl
  refine ⟨fun i j p q hi hj hpq => ?_, fun k q hk => ?_⟩
  · have a := key i p hi
    have b := key j q hj
    omega
  · have a := key k q hk
    show zb.1 ≤ q.1
    omega
/-- one number, one long, one reference is written; a cell is made -/
def hI (h : HP) (c j : Nat) (x : Int32) : HP := (h.1, fun a b => if a = c ∧ b = j then x else h.2.1 a b, h.2.2.1, h.2.2.2)
def hL (h : HP) (c j : Nat) (x : Int64) : HP := (h.1, h.2.1, fun a b => if a = c ∧ b = j then x else h.2.2.1 a b, h.2.2.2)
def hR (h : HP) (c j : Nat) (x : Value) : HP := (h.1, h.2.1, h.2.2.1, fun a b => if a = c ∧ b = j then x else h.2.2.2 a b)
def hN (h : HP) (k n : Nat) : HP := (h.1 ++ [(k, n)], fun a b => if a = h.1.length then 0 else h.2.1 a b, fun a b => if a = h.1.length then 0 else h.2.2.1 a b, fun a b => if a = h.1.length then .null else h.2.2.2 a b)
theorem g_cell_I {cy : Nat → ClassId} {zb : Nat × Nat} {h : HP} {c j : Nat} {x : Int32} {c' : Nat} {sh' : Nat × Nat} (hn : c' ≠ c) : g_cell cy zb (hI h c j x) c' sh' = g_cell cy zb h c' sh' := by
  simp [g_cell, g_fv, hI, hn]
theorem g_cell_L {cy : Nat → ClassId} {zb : Nat × Nat} {h : HP} {c j : Nat} {x : Int64} {c' : Nat} {sh' : Nat × Nat} (hn : c' ≠ c) : g_cell cy zb (hL h c j x) c' sh' = g_cell cy zb h c' sh' := by
  simp [g_cell, g_fv, hL, hn]
theorem g_cell_R {cy : Nat → ClassId} {zb : Nat × Nat} {h : HP} {c j : Nat} {x : Value} {c' : Nat} {sh' : Nat × Nat} (hn : c' ≠ c) : g_cell cy zb (hR h c j x) c' sh' = g_cell cy zb h c' sh' := by
  simp [g_cell, g_fv, hR, hn]
theorem g_cell_N {cy : Nat → ClassId} {zb : Nat × Nat} {h : HP} {k n : Nat} {c' : Nat} {sh' : Nat × Nat} (hn : c' ≠ h.1.length) : g_cell cy zb (hN h k n) c' sh' = g_cell cy zb h c' sh' := by
  simp [g_cell, g_fv, hN, hn]
theorem g_map_set {n k : Nat} (F F' : Nat → Value) (v : Value) (hv : F' k = v) (ho : ∀ j, j ≠ k → F' j = F j) : ((List.range n).map F).set k v = (List.range n).map F' := by
  apply List.ext_getElem?
  intro i
  rw [List.getElem?_set]
  by_cases hi : k = i
  · subst hi
    rw [if_pos rfl]
    by_cases hk : k < n
    · simp [hk, hv]
    · simp [hk]
  · rw [if_neg hi]
    by_cases hk : i < n
    · simp [hk, ho i (fun q => hi q.symm)]
    · simp [hk]
theorem g_put_I {cy : Nat → ClassId} {zb : Nat × Nat} {h : HP} {c ci len k : Nat} {x : Int32} (hci : ci < 9) (hk0 : g_kind (g_ty ci k) = 0) : g_cell cy zb (hI h c k x) c (ci, len) = .inr (ci, ((List.range len).map (fun j => g_fv zb h c j (g_ty ci j))).set k (.int x)) := by
  rw [g_map_set (F' := fun j => g_fv zb (hI h c k x) c j (g_ty ci j))]
  · simp [g_cell, hci]
  · simp [g_fv, hk0, hI]
  · intro j hj
    simp [g_fv, hI, hj]
theorem g_put_L {cy : Nat → ClassId} {zb : Nat × Nat} {h : HP} {c ci len k : Nat} {x : Int64} (hci : ci < 9) (hk0 : g_kind (g_ty ci k) = 1) : g_cell cy zb (hL h c k x) c (ci, len) = .inr (ci, ((List.range len).map (fun j => g_fv zb h c j (g_ty ci j))).set k (.long x)) := by
  rw [g_map_set (F' := fun j => g_fv zb (hL h c k x) c j (g_ty ci j))]
  · simp [g_cell, hci]
  · simp [g_fv, hk0, hL]
  · intro j hj
    simp [g_fv, hL, hj]
theorem g_put_R {cy : Nat → ClassId} {zb : Nat × Nat} {h : HP} {c ci len k : Nat} {x : Value} (hci : ci < 9) (hk0 : g_kind (g_ty ci k) = 2) : g_cell cy zb (hR h c k x) c (ci, len) = .inr (ci, ((List.range len).map (fun j => g_fv zb h c j (g_ty ci j))).set k (gv zb x)) := by
  rw [g_map_set (F' := fun j => g_fv zb (hR h c k x) c j (g_ty ci j))]
  · simp [g_cell, hci]
  · simp [g_fv, hk0, hR]
  · intro j hj
    simp [g_fv, hR, hj]
def g_tys (cy : Nat → ClassId) : List (ClassId × FieldType) := [(cy 9, .byte), (cy 10, .int), (cy 11, .long), (cy 12, .boolean)]
/-! locals -/
def g_lv (lv : List (Nat × Value)) (i : Nat) : Option Value := (lv.find? (fun q => q.1 == i)).map (·.2)
def g_ms (zb : Nat × Nat) (lv : List (Nat × Value)) : List (Nat × Value) := lv.map (fun q => (q.1, gv zb q.2))
theorem g_lv_at {zb : Nat × Nat} {lv : List (Nat × Value)} {ls : Array Slot} {nL i : Nat} {v : Value} (hl : lv_has ls nL (g_ms zb lv)) (hv : g_lv lv i = some v) : ls[i]? = some (.val (gv zb v)) := by
  unfold g_lv at hv
  cases hf : lv.find? (fun q => q.1 == i) with
  | none => rw [hf] at hv; cases hv
  | some q =>
    rw [hf] at hv
    cases hv
    have h1 : q.1 = i := by simpa using List.find?_some hf
    have h2 := hl.2.2 (q.1, gv zb q.2) (List.mem_map.mpr ⟨q, List.mem_of_find?_eq_some hf, rfl⟩)
    rw [← h1]
    exact h2
def g_s1 (lv : List (Nat × Value)) (i : Nat) (v : Value) : List (Nat × Value) := (i, v) :: lv.filter (fun q => !(q.1 == i) && !(q.1 + 1 == i && q.2.category == 2))
def g_s2 (lv : List (Nat × Value)) (i : Nat) (v : Value) : List (Nat × Value) := (i, v) :: lv.filter (fun q => !(q.1 == i) && (!(q.1 == i + 1) && !(q.1 + 1 == i && q.2.category == 2)))
theorem g_s1_ms (zb : Nat × Nat) (lv : List (Nat × Value)) (i : Nat) (v : Value) : (i, gv zb v) :: (g_ms zb lv).filter (fun q => !(q.1 == i) && !(q.1 + 1 == i && q.2.category == 2)) = g_ms zb (g_s1 lv i v) := by
  simp only [g_ms, g_s1, List.filter_map, List.map_cons]
  congr 2
  apply List.filter_congr
  intro q _
  simp [gv_cat]
theorem g_s2_ms (zb : Nat × Nat) (lv : List (Nat × Value)) (i : Nat) (v : Value) : (i, gv zb v) :: (g_ms zb lv).filter (fun q => !(q.1 == i) && (!(q.1 == i + 1) && !(q.1 + 1 == i && q.2.category == 2))) = g_ms zb (g_s2 lv i v) := by
  simp only [g_ms, g_s2, List.filter_map, List.map_cons]
  congr 2
  apply List.filter_congr
  intro q _
  simp [gv_cat]
theorem g_args_ms (zb : Nat × Nat) (vs : List Value) : ∀ i, lv_args i (vs.map (gv zb)) = g_ms zb (lv_args i vs) := by
  induction vs with
  | nil => intro i; rfl
  | cons v vs ih =>
    intro i
    show (i, gv zb v) :: lv_args (if (gv zb v).category = 2 then i + 2 else i + 1) (vs.map (gv zb)) = (i, gv zb v) :: g_ms zb (lv_args (if v.category = 2 then i + 2 else i + 1) vs)
    rw [gv_cat, ih]
theorem g_sl_len (zb : Nat × Nat) (vs : List Value) : (lg_sl (vs.map (gv zb))).length = (lg_sl vs).length := by
  induction vs with
  | nil => rfl
  | cons v vs ih =>
    simp only [lg_sl, List.map_cons, List.flatMap_cons, List.length_append, gv_cat] at ih ⊢
    rw [ih]
    split <;> simp
theorem g_lv_sub {zb : Nat × Nat} {lv lv' : List (Nat × Value)} {ls : Array Slot} {nL : Nat} (hl : lv_has ls nL (g_ms zb lv)) (hs : lv'.map (fun q => g_lv lv q.1) = lv'.map (fun q => some q.2)) : lv_has ls nL (g_ms zb lv') := by
  refine ⟨hl.1, hl.2.1, fun q hq => ?_⟩
  obtain ⟨x, hx, rfl⟩ := List.mem_map.mp hq
  have h1 : ∀ y ∈ lv', g_lv lv y.1 = some y.2 := fun y hy => List.map_inj_left.mp hs y hy
  exact g_lv_at hl (h1 x hx)
end
section
/-! THE CALCULUS: one instruction a row, over the pure heap. 'Go .. pc lv st h': the machine, in the method at pc with locals lv, stack st and the pool h, comes to the method's end with Qf. -/
def g_ret (cc : ByteArray) (rt : Option FieldType) (r : Option Value) (pc : Nat) : Prop := match r, rt with
  | none, none => decode cc pc = .ok (.return_, 1)
  | some (.int v), some ty => decode cc pc = .ok (.ireturn, 1) ∧ narrow ty (.int v) = .int v
  | some (.long _), some ty => decode cc pc = .ok (.lreturn, 1) ∧ ty = .long
  | _, _ => False
/-- what holds of the method's frame -/
def Cx (own : String) (cc : ByteArray) (nL : Nat) (nm : String) (n0 : Nat) (Xf : Nat → State → Prop) (D : va_G) (cy : Nat → ClassId) (zb : Nat × Nat) (p : Program) (s : State) (m : MethodId) (args : Array Value) (meth : Method) (c : Code) : Prop :=
  p.tables.exec = Jvm.exec ∧ c.code = cc ∧ c.maxLocals = nL ∧ s.vm.findClass own = some m.cls ∧ (∀ w ∈ gw, w.before args s = true) ∧ gw_N s ∧ va_K D vwCl (g_tys cy) s ∧ s.heap.size = zb.1 + n0 ∧ meth.name = nm ∧ Xf zb.2 s
/-- its end -/
def Ge (l : Launch) (cc : ByteArray) (R : Room) (rt : Option FieldType) (n0 mc ms : Nat) (Qf : Option Value → HP → Prop) (D : va_G) (cy : Nat → ClassId) (zb : Nat × Nat) (p : Program) (e : Env) (s : State) (m : MethodId) (args : Array Value) (below : List Frame) (meth : Method) (c : Code) (Q : State → Prop) : Prop :=
  ∀ (r : Option Value) (h : HP) (H : Heap) (locs : List Loc) (pc : Nat) (ls : Array Slot), Qf r h → g_ret cc rt r pc → h.1.length = n0 + mc → va_P D vwCl (g_ws cy zb h) H → va_S (fun q => zb.1 ≤ q) s.heap H locs → W p l e R s m args below meth c H locs mc ms Q (F0 m pc ls ((r.map (gv zb)).toList))
def Go (l : Launch) (own : String) (cc : ByteArray) (nL : Nat) (R : Room) (nm : String) (rt : Option FieldType) (n0 mc ms : Nat) (Xf : Nat → State → Prop) (Qf : Option Value → HP → Prop) (sl pc : Nat) (lv : List (Nat × Value)) (st : List Value) (h : HP) : Prop :=
  ∀ (p : Program) (e : Env) (s : State) (m : MethodId) (args : Array Value) (below : List Frame) (meth : Method) (c : Code) (D : va_G) (cy : Nat → ClassId) (zb : Nat × Nat) (Q : State → Prop) (H : Heap) (locs : List Loc) (ls : Array Slot),
    Cx own cc nL nm n0 Xf D cy zb p s m args meth c → Ge l cc R rt n0 mc ms Qf D cy zb p e s m args below meth c Q → va_P D vwCl (g_ws cy zb h) H → va_S (fun q => zb.1 ≤ q) s.heap H locs → n0 ≤ h.1.length → lv_has ls nL (g_ms zb lv) →
    W p l e R s m args below meth c H locs (h.1.length - n0) sl Q (F0 m pc ls (st.map (gv zb)))
theorem g_sz {p : Program} {l : Launch} {e : Env} {R : Room} {s : State} {m : MethodId} {args : Array Value} {below : List Frame} {meth : Method} {c : Code} {H : Heap} {locs : List Loc} {cells slots : Nat} {Q : State → Prop} {g : JFrame} (k : H.size ≤ s.heap.size + cells → W p l e R s m args below meth c H locs cells slots Q g) : W p l e R s m args below meth c H locs cells slots Q g :=
  fun T hT X => k (by rw [← hT]; exact X.heapSize) T hT X
theorem g_lo {D : va_G} {cy : Nat → ClassId} {zb : Nat × Nat} {h : HP} {H : Heap} {n0 : Nat} {s : State} {locs : List Loc} (hP : va_P D vwCl (g_ws cy zb h) H) (hS : va_S (fun q => zb.1 ≤ q) s.heap H locs) (h0 : s.heap.size = zb.1 + n0) (hn : n0 ≤ h.1.length) : zb.1 + h.1.length ≤ H.size := by
  by_cases hz : h.1.length = 0
  · have := hS.1
    omega
  · have hlt : h.1.length - 1 < h.1.length := by omega
    have h1 := (hP (h.1.length - 1) _ (g_ws_get (List.getElem?_eq_getElem hlt))).lt
    have h2 : zb.1 + (h.1.length - 1) < H.size := h1
    omega
/-- the classes -/
theorem g_in (ci : Nat) (C : String) (T : u_T) (N : Nat) (h : vwCl[ci]? = some (C, T, N)) : (∀ w ∈ u_ws C T N, w ∈ gw) ∧ (∀ k, k < N → parseFieldDescriptor (T k).2.2.1 = some (g_ty ci k)) ∧ (∀ a, a < N → ∀ b, b < N → a ≠ b → (T a).2.1 ≠ (T b).2.1) := by
  match ci, h with
  | 0, h => cases h; exact ⟨inGX0, tyX0_ok, nmX0⟩
  | 1, h => cases h; exact ⟨inGX1, tyX1_ok, nmX1⟩
  | 2, h => cases h; exact ⟨inGX2, tyX2_ok, nmX2⟩
  | 3, h => cases h; exact ⟨inGX3, tyX3_ok, nmX3⟩
  | 4, h => cases h; exact ⟨inGX4, tyX4_ok, nmX4⟩
  | 5, h => cases h; exact ⟨inGX5, tyX5_ok, nmX5⟩
  | 6, h => cases h; exact ⟨inGX6, tyX6_ok, nmX6⟩
  | 7, h => cases h; exact ⟨inGX7, tyX7_ok, nmX7⟩
  | 8, h => cases h; exact ⟨inGX8, tyX8_ok, nmX8⟩
  | k + 9, h => simp [vwCl] at h
def FL (own : String) (idx ci k : Nat) : Prop := ∃ (C : String) (T : u_T) (N : Nat), vwCl[ci]? = some (C, T, N) ∧ k < N ∧ (T k).1 = C ∧ (Cond.fieldLink own idx C (T k).2.1 (T k).2.2.1 ∈ gw ∨ ∃ host, Cond.fieldLinkNest own idx C (T k).2.1 (T k).2.2.1 host ∈ gw_n)
def FP (own nm : String) (idx ci k : Nat) : Prop := ∃ (C : String) (T : u_T) (N : Nat), vwCl[ci]? = some (C, T, N) ∧ k < N ∧ (T k).1 = C ∧ ((Cond.fieldLink own idx C (T k).2.1 (T k).2.2.1 ∈ gw ∧ (T k).2.2.2 = false) ∨ (Cond.fieldLink own idx C (T k).2.1 (T k).2.2.1 ∈ gw ∧ (T k).2.2.2 = true ∧ (T k).1 = own ∧ nm = "<init>") ∨ ∃ host, Cond.fieldLinkNest own idx C (T k).2.1 (T k).2.2.1 host ∈ gw_n ∧ (T k).2.2.2 = false)
section GO
variable {l : Launch} {own : String} {cc : ByteArray} {nL : Nat} {R : Room} {nm : String} {rt : Option FieldType} {n0 mc ms : Nat} {Xf : Nat → State → Prop} {Qf : Option Value → HP → Prop} {sl pc : Nat} {lv : List (Nat × Value)} {st : List Value} {h : HP}
theorem go_iadd {x y : Int32} (hd : decode cc pc = .ok (.iadd, 1)) (k : Go l own cc nL R nm rt n0 mc ms Xf Qf  sl (pc + 1) lv (.int (x + y) :: st) h) : Go l own cc nL R nm rt n0 mc ms Xf Qf  sl pc lv (.int y :: .int x :: st) h := by
  intro p e s m args below meth c D cy zb Q H locs ls C E hP hS hn hl
  exact lv_iadd C.1 C.2.1 hd  (k p e s m args below meth c D cy zb Q H locs ls C E hP hS hn hl)
theorem go_isub {x y : Int32} (hd : decode cc pc = .ok (.isub, 1)) (k : Go l own cc nL R nm rt n0 mc ms Xf Qf  sl (pc + 1) lv (.int (x - y) :: st) h) : Go l own cc nL R nm rt n0 mc ms Xf Qf  sl pc lv (.int y :: .int x :: st) h := by
  intro p e s m args below meth c D cy zb Q H locs ls C E hP hS hn hl
  exact lv_isub C.1 C.2.1 hd  (k p e s m args below meth c D cy zb Q H locs ls C E hP hS hn hl)
theorem go_imul {x y : Int32} (hd : decode cc pc = .ok (.imul, 1)) (k : Go l own cc nL R nm rt n0 mc ms Xf Qf  sl (pc + 1) lv (.int (x * y) :: st) h) : Go l own cc nL R nm rt n0 mc ms Xf Qf  sl pc lv (.int y :: .int x :: st) h := by
  intro p e s m args below meth c D cy zb Q H locs ls C E hP hS hn hl
  exact lv_imul C.1 C.2.1 hd  (k p e s m args below meth c D cy zb Q H locs ls C E hP hS hn hl)
theorem go_iand {x y : Int32} (hd : decode cc pc = .ok (.iand, 1)) (k : Go l own cc nL R nm rt n0 mc ms Xf Qf  sl (pc + 1) lv (.int (x &&& y) :: st) h) : Go l own cc nL R nm rt n0 mc ms Xf Qf  sl pc lv (.int y :: .int x :: st) h := by
  intro p e s m args below meth c D cy zb Q H locs ls C E hP hS hn hl
  exact lv_iand C.1 C.2.1 hd  (k p e s m args below meth c D cy zb Q H locs ls C E hP hS hn hl)
theorem go_ior {x y : Int32} (hd : decode cc pc = .ok (.ior, 1)) (k : Go l own cc nL R nm rt n0 mc ms Xf Qf  sl (pc + 1) lv (.int (x ||| y) :: st) h) : Go l own cc nL R nm rt n0 mc ms Xf Qf  sl pc lv (.int y :: .int x :: st) h := by
  intro p e s m args below meth c D cy zb Q H locs ls C E hP hS hn hl
  exact lv_ior C.1 C.2.1 hd  (k p e s m args below meth c D cy zb Q H locs ls C E hP hS hn hl)
theorem go_ixor {x y : Int32} (hd : decode cc pc = .ok (.ixor, 1)) (k : Go l own cc nL R nm rt n0 mc ms Xf Qf  sl (pc + 1) lv (.int (x ^^^ y) :: st) h) : Go l own cc nL R nm rt n0 mc ms Xf Qf  sl pc lv (.int y :: .int x :: st) h := by
  intro p e s m args below meth c D cy zb Q H locs ls C E hP hS hn hl
  exact lv_ixor C.1 C.2.1 hd  (k p e s m args below meth c D cy zb Q H locs ls C E hP hS hn hl)
theorem go_ishl {x y : Int32} (hd : decode cc pc = .ok (.ishl, 1)) (k : Go l own cc nL R nm rt n0 mc ms Xf Qf  sl (pc + 1) lv (.int (x <<< (y &&& 31)) :: st) h) : Go l own cc nL R nm rt n0 mc ms Xf Qf  sl pc lv (.int y :: .int x :: st) h := by
  intro p e s m args below meth c D cy zb Q H locs ls C E hP hS hn hl
  exact lv_ishl C.1 C.2.1 hd  (k p e s m args below meth c D cy zb Q H locs ls C E hP hS hn hl)
theorem go_ishr {x y : Int32} (hd : decode cc pc = .ok (.ishr, 1)) (k : Go l own cc nL R nm rt n0 mc ms Xf Qf  sl (pc + 1) lv (.int (x >>> (y &&& 31)) :: st) h) : Go l own cc nL R nm rt n0 mc ms Xf Qf  sl pc lv (.int y :: .int x :: st) h := by
  intro p e s m args below meth c D cy zb Q H locs ls C E hP hS hn hl
  exact lv_ishr C.1 C.2.1 hd  (k p e s m args below meth c D cy zb Q H locs ls C E hP hS hn hl)
theorem go_idiv {x y : Int32} (hne : ¬ y = 0) (hd : decode cc pc = .ok (.idiv, 1)) (k : Go l own cc nL R nm rt n0 mc ms Xf Qf  sl (pc + 1) lv (.int (x / y) :: st) h) : Go l own cc nL R nm rt n0 mc ms Xf Qf  sl pc lv (.int y :: .int x :: st) h := by
  intro p e s m args below meth c D cy zb Q H locs ls C E hP hS hn hl
  exact lv_idiv C.1 C.2.1 hd hne (k p e s m args below meth c D cy zb Q H locs ls C E hP hS hn hl)
theorem go_irem {x y : Int32} (hne : ¬ y = 0) (hd : decode cc pc = .ok (.irem, 1)) (k : Go l own cc nL R nm rt n0 mc ms Xf Qf  sl (pc + 1) lv (.int (x - x / y * y) :: st) h) : Go l own cc nL R nm rt n0 mc ms Xf Qf  sl pc lv (.int y :: .int x :: st) h := by
  intro p e s m args below meth c D cy zb Q H locs ls C E hP hS hn hl
  exact lv_irem C.1 C.2.1 hd hne (k p e s m args below meth c D cy zb Q H locs ls C E hP hS hn hl)
theorem go_ladd {x y : Int64} (hd : decode cc pc = .ok (.ladd, 1)) (k : Go l own cc nL R nm rt n0 mc ms Xf Qf  sl (pc + 1) lv (.long (x + y) :: st) h) : Go l own cc nL R nm rt n0 mc ms Xf Qf  sl pc lv (.long y :: .long x :: st) h := by
  intro p e s m args below meth c D cy zb Q H locs ls C E hP hS hn hl
  exact lv_ladd C.1 C.2.1 hd  (k p e s m args below meth c D cy zb Q H locs ls C E hP hS hn hl)
theorem go_lsub {x y : Int64} (hd : decode cc pc = .ok (.lsub, 1)) (k : Go l own cc nL R nm rt n0 mc ms Xf Qf  sl (pc + 1) lv (.long (x - y) :: st) h) : Go l own cc nL R nm rt n0 mc ms Xf Qf  sl pc lv (.long y :: .long x :: st) h := by
  intro p e s m args below meth c D cy zb Q H locs ls C E hP hS hn hl
  exact lv_lsub C.1 C.2.1 hd  (k p e s m args below meth c D cy zb Q H locs ls C E hP hS hn hl)
theorem go_land {x y : Int64} (hd : decode cc pc = .ok (.land, 1)) (k : Go l own cc nL R nm rt n0 mc ms Xf Qf  sl (pc + 1) lv (.long (x &&& y) :: st) h) : Go l own cc nL R nm rt n0 mc ms Xf Qf  sl pc lv (.long y :: .long x :: st) h := by
  intro p e s m args below meth c D cy zb Q H locs ls C E hP hS hn hl
  exact lv_land C.1 C.2.1 hd  (k p e s m args below meth c D cy zb Q H locs ls C E hP hS hn hl)
theorem go_lor {x y : Int64} (hd : decode cc pc = .ok (.lor, 1)) (k : Go l own cc nL R nm rt n0 mc ms Xf Qf  sl (pc + 1) lv (.long (x ||| y) :: st) h) : Go l own cc nL R nm rt n0 mc ms Xf Qf  sl pc lv (.long y :: .long x :: st) h := by
  intro p e s m args below meth c D cy zb Q H locs ls C E hP hS hn hl
  exact lv_lor C.1 C.2.1 hd  (k p e s m args below meth c D cy zb Q H locs ls C E hP hS hn hl)
theorem go_lxor {x y : Int64} (hd : decode cc pc = .ok (.lxor, 1)) (k : Go l own cc nL R nm rt n0 mc ms Xf Qf  sl (pc + 1) lv (.long (x ^^^ y) :: st) h) : Go l own cc nL R nm rt n0 mc ms Xf Qf  sl pc lv (.long y :: .long x :: st) h := by
  intro p e s m args below meth c D cy zb Q H locs ls C E hP hS hn hl
  exact lv_lxor C.1 C.2.1 hd  (k p e s m args below meth c D cy zb Q H locs ls C E hP hS hn hl)
theorem go_lshl {x : Int64} {y : Int32} (hd : decode cc pc = .ok (.lshl, 1)) (k : Go l own cc nL R nm rt n0 mc ms Xf Qf  sl (pc + 1) lv (.long (x <<< (y.toInt64 &&& 63)) :: st) h) : Go l own cc nL R nm rt n0 mc ms Xf Qf  sl pc lv (.int y :: .long x :: st) h := by
  intro p e s m args below meth c D cy zb Q H locs ls C E hP hS hn hl
  exact lv_lshl C.1 C.2.1 hd rfl (k p e s m args below meth c D cy zb Q H locs ls C E hP hS hn hl)
theorem go_lshr {x : Int64} {y : Int32} (hd : decode cc pc = .ok (.lshr, 1)) (k : Go l own cc nL R nm rt n0 mc ms Xf Qf  sl (pc + 1) lv (.long (x >>> (y.toInt64 &&& 63)) :: st) h) : Go l own cc nL R nm rt n0 mc ms Xf Qf  sl pc lv (.int y :: .long x :: st) h := by
  intro p e s m args below meth c D cy zb Q H locs ls C E hP hS hn hl
  exact lv_lshr C.1 C.2.1 hd rfl (k p e s m args below meth c D cy zb Q H locs ls C E hP hS hn hl)
theorem go_lushr {x : Int64} {y : Int32} (hd : decode cc pc = .ok (.lushr, 1)) (k : Go l own cc nL R nm rt n0 mc ms Xf Qf  sl (pc + 1) lv (.long ((x.toUInt64 >>> (y.toInt64.toUInt64 &&& Int64.toUInt64 63)).toInt64) :: st) h) : Go l own cc nL R nm rt n0 mc ms Xf Qf  sl pc lv (.int y :: .long x :: st) h := by
  intro p e s m args below meth c D cy zb Q H locs ls C E hP hS hn hl
  exact lv_lushr C.1 C.2.1 hd rfl (k p e s m args below meth c D cy zb Q H locs ls C E hP hS hn hl)
theorem go_iushr {x y : Int32} (hd : decode cc pc = .ok (.iushr, 1)) (k : Go l own cc nL R nm rt n0 mc ms Xf Qf  sl (pc + 1) lv (.int ((x.toUInt32 >>> (y.toUInt32 &&& Int32.toUInt32 31)).toInt32) :: st) h) : Go l own cc nL R nm rt n0 mc ms Xf Qf  sl pc lv (.int y :: .int x :: st) h := by
  intro p e s m args below meth c D cy zb Q H locs ls C E hP hS hn hl
  exact lv_iushr C.1 C.2.1 hd rfl (k p e s m args below meth c D cy zb Q H locs ls C E hP hS hn hl)
theorem go_i2l {x : Int32} (hd : decode cc pc = .ok (.i2l, 1)) (k : Go l own cc nL R nm rt n0 mc ms Xf Qf  sl (pc + 1) lv (.long x.toInt64 :: st) h) : Go l own cc nL R nm rt n0 mc ms Xf Qf  sl pc lv (.int x :: st) h := by
  intro p e s m args below meth c D cy zb Q H locs ls C E hP hS hn hl
  exact lv_i2l C.1 C.2.1 hd rfl (k p e s m args below meth c D cy zb Q H locs ls C E hP hS hn hl)
theorem go_l2i {x : Int64} (hd : decode cc pc = .ok (.l2i, 1)) (k : Go l own cc nL R nm rt n0 mc ms Xf Qf  sl (pc + 1) lv (.int x.toInt32 :: st) h) : Go l own cc nL R nm rt n0 mc ms Xf Qf  sl pc lv (.long x :: st) h := by
  intro p e s m args below meth c D cy zb Q H locs ls C E hP hS hn hl
  exact lv_l2i C.1 C.2.1 hd rfl (k p e s m args below meth c D cy zb Q H locs ls C E hP hS hn hl)
theorem go_i2b {x : Int32} (hd : decode cc pc = .ok (.i2b, 1)) (k : Go l own cc nL R nm rt n0 mc ms Xf Qf  sl (pc + 1) lv (.int x.toInt8.toInt32 :: st) h) : Go l own cc nL R nm rt n0 mc ms Xf Qf  sl pc lv (.int x :: st) h := by
  intro p e s m args below meth c D cy zb Q H locs ls C E hP hS hn hl
  exact lv_i2b C.1 C.2.1 hd rfl (k p e s m args below meth c D cy zb Q H locs ls C E hP hS hn hl)
theorem go_lcmp {x y : Int64} (hd : decode cc pc = .ok (.lcmp, 1)) (k : Go l own cc nL R nm rt n0 mc ms Xf Qf  sl (pc + 1) lv (.int (lg_cmp x y) :: st) h) : Go l own cc nL R nm rt n0 mc ms Xf Qf  sl pc lv (.long y :: .long x :: st) h := by
  intro p e s m args below meth c D cy zb Q H locs ls C E hP hS hn hl
  exact W.lcmp C.1 C.2.1 hd  (k p e s m args below meth c D cy zb Q H locs ls C E hP hS hn hl)
theorem go_iconst {n : Int} {v : Int32} (hv : Int32.ofInt n = v) (hd : decode cc pc = .ok (.iconst n, 1)) (k : Go l own cc nL R nm rt n0 mc ms Xf Qf  sl (pc + 1) lv (.int v :: st) h) : Go l own cc nL R nm rt n0 mc ms Xf Qf  sl pc lv st h := by
  intro p e s m args below meth c D cy zb Q H locs ls C E hP hS hn hl
  exact lv_iconst C.1 C.2.1 hd hv (k p e s m args below meth c D cy zb Q H locs ls C E hP hS hn hl)
theorem go_bipush {n : Int} {v : Int32} (hv : (Int8.ofInt n).toInt32 = v) (hd : decode cc pc = .ok (.bipush n, 2)) (k : Go l own cc nL R nm rt n0 mc ms Xf Qf  sl (pc + 2) lv (.int v :: st) h) : Go l own cc nL R nm rt n0 mc ms Xf Qf  sl pc lv st h := by
  intro p e s m args below meth c D cy zb Q H locs ls C E hP hS hn hl
  exact lv_bipush C.1 C.2.1 hd hv (k p e s m args below meth c D cy zb Q H locs ls C E hP hS hn hl)
theorem go_sipush {n : Int} {v : Int32} (hv : (Int16.ofInt n).toInt32 = v) (hd : decode cc pc = .ok (.sipush n, 3)) (k : Go l own cc nL R nm rt n0 mc ms Xf Qf  sl (pc + 3) lv (.int v :: st) h) : Go l own cc nL R nm rt n0 mc ms Xf Qf  sl pc lv st h := by
  intro p e s m args below meth c D cy zb Q H locs ls C E hP hS hn hl
  exact lv_sipush C.1 C.2.1 hd hv (k p e s m args below meth c D cy zb Q H locs ls C E hP hS hn hl)
theorem go_lconst {n : Fin 2} {v : Int64} (hv : Int64.ofNat (n : Nat) = v) (hd : decode cc pc = .ok (.lconst n, 1)) (k : Go l own cc nL R nm rt n0 mc ms Xf Qf  sl (pc + 1) lv (.long v :: st) h) : Go l own cc nL R nm rt n0 mc ms Xf Qf  sl pc lv st h := by
  intro p e s m args below meth c D cy zb Q H locs ls C E hP hS hn hl
  exact lv_lconst C.1 C.2.1 hd hv (k p e s m args below meth c D cy zb Q H locs ls C E hP hS hn hl)
theorem go_ldc {idx : Nat} {v : Int32} (hc : Cond.constant own idx v ∈ gw) (hd : decode cc pc = .ok (.ldc idx, 2)) (k : Go l own cc nL R nm rt n0 mc ms Xf Qf  sl (pc + 2) lv (.int v :: st) h) : Go l own cc nL R nm rt n0 mc ms Xf Qf  sl pc lv st h := by
  intro p e s m args below meth c D cy zb Q H locs ls C E hP hS hn hl
  exact lv_ldc C.1 C.2.1 C.2.2.2.1 (C.2.2.2.2.1 _ hc) hd (k p e s m args below meth c D cy zb Q H locs ls C E hP hS hn hl)
theorem go_ldc2 {idx : Nat} {v : Int64} (hc : Cond.constantLong own idx v ∈ gw) (hd : decode cc pc = .ok (.ldc2_w idx, 3)) (k : Go l own cc nL R nm rt n0 mc ms Xf Qf  sl (pc + 3) lv (.long v :: st) h) : Go l own cc nL R nm rt n0 mc ms Xf Qf  sl pc lv st h := by
  intro p e s m args below meth c D cy zb Q H locs ls C E hP hS hn hl
  exact lv_ldc2 C.1 C.2.1 C.2.2.2.1 (C.2.2.2.2.1 _ hc) hd (k p e s m args below meth c D cy zb Q H locs ls C E hP hS hn hl)
theorem go_iload_n {q : Fin 4} {x : Int32} (hv : g_lv lv (q : Nat) = some (.int x)) (hd : decode cc pc = .ok (.iload_n q, 1)) (k : Go l own cc nL R nm rt n0 mc ms Xf Qf  sl (pc + 1) lv (.int x :: st) h) : Go l own cc nL R nm rt n0 mc ms Xf Qf  sl pc lv st h := by
  intro p e s m args below meth c D cy zb Q H locs ls C E hP hS hn hl
  exact lv_iload_n C.1 C.2.1 hd rfl (g_lv_at hl hv) (k p e s m args below meth c D cy zb Q H locs ls C E hP hS hn hl)
theorem go_iload {q : Nat} {x : Int32} (hv : g_lv lv q = some (.int x)) (hd : decode cc pc = .ok (.iload q, 2)) (k : Go l own cc nL R nm rt n0 mc ms Xf Qf  sl (pc + 2) lv (.int x :: st) h) : Go l own cc nL R nm rt n0 mc ms Xf Qf  sl pc lv st h := by
  intro p e s m args below meth c D cy zb Q H locs ls C E hP hS hn hl
  exact lv_iload C.1 C.2.1 hd (g_lv_at hl hv) (k p e s m args below meth c D cy zb Q H locs ls C E hP hS hn hl)
theorem go_lload_n {q : Fin 4} {x : Int64} (hv : g_lv lv (q : Nat) = some (.long x)) (hd : decode cc pc = .ok (.lload_n q, 1)) (k : Go l own cc nL R nm rt n0 mc ms Xf Qf  sl (pc + 1) lv (.long x :: st) h) : Go l own cc nL R nm rt n0 mc ms Xf Qf  sl pc lv st h := by
  intro p e s m args below meth c D cy zb Q H locs ls C E hP hS hn hl
  exact lv_lload_n C.1 C.2.1 hd rfl (g_lv_at hl hv) (k p e s m args below meth c D cy zb Q H locs ls C E hP hS hn hl)
theorem go_lload {q : Nat} {x : Int64} (hv : g_lv lv q = some (.long x)) (hd : decode cc pc = .ok (.lload q, 2)) (k : Go l own cc nL R nm rt n0 mc ms Xf Qf  sl (pc + 2) lv (.long x :: st) h) : Go l own cc nL R nm rt n0 mc ms Xf Qf  sl pc lv st h := by
  intro p e s m args below meth c D cy zb Q H locs ls C E hP hS hn hl
  exact lv_lload C.1 C.2.1 hd (g_lv_at hl hv) (k p e s m args below meth c D cy zb Q H locs ls C E hP hS hn hl)
theorem go_aload_n {q : Fin 4} {x : Nat} (hv : g_lv lv (q : Nat) = some (.ref x)) (hd : decode cc pc = .ok (.aload_n q, 1)) (k : Go l own cc nL R nm rt n0 mc ms Xf Qf  sl (pc + 1) lv (.ref x :: st) h) : Go l own cc nL R nm rt n0 mc ms Xf Qf  sl pc lv st h := by
  intro p e s m args below meth c D cy zb Q H locs ls C E hP hS hn hl
  exact lv_aload_n C.1 C.2.1 hd rfl (g_lv_at hl hv) (k p e s m args below meth c D cy zb Q H locs ls C E hP hS hn hl)
theorem go_aload {q : Nat} {x : Nat} (hv : g_lv lv q = some (.ref x)) (hd : decode cc pc = .ok (.aload q, 2)) (k : Go l own cc nL R nm rt n0 mc ms Xf Qf  sl (pc + 2) lv (.ref x :: st) h) : Go l own cc nL R nm rt n0 mc ms Xf Qf  sl pc lv st h := by
  intro p e s m args below meth c D cy zb Q H locs ls C E hP hS hn hl
  exact lv_aload C.1 C.2.1 hd (g_lv_at hl hv) (k p e s m args below meth c D cy zb Q H locs ls C E hP hS hn hl)
theorem go_aload_nS {q : Fin 4} {x : Nat} (hv : g_lv lv (q : Nat) = some (.retAddr x)) (hd : decode cc pc = .ok (.aload_n q, 1)) (k : Go l own cc nL R nm rt n0 mc ms Xf Qf  sl (pc + 1) lv (.retAddr x :: st) h) : Go l own cc nL R nm rt n0 mc ms Xf Qf  sl pc lv st h := by
  intro p e s m args below meth c D cy zb Q H locs ls C E hP hS hn hl
  exact lv_aload_n C.1 C.2.1 hd rfl (g_lv_at hl hv) (k p e s m args below meth c D cy zb Q H locs ls C E hP hS hn hl)
theorem go_istore_n {q : Fin 4} {x : Int32} (hq : (q : Nat) < nL) (hd : decode cc pc = .ok (.istore_n q, 1)) (k : Go l own cc nL R nm rt n0 mc ms Xf Qf  sl (pc + 1) (g_s1 lv (q : Nat) (.int x)) st h) : Go l own cc nL R nm rt n0 mc ms Xf Qf  sl pc lv (.int x :: st) h := by
  intro p e s m args below meth c D cy zb Q H locs ls C E hP hS hn hl
  exact lv_istore_n C.1 C.2.1 hd rfl hl hq (g_s1_ms zb lv (q : Nat) (.int x)) (fun ls2 hl2 => (k p e s m args below meth c D cy zb Q H locs ls2 C E hP hS hn hl2))
theorem go_istore {q : Nat} {x : Int32} (hq : q < nL) (hd : decode cc pc = .ok (.istore q, 2)) (k : Go l own cc nL R nm rt n0 mc ms Xf Qf  sl (pc + 2) (g_s1 lv q (.int x)) st h) : Go l own cc nL R nm rt n0 mc ms Xf Qf  sl pc lv (.int x :: st) h := by
  intro p e s m args below meth c D cy zb Q H locs ls C E hP hS hn hl
  exact lv_istore C.1 C.2.1 hd hl hq (g_s1_ms zb lv q (.int x)) (fun ls2 hl2 => (k p e s m args below meth c D cy zb Q H locs ls2 C E hP hS hn hl2))
theorem go_astore_n {q : Fin 4} {x : Nat} (hq : (q : Nat) < nL) (hd : decode cc pc = .ok (.astore_n q, 1)) (k : Go l own cc nL R nm rt n0 mc ms Xf Qf  sl (pc + 1) (g_s1 lv (q : Nat) (.ref x)) st h) : Go l own cc nL R nm rt n0 mc ms Xf Qf  sl pc lv (.ref x :: st) h := by
  intro p e s m args below meth c D cy zb Q H locs ls C E hP hS hn hl
  exact lv_astore_n C.1 C.2.1 hd rfl hl hq (g_s1_ms zb lv (q : Nat) (.ref x)) (fun ls2 hl2 => (k p e s m args below meth c D cy zb Q H locs ls2 C E hP hS hn hl2))
theorem go_astore {q : Nat} {x : Nat} (hq : q < nL) (hd : decode cc pc = .ok (.astore q, 2)) (k : Go l own cc nL R nm rt n0 mc ms Xf Qf  sl (pc + 2) (g_s1 lv q (.ref x)) st h) : Go l own cc nL R nm rt n0 mc ms Xf Qf  sl pc lv (.ref x :: st) h := by
  intro p e s m args below meth c D cy zb Q H locs ls C E hP hS hn hl
  exact lv_astore C.1 C.2.1 hd hl hq (g_s1_ms zb lv q (.ref x)) (fun ls2 hl2 => (k p e s m args below meth c D cy zb Q H locs ls2 C E hP hS hn hl2))
theorem go_lstore_n {q : Fin 4} {x : Int64} (hq : (q : Nat) + 1 < nL) (hd : decode cc pc = .ok (.lstore_n q, 1)) (k : Go l own cc nL R nm rt n0 mc ms Xf Qf  sl (pc + 1) (g_s2 lv (q : Nat) (.long x)) st h) : Go l own cc nL R nm rt n0 mc ms Xf Qf  sl pc lv (.long x :: st) h := by
  intro p e s m args below meth c D cy zb Q H locs ls C E hP hS hn hl
  exact lv_lstore_n C.1 C.2.1 hd rfl hl hq (g_s2_ms zb lv (q : Nat) (.long x)) (fun ls2 hl2 => (k p e s m args below meth c D cy zb Q H locs ls2 C E hP hS hn hl2))
theorem go_lstore {q : Nat} {x : Int64} (hq : q + 1 < nL) (hd : decode cc pc = .ok (.lstore q, 2)) (k : Go l own cc nL R nm rt n0 mc ms Xf Qf  sl (pc + 2) (g_s2 lv q (.long x)) st h) : Go l own cc nL R nm rt n0 mc ms Xf Qf  sl pc lv (.long x :: st) h := by
  intro p e s m args below meth c D cy zb Q H locs ls C E hP hS hn hl
  exact lv_lstore C.1 C.2.1 hd hl hq (g_s2_ms zb lv q (.long x)) (fun ls2 hl2 => (k p e s m args below meth c D cy zb Q H locs ls2 C E hP hS hn hl2))
theorem g_lv_get {lv : List (Nat × Value)} {q : Nat} {v : Value} (zb : Nat × Nat) (hv : g_lv lv q = some v) : ∃ j : Nat, (g_ms zb lv)[j]? = some (q, gv zb v) := by
  unfold g_lv at hv
  cases hf : lv.find? (fun q' => q'.1 == q) with
  | none => rw [hf] at hv; cases hv
  | some x =>
    rw [hf] at hv
    cases hv
    have h1 : x.1 = q := by simpa using List.find?_some hf
    obtain ⟨j, hj⟩ := List.getElem?_of_mem (List.mem_of_find?_eq_some hf)
    refine ⟨j, ?_⟩
    unfold g_ms
    rw [List.getElem?_map, hj, ← h1]
    rfl
theorem go_iinc {q : Nat} {n : Int} {x : Int32} (hq : q < nL) (hv : g_lv lv q = some (.int x)) (hd : decode cc pc = .ok (.iinc q n, 3)) (k : Go l own cc nL R nm rt n0 mc ms Xf Qf  sl (pc + 3) (g_s1 lv q (.int (x + Int32.ofInt n))) st h) : Go l own cc nL R nm rt n0 mc ms Xf Qf  sl pc lv st h := by
  intro p e s m args below meth c D cy zb Q H locs ls C E hP hS hn hl
  obtain ⟨j, hj⟩ := g_lv_get zb hv
  exact lv_iinc C.1 C.2.1 hd hl hj rfl hq (g_s1_ms zb lv q (.int (x + Int32.ofInt n))) (fun ls2 hl2 => (k p e s m args below meth c D cy zb Q H locs ls2 C E hP hS hn hl2))
theorem go_goto {off : Int} {tgt : Nat} (ht : (pc : Int) + off = (tgt : Int)) (hd : decode cc pc = .ok (.goto off, 3)) (k : Go l own cc nL R nm rt n0 mc ms Xf Qf  sl tgt lv st h) : Go l own cc nL R nm rt n0 mc ms Xf Qf  sl pc lv st h := by
  intro p e s m args below meth c D cy zb Q H locs ls C E hP hS hn hl
  exact lv_goto C.1 C.2.1 hd ht (k p e s m args below meth c D cy zb Q H locs ls C E hP hS hn hl)
theorem go_if_eq {x : Int32} {off : Int} {tgt : Nat} (ht : (pc : Int) + off = (tgt : Int)) (hd : decode cc pc = .ok (.ifCond .eq off, 3)) (kt : x = 0 → Go l own cc nL R nm rt n0 mc ms Xf Qf  sl tgt lv st h) (kf : ¬ x = 0 → Go l own cc nL R nm rt n0 mc ms Xf Qf  sl (pc + 3) lv st h) : Go l own cc nL R nm rt n0 mc ms Xf Qf  sl pc lv (.int x :: st) h := by
  intro p e s m args below meth c D cy zb Q H locs ls C E hP hS hn hl
  exact lv_if_eq C.1 C.2.1 hd ht (fun q => kt q p e s m args below meth c D cy zb Q H locs ls C E hP hS hn hl) (fun q => kf q p e s m args below meth c D cy zb Q H locs ls C E hP hS hn hl)
theorem go_icmp_eq {x y : Int32} {off : Int} {tgt : Nat} (ht : (pc : Int) + off = (tgt : Int)) (hd : decode cc pc = .ok (.if_icmp .eq off, 3)) (kt : x = y → Go l own cc nL R nm rt n0 mc ms Xf Qf  sl tgt lv st h) (kf : ¬ x = y → Go l own cc nL R nm rt n0 mc ms Xf Qf  sl (pc + 3) lv st h) : Go l own cc nL R nm rt n0 mc ms Xf Qf  sl pc lv (.int y :: .int x :: st) h := by
  intro p e s m args below meth c D cy zb Q H locs ls C E hP hS hn hl
  exact lv_icmp_eq C.1 C.2.1 hd ht (fun q => kt q p e s m args below meth c D cy zb Q H locs ls C E hP hS hn hl) (fun q => kf q p e s m args below meth c D cy zb Q H locs ls C E hP hS hn hl)
theorem go_if_ne {x : Int32} {off : Int} {tgt : Nat} (ht : (pc : Int) + off = (tgt : Int)) (hd : decode cc pc = .ok (.ifCond .ne off, 3)) (kt : ¬ x = 0 → Go l own cc nL R nm rt n0 mc ms Xf Qf  sl tgt lv st h) (kf : x = 0 → Go l own cc nL R nm rt n0 mc ms Xf Qf  sl (pc + 3) lv st h) : Go l own cc nL R nm rt n0 mc ms Xf Qf  sl pc lv (.int x :: st) h := by
  intro p e s m args below meth c D cy zb Q H locs ls C E hP hS hn hl
  exact lv_if_ne C.1 C.2.1 hd ht (fun q => kt q p e s m args below meth c D cy zb Q H locs ls C E hP hS hn hl) (fun q => kf q p e s m args below meth c D cy zb Q H locs ls C E hP hS hn hl)
theorem go_icmp_ne {x y : Int32} {off : Int} {tgt : Nat} (ht : (pc : Int) + off = (tgt : Int)) (hd : decode cc pc = .ok (.if_icmp .ne off, 3)) (kt : ¬ x = y → Go l own cc nL R nm rt n0 mc ms Xf Qf  sl tgt lv st h) (kf : x = y → Go l own cc nL R nm rt n0 mc ms Xf Qf  sl (pc + 3) lv st h) : Go l own cc nL R nm rt n0 mc ms Xf Qf  sl pc lv (.int y :: .int x :: st) h := by
  intro p e s m args below meth c D cy zb Q H locs ls C E hP hS hn hl
  exact lv_icmp_ne C.1 C.2.1 hd ht (fun q => kt q p e s m args below meth c D cy zb Q H locs ls C E hP hS hn hl) (fun q => kf q p e s m args below meth c D cy zb Q H locs ls C E hP hS hn hl)
theorem go_if_lt {x : Int32} {off : Int} {tgt : Nat} (ht : (pc : Int) + off = (tgt : Int)) (hd : decode cc pc = .ok (.ifCond .lt off, 3)) (kt : x < 0 → Go l own cc nL R nm rt n0 mc ms Xf Qf  sl tgt lv st h) (kf : ¬ x < 0 → Go l own cc nL R nm rt n0 mc ms Xf Qf  sl (pc + 3) lv st h) : Go l own cc nL R nm rt n0 mc ms Xf Qf  sl pc lv (.int x :: st) h := by
  intro p e s m args below meth c D cy zb Q H locs ls C E hP hS hn hl
  exact lv_if_lt C.1 C.2.1 hd ht (fun q => kt q p e s m args below meth c D cy zb Q H locs ls C E hP hS hn hl) (fun q => kf q p e s m args below meth c D cy zb Q H locs ls C E hP hS hn hl)
theorem go_icmp_lt {x y : Int32} {off : Int} {tgt : Nat} (ht : (pc : Int) + off = (tgt : Int)) (hd : decode cc pc = .ok (.if_icmp .lt off, 3)) (kt : x < y → Go l own cc nL R nm rt n0 mc ms Xf Qf  sl tgt lv st h) (kf : ¬ x < y → Go l own cc nL R nm rt n0 mc ms Xf Qf  sl (pc + 3) lv st h) : Go l own cc nL R nm rt n0 mc ms Xf Qf  sl pc lv (.int y :: .int x :: st) h := by
  intro p e s m args below meth c D cy zb Q H locs ls C E hP hS hn hl
  exact lv_icmp_lt C.1 C.2.1 hd ht (fun q => kt q p e s m args below meth c D cy zb Q H locs ls C E hP hS hn hl) (fun q => kf q p e s m args below meth c D cy zb Q H locs ls C E hP hS hn hl)
theorem go_if_ge {x : Int32} {off : Int} {tgt : Nat} (ht : (pc : Int) + off = (tgt : Int)) (hd : decode cc pc = .ok (.ifCond .ge off, 3)) (kt : 0 ≤ x → Go l own cc nL R nm rt n0 mc ms Xf Qf  sl tgt lv st h) (kf : ¬ 0 ≤ x → Go l own cc nL R nm rt n0 mc ms Xf Qf  sl (pc + 3) lv st h) : Go l own cc nL R nm rt n0 mc ms Xf Qf  sl pc lv (.int x :: st) h := by
  intro p e s m args below meth c D cy zb Q H locs ls C E hP hS hn hl
  exact lv_if_ge C.1 C.2.1 hd ht (fun q => kt q p e s m args below meth c D cy zb Q H locs ls C E hP hS hn hl) (fun q => kf q p e s m args below meth c D cy zb Q H locs ls C E hP hS hn hl)
theorem go_icmp_ge {x y : Int32} {off : Int} {tgt : Nat} (ht : (pc : Int) + off = (tgt : Int)) (hd : decode cc pc = .ok (.if_icmp .ge off, 3)) (kt : y ≤ x → Go l own cc nL R nm rt n0 mc ms Xf Qf  sl tgt lv st h) (kf : ¬ y ≤ x → Go l own cc nL R nm rt n0 mc ms Xf Qf  sl (pc + 3) lv st h) : Go l own cc nL R nm rt n0 mc ms Xf Qf  sl pc lv (.int y :: .int x :: st) h := by
  intro p e s m args below meth c D cy zb Q H locs ls C E hP hS hn hl
  exact lv_icmp_ge C.1 C.2.1 hd ht (fun q => kt q p e s m args below meth c D cy zb Q H locs ls C E hP hS hn hl) (fun q => kf q p e s m args below meth c D cy zb Q H locs ls C E hP hS hn hl)
theorem go_if_gt {x : Int32} {off : Int} {tgt : Nat} (ht : (pc : Int) + off = (tgt : Int)) (hd : decode cc pc = .ok (.ifCond .gt off, 3)) (kt : 0 < x → Go l own cc nL R nm rt n0 mc ms Xf Qf  sl tgt lv st h) (kf : ¬ 0 < x → Go l own cc nL R nm rt n0 mc ms Xf Qf  sl (pc + 3) lv st h) : Go l own cc nL R nm rt n0 mc ms Xf Qf  sl pc lv (.int x :: st) h := by
  intro p e s m args below meth c D cy zb Q H locs ls C E hP hS hn hl
  exact lv_if_gt C.1 C.2.1 hd ht (fun q => kt q p e s m args below meth c D cy zb Q H locs ls C E hP hS hn hl) (fun q => kf q p e s m args below meth c D cy zb Q H locs ls C E hP hS hn hl)
theorem go_icmp_gt {x y : Int32} {off : Int} {tgt : Nat} (ht : (pc : Int) + off = (tgt : Int)) (hd : decode cc pc = .ok (.if_icmp .gt off, 3)) (kt : y < x → Go l own cc nL R nm rt n0 mc ms Xf Qf  sl tgt lv st h) (kf : ¬ y < x → Go l own cc nL R nm rt n0 mc ms Xf Qf  sl (pc + 3) lv st h) : Go l own cc nL R nm rt n0 mc ms Xf Qf  sl pc lv (.int y :: .int x :: st) h := by
  intro p e s m args below meth c D cy zb Q H locs ls C E hP hS hn hl
  exact lv_icmp_gt C.1 C.2.1 hd ht (fun q => kt q p e s m args below meth c D cy zb Q H locs ls C E hP hS hn hl) (fun q => kf q p e s m args below meth c D cy zb Q H locs ls C E hP hS hn hl)
theorem go_if_le {x : Int32} {off : Int} {tgt : Nat} (ht : (pc : Int) + off = (tgt : Int)) (hd : decode cc pc = .ok (.ifCond .le off, 3)) (kt : x ≤ 0 → Go l own cc nL R nm rt n0 mc ms Xf Qf  sl tgt lv st h) (kf : ¬ x ≤ 0 → Go l own cc nL R nm rt n0 mc ms Xf Qf  sl (pc + 3) lv st h) : Go l own cc nL R nm rt n0 mc ms Xf Qf  sl pc lv (.int x :: st) h := by
  intro p e s m args below meth c D cy zb Q H locs ls C E hP hS hn hl
  exact lv_if_le C.1 C.2.1 hd ht (fun q => kt q p e s m args below meth c D cy zb Q H locs ls C E hP hS hn hl) (fun q => kf q p e s m args below meth c D cy zb Q H locs ls C E hP hS hn hl)
theorem go_icmp_le {x y : Int32} {off : Int} {tgt : Nat} (ht : (pc : Int) + off = (tgt : Int)) (hd : decode cc pc = .ok (.if_icmp .le off, 3)) (kt : x ≤ y → Go l own cc nL R nm rt n0 mc ms Xf Qf  sl tgt lv st h) (kf : ¬ x ≤ y → Go l own cc nL R nm rt n0 mc ms Xf Qf  sl (pc + 3) lv st h) : Go l own cc nL R nm rt n0 mc ms Xf Qf  sl pc lv (.int y :: .int x :: st) h := by
  intro p e s m args below meth c D cy zb Q H locs ls C E hP hS hn hl
  exact lv_icmp_le C.1 C.2.1 hd ht (fun q => kt q p e s m args below meth c D cy zb Q H locs ls C E hP hS hn hl) (fun q => kf q p e s m args below meth c D cy zb Q H locs ls C E hP hS hn hl)
theorem go_tableIn {dflt lo hi : Int} {offs : Array Int} {len : Nat} {x : Int32} {off : Int} {tgt : Nat} (h1 : ¬ x.toInt < lo) (h2 : ¬ hi < x.toInt) (ho : offs[(x.toInt - lo).toNat]? = some off) (ht : (pc : Int) + off = (tgt : Int)) (hd : decode cc pc = .ok (.tableswitch dflt lo hi offs, len)) (k : Go l own cc nL R nm rt n0 mc ms Xf Qf  sl tgt lv st h) : Go l own cc nL R nm rt n0 mc ms Xf Qf  sl pc lv (.int x :: st) h := by
  intro p e s m args below meth c D cy zb Q H locs ls C E hP hS hn hl
  exact lv_tableIn C.1 C.2.1 hd h1 h2 ho ht (k p e s m args below meth c D cy zb Q H locs ls C E hP hS hn hl)
theorem go_tableOut {dflt lo hi : Int} {offs : Array Int} {len : Nat} {x : Int32} {tgt : Nat} (hx : x.toInt < lo ∨ hi < x.toInt) (ht : (pc : Int) + dflt = (tgt : Int)) (hd : decode cc pc = .ok (.tableswitch dflt lo hi offs, len)) (k : Go l own cc nL R nm rt n0 mc ms Xf Qf  sl tgt lv st h) : Go l own cc nL R nm rt n0 mc ms Xf Qf  sl pc lv (.int x :: st) h := by
  intro p e s m args below meth c D cy zb Q H locs ls C E hP hS hn hl
  exact lv_tableOut C.1 C.2.1 hd hx ht (k p e s m args below meth c D cy zb Q H locs ls C E hP hS hn hl)
theorem go_lookup {dflt : Int} {ps : Array (Int × Int)} {len : Nat} {x : Int32} {off : Int} {tgt : Nat} (hp : (ps.toList.zip (ps.toList.drop 1)).all (fun (a, next) => a.1 < next.1) = true) (ho : Op.lookupswitch.offset ps.toList dflt x.toInt = off) (ht : (pc : Int) + off = (tgt : Int)) (hd : decode cc pc = .ok (.lookupswitch dflt ps, len)) (k : Go l own cc nL R nm rt n0 mc ms Xf Qf  sl tgt lv st h) : Go l own cc nL R nm rt n0 mc ms Xf Qf  sl pc lv (.int x :: st) h := by
  intro p e s m args below meth c D cy zb Q H locs ls C E hP hS hn hl
  exact lv_lookup C.1 C.2.1 hd hp ho ht (k p e s m args below meth c D cy zb Q H locs ls C E hP hS hn hl)
theorem go_dup {v : Value} (hv : v.category = 1) (hd : decode cc pc = .ok (.dup, 1)) (k : Go l own cc nL R nm rt n0 mc ms Xf Qf  sl (pc + 1) lv (v :: v :: st) h) : Go l own cc nL R nm rt n0 mc ms Xf Qf  sl pc lv (v :: st) h := by
  intro p e s m args below meth c D cy zb Q H locs ls C E hP hS hn hl
  exact lv_dup C.1 C.2.1 hd (by rw [gv_cat]; exact hv) (k p e s m args below meth c D cy zb Q H locs ls C E hP hS hn hl)
theorem go_pop {v : Value} (hv : v.category = 1) (hd : decode cc pc = .ok (.pop, 1)) (k : Go l own cc nL R nm rt n0 mc ms Xf Qf  sl (pc + 1) lv st h) : Go l own cc nL R nm rt n0 mc ms Xf Qf  sl pc lv (v :: st) h := by
  intro p e s m args below meth c D cy zb Q H locs ls C E hP hS hn hl
  exact lv_pop C.1 C.2.1 hd (by rw [gv_cat]; exact hv) (k p e s m args below meth c D cy zb Q H locs ls C E hP hS hn hl)
theorem go_dup2 {v w : Value} (hv : v.category = 1) (hw : w.category = 1) (hd : decode cc pc = .ok (.dup2, 1)) (k : Go l own cc nL R nm rt n0 mc ms Xf Qf  sl (pc + 1) lv (v :: w :: v :: w :: st) h) : Go l own cc nL R nm rt n0 mc ms Xf Qf  sl pc lv (v :: w :: st) h := by
  intro p e s m args below meth c D cy zb Q H locs ls C E hP hS hn hl
  exact lv_dup2_11 C.1 C.2.1 hd (by rw [gv_cat]; exact hv) (by rw [gv_cat]; exact hw) (k p e s m args below meth c D cy zb Q H locs ls C E hP hS hn hl)
theorem go_lv {lv2 : List (Nat × Value)} (hs : lv2.map (fun q => g_lv lv q.1) = lv2.map (fun q => some q.2)) (k : Go l own cc nL R nm rt n0 mc ms Xf Qf  sl pc lv2 st h) : Go l own cc nL R nm rt n0 mc ms Xf Qf  sl pc lv st h := by
  intro p e s m args below meth c D cy zb Q H locs ls C E hP hS hn hl
  exact k p e s m args below meth c D cy zb Q H locs ls C E hP hS hn (g_lv_sub hl hs)
theorem go_eq {pc2 : Nat} {lv2 : List (Nat × Value)} {st2 : List Value} {h2 : HP} (k : Go l own cc nL R nm rt n0 mc ms Xf Qf  sl pc2 lv2 st2 h2) (e1 : pc = pc2 := by rfl) (e2 : lv = lv2 := by rfl) (e3 : st = st2 := by rfl) (e4 : h = h2 := by rfl) : Go l own cc nL R nm rt n0 mc ms Xf Qf  sl pc lv st h := by
  subst e1; subst e2; subst e3; subst e4; exact k
theorem go_sl {sl2 : Nat} (hs : sl ≤ sl2) (k : Go l own cc nL R nm rt n0 mc ms Xf Qf  sl2 pc lv st h) : Go l own cc nL R nm rt n0 mc ms Xf Qf  sl pc lv st h := by
  intro p e s m args below meth c D cy zb Q H locs ls C E hP hS hn hl
  exact W.widen (Nat.le_refl _) hs (k p e s m args below meth c D cy zb Q H locs ls C E hP hS hn hl)
theorem g_fv_at {cy : Nat → ClassId} {zb : Nat × Nat} {h : HP} {c ci len k : Nat} (hc : h.1[c]? = some (ci, len)) (hci : ci < 9) (hk : k < len) : (g_ws cy zb h)[c]? = some (zb.1 + c, .inr (ci, (List.range len).map (fun j => g_fv zb h c j (g_ty ci j)))) ∧ ((List.range len).map (fun j => g_fv zb h c j (g_ty ci j)))[k]? = some (g_fv zb h c k (g_ty ci k)) := by
  refine ⟨?_, ?_⟩
  · rw [g_ws_get hc]; simp [g_cell, hci]
  · simp [hk]
theorem go_get {c ci len i idx : Nat} {v : Value} (hf : FL own idx ci i) (hc : h.1[c]? = some (ci, len)) (hi : i < len) (hv : ∀ zb, g_fv zb h c i (g_ty ci i) = gv zb v) (hd : decode cc pc = .ok (.getfield idx, 3)) (k : Go l own cc nL R nm rt n0 mc ms Xf Qf  sl (pc + 3) lv (v :: st) h) : Go l own cc nL R nm rt n0 mc ms Xf Qf  sl pc lv (.ref c :: st) h := by
  intro p e s m args below meth c2 D cy zb Q H locs ls C E hP hS hn hl
  have K := k p e s m args below meth c2 D cy zb Q H locs ls C E hP hS hn hl
  obtain ⟨Cn, T, N, h1, h2, h3, h4⟩ := hf
  obtain ⟨g1, g2, g3⟩ := g_in ci Cn T N h1
  have hci : ci < 9 := (List.getElem?_eq_some_iff.mp h1).1
  obtain ⟨a1, a2⟩ := g_fv_at (cy := cy) (zb := zb) hc hci hi
  rw [hv zb] at a2
  rcases h4 with h4 | ⟨host, h4⟩
  · exact va_get (ref := Cn) C.1 C.2.1 C.2.2.2.2.1 g1 C.2.2.2.1 C.2.2.2.2.2.2.1 hP c a1 h1 i h2 (C.2.2.2.2.1 _ h4) (fun x hx => by rw [h3] at hx; exact hx) a2 hd K
  · exact va_getN (ref := Cn) C.1 C.2.1 C.2.2.2.2.1 g1 C.2.2.2.1 C.2.2.2.2.2.2.1 hP c a1 h1 i h2 (va_Nw.use rfl (C.2.2.2.2.2.1 _ h4)) (fun x hx => by rw [h3] at hx; exact hx) a2 hd K
theorem go_getI {c ci len i idx : Nat} (hf : FL own idx ci i) (hc : h.1[c]? = some (ci, len)) (hi : i < len) (hty : g_kind (g_ty ci i) = 0) (hd : decode cc pc = .ok (.getfield idx, 3)) (k : Go l own cc nL R nm rt n0 mc ms Xf Qf  sl (pc + 3) lv (.int (h.2.1 c i) :: st) h) : Go l own cc nL R nm rt n0 mc ms Xf Qf  sl pc lv (.ref c :: st) h :=
  go_get hf hc hi (fun zb => by rw [g_fv, if_pos hty]; rfl) hd k
theorem go_getL {c ci len i idx : Nat} (hf : FL own idx ci i) (hc : h.1[c]? = some (ci, len)) (hi : i < len) (hty : g_kind (g_ty ci i) = 1) (hd : decode cc pc = .ok (.getfield idx, 3)) (k : Go l own cc nL R nm rt n0 mc ms Xf Qf  sl (pc + 3) lv (.long (h.2.2.1 c i) :: st) h) : Go l own cc nL R nm rt n0 mc ms Xf Qf  sl pc lv (.ref c :: st) h :=
  go_get hf hc hi (fun zb => by rw [g_fv, if_neg (by rw [hty]; decide), if_pos hty]; rfl) hd k
theorem go_getR {c ci len i idx : Nat} {v : Value} (hf : FL own idx ci i) (hc : h.1[c]? = some (ci, len)) (hi : i < len) (hty : g_kind (g_ty ci i) = 2) (hv : h.2.2.2 c i = v) (hd : decode cc pc = .ok (.getfield idx, 3)) (k : Go l own cc nL R nm rt n0 mc ms Xf Qf  sl (pc + 3) lv (v :: st) h) : Go l own cc nL R nm rt n0 mc ms Xf Qf  sl pc lv (.ref c :: st) h :=
  go_get hf hc hi (fun zb => by rw [g_fv, if_neg (by rw [hty]; decide), if_neg (by rw [hty]; decide), hv]) hd k
theorem go_putI {c ci len i idx : Nat} {x : Int32} (hf : FP own nm idx ci i) (hc : h.1[c]? = some (ci, len)) (hi : i < len) (hty : g_kind (g_ty ci i) = 0) (hna : ∀ zb, narrow (g_ty ci i) (gv zb (.int x)) = gv zb (.int x)) (hfi : ∀ zb, fits (g_ty ci i) (gv zb (.int x)) = true) (hd : decode cc pc = .ok (.putfield idx, 3)) (k : Go l own cc nL R nm rt n0 mc ms Xf Qf  sl (pc + 3) lv st (hI h c i x)) : Go l own cc nL R nm rt n0 mc ms Xf Qf  sl pc lv (.int x :: .ref c :: st) h := by
  intro p e s m args below meth c2 D cy zb Q H locs ls C E hP hS hn hl
  obtain ⟨Cn, T, N, h1, h2, h3, h4⟩ := hf
  obtain ⟨g1, g2, g3⟩ := g_in ci Cn T N h1
  have hci : ci < 9 := (List.getElem?_eq_some_iff.mp h1).1
  obtain ⟨a1, a2⟩ := g_fv_at (cy := cy) (zb := zb) hc hci hi
  have hset : (g_ws cy zb h).set c (zb.1 + c, .inr (ci, ((List.range len).map (fun j => g_fv zb h c j (g_ty ci j))).set i (gv zb (.int x)))) = g_ws cy zb (hI h c i x) := g_ws_set rfl hc (fun c' sh' hne => g_cell_I hne) (g_put_I hci hty)
  have hle : i < ((List.range len).map (fun j => g_fv zb h c j (g_ty ci j))).length := by simpa using hi
  have K : ∀ (H1 : Heap) (locs1 : List Loc), va_P D vwCl ((g_ws cy zb h).set c (zb.1 + c, .inr (ci, ((List.range len).map (fun j => g_fv zb h c j (g_ty ci j))).set i (gv zb (.int x))))) H1 → va_D (fun q => zb.1 ≤ q) ((g_ws cy zb h).set c (zb.1 + c, .inr (ci, ((List.range len).map (fun j => g_fv zb h c j (g_ty ci j))).set i (gv zb (.int x))))) → va_S (fun q => zb.1 ≤ q) s.heap H1 locs1 → W p l e R s m args below meth c2 H1 locs1 (h.1.length - n0) sl Q (F0 m (pc + 3) ls (st.map (gv zb))) := by
    intro H1 locs1 hP1 _ hS1
    rw [hset] at hP1
    exact k p e s m args below meth c2 D cy zb Q H1 locs1 ls C E hP1 hS1 hn hl
  rcases h4 with ⟨h4, h5⟩ | ⟨h4, h5, h6, h7⟩ | ⟨host, h4, h5⟩
  · exact va_put (ref := Cn) C.1 C.2.1 C.2.2.2.2.1 g1 (g_ty ci) g2 g3 C.2.2.2.1 C.2.2.2.2.2.2.1 hP (g_D cy zb h) hS c a1 h1 i h2 (C.2.2.2.2.1 _ h4) (fun x hx => by rw [h3] at hx; exact hx) h5 (g2 i h2) (hna zb) (hfi zb) hle hd K
  · exact va_putF (ref := Cn) C.1 C.2.1 C.2.2.2.2.1 g1 (g_ty ci) g2 g3 C.2.2.2.1 C.2.2.2.2.2.2.1 hP (g_D cy zb h) hS c a1 h1 i h2 (C.2.2.2.2.1 _ h4) (fun x hx => by rw [h3] at hx; exact hx) h5 (C.2.2.2.2.2.2.2.2.1.trans h7) h6 (g2 i h2) (hna zb) (hfi zb) hle hd K
  · exact va_putN (ref := Cn) C.1 C.2.1 C.2.2.2.2.1 g1 (g_ty ci) g2 g3 C.2.2.2.1 C.2.2.2.2.2.2.1 hP (g_D cy zb h) hS c a1 h1 i h2 (va_Nw.use rfl (C.2.2.2.2.2.1 _ h4)) (fun x hx => by rw [h3] at hx; exact hx) h5 (g2 i h2) (hna zb) (hfi zb) hle hd K
theorem go_putL {c ci len i idx : Nat} {x : Int64} (hf : FP own nm idx ci i) (hc : h.1[c]? = some (ci, len)) (hi : i < len) (hty : g_kind (g_ty ci i) = 1) (hna : ∀ zb, narrow (g_ty ci i) (gv zb (.long x)) = gv zb (.long x)) (hfi : ∀ zb, fits (g_ty ci i) (gv zb (.long x)) = true) (hd : decode cc pc = .ok (.putfield idx, 3)) (k : Go l own cc nL R nm rt n0 mc ms Xf Qf  sl (pc + 3) lv st (hL h c i x)) : Go l own cc nL R nm rt n0 mc ms Xf Qf  sl pc lv (.long x :: .ref c :: st) h := by
  intro p e s m args below meth c2 D cy zb Q H locs ls C E hP hS hn hl
  obtain ⟨Cn, T, N, h1, h2, h3, h4⟩ := hf
  obtain ⟨g1, g2, g3⟩ := g_in ci Cn T N h1
  have hci : ci < 9 := (List.getElem?_eq_some_iff.mp h1).1
  obtain ⟨a1, a2⟩ := g_fv_at (cy := cy) (zb := zb) hc hci hi
  have hset : (g_ws cy zb h).set c (zb.1 + c, .inr (ci, ((List.range len).map (fun j => g_fv zb h c j (g_ty ci j))).set i (gv zb (.long x)))) = g_ws cy zb (hL h c i x) := g_ws_set rfl hc (fun c' sh' hne => g_cell_L hne) (g_put_L hci hty)
  have hle : i < ((List.range len).map (fun j => g_fv zb h c j (g_ty ci j))).length := by simpa using hi
  have K : ∀ (H1 : Heap) (locs1 : List Loc), va_P D vwCl ((g_ws cy zb h).set c (zb.1 + c, .inr (ci, ((List.range len).map (fun j => g_fv zb h c j (g_ty ci j))).set i (gv zb (.long x))))) H1 → va_D (fun q => zb.1 ≤ q) ((g_ws cy zb h).set c (zb.1 + c, .inr (ci, ((List.range len).map (fun j => g_fv zb h c j (g_ty ci j))).set i (gv zb (.long x))))) → va_S (fun q => zb.1 ≤ q) s.heap H1 locs1 → W p l e R s m args below meth c2 H1 locs1 (h.1.length - n0) sl Q (F0 m (pc + 3) ls (st.map (gv zb))) := by
    intro H1 locs1 hP1 _ hS1
    rw [hset] at hP1
    exact k p e s m args below meth c2 D cy zb Q H1 locs1 ls C E hP1 hS1 hn hl
  rcases h4 with ⟨h4, h5⟩ | ⟨h4, h5, h6, h7⟩ | ⟨host, h4, h5⟩
  · exact va_put (ref := Cn) C.1 C.2.1 C.2.2.2.2.1 g1 (g_ty ci) g2 g3 C.2.2.2.1 C.2.2.2.2.2.2.1 hP (g_D cy zb h) hS c a1 h1 i h2 (C.2.2.2.2.1 _ h4) (fun x hx => by rw [h3] at hx; exact hx) h5 (g2 i h2) (hna zb) (hfi zb) hle hd K
  · exact va_putF (ref := Cn) C.1 C.2.1 C.2.2.2.2.1 g1 (g_ty ci) g2 g3 C.2.2.2.1 C.2.2.2.2.2.2.1 hP (g_D cy zb h) hS c a1 h1 i h2 (C.2.2.2.2.1 _ h4) (fun x hx => by rw [h3] at hx; exact hx) h5 (C.2.2.2.2.2.2.2.2.1.trans h7) h6 (g2 i h2) (hna zb) (hfi zb) hle hd K
  · exact va_putN (ref := Cn) C.1 C.2.1 C.2.2.2.2.1 g1 (g_ty ci) g2 g3 C.2.2.2.1 C.2.2.2.2.2.2.1 hP (g_D cy zb h) hS c a1 h1 i h2 (va_Nw.use rfl (C.2.2.2.2.2.1 _ h4)) (fun x hx => by rw [h3] at hx; exact hx) h5 (g2 i h2) (hna zb) (hfi zb) hle hd K
theorem go_putR {c ci len i idx : Nat} {x : Value} (hf : FP own nm idx ci i) (hc : h.1[c]? = some (ci, len)) (hi : i < len) (hty : g_kind (g_ty ci i) = 2) (hna : ∀ zb, narrow (g_ty ci i) (gv zb x) = gv zb x) (hfi : ∀ zb, fits (g_ty ci i) (gv zb x) = true) (hd : decode cc pc = .ok (.putfield idx, 3)) (k : Go l own cc nL R nm rt n0 mc ms Xf Qf  sl (pc + 3) lv st (hR h c i x)) : Go l own cc nL R nm rt n0 mc ms Xf Qf  sl pc lv (x :: .ref c :: st) h := by
  intro p e s m args below meth c2 D cy zb Q H locs ls C E hP hS hn hl
  obtain ⟨Cn, T, N, h1, h2, h3, h4⟩ := hf
  obtain ⟨g1, g2, g3⟩ := g_in ci Cn T N h1
  have hci : ci < 9 := (List.getElem?_eq_some_iff.mp h1).1
  obtain ⟨a1, a2⟩ := g_fv_at (cy := cy) (zb := zb) hc hci hi
  have hset : (g_ws cy zb h).set c (zb.1 + c, .inr (ci, ((List.range len).map (fun j => g_fv zb h c j (g_ty ci j))).set i (gv zb x))) = g_ws cy zb (hR h c i x) := g_ws_set rfl hc (fun c' sh' hne => g_cell_R hne) (g_put_R hci hty)
  have hle : i < ((List.range len).map (fun j => g_fv zb h c j (g_ty ci j))).length := by simpa using hi
  have K : ∀ (H1 : Heap) (locs1 : List Loc), va_P D vwCl ((g_ws cy zb h).set c (zb.1 + c, .inr (ci, ((List.range len).map (fun j => g_fv zb h c j (g_ty ci j))).set i (gv zb x)))) H1 → va_D (fun q => zb.1 ≤ q) ((g_ws cy zb h).set c (zb.1 + c, .inr (ci, ((List.range len).map (fun j => g_fv zb h c j (g_ty ci j))).set i (gv zb x)))) → va_S (fun q => zb.1 ≤ q) s.heap H1 locs1 → W p l e R s m args below meth c2 H1 locs1 (h.1.length - n0) sl Q (F0 m (pc + 3) ls (st.map (gv zb))) := by
    intro H1 locs1 hP1 _ hS1
    rw [hset] at hP1
    exact k p e s m args below meth c2 D cy zb Q H1 locs1 ls C E hP1 hS1 hn hl
  rcases h4 with ⟨h4, h5⟩ | ⟨h4, h5, h6, h7⟩ | ⟨host, h4, h5⟩
  · exact va_put (ref := Cn) C.1 C.2.1 C.2.2.2.2.1 g1 (g_ty ci) g2 g3 C.2.2.2.1 C.2.2.2.2.2.2.1 hP (g_D cy zb h) hS c a1 h1 i h2 (C.2.2.2.2.1 _ h4) (fun x hx => by rw [h3] at hx; exact hx) h5 (g2 i h2) (hna zb) (hfi zb) hle hd K
  · exact va_putF (ref := Cn) C.1 C.2.1 C.2.2.2.2.1 g1 (g_ty ci) g2 g3 C.2.2.2.1 C.2.2.2.2.2.2.1 hP (g_D cy zb h) hS c a1 h1 i h2 (C.2.2.2.2.1 _ h4) (fun x hx => by rw [h3] at hx; exact hx) h5 (C.2.2.2.2.2.2.2.2.1.trans h7) h6 (g2 i h2) (hna zb) (hfi zb) hle hd K
  · exact va_putN (ref := Cn) C.1 C.2.1 C.2.2.2.2.1 g1 (g_ty ci) g2 g3 C.2.2.2.1 C.2.2.2.2.2.2.1 hP (g_D cy zb h) hS c a1 h1 i h2 (va_Nw.use rfl (C.2.2.2.2.2.1 _ h4)) (fun x hx => by rw [h3] at hx; exact hx) h5 (g2 i h2) (hna zb) (hfi zb) hle hd K
theorem go_iald {c len : Nat} {i : Int32} (hc : h.1[c]? = some (10, len)) (hi : vp_in i len) (hd : decode cc pc = .ok (.iaload, 1)) (k : Go l own cc nL R nm rt n0 mc ms Xf Qf  sl (pc + 1) lv (.int (h.2.1 c i.toNatClampNeg) :: st) h) : Go l own cc nL R nm rt n0 mc ms Xf Qf  sl pc lv (.int i :: .ref c :: st) h := by
  intro p e s m args below meth c2 D cy zb Q H locs ls C E hP hS hn hl
  have a1 := g_ws_get (cy := cy) (zb := zb) hc
  exact va_iald C.1 C.2.1 C.2.2.2.2.2.2.1 hP c 1 a1 rfl hi hd (k p e s m args below meth c2 D cy zb Q H locs ls C E hP hS hn hl)
theorem go_iast {c len : Nat} {i : Int32} {x : Int32} (hc : h.1[c]? = some (10, len)) (hi : vp_in i len) (hd : decode cc pc = .ok (.iastore, 1)) (k : Go l own cc nL R nm rt n0 mc ms Xf Qf  sl (pc + 1) lv st (hI h c i.toNatClampNeg x)) : Go l own cc nL R nm rt n0 mc ms Xf Qf  sl pc lv (.int x :: .int i :: .ref c :: st) h := by
  intro p e s m args below meth c2 D cy zb Q H locs ls C E hP hS hn hl
  have a1 := g_ws_get (cy := cy) (zb := zb) hc
  refine va_iast C.1 C.2.1 C.2.2.2.2.2.2.1 hP (g_D cy zb h) hS c 1 a1 rfl hi hd (fun H1 locs1 hP1 _ hS1 => ?_)
  have hs := g_ws_set (cy := cy) (zb := zb) (h := h) (h' := hI h c i.toNatClampNeg x) (e := .inl (cy 10, len, .inl (upd (h.2.1 c) i.toNatClampNeg x))) rfl hc (fun c' sh' hne => g_cell_I hne) (by
    simp only [g_cell, hI]
    first | rfl | (congr; funext b; simp [upd, vp_updL]) | (simp; funext b; simp [upd, vp_updL]))
  have hP2 : va_P D vwCl (g_ws cy zb (hI h c i.toNatClampNeg x)) H1 := by rw [← hs]; exact hP1
  exact k p e s m args below meth c2 D cy zb Q H1 locs1 ls C E hP2 hS1 hn hl
theorem go_bald {c len : Nat} {i : Int32} (hc : h.1[c]? = some (9, len)) (hi : vp_in i len) (hd : decode cc pc = .ok (.baload, 1)) (k : Go l own cc nL R nm rt n0 mc ms Xf Qf  sl (pc + 1) lv (.int (h.2.1 c i.toNatClampNeg) :: st) h) : Go l own cc nL R nm rt n0 mc ms Xf Qf  sl pc lv (.int i :: .ref c :: st) h := by
  intro p e s m args below meth c2 D cy zb Q H locs ls C E hP hS hn hl
  have a1 := g_ws_get (cy := cy) (zb := zb) hc
  exact va_bald C.1 C.2.1 C.2.2.2.2.2.2.1 hP c 0 a1 rfl hi hd (k p e s m args below meth c2 D cy zb Q H locs ls C E hP hS hn hl)
theorem go_bast {c len : Nat} {i : Int32} {x : Int32} (hc : h.1[c]? = some (9, len)) (hi : vp_in i len) (hd : decode cc pc = .ok (.bastore, 1)) (k : Go l own cc nL R nm rt n0 mc ms Xf Qf  sl (pc + 1) lv st (hI h c i.toNatClampNeg (vp_nar .byte x))) : Go l own cc nL R nm rt n0 mc ms Xf Qf  sl pc lv (.int x :: .int i :: .ref c :: st) h := by
  intro p e s m args below meth c2 D cy zb Q H locs ls C E hP hS hn hl
  have a1 := g_ws_get (cy := cy) (zb := zb) hc
  refine va_bast C.1 C.2.1 C.2.2.2.2.2.2.1 hP (g_D cy zb h) hS c 0 a1 rfl hi hd (fun H1 locs1 hP1 _ hS1 => ?_)
  have hs := g_ws_set (cy := cy) (zb := zb) (h := h) (h' := hI h c i.toNatClampNeg (vp_nar .byte x)) (e := .inl (cy 9, len, .inl (upd (h.2.1 c) i.toNatClampNeg (vp_nar .byte x)))) rfl hc (fun c' sh' hne => g_cell_I hne) (by
    simp only [g_cell, hI]
    first | rfl | (congr; funext b; simp [upd, vp_updL]) | (simp; funext b; simp [upd, vp_updL]))
  have hP2 : va_P D vwCl (g_ws cy zb (hI h c i.toNatClampNeg (vp_nar .byte x))) H1 := by rw [← hs]; exact hP1
  exact k p e s m args below meth c2 D cy zb Q H1 locs1 ls C E hP2 hS1 hn hl
theorem go_zald {c len : Nat} {i : Int32} (hc : h.1[c]? = some (12, len)) (hi : vp_in i len) (hd : decode cc pc = .ok (.baload, 1)) (k : Go l own cc nL R nm rt n0 mc ms Xf Qf  sl (pc + 1) lv (.int (h.2.1 c i.toNatClampNeg) :: st) h) : Go l own cc nL R nm rt n0 mc ms Xf Qf  sl pc lv (.int i :: .ref c :: st) h := by
  intro p e s m args below meth c2 D cy zb Q H locs ls C E hP hS hn hl
  have a1 := g_ws_get (cy := cy) (zb := zb) hc
  exact va_zald C.1 C.2.1 C.2.2.2.2.2.2.1 hP c 3 a1 rfl hi hd (k p e s m args below meth c2 D cy zb Q H locs ls C E hP hS hn hl)
theorem go_zast {c len : Nat} {i : Int32} {x : Int32} (hc : h.1[c]? = some (12, len)) (hi : vp_in i len) (hd : decode cc pc = .ok (.bastore, 1)) (k : Go l own cc nL R nm rt n0 mc ms Xf Qf  sl (pc + 1) lv st (hI h c i.toNatClampNeg (vp_nar .boolean x))) : Go l own cc nL R nm rt n0 mc ms Xf Qf  sl pc lv (.int x :: .int i :: .ref c :: st) h := by
  intro p e s m args below meth c2 D cy zb Q H locs ls C E hP hS hn hl
  have a1 := g_ws_get (cy := cy) (zb := zb) hc
  refine va_zast C.1 C.2.1 C.2.2.2.2.2.2.1 hP (g_D cy zb h) hS c 3 a1 rfl hi hd (fun H1 locs1 hP1 _ hS1 => ?_)
  have hs := g_ws_set (cy := cy) (zb := zb) (h := h) (h' := hI h c i.toNatClampNeg (vp_nar .boolean x)) (e := .inl (cy 12, len, .inl (upd (h.2.1 c) i.toNatClampNeg (vp_nar .boolean x)))) rfl hc (fun c' sh' hne => g_cell_I hne) (by
    simp only [g_cell, hI]
    first | rfl | (congr; funext b; simp [upd, vp_updL]) | (simp; funext b; simp [upd, vp_updL]))
  have hP2 : va_P D vwCl (g_ws cy zb (hI h c i.toNatClampNeg (vp_nar .boolean x))) H1 := by rw [← hs]; exact hP1
  exact k p e s m args below meth c2 D cy zb Q H1 locs1 ls C E hP2 hS1 hn hl
theorem go_lald {c len : Nat} {i : Int32} (hc : h.1[c]? = some (11, len)) (hi : vp_in i len) (hd : decode cc pc = .ok (.laload, 1)) (k : Go l own cc nL R nm rt n0 mc ms Xf Qf  sl (pc + 1) lv (.long (h.2.2.1 c i.toNatClampNeg) :: st) h) : Go l own cc nL R nm rt n0 mc ms Xf Qf  sl pc lv (.int i :: .ref c :: st) h := by
  intro p e s m args below meth c2 D cy zb Q H locs ls C E hP hS hn hl
  have a1 := g_ws_get (cy := cy) (zb := zb) hc
  exact va_lald C.1 C.2.1 C.2.2.2.2.2.2.1 hP c 2 a1 rfl hi hd (k p e s m args below meth c2 D cy zb Q H locs ls C E hP hS hn hl)
theorem go_last {c len : Nat} {i : Int32} {x : Int64} (hc : h.1[c]? = some (11, len)) (hi : vp_in i len) (hd : decode cc pc = .ok (.lastore, 1)) (k : Go l own cc nL R nm rt n0 mc ms Xf Qf  sl (pc + 1) lv st (hL h c i.toNatClampNeg x)) : Go l own cc nL R nm rt n0 mc ms Xf Qf  sl pc lv (.long x :: .int i :: .ref c :: st) h := by
  intro p e s m args below meth c2 D cy zb Q H locs ls C E hP hS hn hl
  have a1 := g_ws_get (cy := cy) (zb := zb) hc
  refine va_last C.1 C.2.1 C.2.2.2.2.2.2.1 hP (g_D cy zb h) hS c 2 a1 rfl hi hd (fun H1 locs1 hP1 _ hS1 => ?_)
  have hs := g_ws_set (cy := cy) (zb := zb) (h := h) (h' := hL h c i.toNatClampNeg x) (e := .inl (cy 11, len, .inr (.inl (vp_updL (h.2.2.1 c) i.toNatClampNeg x)))) rfl hc (fun c' sh' hne => g_cell_L hne) (by
    simp only [g_cell, hL]
    first | rfl | (congr; funext b; simp [upd, vp_updL]) | (simp; funext b; simp [upd, vp_updL]))
  have hP2 : va_P D vwCl (g_ws cy zb (hL h c i.toNatClampNeg x)) H1 := by rw [← hs]; exact hP1
  exact k p e s m args below meth c2 D cy zb Q H1 locs1 ls C E hP2 hS1 hn hl
theorem go_alen {c kd len : Nat} {v : Int32} (hc : h.1[c]? = some (kd, len)) (h9 : kd = 9 ∨ kd = 10 ∨ kd = 11 ∨ kd = 12) (hv : Int32.ofNat len = v) (hd : decode cc pc = .ok (.arraylength, 1)) (k : Go l own cc nL R nm rt n0 mc ms Xf Qf  sl (pc + 1) lv (.int v :: st) h) : Go l own cc nL R nm rt n0 mc ms Xf Qf  sl pc lv (.ref c :: st) h := by
  intro p e s m args below meth c2 D cy zb Q H locs ls C E hP hS hn hl
  have a1 := g_ws_get (cy := cy) (zb := zb) hc
  have K := k p e s m args below meth c2 D cy zb Q H locs ls C E hP hS hn hl
  rcases h9 with rfl | rfl | rfl | rfl
  · exact va_alen C.1 C.2.1 C.2.2.2.2.2.2.1 hP c 0 a1 rfl hv hd K
  · exact va_alen C.1 C.2.1 C.2.2.2.2.2.2.1 hP c 1 a1 rfl hv hd K
  · exact va_alen C.1 C.2.1 C.2.2.2.2.2.2.1 hP c 2 a1 rfl hv hd K
  · exact va_alen C.1 C.2.1 C.2.2.2.2.2.2.1 hP c 3 a1 rfl hv hd K
end GO
end
section
/-! making cells, ends, calls -/
section GO2
variable {l : Launch} {own : String} {cc : ByteArray} {nL : Nat} {R : Room} {nm : String} {rt : Option FieldType} {n0 mc ms : Nat} {Xf : Nat → State → Prop} {Qf : Option Value → HP → Prop} {sl pc : Nat} {lv : List (Nat × Value)} {st : List Value} {h : HP}
def g_at (kd : Nat) : ArrayType := match kd with
  | 9 => .byte
  | 10 => .int
  | 11 => .long
  | _ => .boolean
theorem g_newS {D : va_G} {cy : Nat → ClassId} {zb : Nat × Nat} {h : HP} {H H1 : Heap} {s : State} {locs : List Loc} {kd len : Nat} (hP : va_P D vwCl (g_ws cy zb h) H) (hS : va_S (fun q => zb.1 ≤ q) s.heap H locs) (hsz : H.size = zb.1 + h.1.length) (z1 : H1.size = zb.1 + h.1.length + 1) (o1 : ∀ q : Nat, q < zb.1 + h.1.length → H1[q]? = H[q]?) (hnew : va_at D vwCl (zb.1 + h.1.length, g_cell cy zb (hN h kd len) h.1.length (kd, len)) H1) : va_P D vwCl (g_ws cy zb (hN h kd len)) H1 ∧ va_S (fun q => zb.1 ≤ q) s.heap H1 locs := by
  have hk : ∀ (k : Nat) (x : Nat × va_E), (g_ws cy zb h)[k]? = some x → H1[x.1]? = H[x.1]? := fun k x hx => o1 x.1 (by rw [← hsz]; exact (hP k x hx).lt)
  refine ⟨?_, ⟨Nat.le_trans hS.1 (by omega), fun x h1 h2 => (o1 x (by rw [← hsz]; exact Nat.lt_of_lt_of_le h1 hS.1)).trans (hS.2.1 x h1 h2), hS.2.2⟩⟩
  rw [← g_ws_push (cy := cy) (zb := zb) (h := h) (h' := hN h kd len) (sh := (kd, len)) rfl (fun c' sh' hne => g_cell_N hne) rfl]
  refine (hP.kept hk).app (fun k x hx => ?_)
  have hz : k < 1 := (List.getElem?_eq_some_iff.mp hx).1
  rw [show k = 0 by omega] at hx
  cases hx
  exact hnew
theorem g_RA_fun {U : State} {c1 c2 : ClassId} {ty : FieldType} (hp : ty = .byte ∨ ty = .int ∨ ty = .long ∨ ty = .boolean) (h1 : va_RA U c1 ty) (h2 : U.vm.findClass ("[" ++ ty.toString) = some c2) : c2 = c1 := by
  rcases hp with rfl | rfl | rfl | rfl <;> exact Option.some.inj (h2.symm.trans h1)
theorem go_newa {kd len : Nat} {n : Int32} (h9 : kd = 9 ∨ kd = 10 ∨ kd = 11 ∨ kd = 12) (ha : Cond.arrayClass (newarray.typeOf (g_at kd)) ∈ gw) (hn0 : ¬ n < 0) (hN0 : n.toNatClampNeg = len) (hby : len * componentBytes (newarray.typeOf (g_at kd)) ≤ 536870912) (hcs : h.1.length - n0 + 1 ≤ R.cells) (hsl : sl + len ≤ R.slots) (hd : decode cc pc = .ok (.newarray (g_at kd), 2)) (k : Go l own cc nL R nm rt n0 mc ms Xf Qf (sl + len) (pc + 2) lv (.ref h.1.length :: st) (hN h kd len)) : Go l own cc nL R nm rt n0 mc ms Xf Qf sl pc lv (.int n :: st) h := by
  intro p e s m args below meth c D cy zb Q H locs ls C E hP hS hn hl
  refine g_sz (fun hup => ?_)
  have h0 := C.2.2.2.2.2.2.2.1
  have hlo := g_lo hP hS h0 hn
  have hsz : H.size = zb.1 + h.1.length := by omega
  refine va_newaK C.1 C.2.1 (C.2.2.2.2.1 _ ha) rfl hd rfl hn0 hN0 hby hcs hsl hsz fun H1 cA e1 z1 o1 hAr hNm => ?_
  have hK := C.2.2.2.2.2.2.1
  have key : va_at D vwCl (zb.1 + h.1.length, g_cell cy zb (hN h kd len) h.1.length (kd, len)) H1 := by
    rcases h9 with rfl | rfl | rfl | rfl
    · have hcA := g_RA_fun (Or.inl rfl) (hK.2 0 _ rfl).2 hNm
      subst hcA
      simp only [g_cell, hN]
      exact e1.trans (by simp [vp_cell, defaultValue, newarray.typeOf, g_at])
    · have hcA := g_RA_fun (Or.inr (Or.inl rfl)) (hK.2 1 _ rfl).2 hNm
      subst hcA
      simp only [g_cell, hN]
      exact e1.trans (by simp [vp_cell, defaultValue, newarray.typeOf, g_at])
    · have hcA := g_RA_fun (Or.inr (Or.inr (Or.inl rfl))) (hK.2 2 _ rfl).2 hNm
      subst hcA
      simp only [g_cell, hN]
      exact e1.trans (by simp [vp_cell, defaultValue, newarray.typeOf, g_at])
    · have hcA := g_RA_fun (Or.inr (Or.inr (Or.inr rfl))) (hK.2 3 _ rfl).2 hNm
      subst hcA
      simp only [g_cell, hN]
      exact e1.trans (by simp [vp_cell, defaultValue, newarray.typeOf, g_at])
  obtain ⟨hP1, hS1⟩ := g_newS hP hS hsz z1 o1 key
  have K := k p e s m args below meth c D cy zb Q H1 locs ls C E hP1 hS1 (by simp [hN]; omega) hl
  have hc1 : (hN h kd len).1.length - n0 = h.1.length - n0 + 1 := by simp [hN]; omega
  rw [hc1] at K
  exact K
def g_df (ty : FieldType) : Value := if g_kind ty = 0 then .int 0 else if g_kind ty = 1 then .long 0 else .null
theorem g_dfs (ci : Nat) (C : String) (T : u_T) (N : Nat) (hc : vwCl[ci]? = some (C, T, N)) : ∀ j, j < N → defaultValue (g_ty ci j) = g_df (g_ty ci j) := by
  match ci, hc with
  | 0, hc => cases hc; decide +kernel
  | 1, hc => cases hc; decide +kernel
  | 2, hc => cases hc; decide +kernel
  | 3, hc => cases hc; decide +kernel
  | 4, hc => cases hc; decide +kernel
  | 5, hc => cases hc; decide +kernel
  | 6, hc => cases hc; decide +kernel
  | 7, hc => cases hc; decide +kernel
  | 8, hc => cases hc; decide +kernel
  | k + 9, hc => simp [vwCl] at hc
theorem go_new {ci idx N : Nat} {Cn : String} {T : u_T} (hc : vwCl[ci]? = some (Cn, T, N)) (h1 : Cond.classLink own idx Cn ∈ gw) (h2 : Cond.instantiable Cn N ∈ gw) (h3 : Cond.initialized Cn ∈ gw) (hcs : h.1.length - n0 + 1 ≤ R.cells) (hsl : sl + N ≤ R.slots) (hd : decode cc pc = .ok (.new idx, 3)) (k : Go l own cc nL R nm rt n0 mc ms Xf Qf (sl + N) (pc + 3) lv (.ref h.1.length :: st) (hN h ci N)) : Go l own cc nL R nm rt n0 mc ms Xf Qf sl pc lv st h := by
  intro p e s m args below meth c D cy zb Q H locs ls C E hP hS hn hl
  refine g_sz (fun hup => ?_)
  have h0 := C.2.2.2.2.2.2.2.1
  have hlo := g_lo hP hS h0 hn
  have hsz : H.size = zb.1 + h.1.length := by omega
  have hK := C.2.2.2.2.2.2.1
  have hKn := hK.1 ci _ hc
  have hts := C.2.2.2.2.1
  obtain ⟨g1, g2, g3⟩ := g_in ci Cn T N hc
  have hci : ci < 9 := (List.getElem?_eq_some_iff.mp hc).1
  refine W.newcK C.1 C.2.1 C.2.2.2.1 (hts _ h1) (hts _ h2) (hts _ h3) rfl hd hcs hsl hKn.2.1 hsz fun H1 kC hkC e1 z1 o1 => ?_
  have key : va_at D vwCl (zb.1 + h.1.length, g_cell cy zb (hN h ci N) h.1.length (ci, N)) H1 := by
    rw [show g_cell cy zb (hN h ci N) h.1.length (ci, N) = .inr (ci, (List.range N).map (fun j => g_fv zb (hN h ci N) h.1.length j (g_ty ci j))) by simp [g_cell, hci]]
    refine ⟨_, hc, (u_born (g_ty ci) hts g1 hKn hkC e1 g2).to (fun j hj => ?_)⟩
    rw [g_dfs ci Cn T N hc j hj]
    simp only [vp_V, g_df, g_fv, hN]
    rw [List.getD_eq_getElem?_getD, List.getElem?_map, List.getElem?_range hj]
    simp [gv]
  obtain ⟨hP1, hS1⟩ := g_newS hP hS hsz z1 o1 key
  have K := k p e s m args below meth c D cy zb Q H1 locs ls C E hP1 hS1 (by simp [hN]; omega) hl
  have hc1 : (hN h ci N).1.length - n0 = h.1.length - n0 + 1 := by simp [hN]; omega
  rw [hc1] at K
  exact K
theorem go_objInit {c idx : Nat} (h1 : Cond.methodLink own idx objectInit ∈ gw) (h2 : Cond.instanceMethod objectInit ∈ gw) (h3 : Cond.code objectInit ⟨#[0xb1]⟩ 1 none ∈ gw) (hfr : 1 ≤ R.frames) (hlo : 20 ≤ R.locals) (hst : (st.map fun v => v.category).sum ≤ 8) (hd : decode cc pc = .ok (.invokespecial idx, 3)) (k : Go l own cc nL R nm rt n0 mc ms Xf Qf sl (pc + 3) lv st h) : Go l own cc nL R nm rt n0 mc ms Xf Qf sl pc lv (.ref c :: st) h := by
  intro p e s m args below meth c2 D cy zb Q H locs ls C E hP hS hn hl
  have hts := C.2.2.2.2.1
  have hcat : ((st.map (gv zb)).map fun v => v.category).sum ≤ 8 := by
    rw [List.map_map, show ((fun v : Value => v.category) ∘ gv zb) = (fun v => v.category) from funext (gv_cat zb)]
    exact hst
  have hr := lv_room (m := m) (pc := pc) (ls := ls) (rest := (Value.ref c :: st).map (gv zb)) hcat
  exact W.objInit C.1 C.2.1 C.2.2.2.1 (hts _ h1) (hts _ h2) (hts _ h3) rfl (by rw [C.2.2.1]; exact hl.1) rfl hd hfr (by omega) (k p e s m args below meth c2 D cy zb Q H locs ls C E hP hS hn hl)
/-! ends -/
theorem go_iret {v : Int32} {ty : FieldType} (hna : narrow ty (.int v) = .int v) (hq : Qf (some (.int v)) h) (hlen : h.1.length = n0 + mc) (hsl : sl ≤ ms) (hd : decode cc pc = .ok (.ireturn, 1)) : Go l own cc nL R nm (some ty) n0 mc ms Xf Qf sl pc lv [.int v] h := by
  intro p e s m args below meth c2 D cy zb Q H locs ls C E hP hS hn hl
  exact W.widen (by omega) hsl (E (some (.int v)) h H locs pc ls hq ⟨hd, hna⟩ hlen hP hS)
theorem go_lret {v : Int64} (hq : Qf (some (.long v)) h) (hlen : h.1.length = n0 + mc) (hsl : sl ≤ ms) (hd : decode cc pc = .ok (.lreturn, 1)) : Go l own cc nL R nm (some .long) n0 mc ms Xf Qf sl pc lv [.long v] h := by
  intro p e s m args below meth c2 D cy zb Q H locs ls C E hP hS hn hl
  exact W.widen (by omega) hsl (E (some (.long v)) h H locs pc ls hq ⟨hd, rfl⟩ hlen hP hS)
theorem go_vret (hq : Qf none h) (hlen : h.1.length = n0 + mc) (hsl : sl ≤ ms) (hd : decode cc pc = .ok (.return_, 1)) : Go l own cc nL R nm none n0 mc ms Xf Qf sl pc lv [] h := by
  intro p e s m args below meth c2 D cy zb Q H locs ls C E hP hS hn hl
  exact W.widen (by omega) hsl (E none h H locs pc ls hq hd hlen hP hS)
end GO2
/-! contracts -/
def g_rm (d mc ms : Nat) : Room := { frames := d, cells := mc, slots := ms, locals := 40 * d }
def g_Pc (D : va_G) (cy : Nat → ClassId) (zb : Nat × Nat) (as : List Value) (h : HP) : Array Value → State → Prop := va_Pc (as.map (gv zb)) (fun U => U.heap.size = zb.1 + h.1.length ∧ va_P D vwCl (g_ws cy zb h) U.heap ∧ va_K D vwCl (g_tys cy) U ∧ gw_N U)
def g_Qc (D : va_G) (cy : Nat → ClassId) (zb : Nat × Nat) (h : HP) (mc : Nat) (Qf : Option Value → HP → Prop) : Array Value → State → Outcome → State → Prop := fun _ st oc t => (∃ (r : Option Value) (h' : HP), oc = .returned (r.map (gv zb)) ∧ Qf r h' ∧ va_P D vwCl (g_ws cy zb h') t.heap ∧ h'.1.length = h.1.length + mc) ∧ va_F (fun q => zb.1 ≤ q) st t
def Mt (l : Launch) (y : MethodName) (cc : ByteArray) (nL : Nat) (rt : Option FieldType) (d : Nat) (as : List Value) (h : HP) (mc ms : Nat) (Qf : Option Value → HP → Prop) : Prop := ∀ (D : va_G) (cy : Nat → ClassId) (zb : Nat × Nat), Met l y (.code y cc nL rt :: gw) (g_rm d mc ms) (g_Pc D cy zb as h) (g_Qc D cy zb h mc Qf) mc ms (fun q => zb.1 ≤ q)
theorem g_blind (D : va_G) (cy : Nat → ClassId) (zb : Nat × Nat) (as : List Value) (h : HP) : FrameBlind (g_Pc D cy zb as h) := by
  intro a U g mk q
  obtain ⟨h1, h2, h3, h4, h5⟩ := q
  exact ⟨h1, h2, h3, va_K.moved (u := U) (U := U.calling g mk a) (Vm.Alike.refl U.vm) h4, gw_N.same (u := U) (U := U.calling g mk a) rfl h5⟩
set_option maxHeartbeats 1000000 in
theorem Mt_of {l : Launch} {y : MethodName} {cc : ByteArray} {nL : Nat} {rt : Option FieldType} {d : Nat} {as : List Value} {h : HP} {mc ms : Nat} {Qf : Option Value → HP → Prop} (hy : plainName y.cls = true) (hlen : (lg_sl as).length ≤ nL) (body : Go l y.cls cc nL (g_rm d mc ms) y.name rt h.1.length mc ms (fun _ _ => True) Qf 0 0 (lv_args 0 as) [] h) : Mt l y cc nL rt d as h mc ms Qf := by
  intro D cy zb
  refine Met.ofW (cc := cc) (maxL := nL) (ret := rt) hy rfl ?_
  intro p e s m args below meth c s₁ B hml hv
  obtain ⟨rfl, hsz, hP, hK, hN⟩ := hv
  have hr := B.returns
  have hlocks := B.notSynchronized
  have hts0 := atoms_spec (ws := .code y cc nL rt :: gw) B.pre
  have hts : ∀ w ∈ gw, w.before (as.map (gv zb)).toArray s = true := fun w hw => hts0 w (List.mem_cons_of_mem _ hw)
  have hown : s.vm.findClass y.cls = some m.cls := findClass_of_methodNamed B.named
  have hin : meth.name = y.name := (name_of_methodNamed B.named B.method).1
  have hl := lv_entry (as.map (gv zb)) (n := nL) (by rw [g_sl_len]; exact hlen)
  rw [lg_entry_eq]
  rw [g_args_ms] at hl
  have C : Cx y.cls cc nL y.name h.1.length (fun _ _ => True) D cy zb p s m (as.map (gv zb)).toArray meth c := ⟨B.exec, B.bytes, hml, hown, hts, hN, hK, hsz, hin, trivial⟩
  have E : Ge l cc (g_rm d mc ms) rt h.1.length mc ms Qf D cy zb p e s m (as.map (gv zb)).toArray below meth c (MQ below (g_Qc D cy zb h mc Qf) (as.map (gv zb)).toArray s mc ms (fun q => zb.1 ≤ q)) := by
    intro r h' H locs pc ls hq hret hl' hP' hS'
    have hpost : ∀ t : State, t.heap = H → s.WarmedH t.vm → g_Qc D cy zb h mc Qf (as.map (gv zb)).toArray s (.returned (r.map (gv zb))) t := fun t ht _ => ⟨⟨r, h', rfl, hq, by rw [ht]; exact hP', hl'⟩, hS'.F ht⟩
    unfold g_ret at hret
    split at hret
    · exact W.vret B.exec B.bytes hr hpost hS'.2.2 hret
    · exact W.zret B.exec B.bytes hr hret.2 hpost hS'.2.2 hret.1
    · obtain ⟨h1, rfl⟩ := hret
      exact W.lret B.exec B.bytes hr hpost hS'.2.2 h1
    · exact hret.elim
  have K := body p e s m _ below meth c D cy zb _ s.heap [] _ C E hP va_S.rf (Nat.le_refl _) hl
  rw [Nat.sub_self] at K
  exact K
/-! calls -/
def ML (own : String) (idx : Nat) (y : MethodName) (cc : ByteArray) (nL : Nat) (rt : Option FieldType) (np : Nat) : Prop :=
  (Cond.methodLink own idx y ∈ gw ∨ ∃ host, Cond.methodLinkNest own idx y host ∈ gw_n) ∧ Cond.initialized y.cls ∈ gw ∧ Cond.code y cc nL rt ∈ gw ∧ (y.cls ≠ "java/lang/invoke/MethodHandle" ∧ y.cls ≠ "java/lang/invoke/VarHandle" ∧ (parseMethodDescriptor y.desc).map (fun d => d.parameters.length) = some np)
section GO3
variable {l : Launch} {own : String} {cc : ByteArray} {nL : Nat} {R : Room} {nm : String} {rt : Option FieldType} {n0 mc ms : Nat} {Xf : Nat → State → Prop} {Qf : Option Value → HP → Prop} {sl pc : Nat} {lv : List (Nat × Value)} {st : List Value} {h : HP}
theorem g_after {p : Program} {e : Env} {s : State} {m : MethodId} {args : Array Value} {below : List Frame} {meth : Method} {c : Code} {D : va_G} {cy : Nat → ClassId} {zb : Nat × Nat} {Q : State → Prop} {H : Heap} {locs : List Loc} {ls : Array Slot} {st0 rest : List Value} {mc' ms' : Nat} {Qc : Option Value → HP → Prop} {a : Array Value}
    (C : Cx own cc nL nm n0 Xf D cy zb p s m args meth c) (E : Ge l cc R rt n0 mc ms Qf D cy zb p e s m args below meth c Q) (hS : va_S (fun q => zb.1 ≤ q) s.heap H locs) (hn : n0 ≤ h.1.length) (hl : lv_has ls nL (g_ms zb lv))
    (hr : va_Run p l e R s m args below meth c H locs (h.1.length - n0) sl mc' ms' (F0 m pc ls st0) (rest.map (gv zb)) (g_Qc D cy zb h mc' Qc a) (fun q => zb.1 ≤ q))
    (k : ∀ (r : Option Value) (h' : HP), Qc r h' → h'.1.length = h.1.length + mc' → Go l own cc nL R nm rt n0 mc ms Xf Qf (sl + ms') (pc + 3) lv (r.toList ++ rest) h') : W p l e R s m args below meth c H locs (h.1.length - n0) sl Q (F0 m pc ls st0) := by
  intro T hT X
  obtain ⟨v, st₀, t, T', L, h0, X', hL, e1, e2, ⟨⟨r, h', hv, hq, hP', hlen⟩, hz, hk⟩, hst⟩ := hr T hT X
  have hv' : v = r.map (gv zb) := by cases hv; rfl
  rw [h0] at hz hk
  have hS' : va_S (fun q => zb.1 ≤ q) s.heap T'.heap (locs ++ L) := ⟨Nat.le_trans hS.1 (by rw [e1]; exact hz), fun q h1 h2 => by rw [e1, hk q (Nat.lt_of_lt_of_le h1 hS.1) h2]; exact hS.2.1 q h1 h2, fun q hq => by
      rcases List.mem_append.mp hq with h | h
      · exact hS.2.2 q h
      · exact hL q h⟩
  have K := k r h' hq hlen p e s m args below meth c D cy zb Q T'.heap (locs ++ L) ls C E (by rw [e1]; exact hP') hS' (by omega) hl
  rw [show h'.1.length - n0 = h.1.length - n0 + mc' by omega] at K
  have hmap : (r.toList ++ rest).map (gv zb) = v.toList ++ rest.map (gv zb) := by
    rw [hv']
    cases r <;> rfl
  rw [hmap] at K
  obtain ⟨t2, a1, b1⟩ := K T' rfl X'
  exact ⟨t2, hst t2 a1, b1⟩
theorem g_cats {zb : Nat × Nat} {rest : List Value} (hst : (rest.map fun v => v.category).sum ≤ 8) : ((rest.map (gv zb)).map fun v => v.category).sum ≤ 8 := by
  rw [List.map_map, show ((fun v : Value => v.category) ∘ gv zb) = (fun v => v.category) from funext (gv_cat zb)]
  exact hst
set_option maxHeartbeats 1000000 in
theorem go_invV {c ci len idx np d' mc' ms' nL' : Nat} {y : MethodName} {cc' : ByteArray} {rt' : Option FieldType} {As rest : List Value} {Qc : Option Value → HP → Prop} {T : u_T} {N : Nat} (hM : Mt l y cc' nL' rt' d' (.ref c :: As) h mc' ms' Qc) (hL : ML own idx y cc' nL' rt' np) (hI : Cond.instanceMethod y ∈ gw) (hsel : Cond.selects y.cls y y ∈ gw) (hc : h.1[c]? = some (ci, len)) (hci : vwCl[ci]? = some (y.cls, T, N)) (hstk : st = As.reverse ++ .ref c :: rest) (hnp : As.length = np) (hrest : (rest.map fun v => v.category).sum ≤ 8) (hfr : d' + 1 ≤ R.frames) (hlo : 8 + (nL' + 11) + 40 * d' ≤ R.locals) (hcs : h.1.length - n0 + mc' ≤ R.cells) (hsl : sl + ms' ≤ R.slots) (hd : decode cc pc = .ok (.invokevirtual idx, 3)) (k : ∀ (r : Option Value) (h' : HP), Qc r h' → h'.1.length = h.1.length + mc' → Go l own cc nL R nm rt n0 mc ms Xf Qf (sl + ms') (pc + 3) lv (r.toList ++ rest) h') : Go l own cc nL R nm rt n0 mc ms Xf Qf sl pc lv st h := by
  intro p e s m args below meth c2 D cy zb Q H locs ls C E hP hS hn hl
  refine g_sz (fun hup => ?_)
  have h0 := C.2.2.2.2.2.2.2.1
  have hlo0 := g_lo hP hS h0 hn
  have hsz : H.size = zb.1 + h.1.length := by omega
  have hts := C.2.2.2.2.1
  have hK := C.2.2.2.2.2.2.1
  have hg : GoodIn gw (Cond.code y cc' nL' rt' :: gw) := gw_good (fun w hw => hw) hL.2.2.1
  have S : CallFix p m c2 cc nL s args gw own := ⟨C.1, C.2.1, C.2.2.1, C.2.2.2.1, hts⟩
  have hcell : (g_ws cy zb h)[c]? = some (zb.1 + c, .inr (ci, (List.range len).map (fun j => g_fv zb h c j (g_ty ci j)))) := by
    rw [g_ws_get hc]; simp [g_cell, (List.getElem?_eq_some_iff.mp hci).1]
    exact fun hh => absurd (List.getElem?_eq_some_iff.mp hci).1 (by simpa [vwCl] using hh)
  have hpre : PreV s H y.cls (zb.1 + c) (g_Pc D cy zb (.ref c :: As) h) (As.map (gv zb)) := ⟨g_blind D cy zb _ h, va_recv hK hP hci hcell, fun U hU hW => ⟨rfl, by rw [hU]; exact hsz, by rw [hU]; exact hP, va_K.moved hW.alike hK, gw_N.warm hW C.2.2.2.2.2.1⟩⟩
  have hstk' : (F0 m pc ls (st.map (gv zb))).stack = (As.map (gv zb)).reverse ++ .ref (zb.1 + c) :: rest.map (gv zb) := by
    show st.map (gv zb) = _
    rw [hstk, List.map_append, List.map_reverse]
    rfl
  refine g_after (Qc := Qc) (rest := rest) (a := (Value.ref (zb.1 + c) :: As.map (gv zb)).toArray) C E hS hn hl ?_ k
  rcases hL.1 with hl1 | ⟨host, hl1⟩
  · exact va_runV S (hM D cy zb) ⟨callB_of np hts hg rfl rfl rfl (hts _ hL.2.1) (hts _ hl1) hL.2.2.2 ⟨hfr, hlo⟩, hts _ hI, hts _ hsel⟩ hpre rfl (by rw [List.length_map]; exact hnp) hl.1 hstk' (lv_room (g_cats hrest)) hd ⟨hcs, hsl⟩
  · exact va_runVN S (hM D cy zb) ⟨va_cnB np hts hg rfl rfl rfl (C.2.2.2.2.2.1 _ hl1) (hts _ hL.2.1) hL.2.2.2 ⟨hfr, hlo⟩, hts _ hI, hts _ hsel⟩ hpre rfl (by rw [List.length_map]; exact hnp) hl.1 hstk' (lv_room (g_cats hrest)) hd ⟨hcs, hsl⟩
set_option maxHeartbeats 1000000 in
theorem go_invS {idx np d' mc' ms' nL' : Nat} {y : MethodName} {cc' : ByteArray} {rt' : Option FieldType} {As rest : List Value} {Qc : Option Value → HP → Prop} (hM : Mt l y cc' nL' rt' d' As h mc' ms' Qc) (hL : ML own idx y cc' nL' rt' np) (hI : Cond.static y ∈ gw) (hstk : st = As.reverse ++ rest) (hnp : As.length = np) (hrest : (rest.map fun v => v.category).sum ≤ 8) (hfr : d' + 1 ≤ R.frames) (hlo : 8 + (nL' + 11) + 40 * d' ≤ R.locals) (hcs : h.1.length - n0 + mc' ≤ R.cells) (hsl : sl + ms' ≤ R.slots) (hd : decode cc pc = .ok (.invokestatic idx, 3)) (k : ∀ (r : Option Value) (h' : HP), Qc r h' → h'.1.length = h.1.length + mc' → Go l own cc nL R nm rt n0 mc ms Xf Qf (sl + ms') (pc + 3) lv (r.toList ++ rest) h') : Go l own cc nL R nm rt n0 mc ms Xf Qf sl pc lv st h := by
  intro p e s m args below meth c2 D cy zb Q H locs ls C E hP hS hn hl
  refine g_sz (fun hup => ?_)
  have h0 := C.2.2.2.2.2.2.2.1
  have hlo0 := g_lo hP hS h0 hn
  have hsz : H.size = zb.1 + h.1.length := by omega
  have hts := C.2.2.2.2.1
  have hK := C.2.2.2.2.2.2.1
  have hg : GoodIn gw (Cond.code y cc' nL' rt' :: gw) := gw_good (fun w hw => hw) hL.2.2.1
  have S : CallFix p m c2 cc nL s args gw own := ⟨C.1, C.2.1, C.2.2.1, C.2.2.2.1, hts⟩
  have hpre : PreS s H (g_Pc D cy zb As h) (As.map (gv zb)) := ⟨g_blind D cy zb _ h, fun U hU hW => ⟨rfl, by rw [hU]; exact hsz, by rw [hU]; exact hP, va_K.moved hW.alike hK, gw_N.warm hW C.2.2.2.2.2.1⟩⟩
  have hstk' : (F0 m pc ls (st.map (gv zb))).stack = (As.map (gv zb)).reverse ++ rest.map (gv zb) := by
    show st.map (gv zb) = _
    rw [hstk, List.map_append, List.map_reverse]
  refine g_after (Qc := Qc) (rest := rest) (a := (As.map (gv zb)).toArray) C E hS hn hl ?_ k
  rcases hL.1 with hl1 | ⟨host, hl1⟩
  · exact va_runS S (hM D cy zb) ⟨callB_of np hts hg rfl rfl rfl (hts _ hL.2.1) (hts _ hl1) hL.2.2.2 ⟨hfr, hlo⟩, hts _ hI⟩ hpre rfl (by rw [List.length_map]; exact hnp) hl.1 hstk' (lv_room (g_cats hrest)) hd ⟨hcs, hsl⟩
  · exact va_runSN S (hM D cy zb) ⟨va_cnB np hts hg rfl rfl rfl (C.2.2.2.2.2.1 _ hl1) (hts _ hL.2.1) hL.2.2.2 ⟨hfr, hlo⟩, hts _ hI, trivial⟩ hpre rfl (by rw [List.length_map]; exact hnp) hl.1 hstk' (lv_room (g_cats hrest)) hd ⟨hcs, hsl⟩
set_option maxHeartbeats 1000000 in
theorem go_invI {c idx np d' mc' ms' nL' : Nat} {y : MethodName} {cc' : ByteArray} {As rest : List Value} {Qc : Option Value → HP → Prop} (hM : Mt l y cc' nL' none d' (.ref c :: As) h mc' ms' Qc) (hL : ML own idx y cc' nL' none np) (hI : Cond.instanceMethod y ∈ gw) (hy1 : y.name = "<init>") (hstk : st = As.reverse ++ .ref c :: rest) (hnp : As.length = np) (hrest : (rest.map fun v => v.category).sum ≤ 8) (hfr : d' + 1 ≤ R.frames) (hlo : 8 + (nL' + 11) + 40 * d' ≤ R.locals) (hcs : h.1.length - n0 + mc' ≤ R.cells) (hsl : sl + ms' ≤ R.slots) (hd : decode cc pc = .ok (.invokespecial idx, 3)) (k : ∀ (r : Option Value) (h' : HP), Qc r h' → h'.1.length = h.1.length + mc' → Go l own cc nL R nm rt n0 mc ms Xf Qf (sl + ms') (pc + 3) lv (r.toList ++ rest) h') : Go l own cc nL R nm rt n0 mc ms Xf Qf sl pc lv st h := by
  intro p e s m args below meth c2 D cy zb Q H locs ls C E hP hS hn hl
  refine g_sz (fun hup => ?_)
  have h0 := C.2.2.2.2.2.2.2.1
  have hlo0 := g_lo hP hS h0 hn
  have hsz : H.size = zb.1 + h.1.length := by omega
  have hts := C.2.2.2.2.1
  have hK := C.2.2.2.2.2.2.1
  have hg : GoodIn gw (Cond.code y cc' nL' none :: gw) := gw_good (fun w hw => hw) hL.2.2.1
  have S : CallFix p m c2 cc nL s args gw own := ⟨C.1, C.2.1, C.2.2.1, C.2.2.2.1, hts⟩
  have hpre : PreS s H (g_Pc D cy zb (.ref c :: As) h) (.ref (zb.1 + c) :: As.map (gv zb)) := ⟨g_blind D cy zb _ h, fun U hU hW => ⟨rfl, by rw [hU]; exact hsz, by rw [hU]; exact hP, va_K.moved hW.alike hK, gw_N.warm hW C.2.2.2.2.2.1⟩⟩
  have hstk' : (F0 m pc ls (st.map (gv zb))).stack = (As.map (gv zb)).reverse ++ .ref (zb.1 + c) :: rest.map (gv zb) := by
    show st.map (gv zb) = _
    rw [hstk, List.map_append, List.map_reverse]
    rfl
  refine g_after (Qc := Qc) (rest := rest) (a := (Value.ref (zb.1 + c) :: As.map (gv zb)).toArray) C E hS hn hl ?_ k
  rcases hL.1 with hl1 | ⟨host, hl1⟩
  · exact va_runI S (hM D cy zb) ⟨callB_of np hts hg rfl rfl rfl (hts _ hL.2.1) (hts _ hl1) hL.2.2.2 ⟨hfr, hlo⟩, hy1, hts _ hI⟩ hpre rfl (by rw [List.length_map]; exact hnp) hl.1 hstk' (lv_room (g_cats hrest)) hd ⟨hcs, hsl⟩
  · exact va_runIN S (hM D cy zb) ⟨va_cnB np hts hg rfl rfl rfl (C.2.2.2.2.2.1 _ hl1) (hts _ hL.2.1) hL.2.2.2 ⟨hfr, hlo⟩, hy1, hts _ hI⟩ hpre rfl (by rw [List.length_map]; exact hnp) hl.1 hstk' (lv_room (g_cats hrest)) hd ⟨hcs, hsl⟩
/-! the law's script -/
theorem go_slen {L x : Nat} {xs : Nat → Int32} (hX : ∀ b s, Xf b s → va_X b L xs s s.heap ∧ b < s.heap.size) (h0n : n0 = 0) (hd : decode cc pc = .ok (.arraylength, 1)) (k : Go l own cc nL R nm rt n0 mc ms Xf Qf sl (pc + 1) lv (.int (Int32.ofNat L) :: st) h) : Go l own cc nL R nm rt n0 mc ms Xf Qf sl pc lv (.retAddr x :: st) h := by
  intro p e s m args below meth c2 D cy zb Q H locs ls C E hP hS hn hl
  obtain ⟨hx1, hx2⟩ := hX _ _ C.2.2.2.2.2.2.2.2.2
  have h0 := C.2.2.2.2.2.2.2.1
  exact va_slen C.1 C.2.1 hx1 hx2 (fun q => by have q : zb.1 ≤ zb.2 := q; omega) hS hd (k p e s m args below meth c2 D cy zb Q H locs ls C E hP hS hn hl)
theorem go_sld {L x : Nat} {i : Int32} {xs : Nat → Int32} (hX : ∀ b s, Xf b s → va_X b L xs s s.heap ∧ b < s.heap.size) (h0n : n0 = 0) (hi : vp_in i L) (hd : decode cc pc = .ok (.iaload, 1)) (k : Go l own cc nL R nm rt n0 mc ms Xf Qf sl (pc + 1) lv (.int (xs i.toNatClampNeg) :: st) h) : Go l own cc nL R nm rt n0 mc ms Xf Qf sl pc lv (.int i :: .retAddr x :: st) h := by
  intro p e s m args below meth c2 D cy zb Q H locs ls C E hP hS hn hl
  obtain ⟨hx1, hx2⟩ := hX _ _ C.2.2.2.2.2.2.2.2.2
  have h0 := C.2.2.2.2.2.2.2.1
  exact va_sld C.1 C.2.1 hx1 hx2 (fun q => by have q : zb.1 ≤ zb.2 := q; omega) hS hi hd (k p e s m args below meth c2 D cy zb Q H locs ls C E hP hS hn hl)
end GO3
end
section
theorem fL_X0_9 : FL RX0 9 0 0 := ⟨RX0, TX0, 20, rfl, by decide, rfl, Or.inl (gw_mem 191 (by decide +kernel) rfl)⟩
theorem fP_X0_9 (nm : String) : FP RX0 nm 9 0 0 := ⟨RX0, TX0, 20, rfl, by decide, rfl, Or.inl ⟨gw_mem 191 (by decide +kernel) rfl, rfl⟩⟩
theorem fL_X0_15 : FL RX0 15 0 1 := ⟨RX0, TX0, 20, rfl, by decide, rfl, Or.inl (gw_mem 196 (by decide +kernel) rfl)⟩
theorem fP_X0_15 (nm : String) : FP RX0 nm 15 0 1 := ⟨RX0, TX0, 20, rfl, by decide, rfl, Or.inl ⟨gw_mem 196 (by decide +kernel) rfl, rfl⟩⟩
theorem fL_X0_18 : FL RX0 18 0 2 := ⟨RX0, TX0, 20, rfl, by decide, rfl, Or.inl (gw_mem 202 (by decide +kernel) rfl)⟩
theorem fP_X0_18 (nm : String) : FP RX0 nm 18 0 2 := ⟨RX0, TX0, 20, rfl, by decide, rfl, Or.inl ⟨gw_mem 202 (by decide +kernel) rfl, rfl⟩⟩
theorem fL_X0_22 : FL RX0 22 0 3 := ⟨RX0, TX0, 20, rfl, by decide, rfl, Or.inl (gw_mem 206 (by decide +kernel) rfl)⟩
theorem fP_X0_22 (nm : String) : FP RX0 nm 22 0 3 := ⟨RX0, TX0, 20, rfl, by decide, rfl, Or.inl ⟨gw_mem 206 (by decide +kernel) rfl, rfl⟩⟩
theorem fL_X0_25 : FL RX0 25 0 4 := ⟨RX0, TX0, 20, rfl, by decide, rfl, Or.inl (gw_mem 208 (by decide +kernel) rfl)⟩
theorem fP_X0_25 (nm : String) : FP RX0 nm 25 0 4 := ⟨RX0, TX0, 20, rfl, by decide, rfl, Or.inl ⟨gw_mem 208 (by decide +kernel) rfl, rfl⟩⟩
theorem fL_X0_28 : FL RX0 28 0 5 := ⟨RX0, TX0, 20, rfl, by decide, rfl, Or.inl (gw_mem 211 (by decide +kernel) rfl)⟩
theorem fP_X0_28 : FP RX0 "<init>" 28 0 5 := ⟨RX0, TX0, 20, rfl, by decide, rfl, Or.inr (Or.inl ⟨gw_mem 211 (by decide +kernel) rfl, rfl, rfl, rfl⟩)⟩
theorem fL_X0_32 : FL RX0 32 0 6 := ⟨RX0, TX0, 20, rfl, by decide, rfl, Or.inl (gw_mem 215 (by decide +kernel) rfl)⟩
theorem fP_X0_32 : FP RX0 "<init>" 32 0 6 := ⟨RX0, TX0, 20, rfl, by decide, rfl, Or.inr (Or.inl ⟨gw_mem 215 (by decide +kernel) rfl, rfl, rfl, rfl⟩)⟩
theorem fL_X0_35 : FL RX0 35 0 7 := ⟨RX0, TX0, 20, rfl, by decide, rfl, Or.inl (gw_mem 222 (by decide +kernel) rfl)⟩
theorem fP_X0_35 : FP RX0 "<init>" 35 0 7 := ⟨RX0, TX0, 20, rfl, by decide, rfl, Or.inr (Or.inl ⟨gw_mem 222 (by decide +kernel) rfl, rfl, rfl, rfl⟩)⟩
theorem fL_X0_38 : FL RX0 38 0 8 := ⟨RX0, TX0, 20, rfl, by decide, rfl, Or.inl (gw_mem 226 (by decide +kernel) rfl)⟩
theorem fP_X0_38 : FP RX0 "<init>" 38 0 8 := ⟨RX0, TX0, 20, rfl, by decide, rfl, Or.inr (Or.inl ⟨gw_mem 226 (by decide +kernel) rfl, rfl, rfl, rfl⟩)⟩
theorem fL_X0_41 : FL RX0 41 0 9 := ⟨RX0, TX0, 20, rfl, by decide, rfl, Or.inl (gw_mem 228 (by decide +kernel) rfl)⟩
theorem fP_X0_41 : FP RX0 "<init>" 41 0 9 := ⟨RX0, TX0, 20, rfl, by decide, rfl, Or.inr (Or.inl ⟨gw_mem 228 (by decide +kernel) rfl, rfl, rfl, rfl⟩)⟩
theorem fL_X0_44 : FL RX0 44 0 10 := ⟨RX0, TX0, 20, rfl, by decide, rfl, Or.inl (gw_mem 230 (by decide +kernel) rfl)⟩
theorem fP_X0_44 : FP RX0 "<init>" 44 0 10 := ⟨RX0, TX0, 20, rfl, by decide, rfl, Or.inr (Or.inl ⟨gw_mem 230 (by decide +kernel) rfl, rfl, rfl, rfl⟩)⟩
theorem fL_X0_47 : FL RX0 47 0 11 := ⟨RX0, TX0, 20, rfl, by decide, rfl, Or.inl (gw_mem 233 (by decide +kernel) rfl)⟩
theorem fP_X0_47 : FP RX0 "<init>" 47 0 11 := ⟨RX0, TX0, 20, rfl, by decide, rfl, Or.inr (Or.inl ⟨gw_mem 233 (by decide +kernel) rfl, rfl, rfl, rfl⟩)⟩
theorem fL_X0_50 : FL RX0 50 0 12 := ⟨RX0, TX0, 20, rfl, by decide, rfl, Or.inl (gw_mem 238 (by decide +kernel) rfl)⟩
theorem fP_X0_50 : FP RX0 "<init>" 50 0 12 := ⟨RX0, TX0, 20, rfl, by decide, rfl, Or.inr (Or.inl ⟨gw_mem 238 (by decide +kernel) rfl, rfl, rfl, rfl⟩)⟩
theorem fL_X0_53 : FL RX0 53 0 13 := ⟨RX0, TX0, 20, rfl, by decide, rfl, Or.inl (gw_mem 241 (by decide +kernel) rfl)⟩
theorem fP_X0_53 : FP RX0 "<init>" 53 0 13 := ⟨RX0, TX0, 20, rfl, by decide, rfl, Or.inr (Or.inl ⟨gw_mem 241 (by decide +kernel) rfl, rfl, rfl, rfl⟩)⟩
theorem fL_X0_56 : FL RX0 56 0 14 := ⟨RX0, TX0, 20, rfl, by decide, rfl, Or.inl (gw_mem 245 (by decide +kernel) rfl)⟩
theorem fP_X0_56 : FP RX0 "<init>" 56 0 14 := ⟨RX0, TX0, 20, rfl, by decide, rfl, Or.inr (Or.inl ⟨gw_mem 245 (by decide +kernel) rfl, rfl, rfl, rfl⟩)⟩
theorem fL_X0_59 : FL RX0 59 0 15 := ⟨RX0, TX0, 20, rfl, by decide, rfl, Or.inl (gw_mem 249 (by decide +kernel) rfl)⟩
theorem fP_X0_59 : FP RX0 "<init>" 59 0 15 := ⟨RX0, TX0, 20, rfl, by decide, rfl, Or.inr (Or.inl ⟨gw_mem 249 (by decide +kernel) rfl, rfl, rfl, rfl⟩)⟩
theorem fL_X0_62 : FL RX0 62 0 16 := ⟨RX0, TX0, 20, rfl, by decide, rfl, Or.inl (gw_mem 252 (by decide +kernel) rfl)⟩
theorem fP_X0_62 : FP RX0 "<init>" 62 0 16 := ⟨RX0, TX0, 20, rfl, by decide, rfl, Or.inr (Or.inl ⟨gw_mem 252 (by decide +kernel) rfl, rfl, rfl, rfl⟩)⟩
theorem fL_X0_65 : FL RX0 65 0 17 := ⟨RX0, TX0, 20, rfl, by decide, rfl, Or.inl (gw_mem 256 (by decide +kernel) rfl)⟩
theorem fP_X0_65 : FP RX0 "<init>" 65 0 17 := ⟨RX0, TX0, 20, rfl, by decide, rfl, Or.inr (Or.inl ⟨gw_mem 256 (by decide +kernel) rfl, rfl, rfl, rfl⟩)⟩
theorem fL_X0_68 : FL RX0 68 0 18 := ⟨RX0, TX0, 20, rfl, by decide, rfl, Or.inl (gw_mem 260 (by decide +kernel) rfl)⟩
theorem fP_X0_68 : FP RX0 "<init>" 68 0 18 := ⟨RX0, TX0, 20, rfl, by decide, rfl, Or.inr (Or.inl ⟨gw_mem 260 (by decide +kernel) rfl, rfl, rfl, rfl⟩)⟩
theorem fL_X0_71 : FL RX0 71 0 19 := ⟨RX0, TX0, 20, rfl, by decide, rfl, Or.inl (gw_mem 263 (by decide +kernel) rfl)⟩
theorem fP_X0_71 : FP RX0 "<init>" 71 0 19 := ⟨RX0, TX0, 20, rfl, by decide, rfl, Or.inr (Or.inl ⟨gw_mem 263 (by decide +kernel) rfl, rfl, rfl, rfl⟩)⟩
theorem fL_X1_9 : FL RX1 9 1 0 := ⟨RX1, TX1, 7, rfl, by decide, rfl, Or.inl (gw_mem 424 (by decide +kernel) rfl)⟩
theorem fP_X1_9 : FP RX1 "<init>" 9 1 0 := ⟨RX1, TX1, 7, rfl, by decide, rfl, Or.inr (Or.inl ⟨gw_mem 424 (by decide +kernel) rfl, rfl, rfl, rfl⟩)⟩
theorem fL_X1_15 : FL RX1 15 1 1 := ⟨RX1, TX1, 7, rfl, by decide, rfl, Or.inl (gw_mem 426 (by decide +kernel) rfl)⟩
theorem fP_X1_15 : FP RX1 "<init>" 15 1 1 := ⟨RX1, TX1, 7, rfl, by decide, rfl, Or.inr (Or.inl ⟨gw_mem 426 (by decide +kernel) rfl, rfl, rfl, rfl⟩)⟩
theorem fL_X1_18 : FL RX1 18 1 2 := ⟨RX1, TX1, 7, rfl, by decide, rfl, Or.inl (gw_mem 427 (by decide +kernel) rfl)⟩
theorem fP_X1_18 : FP RX1 "<init>" 18 1 2 := ⟨RX1, TX1, 7, rfl, by decide, rfl, Or.inr (Or.inl ⟨gw_mem 427 (by decide +kernel) rfl, rfl, rfl, rfl⟩)⟩
theorem fL_X1_21 : FL RX1 21 1 3 := ⟨RX1, TX1, 7, rfl, by decide, rfl, Or.inl (gw_mem 428 (by decide +kernel) rfl)⟩
theorem fP_X1_21 : FP RX1 "<init>" 21 1 3 := ⟨RX1, TX1, 7, rfl, by decide, rfl, Or.inr (Or.inl ⟨gw_mem 428 (by decide +kernel) rfl, rfl, rfl, rfl⟩)⟩
theorem fL_X1_24 : FL RX1 24 1 4 := ⟨RX1, TX1, 7, rfl, by decide, rfl, Or.inl (gw_mem 430 (by decide +kernel) rfl)⟩
theorem fP_X1_24 : FP RX1 "<init>" 24 1 4 := ⟨RX1, TX1, 7, rfl, by decide, rfl, Or.inr (Or.inl ⟨gw_mem 430 (by decide +kernel) rfl, rfl, rfl, rfl⟩)⟩
theorem fL_X1_27 : FL RX1 27 1 5 := ⟨RX1, TX1, 7, rfl, by decide, rfl, Or.inl (gw_mem 431 (by decide +kernel) rfl)⟩
theorem fP_X1_27 : FP RX1 "<init>" 27 1 5 := ⟨RX1, TX1, 7, rfl, by decide, rfl, Or.inr (Or.inl ⟨gw_mem 431 (by decide +kernel) rfl, rfl, rfl, rfl⟩)⟩
theorem fL_X1_30 : FL RX1 30 1 6 := ⟨RX1, TX1, 7, rfl, by decide, rfl, Or.inl (gw_mem 432 (by decide +kernel) rfl)⟩
theorem fP_X1_30 (nm : String) : FP RX1 nm 30 1 6 := ⟨RX1, TX1, 7, rfl, by decide, rfl, Or.inl ⟨gw_mem 432 (by decide +kernel) rfl, rfl⟩⟩
theorem fL_X1_62 : FL RX1 62 0 0 := ⟨RX0, TX0, 20, rfl, by decide, rfl, Or.inr ⟨"CallSlicer", gw_nmem 192 (by decide +kernel) rfl⟩⟩
theorem fP_X1_62 (nm : String) : FP RX1 nm 62 0 0 := ⟨RX0, TX0, 20, rfl, by decide, rfl, Or.inr (Or.inr ⟨"CallSlicer", gw_nmem 192 (by decide +kernel) rfl, rfl⟩)⟩
theorem fL_X1_68 : FL RX1 68 0 16 := ⟨RX0, TX0, 20, rfl, by decide, rfl, Or.inr ⟨"CallSlicer", gw_nmem 254 (by decide +kernel) rfl⟩⟩
theorem fL_X1_76 : FL RX1 76 0 17 := ⟨RX0, TX0, 20, rfl, by decide, rfl, Or.inr ⟨"CallSlicer", gw_nmem 258 (by decide +kernel) rfl⟩⟩
theorem fL_X1_90 : FL RX1 90 0 1 := ⟨RX0, TX0, 20, rfl, by decide, rfl, Or.inr ⟨"CallSlicer", gw_nmem 199 (by decide +kernel) rfl⟩⟩
theorem fP_X1_90 (nm : String) : FP RX1 nm 90 0 1 := ⟨RX0, TX0, 20, rfl, by decide, rfl, Or.inr (Or.inr ⟨"CallSlicer", gw_nmem 199 (by decide +kernel) rfl, rfl⟩)⟩
theorem fL_X1_93 : FL RX1 93 0 5 := ⟨RX0, TX0, 20, rfl, by decide, rfl, Or.inr ⟨"CallSlicer", gw_nmem 214 (by decide +kernel) rfl⟩⟩
theorem fL_X1_100 : FL RX1 100 0 6 := ⟨RX0, TX0, 20, rfl, by decide, rfl, Or.inr ⟨"CallSlicer", gw_nmem 218 (by decide +kernel) rfl⟩⟩
theorem fL_X1_127 : FL RX1 127 0 13 := ⟨RX0, TX0, 20, rfl, by decide, rfl, Or.inr ⟨"CallSlicer", gw_nmem 243 (by decide +kernel) rfl⟩⟩
theorem fL_X1_134 : FL RX1 134 0 14 := ⟨RX0, TX0, 20, rfl, by decide, rfl, Or.inr ⟨"CallSlicer", gw_nmem 247 (by decide +kernel) rfl⟩⟩
theorem fL_X1_141 : FL RX1 141 0 2 := ⟨RX0, TX0, 20, rfl, by decide, rfl, Or.inr ⟨"CallSlicer", gw_nmem 204 (by decide +kernel) rfl⟩⟩
theorem fP_X1_141 (nm : String) : FP RX1 nm 141 0 2 := ⟨RX0, TX0, 20, rfl, by decide, rfl, Or.inr (Or.inr ⟨"CallSlicer", gw_nmem 204 (by decide +kernel) rfl, rfl⟩)⟩
theorem fL_X1_152 : FL RX1 152 0 7 := ⟨RX0, TX0, 20, rfl, by decide, rfl, Or.inr ⟨"CallSlicer", gw_nmem 225 (by decide +kernel) rfl⟩⟩
theorem fL_X1_155 : FL RX1 155 0 4 := ⟨RX0, TX0, 20, rfl, by decide, rfl, Or.inr ⟨"CallSlicer", gw_nmem 210 (by decide +kernel) rfl⟩⟩
theorem fP_X1_155 (nm : String) : FP RX1 nm 155 0 4 := ⟨RX0, TX0, 20, rfl, by decide, rfl, Or.inr (Or.inr ⟨"CallSlicer", gw_nmem 210 (by decide +kernel) rfl, rfl⟩)⟩
theorem fL_X2_9 : FL RX2 9 2 0 := ⟨RX2, TX2, 13, rfl, by decide, rfl, Or.inl (gw_mem 496 (by decide +kernel) rfl)⟩
theorem fP_X2_9 : FP RX2 "<init>" 9 2 0 := ⟨RX2, TX2, 13, rfl, by decide, rfl, Or.inr (Or.inl ⟨gw_mem 496 (by decide +kernel) rfl, rfl, rfl, rfl⟩)⟩
theorem fL_X2_15 : FL RX2 15 2 1 := ⟨RX2, TX2, 13, rfl, by decide, rfl, Or.inl (gw_mem 497 (by decide +kernel) rfl)⟩
theorem fP_X2_15 : FP RX2 "<init>" 15 2 1 := ⟨RX2, TX2, 13, rfl, by decide, rfl, Or.inr (Or.inl ⟨gw_mem 497 (by decide +kernel) rfl, rfl, rfl, rfl⟩)⟩
theorem fL_X2_18 : FL RX2 18 2 2 := ⟨RX2, TX2, 13, rfl, by decide, rfl, Or.inl (gw_mem 498 (by decide +kernel) rfl)⟩
theorem fP_X2_18 : FP RX2 "<init>" 18 2 2 := ⟨RX2, TX2, 13, rfl, by decide, rfl, Or.inr (Or.inl ⟨gw_mem 498 (by decide +kernel) rfl, rfl, rfl, rfl⟩)⟩
theorem fL_X2_21 : FL RX2 21 2 3 := ⟨RX2, TX2, 13, rfl, by decide, rfl, Or.inl (gw_mem 499 (by decide +kernel) rfl)⟩
theorem fP_X2_21 (nm : String) : FP RX2 nm 21 2 3 := ⟨RX2, TX2, 13, rfl, by decide, rfl, Or.inl ⟨gw_mem 499 (by decide +kernel) rfl, rfl⟩⟩
theorem fL_X2_25 : FL RX2 25 2 4 := ⟨RX2, TX2, 13, rfl, by decide, rfl, Or.inl (gw_mem 500 (by decide +kernel) rfl)⟩
theorem fP_X2_25 (nm : String) : FP RX2 nm 25 2 4 := ⟨RX2, TX2, 13, rfl, by decide, rfl, Or.inl ⟨gw_mem 500 (by decide +kernel) rfl, rfl⟩⟩
theorem fL_X2_28 : FL RX2 28 2 5 := ⟨RX2, TX2, 13, rfl, by decide, rfl, Or.inl (gw_mem 501 (by decide +kernel) rfl)⟩
theorem fP_X2_28 (nm : String) : FP RX2 nm 28 2 5 := ⟨RX2, TX2, 13, rfl, by decide, rfl, Or.inl ⟨gw_mem 501 (by decide +kernel) rfl, rfl⟩⟩
theorem fL_X2_31 : FL RX2 31 2 6 := ⟨RX2, TX2, 13, rfl, by decide, rfl, Or.inl (gw_mem 502 (by decide +kernel) rfl)⟩
theorem fP_X2_31 (nm : String) : FP RX2 nm 31 2 6 := ⟨RX2, TX2, 13, rfl, by decide, rfl, Or.inl ⟨gw_mem 502 (by decide +kernel) rfl, rfl⟩⟩
theorem fL_X2_34 : FL RX2 34 2 7 := ⟨RX2, TX2, 13, rfl, by decide, rfl, Or.inl (gw_mem 503 (by decide +kernel) rfl)⟩
theorem fP_X2_34 (nm : String) : FP RX2 nm 34 2 7 := ⟨RX2, TX2, 13, rfl, by decide, rfl, Or.inl ⟨gw_mem 503 (by decide +kernel) rfl, rfl⟩⟩
theorem fL_X2_37 : FL RX2 37 2 8 := ⟨RX2, TX2, 13, rfl, by decide, rfl, Or.inl (gw_mem 504 (by decide +kernel) rfl)⟩
theorem fP_X2_37 : FP RX2 "<init>" 37 2 8 := ⟨RX2, TX2, 13, rfl, by decide, rfl, Or.inr (Or.inl ⟨gw_mem 504 (by decide +kernel) rfl, rfl, rfl, rfl⟩)⟩
theorem fL_X2_40 : FL RX2 40 2 9 := ⟨RX2, TX2, 13, rfl, by decide, rfl, Or.inl (gw_mem 505 (by decide +kernel) rfl)⟩
theorem fP_X2_40 : FP RX2 "<init>" 40 2 9 := ⟨RX2, TX2, 13, rfl, by decide, rfl, Or.inr (Or.inl ⟨gw_mem 505 (by decide +kernel) rfl, rfl, rfl, rfl⟩)⟩
theorem fL_X2_43 : FL RX2 43 2 10 := ⟨RX2, TX2, 13, rfl, by decide, rfl, Or.inl (gw_mem 506 (by decide +kernel) rfl)⟩
theorem fP_X2_43 (nm : String) : FP RX2 nm 43 2 10 := ⟨RX2, TX2, 13, rfl, by decide, rfl, Or.inl ⟨gw_mem 506 (by decide +kernel) rfl, rfl⟩⟩
theorem fL_X2_46 : FL RX2 46 2 12 := ⟨RX2, TX2, 13, rfl, by decide, rfl, Or.inl (gw_mem 508 (by decide +kernel) rfl)⟩
theorem fP_X2_46 (nm : String) : FP RX2 nm 46 2 12 := ⟨RX2, TX2, 13, rfl, by decide, rfl, Or.inl ⟨gw_mem 508 (by decide +kernel) rfl, rfl⟩⟩
theorem fL_X2_50 : FL RX2 50 2 11 := ⟨RX2, TX2, 13, rfl, by decide, rfl, Or.inl (gw_mem 507 (by decide +kernel) rfl)⟩
theorem fP_X2_50 (nm : String) : FP RX2 nm 50 2 11 := ⟨RX2, TX2, 13, rfl, by decide, rfl, Or.inl ⟨gw_mem 507 (by decide +kernel) rfl, rfl⟩⟩
theorem fL_X2_68 : FL RX2 68 0 5 := ⟨RX0, TX0, 20, rfl, by decide, rfl, Or.inr ⟨"CallSlicer", gw_nmem 213 (by decide +kernel) rfl⟩⟩
theorem fL_X2_81 : FL RX2 81 0 15 := ⟨RX0, TX0, 20, rfl, by decide, rfl, Or.inr ⟨"CallSlicer", gw_nmem 251 (by decide +kernel) rfl⟩⟩
theorem fL_X2_88 : FL RX2 88 0 6 := ⟨RX0, TX0, 20, rfl, by decide, rfl, Or.inr ⟨"CallSlicer", gw_nmem 217 (by decide +kernel) rfl⟩⟩
theorem fL_X2_95 : FL RX2 95 0 10 := ⟨RX0, TX0, 20, rfl, by decide, rfl, Or.inr ⟨"CallSlicer", gw_nmem 231 (by decide +kernel) rfl⟩⟩
theorem fL_X2_105 : FL RX2 105 0 16 := ⟨RX0, TX0, 20, rfl, by decide, rfl, Or.inr ⟨"CallSlicer", gw_nmem 255 (by decide +kernel) rfl⟩⟩
theorem fL_X2_111 : FL RX2 111 0 13 := ⟨RX0, TX0, 20, rfl, by decide, rfl, Or.inr ⟨"CallSlicer", gw_nmem 242 (by decide +kernel) rfl⟩⟩
theorem fL_X2_120 : FL RX2 120 0 14 := ⟨RX0, TX0, 20, rfl, by decide, rfl, Or.inr ⟨"CallSlicer", gw_nmem 246 (by decide +kernel) rfl⟩⟩
theorem fL_X2_123 : FL RX2 123 0 17 := ⟨RX0, TX0, 20, rfl, by decide, rfl, Or.inr ⟨"CallSlicer", gw_nmem 259 (by decide +kernel) rfl⟩⟩
theorem fL_X2_126 : FL RX2 126 0 12 := ⟨RX0, TX0, 20, rfl, by decide, rfl, Or.inr ⟨"CallSlicer", gw_nmem 239 (by decide +kernel) rfl⟩⟩
theorem fL_X2_129 : FL RX2 129 0 11 := ⟨RX0, TX0, 20, rfl, by decide, rfl, Or.inr ⟨"CallSlicer", gw_nmem 236 (by decide +kernel) rfl⟩⟩
theorem fL_X2_132 : FL RX2 132 0 18 := ⟨RX0, TX0, 20, rfl, by decide, rfl, Or.inr ⟨"CallSlicer", gw_nmem 262 (by decide +kernel) rfl⟩⟩
theorem fL_X3_9 : FL RX3 9 3 0 := ⟨RX3, TX3, 11, rfl, by decide, rfl, Or.inl (gw_mem 378 (by decide +kernel) rfl)⟩
theorem fP_X3_9 (nm : String) : FP RX3 nm 9 3 0 := ⟨RX3, TX3, 11, rfl, by decide, rfl, Or.inl ⟨gw_mem 378 (by decide +kernel) rfl, rfl⟩⟩
theorem fL_X3_15 : FL RX3 15 3 1 := ⟨RX3, TX3, 11, rfl, by decide, rfl, Or.inl (gw_mem 379 (by decide +kernel) rfl)⟩
theorem fP_X3_15 (nm : String) : FP RX3 nm 15 3 1 := ⟨RX3, TX3, 11, rfl, by decide, rfl, Or.inl ⟨gw_mem 379 (by decide +kernel) rfl, rfl⟩⟩
theorem fL_X3_19 : FL RX3 19 3 2 := ⟨RX3, TX3, 11, rfl, by decide, rfl, Or.inl (gw_mem 380 (by decide +kernel) rfl)⟩
theorem fP_X3_19 (nm : String) : FP RX3 nm 19 3 2 := ⟨RX3, TX3, 11, rfl, by decide, rfl, Or.inl ⟨gw_mem 380 (by decide +kernel) rfl, rfl⟩⟩
theorem fL_X3_22 : FL RX3 22 3 3 := ⟨RX3, TX3, 11, rfl, by decide, rfl, Or.inl (gw_mem 381 (by decide +kernel) rfl)⟩
theorem fP_X3_22 (nm : String) : FP RX3 nm 22 3 3 := ⟨RX3, TX3, 11, rfl, by decide, rfl, Or.inl ⟨gw_mem 381 (by decide +kernel) rfl, rfl⟩⟩
theorem fL_X3_28 : FL RX3 28 3 5 := ⟨RX3, TX3, 11, rfl, by decide, rfl, Or.inl (gw_mem 383 (by decide +kernel) rfl)⟩
theorem fP_X3_28 : FP RX3 "<init>" 28 3 5 := ⟨RX3, TX3, 11, rfl, by decide, rfl, Or.inr (Or.inl ⟨gw_mem 383 (by decide +kernel) rfl, rfl, rfl, rfl⟩)⟩
theorem fL_X3_32 : FL RX3 32 3 7 := ⟨RX3, TX3, 11, rfl, by decide, rfl, Or.inl (gw_mem 385 (by decide +kernel) rfl)⟩
theorem fP_X3_32 (nm : String) : FP RX3 nm 32 3 7 := ⟨RX3, TX3, 11, rfl, by decide, rfl, Or.inl ⟨gw_mem 385 (by decide +kernel) rfl, rfl⟩⟩
theorem fL_X3_35 : FL RX3 35 3 8 := ⟨RX3, TX3, 11, rfl, by decide, rfl, Or.inl (gw_mem 386 (by decide +kernel) rfl)⟩
theorem fP_X3_35 : FP RX3 "<init>" 35 3 8 := ⟨RX3, TX3, 11, rfl, by decide, rfl, Or.inr (Or.inl ⟨gw_mem 386 (by decide +kernel) rfl, rfl, rfl, rfl⟩)⟩
theorem fL_X3_39 : FL RX3 39 3 9 := ⟨RX3, TX3, 11, rfl, by decide, rfl, Or.inl (gw_mem 387 (by decide +kernel) rfl)⟩
theorem fP_X3_39 : FP RX3 "<init>" 39 3 9 := ⟨RX3, TX3, 11, rfl, by decide, rfl, Or.inr (Or.inl ⟨gw_mem 387 (by decide +kernel) rfl, rfl, rfl, rfl⟩)⟩
theorem fL_X3_42 : FL RX3 42 3 10 := ⟨RX3, TX3, 11, rfl, by decide, rfl, Or.inl (gw_mem 388 (by decide +kernel) rfl)⟩
theorem fP_X3_42 : FP RX3 "<init>" 42 3 10 := ⟨RX3, TX3, 11, rfl, by decide, rfl, Or.inr (Or.inl ⟨gw_mem 388 (by decide +kernel) rfl, rfl, rfl, rfl⟩)⟩
theorem fL_X3_46 : FL RX3 46 3 4 := ⟨RX3, TX3, 11, rfl, by decide, rfl, Or.inl (gw_mem 382 (by decide +kernel) rfl)⟩
theorem fP_X3_46 (nm : String) : FP RX3 nm 46 3 4 := ⟨RX3, TX3, 11, rfl, by decide, rfl, Or.inl ⟨gw_mem 382 (by decide +kernel) rfl, rfl⟩⟩
theorem fL_X3_55 : FL RX3 55 3 6 := ⟨RX3, TX3, 11, rfl, by decide, rfl, Or.inl (gw_mem 384 (by decide +kernel) rfl)⟩
theorem fP_X3_55 : FP RX3 "<init>" 55 3 6 := ⟨RX3, TX3, 11, rfl, by decide, rfl, Or.inr (Or.inl ⟨gw_mem 384 (by decide +kernel) rfl, rfl, rfl, rfl⟩)⟩
theorem fL_X3_94 : FL RX3 94 5 0 := ⟨RX5, TX5, 9, rfl, by decide, rfl, Or.inr ⟨"CallSlicer", gw_nmem 322 (by decide +kernel) rfl⟩⟩
theorem fP_X3_94 (nm : String) : FP RX3 nm 94 5 0 := ⟨RX5, TX5, 9, rfl, by decide, rfl, Or.inr (Or.inr ⟨"CallSlicer", gw_nmem 322 (by decide +kernel) rfl, rfl⟩)⟩
theorem fL_X3_115 : FL RX3 115 0 1 := ⟨RX0, TX0, 20, rfl, by decide, rfl, Or.inr ⟨"CallSlicer", gw_nmem 201 (by decide +kernel) rfl⟩⟩
theorem fP_X3_115 (nm : String) : FP RX3 nm 115 0 1 := ⟨RX0, TX0, 20, rfl, by decide, rfl, Or.inr (Or.inr ⟨"CallSlicer", gw_nmem 201 (by decide +kernel) rfl, rfl⟩)⟩
theorem fL_X3_122 : FL RX3 122 5 8 := ⟨RX5, TX5, 9, rfl, by decide, rfl, Or.inr ⟨"CallSlicer", gw_nmem 344 (by decide +kernel) rfl⟩⟩
theorem fL_X3_125 : FL RX3 125 5 4 := ⟨RX5, TX5, 9, rfl, by decide, rfl, Or.inr ⟨"CallSlicer", gw_nmem 334 (by decide +kernel) rfl⟩⟩
theorem fL_X3_128 : FL RX3 128 5 3 := ⟨RX5, TX5, 9, rfl, by decide, rfl, Or.inr ⟨"CallSlicer", gw_nmem 331 (by decide +kernel) rfl⟩⟩
theorem fL_X3_134 : FL RX3 134 5 1 := ⟨RX5, TX5, 9, rfl, by decide, rfl, Or.inr ⟨"CallSlicer", gw_nmem 325 (by decide +kernel) rfl⟩⟩
theorem fL_X3_145 : FL RX3 145 5 5 := ⟨RX5, TX5, 9, rfl, by decide, rfl, Or.inr ⟨"CallSlicer", gw_nmem 337 (by decide +kernel) rfl⟩⟩
theorem fL_X3_148 : FL RX3 148 0 6 := ⟨RX0, TX0, 20, rfl, by decide, rfl, Or.inr ⟨"CallSlicer", gw_nmem 220 (by decide +kernel) rfl⟩⟩
theorem fL_X3_154 : FL RX3 154 5 2 := ⟨RX5, TX5, 9, rfl, by decide, rfl, Or.inr ⟨"CallSlicer", gw_nmem 328 (by decide +kernel) rfl⟩⟩
theorem fL_X3_163 : FL RX3 163 0 0 := ⟨RX0, TX0, 20, rfl, by decide, rfl, Or.inr ⟨"CallSlicer", gw_nmem 194 (by decide +kernel) rfl⟩⟩
theorem fP_X3_163 (nm : String) : FP RX3 nm 163 0 0 := ⟨RX0, TX0, 20, rfl, by decide, rfl, Or.inr (Or.inr ⟨"CallSlicer", gw_nmem 194 (by decide +kernel) rfl, rfl⟩)⟩
theorem fL_X3_175 : FL RX3 175 0 13 := ⟨RX0, TX0, 20, rfl, by decide, rfl, Or.inr ⟨"CallSlicer", gw_nmem 244 (by decide +kernel) rfl⟩⟩
theorem fL_X3_184 : FL RX3 184 0 14 := ⟨RX0, TX0, 20, rfl, by decide, rfl, Or.inr ⟨"CallSlicer", gw_nmem 248 (by decide +kernel) rfl⟩⟩
theorem fL_X3_187 : FL RX3 187 0 10 := ⟨RX0, TX0, 20, rfl, by decide, rfl, Or.inr ⟨"CallSlicer", gw_nmem 232 (by decide +kernel) rfl⟩⟩
theorem fL_X3_196 : FL RX3 196 0 11 := ⟨RX0, TX0, 20, rfl, by decide, rfl, Or.inr ⟨"CallSlicer", gw_nmem 237 (by decide +kernel) rfl⟩⟩
theorem fL_X3_199 : FL RX3 199 0 2 := ⟨RX0, TX0, 20, rfl, by decide, rfl, Or.inr ⟨"CallSlicer", gw_nmem 205 (by decide +kernel) rfl⟩⟩
theorem fP_X3_199 (nm : String) : FP RX3 nm 199 0 2 := ⟨RX0, TX0, 20, rfl, by decide, rfl, Or.inr (Or.inr ⟨"CallSlicer", gw_nmem 205 (by decide +kernel) rfl, rfl⟩)⟩
theorem fL_X3_207 : FL RX3 207 0 12 := ⟨RX0, TX0, 20, rfl, by decide, rfl, Or.inr ⟨"CallSlicer", gw_nmem 240 (by decide +kernel) rfl⟩⟩
theorem fL_X4_9 : FL RX4 9 4 2 := ⟨RX4, TX4, 13, rfl, by decide, rfl, Or.inl (gw_mem 452 (by decide +kernel) rfl)⟩
theorem fP_X4_9 (nm : String) : FP RX4 nm 9 4 2 := ⟨RX4, TX4, 13, rfl, by decide, rfl, Or.inl ⟨gw_mem 452 (by decide +kernel) rfl, rfl⟩⟩
theorem fL_X4_15 : FL RX4 15 4 3 := ⟨RX4, TX4, 13, rfl, by decide, rfl, Or.inl (gw_mem 453 (by decide +kernel) rfl)⟩
theorem fP_X4_15 : FP RX4 "<init>" 15 4 3 := ⟨RX4, TX4, 13, rfl, by decide, rfl, Or.inr (Or.inl ⟨gw_mem 453 (by decide +kernel) rfl, rfl, rfl, rfl⟩)⟩
theorem fL_X4_19 : FL RX4 19 4 4 := ⟨RX4, TX4, 13, rfl, by decide, rfl, Or.inl (gw_mem 454 (by decide +kernel) rfl)⟩
theorem fP_X4_19 : FP RX4 "<init>" 19 4 4 := ⟨RX4, TX4, 13, rfl, by decide, rfl, Or.inr (Or.inl ⟨gw_mem 454 (by decide +kernel) rfl, rfl, rfl, rfl⟩)⟩
theorem fL_X4_23 : FL RX4 23 4 5 := ⟨RX4, TX4, 13, rfl, by decide, rfl, Or.inl (gw_mem 455 (by decide +kernel) rfl)⟩
theorem fP_X4_23 : FP RX4 "<init>" 23 4 5 := ⟨RX4, TX4, 13, rfl, by decide, rfl, Or.inr (Or.inl ⟨gw_mem 455 (by decide +kernel) rfl, rfl, rfl, rfl⟩)⟩
theorem fL_X4_26 : FL RX4 26 4 6 := ⟨RX4, TX4, 13, rfl, by decide, rfl, Or.inl (gw_mem 456 (by decide +kernel) rfl)⟩
theorem fP_X4_26 : FP RX4 "<init>" 26 4 6 := ⟨RX4, TX4, 13, rfl, by decide, rfl, Or.inr (Or.inl ⟨gw_mem 456 (by decide +kernel) rfl, rfl, rfl, rfl⟩)⟩
theorem fL_X4_29 : FL RX4 29 4 7 := ⟨RX4, TX4, 13, rfl, by decide, rfl, Or.inl (gw_mem 457 (by decide +kernel) rfl)⟩
theorem fP_X4_29 : FP RX4 "<init>" 29 4 7 := ⟨RX4, TX4, 13, rfl, by decide, rfl, Or.inr (Or.inl ⟨gw_mem 457 (by decide +kernel) rfl, rfl, rfl, rfl⟩)⟩
theorem fL_X4_32 : FL RX4 32 4 8 := ⟨RX4, TX4, 13, rfl, by decide, rfl, Or.inl (gw_mem 458 (by decide +kernel) rfl)⟩
theorem fP_X4_32 (nm : String) : FP RX4 nm 32 4 8 := ⟨RX4, TX4, 13, rfl, by decide, rfl, Or.inl ⟨gw_mem 458 (by decide +kernel) rfl, rfl⟩⟩
theorem fL_X4_36 : FL RX4 36 4 9 := ⟨RX4, TX4, 13, rfl, by decide, rfl, Or.inl (gw_mem 459 (by decide +kernel) rfl)⟩
theorem fP_X4_36 : FP RX4 "<init>" 36 4 9 := ⟨RX4, TX4, 13, rfl, by decide, rfl, Or.inr (Or.inl ⟨gw_mem 459 (by decide +kernel) rfl, rfl, rfl, rfl⟩)⟩
theorem fL_X4_39 : FL RX4 39 4 10 := ⟨RX4, TX4, 13, rfl, by decide, rfl, Or.inl (gw_mem 460 (by decide +kernel) rfl)⟩
theorem fP_X4_39 (nm : String) : FP RX4 nm 39 4 10 := ⟨RX4, TX4, 13, rfl, by decide, rfl, Or.inl ⟨gw_mem 460 (by decide +kernel) rfl, rfl⟩⟩
theorem fL_X4_43 : FL RX4 43 4 11 := ⟨RX4, TX4, 13, rfl, by decide, rfl, Or.inl (gw_mem 461 (by decide +kernel) rfl)⟩
theorem fP_X4_43 : FP RX4 "<init>" 43 4 11 := ⟨RX4, TX4, 13, rfl, by decide, rfl, Or.inr (Or.inl ⟨gw_mem 461 (by decide +kernel) rfl, rfl, rfl, rfl⟩)⟩
theorem fL_X4_46 : FL RX4 46 4 12 := ⟨RX4, TX4, 13, rfl, by decide, rfl, Or.inl (gw_mem 462 (by decide +kernel) rfl)⟩
theorem fP_X4_46 (nm : String) : FP RX4 nm 46 4 12 := ⟨RX4, TX4, 13, rfl, by decide, rfl, Or.inl ⟨gw_mem 462 (by decide +kernel) rfl, rfl⟩⟩
theorem fL_X4_54 : FL RX4 54 4 0 := ⟨RX4, TX4, 13, rfl, by decide, rfl, Or.inl (gw_mem 449 (by decide +kernel) rfl)⟩
theorem fP_X4_54 : FP RX4 "<init>" 54 4 0 := ⟨RX4, TX4, 13, rfl, by decide, rfl, Or.inr (Or.inl ⟨gw_mem 449 (by decide +kernel) rfl, rfl, rfl, rfl⟩)⟩
theorem fL_X4_58 : FL RX4 58 4 1 := ⟨RX4, TX4, 13, rfl, by decide, rfl, Or.inl (gw_mem 451 (by decide +kernel) rfl)⟩
theorem fP_X4_58 (nm : String) : FP RX4 nm 58 4 1 := ⟨RX4, TX4, 13, rfl, by decide, rfl, Or.inl ⟨gw_mem 451 (by decide +kernel) rfl, rfl⟩⟩
theorem fL_X4_65 : FL RX4 65 0 1 := ⟨RX0, TX0, 20, rfl, by decide, rfl, Or.inr ⟨"CallSlicer", gw_nmem 198 (by decide +kernel) rfl⟩⟩
theorem fP_X4_65 (nm : String) : FP RX4 nm 65 0 1 := ⟨RX0, TX0, 20, rfl, by decide, rfl, Or.inr (Or.inr ⟨"CallSlicer", gw_nmem 198 (by decide +kernel) rfl, rfl⟩)⟩
theorem fL_X4_118 : FL RX4 118 1 0 := ⟨RX1, TX1, 7, rfl, by decide, rfl, Or.inr ⟨"CallSlicer", gw_nmem 425 (by decide +kernel) rfl⟩⟩
theorem fL_X4_121 : FL RX4 121 0 11 := ⟨RX0, TX0, 20, rfl, by decide, rfl, Or.inr ⟨"CallSlicer", gw_nmem 235 (by decide +kernel) rfl⟩⟩
theorem fL_X4_124 : FL RX4 124 0 6 := ⟨RX0, TX0, 20, rfl, by decide, rfl, Or.inr ⟨"CallSlicer", gw_nmem 221 (by decide +kernel) rfl⟩⟩
theorem fL_X4_140 : FL RX4 140 0 0 := ⟨RX0, TX0, 20, rfl, by decide, rfl, Or.inr ⟨"CallSlicer", gw_nmem 195 (by decide +kernel) rfl⟩⟩
theorem fP_X4_140 (nm : String) : FP RX4 nm 140 0 0 := ⟨RX0, TX0, 20, rfl, by decide, rfl, Or.inr (Or.inr ⟨"CallSlicer", gw_nmem 195 (by decide +kernel) rfl, rfl⟩)⟩
theorem fL_X5_9 : FL RX5 9 5 0 := ⟨RX5, TX5, 9, rfl, by decide, rfl, Or.inl (gw_mem 321 (by decide +kernel) rfl)⟩
theorem fP_X5_9 (nm : String) : FP RX5 nm 9 5 0 := ⟨RX5, TX5, 9, rfl, by decide, rfl, Or.inl ⟨gw_mem 321 (by decide +kernel) rfl, rfl⟩⟩
theorem fL_X5_15 : FL RX5 15 5 1 := ⟨RX5, TX5, 9, rfl, by decide, rfl, Or.inl (gw_mem 323 (by decide +kernel) rfl)⟩
theorem fP_X5_15 : FP RX5 "<init>" 15 5 1 := ⟨RX5, TX5, 9, rfl, by decide, rfl, Or.inr (Or.inl ⟨gw_mem 323 (by decide +kernel) rfl, rfl, rfl, rfl⟩)⟩
theorem fL_X5_19 : FL RX5 19 5 2 := ⟨RX5, TX5, 9, rfl, by decide, rfl, Or.inl (gw_mem 326 (by decide +kernel) rfl)⟩
theorem fP_X5_19 : FP RX5 "<init>" 19 5 2 := ⟨RX5, TX5, 9, rfl, by decide, rfl, Or.inr (Or.inl ⟨gw_mem 326 (by decide +kernel) rfl, rfl, rfl, rfl⟩)⟩
theorem fL_X5_22 : FL RX5 22 5 3 := ⟨RX5, TX5, 9, rfl, by decide, rfl, Or.inl (gw_mem 329 (by decide +kernel) rfl)⟩
theorem fP_X5_22 : FP RX5 "<init>" 22 5 3 := ⟨RX5, TX5, 9, rfl, by decide, rfl, Or.inr (Or.inl ⟨gw_mem 329 (by decide +kernel) rfl, rfl, rfl, rfl⟩)⟩
theorem fL_X5_25 : FL RX5 25 5 4 := ⟨RX5, TX5, 9, rfl, by decide, rfl, Or.inl (gw_mem 332 (by decide +kernel) rfl)⟩
theorem fP_X5_25 : FP RX5 "<init>" 25 5 4 := ⟨RX5, TX5, 9, rfl, by decide, rfl, Or.inr (Or.inl ⟨gw_mem 332 (by decide +kernel) rfl, rfl, rfl, rfl⟩)⟩
theorem fL_X5_28 : FL RX5 28 5 5 := ⟨RX5, TX5, 9, rfl, by decide, rfl, Or.inl (gw_mem 335 (by decide +kernel) rfl)⟩
theorem fP_X5_28 : FP RX5 "<init>" 28 5 5 := ⟨RX5, TX5, 9, rfl, by decide, rfl, Or.inr (Or.inl ⟨gw_mem 335 (by decide +kernel) rfl, rfl, rfl, rfl⟩)⟩
theorem fL_X5_31 : FL RX5 31 5 6 := ⟨RX5, TX5, 9, rfl, by decide, rfl, Or.inl (gw_mem 338 (by decide +kernel) rfl)⟩
theorem fP_X5_31 : FP RX5 "<init>" 31 5 6 := ⟨RX5, TX5, 9, rfl, by decide, rfl, Or.inr (Or.inl ⟨gw_mem 338 (by decide +kernel) rfl, rfl, rfl, rfl⟩)⟩
theorem fL_X5_34 : FL RX5 34 5 7 := ⟨RX5, TX5, 9, rfl, by decide, rfl, Or.inl (gw_mem 340 (by decide +kernel) rfl)⟩
theorem fP_X5_34 : FP RX5 "<init>" 34 5 7 := ⟨RX5, TX5, 9, rfl, by decide, rfl, Or.inr (Or.inl ⟨gw_mem 340 (by decide +kernel) rfl, rfl, rfl, rfl⟩)⟩
theorem fL_X5_37 : FL RX5 37 5 8 := ⟨RX5, TX5, 9, rfl, by decide, rfl, Or.inl (gw_mem 342 (by decide +kernel) rfl)⟩
theorem fP_X5_37 : FP RX5 "<init>" 37 5 8 := ⟨RX5, TX5, 9, rfl, by decide, rfl, Or.inr (Or.inl ⟨gw_mem 342 (by decide +kernel) rfl, rfl, rfl, rfl⟩)⟩
theorem fL_X6_9 : FL RX6 9 6 0 := ⟨RX6, TX6, 2, rfl, by decide, rfl, Or.inl (gw_mem 370 (by decide +kernel) rfl)⟩
theorem fP_X6_9 : FP RX6 "<init>" 9 6 0 := ⟨RX6, TX6, 2, rfl, by decide, rfl, Or.inr (Or.inl ⟨gw_mem 370 (by decide +kernel) rfl, rfl, rfl, rfl⟩)⟩
theorem fL_X6_15 : FL RX6 15 6 1 := ⟨RX6, TX6, 2, rfl, by decide, rfl, Or.inl (gw_mem 371 (by decide +kernel) rfl)⟩
theorem fP_X6_15 (nm : String) : FP RX6 nm 15 6 1 := ⟨RX6, TX6, 2, rfl, by decide, rfl, Or.inl ⟨gw_mem 371 (by decide +kernel) rfl, rfl⟩⟩
theorem fL_X6_19 : FL RX6 19 0 1 := ⟨RX0, TX0, 20, rfl, by decide, rfl, Or.inr ⟨"CallSlicer", gw_nmem 197 (by decide +kernel) rfl⟩⟩
theorem fP_X6_19 (nm : String) : FP RX6 nm 19 0 1 := ⟨RX0, TX0, 20, rfl, by decide, rfl, Or.inr (Or.inr ⟨"CallSlicer", gw_nmem 197 (by decide +kernel) rfl, rfl⟩)⟩
theorem fL_X6_25 : FL RX6 25 5 8 := ⟨RX5, TX5, 9, rfl, by decide, rfl, Or.inr ⟨"CallSlicer", gw_nmem 343 (by decide +kernel) rfl⟩⟩
theorem fL_X6_31 : FL RX6 31 0 5 := ⟨RX0, TX0, 20, rfl, by decide, rfl, Or.inr ⟨"CallSlicer", gw_nmem 212 (by decide +kernel) rfl⟩⟩
theorem fL_X6_38 : FL RX6 38 5 1 := ⟨RX5, TX5, 9, rfl, by decide, rfl, Or.inr ⟨"CallSlicer", gw_nmem 324 (by decide +kernel) rfl⟩⟩
theorem fL_X6_47 : FL RX6 47 5 2 := ⟨RX5, TX5, 9, rfl, by decide, rfl, Or.inr ⟨"CallSlicer", gw_nmem 327 (by decide +kernel) rfl⟩⟩
theorem fL_X6_50 : FL RX6 50 5 4 := ⟨RX5, TX5, 9, rfl, by decide, rfl, Or.inr ⟨"CallSlicer", gw_nmem 333 (by decide +kernel) rfl⟩⟩
theorem fL_X6_53 : FL RX6 53 5 6 := ⟨RX5, TX5, 9, rfl, by decide, rfl, Or.inr ⟨"CallSlicer", gw_nmem 339 (by decide +kernel) rfl⟩⟩
theorem fL_X6_56 : FL RX6 56 5 7 := ⟨RX5, TX5, 9, rfl, by decide, rfl, Or.inr ⟨"CallSlicer", gw_nmem 341 (by decide +kernel) rfl⟩⟩
theorem fL_X6_59 : FL RX6 59 5 3 := ⟨RX5, TX5, 9, rfl, by decide, rfl, Or.inr ⟨"CallSlicer", gw_nmem 330 (by decide +kernel) rfl⟩⟩
theorem fL_X6_62 : FL RX6 62 0 7 := ⟨RX0, TX0, 20, rfl, by decide, rfl, Or.inr ⟨"CallSlicer", gw_nmem 223 (by decide +kernel) rfl⟩⟩
theorem fL_X6_65 : FL RX6 65 0 15 := ⟨RX0, TX0, 20, rfl, by decide, rfl, Or.inr ⟨"CallSlicer", gw_nmem 250 (by decide +kernel) rfl⟩⟩
theorem fL_X6_68 : FL RX6 68 0 16 := ⟨RX0, TX0, 20, rfl, by decide, rfl, Or.inr ⟨"CallSlicer", gw_nmem 253 (by decide +kernel) rfl⟩⟩
theorem fL_X6_71 : FL RX6 71 0 17 := ⟨RX0, TX0, 20, rfl, by decide, rfl, Or.inr ⟨"CallSlicer", gw_nmem 257 (by decide +kernel) rfl⟩⟩
theorem fL_X6_74 : FL RX6 74 0 18 := ⟨RX0, TX0, 20, rfl, by decide, rfl, Or.inr ⟨"CallSlicer", gw_nmem 261 (by decide +kernel) rfl⟩⟩
theorem fL_X6_77 : FL RX6 77 5 5 := ⟨RX5, TX5, 9, rfl, by decide, rfl, Or.inr ⟨"CallSlicer", gw_nmem 336 (by decide +kernel) rfl⟩⟩
theorem fL_X6_80 : FL RX6 80 0 19 := ⟨RX0, TX0, 20, rfl, by decide, rfl, Or.inr ⟨"CallSlicer", gw_nmem 264 (by decide +kernel) rfl⟩⟩
theorem fL_X6_81 : FL RX6 81 0 6 := ⟨RX0, TX0, 20, rfl, by decide, rfl, Or.inr ⟨"CallSlicer", gw_nmem 216 (by decide +kernel) rfl⟩⟩
theorem fL_X7_9 : FL RX7 9 7 0 := ⟨RX7, TX7, 8, rfl, by decide, rfl, Or.inl (gw_mem 536 (by decide +kernel) rfl)⟩
theorem fP_X7_9 : FP RX7 "<init>" 9 7 0 := ⟨RX7, TX7, 8, rfl, by decide, rfl, Or.inr (Or.inl ⟨gw_mem 536 (by decide +kernel) rfl, rfl, rfl, rfl⟩)⟩
theorem fL_X7_13 : FL RX7 13 7 1 := ⟨RX7, TX7, 8, rfl, by decide, rfl, Or.inl (gw_mem 537 (by decide +kernel) rfl)⟩
theorem fP_X7_13 (nm : String) : FP RX7 nm 13 7 1 := ⟨RX7, TX7, 8, rfl, by decide, rfl, Or.inl ⟨gw_mem 537 (by decide +kernel) rfl, rfl⟩⟩
theorem fL_X7_17 : FL RX7 17 7 2 := ⟨RX7, TX7, 8, rfl, by decide, rfl, Or.inl (gw_mem 538 (by decide +kernel) rfl)⟩
theorem fP_X7_17 (nm : String) : FP RX7 nm 17 7 2 := ⟨RX7, TX7, 8, rfl, by decide, rfl, Or.inl ⟨gw_mem 538 (by decide +kernel) rfl, rfl⟩⟩
theorem fL_X7_23 : FL RX7 23 7 3 := ⟨RX7, TX7, 8, rfl, by decide, rfl, Or.inl (gw_mem 539 (by decide +kernel) rfl)⟩
theorem fP_X7_23 (nm : String) : FP RX7 nm 23 7 3 := ⟨RX7, TX7, 8, rfl, by decide, rfl, Or.inl ⟨gw_mem 539 (by decide +kernel) rfl, rfl⟩⟩
theorem fL_X7_27 : FL RX7 27 7 4 := ⟨RX7, TX7, 8, rfl, by decide, rfl, Or.inl (gw_mem 540 (by decide +kernel) rfl)⟩
theorem fP_X7_27 (nm : String) : FP RX7 nm 27 7 4 := ⟨RX7, TX7, 8, rfl, by decide, rfl, Or.inl ⟨gw_mem 540 (by decide +kernel) rfl, rfl⟩⟩
theorem fL_X7_35 : FL RX7 35 7 5 := ⟨RX7, TX7, 8, rfl, by decide, rfl, Or.inl (gw_mem 541 (by decide +kernel) rfl)⟩
theorem fP_X7_35 : FP RX7 "<init>" 35 7 5 := ⟨RX7, TX7, 8, rfl, by decide, rfl, Or.inr (Or.inl ⟨gw_mem 541 (by decide +kernel) rfl, rfl, rfl, rfl⟩)⟩
theorem fL_X7_42 : FL RX7 42 7 6 := ⟨RX7, TX7, 8, rfl, by decide, rfl, Or.inl (gw_mem 542 (by decide +kernel) rfl)⟩
theorem fP_X7_42 : FP RX7 "<init>" 42 7 6 := ⟨RX7, TX7, 8, rfl, by decide, rfl, Or.inr (Or.inl ⟨gw_mem 542 (by decide +kernel) rfl, rfl, rfl, rfl⟩)⟩
theorem fL_X7_49 : FL RX7 49 7 7 := ⟨RX7, TX7, 8, rfl, by decide, rfl, Or.inl (gw_mem 543 (by decide +kernel) rfl)⟩
theorem fP_X7_49 : FP RX7 "<init>" 49 7 7 := ⟨RX7, TX7, 8, rfl, by decide, rfl, Or.inr (Or.inl ⟨gw_mem 543 (by decide +kernel) rfl, rfl, rfl, rfl⟩)⟩
theorem fL_X7_65 : FL RX7 65 0 0 := ⟨RX0, TX0, 20, rfl, by decide, rfl, Or.inr ⟨"CallSlicer", gw_nmem 193 (by decide +kernel) rfl⟩⟩
theorem fP_X7_65 (nm : String) : FP RX7 nm 65 0 0 := ⟨RX0, TX0, 20, rfl, by decide, rfl, Or.inr (Or.inr ⟨"CallSlicer", gw_nmem 193 (by decide +kernel) rfl, rfl⟩)⟩
theorem fL_X7_68 : FL RX7 68 0 1 := ⟨RX0, TX0, 20, rfl, by decide, rfl, Or.inr ⟨"CallSlicer", gw_nmem 200 (by decide +kernel) rfl⟩⟩
theorem fP_X7_68 (nm : String) : FP RX7 nm 68 0 1 := ⟨RX0, TX0, 20, rfl, by decide, rfl, Or.inr (Or.inr ⟨"CallSlicer", gw_nmem 200 (by decide +kernel) rfl, rfl⟩)⟩
theorem fL_X7_71 : FL RX7 71 0 2 := ⟨RX0, TX0, 20, rfl, by decide, rfl, Or.inr ⟨"CallSlicer", gw_nmem 203 (by decide +kernel) rfl⟩⟩
theorem fP_X7_71 (nm : String) : FP RX7 nm 71 0 2 := ⟨RX0, TX0, 20, rfl, by decide, rfl, Or.inr (Or.inr ⟨"CallSlicer", gw_nmem 203 (by decide +kernel) rfl, rfl⟩)⟩
theorem fL_X7_81 : FL RX7 81 0 4 := ⟨RX0, TX0, 20, rfl, by decide, rfl, Or.inr ⟨"CallSlicer", gw_nmem 209 (by decide +kernel) rfl⟩⟩
theorem fP_X7_81 (nm : String) : FP RX7 nm 81 0 4 := ⟨RX0, TX0, 20, rfl, by decide, rfl, Or.inr (Or.inr ⟨"CallSlicer", gw_nmem 209 (by decide +kernel) rfl, rfl⟩)⟩
theorem fL_X7_84 : FL RX7 84 0 3 := ⟨RX0, TX0, 20, rfl, by decide, rfl, Or.inr ⟨"CallSlicer", gw_nmem 207 (by decide +kernel) rfl⟩⟩
theorem fP_X7_84 (nm : String) : FP RX7 nm 84 0 3 := ⟨RX0, TX0, 20, rfl, by decide, rfl, Or.inr (Or.inr ⟨"CallSlicer", gw_nmem 207 (by decide +kernel) rfl, rfl⟩)⟩
theorem fL_X7_91 : FL RX7 91 0 6 := ⟨RX0, TX0, 20, rfl, by decide, rfl, Or.inr ⟨"CallSlicer", gw_nmem 219 (by decide +kernel) rfl⟩⟩
theorem fL_X7_95 : FL RX7 95 0 7 := ⟨RX0, TX0, 20, rfl, by decide, rfl, Or.inr ⟨"CallSlicer", gw_nmem 224 (by decide +kernel) rfl⟩⟩
theorem fL_X7_98 : FL RX7 98 0 8 := ⟨RX0, TX0, 20, rfl, by decide, rfl, Or.inr ⟨"CallSlicer", gw_nmem 227 (by decide +kernel) rfl⟩⟩
theorem fL_X7_101 : FL RX7 101 0 11 := ⟨RX0, TX0, 20, rfl, by decide, rfl, Or.inr ⟨"CallSlicer", gw_nmem 234 (by decide +kernel) rfl⟩⟩
theorem fL_X7_104 : FL RX7 104 0 9 := ⟨RX0, TX0, 20, rfl, by decide, rfl, Or.inr ⟨"CallSlicer", gw_nmem 229 (by decide +kernel) rfl⟩⟩
theorem fL_X7_107 : FL RX7 107 0 19 := ⟨RX0, TX0, 20, rfl, by decide, rfl, Or.inr ⟨"CallSlicer", gw_nmem 265 (by decide +kernel) rfl⟩⟩
theorem fL_X7_116 : FL RX7 116 4 0 := ⟨RX4, TX4, 13, rfl, by decide, rfl, Or.inr ⟨"CallSlicer", gw_nmem 450 (by decide +kernel) rfl⟩⟩
theorem fL_X7_129 : FL RX7 129 1 3 := ⟨RX1, TX1, 7, rfl, by decide, rfl, Or.inr ⟨"CallSlicer", gw_nmem 429 (by decide +kernel) rfl⟩⟩
theorem fL_X8_7 : FL RX8 7 8 0 := ⟨RX8, TX8, 60, rfl, by decide, rfl, Or.inl (gw_mem 1049 (by decide +kernel) rfl)⟩
theorem fP_X8_7 : FP RX8 "<init>" 7 8 0 := ⟨RX8, TX8, 60, rfl, by decide, rfl, Or.inr (Or.inl ⟨gw_mem 1049 (by decide +kernel) rfl, rfl, rfl, rfl⟩)⟩
theorem fL_X8_13 : FL RX8 13 8 1 := ⟨RX8, TX8, 60, rfl, by decide, rfl, Or.inl (gw_mem 1050 (by decide +kernel) rfl)⟩
theorem fP_X8_13 : FP RX8 "<init>" 13 8 1 := ⟨RX8, TX8, 60, rfl, by decide, rfl, Or.inr (Or.inl ⟨gw_mem 1050 (by decide +kernel) rfl, rfl, rfl, rfl⟩)⟩
theorem fL_X8_16 : FL RX8 16 8 7 := ⟨RX8, TX8, 60, rfl, by decide, rfl, Or.inl (gw_mem 1056 (by decide +kernel) rfl)⟩
theorem fP_X8_16 : FP RX8 "<init>" 16 8 7 := ⟨RX8, TX8, 60, rfl, by decide, rfl, Or.inr (Or.inl ⟨gw_mem 1056 (by decide +kernel) rfl, rfl, rfl, rfl⟩)⟩
theorem fL_X8_20 : FL RX8 20 8 8 := ⟨RX8, TX8, 60, rfl, by decide, rfl, Or.inl (gw_mem 1057 (by decide +kernel) rfl)⟩
theorem fP_X8_20 : FP RX8 "<init>" 20 8 8 := ⟨RX8, TX8, 60, rfl, by decide, rfl, Or.inr (Or.inl ⟨gw_mem 1057 (by decide +kernel) rfl, rfl, rfl, rfl⟩)⟩
theorem fL_X8_23 : FL RX8 23 8 9 := ⟨RX8, TX8, 60, rfl, by decide, rfl, Or.inl (gw_mem 1058 (by decide +kernel) rfl)⟩
theorem fP_X8_23 : FP RX8 "<init>" 23 8 9 := ⟨RX8, TX8, 60, rfl, by decide, rfl, Or.inr (Or.inl ⟨gw_mem 1058 (by decide +kernel) rfl, rfl, rfl, rfl⟩)⟩
theorem fL_X8_26 : FL RX8 26 8 10 := ⟨RX8, TX8, 60, rfl, by decide, rfl, Or.inl (gw_mem 1059 (by decide +kernel) rfl)⟩
theorem fP_X8_26 : FP RX8 "<init>" 26 8 10 := ⟨RX8, TX8, 60, rfl, by decide, rfl, Or.inr (Or.inl ⟨gw_mem 1059 (by decide +kernel) rfl, rfl, rfl, rfl⟩)⟩
theorem fL_X8_29 : FL RX8 29 8 11 := ⟨RX8, TX8, 60, rfl, by decide, rfl, Or.inl (gw_mem 1060 (by decide +kernel) rfl)⟩
theorem fP_X8_29 : FP RX8 "<init>" 29 8 11 := ⟨RX8, TX8, 60, rfl, by decide, rfl, Or.inr (Or.inl ⟨gw_mem 1060 (by decide +kernel) rfl, rfl, rfl, rfl⟩)⟩
theorem fL_X8_32 : FL RX8 32 8 12 := ⟨RX8, TX8, 60, rfl, by decide, rfl, Or.inl (gw_mem 1061 (by decide +kernel) rfl)⟩
theorem fP_X8_32 : FP RX8 "<init>" 32 8 12 := ⟨RX8, TX8, 60, rfl, by decide, rfl, Or.inr (Or.inl ⟨gw_mem 1061 (by decide +kernel) rfl, rfl, rfl, rfl⟩)⟩
theorem fL_X8_35 : FL RX8 35 8 13 := ⟨RX8, TX8, 60, rfl, by decide, rfl, Or.inl (gw_mem 1062 (by decide +kernel) rfl)⟩
theorem fP_X8_35 : FP RX8 "<init>" 35 8 13 := ⟨RX8, TX8, 60, rfl, by decide, rfl, Or.inr (Or.inl ⟨gw_mem 1062 (by decide +kernel) rfl, rfl, rfl, rfl⟩)⟩
theorem fL_X8_38 : FL RX8 38 8 14 := ⟨RX8, TX8, 60, rfl, by decide, rfl, Or.inl (gw_mem 1063 (by decide +kernel) rfl)⟩
theorem fP_X8_38 : FP RX8 "<init>" 38 8 14 := ⟨RX8, TX8, 60, rfl, by decide, rfl, Or.inr (Or.inl ⟨gw_mem 1063 (by decide +kernel) rfl, rfl, rfl, rfl⟩)⟩
theorem fL_X8_41 : FL RX8 41 8 15 := ⟨RX8, TX8, 60, rfl, by decide, rfl, Or.inl (gw_mem 1064 (by decide +kernel) rfl)⟩
theorem fP_X8_41 : FP RX8 "<init>" 41 8 15 := ⟨RX8, TX8, 60, rfl, by decide, rfl, Or.inr (Or.inl ⟨gw_mem 1064 (by decide +kernel) rfl, rfl, rfl, rfl⟩)⟩
theorem fL_X8_44 : FL RX8 44 8 16 := ⟨RX8, TX8, 60, rfl, by decide, rfl, Or.inl (gw_mem 1065 (by decide +kernel) rfl)⟩
theorem fP_X8_44 : FP RX8 "<init>" 44 8 16 := ⟨RX8, TX8, 60, rfl, by decide, rfl, Or.inr (Or.inl ⟨gw_mem 1065 (by decide +kernel) rfl, rfl, rfl, rfl⟩)⟩
theorem fL_X8_47 : FL RX8 47 8 17 := ⟨RX8, TX8, 60, rfl, by decide, rfl, Or.inl (gw_mem 1066 (by decide +kernel) rfl)⟩
theorem fP_X8_47 : FP RX8 "<init>" 47 8 17 := ⟨RX8, TX8, 60, rfl, by decide, rfl, Or.inr (Or.inl ⟨gw_mem 1066 (by decide +kernel) rfl, rfl, rfl, rfl⟩)⟩
theorem fL_X8_50 : FL RX8 50 8 18 := ⟨RX8, TX8, 60, rfl, by decide, rfl, Or.inl (gw_mem 1067 (by decide +kernel) rfl)⟩
theorem fP_X8_50 : FP RX8 "<init>" 50 8 18 := ⟨RX8, TX8, 60, rfl, by decide, rfl, Or.inr (Or.inl ⟨gw_mem 1067 (by decide +kernel) rfl, rfl, rfl, rfl⟩)⟩
theorem fL_X8_53 : FL RX8 53 8 19 := ⟨RX8, TX8, 60, rfl, by decide, rfl, Or.inl (gw_mem 1068 (by decide +kernel) rfl)⟩
theorem fP_X8_53 : FP RX8 "<init>" 53 8 19 := ⟨RX8, TX8, 60, rfl, by decide, rfl, Or.inr (Or.inl ⟨gw_mem 1068 (by decide +kernel) rfl, rfl, rfl, rfl⟩)⟩
theorem fL_X8_56 : FL RX8 56 8 20 := ⟨RX8, TX8, 60, rfl, by decide, rfl, Or.inl (gw_mem 1069 (by decide +kernel) rfl)⟩
theorem fP_X8_56 : FP RX8 "<init>" 56 8 20 := ⟨RX8, TX8, 60, rfl, by decide, rfl, Or.inr (Or.inl ⟨gw_mem 1069 (by decide +kernel) rfl, rfl, rfl, rfl⟩)⟩
theorem fL_X8_59 : FL RX8 59 8 21 := ⟨RX8, TX8, 60, rfl, by decide, rfl, Or.inl (gw_mem 1070 (by decide +kernel) rfl)⟩
theorem fP_X8_59 : FP RX8 "<init>" 59 8 21 := ⟨RX8, TX8, 60, rfl, by decide, rfl, Or.inr (Or.inl ⟨gw_mem 1070 (by decide +kernel) rfl, rfl, rfl, rfl⟩)⟩
theorem fL_X8_62 : FL RX8 62 8 22 := ⟨RX8, TX8, 60, rfl, by decide, rfl, Or.inl (gw_mem 1071 (by decide +kernel) rfl)⟩
theorem fP_X8_62 : FP RX8 "<init>" 62 8 22 := ⟨RX8, TX8, 60, rfl, by decide, rfl, Or.inr (Or.inl ⟨gw_mem 1071 (by decide +kernel) rfl, rfl, rfl, rfl⟩)⟩
theorem fL_X8_65 : FL RX8 65 8 23 := ⟨RX8, TX8, 60, rfl, by decide, rfl, Or.inl (gw_mem 1072 (by decide +kernel) rfl)⟩
theorem fP_X8_65 : FP RX8 "<init>" 65 8 23 := ⟨RX8, TX8, 60, rfl, by decide, rfl, Or.inr (Or.inl ⟨gw_mem 1072 (by decide +kernel) rfl, rfl, rfl, rfl⟩)⟩
theorem fL_X8_68 : FL RX8 68 8 24 := ⟨RX8, TX8, 60, rfl, by decide, rfl, Or.inl (gw_mem 1073 (by decide +kernel) rfl)⟩
theorem fP_X8_68 : FP RX8 "<init>" 68 8 24 := ⟨RX8, TX8, 60, rfl, by decide, rfl, Or.inr (Or.inl ⟨gw_mem 1073 (by decide +kernel) rfl, rfl, rfl, rfl⟩)⟩
theorem fL_X8_71 : FL RX8 71 8 25 := ⟨RX8, TX8, 60, rfl, by decide, rfl, Or.inl (gw_mem 1074 (by decide +kernel) rfl)⟩
theorem fP_X8_71 : FP RX8 "<init>" 71 8 25 := ⟨RX8, TX8, 60, rfl, by decide, rfl, Or.inr (Or.inl ⟨gw_mem 1074 (by decide +kernel) rfl, rfl, rfl, rfl⟩)⟩
theorem fL_X8_74 : FL RX8 74 8 26 := ⟨RX8, TX8, 60, rfl, by decide, rfl, Or.inl (gw_mem 1075 (by decide +kernel) rfl)⟩
theorem fP_X8_74 : FP RX8 "<init>" 74 8 26 := ⟨RX8, TX8, 60, rfl, by decide, rfl, Or.inr (Or.inl ⟨gw_mem 1075 (by decide +kernel) rfl, rfl, rfl, rfl⟩)⟩
theorem fL_X8_77 : FL RX8 77 8 27 := ⟨RX8, TX8, 60, rfl, by decide, rfl, Or.inl (gw_mem 1076 (by decide +kernel) rfl)⟩
theorem fP_X8_77 : FP RX8 "<init>" 77 8 27 := ⟨RX8, TX8, 60, rfl, by decide, rfl, Or.inr (Or.inl ⟨gw_mem 1076 (by decide +kernel) rfl, rfl, rfl, rfl⟩)⟩
theorem fL_X8_80 : FL RX8 80 8 28 := ⟨RX8, TX8, 60, rfl, by decide, rfl, Or.inl (gw_mem 1077 (by decide +kernel) rfl)⟩
theorem fP_X8_80 : FP RX8 "<init>" 80 8 28 := ⟨RX8, TX8, 60, rfl, by decide, rfl, Or.inr (Or.inl ⟨gw_mem 1077 (by decide +kernel) rfl, rfl, rfl, rfl⟩)⟩
theorem fL_X8_83 : FL RX8 83 8 31 := ⟨RX8, TX8, 60, rfl, by decide, rfl, Or.inl (gw_mem 1080 (by decide +kernel) rfl)⟩
theorem fP_X8_83 : FP RX8 "<init>" 83 8 31 := ⟨RX8, TX8, 60, rfl, by decide, rfl, Or.inr (Or.inl ⟨gw_mem 1080 (by decide +kernel) rfl, rfl, rfl, rfl⟩)⟩
theorem fL_X8_86 : FL RX8 86 8 32 := ⟨RX8, TX8, 60, rfl, by decide, rfl, Or.inl (gw_mem 1081 (by decide +kernel) rfl)⟩
theorem fP_X8_86 : FP RX8 "<init>" 86 8 32 := ⟨RX8, TX8, 60, rfl, by decide, rfl, Or.inr (Or.inl ⟨gw_mem 1081 (by decide +kernel) rfl, rfl, rfl, rfl⟩)⟩
theorem fL_X8_89 : FL RX8 89 8 33 := ⟨RX8, TX8, 60, rfl, by decide, rfl, Or.inl (gw_mem 1082 (by decide +kernel) rfl)⟩
theorem fP_X8_89 : FP RX8 "<init>" 89 8 33 := ⟨RX8, TX8, 60, rfl, by decide, rfl, Or.inr (Or.inl ⟨gw_mem 1082 (by decide +kernel) rfl, rfl, rfl, rfl⟩)⟩
theorem fL_X8_92 : FL RX8 92 8 34 := ⟨RX8, TX8, 60, rfl, by decide, rfl, Or.inl (gw_mem 1083 (by decide +kernel) rfl)⟩
theorem fP_X8_92 : FP RX8 "<init>" 92 8 34 := ⟨RX8, TX8, 60, rfl, by decide, rfl, Or.inr (Or.inl ⟨gw_mem 1083 (by decide +kernel) rfl, rfl, rfl, rfl⟩)⟩
theorem fL_X8_95 : FL RX8 95 8 35 := ⟨RX8, TX8, 60, rfl, by decide, rfl, Or.inl (gw_mem 1084 (by decide +kernel) rfl)⟩
theorem fP_X8_95 : FP RX8 "<init>" 95 8 35 := ⟨RX8, TX8, 60, rfl, by decide, rfl, Or.inr (Or.inl ⟨gw_mem 1084 (by decide +kernel) rfl, rfl, rfl, rfl⟩)⟩
theorem fL_X8_98 : FL RX8 98 8 36 := ⟨RX8, TX8, 60, rfl, by decide, rfl, Or.inl (gw_mem 1085 (by decide +kernel) rfl)⟩
theorem fP_X8_98 : FP RX8 "<init>" 98 8 36 := ⟨RX8, TX8, 60, rfl, by decide, rfl, Or.inr (Or.inl ⟨gw_mem 1085 (by decide +kernel) rfl, rfl, rfl, rfl⟩)⟩
theorem fL_X8_101 : FL RX8 101 8 37 := ⟨RX8, TX8, 60, rfl, by decide, rfl, Or.inl (gw_mem 1086 (by decide +kernel) rfl)⟩
theorem fP_X8_101 : FP RX8 "<init>" 101 8 37 := ⟨RX8, TX8, 60, rfl, by decide, rfl, Or.inr (Or.inl ⟨gw_mem 1086 (by decide +kernel) rfl, rfl, rfl, rfl⟩)⟩
theorem fL_X8_105 : FL RX8 105 8 38 := ⟨RX8, TX8, 60, rfl, by decide, rfl, Or.inl (gw_mem 1087 (by decide +kernel) rfl)⟩
theorem fP_X8_105 : FP RX8 "<init>" 105 8 38 := ⟨RX8, TX8, 60, rfl, by decide, rfl, Or.inr (Or.inl ⟨gw_mem 1087 (by decide +kernel) rfl, rfl, rfl, rfl⟩)⟩
theorem fL_X8_108 : FL RX8 108 8 39 := ⟨RX8, TX8, 60, rfl, by decide, rfl, Or.inl (gw_mem 1088 (by decide +kernel) rfl)⟩
theorem fP_X8_108 : FP RX8 "<init>" 108 8 39 := ⟨RX8, TX8, 60, rfl, by decide, rfl, Or.inr (Or.inl ⟨gw_mem 1088 (by decide +kernel) rfl, rfl, rfl, rfl⟩)⟩
theorem fL_X8_111 : FL RX8 111 8 40 := ⟨RX8, TX8, 60, rfl, by decide, rfl, Or.inl (gw_mem 1089 (by decide +kernel) rfl)⟩
theorem fP_X8_111 : FP RX8 "<init>" 111 8 40 := ⟨RX8, TX8, 60, rfl, by decide, rfl, Or.inr (Or.inl ⟨gw_mem 1089 (by decide +kernel) rfl, rfl, rfl, rfl⟩)⟩
theorem fL_X8_115 : FL RX8 115 8 41 := ⟨RX8, TX8, 60, rfl, by decide, rfl, Or.inl (gw_mem 1090 (by decide +kernel) rfl)⟩
theorem fP_X8_115 : FP RX8 "<init>" 115 8 41 := ⟨RX8, TX8, 60, rfl, by decide, rfl, Or.inr (Or.inl ⟨gw_mem 1090 (by decide +kernel) rfl, rfl, rfl, rfl⟩)⟩
theorem fL_X8_118 : FL RX8 118 8 42 := ⟨RX8, TX8, 60, rfl, by decide, rfl, Or.inl (gw_mem 1091 (by decide +kernel) rfl)⟩
theorem fP_X8_118 : FP RX8 "<init>" 118 8 42 := ⟨RX8, TX8, 60, rfl, by decide, rfl, Or.inr (Or.inl ⟨gw_mem 1091 (by decide +kernel) rfl, rfl, rfl, rfl⟩)⟩
theorem fL_X8_121 : FL RX8 121 8 43 := ⟨RX8, TX8, 60, rfl, by decide, rfl, Or.inl (gw_mem 1092 (by decide +kernel) rfl)⟩
theorem fP_X8_121 : FP RX8 "<init>" 121 8 43 := ⟨RX8, TX8, 60, rfl, by decide, rfl, Or.inr (Or.inl ⟨gw_mem 1092 (by decide +kernel) rfl, rfl, rfl, rfl⟩)⟩
theorem fL_X8_124 : FL RX8 124 8 44 := ⟨RX8, TX8, 60, rfl, by decide, rfl, Or.inl (gw_mem 1093 (by decide +kernel) rfl)⟩
theorem fP_X8_124 : FP RX8 "<init>" 124 8 44 := ⟨RX8, TX8, 60, rfl, by decide, rfl, Or.inr (Or.inl ⟨gw_mem 1093 (by decide +kernel) rfl, rfl, rfl, rfl⟩)⟩
theorem fL_X8_127 : FL RX8 127 8 45 := ⟨RX8, TX8, 60, rfl, by decide, rfl, Or.inl (gw_mem 1094 (by decide +kernel) rfl)⟩
theorem fP_X8_127 : FP RX8 "<init>" 127 8 45 := ⟨RX8, TX8, 60, rfl, by decide, rfl, Or.inr (Or.inl ⟨gw_mem 1094 (by decide +kernel) rfl, rfl, rfl, rfl⟩)⟩
theorem fL_X8_130 : FL RX8 130 8 46 := ⟨RX8, TX8, 60, rfl, by decide, rfl, Or.inl (gw_mem 1095 (by decide +kernel) rfl)⟩
theorem fP_X8_130 : FP RX8 "<init>" 130 8 46 := ⟨RX8, TX8, 60, rfl, by decide, rfl, Or.inr (Or.inl ⟨gw_mem 1095 (by decide +kernel) rfl, rfl, rfl, rfl⟩)⟩
theorem fL_X8_133 : FL RX8 133 8 48 := ⟨RX8, TX8, 60, rfl, by decide, rfl, Or.inl (gw_mem 1097 (by decide +kernel) rfl)⟩
theorem fP_X8_133 : FP RX8 "<init>" 133 8 48 := ⟨RX8, TX8, 60, rfl, by decide, rfl, Or.inr (Or.inl ⟨gw_mem 1097 (by decide +kernel) rfl, rfl, rfl, rfl⟩)⟩
theorem fL_X8_136 : FL RX8 136 8 49 := ⟨RX8, TX8, 60, rfl, by decide, rfl, Or.inl (gw_mem 1098 (by decide +kernel) rfl)⟩
theorem fP_X8_136 : FP RX8 "<init>" 136 8 49 := ⟨RX8, TX8, 60, rfl, by decide, rfl, Or.inr (Or.inl ⟨gw_mem 1098 (by decide +kernel) rfl, rfl, rfl, rfl⟩)⟩
theorem fL_X8_139 : FL RX8 139 8 56 := ⟨RX8, TX8, 60, rfl, by decide, rfl, Or.inl (gw_mem 1105 (by decide +kernel) rfl)⟩
theorem fP_X8_139 : FP RX8 "<init>" 139 8 56 := ⟨RX8, TX8, 60, rfl, by decide, rfl, Or.inr (Or.inl ⟨gw_mem 1105 (by decide +kernel) rfl, rfl, rfl, rfl⟩)⟩
theorem fL_X8_142 : FL RX8 142 8 57 := ⟨RX8, TX8, 60, rfl, by decide, rfl, Or.inl (gw_mem 1106 (by decide +kernel) rfl)⟩
theorem fP_X8_142 : FP RX8 "<init>" 142 8 57 := ⟨RX8, TX8, 60, rfl, by decide, rfl, Or.inr (Or.inl ⟨gw_mem 1106 (by decide +kernel) rfl, rfl, rfl, rfl⟩)⟩
theorem fL_X8_145 : FL RX8 145 8 58 := ⟨RX8, TX8, 60, rfl, by decide, rfl, Or.inl (gw_mem 1107 (by decide +kernel) rfl)⟩
theorem fP_X8_145 : FP RX8 "<init>" 145 8 58 := ⟨RX8, TX8, 60, rfl, by decide, rfl, Or.inr (Or.inl ⟨gw_mem 1107 (by decide +kernel) rfl, rfl, rfl, rfl⟩)⟩
theorem fL_X8_148 : FL RX8 148 8 59 := ⟨RX8, TX8, 60, rfl, by decide, rfl, Or.inl (gw_mem 1108 (by decide +kernel) rfl)⟩
theorem fP_X8_148 : FP RX8 "<init>" 148 8 59 := ⟨RX8, TX8, 60, rfl, by decide, rfl, Or.inr (Or.inl ⟨gw_mem 1108 (by decide +kernel) rfl, rfl, rfl, rfl⟩)⟩
theorem fL_X8_151 : FL RX8 151 8 2 := ⟨RX8, TX8, 60, rfl, by decide, rfl, Or.inl (gw_mem 1051 (by decide +kernel) rfl)⟩
theorem fP_X8_151 (nm : String) : FP RX8 nm 151 8 2 := ⟨RX8, TX8, 60, rfl, by decide, rfl, Or.inl ⟨gw_mem 1051 (by decide +kernel) rfl, rfl⟩⟩
theorem fL_X8_163 : FL RX8 163 8 4 := ⟨RX8, TX8, 60, rfl, by decide, rfl, Or.inl (gw_mem 1053 (by decide +kernel) rfl)⟩
theorem fP_X8_163 (nm : String) : FP RX8 nm 163 8 4 := ⟨RX8, TX8, 60, rfl, by decide, rfl, Or.inl ⟨gw_mem 1053 (by decide +kernel) rfl, rfl⟩⟩
theorem fL_X8_166 : FL RX8 166 8 3 := ⟨RX8, TX8, 60, rfl, by decide, rfl, Or.inl (gw_mem 1052 (by decide +kernel) rfl)⟩
theorem fP_X8_166 (nm : String) : FP RX8 nm 166 8 3 := ⟨RX8, TX8, 60, rfl, by decide, rfl, Or.inl ⟨gw_mem 1052 (by decide +kernel) rfl, rfl⟩⟩
theorem fL_X8_169 : FL RX8 169 8 5 := ⟨RX8, TX8, 60, rfl, by decide, rfl, Or.inl (gw_mem 1054 (by decide +kernel) rfl)⟩
theorem fP_X8_169 (nm : String) : FP RX8 nm 169 8 5 := ⟨RX8, TX8, 60, rfl, by decide, rfl, Or.inl ⟨gw_mem 1054 (by decide +kernel) rfl, rfl⟩⟩
theorem fL_X8_187 : FL RX8 187 8 6 := ⟨RX8, TX8, 60, rfl, by decide, rfl, Or.inl (gw_mem 1055 (by decide +kernel) rfl)⟩
theorem fP_X8_187 (nm : String) : FP RX8 nm 187 8 6 := ⟨RX8, TX8, 60, rfl, by decide, rfl, Or.inl ⟨gw_mem 1055 (by decide +kernel) rfl, rfl⟩⟩
theorem fL_X8_228 : FL RX8 228 8 29 := ⟨RX8, TX8, 60, rfl, by decide, rfl, Or.inl (gw_mem 1078 (by decide +kernel) rfl)⟩
theorem fP_X8_228 (nm : String) : FP RX8 nm 228 8 29 := ⟨RX8, TX8, 60, rfl, by decide, rfl, Or.inl ⟨gw_mem 1078 (by decide +kernel) rfl, rfl⟩⟩
theorem fL_X8_243 : FL RX8 243 8 30 := ⟨RX8, TX8, 60, rfl, by decide, rfl, Or.inl (gw_mem 1079 (by decide +kernel) rfl)⟩
theorem fP_X8_243 (nm : String) : FP RX8 nm 243 8 30 := ⟨RX8, TX8, 60, rfl, by decide, rfl, Or.inl ⟨gw_mem 1079 (by decide +kernel) rfl, rfl⟩⟩
theorem fL_X8_247 : FL RX8 247 8 50 := ⟨RX8, TX8, 60, rfl, by decide, rfl, Or.inl (gw_mem 1099 (by decide +kernel) rfl)⟩
theorem fP_X8_247 (nm : String) : FP RX8 nm 247 8 50 := ⟨RX8, TX8, 60, rfl, by decide, rfl, Or.inl ⟨gw_mem 1099 (by decide +kernel) rfl, rfl⟩⟩
theorem fL_X8_344 : FL RX8 344 8 47 := ⟨RX8, TX8, 60, rfl, by decide, rfl, Or.inl (gw_mem 1096 (by decide +kernel) rfl)⟩
theorem fP_X8_344 (nm : String) : FP RX8 nm 344 8 47 := ⟨RX8, TX8, 60, rfl, by decide, rfl, Or.inl ⟨gw_mem 1096 (by decide +kernel) rfl, rfl⟩⟩
theorem fL_X8_418 : FL RX8 418 8 54 := ⟨RX8, TX8, 60, rfl, by decide, rfl, Or.inl (gw_mem 1103 (by decide +kernel) rfl)⟩
theorem fP_X8_418 (nm : String) : FP RX8 nm 418 8 54 := ⟨RX8, TX8, 60, rfl, by decide, rfl, Or.inl ⟨gw_mem 1103 (by decide +kernel) rfl, rfl⟩⟩
theorem fL_X8_424 : FL RX8 424 8 55 := ⟨RX8, TX8, 60, rfl, by decide, rfl, Or.inl (gw_mem 1104 (by decide +kernel) rfl)⟩
theorem fP_X8_424 (nm : String) : FP RX8 nm 424 8 55 := ⟨RX8, TX8, 60, rfl, by decide, rfl, Or.inl ⟨gw_mem 1104 (by decide +kernel) rfl, rfl⟩⟩
theorem fL_X8_434 : FL RX8 434 8 52 := ⟨RX8, TX8, 60, rfl, by decide, rfl, Or.inl (gw_mem 1101 (by decide +kernel) rfl)⟩
theorem fP_X8_434 (nm : String) : FP RX8 nm 434 8 52 := ⟨RX8, TX8, 60, rfl, by decide, rfl, Or.inl ⟨gw_mem 1101 (by decide +kernel) rfl, rfl⟩⟩
theorem fL_X8_437 : FL RX8 437 8 53 := ⟨RX8, TX8, 60, rfl, by decide, rfl, Or.inl (gw_mem 1102 (by decide +kernel) rfl)⟩
theorem fP_X8_437 (nm : String) : FP RX8 nm 437 8 53 := ⟨RX8, TX8, 60, rfl, by decide, rfl, Or.inl ⟨gw_mem 1102 (by decide +kernel) rfl, rfl⟩⟩
theorem fL_X8_459 : FL RX8 459 8 51 := ⟨RX8, TX8, 60, rfl, by decide, rfl, Or.inl (gw_mem 1100 (by decide +kernel) rfl)⟩
theorem fP_X8_459 (nm : String) : FP RX8 nm 459 8 51 := ⟨RX8, TX8, 60, rfl, by decide, rfl, Or.inl ⟨gw_mem 1100 (by decide +kernel) rfl, rfl⟩⟩
theorem kM_J13_bitCount_95d88 : Cond.code yJ13_bitCount_95d88 cJ13_bitCount_95d88 2 (some .int) ∈ gw := gw_mem 749 (by decide +kernel) rfl
theorem iM_J13_bitCount_95d88 : Cond.static yJ13_bitCount_95d88 ∈ gw := gw_mem 748 (by decide +kernel) rfl
theorem kM_J13_numberOfTrailingZeros_95d88 : Cond.code yJ13_numberOfTrailingZeros_95d88 cJ13_numberOfTrailingZeros_95d88 3 (some .int) ∈ gw := gw_mem 1395 (by decide +kernel) rfl
theorem iM_J13_numberOfTrailingZeros_95d88 : Cond.static yJ13_numberOfTrailingZeros_95d88 ∈ gw := gw_mem 1394 (by decide +kernel) rfl
theorem kM_J6_numberOfTrailingZeros_0f7a4 : Cond.code yJ6_numberOfTrailingZeros_0f7a4 cJ6_numberOfTrailingZeros_0f7a4 2 (some .int) ∈ gw := gw_mem 1398 (by decide +kernel) rfl
theorem iM_J6_numberOfTrailingZeros_0f7a4 : Cond.static yJ6_numberOfTrailingZeros_0f7a4 ∈ gw := gw_mem 1397 (by decide +kernel) rfl
theorem kM_J7_fill_53178 : Cond.code yJ7_fill_53178 cJ7_fill_53178 4 none ∈ gw := gw_mem 852 (by decide +kernel) rfl
theorem iM_J7_fill_53178 : Cond.static yJ7_fill_53178 ∈ gw := gw_mem 851 (by decide +kernel) rfl
theorem kM_J7_fill_d0a16 : Cond.code yJ7_fill_d0a16 cJ7_fill_d0a16 5 none ∈ gw := gw_mem 776 (by decide +kernel) rfl
theorem iM_J7_fill_d0a16 : Cond.static yJ7_fill_d0a16 ∈ gw := gw_mem 775 (by decide +kernel) rfl
theorem kM_J9_min_7cf53 : Cond.code yJ9_min_7cf53 cJ9_min_7cf53 2 (some .int) ∈ gw := gw_mem 587 (by decide +kernel) rfl
theorem iM_J9_min_7cf53 : Cond.static yJ9_min_7cf53 ∈ gw := gw_mem 586 (by decide +kernel) rfl
theorem kM_X0_add : Cond.code yX0_add cX0_add 6 (some .int) ∈ gw := gw_mem 644 (by decide +kernel) rfl
theorem iM_X0_add : Cond.instanceMethod yX0_add ∈ gw := gw_mem 643 (by decide +kernel) rfl
theorem sM_X0_add : Cond.selects RX0 yX0_add yX0_add ∈ gw := gw_mem 14 (by decide +kernel) rfl
theorem kM_X0_allMayEnd : Cond.code yX0_allMayEnd cX0_allMayEnd 1 (some .boolean) ∈ gw := gw_mem 730 (by decide +kernel) rfl
theorem iM_X0_allMayEnd : Cond.instanceMethod yX0_allMayEnd ∈ gw := gw_mem 729 (by decide +kernel) rfl
theorem sM_X0_allMayEnd : Cond.selects RX0 yX0_allMayEnd yX0_allMayEnd ∈ gw := gw_mem 33 (by decide +kernel) rfl
theorem kM_X0_callsOf : Cond.code yX0_callsOf cX0_callsOf 5 (some .long) ∈ gw := gw_mem 849 (by decide +kernel) rfl
theorem iM_X0_callsOf : Cond.instanceMethod yX0_callsOf ∈ gw := gw_mem 848 (by decide +kernel) rfl
theorem sM_X0_callsOf : Cond.selects RX0 yX0_callsOf yX0_callsOf ∈ gw := gw_mem 53 (by decide +kernel) rfl
theorem kM_X0_callsOnlyTold : Cond.code yX0_callsOnlyTold cX0_callsOnlyTold 3 (some .boolean) ∈ gw := gw_mem 686 (by decide +kernel) rfl
theorem iM_X0_callsOnlyTold : Cond.instanceMethod yX0_callsOnlyTold ∈ gw := gw_mem 685 (by decide +kernel) rfl
theorem sM_X0_callsOnlyTold : Cond.selects RX0 yX0_callsOnlyTold yX0_callsOnlyTold ∈ gw := gw_mem 23 (by decide +kernel) rfl
theorem kM_X0_clear : Cond.code yX0_clear cX0_clear 1 none ∈ gw := gw_mem 591 (by decide +kernel) rfl
theorem iM_X0_clear : Cond.instanceMethod yX0_clear ∈ gw := gw_mem 590 (by decide +kernel) rfl
theorem sM_X0_clear : Cond.selects RX0 yX0_clear yX0_clear ∈ gw := gw_mem 3 (by decide +kernel) rfl
theorem kM_X0_decides : Cond.code yX0_decides cX0_decides 2 (some .boolean) ∈ gw := gw_mem 726 (by decide +kernel) rfl
theorem iM_X0_decides : Cond.instanceMethod yX0_decides ∈ gw := gw_mem 725 (by decide +kernel) rfl
theorem sM_X0_decides : Cond.selects RX0 yX0_decides yX0_decides ∈ gw := gw_mem 32 (by decide +kernel) rfl
theorem kM_X0_escapes : Cond.code yX0_escapes cX0_escapes 2 (some .boolean) ∈ gw := gw_mem 722 (by decide +kernel) rfl
theorem iM_X0_escapes : Cond.instanceMethod yX0_escapes ∈ gw := gw_mem 721 (by decide +kernel) rfl
theorem sM_X0_escapes : Cond.selects RX0 yX0_escapes yX0_escapes ∈ gw := gw_mem 31 (by decide +kernel) rfl
theorem kM_X0_goesStraight : Cond.code yX0_goesStraight cX0_goesStraight 2 (some .boolean) ∈ gw := gw_mem 718 (by decide +kernel) rfl
theorem iM_X0_goesStraight : Cond.instanceMethod yX0_goesStraight ∈ gw := gw_mem 717 (by decide +kernel) rfl
theorem sM_X0_goesStraight : Cond.selects RX0 yX0_goesStraight yX0_goesStraight ∈ gw := gw_mem 30 (by decide +kernel) rfl
theorem kM_X0_init : Cond.code yX0_init cX0_init 1 none ∈ gw := gw_mem 189 (by decide +kernel) rfl
theorem iM_X0_init : Cond.instanceMethod yX0_init ∈ gw := gw_mem 188 (by decide +kernel) rfl
theorem kM_X0_settleEnds : Cond.code yX0_settleEnds cX0_settleEnds 6 none ∈ gw := gw_mem 706 (by decide +kernel) rfl
theorem iM_X0_settleEnds : Cond.instanceMethod yX0_settleEnds ∈ gw := gw_mem 705 (by decide +kernel) rfl
theorem sM_X0_settleEnds : Cond.selects RX0 yX0_settleEnds yX0_settleEnds ∈ gw := gw_mem 28 (by decide +kernel) rfl
theorem kM_X0_tellsAside : Cond.code yX0_tellsAside cX0_tellsAside 3 (some .boolean) ∈ gw := gw_mem 823 (by decide +kernel) rfl
theorem iM_X0_tellsAside : Cond.instanceMethod yX0_tellsAside ∈ gw := gw_mem 822 (by decide +kernel) rfl
theorem sM_X0_tellsAside : Cond.selects RX0 yX0_tellsAside yX0_tellsAside ∈ gw := gw_mem 48 (by decide +kernel) rfl
theorem kM_X0_tellsStraight : Cond.code yX0_tellsStraight cX0_tellsStraight 3 (some .boolean) ∈ gw := gw_mem 814 (by decide +kernel) rfl
theorem iM_X0_tellsStraight : Cond.instanceMethod yX0_tellsStraight ∈ gw := gw_mem 813 (by decide +kernel) rfl
theorem sM_X0_tellsStraight : Cond.selects RX0 yX0_tellsStraight yX0_tellsStraight ∈ gw := gw_mem 46 (by decide +kernel) rfl
theorem kM_X0_walk : Cond.code yX0_walk cX0_walk 5 none ∈ gw := gw_mem 710 (by decide +kernel) rfl
theorem iM_X0_walk : Cond.instanceMethod yX0_walk ∈ gw := gw_mem 709 (by decide +kernel) rfl
theorem sM_X0_walk : Cond.selects RX0 yX0_walk yX0_walk ∈ gw := gw_mem 29 (by decide +kernel) rfl
theorem kM_X1_addTellers : Cond.code yX1_addTellers cX1_addTellers 6 (some .boolean) ∈ gw := gw_mem 819 (by decide +kernel) rfl
theorem iM_X1_addTellers : Cond.instanceMethod yX1_addTellers ∈ gw := gw_mem 818 (by decide +kernel) rfl
theorem sM_X1_addTellers : Cond.selects RX1 yX1_addTellers yX1_addTellers ∈ gw := gw_mem 47 (by decide +kernel) rfl
theorem kM_X1_build : Cond.code yX1_build cX1_build 3 none ∈ gw := gw_mem 773 (by decide +kernel) rfl
theorem iM_X1_build : Cond.instanceMethod yX1_build ∈ gw := gw_mem 772 (by decide +kernel) rfl
theorem sM_X1_build : Cond.selects RX1 yX1_build yX1_build ∈ gw := gw_mem 38 (by decide +kernel) rfl
theorem kM_X1_findCertain : Cond.code yX1_findCertain cX1_findCertain 6 none ∈ gw := gw_mem 784 (by decide +kernel) rfl
theorem iM_X1_findCertain : Cond.instanceMethod yX1_findCertain ∈ gw := gw_mem 783 (by decide +kernel) rfl
theorem sM_X1_findCertain : Cond.selects RX1 yX1_findCertain yX1_findCertain ∈ gw := gw_mem 40 (by decide +kernel) rfl
theorem kM_X1_findTellers : Cond.code yX1_findTellers cX1_findTellers 5 none ∈ gw := gw_mem 804 (by decide +kernel) rfl
theorem iM_X1_findTellers : Cond.instanceMethod yX1_findTellers ∈ gw := gw_mem 803 (by decide +kernel) rfl
theorem sM_X1_findTellers : Cond.selects RX1 yX1_findTellers yX1_findTellers ∈ gw := gw_mem 44 (by decide +kernel) rfl
theorem kM_X1_init : Cond.code yX1_init cX1_init 2 none ∈ gw := gw_mem 422 (by decide +kernel) rfl
theorem iM_X1_init : Cond.instanceMethod yX1_init ∈ gw := gw_mem 421 (by decide +kernel) rfl
theorem kM_X1_kindsBetween : Cond.code yX1_kindsBetween cX1_kindsBetween 3 (some .int) ∈ gw := gw_mem 888 (by decide +kernel) rfl
theorem iM_X1_kindsBetween : Cond.instanceMethod yX1_kindsBetween ∈ gw := gw_mem 887 (by decide +kernel) rfl
theorem sM_X1_kindsBetween : Cond.selects RX1 yX1_kindsBetween yX1_kindsBetween ∈ gw := gw_mem 61 (by decide +kernel) rfl
theorem kM_X1_passOn : Cond.code yX1_passOn cX1_passOn 5 (some .boolean) ∈ gw := gw_mem 809 (by decide +kernel) rfl
theorem iM_X1_passOn : Cond.instanceMethod yX1_passOn ∈ gw := gw_mem 808 (by decide +kernel) rfl
theorem sM_X1_passOn : Cond.selects RX1 yX1_passOn yX1_passOn ∈ gw := gw_mem 45 (by decide +kernel) rfl
end
section
theorem kM_X1_tie : Cond.code yX1_tie cX1_tie 6 none ∈ gw := gw_mem 800 (by decide +kernel) rfl
theorem iM_X1_tie : Cond.instanceMethod yX1_tie ∈ gw := gw_mem 799 (by decide +kernel) rfl
theorem sM_X1_tie : Cond.selects RX1 yX1_tie yX1_tie ∈ gw := gw_mem 43 (by decide +kernel) rfl
theorem kM_X1_tieAll : Cond.code yX1_tieAll cX1_tieAll 6 none ∈ gw := gw_mem 795 (by decide +kernel) rfl
theorem iM_X1_tieAll : Cond.instanceMethod yX1_tieAll ∈ gw := gw_mem 794 (by decide +kernel) rfl
theorem sM_X1_tieAll : Cond.selects RX1 yX1_tieAll yX1_tieAll ∈ gw := gw_mem 42 (by decide +kernel) rfl
theorem kM_X1_tieByValue : Cond.code yX1_tieByValue cX1_tieByValue 4 none ∈ gw := gw_mem 827 (by decide +kernel) rfl
theorem iM_X1_tieByValue : Cond.instanceMethod yX1_tieByValue ∈ gw := gw_mem 826 (by decide +kernel) rfl
theorem sM_X1_tieByValue : Cond.selects RX1 yX1_tieByValue yX1_tieByValue ∈ gw := gw_mem 49 (by decide +kernel) rfl
theorem kM_X1_tieByWay : Cond.code yX1_tieByWay cX1_tieByWay 2 none ∈ gw := gw_mem 780 (by decide +kernel) rfl
theorem iM_X1_tieByWay : Cond.instanceMethod yX1_tieByWay ∈ gw := gw_mem 779 (by decide +kernel) rfl
theorem sM_X1_tieByWay : Cond.selects RX1 yX1_tieByWay yX1_tieByWay ∈ gw := gw_mem 39 (by decide +kernel) rfl
theorem kM_X1_tieCalls : Cond.code yX1_tieCalls cX1_tieCalls 3 none ∈ gw := gw_mem 845 (by decide +kernel) rfl
theorem iM_X1_tieCalls : Cond.instanceMethod yX1_tieCalls ∈ gw := gw_mem 844 (by decide +kernel) rfl
theorem sM_X1_tieCalls : Cond.selects RX1 yX1_tieCalls yX1_tieCalls ∈ gw := gw_mem 52 (by decide +kernel) rfl
theorem kM_X1_tieDecided : Cond.code yX1_tieDecided cX1_tieDecided 5 none ∈ gw := gw_mem 791 (by decide +kernel) rfl
theorem iM_X1_tieDecided : Cond.instanceMethod yX1_tieDecided ∈ gw := gw_mem 790 (by decide +kernel) rfl
theorem sM_X1_tieDecided : Cond.selects RX1 yX1_tieDecided yX1_tieDecided ∈ gw := gw_mem 41 (by decide +kernel) rfl
theorem kM_X1_tieEnds : Cond.code yX1_tieEnds cX1_tieEnds 4 none ∈ gw := gw_mem 840 (by decide +kernel) rfl
theorem iM_X1_tieEnds : Cond.instanceMethod yX1_tieEnds ∈ gw := gw_mem 839 (by decide +kernel) rfl
theorem sM_X1_tieEnds : Cond.selects RX1 yX1_tieEnds yX1_tieEnds ∈ gw := gw_mem 51 (by decide +kernel) rfl
theorem kM_X1_tieUse : Cond.code yX1_tieUse cX1_tieUse 8 none ∈ gw := gw_mem 831 (by decide +kernel) rfl
theorem iM_X1_tieUse : Cond.instanceMethod yX1_tieUse ∈ gw := gw_mem 830 (by decide +kernel) rfl
theorem sM_X1_tieUse : Cond.selects RX1 yX1_tieUse yX1_tieUse ∈ gw := gw_mem 50 (by decide +kernel) rfl
theorem kM_X2_compute : Cond.code yX2_compute cX2_compute 4 (some .int) ∈ gw := gw_mem 1006 (by decide +kernel) rfl
theorem iM_X2_compute : Cond.instanceMethod yX2_compute ∈ gw := gw_mem 1005 (by decide +kernel) rfl
theorem sM_X2_compute : Cond.selects RX2 yX2_compute yX2_compute ∈ gw := gw_mem 80 (by decide +kernel) rfl
theorem kM_X2_enter : Cond.code yX2_enter cX2_enter 6 none ∈ gw := gw_mem 980 (by decide +kernel) rfl
theorem iM_X2_enter : Cond.instanceMethod yX2_enter ∈ gw := gw_mem 979 (by decide +kernel) rfl
theorem sM_X2_enter : Cond.selects RX2 yX2_enter yX2_enter ∈ gw := gw_mem 74 (by decide +kernel) rfl
theorem kM_X2_forget : Cond.code yX2_forget cX2_forget 1 none ∈ gw := gw_mem 738 (by decide +kernel) rfl
theorem iM_X2_forget : Cond.instanceMethod yX2_forget ∈ gw := gw_mem 737 (by decide +kernel) rfl
theorem sM_X2_forget : Cond.selects RX2 yX2_forget yX2_forget ∈ gw := gw_mem 35 (by decide +kernel) rfl
theorem kM_X2_init : Cond.code yX2_init cX2_init 2 none ∈ gw := gw_mem 494 (by decide +kernel) rfl
theorem iM_X2_init : Cond.instanceMethod yX2_init ∈ gw := gw_mem 493 (by decide +kernel) rfl
theorem kM_X2_leave : Cond.code yX2_leave cX2_leave 6 none ∈ gw := gw_mem 989 (by decide +kernel) rfl
theorem iM_X2_leave : Cond.instanceMethod yX2_leave ∈ gw := gw_mem 988 (by decide +kernel) rfl
theorem sM_X2_leave : Cond.selects RX2 yX2_leave yX2_leave ∈ gw := gw_mem 76 (by decide +kernel) rfl
theorem kM_X2_load : Cond.code yX2_load cX2_load 2 (some .int) ∈ gw := gw_mem 1010 (by decide +kernel) rfl
theorem iM_X2_load : Cond.instanceMethod yX2_load ∈ gw := gw_mem 1009 (by decide +kernel) rfl
theorem sM_X2_load : Cond.selects RX2 yX2_load yX2_load ∈ gw := gw_mem 81 (by decide +kernel) rfl
theorem kM_X2_open : Cond.code yX2_open cX2_open 4 none ∈ gw := gw_mem 1014 (by decide +kernel) rfl
theorem iM_X2_open : Cond.instanceMethod yX2_open ∈ gw := gw_mem 1013 (by decide +kernel) rfl
theorem sM_X2_open : Cond.selects RX2 yX2_open yX2_open ∈ gw := gw_mem 82 (by decide +kernel) rfl
theorem kM_X2_perform : Cond.code yX2_perform cX2_perform 4 none ∈ gw := gw_mem 1002 (by decide +kernel) rfl
theorem iM_X2_perform : Cond.instanceMethod yX2_perform ∈ gw := gw_mem 1001 (by decide +kernel) rfl
theorem sM_X2_perform : Cond.selects RX2 yX2_perform yX2_perform ∈ gw := gw_mem 79 (by decide +kernel) rfl
theorem kM_X2_play : Cond.code yX2_play cX2_play 7 (some .int) ∈ gw := gw_mem 975 (by decide +kernel) rfl
theorem iM_X2_play : Cond.instanceMethod yX2_play ∈ gw := gw_mem 974 (by decide +kernel) rfl
theorem sM_X2_play : Cond.selects RX2 yX2_play yX2_play ∈ gw := gw_mem 73 (by decide +kernel) rfl
theorem kM_X2_raise : Cond.code yX2_raise cX2_raise 3 none ∈ gw := gw_mem 1018 (by decide +kernel) rfl
theorem iM_X2_raise : Cond.instanceMethod yX2_raise ∈ gw := gw_mem 1017 (by decide +kernel) rfl
theorem sM_X2_raise : Cond.selects RX2 yX2_raise yX2_raise ∈ gw := gw_mem 83 (by decide +kernel) rfl
theorem kM_X2_see : Cond.code yX2_see cX2_see 3 none ∈ gw := gw_mem 993 (by decide +kernel) rfl
theorem iM_X2_see : Cond.instanceMethod yX2_see ∈ gw := gw_mem 992 (by decide +kernel) rfl
theorem sM_X2_see : Cond.selects RX2 yX2_see yX2_see ∈ gw := gw_mem 77 (by decide +kernel) rfl
theorem kM_X2_sightOf : Cond.code yX2_sightOf cX2_sightOf 5 (some .int) ∈ gw := gw_mem 1042 (by decide +kernel) rfl
theorem iM_X2_sightOf : Cond.instanceMethod yX2_sightOf ∈ gw := gw_mem 1041 (by decide +kernel) rfl
theorem sM_X2_sightOf : Cond.selects RX2 yX2_sightOf yX2_sightOf ∈ gw := gw_mem 86 (by decide +kernel) rfl
theorem kM_X2_sightsOf : Cond.code yX2_sightsOf cX2_sightsOf 4 (some .int) ∈ gw := gw_mem 1038 (by decide +kernel) rfl
theorem iM_X2_sightsOf : Cond.instanceMethod yX2_sightsOf ∈ gw := gw_mem 1037 (by decide +kernel) rfl
theorem sM_X2_sightsOf : Cond.selects RX2 yX2_sightsOf yX2_sightsOf ∈ gw := gw_mem 85 (by decide +kernel) rfl
theorem kM_X2_step : Cond.code yX2_step cX2_step 1 none ∈ gw := gw_mem 985 (by decide +kernel) rfl
theorem iM_X2_step : Cond.instanceMethod yX2_step ∈ gw := gw_mem 984 (by decide +kernel) rfl
theorem sM_X2_step : Cond.selects RX2 yX2_step yX2_step ∈ gw := gw_mem 75 (by decide +kernel) rfl
theorem kM_X2_store : Cond.code yX2_store cX2_store 3 none ∈ gw := gw_mem 997 (by decide +kernel) rfl
theorem iM_X2_store : Cond.instanceMethod yX2_store ∈ gw := gw_mem 996 (by decide +kernel) rfl
theorem sM_X2_store : Cond.selects RX2 yX2_store yX2_store ∈ gw := gw_mem 78 (by decide +kernel) rfl
theorem kM_X2_tell : Cond.code yX2_tell cX2_tell 2 (some .int) ∈ gw := gw_mem 1030 (by decide +kernel) rfl
theorem iM_X2_tell : Cond.instanceMethod yX2_tell ∈ gw := gw_mem 1029 (by decide +kernel) rfl
theorem sM_X2_tell : Cond.selects RX2 yX2_tell yX2_tell ∈ gw := gw_mem 84 (by decide +kernel) rfl
theorem kM_X3_addItem : Cond.code yX3_addItem cX3_addItem 3 (some .int) ∈ gw := gw_mem 629 (by decide +kernel) rfl
theorem iM_X3_addItem : Cond.instanceMethod yX3_addItem ∈ gw := gw_mem 628 (by decide +kernel) rfl
theorem sM_X3_addItem : Cond.selects RX3 yX3_addItem yX3_addItem ∈ gw := gw_mem 11 (by decide +kernel) rfl
theorem kM_X3_blame : Cond.code yX3_blame cX3_blame 3 none ∈ gw := gw_mem 603 (by decide +kernel) rfl
theorem iM_X3_blame : Cond.instanceMethod yX3_blame ∈ gw := gw_mem 602 (by decide +kernel) rfl
theorem sM_X3_blame : Cond.selects RX3 yX3_blame yX3_blame ∈ gw := gw_mem 6 (by decide +kernel) rfl
theorem kM_X3_closeBlock : Cond.code yX3_closeBlock cX3_closeBlock 2 none ∈ gw := gw_mem 611 (by decide +kernel) rfl
theorem iM_X3_closeBlock : Cond.instanceMethod yX3_closeBlock ∈ gw := gw_mem 610 (by decide +kernel) rfl
theorem sM_X3_closeBlock : Cond.selects RX3 yX3_closeBlock yX3_closeBlock ∈ gw := gw_mem 8 (by decide +kernel) rfl
theorem kM_X3_finish : Cond.code yX3_finish cX3_finish 1 none ∈ gw := gw_mem 682 (by decide +kernel) rfl
theorem iM_X3_finish : Cond.instanceMethod yX3_finish ∈ gw := gw_mem 681 (by decide +kernel) rfl
theorem sM_X3_finish : Cond.selects RX3 yX3_finish yX3_finish ∈ gw := gw_mem 22 (by decide +kernel) rfl
theorem kM_X3_init : Cond.code yX3_init cX3_init 2 none ∈ gw := gw_mem 313 (by decide +kernel) rfl
theorem iM_X3_init : Cond.instanceMethod yX3_init ∈ gw := gw_mem 312 (by decide +kernel) rfl
theorem kM_X3_isDigit : Cond.code yX3_isDigit cX3_isDigit 1 (some .boolean) ∈ gw := gw_mem 666 (by decide +kernel) rfl
theorem iM_X3_isDigit : Cond.static yX3_isDigit ∈ gw := gw_mem 665 (by decide +kernel) rfl
theorem kM_X3_kindBegunBy : Cond.code yX3_kindBegunBy cX3_kindBegunBy 1 (some .int) ∈ gw := gw_mem 640 (by decide +kernel) rfl
theorem iM_X3_kindBegunBy : Cond.static yX3_kindBegunBy ∈ gw := gw_mem 639 (by decide +kernel) rfl
theorem kM_X3_look : Cond.code yX3_look cX3_look 1 (some .int) ∈ gw := gw_mem 599 (by decide +kernel) rfl
theorem iM_X3_look : Cond.instanceMethod yX3_look ∈ gw := gw_mem 598 (by decide +kernel) rfl
theorem sM_X3_look : Cond.selects RX3 yX3_look yX3_look ∈ gw := gw_mem 5 (by decide +kernel) rfl
theorem kM_X3_nameOf : Cond.code yX3_nameOf cX3_nameOf 1 (some .int) ∈ gw := gw_mem 618 (by decide +kernel) rfl
theorem iM_X3_nameOf : Cond.static yX3_nameOf ∈ gw := gw_mem 617 (by decide +kernel) rfl
theorem kM_X3_openBlock : Cond.code yX3_openBlock cX3_openBlock 3 none ∈ gw := gw_mem 607 (by decide +kernel) rfl
theorem iM_X3_openBlock : Cond.instanceMethod yX3_openBlock ∈ gw := gw_mem 606 (by decide +kernel) rfl
theorem sM_X3_openBlock : Cond.selects RX3 yX3_openBlock yX3_openBlock ∈ gw := gw_mem 7 (by decide +kernel) rfl
theorem kM_X3_read : Cond.code yX3_read cX3_read 6 (some .int) ∈ gw := gw_mem 580 (by decide +kernel) rfl
theorem iM_X3_read : Cond.instanceMethod yX3_read ∈ gw := gw_mem 579 (by decide +kernel) rfl
theorem sM_X3_read : Cond.selects RX3 yX3_read yX3_read ∈ gw := gw_mem 1 (by decide +kernel) rfl
theorem kM_X3_readAssignment : Cond.code yX3_readAssignment cX3_readAssignment 4 none ∈ gw := gw_mem 648 (by decide +kernel) rfl
theorem iM_X3_readAssignment : Cond.instanceMethod yX3_readAssignment ∈ gw := gw_mem 647 (by decide +kernel) rfl
theorem sM_X3_readAssignment : Cond.selects RX3 yX3_readAssignment yX3_readAssignment ∈ gw := gw_mem 15 (by decide +kernel) rfl
theorem kM_X3_readCall : Cond.code yX3_readCall cX3_readCall 3 none ∈ gw := gw_mem 656 (by decide +kernel) rfl
theorem iM_X3_readCall : Cond.instanceMethod yX3_readCall ∈ gw := gw_mem 655 (by decide +kernel) rfl
theorem sM_X3_readCall : Cond.selects RX3 yX3_readCall yX3_readCall ∈ gw := gw_mem 17 (by decide +kernel) rfl
theorem kM_X3_readCondition : Cond.code yX3_readCondition cX3_readCondition 3 none ∈ gw := gw_mem 678 (by decide +kernel) rfl
theorem iM_X3_readCondition : Cond.instanceMethod yX3_readCondition ∈ gw := gw_mem 677 (by decide +kernel) rfl
theorem sM_X3_readCondition : Cond.selects RX3 yX3_readCondition yX3_readCondition ∈ gw := gw_mem 21 (by decide +kernel) rfl
theorem kM_X3_readNumber : Cond.code yX3_readNumber cX3_readNumber 3 (some .int) ∈ gw := gw_mem 670 (by decide +kernel) rfl
theorem iM_X3_readNumber : Cond.instanceMethod yX3_readNumber ∈ gw := gw_mem 669 (by decide +kernel) rfl
theorem sM_X3_readNumber : Cond.selects RX3 yX3_readNumber yX3_readNumber ∈ gw := gw_mem 19 (by decide +kernel) rfl
theorem kM_X3_readNumbers : Cond.code yX3_readNumbers cX3_readNumbers 3 none ∈ gw := gw_mem 674 (by decide +kernel) rfl
theorem iM_X3_readNumbers : Cond.instanceMethod yX3_readNumbers ∈ gw := gw_mem 673 (by decide +kernel) rfl
theorem sM_X3_readNumbers : Cond.selects RX3 yX3_readNumbers yX3_readNumbers ∈ gw := gw_mem 20 (by decide +kernel) rfl
theorem kM_X3_readOperand : Cond.code yX3_readOperand cX3_readOperand 3 (some .int) ∈ gw := gw_mem 663 (by decide +kernel) rfl
theorem iM_X3_readOperand : Cond.instanceMethod yX3_readOperand ∈ gw := gw_mem 662 (by decide +kernel) rfl
theorem sM_X3_readOperand : Cond.selects RX3 yX3_readOperand yX3_readOperand ∈ gw := gw_mem 18 (by decide +kernel) rfl
theorem kM_X3_readProcedure : Cond.code yX3_readProcedure cX3_readProcedure 2 none ∈ gw := gw_mem 595 (by decide +kernel) rfl
theorem iM_X3_readProcedure : Cond.instanceMethod yX3_readProcedure ∈ gw := gw_mem 594 (by decide +kernel) rfl
theorem sM_X3_readProcedure : Cond.selects RX3 yX3_readProcedure yX3_readProcedure ∈ gw := gw_mem 4 (by decide +kernel) rfl
theorem kM_X3_readSecond : Cond.code yX3_readSecond cX3_readSecond 5 none ∈ gw := gw_mem 615 (by decide +kernel) rfl
theorem iM_X3_readSecond : Cond.instanceMethod yX3_readSecond ∈ gw := gw_mem 614 (by decide +kernel) rfl
theorem sM_X3_readSecond : Cond.selects RX3 yX3_readSecond yX3_readSecond ∈ gw := gw_mem 9 (by decide +kernel) rfl
theorem kM_X3_readStatement : Cond.code yX3_readStatement cX3_readStatement 5 none ∈ gw := gw_mem 637 (by decide +kernel) rfl
theorem iM_X3_readStatement : Cond.instanceMethod yX3_readStatement ∈ gw := gw_mem 636 (by decide +kernel) rfl
theorem sM_X3_readStatement : Cond.selects RX3 yX3_readStatement yX3_readStatement ∈ gw := gw_mem 13 (by decide +kernel) rfl
theorem kM_X3_readTry : Cond.code yX3_readTry cX3_readTry 2 none ∈ gw := gw_mem 625 (by decide +kernel) rfl
theorem iM_X3_readTry : Cond.instanceMethod yX3_readTry ∈ gw := gw_mem 624 (by decide +kernel) rfl
theorem sM_X3_readTry : Cond.selects RX3 yX3_readTry yX3_readTry ∈ gw := gw_mem 10 (by decide +kernel) rfl
theorem kM_X3_start : Cond.code yX3_start cX3_start 4 none ∈ gw := gw_mem 584 (by decide +kernel) rfl
theorem iM_X3_start : Cond.instanceMethod yX3_start ∈ gw := gw_mem 583 (by decide +kernel) rfl
theorem sM_X3_start : Cond.selects RX3 yX3_start yX3_start ∈ gw := gw_mem 2 (by decide +kernel) rfl
theorem kM_X3_take : Cond.code yX3_take cX3_take 2 none ∈ gw := gw_mem 652 (by decide +kernel) rfl
theorem iM_X3_take : Cond.instanceMethod yX3_take ∈ gw := gw_mem 651 (by decide +kernel) rfl
theorem sM_X3_take : Cond.selects RX3 yX3_take yX3_take ∈ gw := gw_mem 16 (by decide +kernel) rfl
theorem kM_X4_add : Cond.code yX4_add cX4_add 8 none ∈ gw := gw_mem 870 (by decide +kernel) rfl
theorem iM_X4_add : Cond.instanceMethod yX4_add ∈ gw := gw_mem 869 (by decide +kernel) rfl
theorem sM_X4_add : Cond.selects RX4 yX4_add yX4_add ∈ gw := gw_mem 57 (by decide +kernel) rfl
theorem kM_X4_backFrom : Cond.code yX4_backFrom cX4_backFrom 2 (some .long) ∈ gw := gw_mem 916 (by decide +kernel) rfl
theorem iM_X4_backFrom : Cond.instanceMethod yX4_backFrom ∈ gw := gw_mem 915 (by decide +kernel) rfl
theorem sM_X4_backFrom : Cond.selects RX4 yX4_backFrom yX4_backFrom ∈ gw := gw_mem 64 (by decide +kernel) rfl
theorem kM_X4_backFromOut : Cond.code yX4_backFromOut cX4_backFromOut 3 (some .long) ∈ gw := gw_mem 950 (by decide +kernel) rfl
theorem iM_X4_backFromOut : Cond.instanceMethod yX4_backFromOut ∈ gw := gw_mem 949 (by decide +kernel) rfl
theorem sM_X4_backFromOut : Cond.selects RX4 yX4_backFromOut yX4_backFromOut ∈ gw := gw_mem 69 (by decide +kernel) rfl
theorem kM_X4_beginFrom : Cond.code yX4_beginFrom cX4_beginFrom 4 none ∈ gw := gw_mem 920 (by decide +kernel) rfl
theorem iM_X4_beginFrom : Cond.instanceMethod yX4_beginFrom ∈ gw := gw_mem 919 (by decide +kernel) rfl
theorem sM_X4_beginFrom : Cond.selects RX4 yX4_beginFrom yX4_beginFrom ∈ gw := gw_mem 65 (by decide +kernel) rfl
theorem kM_X4_clearFound : Cond.code yX4_clearFound cX4_clearFound 1 none ∈ gw := gw_mem 864 (by decide +kernel) rfl
theorem iM_X4_clearFound : Cond.instanceMethod yX4_clearFound ∈ gw := gw_mem 863 (by decide +kernel) rfl
theorem sM_X4_clearFound : Cond.selects RX4 yX4_clearFound yX4_clearFound ∈ gw := gw_mem 56 (by decide +kernel) rfl
theorem kM_X4_completeCalls : Cond.code yX4_completeCalls cX4_completeCalls 6 (some .boolean) ∈ gw := gw_mem 966 (by decide +kernel) rfl
theorem iM_X4_completeCalls : Cond.instanceMethod yX4_completeCalls ∈ gw := gw_mem 965 (by decide +kernel) rfl
theorem sM_X4_completeCalls : Cond.selects RX4 yX4_completeCalls yX4_completeCalls ∈ gw := gw_mem 72 (by decide +kernel) rfl
theorem kM_X4_findKept : Cond.code yX4_findKept cX4_findKept 4 (some .long) ∈ gw := gw_mem 962 (by decide +kernel) rfl
theorem iM_X4_findKept : Cond.instanceMethod yX4_findKept ∈ gw := gw_mem 961 (by decide +kernel) rfl
theorem sM_X4_findKept : Cond.selects RX4 yX4_findKept yX4_findKept ∈ gw := gw_mem 71 (by decide +kernel) rfl
theorem kM_X4_findOn : Cond.code yX4_findOn cX4_findOn 2 none ∈ gw := gw_mem 924 (by decide +kernel) rfl
theorem iM_X4_findOn : Cond.instanceMethod yX4_findOn ∈ gw := gw_mem 923 (by decide +kernel) rfl
theorem sM_X4_findOn : Cond.selects RX4 yX4_findOn yX4_findOn ∈ gw := gw_mem 66 (by decide +kernel) rfl
theorem kM_X4_followCall : Cond.code yX4_followCall cX4_followCall 8 none ∈ gw := gw_mem 883 (by decide +kernel) rfl
theorem iM_X4_followCall : Cond.instanceMethod yX4_followCall ∈ gw := gw_mem 882 (by decide +kernel) rfl
theorem sM_X4_followCall : Cond.selects RX4 yX4_followCall yX4_followCall ∈ gw := gw_mem 60 (by decide +kernel) rfl
theorem kM_X4_followRow : Cond.code yX4_followRow cX4_followRow 7 none ∈ gw := gw_mem 879 (by decide +kernel) rfl
theorem iM_X4_followRow : Cond.instanceMethod yX4_followRow ∈ gw := gw_mem 878 (by decide +kernel) rfl
theorem sM_X4_followRow : Cond.selects RX4 yX4_followRow yX4_followRow ∈ gw := gw_mem 59 (by decide +kernel) rfl
theorem kM_X4_forget : Cond.code yX4_forget cX4_forget 1 none ∈ gw := gw_mem 734 (by decide +kernel) rfl
theorem iM_X4_forget : Cond.instanceMethod yX4_forget ∈ gw := gw_mem 733 (by decide +kernel) rfl
theorem sM_X4_forget : Cond.selects RX4 yX4_forget yX4_forget ∈ gw := gw_mem 34 (by decide +kernel) rfl
theorem kM_X4_forthFrom : Cond.code yX4_forthFrom cX4_forthFrom 5 (some .long) ∈ gw := gw_mem 937 (by decide +kernel) rfl
theorem iM_X4_forthFrom : Cond.instanceMethod yX4_forthFrom ∈ gw := gw_mem 936 (by decide +kernel) rfl
theorem sM_X4_forthFrom : Cond.selects RX4 yX4_forthFrom yX4_forthFrom ∈ gw := gw_mem 68 (by decide +kernel) rfl
theorem kM_X4_growThrough : Cond.code yX4_growThrough cX4_growThrough 5 (some .boolean) ∈ gw := gw_mem 856 (by decide +kernel) rfl
theorem iM_X4_growThrough : Cond.instanceMethod yX4_growThrough ∈ gw := gw_mem 855 (by decide +kernel) rfl
theorem sM_X4_growThrough : Cond.selects RX4 yX4_growThrough yX4_growThrough ∈ gw := gw_mem 54 (by decide +kernel) rfl
theorem kM_X4_init : Cond.code yX4_init cX4_init 2 none ∈ gw := gw_mem 416 (by decide +kernel) rfl
theorem iM_X4_init : Cond.instanceMethod yX4_init ∈ gw := gw_mem 415 (by decide +kernel) rfl
theorem kM_X4_insFrom : Cond.code yX4_insFrom cX4_insFrom 5 (some .int) ∈ gw := gw_mem 860 (by decide +kernel) rfl
theorem iM_X4_insFrom : Cond.instanceMethod yX4_insFrom ∈ gw := gw_mem 859 (by decide +kernel) rfl
theorem sM_X4_insFrom : Cond.selects RX4 yX4_insFrom yX4_insFrom ∈ gw := gw_mem 55 (by decide +kernel) rfl
theorem kM_X4_keptFor : Cond.code yX4_keptFor cX4_keptFor 2 (some .long) ∈ gw := gw_mem 958 (by decide +kernel) rfl
theorem iM_X4_keptFor : Cond.instanceMethod yX4_keptFor ∈ gw := gw_mem 957 (by decide +kernel) rfl
theorem sM_X4_keptFor : Cond.selects RX4 yX4_keptFor yX4_keptFor ∈ gw := gw_mem 70 (by decide +kernel) rfl
theorem kM_X4_leadsThrough : Cond.code yX4_leadsThrough cX4_leadsThrough 4 (some .boolean) ∈ gw := gw_mem 907 (by decide +kernel) rfl
theorem iM_X4_leadsThrough : Cond.instanceMethod yX4_leadsThrough ∈ gw := gw_mem 906 (by decide +kernel) rfl
theorem sM_X4_leadsThrough : Cond.selects RX4 yX4_leadsThrough yX4_leadsThrough ∈ gw := gw_mem 63 (by decide +kernel) rfl
theorem kM_X4_prepare : Cond.code yX4_prepare cX4_prepare 4 none ∈ gw := gw_mem 769 (by decide +kernel) rfl
theorem iM_X4_prepare : Cond.instanceMethod yX4_prepare ∈ gw := gw_mem 768 (by decide +kernel) rfl
theorem sM_X4_prepare : Cond.selects RX4 yX4_prepare yX4_prepare ∈ gw := gw_mem 37 (by decide +kernel) rfl
theorem kM_X4_spread : Cond.code yX4_spread cX4_spread 6 none ∈ gw := gw_mem 875 (by decide +kernel) rfl
theorem iM_X4_spread : Cond.instanceMethod yX4_spread ∈ gw := gw_mem 874 (by decide +kernel) rfl
theorem sM_X4_spread : Cond.selects RX4 yX4_spread yX4_spread ∈ gw := gw_mem 58 (by decide +kernel) rfl
theorem kM_X4_statementsFound : Cond.code yX4_statementsFound cX4_statementsFound 4 (some .long) ∈ gw := gw_mem 928 (by decide +kernel) rfl
theorem iM_X4_statementsFound : Cond.instanceMethod yX4_statementsFound ∈ gw := gw_mem 927 (by decide +kernel) rfl
theorem sM_X4_statementsFound : Cond.selects RX4 yX4_statementsFound yX4_statementsFound ∈ gw := gw_mem 67 (by decide +kernel) rfl
theorem kM_X5_add : Cond.code yX5_add cX5_add 3 (some .int) ∈ gw := gw_mem 633 (by decide +kernel) rfl
theorem iM_X5_add : Cond.instanceMethod yX5_add ∈ gw := gw_mem 632 (by decide +kernel) rfl
theorem sM_X5_add : Cond.selects RX5 yX5_add yX5_add ∈ gw := gw_mem 12 (by decide +kernel) rfl
theorem kM_X5_init : Cond.code yX5_init cX5_init 1 none ∈ gw := gw_mem 319 (by decide +kernel) rfl
theorem iM_X5_init : Cond.instanceMethod yX5_init ∈ gw := gw_mem 318 (by decide +kernel) rfl
theorem kM_X6_init : Cond.code yX6_init cX6_init 3 none ∈ gw := gw_mem 368 (by decide +kernel) rfl
theorem iM_X6_init : Cond.instanceMethod yX6_init ∈ gw := gw_mem 367 (by decide +kernel) rfl
theorem kM_X6_wire : Cond.code yX6_wire cX6_wire 4 none ∈ gw := gw_mem 690 (by decide +kernel) rfl
theorem iM_X6_wire : Cond.instanceMethod yX6_wire ∈ gw := gw_mem 689 (by decide +kernel) rfl
theorem sM_X6_wire : Cond.selects RX6 yX6_wire yX6_wire ∈ gw := gw_mem 24 (by decide +kernel) rfl
theorem kM_X6_wireBlock : Cond.code yX6_wireBlock cX6_wireBlock 8 (some .int) ∈ gw := gw_mem 694 (by decide +kernel) rfl
theorem iM_X6_wireBlock : Cond.instanceMethod yX6_wireBlock ∈ gw := gw_mem 693 (by decide +kernel) rfl
theorem sM_X6_wireBlock : Cond.selects RX6 yX6_wireBlock yX6_wireBlock ∈ gw := gw_mem 25 (by decide +kernel) rfl
theorem kM_X6_wireStatement : Cond.code yX6_wireStatement cX6_wireStatement 7 (some .int) ∈ gw := gw_mem 702 (by decide +kernel) rfl
theorem iM_X6_wireStatement : Cond.instanceMethod yX6_wireStatement ∈ gw := gw_mem 701 (by decide +kernel) rfl
theorem sM_X6_wireStatement : Cond.selects RX6 yX6_wireStatement yX6_wireStatement ∈ gw := gw_mem 27 (by decide +kernel) rfl
theorem kM_X6_wireTry : Cond.code yX6_wireTry cX6_wireTry 6 (some .int) ∈ gw := gw_mem 698 (by decide +kernel) rfl
theorem iM_X6_wireTry : Cond.instanceMethod yX6_wireTry ∈ gw := gw_mem 697 (by decide +kernel) rfl
theorem sM_X6_wireTry : Cond.selects RX6 yX6_wireTry yX6_wireTry ∈ gw := gw_mem 26 (by decide +kernel) rfl
theorem kM_X7_back : Cond.code yX7_back cX7_back 2 (some .long) ∈ gw := gw_mem 911 (by decide +kernel) rfl
theorem iM_X7_back : Cond.instanceMethod yX7_back ∈ gw := gw_mem 909 (by decide +kernel) rfl
theorem sM_X7_back : Cond.selects RX7 yX7_back yX7_back ∈ gw := gw_mem 910 (by decide +kernel) rfl
theorem kM_X7_backOf : Cond.code yX7_backOf cX7_backOf 3 (some .long) ∈ gw := gw_mem 946 (by decide +kernel) rfl
theorem iM_X7_backOf : Cond.instanceMethod yX7_backOf ∈ gw := gw_mem 944 (by decide +kernel) rfl
theorem sM_X7_backOf : Cond.selects RX7 yX7_backOf yX7_backOf ∈ gw := gw_mem 945 (by decide +kernel) rfl
theorem kM_X7_begun : Cond.code yX7_begun cX7_begun 2 (some .long) ∈ gw := gw_mem 892 (by decide +kernel) rfl
theorem iM_X7_begun : Cond.instanceMethod yX7_begun ∈ gw := gw_mem 890 (by decide +kernel) rfl
theorem sM_X7_begun : Cond.selects RX7 yX7_begun yX7_begun ∈ gw := gw_mem 891 (by decide +kernel) rfl
theorem kM_X7_between : Cond.code yX7_between cX7_between 3 (some .long) ∈ gw := gw_mem 942 (by decide +kernel) rfl
theorem iM_X7_between : Cond.instanceMethod yX7_between ∈ gw := gw_mem 940 (by decide +kernel) rfl
theorem sM_X7_between : Cond.selects RX7 yX7_between yX7_between ∈ gw := gw_mem 941 (by decide +kernel) rfl
theorem kM_X7_bit : Cond.code yX7_bit cX7_bit 1 (some .long) ∈ gw := gw_mem 659 (by decide +kernel) rfl
theorem iM_X7_bit : Cond.static yX7_bit ∈ gw := gw_mem 658 (by decide +kernel) rfl
theorem kM_X7_count : Cond.code yX7_count cX7_count 2 (some .int) ∈ gw := gw_mem 746 (by decide +kernel) rfl
theorem iM_X7_count : Cond.instanceMethod yX7_count ∈ gw := gw_mem 744 (by decide +kernel) rfl
theorem sM_X7_count : Cond.selects RX7 yX7_count yX7_count ∈ gw := gw_mem 745 (by decide +kernel) rfl
theorem kM_X7_end : Cond.code yX7_end cX7_end 2 (some .boolean) ∈ gw := gw_mem 572 (by decide +kernel) rfl
theorem iM_X7_end : Cond.instanceMethod yX7_end ∈ gw := gw_mem 570 (by decide +kernel) rfl
theorem sM_X7_end : Cond.selects RX7 yX7_end yX7_end ∈ gw := gw_mem 571 (by decide +kernel) rfl
theorem kM_X7_ended : Cond.code yX7_ended cX7_ended 2 (some .int) ∈ gw := gw_mem 1026 (by decide +kernel) rfl
theorem iM_X7_ended : Cond.instanceMethod yX7_ended ∈ gw := gw_mem 1024 (by decide +kernel) rfl
theorem sM_X7_ended : Cond.selects RX7 yX7_ended yX7_ended ∈ gw := gw_mem 1025 (by decide +kernel) rfl
theorem kM_X7_fault : Cond.code yX7_fault cX7_fault 1 (some .int) ∈ gw := gw_mem 742 (by decide +kernel) rfl
theorem iM_X7_fault : Cond.instanceMethod yX7_fault ∈ gw := gw_mem 740 (by decide +kernel) rfl
theorem sM_X7_fault : Cond.selects RX7 yX7_fault yX7_fault ∈ gw := gw_mem 741 (by decide +kernel) rfl
theorem kM_X7_feed : Cond.code yX7_feed cX7_feed 6 (some .int) ∈ gw := gw_mem 564 (by decide +kernel) rfl
theorem iM_X7_feed : Cond.instanceMethod yX7_feed ∈ gw := gw_mem 562 (by decide +kernel) rfl
theorem sM_X7_feed : Cond.selects RX7 yX7_feed yX7_feed ∈ gw := gw_mem 563 (by decide +kernel) rfl
theorem kM_X7_forth : Cond.code yX7_forth cX7_forth 2 (some .long) ∈ gw := gw_mem 933 (by decide +kernel) rfl
theorem iM_X7_forth : Cond.instanceMethod yX7_forth ∈ gw := gw_mem 931 (by decide +kernel) rfl
theorem sM_X7_forth : Cond.selects RX7 yX7_forth yX7_forth ∈ gw := gw_mem 932 (by decide +kernel) rfl
theorem kM_X7_hangs : Cond.code yX7_hangs cX7_hangs 3 (some .int) ∈ gw := gw_mem 765 (by decide +kernel) rfl
theorem iM_X7_hangs : Cond.instanceMethod yX7_hangs ∈ gw := gw_mem 763 (by decide +kernel) rfl
theorem sM_X7_hangs : Cond.selects RX7 yX7_hangs yX7_hangs ∈ gw := gw_mem 764 (by decide +kernel) rfl
theorem kM_X7_has : Cond.code yX7_has cX7_has 3 (some .boolean) ∈ gw := gw_mem 714 (by decide +kernel) rfl
theorem iM_X7_has : Cond.static yX7_has ∈ gw := gw_mem 713 (by decide +kernel) rfl
theorem kM_X7_init : Cond.code yX7_init cX7_init 1 none ∈ gw := gw_mem 181 (by decide +kernel) rfl
theorem iM_X7_init : Cond.instanceMethod yX7_init ∈ gw := gw_mem 180 (by decide +kernel) rfl
theorem kM_X7_isField : Cond.code yX7_isField cX7_isField 1 (some .boolean) ∈ gw := gw_mem 621 (by decide +kernel) rfl
theorem iM_X7_isField : Cond.static yX7_isField ∈ gw := gw_mem 620 (by decide +kernel) rfl
theorem kM_X7_isPort : Cond.code yX7_isPort cX7_isPort 1 (some .boolean) ∈ gw := gw_mem 903 (by decide +kernel) rfl
theorem iM_X7_isPort : Cond.static yX7_isPort ∈ gw := gw_mem 902 (by decide +kernel) rfl
theorem kM_X7_isProcedure : Cond.code yX7_isProcedure cX7_isProcedure 2 (some .boolean) ∈ gw := gw_mem 896 (by decide +kernel) rfl
theorem iM_X7_isProcedure : Cond.instanceMethod yX7_isProcedure ∈ gw := gw_mem 895 (by decide +kernel) rfl
theorem sM_X7_isProcedure : Cond.selects RX7 yX7_isProcedure yX7_isProcedure ∈ gw := gw_mem 62 (by decide +kernel) rfl
theorem kM_X7_isStatement : Cond.code yX7_isStatement cX7_isStatement 2 (some .boolean) ∈ gw := gw_mem 760 (by decide +kernel) rfl
theorem iM_X7_isStatement : Cond.instanceMethod yX7_isStatement ∈ gw := gw_mem 759 (by decide +kernel) rfl
theorem sM_X7_isStatement : Cond.selects RX7 yX7_isStatement yX7_isStatement ∈ gw := gw_mem 36 (by decide +kernel) rfl
theorem kM_X7_kept : Cond.code yX7_kept cX7_kept 2 (some .long) ∈ gw := gw_mem 954 (by decide +kernel) rfl
theorem iM_X7_kept : Cond.instanceMethod yX7_kept ∈ gw := gw_mem 952 (by decide +kernel) rfl
theorem sM_X7_kept : Cond.selects RX7 yX7_kept yX7_kept ∈ gw := gw_mem 953 (by decide +kernel) rfl
theorem kM_X7_of : Cond.code yX7_of cX7_of 3 (some .int) ∈ gw := gw_mem 756 (by decide +kernel) rfl
theorem iM_X7_of : Cond.instanceMethod yX7_of ∈ gw := gw_mem 754 (by decide +kernel) rfl
theorem sM_X7_of : Cond.selects RX7 yX7_of yX7_of ∈ gw := gw_mem 755 (by decide +kernel) rfl
theorem kM_X7_portOfField : Cond.code yX7_portOfField cX7_portOfField 1 (some .int) ∈ gw := gw_mem 834 (by decide +kernel) rfl
theorem iM_X7_portOfField : Cond.static yX7_portOfField ∈ gw := gw_mem 833 (by decide +kernel) rfl
theorem kM_X7_program : Cond.code yX7_program cX7_program 3 (some .int) ∈ gw := gw_mem 576 (by decide +kernel) rfl
theorem iM_X7_program : Cond.instanceMethod yX7_program ∈ gw := gw_mem 574 (by decide +kernel) rfl
theorem sM_X7_program : Cond.selects RX7 yX7_program yX7_program ∈ gw := gw_mem 575 (by decide +kernel) rfl
theorem kM_X7_putFour : Cond.code yX7_putFour cX7_putFour 3 none ∈ gw := gw_mem 568 (by decide +kernel) rfl
theorem iM_X7_putFour : Cond.instanceMethod yX7_putFour ∈ gw := gw_mem 567 (by decide +kernel) rfl
theorem sM_X7_putFour : Cond.selects RX7 yX7_putFour yX7_putFour ∈ gw := gw_mem 0 (by decide +kernel) rfl
theorem kM_X7_run : Cond.code yX7_run cX7_run 3 (some .int) ∈ gw := gw_mem 970 (by decide +kernel) rfl
theorem iM_X7_run : Cond.instanceMethod yX7_run ∈ gw := gw_mem 968 (by decide +kernel) rfl
theorem sM_X7_run : Cond.selects RX7 yX7_run yX7_run ∈ gw := gw_mem 969 (by decide +kernel) rfl
theorem kM_X7_runKept : Cond.code yX7_runKept cX7_runKept 4 (some .int) ∈ gw := gw_mem 1022 (by decide +kernel) rfl
theorem iM_X7_runKept : Cond.instanceMethod yX7_runKept ∈ gw := gw_mem 1020 (by decide +kernel) rfl
theorem sM_X7_runKept : Cond.selects RX7 yX7_runKept yX7_runKept ∈ gw := gw_mem 1021 (by decide +kernel) rfl
theorem kM_X7_saw : Cond.code yX7_saw cX7_saw 3 (some .int) ∈ gw := gw_mem 1034 (by decide +kernel) rfl
theorem iM_X7_saw : Cond.instanceMethod yX7_saw ∈ gw := gw_mem 1032 (by decide +kernel) rfl
theorem sM_X7_saw : Cond.selects RX7 yX7_saw yX7_saw ∈ gw := gw_mem 1033 (by decide +kernel) rfl
theorem kM_X7_summary : Cond.code yX7_summary cX7_summary 4 (some .boolean) ∈ gw := gw_mem 900 (by decide +kernel) rfl
theorem iM_X7_summary : Cond.instanceMethod yX7_summary ∈ gw := gw_mem 898 (by decide +kernel) rfl
theorem sM_X7_summary : Cond.selects RX7 yX7_summary yX7_summary ∈ gw := gw_mem 899 (by decide +kernel) rfl
theorem kM_X8_back : Cond.code yX8_back cX8_back 2 (some .long) ∈ gw := gw_mem 1527 (by decide +kernel) rfl
theorem iM_X8_back : Cond.instanceMethod yX8_back ∈ gw := gw_mem 1525 (by decide +kernel) rfl
theorem sM_X8_back : Cond.selects RX8 yX8_back yX8_back ∈ gw := gw_mem 1526 (by decide +kernel) rfl
theorem kM_X8_backOf : Cond.code yX8_backOf cX8_backOf 3 (some .long) ∈ gw := gw_mem 1543 (by decide +kernel) rfl
theorem iM_X8_backOf : Cond.instanceMethod yX8_backOf ∈ gw := gw_mem 1541 (by decide +kernel) rfl
theorem sM_X8_backOf : Cond.selects RX8 yX8_backOf yX8_backOf ∈ gw := gw_mem 1542 (by decide +kernel) rfl
theorem kM_X8_begun : Cond.code yX8_begun cX8_begun 2 (some .long) ∈ gw := gw_mem 1515 (by decide +kernel) rfl
theorem iM_X8_begun : Cond.instanceMethod yX8_begun ∈ gw := gw_mem 1513 (by decide +kernel) rfl
theorem sM_X8_begun : Cond.selects RX8 yX8_begun yX8_begun ∈ gw := gw_mem 1514 (by decide +kernel) rfl
theorem kM_X8_behind : Cond.code yX8_behind cX8_behind 2 (some .int) ∈ gw := gw_mem 1326 (by decide +kernel) rfl
theorem iM_X8_behind : Cond.instanceMethod yX8_behind ∈ gw := gw_mem 1325 (by decide +kernel) rfl
theorem sM_X8_behind : Cond.selects RX8 yX8_behind yX8_behind ∈ gw := gw_mem 105 (by decide +kernel) rfl
theorem kM_X8_between : Cond.code yX8_between cX8_between 3 (some .long) ∈ gw := gw_mem 1539 (by decide +kernel) rfl
theorem iM_X8_between : Cond.instanceMethod yX8_between ∈ gw := gw_mem 1537 (by decide +kernel) rfl
theorem sM_X8_between : Cond.selects RX8 yX8_between yX8_between ∈ gw := gw_mem 1538 (by decide +kernel) rfl
theorem kM_X8_calls : Cond.code yX8_calls cX8_calls 3 (some .int) ∈ gw := gw_mem 1491 (by decide +kernel) rfl
theorem iM_X8_calls : Cond.instanceMethod yX8_calls ∈ gw := gw_mem 1490 (by decide +kernel) rfl
theorem sM_X8_calls : Cond.selects RX8 yX8_calls yX8_calls ∈ gw := gw_mem 140 (by decide +kernel) rfl
theorem kM_X8_calls_ : Cond.code yX8_calls_ cX8_calls_ 6 (some .int) ∈ gw := gw_mem 1614 (by decide +kernel) rfl
theorem iM_X8_calls_ : Cond.instanceMethod yX8_calls_ ∈ gw := gw_mem 1613 (by decide +kernel) rfl
theorem sM_X8_calls_ : Cond.selects RX8 yX8_calls_ yX8_calls_ ∈ gw := gw_mem 160 (by decide +kernel) rfl
theorem kM_X8_catcher : Cond.code yX8_catcher cX8_catcher 5 (some .int) ∈ gw := gw_mem 1507 (by decide +kernel) rfl
theorem iM_X8_catcher : Cond.instanceMethod yX8_catcher ∈ gw := gw_mem 1506 (by decide +kernel) rfl
theorem sM_X8_catcher : Cond.selects RX8 yX8_catcher yX8_catcher ∈ gw := gw_mem 143 (by decide +kernel) rfl
theorem kM_X8_comesTo : Cond.code yX8_comesTo cX8_comesTo 13 (some .boolean) ∈ gw := gw_mem 1346 (by decide +kernel) rfl
theorem iM_X8_comesTo : Cond.instanceMethod yX8_comesTo ∈ gw := gw_mem 1345 (by decide +kernel) rfl
theorem sM_X8_comesTo : Cond.selects RX8 yX8_comesTo yX8_comesTo ∈ gw := gw_mem 110 (by decide +kernel) rfl
theorem kM_X8_count : Cond.code yX8_count cX8_count 2 (some .int) ∈ gw := gw_mem 1487 (by decide +kernel) rfl
theorem iM_X8_count : Cond.instanceMethod yX8_count ∈ gw := gw_mem 1485 (by decide +kernel) rfl
theorem sM_X8_count : Cond.selects RX8 yX8_count yX8_count ∈ gw := gw_mem 1486 (by decide +kernel) rfl
theorem kM_X8_decides : Cond.code yX8_decides cX8_decides 3 (some .boolean) ∈ gw := gw_mem 1439 (by decide +kernel) rfl
theorem iM_X8_decides : Cond.instanceMethod yX8_decides ∈ gw := gw_mem 1438 (by decide +kernel) rfl
theorem sM_X8_decides : Cond.selects RX8 yX8_decides yX8_decides ∈ gw := gw_mem 129 (by decide +kernel) rfl
theorem kM_X8_does : Cond.code yX8_does cX8_does 6 (some .int) ∈ gw := gw_mem 1591 (by decide +kernel) rfl
theorem iM_X8_does : Cond.instanceMethod yX8_does ∈ gw := gw_mem 1590 (by decide +kernel) rfl
theorem sM_X8_does : Cond.selects RX8 yX8_does yX8_does ∈ gw := gw_mem 155 (by decide +kernel) rfl
theorem kM_X8_empties : Cond.code yX8_empties cX8_empties 2 none ∈ gw := gw_mem 1447 (by decide +kernel) rfl
theorem iM_X8_empties : Cond.instanceMethod yX8_empties ∈ gw := gw_mem 1446 (by decide +kernel) rfl
theorem sM_X8_empties : Cond.selects RX8 yX8_empties yX8_empties ∈ gw := gw_mem 131 (by decide +kernel) rfl
theorem kM_X8_end : Cond.code yX8_end cX8_end 2 (some .boolean) ∈ gw := gw_mem 1241 (by decide +kernel) rfl
theorem iM_X8_end : Cond.instanceMethod yX8_end ∈ gw := gw_mem 1239 (by decide +kernel) rfl
theorem sM_X8_end : Cond.selects RX8 yX8_end yX8_end ∈ gw := gw_mem 1240 (by decide +kernel) rfl
theorem kM_X8_endOf : Cond.code yX8_endOf cX8_endOf 2 (some .int) ∈ gw := gw_mem 1330 (by decide +kernel) rfl
theorem iM_X8_endOf : Cond.instanceMethod yX8_endOf ∈ gw := gw_mem 1329 (by decide +kernel) rfl
theorem sM_X8_endOf : Cond.selects RX8 yX8_endOf yX8_endOf ∈ gw := gw_mem 106 (by decide +kernel) rfl
theorem kM_X8_ended : Cond.code yX8_ended cX8_ended 2 (some .int) ∈ gw := gw_mem 1626 (by decide +kernel) rfl
theorem iM_X8_ended : Cond.instanceMethod yX8_ended ∈ gw := gw_mem 1624 (by decide +kernel) rfl
theorem sM_X8_ended : Cond.selects RX8 yX8_ended yX8_ended ∈ gw := gw_mem 1625 (by decide +kernel) rfl
theorem kM_X8_ends : Cond.code yX8_ends cX8_ends 6 none ∈ gw := gw_mem 1422 (by decide +kernel) rfl
theorem iM_X8_ends : Cond.instanceMethod yX8_ends ∈ gw := gw_mem 1421 (by decide +kernel) rfl
theorem sM_X8_ends : Cond.selects RX8 yX8_ends yX8_ends ∈ gw := gw_mem 125 (by decide +kernel) rfl
theorem kM_X8_entryOf : Cond.code yX8_entryOf cX8_entryOf 2 (some .int) ∈ gw := gw_mem 1334 (by decide +kernel) rfl
theorem iM_X8_entryOf : Cond.instanceMethod yX8_entryOf ∈ gw := gw_mem 1333 (by decide +kernel) rfl
theorem sM_X8_entryOf : Cond.selects RX8 yX8_entryOf yX8_entryOf ∈ gw := gw_mem 107 (by decide +kernel) rfl
theorem kM_X8_fails : Cond.code yX8_fails cX8_fails 2 none ∈ gw := gw_mem 1260 (by decide +kernel) rfl
theorem iM_X8_fails : Cond.instanceMethod yX8_fails ∈ gw := gw_mem 1259 (by decide +kernel) rfl
theorem sM_X8_fails : Cond.selects RX8 yX8_fails yX8_fails ∈ gw := gw_mem 90 (by decide +kernel) rfl
theorem kM_X8_fault : Cond.code yX8_fault cX8_fault 1 (some .int) ∈ gw := gw_mem 1483 (by decide +kernel) rfl
theorem iM_X8_fault : Cond.instanceMethod yX8_fault ∈ gw := gw_mem 1481 (by decide +kernel) rfl
theorem sM_X8_fault : Cond.selects RX8 yX8_fault yX8_fault ∈ gw := gw_mem 1482 (by decide +kernel) rfl
theorem kM_X8_feed : Cond.code yX8_feed cX8_feed 6 (some .int) ∈ gw := gw_mem 1233 (by decide +kernel) rfl
theorem iM_X8_feed : Cond.instanceMethod yX8_feed ∈ gw := gw_mem 1231 (by decide +kernel) rfl
theorem sM_X8_feed : Cond.selects RX8 yX8_feed yX8_feed ∈ gw := gw_mem 1232 (by decide +kernel) rfl
theorem kM_X8_firstOf : Cond.code yX8_firstOf cX8_firstOf 2 (some .int) ∈ gw := gw_mem 1338 (by decide +kernel) rfl
theorem iM_X8_firstOf : Cond.instanceMethod yX8_firstOf ∈ gw := gw_mem 1337 (by decide +kernel) rfl
theorem sM_X8_firstOf : Cond.selects RX8 yX8_firstOf yX8_firstOf ∈ gw := gw_mem 108 (by decide +kernel) rfl
theorem kM_X8_forth : Cond.code yX8_forth cX8_forth 2 (some .long) ∈ gw := gw_mem 1531 (by decide +kernel) rfl
theorem iM_X8_forth : Cond.instanceMethod yX8_forth ∈ gw := gw_mem 1529 (by decide +kernel) rfl
theorem sM_X8_forth : Cond.selects RX8 yX8_forth yX8_forth ∈ gw := gw_mem 1530 (by decide +kernel) rfl
theorem kM_X8_forthOf : Cond.code yX8_forthOf cX8_forthOf 5 (some .long) ∈ gw := gw_mem 1535 (by decide +kernel) rfl
theorem iM_X8_forthOf : Cond.instanceMethod yX8_forthOf ∈ gw := gw_mem 1534 (by decide +kernel) rfl
theorem sM_X8_forthOf : Cond.selects RX8 yX8_forthOf yX8_forthOf ∈ gw := gw_mem 145 (by decide +kernel) rfl
theorem kM_X8_goes : Cond.code yX8_goes cX8_goes 7 none ∈ gw := gw_mem 1459 (by decide +kernel) rfl
theorem iM_X8_goes : Cond.instanceMethod yX8_goes ∈ gw := gw_mem 1458 (by decide +kernel) rfl
theorem sM_X8_goes : Cond.selects RX8 yX8_goes yX8_goes ∈ gw := gw_mem 134 (by decide +kernel) rfl
theorem kM_X8_goesBack : Cond.code yX8_goesBack cX8_goesBack 2 none ∈ gw := gw_mem 1475 (by decide +kernel) rfl
theorem iM_X8_goesBack : Cond.instanceMethod yX8_goesBack ∈ gw := gw_mem 1474 (by decide +kernel) rfl
theorem sM_X8_goesBack : Cond.selects RX8 yX8_goesBack yX8_goesBack ∈ gw := gw_mem 138 (by decide +kernel) rfl
theorem kM_X8_goesBlock : Cond.code yX8_goesBlock cX8_goesBlock 5 (some .int) ∈ gw := gw_mem 1583 (by decide +kernel) rfl
theorem iM_X8_goesBlock : Cond.instanceMethod yX8_goesBlock ∈ gw := gw_mem 1582 (by decide +kernel) rfl
theorem sM_X8_goesBlock : Cond.selects RX8 yX8_goesBlock yX8_goesBlock ∈ gw := gw_mem 153 (by decide +kernel) rfl
theorem kM_X8_goesUp : Cond.code yX8_goesUp cX8_goesUp 4 none ∈ gw := gw_mem 1467 (by decide +kernel) rfl
theorem iM_X8_goesUp : Cond.instanceMethod yX8_goesUp ∈ gw := gw_mem 1466 (by decide +kernel) rfl
theorem sM_X8_goesUp : Cond.selects RX8 yX8_goesUp yX8_goesUp ∈ gw := gw_mem 136 (by decide +kernel) rfl
theorem kM_X8_hang : Cond.code yX8_hang cX8_hang 3 none ∈ gw := gw_mem 1406 (by decide +kernel) rfl
theorem iM_X8_hang : Cond.instanceMethod yX8_hang ∈ gw := gw_mem 1405 (by decide +kernel) rfl
theorem sM_X8_hang : Cond.selects RX8 yX8_hang yX8_hang ∈ gw := gw_mem 121 (by decide +kernel) rfl
theorem kM_X8_hangs : Cond.code yX8_hangs cX8_hangs 3 (some .int) ∈ gw := gw_mem 1511 (by decide +kernel) rfl
theorem iM_X8_hangs : Cond.instanceMethod yX8_hangs ∈ gw := gw_mem 1509 (by decide +kernel) rfl
theorem sM_X8_hangs : Cond.selects RX8 yX8_hangs yX8_hangs ∈ gw := gw_mem 1510 (by decide +kernel) rfl
theorem kM_X8_has : Cond.code yX8_has cX8_has 3 (some .boolean) ∈ gw := gw_mem 1349 (by decide +kernel) rfl
theorem iM_X8_has : Cond.static yX8_has ∈ gw := gw_mem 1348 (by decide +kernel) rfl
theorem kM_X8_here : Cond.code yX8_here cX8_here 1 (some .int) ∈ gw := gw_mem 1256 (by decide +kernel) rfl
theorem iM_X8_here : Cond.instanceMethod yX8_here ∈ gw := gw_mem 1255 (by decide +kernel) rfl
theorem sM_X8_here : Cond.selects RX8 yX8_here yX8_here ∈ gw := gw_mem 89 (by decide +kernel) rfl
theorem kM_X8_inSet : Cond.code yX8_inSet cX8_inSet 5 (some .long) ∈ gw := gw_mem 1479 (by decide +kernel) rfl
theorem iM_X8_inSet : Cond.instanceMethod yX8_inSet ∈ gw := gw_mem 1478 (by decide +kernel) rfl
theorem sM_X8_inSet : Cond.selects RX8 yX8_inSet yX8_inSet ∈ gw := gw_mem 139 (by decide +kernel) rfl
theorem kM_X8_init : Cond.code yX8_init cX8_init 1 none ∈ gw := gw_mem 1047 (by decide +kernel) rfl
theorem iM_X8_init : Cond.instanceMethod yX8_init ∈ gw := gw_mem 1046 (by decide +kernel) rfl
theorem kM_X8_isAnyHung : Cond.code yX8_isAnyHung cX8_isAnyHung 5 (some .boolean) ∈ gw := gw_mem 1414 (by decide +kernel) rfl
theorem iM_X8_isAnyHung : Cond.instanceMethod yX8_isAnyHung ∈ gw := gw_mem 1413 (by decide +kernel) rfl
theorem sM_X8_isAnyHung : Cond.selects RX8 yX8_isAnyHung yX8_isAnyHung ∈ gw := gw_mem 123 (by decide +kernel) rfl
theorem kM_X8_isAnyKept : Cond.code yX8_isAnyKept cX8_isAnyKept 3 (some .boolean) ∈ gw := gw_mem 1567 (by decide +kernel) rfl
theorem iM_X8_isAnyKept : Cond.instanceMethod yX8_isAnyKept ∈ gw := gw_mem 1566 (by decide +kernel) rfl
theorem sM_X8_isAnyKept : Cond.selects RX8 yX8_isAnyKept yX8_isAnyKept ∈ gw := gw_mem 150 (by decide +kernel) rfl
theorem kM_X8_isCall : Cond.code yX8_isCall cX8_isCall 2 (some .boolean) ∈ gw := gw_mem 1463 (by decide +kernel) rfl
theorem iM_X8_isCall : Cond.instanceMethod yX8_isCall ∈ gw := gw_mem 1462 (by decide +kernel) rfl
theorem sM_X8_isCall : Cond.selects RX8 yX8_isCall yX8_isCall ∈ gw := gw_mem 135 (by decide +kernel) rfl
theorem kM_X8_isGood : Cond.code yX8_isGood cX8_isGood 1 (some .boolean) ∈ gw := gw_mem 1264 (by decide +kernel) rfl
theorem iM_X8_isGood : Cond.instanceMethod yX8_isGood ∈ gw := gw_mem 1263 (by decide +kernel) rfl
theorem sM_X8_isGood : Cond.selects RX8 yX8_isGood yX8_isGood ∈ gw := gw_mem 91 (by decide +kernel) rfl
theorem kM_X8_isHung : Cond.code yX8_isHung cX8_isHung 3 (some .boolean) ∈ gw := gw_mem 1418 (by decide +kernel) rfl
theorem iM_X8_isHung : Cond.instanceMethod yX8_isHung ∈ gw := gw_mem 1417 (by decide +kernel) rfl
theorem sM_X8_isHung : Cond.selects RX8 yX8_isHung yX8_isHung ∈ gw := gw_mem 124 (by decide +kernel) rfl
theorem kM_X8_isIn : Cond.code yX8_isIn cX8_isIn 3 (some .boolean) ∈ gw := gw_mem 1244 (by decide +kernel) rfl
theorem iM_X8_isIn : Cond.static yX8_isIn ∈ gw := gw_mem 1243 (by decide +kernel) rfl
theorem kM_X8_isInSet : Cond.code yX8_isInSet cX8_isInSet 2 (some .boolean) ∈ gw := gw_mem 1455 (by decide +kernel) rfl
theorem iM_X8_isInSet : Cond.instanceMethod yX8_isInSet ∈ gw := gw_mem 1454 (by decide +kernel) rfl
theorem sM_X8_isInSet : Cond.selects RX8 yX8_isInSet yX8_isInSet ∈ gw := gw_mem 133 (by decide +kernel) rfl
theorem kM_X8_isKept : Cond.code yX8_isKept cX8_isKept 2 (some .boolean) ∈ gw := gw_mem 1563 (by decide +kernel) rfl
theorem iM_X8_isKept : Cond.instanceMethod yX8_isKept ∈ gw := gw_mem 1562 (by decide +kernel) rfl
theorem sM_X8_isKept : Cond.selects RX8 yX8_isKept yX8_isKept ∈ gw := gw_mem 149 (by decide +kernel) rfl
theorem kM_X8_isProcedure : Cond.code yX8_isProcedure cX8_isProcedure 2 (some .boolean) ∈ gw := gw_mem 1519 (by decide +kernel) rfl
theorem iM_X8_isProcedure : Cond.instanceMethod yX8_isProcedure ∈ gw := gw_mem 1518 (by decide +kernel) rfl
theorem sM_X8_isProcedure : Cond.selects RX8 yX8_isProcedure yX8_isProcedure ∈ gw := gw_mem 144 (by decide +kernel) rfl
theorem kM_X8_isReturning : Cond.code yX8_isReturning cX8_isReturning 2 (some .boolean) ∈ gw := gw_mem 1365 (by decide +kernel) rfl
theorem iM_X8_isReturning : Cond.instanceMethod yX8_isReturning ∈ gw := gw_mem 1364 (by decide +kernel) rfl
theorem sM_X8_isReturning : Cond.selects RX8 yX8_isReturning yX8_isReturning ∈ gw := gw_mem 114 (by decide +kernel) rfl
theorem kM_X8_isSign : Cond.code yX8_isSign cX8_isSign 1 (some .boolean) ∈ gw := gw_mem 1298 (by decide +kernel) rfl
theorem iM_X8_isSign : Cond.static yX8_isSign ∈ gw := gw_mem 1297 (by decide +kernel) rfl
theorem kM_X8_isStatement : Cond.code yX8_isStatement cX8_isStatement 2 (some .boolean) ∈ gw := gw_mem 1503 (by decide +kernel) rfl
theorem iM_X8_isStatement : Cond.instanceMethod yX8_isStatement ∈ gw := gw_mem 1502 (by decide +kernel) rfl
theorem sM_X8_isStatement : Cond.selects RX8 yX8_isStatement yX8_isStatement ∈ gw := gw_mem 142 (by decide +kernel) rfl
theorem kM_X8_isThrowing : Cond.code yX8_isThrowing cX8_isThrowing 2 (some .boolean) ∈ gw := gw_mem 1369 (by decide +kernel) rfl
theorem iM_X8_isThrowing : Cond.instanceMethod yX8_isThrowing ∈ gw := gw_mem 1368 (by decide +kernel) rfl
theorem sM_X8_isThrowing : Cond.selects RX8 yX8_isThrowing yX8_isThrowing ∈ gw := gw_mem 115 (by decide +kernel) rfl
theorem kM_X8_isTold : Cond.code yX8_isTold cX8_isTold 2 (some .boolean) ∈ gw := gw_mem 1314 (by decide +kernel) rfl
theorem iM_X8_isTold : Cond.instanceMethod yX8_isTold ∈ gw := gw_mem 1313 (by decide +kernel) rfl
theorem sM_X8_isTold : Cond.selects RX8 yX8_isTold yX8_isTold ∈ gw := gw_mem 102 (by decide +kernel) rfl
theorem kM_X8_isWanted : Cond.code yX8_isWanted cX8_isWanted 3 (some .boolean) ∈ gw := gw_mem 1559 (by decide +kernel) rfl
theorem iM_X8_isWanted : Cond.instanceMethod yX8_isWanted ∈ gw := gw_mem 1558 (by decide +kernel) rfl
theorem sM_X8_isWanted : Cond.selects RX8 yX8_isWanted yX8_isWanted ∈ gw := gw_mem 148 (by decide +kernel) rfl
theorem kM_X8_item : Cond.code yX8_item cX8_item 2 (some .int) ∈ gw := gw_mem 1361 (by decide +kernel) rfl
theorem iM_X8_item : Cond.instanceMethod yX8_item ∈ gw := gw_mem 1360 (by decide +kernel) rfl
theorem sM_X8_item : Cond.selects RX8 yX8_item yX8_item ∈ gw := gw_mem 113 (by decide +kernel) rfl
theorem kM_X8_joins : Cond.code yX8_joins cX8_joins 2 none ∈ gw := gw_mem 1555 (by decide +kernel) rfl
theorem iM_X8_joins : Cond.instanceMethod yX8_joins ∈ gw := gw_mem 1554 (by decide +kernel) rfl
theorem sM_X8_joins : Cond.selects RX8 yX8_joins yX8_joins ∈ gw := gw_mem 147 (by decide +kernel) rfl
theorem kM_X8_kept : Cond.code yX8_kept cX8_kept 2 (some .long) ∈ gw := gw_mem 1547 (by decide +kernel) rfl
theorem iM_X8_kept : Cond.instanceMethod yX8_kept ∈ gw := gw_mem 1545 (by decide +kernel) rfl
theorem sM_X8_kept : Cond.selects RX8 yX8_kept yX8_kept ∈ gw := gw_mem 1546 (by decide +kernel) rfl
theorem kM_X8_keptFor : Cond.code yX8_keptFor cX8_keptFor 6 (some .long) ∈ gw := gw_mem 1551 (by decide +kernel) rfl
theorem iM_X8_keptFor : Cond.instanceMethod yX8_keptFor ∈ gw := gw_mem 1550 (by decide +kernel) rfl
theorem sM_X8_keptFor : Cond.selects RX8 yX8_keptFor yX8_keptFor ∈ gw := gw_mem 146 (by decide +kernel) rfl
theorem kM_X8_kindAt : Cond.code yX8_kindAt cX8_kindAt 2 (some .int) ∈ gw := gw_mem 1357 (by decide +kernel) rfl
end
section
theorem iM_X8_kindAt : Cond.instanceMethod yX8_kindAt ∈ gw := gw_mem 1356 (by decide +kernel) rfl
theorem sM_X8_kindAt : Cond.selects RX8 yX8_kindAt yX8_kindAt ∈ gw := gw_mem 112 (by decide +kernel) rfl
theorem kM_X8_kindOf : Cond.code yX8_kindOf cX8_kindOf 1 (some .int) ∈ gw := gw_mem 1283 (by decide +kernel) rfl
theorem iM_X8_kindOf : Cond.static yX8_kindOf ∈ gw := gw_mem 1282 (by decide +kernel) rfl
theorem kM_X8_laysAll : Cond.code yX8_laysAll cX8_laysAll 2 none ∈ gw := gw_mem 1373 (by decide +kernel) rfl
theorem iM_X8_laysAll : Cond.instanceMethod yX8_laysAll ∈ gw := gw_mem 1372 (by decide +kernel) rfl
theorem sM_X8_laysAll : Cond.selects RX8 yX8_laysAll yX8_laysAll ∈ gw := gw_mem 116 (by decide +kernel) rfl
theorem kM_X8_laysMay : Cond.code yX8_laysMay cX8_laysMay 6 none ∈ gw := gw_mem 1342 (by decide +kernel) rfl
theorem iM_X8_laysMay : Cond.instanceMethod yX8_laysMay ∈ gw := gw_mem 1341 (by decide +kernel) rfl
theorem sM_X8_laysMay : Cond.selects RX8 yX8_laysMay yX8_laysMay ∈ gw := gw_mem 109 (by decide +kernel) rfl
theorem kM_X8_laysThrough : Cond.code yX8_laysThrough cX8_laysThrough 5 none ∈ gw := gw_mem 1443 (by decide +kernel) rfl
theorem iM_X8_laysThrough : Cond.instanceMethod yX8_laysThrough ∈ gw := gw_mem 1442 (by decide +kernel) rfl
theorem sM_X8_laysThrough : Cond.selects RX8 yX8_laysThrough yX8_laysThrough ∈ gw := gw_mem 130 (by decide +kernel) rfl
theorem kM_X8_laysValues : Cond.code yX8_laysValues cX8_laysValues 4 none ∈ gw := gw_mem 1377 (by decide +kernel) rfl
theorem iM_X8_laysValues : Cond.instanceMethod yX8_laysValues ∈ gw := gw_mem 1376 (by decide +kernel) rfl
theorem sM_X8_laysValues : Cond.selects RX8 yX8_laysValues yX8_laysValues ∈ gw := gw_mem 117 (by decide +kernel) rfl
theorem kM_X8_laysWay : Cond.code yX8_laysWay cX8_laysWay 6 none ∈ gw := gw_mem 1426 (by decide +kernel) rfl
theorem iM_X8_laysWay : Cond.instanceMethod yX8_laysWay ∈ gw := gw_mem 1425 (by decide +kernel) rfl
theorem sM_X8_laysWay : Cond.selects RX8 yX8_laysWay yX8_laysWay ∈ gw := gw_mem 126 (by decide +kernel) rfl
theorem kM_X8_laysWays : Cond.code yX8_laysWays cX8_laysWays 5 none ∈ gw := gw_mem 1318 (by decide +kernel) rfl
theorem iM_X8_laysWays : Cond.instanceMethod yX8_laysWays ∈ gw := gw_mem 1317 (by decide +kernel) rfl
theorem sM_X8_laysWays : Cond.selects RX8 yX8_laysWays yX8_laysWays ∈ gw := gw_mem 103 (by decide +kernel) rfl
theorem kM_X8_loops : Cond.code yX8_loops cX8_loops 5 (some .int) ∈ gw := gw_mem 1618 (by decide +kernel) rfl
theorem iM_X8_loops : Cond.instanceMethod yX8_loops ∈ gw := gw_mem 1617 (by decide +kernel) rfl
theorem sM_X8_loops : Cond.selects RX8 yX8_loops yX8_loops ∈ gw := gw_mem 161 (by decide +kernel) rfl
theorem kM_X8_may : Cond.code yX8_may cX8_may 4 (some .int) ∈ gw := gw_mem 1495 (by decide +kernel) rfl
theorem iM_X8_may : Cond.instanceMethod yX8_may ∈ gw := gw_mem 1494 (by decide +kernel) rfl
theorem sM_X8_may : Cond.selects RX8 yX8_may yX8_may ∈ gw := gw_mem 141 (by decide +kernel) rfl
theorem kM_X8_must : Cond.code yX8_must cX8_must 2 none ∈ gw := gw_mem 1291 (by decide +kernel) rfl
theorem iM_X8_must : Cond.instanceMethod yX8_must ∈ gw := gw_mem 1290 (by decide +kernel) rfl
theorem sM_X8_must : Cond.selects RX8 yX8_must yX8_must ∈ gw := gw_mem 97 (by decide +kernel) rfl
theorem kM_X8_nameHere : Cond.code yX8_nameHere cX8_nameHere 3 (some .int) ∈ gw := gw_mem 1280 (by decide +kernel) rfl
theorem iM_X8_nameHere : Cond.instanceMethod yX8_nameHere ∈ gw := gw_mem 1279 (by decide +kernel) rfl
theorem sM_X8_nameHere : Cond.selects RX8 yX8_nameHere yX8_nameHere ∈ gw := gw_mem 95 (by decide +kernel) rfl
theorem kM_X8_newBlock : Cond.code yX8_newBlock cX8_newBlock 4 (some .int) ∈ gw := gw_mem 1272 (by decide +kernel) rfl
theorem iM_X8_newBlock : Cond.instanceMethod yX8_newBlock ∈ gw := gw_mem 1271 (by decide +kernel) rfl
theorem sM_X8_newBlock : Cond.selects RX8 yX8_newBlock yX8_newBlock ∈ gw := gw_mem 93 (by decide +kernel) rfl
theorem kM_X8_number : Cond.code yX8_number cX8_number 3 (some .int) ∈ gw := gw_mem 1599 (by decide +kernel) rfl
theorem iM_X8_number : Cond.instanceMethod yX8_number ∈ gw := gw_mem 1598 (by decide +kernel) rfl
theorem sM_X8_number : Cond.selects RX8 yX8_number yX8_number ∈ gw := gw_mem 157 (by decide +kernel) rfl
theorem kM_X8_number_ : Cond.code yX8_number_ cX8_number_ 4 (some .int) ∈ gw := gw_mem 1595 (by decide +kernel) rfl
theorem iM_X8_number_ : Cond.instanceMethod yX8_number_ ∈ gw := gw_mem 1594 (by decide +kernel) rfl
theorem sM_X8_number_ : Cond.selects RX8 yX8_number_ yX8_number_ ∈ gw := gw_mem 156 (by decide +kernel) rfl
theorem kM_X8_of : Cond.code yX8_of cX8_of 4 (some .int) ∈ gw := gw_mem 1499 (by decide +kernel) rfl
theorem iM_X8_of : Cond.instanceMethod yX8_of ∈ gw := gw_mem 1497 (by decide +kernel) rfl
theorem sM_X8_of : Cond.selects RX8 yX8_of yX8_of ∈ gw := gw_mem 1498 (by decide +kernel) rfl
theorem kM_X8_onAllFrom : Cond.code yX8_onAllFrom cX8_onAllFrom 2 (some .long) ∈ gw := gw_mem 1435 (by decide +kernel) rfl
theorem iM_X8_onAllFrom : Cond.instanceMethod yX8_onAllFrom ∈ gw := gw_mem 1434 (by decide +kernel) rfl
theorem sM_X8_onAllFrom : Cond.selects RX8 yX8_onAllFrom yX8_onAllFrom ∈ gw := gw_mem 128 (by decide +kernel) rfl
theorem kM_X8_operand : Cond.code yX8_operand cX8_operand 7 none ∈ gw := gw_mem 1295 (by decide +kernel) rfl
theorem iM_X8_operand : Cond.instanceMethod yX8_operand ∈ gw := gw_mem 1294 (by decide +kernel) rfl
theorem sM_X8_operand : Cond.selects RX8 yX8_operand yX8_operand ∈ gw := gw_mem 98 (by decide +kernel) rfl
theorem kM_X8_procedure : Cond.code yX8_procedure cX8_procedure 6 (some .int) ∈ gw := gw_mem 1579 (by decide +kernel) rfl
theorem iM_X8_procedure : Cond.instanceMethod yX8_procedure ∈ gw := gw_mem 1578 (by decide +kernel) rfl
theorem sM_X8_procedure : Cond.selects RX8 yX8_procedure yX8_procedure ∈ gw := gw_mem 152 (by decide +kernel) rfl
theorem kM_X8_procedureOf : Cond.code yX8_procedureOf cX8_procedureOf 2 (some .int) ∈ gw := gw_mem 1388 (by decide +kernel) rfl
theorem iM_X8_procedureOf : Cond.instanceMethod yX8_procedureOf ∈ gw := gw_mem 1387 (by decide +kernel) rfl
theorem sM_X8_procedureOf : Cond.selects RX8 yX8_procedureOf yX8_procedureOf ∈ gw := gw_mem 119 (by decide +kernel) rfl
theorem kM_X8_procedurePlace : Cond.code yX8_procedurePlace cX8_procedurePlace 2 (some .int) ∈ gw := gw_mem 1402 (by decide +kernel) rfl
theorem iM_X8_procedurePlace : Cond.static yX8_procedurePlace ∈ gw := gw_mem 1401 (by decide +kernel) rfl
theorem kM_X8_program : Cond.code yX8_program cX8_program 2 (some .int) ∈ gw := gw_mem 1248 (by decide +kernel) rfl
theorem iM_X8_program : Cond.instanceMethod yX8_program ∈ gw := gw_mem 1246 (by decide +kernel) rfl
theorem sM_X8_program : Cond.selects RX8 yX8_program yX8_program ∈ gw := gw_mem 1247 (by decide +kernel) rfl
theorem kM_X8_put : Cond.code yX8_put cX8_put 3 none ∈ gw := gw_mem 1237 (by decide +kernel) rfl
theorem iM_X8_put : Cond.instanceMethod yX8_put ∈ gw := gw_mem 1236 (by decide +kernel) rfl
theorem sM_X8_put : Cond.selects RX8 yX8_put yX8_put ∈ gw := gw_mem 87 (by decide +kernel) rfl
theorem kM_X8_reach : Cond.code yX8_reach cX8_reach 2 none ∈ gw := gw_mem 1451 (by decide +kernel) rfl
theorem iM_X8_reach : Cond.instanceMethod yX8_reach ∈ gw := gw_mem 1450 (by decide +kernel) rfl
theorem sM_X8_reach : Cond.selects RX8 yX8_reach yX8_reach ∈ gw := gw_mem 132 (by decide +kernel) rfl
theorem kM_X8_reachAll : Cond.code yX8_reachAll cX8_reachAll 3 none ∈ gw := gw_mem 1471 (by decide +kernel) rfl
theorem iM_X8_reachAll : Cond.instanceMethod yX8_reachAll ∈ gw := gw_mem 1470 (by decide +kernel) rfl
theorem sM_X8_reachAll : Cond.selects RX8 yX8_reachAll yX8_reachAll ∈ gw := gw_mem 137 (by decide +kernel) rfl
theorem kM_X8_readAll : Cond.code yX8_readAll cX8_readAll 3 none ∈ gw := gw_mem 1252 (by decide +kernel) rfl
theorem iM_X8_readAll : Cond.instanceMethod yX8_readAll ∈ gw := gw_mem 1251 (by decide +kernel) rfl
theorem sM_X8_readAll : Cond.selects RX8 yX8_readAll yX8_readAll ∈ gw := gw_mem 88 (by decide +kernel) rfl
theorem kM_X8_readBlock : Cond.code yX8_readBlock cX8_readBlock 5 (some .int) ∈ gw := gw_mem 1268 (by decide +kernel) rfl
theorem iM_X8_readBlock : Cond.instanceMethod yX8_readBlock ∈ gw := gw_mem 1267 (by decide +kernel) rfl
theorem sM_X8_readBlock : Cond.selects RX8 yX8_readBlock yX8_readBlock ∈ gw := gw_mem 92 (by decide +kernel) rfl
theorem kM_X8_readEnd : Cond.code yX8_readEnd cX8_readEnd 2 none ∈ gw := gw_mem 1310 (by decide +kernel) rfl
theorem iM_X8_readEnd : Cond.instanceMethod yX8_readEnd ∈ gw := gw_mem 1309 (by decide +kernel) rfl
theorem sM_X8_readEnd : Cond.selects RX8 yX8_readEnd yX8_readEnd ∈ gw := gw_mem 101 (by decide +kernel) rfl
theorem kM_X8_readItem : Cond.code yX8_readItem cX8_readItem 7 none ∈ gw := gw_mem 1276 (by decide +kernel) rfl
theorem iM_X8_readItem : Cond.instanceMethod yX8_readItem ∈ gw := gw_mem 1275 (by decide +kernel) rfl
theorem sM_X8_readItem : Cond.selects RX8 yX8_readItem yX8_readItem ∈ gw := gw_mem 94 (by decide +kernel) rfl
theorem kM_X8_readSet : Cond.code yX8_readSet cX8_readSet 3 none ∈ gw := gw_mem 1287 (by decide +kernel) rfl
theorem iM_X8_readSet : Cond.instanceMethod yX8_readSet ∈ gw := gw_mem 1286 (by decide +kernel) rfl
theorem sM_X8_readSet : Cond.selects RX8 yX8_readSet yX8_readSet ∈ gw := gw_mem 96 (by decide +kernel) rfl
theorem kM_X8_readTest : Cond.code yX8_readTest cX8_readTest 4 none ∈ gw := gw_mem 1302 (by decide +kernel) rfl
theorem iM_X8_readTest : Cond.instanceMethod yX8_readTest ∈ gw := gw_mem 1301 (by decide +kernel) rfl
theorem sM_X8_readTest : Cond.selects RX8 yX8_readTest yX8_readTest ∈ gw := gw_mem 99 (by decide +kernel) rfl
theorem kM_X8_readTry : Cond.code yX8_readTry cX8_readTry 4 none ∈ gw := gw_mem 1306 (by decide +kernel) rfl
theorem iM_X8_readTry : Cond.instanceMethod yX8_readTry ∈ gw := gw_mem 1305 (by decide +kernel) rfl
theorem sM_X8_readTry : Cond.selects RX8 yX8_readTry yX8_readTry ∈ gw := gw_mem 100 (by decide +kernel) rfl
theorem kM_X8_run : Cond.code yX8_run cX8_run 3 (some .int) ∈ gw := gw_mem 1571 (by decide +kernel) rfl
theorem iM_X8_run : Cond.instanceMethod yX8_run ∈ gw := gw_mem 1569 (by decide +kernel) rfl
theorem sM_X8_run : Cond.selects RX8 yX8_run yX8_run ∈ gw := gw_mem 1570 (by decide +kernel) rfl
theorem kM_X8_runKept : Cond.code yX8_runKept cX8_runKept 4 (some .int) ∈ gw := gw_mem 1622 (by decide +kernel) rfl
theorem iM_X8_runKept : Cond.instanceMethod yX8_runKept ∈ gw := gw_mem 1620 (by decide +kernel) rfl
theorem sM_X8_runKept : Cond.selects RX8 yX8_runKept yX8_runKept ∈ gw := gw_mem 1621 (by decide +kernel) rfl
theorem kM_X8_runs : Cond.code yX8_runs cX8_runs 6 (some .int) ∈ gw := gw_mem 1575 (by decide +kernel) rfl
theorem iM_X8_runs : Cond.instanceMethod yX8_runs ∈ gw := gw_mem 1574 (by decide +kernel) rfl
theorem sM_X8_runs : Cond.selects RX8 yX8_runs yX8_runs ∈ gw := gw_mem 151 (by decide +kernel) rfl
theorem kM_X8_saw : Cond.code yX8_saw cX8_saw 5 (some .int) ∈ gw := gw_mem 1630 (by decide +kernel) rfl
theorem iM_X8_saw : Cond.instanceMethod yX8_saw ∈ gw := gw_mem 1628 (by decide +kernel) rfl
theorem sM_X8_saw : Cond.selects RX8 yX8_saw yX8_saw ∈ gw := gw_mem 1629 (by decide +kernel) rfl
theorem kM_X8_sees : Cond.code yX8_sees cX8_sees 3 none ∈ gw := gw_mem 1610 (by decide +kernel) rfl
theorem iM_X8_sees : Cond.instanceMethod yX8_sees ∈ gw := gw_mem 1609 (by decide +kernel) rfl
theorem sM_X8_sees : Cond.selects RX8 yX8_sees yX8_sees ∈ gw := gw_mem 159 (by decide +kernel) rfl
theorem kM_X8_statementPlace : Cond.code yX8_statementPlace cX8_statementPlace 2 (some .int) ∈ gw := gw_mem 1380 (by decide +kernel) rfl
theorem iM_X8_statementPlace : Cond.static yX8_statementPlace ∈ gw := gw_mem 1379 (by decide +kernel) rfl
theorem kM_X8_summary : Cond.code yX8_summary cX8_summary 4 (some .boolean) ∈ gw := gw_mem 1523 (by decide +kernel) rfl
theorem iM_X8_summary : Cond.instanceMethod yX8_summary ∈ gw := gw_mem 1521 (by decide +kernel) rfl
theorem sM_X8_summary : Cond.selects RX8 yX8_summary yX8_summary ∈ gw := gw_mem 1522 (by decide +kernel) rfl
theorem kM_X8_tells : Cond.code yX8_tells cX8_tells 6 (some .int) ∈ gw := gw_mem 1410 (by decide +kernel) rfl
theorem iM_X8_tells : Cond.instanceMethod yX8_tells ∈ gw := gw_mem 1409 (by decide +kernel) rfl
theorem sM_X8_tells : Cond.selects RX8 yX8_tells yX8_tells ∈ gw := gw_mem 122 (by decide +kernel) rfl
theorem kM_X8_tellsName : Cond.code yX8_tellsName cX8_tellsName 4 none ∈ gw := gw_mem 1606 (by decide +kernel) rfl
theorem iM_X8_tellsName : Cond.instanceMethod yX8_tellsName ∈ gw := gw_mem 1605 (by decide +kernel) rfl
theorem sM_X8_tellsName : Cond.selects RX8 yX8_tellsName yX8_tellsName ∈ gw := gw_mem 158 (by decide +kernel) rfl
theorem kM_X8_tries : Cond.code yX8_tries cX8_tries 4 (some .int) ∈ gw := gw_mem 1587 (by decide +kernel) rfl
theorem iM_X8_tries : Cond.instanceMethod yX8_tries ∈ gw := gw_mem 1586 (by decide +kernel) rfl
theorem sM_X8_tries : Cond.selects RX8 yX8_tries yX8_tries ∈ gw := gw_mem 154 (by decide +kernel) rfl
theorem kM_X8_tryOf : Cond.code yX8_tryOf cX8_tryOf 4 (some .int) ∈ gw := gw_mem 1322 (by decide +kernel) rfl
theorem iM_X8_tryOf : Cond.instanceMethod yX8_tryOf ∈ gw := gw_mem 1321 (by decide +kernel) rfl
theorem sM_X8_tryOf : Cond.selects RX8 yX8_tryOf yX8_tryOf ∈ gw := gw_mem 104 (by decide +kernel) rfl
theorem kM_X8_uses : Cond.code yX8_uses cX8_uses 14 none ∈ gw := gw_mem 1392 (by decide +kernel) rfl
theorem iM_X8_uses : Cond.instanceMethod yX8_uses ∈ gw := gw_mem 1391 (by decide +kernel) rfl
theorem sM_X8_uses : Cond.selects RX8 yX8_uses yX8_uses ∈ gw := gw_mem 120 (by decide +kernel) rfl
theorem kM_X8_usesOperand : Cond.code yX8_usesOperand cX8_usesOperand 5 none ∈ gw := gw_mem 1384 (by decide +kernel) rfl
theorem iM_X8_usesOperand : Cond.instanceMethod yX8_usesOperand ∈ gw := gw_mem 1383 (by decide +kernel) rfl
theorem sM_X8_usesOperand : Cond.selects RX8 yX8_usesOperand yX8_usesOperand ∈ gw := gw_mem 118 (by decide +kernel) rfl
theorem kM_X8_way : Cond.code yX8_way cX8_way 4 (some .int) ∈ gw := gw_mem 1353 (by decide +kernel) rfl
theorem iM_X8_way : Cond.instanceMethod yX8_way ∈ gw := gw_mem 1352 (by decide +kernel) rfl
theorem sM_X8_way : Cond.selects RX8 yX8_way yX8_way ∈ gw := gw_mem 111 (by decide +kernel) rfl
theorem kM_X8_wayOf : Cond.code yX8_wayOf cX8_wayOf 4 (some .int) ∈ gw := gw_mem 1431 (by decide +kernel) rfl
theorem iM_X8_wayOf : Cond.instanceMethod yX8_wayOf ∈ gw := gw_mem 1430 (by decide +kernel) rfl
theorem sM_X8_wayOf : Cond.selects RX8 yX8_wayOf yX8_wayOf ∈ gw := gw_mem 127 (by decide +kernel) rfl
theorem kM_X8_worked : Cond.code yX8_worked cX8_worked 3 (some .int) ∈ gw := gw_mem 1602 (by decide +kernel) rfl
theorem iM_X8_worked : Cond.static yX8_worked ∈ gw := gw_mem 1601 (by decide +kernel) rfl
theorem nC_J13 : Cond.initialized RJ13 ∈ gw := gw_mem 174 (by decide +kernel) rfl
theorem nC_J6 : Cond.initialized RJ6 ∈ gw := gw_mem 175 (by decide +kernel) rfl
theorem nC_J7 : Cond.initialized RJ7 ∈ gw := gw_mem 176 (by decide +kernel) rfl
theorem nC_J9 : Cond.initialized RJ9 ∈ gw := gw_mem 172 (by decide +kernel) rfl
theorem nC_Jxd2413 : Cond.initialized RJxd2413 ∈ gw := gw_mem 173 (by decide +kernel) rfl
theorem nC_L : Cond.initialized RL ∈ gw := gw_mem 162 (by decide +kernel) rfl
theorem nC_X0 : Cond.initialized RX0 ∈ gw := gw_mem 164 (by decide +kernel) rfl
theorem nC_X1 : Cond.initialized RX1 ∈ gw := gw_mem 169 (by decide +kernel) rfl
theorem nC_X2 : Cond.initialized RX2 ∈ gw := gw_mem 170 (by decide +kernel) rfl
theorem nC_X3 : Cond.initialized RX3 ∈ gw := gw_mem 165 (by decide +kernel) rfl
theorem nC_X4 : Cond.initialized RX4 ∈ gw := gw_mem 168 (by decide +kernel) rfl
theorem nC_X5 : Cond.initialized RX5 ∈ gw := gw_mem 166 (by decide +kernel) rfl
theorem nC_X6 : Cond.initialized RX6 ∈ gw := gw_mem 167 (by decide +kernel) rfl
theorem nC_X7 : Cond.initialized RX7 ∈ gw := gw_mem 163 (by decide +kernel) rfl
theorem nC_X8 : Cond.initialized RX8 ∈ gw := gw_mem 171 (by decide +kernel) rfl
theorem oC_X0 : Cond.instantiable RX0 20 ∈ gw := gw_mem 186 (by decide +kernel) rfl
theorem oC_X1 : Cond.instantiable RX1 7 ∈ gw := gw_mem 419 (by decide +kernel) rfl
theorem oC_X2 : Cond.instantiable RX2 13 ∈ gw := gw_mem 491 (by decide +kernel) rfl
theorem oC_X3 : Cond.instantiable RX3 11 ∈ gw := gw_mem 310 (by decide +kernel) rfl
theorem oC_X4 : Cond.instantiable RX4 13 ∈ gw := gw_mem 413 (by decide +kernel) rfl
theorem oC_X5 : Cond.instantiable RX5 9 ∈ gw := gw_mem 316 (by decide +kernel) rfl
theorem oC_X6 : Cond.instantiable RX6 2 ∈ gw := gw_mem 365 (by decide +kernel) rfl
theorem oC_X7 : Cond.instantiable RX7 8 ∈ gw := gw_mem 178 (by decide +kernel) rfl
theorem oC_X8 : Cond.instantiable RX8 60 ∈ gw := gw_mem 1044 (by decide +kernel) rfl
theorem cL_L_7 : Cond.classLink RL 7 RX7 ∈ gw := gw_mem 177 (by decide +kernel) rfl
theorem cL_L_10 : Cond.classLink RL 10 RX8 ∈ gw := gw_mem 1043 (by decide +kernel) rfl
theorem cL_X3_25 : Cond.classLink RX3 25 RX5 ∈ gw := gw_mem 315 (by decide +kernel) rfl
theorem cL_X3_50 : Cond.classLink RX3 50 RX6 ∈ gw := gw_mem 364 (by decide +kernel) rfl
theorem cL_X4_49 : Cond.classLink RX4 49 RX1 ∈ gw := gw_mem 418 (by decide +kernel) rfl
theorem cL_X7_20 : Cond.classLink RX7 20 RX0 ∈ gw := gw_mem 185 (by decide +kernel) rfl
theorem cL_X7_30 : Cond.classLink RX7 30 RX3 ∈ gw := gw_mem 309 (by decide +kernel) rfl
theorem cL_X7_39 : Cond.classLink RX7 39 RX4 ∈ gw := gw_mem 412 (by decide +kernel) rfl
theorem cL_X7_46 : Cond.classLink RX7 46 RX2 ∈ gw := gw_mem 490 (by decide +kernel) rfl
theorem kL_J13_314 : Cond.constantLong RJ13 314 (6148914691236517205) ∈ gw := gw_mem 750 (by decide +kernel) rfl
theorem kL_J13_316 : Cond.constantLong RJ13 316 (3689348814741910323) ∈ gw := gw_mem 751 (by decide +kernel) rfl
theorem kL_J13_318 : Cond.constantLong RJ13 318 (1085102592571150095) ∈ gw := gw_mem 752 (by decide +kernel) rfl
theorem kL_J6_264 : Cond.constant RJ6 264 (65536) ∈ gw := gw_mem 1399 (by decide +kernel) rfl
theorem kL_X1_60 : Cond.constantLong RX1 60 (1099511627775) ∈ gw := gw_mem 785 (by decide +kernel) rfl
theorem kL_X1_145 : Cond.constantLong RX1 145 (-1) ∈ gw := gw_mem 835 (by decide +kernel) rfl
theorem kL_X1_147 : Cond.constantLong RX1 147 (-1099511627776) ∈ gw := gw_mem 836 (by decide +kernel) rfl
theorem kL_X2_64 : Cond.constant RX2 64 (1000000) ∈ gw := gw_mem 981 (by decide +kernel) rfl
theorem kL_X4_109 : Cond.constantLong RX4 109 (-1) ∈ gw := gw_mem 871 (by decide +kernel) rfl
theorem kL_X4_127 : Cond.constantLong RX4 127 (1099511627775) ∈ gw := gw_mem 929 (by decide +kernel) rfl
theorem kL_X7_140 : Cond.constantLong RX7 140 (-1) ∈ gw := gw_mem 912 (by decide +kernel) rfl
theorem kL_X7_156 : Cond.constantLong RX7 156 (1099511627775) ∈ gw := gw_mem 971 (by decide +kernel) rfl
theorem kL_X8_329 : Cond.constantLong RX8 329 (-1) ∈ gw := gw_mem 1427 (by decide +kernel) rfl
theorem mL_J13_311 : ML RJ13 311 yJ6_numberOfTrailingZeros_0f7a4 cJ6_numberOfTrailingZeros_0f7a4 2 (some .int) 1 := ⟨Or.inl (gw_mem 1396 (by decide +kernel) rfl), nC_J6, kM_J6_numberOfTrailingZeros_0f7a4, by decide +kernel⟩
theorem mL_L_9 : ML RL 9 yX7_init cX7_init 1 none 0 := ⟨Or.inl (gw_mem 179 (by decide +kernel) rfl), nC_X7, kM_X7_init, by decide +kernel⟩
theorem mL_L_12 : ML RL 12 yX8_init cX8_init 1 none 0 := ⟨Or.inl (gw_mem 1045 (by decide +kernel) rfl), nC_X8, kM_X8_init, by decide +kernel⟩
theorem mL_L_13 : ML RL 13 yX7_feed cX7_feed 6 (some .int) 5 := ⟨Or.inl (gw_mem 561 (by decide +kernel) rfl), nC_X7, kM_X7_feed, by decide +kernel⟩
theorem mL_L_17 : ML RL 17 yX8_feed cX8_feed 6 (some .int) 5 := ⟨Or.inl (gw_mem 1230 (by decide +kernel) rfl), nC_X8, kM_X8_feed, by decide +kernel⟩
theorem mL_L_18 : ML RL 18 yX7_end cX7_end 2 (some .boolean) 1 := ⟨Or.inl (gw_mem 569 (by decide +kernel) rfl), nC_X7, kM_X7_end, by decide +kernel⟩
theorem mL_L_22 : ML RL 22 yX8_end cX8_end 2 (some .boolean) 1 := ⟨Or.inl (gw_mem 1238 (by decide +kernel) rfl), nC_X8, kM_X8_end, by decide +kernel⟩
theorem mL_L_23 : ML RL 23 yX7_program cX7_program 3 (some .int) 0 := ⟨Or.inl (gw_mem 573 (by decide +kernel) rfl), nC_X7, kM_X7_program, by decide +kernel⟩
theorem mL_L_27 : ML RL 27 yX8_program cX8_program 2 (some .int) 0 := ⟨Or.inl (gw_mem 1245 (by decide +kernel) rfl), nC_X8, kM_X8_program, by decide +kernel⟩
theorem mL_L_28 : ML RL 28 yX7_fault cX7_fault 1 (some .int) 0 := ⟨Or.inl (gw_mem 739 (by decide +kernel) rfl), nC_X7, kM_X7_fault, by decide +kernel⟩
theorem mL_L_31 : ML RL 31 yX8_fault cX8_fault 1 (some .int) 0 := ⟨Or.inl (gw_mem 1480 (by decide +kernel) rfl), nC_X8, kM_X8_fault, by decide +kernel⟩
theorem mL_L_32 : ML RL 32 yX7_count cX7_count 2 (some .int) 1 := ⟨Or.inl (gw_mem 743 (by decide +kernel) rfl), nC_X7, kM_X7_count, by decide +kernel⟩
theorem mL_L_36 : ML RL 36 yX8_count cX8_count 2 (some .int) 1 := ⟨Or.inl (gw_mem 1484 (by decide +kernel) rfl), nC_X8, kM_X8_count, by decide +kernel⟩
theorem mL_L_37 : ML RL 37 yX7_of cX7_of 3 (some .int) 2 := ⟨Or.inl (gw_mem 753 (by decide +kernel) rfl), nC_X7, kM_X7_of, by decide +kernel⟩
theorem mL_L_41 : ML RL 41 yX8_of cX8_of 4 (some .int) 2 := ⟨Or.inl (gw_mem 1496 (by decide +kernel) rfl), nC_X8, kM_X8_of, by decide +kernel⟩
theorem mL_L_42 : ML RL 42 yX7_hangs cX7_hangs 3 (some .int) 2 := ⟨Or.inl (gw_mem 762 (by decide +kernel) rfl), nC_X7, kM_X7_hangs, by decide +kernel⟩
theorem mL_L_45 : ML RL 45 yX8_hangs cX8_hangs 3 (some .int) 2 := ⟨Or.inl (gw_mem 1508 (by decide +kernel) rfl), nC_X8, kM_X8_hangs, by decide +kernel⟩
theorem mL_L_46 : ML RL 46 yX7_begun cX7_begun 2 (some .long) 1 := ⟨Or.inl (gw_mem 889 (by decide +kernel) rfl), nC_X7, kM_X7_begun, by decide +kernel⟩
theorem mL_L_50 : ML RL 50 yX8_begun cX8_begun 2 (some .long) 1 := ⟨Or.inl (gw_mem 1512 (by decide +kernel) rfl), nC_X8, kM_X8_begun, by decide +kernel⟩
theorem mL_L_51 : ML RL 51 yX7_summary cX7_summary 4 (some .boolean) 3 := ⟨Or.inl (gw_mem 897 (by decide +kernel) rfl), nC_X7, kM_X7_summary, by decide +kernel⟩
theorem mL_L_55 : ML RL 55 yX8_summary cX8_summary 4 (some .boolean) 3 := ⟨Or.inl (gw_mem 1520 (by decide +kernel) rfl), nC_X8, kM_X8_summary, by decide +kernel⟩
theorem mL_L_56 : ML RL 56 yX7_back cX7_back 2 (some .long) 1 := ⟨Or.inl (gw_mem 908 (by decide +kernel) rfl), nC_X7, kM_X7_back, by decide +kernel⟩
theorem mL_L_59 : ML RL 59 yX8_back cX8_back 2 (some .long) 1 := ⟨Or.inl (gw_mem 1524 (by decide +kernel) rfl), nC_X8, kM_X8_back, by decide +kernel⟩
theorem mL_L_60 : ML RL 60 yX7_forth cX7_forth 2 (some .long) 1 := ⟨Or.inl (gw_mem 930 (by decide +kernel) rfl), nC_X7, kM_X7_forth, by decide +kernel⟩
theorem mL_L_63 : ML RL 63 yX8_forth cX8_forth 2 (some .long) 1 := ⟨Or.inl (gw_mem 1528 (by decide +kernel) rfl), nC_X8, kM_X8_forth, by decide +kernel⟩
theorem mL_L_64 : ML RL 64 yX7_between cX7_between 3 (some .long) 2 := ⟨Or.inl (gw_mem 939 (by decide +kernel) rfl), nC_X7, kM_X7_between, by decide +kernel⟩
theorem mL_L_68 : ML RL 68 yX8_between cX8_between 3 (some .long) 2 := ⟨Or.inl (gw_mem 1536 (by decide +kernel) rfl), nC_X8, kM_X8_between, by decide +kernel⟩
theorem mL_L_69 : ML RL 69 yX7_backOf cX7_backOf 3 (some .long) 2 := ⟨Or.inl (gw_mem 943 (by decide +kernel) rfl), nC_X7, kM_X7_backOf, by decide +kernel⟩
theorem mL_L_72 : ML RL 72 yX8_backOf cX8_backOf 3 (some .long) 2 := ⟨Or.inl (gw_mem 1540 (by decide +kernel) rfl), nC_X8, kM_X8_backOf, by decide +kernel⟩
theorem mL_L_73 : ML RL 73 yX7_kept cX7_kept 2 (some .long) 1 := ⟨Or.inl (gw_mem 951 (by decide +kernel) rfl), nC_X7, kM_X7_kept, by decide +kernel⟩
theorem mL_L_76 : ML RL 76 yX8_kept cX8_kept 2 (some .long) 1 := ⟨Or.inl (gw_mem 1544 (by decide +kernel) rfl), nC_X8, kM_X8_kept, by decide +kernel⟩
theorem mL_L_77 : ML RL 77 yX7_run cX7_run 3 (some .int) 2 := ⟨Or.inl (gw_mem 967 (by decide +kernel) rfl), nC_X7, kM_X7_run, by decide +kernel⟩
theorem mL_L_80 : ML RL 80 yX8_run cX8_run 3 (some .int) 2 := ⟨Or.inl (gw_mem 1568 (by decide +kernel) rfl), nC_X8, kM_X8_run, by decide +kernel⟩
theorem mL_L_81 : ML RL 81 yX7_runKept cX7_runKept 4 (some .int) 3 := ⟨Or.inl (gw_mem 1019 (by decide +kernel) rfl), nC_X7, kM_X7_runKept, by decide +kernel⟩
theorem mL_L_85 : ML RL 85 yX8_runKept cX8_runKept 4 (some .int) 3 := ⟨Or.inl (gw_mem 1619 (by decide +kernel) rfl), nC_X8, kM_X8_runKept, by decide +kernel⟩
theorem mL_L_86 : ML RL 86 yX7_ended cX7_ended 2 (some .int) 1 := ⟨Or.inl (gw_mem 1023 (by decide +kernel) rfl), nC_X7, kM_X7_ended, by decide +kernel⟩
theorem mL_L_89 : ML RL 89 yX8_ended cX8_ended 2 (some .int) 1 := ⟨Or.inl (gw_mem 1623 (by decide +kernel) rfl), nC_X8, kM_X8_ended, by decide +kernel⟩
theorem mL_L_90 : ML RL 90 yX7_saw cX7_saw 3 (some .int) 2 := ⟨Or.inl (gw_mem 1031 (by decide +kernel) rfl), nC_X7, kM_X7_saw, by decide +kernel⟩
theorem mL_L_93 : ML RL 93 yX8_saw cX8_saw 5 (some .int) 2 := ⟨Or.inl (gw_mem 1627 (by decide +kernel) rfl), nC_X8, kM_X8_saw, by decide +kernel⟩
theorem oL_X0_3 : Cond.methodLink RX0 3 objectInit ∈ gw := gw_mem 190 (by decide +kernel) rfl
theorem mL_X0_74 : ML RX0 74 yX7_has cX7_has 3 (some .boolean) 2 := ⟨Or.inr ⟨"CallSlicer", gw_nmem 712 (by decide +kernel) rfl⟩, nC_X7, kM_X7_has, by decide +kernel⟩
theorem mL_X0_78 : ML RX0 78 yX7_isField cX7_isField 1 (some .boolean) 1 := ⟨Or.inr ⟨"CallSlicer", gw_nmem 815 (by decide +kernel) rfl⟩, nC_X7, kM_X7_isField, by decide +kernel⟩
theorem mL_X0_82 : ML RX0 82 yX0_walk cX0_walk 5 none 1 := ⟨Or.inl (gw_mem 707 (by decide +kernel) rfl), nC_X0, kM_X0_walk, by decide +kernel⟩
theorem mL_X0_86 : ML RX0 86 yX7_bit cX7_bit 1 (some .long) 1 := ⟨Or.inr ⟨"CallSlicer", gw_nmem 711 (by decide +kernel) rfl⟩, nC_X7, kM_X7_bit, by decide +kernel⟩
theorem mL_X0_90 : ML RX0 90 yX0_goesStraight cX0_goesStraight 2 (some .boolean) 1 := ⟨Or.inl (gw_mem 715 (by decide +kernel) rfl), nC_X0, kM_X0_goesStraight, by decide +kernel⟩
theorem mL_X0_93 : ML RX0 93 yX0_escapes cX0_escapes 2 (some .boolean) 1 := ⟨Or.inl (gw_mem 719 (by decide +kernel) rfl), nC_X0, kM_X0_escapes, by decide +kernel⟩
theorem mL_X0_96 : ML RX0 96 yX0_decides cX0_decides 2 (some .boolean) 1 := ⟨Or.inl (gw_mem 723 (by decide +kernel) rfl), nC_X0, kM_X0_decides, by decide +kernel⟩
theorem oL_X1_3 : Cond.methodLink RX1 3 objectInit ∈ gw := gw_mem 423 (by decide +kernel) rfl
theorem mL_X1_34 : ML RX1 34 yJ7_fill_d0a16 cJ7_fill_d0a16 5 none 2 := ⟨Or.inl (gw_mem 774 (by decide +kernel) rfl), nC_J7, kM_J7_fill_d0a16, by decide +kernel⟩
theorem mL_X1_40 : ML RX1 40 yX1_tieByWay cX1_tieByWay 2 none 0 := ⟨Or.inl (gw_mem 777 (by decide +kernel) rfl), nC_X1, kM_X1_tieByWay, by decide +kernel⟩
theorem mL_X1_43 : ML RX1 43 yX1_findTellers cX1_findTellers 5 none 1 := ⟨Or.inl (gw_mem 801 (by decide +kernel) rfl), nC_X1, kM_X1_findTellers, by decide +kernel⟩
theorem mL_X1_47 : ML RX1 47 yX1_tieByValue cX1_tieByValue 4 none 1 := ⟨Or.inl (gw_mem 824 (by decide +kernel) rfl), nC_X1, kM_X1_tieByValue, by decide +kernel⟩
theorem mL_X1_50 : ML RX1 50 yX1_tieEnds cX1_tieEnds 4 none 0 := ⟨Or.inl (gw_mem 837 (by decide +kernel) rfl), nC_X1, kM_X1_tieEnds, by decide +kernel⟩
theorem mL_X1_53 : ML RX1 53 yX1_tieCalls cX1_tieCalls 3 none 0 := ⟨Or.inl (gw_mem 842 (by decide +kernel) rfl), nC_X1, kM_X1_tieCalls, by decide +kernel⟩
theorem mL_X1_56 : ML RX1 56 yX7_has cX7_has 3 (some .boolean) 2 := ⟨Or.inr ⟨"CallSlicer", gw_nmem 796 (by decide +kernel) rfl⟩, nC_X7, kM_X7_has, by decide +kernel⟩
theorem mL_X1_72 : ML RX1 72 yX0_decides cX0_decides 2 (some .boolean) 1 := ⟨Or.inr ⟨"CallSlicer", gw_nmem 786 (by decide +kernel) rfl⟩, nC_X0, kM_X0_decides, by decide +kernel⟩
theorem mL_X1_79 : ML RX1 79 yX7_bit cX7_bit 1 (some .long) 1 := ⟨Or.inr ⟨"CallSlicer", gw_nmem 787 (by decide +kernel) rfl⟩, nC_X7, kM_X7_bit, by decide +kernel⟩
theorem mL_X1_83 : ML RX1 83 yX1_findCertain cX1_findCertain 6 none 0 := ⟨Or.inl (gw_mem 781 (by decide +kernel) rfl), nC_X1, kM_X1_findCertain, by decide +kernel⟩
theorem mL_X1_86 : ML RX1 86 yX1_tieDecided cX1_tieDecided 5 none 2 := ⟨Or.inl (gw_mem 788 (by decide +kernel) rfl), nC_X1, kM_X1_tieDecided, by decide +kernel⟩
theorem mL_X1_96 : ML RX1 96 yX1_tieAll cX1_tieAll 6 none 3 := ⟨Or.inl (gw_mem 792 (by decide +kernel) rfl), nC_X1, kM_X1_tieAll, by decide +kernel⟩
theorem mL_X1_103 : ML RX1 103 yX1_tie cX1_tie 6 none 4 := ⟨Or.inl (gw_mem 797 (by decide +kernel) rfl), nC_X1, kM_X1_tie, by decide +kernel⟩
theorem mL_X1_107 : ML RX1 107 yX7_isField cX7_isField 1 (some .boolean) 1 := ⟨Or.inr ⟨"CallSlicer", gw_nmem 805 (by decide +kernel) rfl⟩, nC_X7, kM_X7_isField, by decide +kernel⟩
theorem mL_X1_110 : ML RX1 110 yX1_passOn cX1_passOn 5 (some .boolean) 2 := ⟨Or.inl (gw_mem 806 (by decide +kernel) rfl), nC_X1, kM_X1_passOn, by decide +kernel⟩
theorem mL_X1_114 : ML RX1 114 yX0_goesStraight cX0_goesStraight 2 (some .boolean) 1 := ⟨Or.inr ⟨"CallSlicer", gw_nmem 810 (by decide +kernel) rfl⟩, nC_X0, kM_X0_goesStraight, by decide +kernel⟩
theorem mL_X1_117 : ML RX1 117 yX0_tellsStraight cX0_tellsStraight 3 (some .boolean) 2 := ⟨Or.inr ⟨"CallSlicer", gw_nmem 811 (by decide +kernel) rfl⟩, nC_X0, kM_X0_tellsStraight, by decide +kernel⟩
theorem mL_X1_120 : ML RX1 120 yX1_addTellers cX1_addTellers 6 (some .boolean) 2 := ⟨Or.inl (gw_mem 816 (by decide +kernel) rfl), nC_X1, kM_X1_addTellers, by decide +kernel⟩
theorem mL_X1_124 : ML RX1 124 yX0_tellsAside cX0_tellsAside 3 (some .boolean) 2 := ⟨Or.inr ⟨"CallSlicer", gw_nmem 820 (by decide +kernel) rfl⟩, nC_X0, kM_X0_tellsAside, by decide +kernel⟩
theorem mL_X1_130 : ML RX1 130 yX1_tieUse cX1_tieUse 8 none 3 := ⟨Or.inl (gw_mem 828 (by decide +kernel) rfl), nC_X1, kM_X1_tieUse, by decide +kernel⟩
theorem mL_X1_137 : ML RX1 137 yX7_portOfField cX7_portOfField 1 (some .int) 1 := ⟨Or.inr ⟨"CallSlicer", gw_nmem 832 (by decide +kernel) rfl⟩, nC_X7, kM_X7_portOfField, by decide +kernel⟩
theorem mL_X1_149 : ML RX1 149 yX0_escapes cX0_escapes 2 (some .boolean) 1 := ⟨Or.inr ⟨"CallSlicer", gw_nmem 841 (by decide +kernel) rfl⟩, nC_X0, kM_X0_escapes, by decide +kernel⟩
theorem oL_X2_3 : Cond.methodLink RX2 3 objectInit ∈ gw := gw_mem 495 (by decide +kernel) rfl
theorem mL_X2_54 : ML RX2 54 yJ7_fill_53178 cJ7_fill_53178 4 none 2 := ⟨Or.inl (gw_mem 976 (by decide +kernel) rfl), nC_J7, kM_J7_fill_53178, by decide +kernel⟩
theorem mL_X2_60 : ML RX2 60 yX2_enter cX2_enter 6 none 3 := ⟨Or.inl (gw_mem 977 (by decide +kernel) rfl), nC_X2, kM_X2_enter, by decide +kernel⟩
theorem mL_X2_65 : ML RX2 65 yX2_step cX2_step 1 none 0 := ⟨Or.inl (gw_mem 982 (by decide +kernel) rfl), nC_X2, kM_X2_step, by decide +kernel⟩
theorem mL_X2_73 : ML RX2 73 yX2_leave cX2_leave 6 none 2 := ⟨Or.inl (gw_mem 986 (by decide +kernel) rfl), nC_X2, kM_X2_leave, by decide +kernel⟩
theorem mL_X2_77 : ML RX2 77 yX7_has cX7_has 3 (some .boolean) 2 := ⟨Or.inr ⟨"CallSlicer", gw_nmem 998 (by decide +kernel) rfl⟩, nC_X7, kM_X7_has, by decide +kernel⟩
theorem mL_X2_84 : ML RX2 84 yX2_perform cX2_perform 4 none 1 := ⟨Or.inl (gw_mem 999 (by decide +kernel) rfl), nC_X2, kM_X2_perform, by decide +kernel⟩
theorem mL_X2_91 : ML RX2 91 yX2_compute cX2_compute 4 (some .int) 1 := ⟨Or.inl (gw_mem 1003 (by decide +kernel) rfl), nC_X2, kM_X2_compute, by decide +kernel⟩
theorem mL_X2_98 : ML RX2 98 yX2_store cX2_store 3 none 2 := ⟨Or.inl (gw_mem 994 (by decide +kernel) rfl), nC_X2, kM_X2_store, by decide +kernel⟩
theorem mL_X2_102 : ML RX2 102 yX2_see cX2_see 3 none 2 := ⟨Or.inl (gw_mem 990 (by decide +kernel) rfl), nC_X2, kM_X2_see, by decide +kernel⟩
theorem mL_X2_108 : ML RX2 108 yX2_open cX2_open 4 none 1 := ⟨Or.inl (gw_mem 1011 (by decide +kernel) rfl), nC_X2, kM_X2_open, by decide +kernel⟩
theorem mL_X2_114 : ML RX2 114 yX2_load cX2_load 2 (some .int) 1 := ⟨Or.inl (gw_mem 1007 (by decide +kernel) rfl), nC_X2, kM_X2_load, by decide +kernel⟩
theorem mL_X2_117 : ML RX2 117 yX2_raise cX2_raise 3 none 2 := ⟨Or.inl (gw_mem 1015 (by decide +kernel) rfl), nC_X2, kM_X2_raise, by decide +kernel⟩
theorem oL_X3_3 : Cond.methodLink RX3 3 objectInit ∈ gw := gw_mem 314 (by decide +kernel) rfl
theorem mL_X3_27 : ML RX3 27 yX5_init cX5_init 1 none 0 := ⟨Or.inr ⟨"CallSlicer", gw_nmem 317 (by decide +kernel) rfl⟩, nC_X5, kM_X5_init, by decide +kernel⟩
theorem mL_X3_52 : ML RX3 52 yX6_init cX6_init 3 none 2 := ⟨Or.inr ⟨"CallSlicer", gw_nmem 366 (by decide +kernel) rfl⟩, nC_X6, kM_X6_init, by decide +kernel⟩
theorem mL_X3_59 : ML RX3 59 yX3_start cX3_start 4 none 3 := ⟨Or.inl (gw_mem 581 (by decide +kernel) rfl), nC_X3, kM_X3_start, by decide +kernel⟩
theorem mL_X3_63 : ML RX3 63 yX3_readProcedure cX3_readProcedure 2 none 0 := ⟨Or.inl (gw_mem 592 (by decide +kernel) rfl), nC_X3, kM_X3_readProcedure, by decide +kernel⟩
theorem mL_X3_66 : ML RX3 66 yX3_look cX3_look 1 (some .int) 0 := ⟨Or.inl (gw_mem 596 (by decide +kernel) rfl), nC_X3, kM_X3_look, by decide +kernel⟩
theorem mL_X3_70 : ML RX3 70 yX3_closeBlock cX3_closeBlock 2 none 0 := ⟨Or.inl (gw_mem 608 (by decide +kernel) rfl), nC_X3, kM_X3_closeBlock, by decide +kernel⟩
theorem mL_X3_73 : ML RX3 73 yX3_readTry cX3_readTry 2 none 0 := ⟨Or.inl (gw_mem 622 (by decide +kernel) rfl), nC_X3, kM_X3_readTry, by decide +kernel⟩
theorem mL_X3_76 : ML RX3 76 yX3_readStatement cX3_readStatement 5 none 1 := ⟨Or.inl (gw_mem 634 (by decide +kernel) rfl), nC_X3, kM_X3_readStatement, by decide +kernel⟩
theorem mL_X3_80 : ML RX3 80 yX3_finish cX3_finish 1 none 0 := ⟨Or.inl (gw_mem 679 (by decide +kernel) rfl), nC_X3, kM_X3_finish, by decide +kernel⟩
theorem mL_X3_83 : ML RX3 83 yJ9_min_7cf53 cJ9_min_7cf53 2 (some .int) 2 := ⟨Or.inl (gw_mem 585 (by decide +kernel) rfl), nC_J9, kM_J9_min_7cf53, by decide +kernel⟩
theorem mL_X3_89 : ML RX3 89 yX0_clear cX0_clear 1 none 0 := ⟨Or.inr ⟨"CallSlicer", gw_nmem 588 (by decide +kernel) rfl⟩, nC_X0, kM_X0_clear, by decide +kernel⟩
theorem mL_X3_97 : ML RX3 97 yX0_callsOnlyTold cX0_callsOnlyTold 3 (some .boolean) 0 := ⟨Or.inr ⟨"CallSlicer", gw_nmem 683 (by decide +kernel) rfl⟩, nC_X0, kM_X0_callsOnlyTold, by decide +kernel⟩
theorem mL_X3_101 : ML RX3 101 yX3_blame cX3_blame 3 none 2 := ⟨Or.inl (gw_mem 600 (by decide +kernel) rfl), nC_X3, kM_X3_blame, by decide +kernel⟩
theorem mL_X3_105 : ML RX3 105 yX6_wire cX6_wire 4 none 1 := ⟨Or.inr ⟨"CallSlicer", gw_nmem 687 (by decide +kernel) rfl⟩, nC_X6, kM_X6_wire, by decide +kernel⟩
theorem mL_X3_109 : ML RX3 109 yX0_settleEnds cX0_settleEnds 6 none 0 := ⟨Or.inr ⟨"CallSlicer", gw_nmem 703 (by decide +kernel) rfl⟩, nC_X0, kM_X0_settleEnds, by decide +kernel⟩
theorem mL_X3_112 : ML RX3 112 yX0_allMayEnd cX0_allMayEnd 1 (some .boolean) 0 := ⟨Or.inr ⟨"CallSlicer", gw_nmem 727 (by decide +kernel) rfl⟩, nC_X0, kM_X0_allMayEnd, by decide +kernel⟩
theorem mL_X3_118 : ML RX3 118 yX3_openBlock cX3_openBlock 3 none 2 := ⟨Or.inl (gw_mem 604 (by decide +kernel) rfl), nC_X3, kM_X3_openBlock, by decide +kernel⟩
theorem mL_X3_131 : ML RX3 131 yX3_readSecond cX3_readSecond 5 none 1 := ⟨Or.inl (gw_mem 612 (by decide +kernel) rfl), nC_X3, kM_X3_readSecond, by decide +kernel⟩
theorem mL_X3_137 : ML RX3 137 yX3_nameOf cX3_nameOf 1 (some .int) 1 := ⟨Or.inl (gw_mem 616 (by decide +kernel) rfl), nC_X3, kM_X3_nameOf, by decide +kernel⟩
theorem mL_X3_141 : ML RX3 141 yX7_isField cX7_isField 1 (some .boolean) 1 := ⟨Or.inr ⟨"CallSlicer", gw_nmem 619 (by decide +kernel) rfl⟩, nC_X7, kM_X7_isField, by decide +kernel⟩
theorem mL_X3_151 : ML RX3 151 yX5_add cX5_add 3 (some .int) 1 := ⟨Or.inr ⟨"CallSlicer", gw_nmem 630 (by decide +kernel) rfl⟩, nC_X5, kM_X5_add, by decide +kernel⟩
theorem mL_X3_157 : ML RX3 157 yX3_addItem cX3_addItem 3 (some .int) 1 := ⟨Or.inl (gw_mem 626 (by decide +kernel) rfl), nC_X3, kM_X3_addItem, by decide +kernel⟩
theorem mL_X3_160 : ML RX3 160 yX3_kindBegunBy cX3_kindBegunBy 1 (some .int) 1 := ⟨Or.inl (gw_mem 638 (by decide +kernel) rfl), nC_X3, kM_X3_kindBegunBy, by decide +kernel⟩
theorem mL_X3_166 : ML RX3 166 yX0_add cX0_add 6 (some .int) 4 := ⟨Or.inr ⟨"CallSlicer", gw_nmem 641 (by decide +kernel) rfl⟩, nC_X0, kM_X0_add, by decide +kernel⟩
theorem mL_X3_169 : ML RX3 169 yX3_readAssignment cX3_readAssignment 4 none 2 := ⟨Or.inl (gw_mem 645 (by decide +kernel) rfl), nC_X3, kM_X3_readAssignment, by decide +kernel⟩
theorem mL_X3_172 : ML RX3 172 yX3_readCondition cX3_readCondition 3 none 2 := ⟨Or.inl (gw_mem 675 (by decide +kernel) rfl), nC_X3, kM_X3_readCondition, by decide +kernel⟩
theorem mL_X3_178 : ML RX3 178 yX3_readOperand cX3_readOperand 3 (some .int) 0 := ⟨Or.inl (gw_mem 660 (by decide +kernel) rfl), nC_X3, kM_X3_readOperand, by decide +kernel⟩
theorem mL_X3_181 : ML RX3 181 yX3_take cX3_take 2 none 1 := ⟨Or.inl (gw_mem 649 (by decide +kernel) rfl), nC_X3, kM_X3_take, by decide +kernel⟩
theorem mL_X3_190 : ML RX3 190 yX3_readCall cX3_readCall 3 none 2 := ⟨Or.inl (gw_mem 653 (by decide +kernel) rfl), nC_X3, kM_X3_readCall, by decide +kernel⟩
theorem mL_X3_193 : ML RX3 193 yX3_readNumbers cX3_readNumbers 3 none 1 := ⟨Or.inl (gw_mem 671 (by decide +kernel) rfl), nC_X3, kM_X3_readNumbers, by decide +kernel⟩
theorem mL_X3_203 : ML RX3 203 yX7_bit cX7_bit 1 (some .long) 1 := ⟨Or.inr ⟨"CallSlicer", gw_nmem 657 (by decide +kernel) rfl⟩, nC_X7, kM_X7_bit, by decide +kernel⟩
theorem mL_X3_210 : ML RX3 210 yX3_isDigit cX3_isDigit 1 (some .boolean) 1 := ⟨Or.inl (gw_mem 664 (by decide +kernel) rfl), nC_X3, kM_X3_isDigit, by decide +kernel⟩
theorem mL_X3_213 : ML RX3 213 yX3_readNumber cX3_readNumber 3 (some .int) 0 := ⟨Or.inl (gw_mem 667 (by decide +kernel) rfl), nC_X3, kM_X3_readNumber, by decide +kernel⟩
theorem oL_X4_3 : Cond.methodLink RX4 3 objectInit ∈ gw := gw_mem 417 (by decide +kernel) rfl
theorem mL_X4_51 : ML RX4 51 yX1_init cX1_init 2 none 1 := ⟨Or.inr ⟨"CallSlicer", gw_nmem 420 (by decide +kernel) rfl⟩, nC_X1, kM_X1_init, by decide +kernel⟩
theorem mL_X4_62 : ML RX4 62 yX1_build cX1_build 3 none 1 := ⟨Or.inr ⟨"CallSlicer", gw_nmem 770 (by decide +kernel) rfl⟩, nC_X1, kM_X1_build, by decide +kernel⟩
theorem mL_X4_70 : ML RX4 70 yX0_callsOf cX0_callsOf 5 (some .long) 1 := ⟨Or.inr ⟨"CallSlicer", gw_nmem 846 (by decide +kernel) rfl⟩, nC_X0, kM_X0_callsOf, by decide +kernel⟩
theorem mL_X4_74 : ML RX4 74 yJ7_fill_53178 cJ7_fill_53178 4 none 2 := ⟨Or.inl (gw_mem 850 (by decide +kernel) rfl), nC_J7, kM_J7_fill_53178, by decide +kernel⟩
theorem mL_X4_80 : ML RX4 80 yX4_growThrough cX4_growThrough 5 (some .boolean) 0 := ⟨Or.inl (gw_mem 853 (by decide +kernel) rfl), nC_X4, kM_X4_growThrough, by decide +kernel⟩
theorem mL_X4_84 : ML RX4 84 yX4_insFrom cX4_insFrom 5 (some .int) 2 := ⟨Or.inl (gw_mem 857 (by decide +kernel) rfl), nC_X4, kM_X4_insFrom, by decide +kernel⟩
theorem mL_X4_88 : ML RX4 88 yX4_clearFound cX4_clearFound 1 none 0 := ⟨Or.inl (gw_mem 861 (by decide +kernel) rfl), nC_X4, kM_X4_clearFound, by decide +kernel⟩
theorem mL_X4_91 : ML RX4 91 yX7_bit cX7_bit 1 (some .long) 1 := ⟨Or.inr ⟨"CallSlicer", gw_nmem 866 (by decide +kernel) rfl⟩, nC_X7, kM_X7_bit, by decide +kernel⟩
theorem mL_X4_94 : ML RX4 94 yX4_add cX4_add 8 none 3 := ⟨Or.inl (gw_mem 867 (by decide +kernel) rfl), nC_X4, kM_X4_add, by decide +kernel⟩
theorem mL_X4_98 : ML RX4 98 yX4_spread cX4_spread 6 none 2 := ⟨Or.inl (gw_mem 872 (by decide +kernel) rfl), nC_X4, kM_X4_spread, by decide +kernel⟩
theorem mL_X4_102 : ML RX4 102 yX7_has cX7_has 3 (some .boolean) 2 := ⟨Or.inr ⟨"CallSlicer", gw_nmem 884 (by decide +kernel) rfl⟩, nC_X7, kM_X7_has, by decide +kernel⟩
theorem mL_X4_106 : ML RX4 106 yJ7_fill_d0a16 cJ7_fill_d0a16 5 none 2 := ⟨Or.inl (gw_mem 865 (by decide +kernel) rfl), nC_J7, kM_J7_fill_d0a16, by decide +kernel⟩
theorem mL_X4_111 : ML RX4 111 yX4_followRow cX4_followRow 7 none 2 := ⟨Or.inl (gw_mem 876 (by decide +kernel) rfl), nC_X4, kM_X4_followRow, by decide +kernel⟩
theorem mL_X4_114 : ML RX4 114 yX4_followCall cX4_followCall 8 none 4 := ⟨Or.inl (gw_mem 880 (by decide +kernel) rfl), nC_X4, kM_X4_followCall, by decide +kernel⟩
theorem mL_X4_129 : ML RX4 129 yX4_beginFrom cX4_beginFrom 4 none 1 := ⟨Or.inl (gw_mem 917 (by decide +kernel) rfl), nC_X4, kM_X4_beginFrom, by decide +kernel⟩
theorem mL_X4_133 : ML RX4 133 yX4_findOn cX4_findOn 2 none 0 := ⟨Or.inl (gw_mem 921 (by decide +kernel) rfl), nC_X4, kM_X4_findOn, by decide +kernel⟩
theorem mL_X4_136 : ML RX4 136 yX4_statementsFound cX4_statementsFound 4 (some .long) 0 := ⟨Or.inl (gw_mem 925 (by decide +kernel) rfl), nC_X4, kM_X4_statementsFound, by decide +kernel⟩
theorem mL_X4_143 : ML RX4 143 yX4_backFrom cX4_backFrom 2 (some .long) 1 := ⟨Or.inl (gw_mem 938 (by decide +kernel) rfl), nC_X4, kM_X4_backFrom, by decide +kernel⟩
theorem mL_X4_146 : ML RX4 146 yX4_findKept cX4_findKept 4 (some .long) 1 := ⟨Or.inl (gw_mem 959 (by decide +kernel) rfl), nC_X4, kM_X4_findKept, by decide +kernel⟩
theorem mL_X4_149 : ML RX4 149 yX4_completeCalls cX4_completeCalls 6 (some .boolean) 0 := ⟨Or.inl (gw_mem 963 (by decide +kernel) rfl), nC_X4, kM_X4_completeCalls, by decide +kernel⟩
theorem oL_X5_3 : Cond.methodLink RX5 3 objectInit ∈ gw := gw_mem 320 (by decide +kernel) rfl
theorem oL_X6_3 : Cond.methodLink RX6 3 objectInit ∈ gw := gw_mem 369 (by decide +kernel) rfl
theorem mL_X6_34 : ML RX6 34 yX6_wireBlock cX6_wireBlock 8 (some .int) 4 := ⟨Or.inl (gw_mem 691 (by decide +kernel) rfl), nC_X6, kM_X6_wireBlock, by decide +kernel⟩
theorem mL_X6_41 : ML RX6 41 yX6_wireTry cX6_wireTry 6 (some .int) 4 := ⟨Or.inl (gw_mem 695 (by decide +kernel) rfl), nC_X6, kM_X6_wireTry, by decide +kernel⟩
theorem mL_X6_44 : ML RX6 44 yX6_wireStatement cX6_wireStatement 7 (some .int) 4 := ⟨Or.inl (gw_mem 699 (by decide +kernel) rfl), nC_X6, kM_X6_wireStatement, by decide +kernel⟩
theorem oL_X7_3 : Cond.methodLink RX7 3 objectInit ∈ gw := gw_mem 182 (by decide +kernel) rfl
theorem mL_X7_22 : ML RX7 22 yX0_init cX0_init 1 none 0 := ⟨Or.inr ⟨"CallSlicer", gw_nmem 187 (by decide +kernel) rfl⟩, nC_X0, kM_X0_init, by decide +kernel⟩
theorem mL_X7_32 : ML RX7 32 yX3_init cX3_init 2 none 1 := ⟨Or.inr ⟨"CallSlicer", gw_nmem 311 (by decide +kernel) rfl⟩, nC_X3, kM_X3_init, by decide +kernel⟩
theorem mL_X7_41 : ML RX7 41 yX4_init cX4_init 2 none 1 := ⟨Or.inr ⟨"CallSlicer", gw_nmem 414 (by decide +kernel) rfl⟩, nC_X4, kM_X4_init, by decide +kernel⟩
theorem mL_X7_48 : ML RX7 48 yX2_init cX2_init 2 none 1 := ⟨Or.inr ⟨"CallSlicer", gw_nmem 492 (by decide +kernel) rfl⟩, nC_X2, kM_X2_init, by decide +kernel⟩
theorem mL_X7_53 : ML RX7 53 yX7_putFour cX7_putFour 3 none 1 := ⟨Or.inl (gw_mem 565 (by decide +kernel) rfl), nC_X7, kM_X7_putFour, by decide +kernel⟩
theorem mL_X7_57 : ML RX7 57 yX3_read cX3_read 6 (some .int) 3 := ⟨Or.inr ⟨"CallSlicer", gw_nmem 577 (by decide +kernel) rfl⟩, nC_X3, kM_X3_read, by decide +kernel⟩
theorem mL_X7_61 : ML RX7 61 yX4_forget cX4_forget 1 none 0 := ⟨Or.inr ⟨"CallSlicer", gw_nmem 731 (by decide +kernel) rfl⟩, nC_X4, kM_X4_forget, by decide +kernel⟩
theorem mL_X7_64 : ML RX7 64 yX2_forget cX2_forget 1 none 0 := ⟨Or.inr ⟨"CallSlicer", gw_nmem 735 (by decide +kernel) rfl⟩, nC_X2, kM_X2_forget, by decide +kernel⟩
theorem mL_X7_75 : ML RX7 75 yJ13_bitCount_95d88 cJ13_bitCount_95d88 2 (some .int) 1 := ⟨Or.inl (gw_mem 747 (by decide +kernel) rfl), nC_J13, kM_J13_bitCount_95d88, by decide +kernel⟩
theorem mL_X7_87 : ML RX7 87 yX7_isStatement cX7_isStatement 2 (some .boolean) 1 := ⟨Or.inl (gw_mem 757 (by decide +kernel) rfl), nC_X7, kM_X7_isStatement, by decide +kernel⟩
theorem mL_X7_110 : ML RX7 110 yX0_decides cX0_decides 2 (some .boolean) 1 := ⟨Or.inr ⟨"CallSlicer", gw_nmem 761 (by decide +kernel) rfl⟩, nC_X0, kM_X0_decides, by decide +kernel⟩
theorem mL_X7_113 : ML RX7 113 yX4_prepare cX4_prepare 4 none 1 := ⟨Or.inr ⟨"CallSlicer", gw_nmem 766 (by decide +kernel) rfl⟩, nC_X4, kM_X4_prepare, by decide +kernel⟩
theorem mL_X7_120 : ML RX7 120 yX1_kindsBetween cX1_kindsBetween 3 (some .int) 2 := ⟨Or.inr ⟨"CallSlicer", gw_nmem 885 (by decide +kernel) rfl⟩, nC_X1, kM_X1_kindsBetween, by decide +kernel⟩
theorem mL_X7_126 : ML RX7 126 yX7_isProcedure cX7_isProcedure 2 (some .boolean) 1 := ⟨Or.inl (gw_mem 893 (by decide +kernel) rfl), nC_X7, kM_X7_isProcedure, by decide +kernel⟩
theorem mL_X7_133 : ML RX7 133 yX7_isPort cX7_isPort 1 (some .boolean) 1 := ⟨Or.inl (gw_mem 901 (by decide +kernel) rfl), nC_X7, kM_X7_isPort, by decide +kernel⟩
theorem mL_X7_136 : ML RX7 136 yX4_leadsThrough cX4_leadsThrough 4 (some .boolean) 3 := ⟨Or.inr ⟨"CallSlicer", gw_nmem 904 (by decide +kernel) rfl⟩, nC_X4, kM_X4_leadsThrough, by decide +kernel⟩
theorem mL_X7_142 : ML RX7 142 yX4_backFrom cX4_backFrom 2 (some .long) 1 := ⟨Or.inr ⟨"CallSlicer", gw_nmem 913 (by decide +kernel) rfl⟩, nC_X4, kM_X4_backFrom, by decide +kernel⟩
theorem mL_X7_146 : ML RX7 146 yX4_forthFrom cX4_forthFrom 5 (some .long) 1 := ⟨Or.inr ⟨"CallSlicer", gw_nmem 934 (by decide +kernel) rfl⟩, nC_X4, kM_X4_forthFrom, by decide +kernel⟩
theorem mL_X7_149 : ML RX7 149 yX4_backFromOut cX4_backFromOut 3 (some .long) 2 := ⟨Or.inr ⟨"CallSlicer", gw_nmem 947 (by decide +kernel) rfl⟩, nC_X4, kM_X4_backFromOut, by decide +kernel⟩
theorem mL_X7_153 : ML RX7 153 yX4_keptFor cX4_keptFor 2 (some .long) 1 := ⟨Or.inr ⟨"CallSlicer", gw_nmem 955 (by decide +kernel) rfl⟩, nC_X4, kM_X4_keptFor, by decide +kernel⟩
theorem mL_X7_158 : ML RX7 158 yX2_play cX2_play 7 (some .int) 4 := ⟨Or.inr ⟨"CallSlicer", gw_nmem 972 (by decide +kernel) rfl⟩, nC_X2, kM_X2_play, by decide +kernel⟩
theorem mL_X7_162 : ML RX7 162 yX2_tell cX2_tell 2 (some .int) 1 := ⟨Or.inr ⟨"CallSlicer", gw_nmem 1027 (by decide +kernel) rfl⟩, nC_X2, kM_X2_tell, by decide +kernel⟩
theorem mL_X7_166 : ML RX7 166 yX2_sightsOf cX2_sightsOf 4 (some .int) 1 := ⟨Or.inr ⟨"CallSlicer", gw_nmem 1035 (by decide +kernel) rfl⟩, nC_X2, kM_X2_sightsOf, by decide +kernel⟩
theorem mL_X7_169 : ML RX7 169 yX2_sightOf cX2_sightOf 5 (some .int) 2 := ⟨Or.inr ⟨"CallSlicer", gw_nmem 1039 (by decide +kernel) rfl⟩, nC_X2, kM_X2_sightOf, by decide +kernel⟩
theorem oL_X8_1 : Cond.methodLink RX8 1 objectInit ∈ gw := gw_mem 1048 (by decide +kernel) rfl
theorem mL_X8_155 : ML RX8 155 yX8_put cX8_put 3 none 1 := ⟨Or.inl (gw_mem 1234 (by decide +kernel) rfl), nC_X8, kM_X8_put, by decide +kernel⟩
theorem mL_X8_159 : ML RX8 159 yX8_isIn cX8_isIn 3 (some .boolean) 3 := ⟨Or.inl (gw_mem 1242 (by decide +kernel) rfl), nC_X8, kM_X8_isIn, by decide +kernel⟩
theorem mL_X8_172 : ML RX8 172 yX8_isGood cX8_isGood 1 (some .boolean) 0 := ⟨Or.inl (gw_mem 1261 (by decide +kernel) rfl), nC_X8, kM_X8_isGood, by decide +kernel⟩
theorem mL_X8_176 : ML RX8 176 yX8_here cX8_here 1 (some .int) 0 := ⟨Or.inl (gw_mem 1253 (by decide +kernel) rfl), nC_X8, kM_X8_here, by decide +kernel⟩
theorem mL_X8_180 : ML RX8 180 yX8_fails cX8_fails 2 none 1 := ⟨Or.inl (gw_mem 1257 (by decide +kernel) rfl), nC_X8, kM_X8_fails, by decide +kernel⟩
theorem mL_X8_183 : ML RX8 183 yX8_nameHere cX8_nameHere 3 (some .int) 1 := ⟨Or.inl (gw_mem 1277 (by decide +kernel) rfl), nC_X8, kM_X8_nameHere, by decide +kernel⟩
theorem mL_X8_190 : ML RX8 190 yX8_newBlock cX8_newBlock 4 (some .int) 2 := ⟨Or.inl (gw_mem 1269 (by decide +kernel) rfl), nC_X8, kM_X8_newBlock, by decide +kernel⟩
theorem mL_X8_194 : ML RX8 194 yX8_readItem cX8_readItem 7 none 3 := ⟨Or.inl (gw_mem 1273 (by decide +kernel) rfl), nC_X8, kM_X8_readItem, by decide +kernel⟩
theorem mL_X8_198 : ML RX8 198 yX8_must cX8_must 2 none 1 := ⟨Or.inl (gw_mem 1288 (by decide +kernel) rfl), nC_X8, kM_X8_must, by decide +kernel⟩
theorem mL_X8_201 : ML RX8 201 yX8_kindOf cX8_kindOf 1 (some .int) 1 := ⟨Or.inl (gw_mem 1281 (by decide +kernel) rfl), nC_X8, kM_X8_kindOf, by decide +kernel⟩
theorem mL_X8_205 : ML RX8 205 yX8_readSet cX8_readSet 3 none 2 := ⟨Or.inl (gw_mem 1284 (by decide +kernel) rfl), nC_X8, kM_X8_readSet, by decide +kernel⟩
theorem mL_X8_209 : ML RX8 209 yX8_readTest cX8_readTest 4 none 3 := ⟨Or.inl (gw_mem 1299 (by decide +kernel) rfl), nC_X8, kM_X8_readTest, by decide +kernel⟩
theorem mL_X8_212 : ML RX8 212 yX8_readTry cX8_readTry 4 none 3 := ⟨Or.inl (gw_mem 1303 (by decide +kernel) rfl), nC_X8, kM_X8_readTry, by decide +kernel⟩
theorem mL_X8_215 : ML RX8 215 yX8_readEnd cX8_readEnd 2 none 1 := ⟨Or.inl (gw_mem 1307 (by decide +kernel) rfl), nC_X8, kM_X8_readEnd, by decide +kernel⟩
theorem mL_X8_218 : ML RX8 218 yX8_operand cX8_operand 7 none 2 := ⟨Or.inl (gw_mem 1292 (by decide +kernel) rfl), nC_X8, kM_X8_operand, by decide +kernel⟩
theorem mL_X8_220 : ML RX8 220 yX8_isSign cX8_isSign 1 (some .boolean) 1 := ⟨Or.inl (gw_mem 1296 (by decide +kernel) rfl), nC_X8, kM_X8_isSign, by decide +kernel⟩
theorem mL_X8_224 : ML RX8 224 yX8_readBlock cX8_readBlock 5 (some .int) 3 := ⟨Or.inl (gw_mem 1265 (by decide +kernel) rfl), nC_X8, kM_X8_readBlock, by decide +kernel⟩
theorem mL_X8_231 : ML RX8 231 yX8_readAll cX8_readAll 3 none 0 := ⟨Or.inl (gw_mem 1249 (by decide +kernel) rfl), nC_X8, kM_X8_readAll, by decide +kernel⟩
theorem mL_X8_234 : ML RX8 234 yX8_isTold cX8_isTold 2 (some .boolean) 0 := ⟨Or.inl (gw_mem 1311 (by decide +kernel) rfl), nC_X8, kM_X8_isTold, by decide +kernel⟩
theorem mL_X8_237 : ML RX8 237 yX8_laysWays cX8_laysWays 5 none 0 := ⟨Or.inl (gw_mem 1315 (by decide +kernel) rfl), nC_X8, kM_X8_laysWays, by decide +kernel⟩
theorem mL_X8_240 : ML RX8 240 yX8_laysMay cX8_laysMay 6 none 0 := ⟨Or.inl (gw_mem 1339 (by decide +kernel) rfl), nC_X8, kM_X8_laysMay, by decide +kernel⟩
theorem mL_X8_250 : ML RX8 250 yX8_laysAll cX8_laysAll 2 none 0 := ⟨Or.inl (gw_mem 1370 (by decide +kernel) rfl), nC_X8, kM_X8_laysAll, by decide +kernel⟩
theorem mL_X8_253 : ML RX8 253 yX8_firstOf cX8_firstOf 2 (some .int) 1 := ⟨Or.inl (gw_mem 1335 (by decide +kernel) rfl), nC_X8, kM_X8_firstOf, by decide +kernel⟩
theorem mL_X8_256 : ML RX8 256 yX8_endOf cX8_endOf 2 (some .int) 1 := ⟨Or.inl (gw_mem 1327 (by decide +kernel) rfl), nC_X8, kM_X8_endOf, by decide +kernel⟩
theorem mL_X8_259 : ML RX8 259 yX8_entryOf cX8_entryOf 2 (some .int) 1 := ⟨Or.inl (gw_mem 1331 (by decide +kernel) rfl), nC_X8, kM_X8_entryOf, by decide +kernel⟩
theorem mL_X8_262 : ML RX8 262 yX8_behind cX8_behind 2 (some .int) 1 := ⟨Or.inl (gw_mem 1323 (by decide +kernel) rfl), nC_X8, kM_X8_behind, by decide +kernel⟩
theorem mL_X8_265 : ML RX8 265 yX8_tryOf cX8_tryOf 4 (some .int) 1 := ⟨Or.inl (gw_mem 1319 (by decide +kernel) rfl), nC_X8, kM_X8_tryOf, by decide +kernel⟩
theorem mL_X8_268 : ML RX8 268 yX8_item cX8_item 2 (some .int) 1 := ⟨Or.inl (gw_mem 1358 (by decide +kernel) rfl), nC_X8, kM_X8_item, by decide +kernel⟩
theorem mL_X8_271 : ML RX8 271 yX8_kindAt cX8_kindAt 2 (some .int) 1 := ⟨Or.inl (gw_mem 1354 (by decide +kernel) rfl), nC_X8, kM_X8_kindAt, by decide +kernel⟩
theorem mL_X8_274 : ML RX8 274 yX8_isReturning cX8_isReturning 2 (some .boolean) 1 := ⟨Or.inl (gw_mem 1362 (by decide +kernel) rfl), nC_X8, kM_X8_isReturning, by decide +kernel⟩
theorem mL_X8_277 : ML RX8 277 yX8_isThrowing cX8_isThrowing 2 (some .boolean) 1 := ⟨Or.inl (gw_mem 1366 (by decide +kernel) rfl), nC_X8, kM_X8_isThrowing, by decide +kernel⟩
theorem mL_X8_280 : ML RX8 280 yX8_has cX8_has 3 (some .boolean) 2 := ⟨Or.inl (gw_mem 1347 (by decide +kernel) rfl), nC_X8, kM_X8_has, by decide +kernel⟩
theorem mL_X8_284 : ML RX8 284 yX8_way cX8_way 4 (some .int) 2 := ⟨Or.inl (gw_mem 1350 (by decide +kernel) rfl), nC_X8, kM_X8_way, by decide +kernel⟩
theorem mL_X8_287 : ML RX8 287 yX8_comesTo cX8_comesTo 13 (some .boolean) 2 := ⟨Or.inl (gw_mem 1343 (by decide +kernel) rfl), nC_X8, kM_X8_comesTo, by decide +kernel⟩
theorem mL_X8_291 : ML RX8 291 yX8_statementPlace cX8_statementPlace 2 (some .int) 2 := ⟨Or.inl (gw_mem 1378 (by decide +kernel) rfl), nC_X8, kM_X8_statementPlace, by decide +kernel⟩
theorem mL_X8_294 : ML RX8 294 yJ13_numberOfTrailingZeros_95d88 cJ13_numberOfTrailingZeros_95d88 3 (some .int) 1 := ⟨Or.inl (gw_mem 1393 (by decide +kernel) rfl), nC_J13, kM_J13_numberOfTrailingZeros_95d88, by decide +kernel⟩
theorem mL_X8_300 : ML RX8 300 yX8_procedurePlace cX8_procedurePlace 2 (some .int) 2 := ⟨Or.inl (gw_mem 1400 (by decide +kernel) rfl), nC_X8, kM_X8_procedurePlace, by decide +kernel⟩
theorem mL_X8_303 : ML RX8 303 yX8_hang cX8_hang 3 none 2 := ⟨Or.inl (gw_mem 1403 (by decide +kernel) rfl), nC_X8, kM_X8_hang, by decide +kernel⟩
theorem mL_X8_306 : ML RX8 306 yX8_procedureOf cX8_procedureOf 2 (some .int) 1 := ⟨Or.inl (gw_mem 1385 (by decide +kernel) rfl), nC_X8, kM_X8_procedureOf, by decide +kernel⟩
theorem mL_X8_309 : ML RX8 309 yX8_tells cX8_tells 6 (some .int) 3 := ⟨Or.inl (gw_mem 1407 (by decide +kernel) rfl), nC_X8, kM_X8_tells, by decide +kernel⟩
theorem mL_X8_312 : ML RX8 312 yX8_uses cX8_uses 14 none 4 := ⟨Or.inl (gw_mem 1389 (by decide +kernel) rfl), nC_X8, kM_X8_uses, by decide +kernel⟩
theorem mL_X8_316 : ML RX8 316 yX8_usesOperand cX8_usesOperand 5 none 3 := ⟨Or.inl (gw_mem 1381 (by decide +kernel) rfl), nC_X8, kM_X8_usesOperand, by decide +kernel⟩
theorem mL_X8_319 : ML RX8 319 yX8_isAnyHung cX8_isAnyHung 5 (some .boolean) 2 := ⟨Or.inl (gw_mem 1411 (by decide +kernel) rfl), nC_X8, kM_X8_isAnyHung, by decide +kernel⟩
theorem mL_X8_323 : ML RX8 323 yX8_ends cX8_ends 6 none 1 := ⟨Or.inl (gw_mem 1419 (by decide +kernel) rfl), nC_X8, kM_X8_ends, by decide +kernel⟩
theorem mL_X8_326 : ML RX8 326 yX8_isHung cX8_isHung 3 (some .boolean) 2 := ⟨Or.inl (gw_mem 1415 (by decide +kernel) rfl), nC_X8, kM_X8_isHung, by decide +kernel⟩
theorem mL_X8_331 : ML RX8 331 yX8_wayOf cX8_wayOf 4 (some .int) 2 := ⟨Or.inl (gw_mem 1428 (by decide +kernel) rfl), nC_X8, kM_X8_wayOf, by decide +kernel⟩
theorem mL_X8_334 : ML RX8 334 yX8_onAllFrom cX8_onAllFrom 2 (some .long) 1 := ⟨Or.inl (gw_mem 1432 (by decide +kernel) rfl), nC_X8, kM_X8_onAllFrom, by decide +kernel⟩
theorem mL_X8_338 : ML RX8 338 yX8_decides cX8_decides 3 (some .boolean) 1 := ⟨Or.inl (gw_mem 1436 (by decide +kernel) rfl), nC_X8, kM_X8_decides, by decide +kernel⟩
theorem mL_X8_341 : ML RX8 341 yX8_isInSet cX8_isInSet 2 (some .boolean) 1 := ⟨Or.inl (gw_mem 1452 (by decide +kernel) rfl), nC_X8, kM_X8_isInSet, by decide +kernel⟩
theorem mL_X8_347 : ML RX8 347 yX8_reach cX8_reach 2 none 1 := ⟨Or.inl (gw_mem 1448 (by decide +kernel) rfl), nC_X8, kM_X8_reach, by decide +kernel⟩
theorem mL_X8_350 : ML RX8 350 yX8_isCall cX8_isCall 2 (some .boolean) 1 := ⟨Or.inl (gw_mem 1460 (by decide +kernel) rfl), nC_X8, kM_X8_isCall, by decide +kernel⟩
theorem mL_X8_353 : ML RX8 353 yX8_goesUp cX8_goesUp 4 none 2 := ⟨Or.inl (gw_mem 1464 (by decide +kernel) rfl), nC_X8, kM_X8_goesUp, by decide +kernel⟩
theorem mL_X8_356 : ML RX8 356 yX8_empties cX8_empties 2 none 0 := ⟨Or.inl (gw_mem 1444 (by decide +kernel) rfl), nC_X8, kM_X8_empties, by decide +kernel⟩
theorem mL_X8_359 : ML RX8 359 yX8_goes cX8_goes 7 none 2 := ⟨Or.inl (gw_mem 1456 (by decide +kernel) rfl), nC_X8, kM_X8_goes, by decide +kernel⟩
theorem mL_X8_363 : ML RX8 363 yX8_laysValues cX8_laysValues 4 none 0 := ⟨Or.inl (gw_mem 1374 (by decide +kernel) rfl), nC_X8, kM_X8_laysValues, by decide +kernel⟩
theorem mL_X8_366 : ML RX8 366 yX8_laysWay cX8_laysWay 6 none 0 := ⟨Or.inl (gw_mem 1423 (by decide +kernel) rfl), nC_X8, kM_X8_laysWay, by decide +kernel⟩
theorem mL_X8_369 : ML RX8 369 yX8_laysThrough cX8_laysThrough 5 none 0 := ⟨Or.inl (gw_mem 1440 (by decide +kernel) rfl), nC_X8, kM_X8_laysThrough, by decide +kernel⟩
theorem mL_X8_372 : ML RX8 372 yX8_reachAll cX8_reachAll 3 none 1 := ⟨Or.inl (gw_mem 1468 (by decide +kernel) rfl), nC_X8, kM_X8_reachAll, by decide +kernel⟩
theorem mL_X8_375 : ML RX8 375 yX8_goesBack cX8_goesBack 2 none 0 := ⟨Or.inl (gw_mem 1472 (by decide +kernel) rfl), nC_X8, kM_X8_goesBack, by decide +kernel⟩
theorem mL_X8_378 : ML RX8 378 yX8_inSet cX8_inSet 5 (some .long) 0 := ⟨Or.inl (gw_mem 1476 (by decide +kernel) rfl), nC_X8, kM_X8_inSet, by decide +kernel⟩
theorem mL_X8_382 : ML RX8 382 yX8_calls cX8_calls 3 (some .int) 0 := ⟨Or.inl (gw_mem 1488 (by decide +kernel) rfl), nC_X8, kM_X8_calls, by decide +kernel⟩
theorem mL_X8_385 : ML RX8 385 yX8_may cX8_may 4 (some .int) 1 := ⟨Or.inl (gw_mem 1492 (by decide +kernel) rfl), nC_X8, kM_X8_may, by decide +kernel⟩
theorem mL_X8_389 : ML RX8 389 yX8_isStatement cX8_isStatement 2 (some .boolean) 1 := ⟨Or.inl (gw_mem 1500 (by decide +kernel) rfl), nC_X8, kM_X8_isStatement, by decide +kernel⟩
theorem mL_X8_392 : ML RX8 392 yX8_catcher cX8_catcher 5 (some .int) 1 := ⟨Or.inl (gw_mem 1504 (by decide +kernel) rfl), nC_X8, kM_X8_catcher, by decide +kernel⟩
theorem mL_X8_395 : ML RX8 395 yX8_isProcedure cX8_isProcedure 2 (some .boolean) 1 := ⟨Or.inl (gw_mem 1516 (by decide +kernel) rfl), nC_X8, kM_X8_isProcedure, by decide +kernel⟩
theorem mL_X8_398 : ML RX8 398 yX8_forthOf cX8_forthOf 5 (some .long) 1 := ⟨Or.inl (gw_mem 1532 (by decide +kernel) rfl), nC_X8, kM_X8_forthOf, by decide +kernel⟩
theorem mL_X8_401 : ML RX8 401 yX8_isKept cX8_isKept 2 (some .boolean) 1 := ⟨Or.inl (gw_mem 1560 (by decide +kernel) rfl), nC_X8, kM_X8_isKept, by decide +kernel⟩
theorem mL_X8_404 : ML RX8 404 yX8_isAnyKept cX8_isAnyKept 3 (some .boolean) 1 := ⟨Or.inl (gw_mem 1564 (by decide +kernel) rfl), nC_X8, kM_X8_isAnyKept, by decide +kernel⟩
theorem mL_X8_407 : ML RX8 407 yX8_joins cX8_joins 2 none 0 := ⟨Or.inl (gw_mem 1552 (by decide +kernel) rfl), nC_X8, kM_X8_joins, by decide +kernel⟩
theorem mL_X8_410 : ML RX8 410 yX8_isWanted cX8_isWanted 3 (some .boolean) 2 := ⟨Or.inl (gw_mem 1556 (by decide +kernel) rfl), nC_X8, kM_X8_isWanted, by decide +kernel⟩
theorem mL_X8_413 : ML RX8 413 yX8_keptFor cX8_keptFor 6 (some .long) 1 := ⟨Or.inl (gw_mem 1548 (by decide +kernel) rfl), nC_X8, kM_X8_keptFor, by decide +kernel⟩
theorem mL_X8_416 : ML RX8 416 yX8_number cX8_number 3 (some .int) 2 := ⟨Or.inl (gw_mem 1596 (by decide +kernel) rfl), nC_X8, kM_X8_number, by decide +kernel⟩
theorem mL_X8_421 : ML RX8 421 yX8_tries cX8_tries 4 (some .int) 2 := ⟨Or.inl (gw_mem 1584 (by decide +kernel) rfl), nC_X8, kM_X8_tries, by decide +kernel⟩
theorem mL_X8_428 : ML RX8 428 yX8_does cX8_does 6 (some .int) 2 := ⟨Or.inl (gw_mem 1588 (by decide +kernel) rfl), nC_X8, kM_X8_does, by decide +kernel⟩
theorem mL_X8_431 : ML RX8 431 yX8_goesBlock cX8_goesBlock 5 (some .int) 2 := ⟨Or.inl (gw_mem 1580 (by decide +kernel) rfl), nC_X8, kM_X8_goesBlock, by decide +kernel⟩
theorem mL_X8_440 : ML RX8 440 yX8_number_ cX8_number_ 4 (some .int) 3 := ⟨Or.inl (gw_mem 1592 (by decide +kernel) rfl), nC_X8, kM_X8_number_, by decide +kernel⟩
theorem mL_X8_442 : ML RX8 442 yX8_worked cX8_worked 3 (some .int) 3 := ⟨Or.inl (gw_mem 1600 (by decide +kernel) rfl), nC_X8, kM_X8_worked, by decide +kernel⟩
theorem mL_X8_445 : ML RX8 445 yX8_tellsName cX8_tellsName 4 none 3 := ⟨Or.inl (gw_mem 1603 (by decide +kernel) rfl), nC_X8, kM_X8_tellsName, by decide +kernel⟩
theorem mL_X8_448 : ML RX8 448 yX8_sees cX8_sees 3 none 2 := ⟨Or.inl (gw_mem 1607 (by decide +kernel) rfl), nC_X8, kM_X8_sees, by decide +kernel⟩
theorem mL_X8_451 : ML RX8 451 yX8_calls_ cX8_calls_ 6 (some .int) 4 := ⟨Or.inl (gw_mem 1611 (by decide +kernel) rfl), nC_X8, kM_X8_calls_, by decide +kernel⟩
theorem mL_X8_454 : ML RX8 454 yX8_loops cX8_loops 5 (some .int) 2 := ⟨Or.inl (gw_mem 1615 (by decide +kernel) rfl), nC_X8, kM_X8_loops, by decide +kernel⟩
theorem mL_X8_457 : ML RX8 457 yX8_procedure cX8_procedure 6 (some .int) 4 := ⟨Or.inl (gw_mem 1576 (by decide +kernel) rfl), nC_X8, kM_X8_procedure, by decide +kernel⟩
theorem mL_X8_462 : ML RX8 462 yX8_runs cX8_runs 6 (some .int) 3 := ⟨Or.inl (gw_mem 1572 (by decide +kernel) rfl), nC_X8, kM_X8_runs, by decide +kernel⟩
theorem oI : Cond.instanceMethod objectInit ∈ gw := gw_mem 183 (by decide +kernel) rfl
theorem oK : Cond.code objectInit ⟨#[0xb1]⟩ 1 none ∈ gw := gw_mem 184 (by decide +kernel) rfl
theorem aC_boolean : Cond.arrayClass .boolean ∈ gw := gw_mem 377 (by decide +kernel) rfl
theorem aC_byte : Cond.arrayClass .byte ∈ gw := gw_mem 307 (by decide +kernel) rfl
theorem aC_int : Cond.arrayClass .int ∈ gw := gw_mem 308 (by decide +kernel) rfl
theorem aC_long : Cond.arrayClass .long ∈ gw := gw_mem 448 (by decide +kernel) rfl
end
section
section GO4
variable {l : Launch} {own : String} {cc : ByteArray} {nL : Nat} {R : Room} {nm : String} {rt : Option FieldType} {n0 mc ms : Nat} {Xf : Nat → State → Prop} {Qf : Option Value → HP → Prop} {sl pc : Nat} {lv : List (Nat × Value)} {st : List Value} {h : HP}
theorem go_topi {x y : Int32} (e : x = y) (k : Go l own cc nL R nm rt n0 mc ms Xf Qf sl pc lv (.int y :: st) h) : Go l own cc nL R nm rt n0 mc ms Xf Qf sl pc lv (.int x :: st) h := by
  subst e; exact k
theorem go_topl {x y : Int64} (e : x = y) (k : Go l own cc nL R nm rt n0 mc ms Xf Qf sl pc lv (.long y :: st) h) : Go l own cc nL R nm rt n0 mc ms Xf Qf sl pc lv (.long x :: st) h := by
  subst e; exact k
theorem go_iincv {q : Nat} {n : Int} {x y : Int32} (hq : q < nL) (hv : g_lv lv q = some (.int x)) (he : x + Int32.ofInt n = y) (hd : decode cc pc = .ok (.iinc q n, 3)) (k : Go l own cc nL R nm rt n0 mc ms Xf Qf sl (pc + 3) (g_s1 lv q (.int y)) st h) : Go l own cc nL R nm rt n0 mc ms Xf Qf sl pc lv st h := by
  subst he; exact go_iinc hq hv hd k
end GO4
def hpE : HP := ([], fun _ _ => 0, fun _ _ => 0, fun _ _ => .null)
theorem g_sh {h : HP} {S : List (Nat × Nat)} {c : Nat} {sh : Nat × Nat} (hs : h.1 = S) (hc : S[c]? = some sh) : h.1[c]? = some sh := by rw [hs]; exact hc
end
section
theorem dX0_init_0 : decode cX0_init 0 = .ok (.aload_n 0, 1) := by decide +kernel
theorem dX0_init_1 : decode cX0_init 1 = .ok (.invokespecial 3, 3) := by decide +kernel
theorem dX0_init_4 : decode cX0_init 4 = .ok (.aload_n 0, 1) := by decide +kernel
theorem dX0_init_5 : decode cX0_init 5 = .ok (.iconst 0, 1) := by decide +kernel
theorem dX0_init_6 : decode cX0_init 6 = .ok (.putfield 9, 3) := by decide +kernel
theorem dX0_init_9 : decode cX0_init 9 = .ok (.aload_n 0, 1) := by decide +kernel
theorem dX0_init_10 : decode cX0_init 10 = .ok (.iconst 0, 1) := by decide +kernel
theorem dX0_init_11 : decode cX0_init 11 = .ok (.putfield 15, 3) := by decide +kernel
theorem dX0_init_14 : decode cX0_init 14 = .ok (.aload_n 0, 1) := by decide +kernel
theorem dX0_init_15 : decode cX0_init 15 = .ok (.lconst 0, 1) := by decide +kernel
theorem dX0_init_16 : decode cX0_init 16 = .ok (.putfield 18, 3) := by decide +kernel
theorem dX0_init_19 : decode cX0_init 19 = .ok (.aload_n 0, 1) := by decide +kernel
theorem dX0_init_20 : decode cX0_init 20 = .ok (.iconst 0, 1) := by decide +kernel
theorem dX0_init_21 : decode cX0_init 21 = .ok (.putfield 22, 3) := by decide +kernel
theorem dX0_init_24 : decode cX0_init 24 = .ok (.aload_n 0, 1) := by decide +kernel
theorem dX0_init_25 : decode cX0_init 25 = .ok (.iconst 0, 1) := by decide +kernel
theorem dX0_init_26 : decode cX0_init 26 = .ok (.putfield 25, 3) := by decide +kernel
theorem dX0_init_29 : decode cX0_init 29 = .ok (.aload_n 0, 1) := by decide +kernel
theorem dX0_init_30 : decode cX0_init 30 = .ok (.iconst 5, 1) := by decide +kernel
theorem dX0_init_31 : decode cX0_init 31 = .ok (.newarray .int, 2) := by decide +kernel
theorem dX0_init_33 : decode cX0_init 33 = .ok (.putfield 28, 3) := by decide +kernel
theorem dX0_init_36 : decode cX0_init 36 = .ok (.aload_n 0, 1) := by decide +kernel
theorem dX0_init_37 : decode cX0_init 37 = .ok (.bipush 40, 2) := by decide +kernel
theorem dX0_init_39 : decode cX0_init 39 = .ok (.newarray .int, 2) := by decide +kernel
theorem dX0_init_41 : decode cX0_init 41 = .ok (.putfield 32, 3) := by decide +kernel
theorem dX0_init_44 : decode cX0_init 44 = .ok (.aload_n 0, 1) := by decide +kernel
theorem dX0_init_45 : decode cX0_init 45 = .ok (.bipush 40, 2) := by decide +kernel
theorem dX0_init_47 : decode cX0_init 47 = .ok (.newarray .int, 2) := by decide +kernel
theorem dX0_init_49 : decode cX0_init 49 = .ok (.putfield 35, 3) := by decide +kernel
theorem dX0_init_52 : decode cX0_init 52 = .ok (.aload_n 0, 1) := by decide +kernel
theorem dX0_init_53 : decode cX0_init 53 = .ok (.bipush 40, 2) := by decide +kernel
theorem dX0_init_55 : decode cX0_init 55 = .ok (.newarray .int, 2) := by decide +kernel
theorem dX0_init_57 : decode cX0_init 57 = .ok (.putfield 38, 3) := by decide +kernel
theorem dX0_init_60 : decode cX0_init 60 = .ok (.aload_n 0, 1) := by decide +kernel
theorem dX0_init_61 : decode cX0_init 61 = .ok (.bipush 40, 2) := by decide +kernel
theorem dX0_init_63 : decode cX0_init 63 = .ok (.newarray .int, 2) := by decide +kernel
theorem dX0_init_65 : decode cX0_init 65 = .ok (.putfield 41, 3) := by decide +kernel
theorem dX0_init_68 : decode cX0_init 68 = .ok (.aload_n 0, 1) := by decide +kernel
theorem dX0_init_69 : decode cX0_init 69 = .ok (.bipush 40, 2) := by decide +kernel
theorem dX0_init_71 : decode cX0_init 71 = .ok (.newarray .int, 2) := by decide +kernel
theorem dX0_init_73 : decode cX0_init 73 = .ok (.putfield 44, 3) := by decide +kernel
theorem dX0_init_76 : decode cX0_init 76 = .ok (.aload_n 0, 1) := by decide +kernel
theorem dX0_init_77 : decode cX0_init 77 = .ok (.bipush 40, 2) := by decide +kernel
theorem dX0_init_79 : decode cX0_init 79 = .ok (.newarray .int, 2) := by decide +kernel
theorem dX0_init_81 : decode cX0_init 81 = .ok (.putfield 47, 3) := by decide +kernel
theorem dX0_init_84 : decode cX0_init 84 = .ok (.aload_n 0, 1) := by decide +kernel
theorem dX0_init_85 : decode cX0_init 85 = .ok (.bipush 40, 2) := by decide +kernel
theorem dX0_init_87 : decode cX0_init 87 = .ok (.newarray .int, 2) := by decide +kernel
theorem dX0_init_89 : decode cX0_init 89 = .ok (.putfield 50, 3) := by decide +kernel
theorem dX0_init_92 : decode cX0_init 92 = .ok (.aload_n 0, 1) := by decide +kernel
theorem dX0_init_93 : decode cX0_init 93 = .ok (.bipush 40, 2) := by decide +kernel
theorem dX0_init_95 : decode cX0_init 95 = .ok (.newarray .int, 2) := by decide +kernel
theorem dX0_init_97 : decode cX0_init 97 = .ok (.putfield 53, 3) := by decide +kernel
theorem dX0_init_100 : decode cX0_init 100 = .ok (.aload_n 0, 1) := by decide +kernel
theorem dX0_init_101 : decode cX0_init 101 = .ok (.bipush 40, 2) := by decide +kernel
theorem dX0_init_103 : decode cX0_init 103 = .ok (.newarray .int, 2) := by decide +kernel
theorem dX0_init_105 : decode cX0_init 105 = .ok (.putfield 56, 3) := by decide +kernel
theorem dX0_init_108 : decode cX0_init 108 = .ok (.aload_n 0, 1) := by decide +kernel
theorem dX0_init_109 : decode cX0_init 109 = .ok (.bipush 40, 2) := by decide +kernel
theorem dX0_init_111 : decode cX0_init 111 = .ok (.newarray .int, 2) := by decide +kernel
theorem dX0_init_113 : decode cX0_init 113 = .ok (.putfield 59, 3) := by decide +kernel
theorem dX0_init_116 : decode cX0_init 116 = .ok (.aload_n 0, 1) := by decide +kernel
theorem dX0_init_117 : decode cX0_init 117 = .ok (.bipush 40, 2) := by decide +kernel
theorem dX0_init_119 : decode cX0_init 119 = .ok (.newarray .int, 2) := by decide +kernel
theorem dX0_init_121 : decode cX0_init 121 = .ok (.putfield 62, 3) := by decide +kernel
theorem dX0_init_124 : decode cX0_init 124 = .ok (.aload_n 0, 1) := by decide +kernel
theorem dX0_init_125 : decode cX0_init 125 = .ok (.bipush 40, 2) := by decide +kernel
theorem dX0_init_127 : decode cX0_init 127 = .ok (.newarray .int, 2) := by decide +kernel
theorem dX0_init_129 : decode cX0_init 129 = .ok (.putfield 65, 3) := by decide +kernel
theorem dX0_init_132 : decode cX0_init 132 = .ok (.aload_n 0, 1) := by decide +kernel
theorem dX0_init_133 : decode cX0_init 133 = .ok (.bipush 40, 2) := by decide +kernel
theorem dX0_init_135 : decode cX0_init 135 = .ok (.newarray .int, 2) := by decide +kernel
theorem dX0_init_137 : decode cX0_init 137 = .ok (.putfield 68, 3) := by decide +kernel
theorem dX0_init_140 : decode cX0_init 140 = .ok (.aload_n 0, 1) := by decide +kernel
theorem dX0_init_141 : decode cX0_init 141 = .ok (.bipush 40, 2) := by decide +kernel
theorem dX0_init_143 : decode cX0_init 143 = .ok (.newarray .int, 2) := by decide +kernel
theorem dX0_init_145 : decode cX0_init 145 = .ok (.putfield 71, 3) := by decide +kernel
theorem dX0_init_148 : decode cX0_init 148 = .ok (.return_, 1) := by decide +kernel
theorem dX1_init_0 : decode cX1_init 0 = .ok (.aload_n 0, 1) := by decide +kernel
theorem dX1_init_1 : decode cX1_init 1 = .ok (.invokespecial 3, 3) := by decide +kernel
theorem dX1_init_4 : decode cX1_init 4 = .ok (.aload_n 0, 1) := by decide +kernel
theorem dX1_init_5 : decode cX1_init 5 = .ok (.sipush 7605, 3) := by decide +kernel
theorem dX1_init_8 : decode cX1_init 8 = .ok (.newarray .long, 2) := by decide +kernel
theorem dX1_init_10 : decode cX1_init 10 = .ok (.putfield 9, 3) := by decide +kernel
theorem dX1_init_13 : decode cX1_init 13 = .ok (.aload_n 0, 1) := by decide +kernel
theorem dX1_init_14 : decode cX1_init 14 = .ok (.bipush 40, 2) := by decide +kernel
theorem dX1_init_16 : decode cX1_init 16 = .ok (.newarray .long, 2) := by decide +kernel
theorem dX1_init_18 : decode cX1_init 18 = .ok (.putfield 15, 3) := by decide +kernel
theorem dX1_init_21 : decode cX1_init 21 = .ok (.aload_n 0, 1) := by decide +kernel
theorem dX1_init_22 : decode cX1_init 22 = .ok (.bipush 40, 2) := by decide +kernel
theorem dX1_init_24 : decode cX1_init 24 = .ok (.newarray .long, 2) := by decide +kernel
theorem dX1_init_26 : decode cX1_init 26 = .ok (.putfield 18, 3) := by decide +kernel
theorem dX1_init_29 : decode cX1_init 29 = .ok (.aload_n 0, 1) := by decide +kernel
theorem dX1_init_30 : decode cX1_init 30 = .ok (.iconst 5, 1) := by decide +kernel
theorem dX1_init_31 : decode cX1_init 31 = .ok (.newarray .long, 2) := by decide +kernel
theorem dX1_init_33 : decode cX1_init 33 = .ok (.putfield 21, 3) := by decide +kernel
theorem dX1_init_36 : decode cX1_init 36 = .ok (.aload_n 0, 1) := by decide +kernel
theorem dX1_init_37 : decode cX1_init 37 = .ok (.bipush 45, 2) := by decide +kernel
theorem dX1_init_39 : decode cX1_init 39 = .ok (.newarray .long, 2) := by decide +kernel
theorem dX1_init_41 : decode cX1_init 41 = .ok (.putfield 24, 3) := by decide +kernel
theorem dX1_init_44 : decode cX1_init 44 = .ok (.aload_n 0, 1) := by decide +kernel
theorem dX1_init_45 : decode cX1_init 45 = .ok (.bipush 45, 2) := by decide +kernel
theorem dX1_init_47 : decode cX1_init 47 = .ok (.newarray .long, 2) := by decide +kernel
theorem dX1_init_49 : decode cX1_init 49 = .ok (.putfield 27, 3) := by decide +kernel
theorem dX1_init_52 : decode cX1_init 52 = .ok (.aload_n 0, 1) := by decide +kernel
theorem dX1_init_53 : decode cX1_init 53 = .ok (.aload_n 1, 1) := by decide +kernel
theorem dX1_init_54 : decode cX1_init 54 = .ok (.putfield 30, 3) := by decide +kernel
theorem dX1_init_57 : decode cX1_init 57 = .ok (.return_, 1) := by decide +kernel
theorem dX2_init_0 : decode cX2_init 0 = .ok (.aload_n 0, 1) := by decide +kernel
theorem dX2_init_1 : decode cX2_init 1 = .ok (.invokespecial 3, 3) := by decide +kernel
theorem dX2_init_4 : decode cX2_init 4 = .ok (.aload_n 0, 1) := by decide +kernel
theorem dX2_init_5 : decode cX2_init 5 = .ok (.iconst 4, 1) := by decide +kernel
theorem dX2_init_6 : decode cX2_init 6 = .ok (.newarray .int, 2) := by decide +kernel
theorem dX2_init_8 : decode cX2_init 8 = .ok (.putfield 9, 3) := by decide +kernel
theorem dX2_init_11 : decode cX2_init 11 = .ok (.aload_n 0, 1) := by decide +kernel
theorem dX2_init_12 : decode cX2_init 12 = .ok (.sipush 186, 3) := by decide +kernel
theorem dX2_init_15 : decode cX2_init 15 = .ok (.newarray .int, 2) := by decide +kernel
theorem dX2_init_17 : decode cX2_init 17 = .ok (.putfield 15, 3) := by decide +kernel
theorem dX2_init_20 : decode cX2_init 20 = .ok (.aload_n 0, 1) := by decide +kernel
theorem dX2_init_21 : decode cX2_init 21 = .ok (.bipush 31, 2) := by decide +kernel
theorem dX2_init_23 : decode cX2_init 23 = .ok (.newarray .int, 2) := by decide +kernel
theorem dX2_init_25 : decode cX2_init 25 = .ok (.putfield 18, 3) := by decide +kernel
theorem dX2_init_28 : decode cX2_init 28 = .ok (.aload_n 0, 1) := by decide +kernel
theorem dX2_init_29 : decode cX2_init 29 = .ok (.iconst 0, 1) := by decide +kernel
theorem dX2_init_30 : decode cX2_init 30 = .ok (.putfield 21, 3) := by decide +kernel
theorem dX2_init_33 : decode cX2_init 33 = .ok (.aload_n 0, 1) := by decide +kernel
theorem dX2_init_34 : decode cX2_init 34 = .ok (.iconst 0, 1) := by decide +kernel
theorem dX2_init_35 : decode cX2_init 35 = .ok (.putfield 25, 3) := by decide +kernel
theorem dX2_init_38 : decode cX2_init 38 = .ok (.aload_n 0, 1) := by decide +kernel
theorem dX2_init_39 : decode cX2_init 39 = .ok (.iconst 0, 1) := by decide +kernel
theorem dX2_init_40 : decode cX2_init 40 = .ok (.putfield 28, 3) := by decide +kernel
theorem dX2_init_43 : decode cX2_init 43 = .ok (.aload_n 0, 1) := by decide +kernel
theorem dX2_init_44 : decode cX2_init 44 = .ok (.iconst (-1), 1) := by decide +kernel
theorem dX2_init_45 : decode cX2_init 45 = .ok (.putfield 31, 3) := by decide +kernel
theorem dX2_init_48 : decode cX2_init 48 = .ok (.aload_n 0, 1) := by decide +kernel
theorem dX2_init_49 : decode cX2_init 49 = .ok (.iconst 0, 1) := by decide +kernel
theorem dX2_init_50 : decode cX2_init 50 = .ok (.putfield 34, 3) := by decide +kernel
theorem dX2_init_53 : decode cX2_init 53 = .ok (.aload_n 0, 1) := by decide +kernel
theorem dX2_init_54 : decode cX2_init 54 = .ok (.sipush 500, 3) := by decide +kernel
theorem dX2_init_57 : decode cX2_init 57 = .ok (.newarray .int, 2) := by decide +kernel
theorem dX2_init_59 : decode cX2_init 59 = .ok (.putfield 37, 3) := by decide +kernel
theorem dX2_init_62 : decode cX2_init 62 = .ok (.aload_n 0, 1) := by decide +kernel
theorem dX2_init_63 : decode cX2_init 63 = .ok (.sipush 500, 3) := by decide +kernel
theorem dX2_init_66 : decode cX2_init 66 = .ok (.newarray .int, 2) := by decide +kernel
theorem dX2_init_68 : decode cX2_init 68 = .ok (.putfield 40, 3) := by decide +kernel
theorem dX2_init_71 : decode cX2_init 71 = .ok (.aload_n 0, 1) := by decide +kernel
theorem dX2_init_72 : decode cX2_init 72 = .ok (.iconst 0, 1) := by decide +kernel
theorem dX2_init_73 : decode cX2_init 73 = .ok (.putfield 43, 3) := by decide +kernel
theorem dX2_init_76 : decode cX2_init 76 = .ok (.aload_n 0, 1) := by decide +kernel
theorem dX2_init_77 : decode cX2_init 77 = .ok (.lconst 0, 1) := by decide +kernel
theorem dX2_init_78 : decode cX2_init 78 = .ok (.putfield 46, 3) := by decide +kernel
theorem dX2_init_81 : decode cX2_init 81 = .ok (.aload_n 0, 1) := by decide +kernel
theorem dX2_init_82 : decode cX2_init 82 = .ok (.aload_n 1, 1) := by decide +kernel
theorem dX2_init_83 : decode cX2_init 83 = .ok (.putfield 50, 3) := by decide +kernel
theorem dX2_init_86 : decode cX2_init 86 = .ok (.return_, 1) := by decide +kernel
theorem dX3_init_0 : decode cX3_init 0 = .ok (.aload_n 0, 1) := by decide +kernel
theorem dX3_init_1 : decode cX3_init 1 = .ok (.invokespecial 3, 3) := by decide +kernel
theorem dX3_init_4 : decode cX3_init 4 = .ok (.aload_n 0, 1) := by decide +kernel
theorem dX3_init_5 : decode cX3_init 5 = .ok (.iconst 0, 1) := by decide +kernel
theorem dX3_init_6 : decode cX3_init 6 = .ok (.newarray .byte, 2) := by decide +kernel
theorem dX3_init_8 : decode cX3_init 8 = .ok (.putfield 9, 3) := by decide +kernel
theorem dX3_init_11 : decode cX3_init 11 = .ok (.aload_n 0, 1) := by decide +kernel
theorem dX3_init_12 : decode cX3_init 12 = .ok (.iconst 0, 1) := by decide +kernel
theorem dX3_init_13 : decode cX3_init 13 = .ok (.putfield 15, 3) := by decide +kernel
theorem dX3_init_16 : decode cX3_init 16 = .ok (.aload_n 0, 1) := by decide +kernel
theorem dX3_init_17 : decode cX3_init 17 = .ok (.iconst 0, 1) := by decide +kernel
theorem dX3_init_18 : decode cX3_init 18 = .ok (.putfield 19, 3) := by decide +kernel
theorem dX3_init_21 : decode cX3_init 21 = .ok (.aload_n 0, 1) := by decide +kernel
theorem dX3_init_22 : decode cX3_init 22 = .ok (.iconst 0, 1) := by decide +kernel
theorem dX3_init_23 : decode cX3_init 23 = .ok (.putfield 22, 3) := by decide +kernel
theorem dX3_init_26 : decode cX3_init 26 = .ok (.aload_n 0, 1) := by decide +kernel
theorem dX3_init_27 : decode cX3_init 27 = .ok (.new 25, 3) := by decide +kernel
theorem dX3_init_30 : decode cX3_init 30 = .ok (.dup, 1) := by decide +kernel
theorem dX3_init_31 : decode cX3_init 31 = .ok (.invokespecial 27, 3) := by decide +kernel
theorem dX3_init_34 : decode cX3_init 34 = .ok (.putfield 28, 3) := by decide +kernel
theorem dX3_init_37 : decode cX3_init 37 = .ok (.aload_n 0, 1) := by decide +kernel
theorem dX3_init_38 : decode cX3_init 38 = .ok (.iconst 0, 1) := by decide +kernel
theorem dX3_init_39 : decode cX3_init 39 = .ok (.putfield 32, 3) := by decide +kernel
theorem dX3_init_42 : decode cX3_init 42 = .ok (.aload_n 0, 1) := by decide +kernel
theorem dX3_init_43 : decode cX3_init 43 = .ok (.bipush 7, 2) := by decide +kernel
theorem dX3_init_45 : decode cX3_init 45 = .ok (.newarray .int, 2) := by decide +kernel
theorem dX3_init_47 : decode cX3_init 47 = .ok (.putfield 35, 3) := by decide +kernel
theorem dX3_init_50 : decode cX3_init 50 = .ok (.aload_n 0, 1) := by decide +kernel
theorem dX3_init_51 : decode cX3_init 51 = .ok (.bipush 7, 2) := by decide +kernel
theorem dX3_init_53 : decode cX3_init 53 = .ok (.newarray .int, 2) := by decide +kernel
theorem dX3_init_55 : decode cX3_init 55 = .ok (.putfield 39, 3) := by decide +kernel
theorem dX3_init_58 : decode cX3_init 58 = .ok (.aload_n 0, 1) := by decide +kernel
theorem dX3_init_59 : decode cX3_init 59 = .ok (.bipush 7, 2) := by decide +kernel
theorem dX3_init_61 : decode cX3_init 61 = .ok (.newarray .boolean, 2) := by decide +kernel
theorem dX3_init_63 : decode cX3_init 63 = .ok (.putfield 42, 3) := by decide +kernel
theorem dX3_init_66 : decode cX3_init 66 = .ok (.aload_n 0, 1) := by decide +kernel
theorem dX3_init_67 : decode cX3_init 67 = .ok (.aload_n 1, 1) := by decide +kernel
theorem dX3_init_68 : decode cX3_init 68 = .ok (.putfield 46, 3) := by decide +kernel
theorem dX3_init_71 : decode cX3_init 71 = .ok (.aload_n 0, 1) := by decide +kernel
theorem dX3_init_72 : decode cX3_init 72 = .ok (.new 50, 3) := by decide +kernel
theorem dX3_init_75 : decode cX3_init 75 = .ok (.dup, 1) := by decide +kernel
theorem dX3_init_76 : decode cX3_init 76 = .ok (.aload_n 0, 1) := by decide +kernel
theorem dX3_init_77 : decode cX3_init 77 = .ok (.getfield 28, 3) := by decide +kernel
theorem dX3_init_80 : decode cX3_init 80 = .ok (.aload_n 1, 1) := by decide +kernel
theorem dX3_init_81 : decode cX3_init 81 = .ok (.invokespecial 52, 3) := by decide +kernel
theorem dX3_init_84 : decode cX3_init 84 = .ok (.putfield 55, 3) := by decide +kernel
theorem dX3_init_87 : decode cX3_init 87 = .ok (.return_, 1) := by decide +kernel
theorem dX4_init_0 : decode cX4_init 0 = .ok (.aload_n 0, 1) := by decide +kernel
theorem dX4_init_1 : decode cX4_init 1 = .ok (.invokespecial 3, 3) := by decide +kernel
theorem dX4_init_4 : decode cX4_init 4 = .ok (.aload_n 0, 1) := by decide +kernel
theorem dX4_init_5 : decode cX4_init 5 = .ok (.iconst 0, 1) := by decide +kernel
theorem dX4_init_6 : decode cX4_init 6 = .ok (.putfield 9, 3) := by decide +kernel
theorem dX4_init_9 : decode cX4_init 9 = .ok (.aload_n 0, 1) := by decide +kernel
theorem dX4_init_10 : decode cX4_init 10 = .ok (.iconst 5, 1) := by decide +kernel
theorem dX4_init_11 : decode cX4_init 11 = .ok (.newarray .long, 2) := by decide +kernel
theorem dX4_init_13 : decode cX4_init 13 = .ok (.putfield 15, 3) := by decide +kernel
theorem dX4_init_16 : decode cX4_init 16 = .ok (.aload_n 0, 1) := by decide +kernel
theorem dX4_init_17 : decode cX4_init 17 = .ok (.bipush 30, 2) := by decide +kernel
theorem dX4_init_19 : decode cX4_init 19 = .ok (.newarray .int, 2) := by decide +kernel
theorem dX4_init_21 : decode cX4_init 21 = .ok (.putfield 19, 3) := by decide +kernel
theorem dX4_init_24 : decode cX4_init 24 = .ok (.aload_n 0, 1) := by decide +kernel
theorem dX4_init_25 : decode cX4_init 25 = .ok (.bipush 13, 2) := by decide +kernel
theorem dX4_init_27 : decode cX4_init 27 = .ok (.newarray .long, 2) := by decide +kernel
theorem dX4_init_29 : decode cX4_init 29 = .ok (.putfield 23, 3) := by decide +kernel
theorem dX4_init_32 : decode cX4_init 32 = .ok (.aload_n 0, 1) := by decide +kernel
theorem dX4_init_33 : decode cX4_init 33 = .ok (.bipush 13, 2) := by decide +kernel
theorem dX4_init_35 : decode cX4_init 35 = .ok (.newarray .long, 2) := by decide +kernel
theorem dX4_init_37 : decode cX4_init 37 = .ok (.putfield 26, 3) := by decide +kernel
theorem dX4_init_40 : decode cX4_init 40 = .ok (.aload_n 0, 1) := by decide +kernel
theorem dX4_init_41 : decode cX4_init 41 = .ok (.sipush 585, 3) := by decide +kernel
theorem dX4_init_44 : decode cX4_init 44 = .ok (.newarray .int, 2) := by decide +kernel
theorem dX4_init_46 : decode cX4_init 46 = .ok (.putfield 29, 3) := by decide +kernel
theorem dX4_init_49 : decode cX4_init 49 = .ok (.aload_n 0, 1) := by decide +kernel
theorem dX4_init_50 : decode cX4_init 50 = .ok (.iconst 0, 1) := by decide +kernel
theorem dX4_init_51 : decode cX4_init 51 = .ok (.putfield 32, 3) := by decide +kernel
theorem dX4_init_54 : decode cX4_init 54 = .ok (.aload_n 0, 1) := by decide +kernel
theorem dX4_init_55 : decode cX4_init 55 = .ok (.bipush 40, 2) := by decide +kernel
theorem dX4_init_57 : decode cX4_init 57 = .ok (.newarray .long, 2) := by decide +kernel
theorem dX4_init_59 : decode cX4_init 59 = .ok (.putfield 36, 3) := by decide +kernel
theorem dX4_init_62 : decode cX4_init 62 = .ok (.aload_n 0, 1) := by decide +kernel
theorem dX4_init_63 : decode cX4_init 63 = .ok (.lconst 0, 1) := by decide +kernel
theorem dX4_init_64 : decode cX4_init 64 = .ok (.putfield 39, 3) := by decide +kernel
theorem dX4_init_67 : decode cX4_init 67 = .ok (.aload_n 0, 1) := by decide +kernel
theorem dX4_init_68 : decode cX4_init 68 = .ok (.bipush 40, 2) := by decide +kernel
theorem dX4_init_70 : decode cX4_init 70 = .ok (.newarray .long, 2) := by decide +kernel
theorem dX4_init_72 : decode cX4_init 72 = .ok (.putfield 43, 3) := by decide +kernel
theorem dX4_init_75 : decode cX4_init 75 = .ok (.aload_n 0, 1) := by decide +kernel
theorem dX4_init_76 : decode cX4_init 76 = .ok (.lconst 0, 1) := by decide +kernel
theorem dX4_init_77 : decode cX4_init 77 = .ok (.putfield 46, 3) := by decide +kernel
theorem dX4_init_80 : decode cX4_init 80 = .ok (.aload_n 0, 1) := by decide +kernel
theorem dX4_init_81 : decode cX4_init 81 = .ok (.new 49, 3) := by decide +kernel
theorem dX4_init_84 : decode cX4_init 84 = .ok (.dup, 1) := by decide +kernel
theorem dX4_init_85 : decode cX4_init 85 = .ok (.aload_n 1, 1) := by decide +kernel
theorem dX4_init_86 : decode cX4_init 86 = .ok (.invokespecial 51, 3) := by decide +kernel
theorem dX4_init_89 : decode cX4_init 89 = .ok (.putfield 54, 3) := by decide +kernel
theorem dX4_init_92 : decode cX4_init 92 = .ok (.aload_n 0, 1) := by decide +kernel
theorem dX4_init_93 : decode cX4_init 93 = .ok (.aload_n 1, 1) := by decide +kernel
theorem dX4_init_94 : decode cX4_init 94 = .ok (.putfield 58, 3) := by decide +kernel
theorem dX4_init_97 : decode cX4_init 97 = .ok (.return_, 1) := by decide +kernel
theorem dX5_init_0 : decode cX5_init 0 = .ok (.aload_n 0, 1) := by decide +kernel
theorem dX5_init_1 : decode cX5_init 1 = .ok (.invokespecial 3, 3) := by decide +kernel
theorem dX5_init_4 : decode cX5_init 4 = .ok (.aload_n 0, 1) := by decide +kernel
theorem dX5_init_5 : decode cX5_init 5 = .ok (.iconst 0, 1) := by decide +kernel
theorem dX5_init_6 : decode cX5_init 6 = .ok (.putfield 9, 3) := by decide +kernel
theorem dX5_init_9 : decode cX5_init 9 = .ok (.aload_n 0, 1) := by decide +kernel
theorem dX5_init_10 : decode cX5_init 10 = .ok (.sipush 128, 3) := by decide +kernel
theorem dX5_init_13 : decode cX5_init 13 = .ok (.newarray .int, 2) := by decide +kernel
theorem dX5_init_15 : decode cX5_init 15 = .ok (.putfield 15, 3) := by decide +kernel
theorem dX5_init_18 : decode cX5_init 18 = .ok (.aload_n 0, 1) := by decide +kernel
theorem dX5_init_19 : decode cX5_init 19 = .ok (.sipush 128, 3) := by decide +kernel
theorem dX5_init_22 : decode cX5_init 22 = .ok (.newarray .int, 2) := by decide +kernel
theorem dX5_init_24 : decode cX5_init 24 = .ok (.putfield 19, 3) := by decide +kernel
theorem dX5_init_27 : decode cX5_init 27 = .ok (.aload_n 0, 1) := by decide +kernel
theorem dX5_init_28 : decode cX5_init 28 = .ok (.sipush 128, 3) := by decide +kernel
theorem dX5_init_31 : decode cX5_init 31 = .ok (.newarray .int, 2) := by decide +kernel
theorem dX5_init_33 : decode cX5_init 33 = .ok (.putfield 22, 3) := by decide +kernel
theorem dX5_init_36 : decode cX5_init 36 = .ok (.aload_n 0, 1) := by decide +kernel
theorem dX5_init_37 : decode cX5_init 37 = .ok (.sipush 128, 3) := by decide +kernel
theorem dX5_init_40 : decode cX5_init 40 = .ok (.newarray .int, 2) := by decide +kernel
theorem dX5_init_42 : decode cX5_init 42 = .ok (.putfield 25, 3) := by decide +kernel
theorem dX5_init_45 : decode cX5_init 45 = .ok (.aload_n 0, 1) := by decide +kernel
theorem dX5_init_46 : decode cX5_init 46 = .ok (.sipush 128, 3) := by decide +kernel
theorem dX5_init_49 : decode cX5_init 49 = .ok (.newarray .int, 2) := by decide +kernel
theorem dX5_init_51 : decode cX5_init 51 = .ok (.putfield 28, 3) := by decide +kernel
theorem dX5_init_54 : decode cX5_init 54 = .ok (.aload_n 0, 1) := by decide +kernel
theorem dX5_init_55 : decode cX5_init 55 = .ok (.sipush 128, 3) := by decide +kernel
theorem dX5_init_58 : decode cX5_init 58 = .ok (.newarray .int, 2) := by decide +kernel
theorem dX5_init_60 : decode cX5_init 60 = .ok (.putfield 31, 3) := by decide +kernel
theorem dX5_init_63 : decode cX5_init 63 = .ok (.aload_n 0, 1) := by decide +kernel
theorem dX5_init_64 : decode cX5_init 64 = .ok (.sipush 128, 3) := by decide +kernel
theorem dX5_init_67 : decode cX5_init 67 = .ok (.newarray .int, 2) := by decide +kernel
theorem dX5_init_69 : decode cX5_init 69 = .ok (.putfield 34, 3) := by decide +kernel
theorem dX5_init_72 : decode cX5_init 72 = .ok (.aload_n 0, 1) := by decide +kernel
theorem dX5_init_73 : decode cX5_init 73 = .ok (.iconst 5, 1) := by decide +kernel
theorem dX5_init_74 : decode cX5_init 74 = .ok (.newarray .int, 2) := by decide +kernel
theorem dX5_init_76 : decode cX5_init 76 = .ok (.putfield 37, 3) := by decide +kernel
theorem dX5_init_79 : decode cX5_init 79 = .ok (.return_, 1) := by decide +kernel
theorem dX6_init_0 : decode cX6_init 0 = .ok (.aload_n 0, 1) := by decide +kernel
theorem dX6_init_1 : decode cX6_init 1 = .ok (.invokespecial 3, 3) := by decide +kernel
theorem dX6_init_4 : decode cX6_init 4 = .ok (.aload_n 0, 1) := by decide +kernel
theorem dX6_init_5 : decode cX6_init 5 = .ok (.aload_n 1, 1) := by decide +kernel
theorem dX6_init_6 : decode cX6_init 6 = .ok (.putfield 9, 3) := by decide +kernel
theorem dX6_init_9 : decode cX6_init 9 = .ok (.aload_n 0, 1) := by decide +kernel
theorem dX6_init_10 : decode cX6_init 10 = .ok (.aload_n 2, 1) := by decide +kernel
theorem dX6_init_11 : decode cX6_init 11 = .ok (.putfield 15, 3) := by decide +kernel
theorem dX6_init_14 : decode cX6_init 14 = .ok (.return_, 1) := by decide +kernel
theorem dX7_init_0 : decode cX7_init 0 = .ok (.aload_n 0, 1) := by decide +kernel
theorem dX7_init_1 : decode cX7_init 1 = .ok (.invokespecial 3, 3) := by decide +kernel
theorem dX7_init_4 : decode cX7_init 4 = .ok (.aload_n 0, 1) := by decide +kernel
theorem dX7_init_5 : decode cX7_init 5 = .ok (.sipush 500, 3) := by decide +kernel
theorem dX7_init_8 : decode cX7_init 8 = .ok (.newarray .byte, 2) := by decide +kernel
theorem dX7_init_10 : decode cX7_init 10 = .ok (.putfield 9, 3) := by decide +kernel
theorem dX7_init_13 : decode cX7_init 13 = .ok (.aload_n 0, 1) := by decide +kernel
theorem dX7_init_14 : decode cX7_init 14 = .ok (.iconst 0, 1) := by decide +kernel
theorem dX7_init_15 : decode cX7_init 15 = .ok (.putfield 13, 3) := by decide +kernel
theorem dX7_init_18 : decode cX7_init 18 = .ok (.aload_n 0, 1) := by decide +kernel
theorem dX7_init_19 : decode cX7_init 19 = .ok (.iconst 0, 1) := by decide +kernel
theorem dX7_init_20 : decode cX7_init 20 = .ok (.putfield 17, 3) := by decide +kernel
theorem dX7_init_23 : decode cX7_init 23 = .ok (.aload_n 0, 1) := by decide +kernel
theorem dX7_init_24 : decode cX7_init 24 = .ok (.new 20, 3) := by decide +kernel
theorem dX7_init_27 : decode cX7_init 27 = .ok (.dup, 1) := by decide +kernel
theorem dX7_init_28 : decode cX7_init 28 = .ok (.invokespecial 22, 3) := by decide +kernel
theorem dX7_init_31 : decode cX7_init 31 = .ok (.putfield 23, 3) := by decide +kernel
theorem dX7_init_34 : decode cX7_init 34 = .ok (.aload_n 0, 1) := by decide +kernel
theorem dX7_init_35 : decode cX7_init 35 = .ok (.new 20, 3) := by decide +kernel
theorem dX7_init_38 : decode cX7_init 38 = .ok (.dup, 1) := by decide +kernel
theorem dX7_init_39 : decode cX7_init 39 = .ok (.invokespecial 22, 3) := by decide +kernel
theorem dX7_init_42 : decode cX7_init 42 = .ok (.putfield 27, 3) := by decide +kernel
theorem dX7_init_45 : decode cX7_init 45 = .ok (.aload_n 0, 1) := by decide +kernel
theorem dX7_init_46 : decode cX7_init 46 = .ok (.new 30, 3) := by decide +kernel
theorem dX7_init_49 : decode cX7_init 49 = .ok (.dup, 1) := by decide +kernel
theorem dX7_init_50 : decode cX7_init 50 = .ok (.aload_n 0, 1) := by decide +kernel
theorem dX7_init_51 : decode cX7_init 51 = .ok (.getfield 27, 3) := by decide +kernel
theorem dX7_init_54 : decode cX7_init 54 = .ok (.invokespecial 32, 3) := by decide +kernel
theorem dX7_init_57 : decode cX7_init 57 = .ok (.putfield 35, 3) := by decide +kernel
theorem dX7_init_60 : decode cX7_init 60 = .ok (.aload_n 0, 1) := by decide +kernel
theorem dX7_init_61 : decode cX7_init 61 = .ok (.new 39, 3) := by decide +kernel
theorem dX7_init_64 : decode cX7_init 64 = .ok (.dup, 1) := by decide +kernel
theorem dX7_init_65 : decode cX7_init 65 = .ok (.aload_n 0, 1) := by decide +kernel
theorem dX7_init_66 : decode cX7_init 66 = .ok (.getfield 23, 3) := by decide +kernel
theorem dX7_init_69 : decode cX7_init 69 = .ok (.invokespecial 41, 3) := by decide +kernel
theorem dX7_init_72 : decode cX7_init 72 = .ok (.putfield 42, 3) := by decide +kernel
theorem dX7_init_75 : decode cX7_init 75 = .ok (.aload_n 0, 1) := by decide +kernel
theorem dX7_init_76 : decode cX7_init 76 = .ok (.new 46, 3) := by decide +kernel
theorem dX7_init_79 : decode cX7_init 79 = .ok (.dup, 1) := by decide +kernel
theorem dX7_init_80 : decode cX7_init 80 = .ok (.aload_n 0, 1) := by decide +kernel
theorem dX7_init_81 : decode cX7_init 81 = .ok (.getfield 23, 3) := by decide +kernel
theorem dX7_init_84 : decode cX7_init 84 = .ok (.invokespecial 48, 3) := by decide +kernel
theorem dX7_init_87 : decode cX7_init 87 = .ok (.putfield 49, 3) := by decide +kernel
theorem dX7_init_90 : decode cX7_init 90 = .ok (.return_, 1) := by decide +kernel
theorem dX8_init_0 : decode cX8_init 0 = .ok (.aload_n 0, 1) := by decide +kernel
theorem dX8_init_1 : decode cX8_init 1 = .ok (.invokespecial 1, 3) := by decide +kernel
theorem dX8_init_4 : decode cX8_init 4 = .ok (.aload_n 0, 1) := by decide +kernel
theorem dX8_init_5 : decode cX8_init 5 = .ok (.sipush 500, 3) := by decide +kernel
theorem dX8_init_8 : decode cX8_init 8 = .ok (.newarray .byte, 2) := by decide +kernel
theorem dX8_init_10 : decode cX8_init 10 = .ok (.putfield 7, 3) := by decide +kernel
theorem dX8_init_13 : decode cX8_init 13 = .ok (.aload_n 0, 1) := by decide +kernel
theorem dX8_init_14 : decode cX8_init 14 = .ok (.sipush 500, 3) := by decide +kernel
theorem dX8_init_17 : decode cX8_init 17 = .ok (.newarray .byte, 2) := by decide +kernel
theorem dX8_init_19 : decode cX8_init 19 = .ok (.putfield 13, 3) := by decide +kernel
theorem dX8_init_22 : decode cX8_init 22 = .ok (.aload_n 0, 1) := by decide +kernel
theorem dX8_init_23 : decode cX8_init 23 = .ok (.iconst 2, 1) := by decide +kernel
theorem dX8_init_24 : decode cX8_init 24 = .ok (.newarray .int, 2) := by decide +kernel
theorem dX8_init_26 : decode cX8_init 26 = .ok (.putfield 16, 3) := by decide +kernel
theorem dX8_init_29 : decode cX8_init 29 = .ok (.aload_n 0, 1) := by decide +kernel
theorem dX8_init_30 : decode cX8_init 30 = .ok (.iconst 2, 1) := by decide +kernel
theorem dX8_init_31 : decode cX8_init 31 = .ok (.newarray .int, 2) := by decide +kernel
theorem dX8_init_33 : decode cX8_init 33 = .ok (.putfield 20, 3) := by decide +kernel
theorem dX8_init_36 : decode cX8_init 36 = .ok (.aload_n 0, 1) := by decide +kernel
theorem dX8_init_37 : decode cX8_init 37 = .ok (.iconst 2, 1) := by decide +kernel
theorem dX8_init_38 : decode cX8_init 38 = .ok (.newarray .int, 2) := by decide +kernel
theorem dX8_init_40 : decode cX8_init 40 = .ok (.putfield 23, 3) := by decide +kernel
theorem dX8_init_43 : decode cX8_init 43 = .ok (.aload_n 0, 1) := by decide +kernel
theorem dX8_init_44 : decode cX8_init 44 = .ok (.iconst 2, 1) := by decide +kernel
theorem dX8_init_45 : decode cX8_init 45 = .ok (.newarray .int, 2) := by decide +kernel
theorem dX8_init_47 : decode cX8_init 47 = .ok (.putfield 26, 3) := by decide +kernel
theorem dX8_init_50 : decode cX8_init 50 = .ok (.aload_n 0, 1) := by decide +kernel
theorem dX8_init_51 : decode cX8_init 51 = .ok (.sipush 260, 3) := by decide +kernel
theorem dX8_init_54 : decode cX8_init 54 = .ok (.newarray .int, 2) := by decide +kernel
theorem dX8_init_56 : decode cX8_init 56 = .ok (.putfield 29, 3) := by decide +kernel
theorem dX8_init_59 : decode cX8_init 59 = .ok (.aload_n 0, 1) := by decide +kernel
theorem dX8_init_60 : decode cX8_init 60 = .ok (.sipush 260, 3) := by decide +kernel
theorem dX8_init_63 : decode cX8_init 63 = .ok (.newarray .int, 2) := by decide +kernel
theorem dX8_init_65 : decode cX8_init 65 = .ok (.putfield 32, 3) := by decide +kernel
theorem dX8_init_68 : decode cX8_init 68 = .ok (.aload_n 0, 1) := by decide +kernel
theorem dX8_init_69 : decode cX8_init 69 = .ok (.sipush 260, 3) := by decide +kernel
theorem dX8_init_72 : decode cX8_init 72 = .ok (.newarray .int, 2) := by decide +kernel
theorem dX8_init_74 : decode cX8_init 74 = .ok (.putfield 35, 3) := by decide +kernel
theorem dX8_init_77 : decode cX8_init 77 = .ok (.aload_n 0, 1) := by decide +kernel
theorem dX8_init_78 : decode cX8_init 78 = .ok (.sipush 260, 3) := by decide +kernel
theorem dX8_init_81 : decode cX8_init 81 = .ok (.newarray .int, 2) := by decide +kernel
theorem dX8_init_83 : decode cX8_init 83 = .ok (.putfield 38, 3) := by decide +kernel
theorem dX8_init_86 : decode cX8_init 86 = .ok (.aload_n 0, 1) := by decide +kernel
theorem dX8_init_87 : decode cX8_init 87 = .ok (.sipush 260, 3) := by decide +kernel
theorem dX8_init_90 : decode cX8_init 90 = .ok (.newarray .int, 2) := by decide +kernel
theorem dX8_init_92 : decode cX8_init 92 = .ok (.putfield 41, 3) := by decide +kernel
theorem dX8_init_95 : decode cX8_init 95 = .ok (.aload_n 0, 1) := by decide +kernel
theorem dX8_init_96 : decode cX8_init 96 = .ok (.sipush 260, 3) := by decide +kernel
theorem dX8_init_99 : decode cX8_init 99 = .ok (.newarray .int, 2) := by decide +kernel
theorem dX8_init_101 : decode cX8_init 101 = .ok (.putfield 44, 3) := by decide +kernel
theorem dX8_init_104 : decode cX8_init 104 = .ok (.aload_n 0, 1) := by decide +kernel
theorem dX8_init_105 : decode cX8_init 105 = .ok (.sipush 260, 3) := by decide +kernel
theorem dX8_init_108 : decode cX8_init 108 = .ok (.newarray .int, 2) := by decide +kernel
theorem dX8_init_110 : decode cX8_init 110 = .ok (.putfield 47, 3) := by decide +kernel
theorem dX8_init_113 : decode cX8_init 113 = .ok (.aload_n 0, 1) := by decide +kernel
theorem dX8_init_114 : decode cX8_init 114 = .ok (.sipush 260, 3) := by decide +kernel
theorem dX8_init_117 : decode cX8_init 117 = .ok (.newarray .int, 2) := by decide +kernel
theorem dX8_init_119 : decode cX8_init 119 = .ok (.putfield 50, 3) := by decide +kernel
theorem dX8_init_122 : decode cX8_init 122 = .ok (.aload_n 0, 1) := by decide +kernel
theorem dX8_init_123 : decode cX8_init 123 = .ok (.sipush 260, 3) := by decide +kernel
theorem dX8_init_126 : decode cX8_init 126 = .ok (.newarray .int, 2) := by decide +kernel
theorem dX8_init_128 : decode cX8_init 128 = .ok (.putfield 53, 3) := by decide +kernel
theorem dX8_init_131 : decode cX8_init 131 = .ok (.aload_n 0, 1) := by decide +kernel
theorem dX8_init_132 : decode cX8_init 132 = .ok (.sipush 260, 3) := by decide +kernel
theorem dX8_init_135 : decode cX8_init 135 = .ok (.newarray .int, 2) := by decide +kernel
theorem dX8_init_137 : decode cX8_init 137 = .ok (.putfield 56, 3) := by decide +kernel
theorem dX8_init_140 : decode cX8_init 140 = .ok (.aload_n 0, 1) := by decide +kernel
theorem dX8_init_141 : decode cX8_init 141 = .ok (.sipush 260, 3) := by decide +kernel
theorem dX8_init_144 : decode cX8_init 144 = .ok (.newarray .int, 2) := by decide +kernel
theorem dX8_init_146 : decode cX8_init 146 = .ok (.putfield 59, 3) := by decide +kernel
theorem dX8_init_149 : decode cX8_init 149 = .ok (.aload_n 0, 1) := by decide +kernel
theorem dX8_init_150 : decode cX8_init 150 = .ok (.sipush 260, 3) := by decide +kernel
theorem dX8_init_153 : decode cX8_init 153 = .ok (.newarray .int, 2) := by decide +kernel
theorem dX8_init_155 : decode cX8_init 155 = .ok (.putfield 62, 3) := by decide +kernel
theorem dX8_init_158 : decode cX8_init 158 = .ok (.aload_n 0, 1) := by decide +kernel
theorem dX8_init_159 : decode cX8_init 159 = .ok (.sipush 520, 3) := by decide +kernel
theorem dX8_init_162 : decode cX8_init 162 = .ok (.newarray .int, 2) := by decide +kernel
theorem dX8_init_164 : decode cX8_init 164 = .ok (.putfield 65, 3) := by decide +kernel
theorem dX8_init_167 : decode cX8_init 167 = .ok (.aload_n 0, 1) := by decide +kernel
theorem dX8_init_168 : decode cX8_init 168 = .ok (.sipush 560, 3) := by decide +kernel
theorem dX8_init_171 : decode cX8_init 171 = .ok (.newarray .int, 2) := by decide +kernel
theorem dX8_init_173 : decode cX8_init 173 = .ok (.putfield 68, 3) := by decide +kernel
theorem dX8_init_176 : decode cX8_init 176 = .ok (.aload_n 0, 1) := by decide +kernel
theorem dX8_init_177 : decode cX8_init 177 = .ok (.sipush 560, 3) := by decide +kernel
theorem dX8_init_180 : decode cX8_init 180 = .ok (.newarray .int, 2) := by decide +kernel
theorem dX8_init_182 : decode cX8_init 182 = .ok (.putfield 71, 3) := by decide +kernel
theorem dX8_init_185 : decode cX8_init 185 = .ok (.aload_n 0, 1) := by decide +kernel
theorem dX8_init_186 : decode cX8_init 186 = .ok (.sipush 560, 3) := by decide +kernel
theorem dX8_init_189 : decode cX8_init 189 = .ok (.newarray .int, 2) := by decide +kernel
theorem dX8_init_191 : decode cX8_init 191 = .ok (.putfield 74, 3) := by decide +kernel
theorem dX8_init_194 : decode cX8_init 194 = .ok (.aload_n 0, 1) := by decide +kernel
theorem dX8_init_195 : decode cX8_init 195 = .ok (.bipush 80, 2) := by decide +kernel
theorem dX8_init_197 : decode cX8_init 197 = .ok (.newarray .int, 2) := by decide +kernel
theorem dX8_init_199 : decode cX8_init 199 = .ok (.putfield 77, 3) := by decide +kernel
theorem dX8_init_202 : decode cX8_init 202 = .ok (.aload_n 0, 1) := by decide +kernel
theorem dX8_init_203 : decode cX8_init 203 = .ok (.bipush 10, 2) := by decide +kernel
theorem dX8_init_205 : decode cX8_init 205 = .ok (.newarray .int, 2) := by decide +kernel
theorem dX8_init_207 : decode cX8_init 207 = .ok (.putfield 80, 3) := by decide +kernel
theorem dX8_init_210 : decode cX8_init 210 = .ok (.aload_n 0, 1) := by decide +kernel
theorem dX8_init_211 : decode cX8_init 211 = .ok (.bipush 80, 2) := by decide +kernel
theorem dX8_init_213 : decode cX8_init 213 = .ok (.newarray .int, 2) := by decide +kernel
theorem dX8_init_215 : decode cX8_init 215 = .ok (.putfield 83, 3) := by decide +kernel
theorem dX8_init_218 : decode cX8_init 218 = .ok (.aload_n 0, 1) := by decide +kernel
theorem dX8_init_219 : decode cX8_init 219 = .ok (.bipush 80, 2) := by decide +kernel
theorem dX8_init_221 : decode cX8_init 221 = .ok (.newarray .int, 2) := by decide +kernel
theorem dX8_init_223 : decode cX8_init 223 = .ok (.putfield 86, 3) := by decide +kernel
theorem dX8_init_226 : decode cX8_init 226 = .ok (.aload_n 0, 1) := by decide +kernel
theorem dX8_init_227 : decode cX8_init 227 = .ok (.bipush 80, 2) := by decide +kernel
theorem dX8_init_229 : decode cX8_init 229 = .ok (.newarray .int, 2) := by decide +kernel
theorem dX8_init_231 : decode cX8_init 231 = .ok (.putfield 89, 3) := by decide +kernel
theorem dX8_init_234 : decode cX8_init 234 = .ok (.aload_n 0, 1) := by decide +kernel
theorem dX8_init_235 : decode cX8_init 235 = .ok (.bipush 80, 2) := by decide +kernel
theorem dX8_init_237 : decode cX8_init 237 = .ok (.newarray .int, 2) := by decide +kernel
theorem dX8_init_239 : decode cX8_init 239 = .ok (.putfield 92, 3) := by decide +kernel
theorem dX8_init_242 : decode cX8_init 242 = .ok (.aload_n 0, 1) := by decide +kernel
theorem dX8_init_243 : decode cX8_init 243 = .ok (.bipush 80, 2) := by decide +kernel
theorem dX8_init_245 : decode cX8_init 245 = .ok (.newarray .int, 2) := by decide +kernel
theorem dX8_init_247 : decode cX8_init 247 = .ok (.putfield 95, 3) := by decide +kernel
theorem dX8_init_250 : decode cX8_init 250 = .ok (.aload_n 0, 1) := by decide +kernel
theorem dX8_init_251 : decode cX8_init 251 = .ok (.bipush 10, 2) := by decide +kernel
theorem dX8_init_253 : decode cX8_init 253 = .ok (.newarray .int, 2) := by decide +kernel
theorem dX8_init_255 : decode cX8_init 255 = .ok (.putfield 98, 3) := by decide +kernel
theorem dX8_init_258 : decode cX8_init 258 = .ok (.aload_n 0, 1) := by decide +kernel
theorem dX8_init_259 : decode cX8_init 259 = .ok (.bipush 10, 2) := by decide +kernel
theorem dX8_init_261 : decode cX8_init 261 = .ok (.newarray .boolean, 2) := by decide +kernel
theorem dX8_init_263 : decode cX8_init 263 = .ok (.putfield 101, 3) := by decide +kernel
theorem dX8_init_266 : decode cX8_init 266 = .ok (.aload_n 0, 1) := by decide +kernel
theorem dX8_init_267 : decode cX8_init 267 = .ok (.bipush 10, 2) := by decide +kernel
theorem dX8_init_269 : decode cX8_init 269 = .ok (.newarray .boolean, 2) := by decide +kernel
theorem dX8_init_271 : decode cX8_init 271 = .ok (.putfield 105, 3) := by decide +kernel
theorem dX8_init_274 : decode cX8_init 274 = .ok (.aload_n 0, 1) := by decide +kernel
theorem dX8_init_275 : decode cX8_init 275 = .ok (.sipush 11115, 3) := by decide +kernel
theorem dX8_init_278 : decode cX8_init 278 = .ok (.newarray .int, 2) := by decide +kernel
theorem dX8_init_280 : decode cX8_init 280 = .ok (.putfield 108, 3) := by decide +kernel
theorem dX8_init_283 : decode cX8_init 283 = .ok (.aload_n 0, 1) := by decide +kernel
theorem dX8_init_284 : decode cX8_init 284 = .ok (.bipush 40, 2) := by decide +kernel
theorem dX8_init_286 : decode cX8_init 286 = .ok (.newarray .long, 2) := by decide +kernel
theorem dX8_init_288 : decode cX8_init 288 = .ok (.putfield 111, 3) := by decide +kernel
theorem dX8_init_291 : decode cX8_init 291 = .ok (.aload_n 0, 1) := by decide +kernel
theorem dX8_init_292 : decode cX8_init 292 = .ok (.bipush 40, 2) := by decide +kernel
theorem dX8_init_294 : decode cX8_init 294 = .ok (.newarray .long, 2) := by decide +kernel
theorem dX8_init_296 : decode cX8_init 296 = .ok (.putfield 115, 3) := by decide +kernel
theorem dX8_init_299 : decode cX8_init 299 = .ok (.aload_n 0, 1) := by decide +kernel
theorem dX8_init_300 : decode cX8_init 300 = .ok (.bipush 40, 2) := by decide +kernel
theorem dX8_init_302 : decode cX8_init 302 = .ok (.newarray .long, 2) := by decide +kernel
theorem dX8_init_304 : decode cX8_init 304 = .ok (.putfield 118, 3) := by decide +kernel
theorem dX8_init_307 : decode cX8_init 307 = .ok (.aload_n 0, 1) := by decide +kernel
theorem dX8_init_308 : decode cX8_init 308 = .ok (.iconst 5, 1) := by decide +kernel
theorem dX8_init_309 : decode cX8_init 309 = .ok (.newarray .long, 2) := by decide +kernel
theorem dX8_init_311 : decode cX8_init 311 = .ok (.putfield 121, 3) := by decide +kernel
theorem dX8_init_314 : decode cX8_init 314 = .ok (.aload_n 0, 1) := by decide +kernel
theorem dX8_init_315 : decode cX8_init 315 = .ok (.bipush 30, 2) := by decide +kernel
theorem dX8_init_317 : decode cX8_init 317 = .ok (.newarray .int, 2) := by decide +kernel
theorem dX8_init_319 : decode cX8_init 319 = .ok (.putfield 124, 3) := by decide +kernel
theorem dX8_init_322 : decode cX8_init 322 = .ok (.aload_n 0, 1) := by decide +kernel
theorem dX8_init_323 : decode cX8_init 323 = .ok (.bipush 19, 2) := by decide +kernel
theorem dX8_init_325 : decode cX8_init 325 = .ok (.newarray .int, 2) := by decide +kernel
theorem dX8_init_327 : decode cX8_init 327 = .ok (.putfield 127, 3) := by decide +kernel
theorem dX8_init_330 : decode cX8_init 330 = .ok (.aload_n 0, 1) := by decide +kernel
theorem dX8_init_331 : decode cX8_init 331 = .ok (.sipush 585, 3) := by decide +kernel
theorem dX8_init_334 : decode cX8_init 334 = .ok (.newarray .int, 2) := by decide +kernel
theorem dX8_init_336 : decode cX8_init 336 = .ok (.putfield 130, 3) := by decide +kernel
theorem dX8_init_339 : decode cX8_init 339 = .ok (.aload_n 0, 1) := by decide +kernel
theorem dX8_init_340 : decode cX8_init 340 = .ok (.bipush 40, 2) := by decide +kernel
theorem dX8_init_342 : decode cX8_init 342 = .ok (.newarray .long, 2) := by decide +kernel
theorem dX8_init_344 : decode cX8_init 344 = .ok (.putfield 133, 3) := by decide +kernel
theorem dX8_init_347 : decode cX8_init 347 = .ok (.aload_n 0, 1) := by decide +kernel
theorem dX8_init_348 : decode cX8_init 348 = .ok (.bipush 19, 2) := by decide +kernel
theorem dX8_init_350 : decode cX8_init 350 = .ok (.newarray .int, 2) := by decide +kernel
theorem dX8_init_352 : decode cX8_init 352 = .ok (.putfield 136, 3) := by decide +kernel
theorem dX8_init_355 : decode cX8_init 355 = .ok (.aload_n 0, 1) := by decide +kernel
theorem dX8_init_356 : decode cX8_init 356 = .ok (.iconst 4, 1) := by decide +kernel
theorem dX8_init_357 : decode cX8_init 357 = .ok (.newarray .int, 2) := by decide +kernel
theorem dX8_init_359 : decode cX8_init 359 = .ok (.putfield 139, 3) := by decide +kernel
theorem dX8_init_362 : decode cX8_init 362 = .ok (.aload_n 0, 1) := by decide +kernel
theorem dX8_init_363 : decode cX8_init 363 = .ok (.sipush 192, 3) := by decide +kernel
theorem dX8_init_366 : decode cX8_init 366 = .ok (.newarray .int, 2) := by decide +kernel
theorem dX8_init_368 : decode cX8_init 368 = .ok (.putfield 142, 3) := by decide +kernel
theorem dX8_init_371 : decode cX8_init 371 = .ok (.aload_n 0, 1) := by decide +kernel
theorem dX8_init_372 : decode cX8_init 372 = .ok (.sipush 500, 3) := by decide +kernel
theorem dX8_init_375 : decode cX8_init 375 = .ok (.newarray .int, 2) := by decide +kernel
theorem dX8_init_377 : decode cX8_init 377 = .ok (.putfield 145, 3) := by decide +kernel
theorem dX8_init_380 : decode cX8_init 380 = .ok (.aload_n 0, 1) := by decide +kernel
theorem dX8_init_381 : decode cX8_init 381 = .ok (.sipush 500, 3) := by decide +kernel
theorem dX8_init_384 : decode cX8_init 384 = .ok (.newarray .int, 2) := by decide +kernel
theorem dX8_init_386 : decode cX8_init 386 = .ok (.putfield 148, 3) := by decide +kernel
theorem dX8_init_389 : decode cX8_init 389 = .ok (.return_, 1) := by decide +kernel
end
section
def hz1 : HP := hR (hN (hR (hN (hR (hN (hR (hN (hR (hN (hR (hN (hR (hN (hR (hN (hR (hN (hR (hN (hR (hN (hR (hN (hR (hN (hR (hN (hR (hN (hI (hI (hL (hI (hI (hN (hI (hI (hR (hN (hN hpE 7 8) 9 500) 0 0 (.ref 1)) 0 1 0) 0 2 0) 0 20) 2 0 0) 2 1 0) 2 2 0) 2 3 0) 2 4 0) 10 5) 2 5 (.ref 3)) 10 40) 2 6 (.ref 4)) 10 40) 2 7 (.ref 5)) 10 40) 2 8 (.ref 6)) 10 40) 2 9 (.ref 7)) 10 40) 2 10 (.ref 8)) 10 40) 2 11 (.ref 9)) 10 40) 2 12 (.ref 10)) 10 40) 2 13 (.ref 11)) 10 40) 2 14 (.ref 12)) 10 40) 2 15 (.ref 13)) 10 40) 2 16 (.ref 14)) 10 40) 2 17 (.ref 15)) 10 40) 2 18 (.ref 16)) 10 40) 2 19 (.ref 17)
set_option maxHeartbeats 4000000 in
set_option maxRecDepth 100000 in
theorem k1_X0_init (l : Launch) : Mt l yX0_init cX0_init 1 none 1 [.ref 2] (hN (hI (hI (hR (hN (hN hpE 7 8) 9 500) 0 0 (.ref 1)) 0 1 0) 0 2 0) 0 20) 15 565 (fun r h' => r = none ∧ h' = hz1) := by
  refine Mt_of (by decide) (Nat.le_of_ble_eq_true rfl) ?_
  show Go l RX0 cX0_init 1 (g_rm 1 15 565) "<init>" none 3 15 565 _ _ 0 0 [(0, .ref 2)] [] (hN (hI (hI (hR (hN (hN hpE 7 8) 9 500) 0 0 (.ref 1)) 0 1 0) 0 2 0) 0 20)
  refine go_aload_n (pc := 0) rfl dX0_init_0 ?_
  refine go_objInit (pc := 1) oL_X0_3 oI oK (Nat.le_of_ble_eq_true rfl) (Nat.le_of_ble_eq_true rfl) (Nat.le_of_ble_eq_true rfl) dX0_init_1 ?_
  refine go_aload_n (pc := 4) rfl dX0_init_4 ?_
  refine go_iconst (pc := 5) (v := 0) (by decide) dX0_init_5 ?_
  refine go_putI (pc := 6) (fP_X0_9 _) rfl (Nat.le_of_ble_eq_true rfl) rfl (fun _ => rfl) (fun _ => rfl) dX0_init_6 ?_
  refine go_aload_n (pc := 9) rfl dX0_init_9 ?_
  refine go_iconst (pc := 10) (v := 0) (by decide) dX0_init_10 ?_
  refine go_putI (pc := 11) (fP_X0_15 _) rfl (Nat.le_of_ble_eq_true rfl) rfl (fun _ => rfl) (fun _ => rfl) dX0_init_11 ?_
  refine go_aload_n (pc := 14) rfl dX0_init_14 ?_
  refine go_lconst (pc := 15) (v := 0) (by decide) dX0_init_15 ?_
  refine go_putL (pc := 16) (fP_X0_18 _) rfl (Nat.le_of_ble_eq_true rfl) rfl (fun _ => rfl) (fun _ => rfl) dX0_init_16 ?_
  refine go_aload_n (pc := 19) rfl dX0_init_19 ?_
  refine go_iconst (pc := 20) (v := 0) (by decide) dX0_init_20 ?_
  refine go_putI (pc := 21) (fP_X0_22 _) rfl (Nat.le_of_ble_eq_true rfl) rfl (fun _ => rfl) (fun _ => rfl) dX0_init_21 ?_
  refine go_aload_n (pc := 24) rfl dX0_init_24 ?_
  refine go_iconst (pc := 25) (v := 0) (by decide) dX0_init_25 ?_
  refine go_putI (pc := 26) (fP_X0_25 _) rfl (Nat.le_of_ble_eq_true rfl) rfl (fun _ => rfl) (fun _ => rfl) dX0_init_26 ?_
  refine go_aload_n (pc := 29) rfl dX0_init_29 ?_
  refine go_iconst (pc := 30) (v := 5) (by decide) dX0_init_30 ?_
  refine go_newa (pc := 31) (sl := 0) (kd := 10) (len := 5) (by decide) aC_int (by decide) (by decide) (Nat.le_of_ble_eq_true rfl) (Nat.le_of_ble_eq_true rfl) (Nat.le_of_ble_eq_true rfl) dX0_init_31 ?_
  refine go_putR (pc := 33) (x := .ref 3) fP_X0_28 rfl (Nat.le_of_ble_eq_true rfl) rfl (fun _ => rfl) (fun _ => rfl) dX0_init_33 ?_
  refine go_aload_n (pc := 36) rfl dX0_init_36 ?_
  refine go_bipush (pc := 37) (v := 40) (by decide) dX0_init_37 ?_
  refine go_newa (pc := 39) (sl := 5) (kd := 10) (len := 40) (by decide) aC_int (by decide) (by decide) (Nat.le_of_ble_eq_true rfl) (Nat.le_of_ble_eq_true rfl) (Nat.le_of_ble_eq_true rfl) dX0_init_39 ?_
  refine go_putR (pc := 41) (x := .ref 4) fP_X0_32 rfl (Nat.le_of_ble_eq_true rfl) rfl (fun _ => rfl) (fun _ => rfl) dX0_init_41 ?_
  refine go_aload_n (pc := 44) rfl dX0_init_44 ?_
  refine go_bipush (pc := 45) (v := 40) (by decide) dX0_init_45 ?_
  refine go_newa (pc := 47) (sl := 45) (kd := 10) (len := 40) (by decide) aC_int (by decide) (by decide) (Nat.le_of_ble_eq_true rfl) (Nat.le_of_ble_eq_true rfl) (Nat.le_of_ble_eq_true rfl) dX0_init_47 ?_
  refine go_putR (pc := 49) (x := .ref 5) fP_X0_35 rfl (Nat.le_of_ble_eq_true rfl) rfl (fun _ => rfl) (fun _ => rfl) dX0_init_49 ?_
  refine go_aload_n (pc := 52) rfl dX0_init_52 ?_
  refine go_bipush (pc := 53) (v := 40) (by decide) dX0_init_53 ?_
  refine go_newa (pc := 55) (sl := 85) (kd := 10) (len := 40) (by decide) aC_int (by decide) (by decide) (Nat.le_of_ble_eq_true rfl) (Nat.le_of_ble_eq_true rfl) (Nat.le_of_ble_eq_true rfl) dX0_init_55 ?_
  refine go_putR (pc := 57) (x := .ref 6) fP_X0_38 rfl (Nat.le_of_ble_eq_true rfl) rfl (fun _ => rfl) (fun _ => rfl) dX0_init_57 ?_
  refine go_aload_n (pc := 60) rfl dX0_init_60 ?_
  refine go_bipush (pc := 61) (v := 40) (by decide) dX0_init_61 ?_
  refine go_newa (pc := 63) (sl := 125) (kd := 10) (len := 40) (by decide) aC_int (by decide) (by decide) (Nat.le_of_ble_eq_true rfl) (Nat.le_of_ble_eq_true rfl) (Nat.le_of_ble_eq_true rfl) dX0_init_63 ?_
  refine go_putR (pc := 65) (x := .ref 7) fP_X0_41 rfl (Nat.le_of_ble_eq_true rfl) rfl (fun _ => rfl) (fun _ => rfl) dX0_init_65 ?_
  refine go_aload_n (pc := 68) rfl dX0_init_68 ?_
  refine go_bipush (pc := 69) (v := 40) (by decide) dX0_init_69 ?_
  refine go_newa (pc := 71) (sl := 165) (kd := 10) (len := 40) (by decide) aC_int (by decide) (by decide) (Nat.le_of_ble_eq_true rfl) (Nat.le_of_ble_eq_true rfl) (Nat.le_of_ble_eq_true rfl) dX0_init_71 ?_
  refine go_putR (pc := 73) (x := .ref 8) fP_X0_44 rfl (Nat.le_of_ble_eq_true rfl) rfl (fun _ => rfl) (fun _ => rfl) dX0_init_73 ?_
  refine go_aload_n (pc := 76) rfl dX0_init_76 ?_
  refine go_bipush (pc := 77) (v := 40) (by decide) dX0_init_77 ?_
  refine go_newa (pc := 79) (sl := 205) (kd := 10) (len := 40) (by decide) aC_int (by decide) (by decide) (Nat.le_of_ble_eq_true rfl) (Nat.le_of_ble_eq_true rfl) (Nat.le_of_ble_eq_true rfl) dX0_init_79 ?_
  refine go_putR (pc := 81) (x := .ref 9) fP_X0_47 rfl (Nat.le_of_ble_eq_true rfl) rfl (fun _ => rfl) (fun _ => rfl) dX0_init_81 ?_
  refine go_aload_n (pc := 84) rfl dX0_init_84 ?_
  refine go_bipush (pc := 85) (v := 40) (by decide) dX0_init_85 ?_
  refine go_newa (pc := 87) (sl := 245) (kd := 10) (len := 40) (by decide) aC_int (by decide) (by decide) (Nat.le_of_ble_eq_true rfl) (Nat.le_of_ble_eq_true rfl) (Nat.le_of_ble_eq_true rfl) dX0_init_87 ?_
  refine go_putR (pc := 89) (x := .ref 10) fP_X0_50 rfl (Nat.le_of_ble_eq_true rfl) rfl (fun _ => rfl) (fun _ => rfl) dX0_init_89 ?_
  refine go_aload_n (pc := 92) rfl dX0_init_92 ?_
  refine go_bipush (pc := 93) (v := 40) (by decide) dX0_init_93 ?_
  refine go_newa (pc := 95) (sl := 285) (kd := 10) (len := 40) (by decide) aC_int (by decide) (by decide) (Nat.le_of_ble_eq_true rfl) (Nat.le_of_ble_eq_true rfl) (Nat.le_of_ble_eq_true rfl) dX0_init_95 ?_
  refine go_putR (pc := 97) (x := .ref 11) fP_X0_53 rfl (Nat.le_of_ble_eq_true rfl) rfl (fun _ => rfl) (fun _ => rfl) dX0_init_97 ?_
  refine go_aload_n (pc := 100) rfl dX0_init_100 ?_
  refine go_bipush (pc := 101) (v := 40) (by decide) dX0_init_101 ?_
  refine go_newa (pc := 103) (sl := 325) (kd := 10) (len := 40) (by decide) aC_int (by decide) (by decide) (Nat.le_of_ble_eq_true rfl) (Nat.le_of_ble_eq_true rfl) (Nat.le_of_ble_eq_true rfl) dX0_init_103 ?_
  refine go_putR (pc := 105) (x := .ref 12) fP_X0_56 rfl (Nat.le_of_ble_eq_true rfl) rfl (fun _ => rfl) (fun _ => rfl) dX0_init_105 ?_
  refine go_aload_n (pc := 108) rfl dX0_init_108 ?_
  refine go_bipush (pc := 109) (v := 40) (by decide) dX0_init_109 ?_
  refine go_newa (pc := 111) (sl := 365) (kd := 10) (len := 40) (by decide) aC_int (by decide) (by decide) (Nat.le_of_ble_eq_true rfl) (Nat.le_of_ble_eq_true rfl) (Nat.le_of_ble_eq_true rfl) dX0_init_111 ?_
  refine go_putR (pc := 113) (x := .ref 13) fP_X0_59 rfl (Nat.le_of_ble_eq_true rfl) rfl (fun _ => rfl) (fun _ => rfl) dX0_init_113 ?_
  refine go_aload_n (pc := 116) rfl dX0_init_116 ?_
  refine go_bipush (pc := 117) (v := 40) (by decide) dX0_init_117 ?_
  refine go_newa (pc := 119) (sl := 405) (kd := 10) (len := 40) (by decide) aC_int (by decide) (by decide) (Nat.le_of_ble_eq_true rfl) (Nat.le_of_ble_eq_true rfl) (Nat.le_of_ble_eq_true rfl) dX0_init_119 ?_
  refine go_putR (pc := 121) (x := .ref 14) fP_X0_62 rfl (Nat.le_of_ble_eq_true rfl) rfl (fun _ => rfl) (fun _ => rfl) dX0_init_121 ?_
  refine go_aload_n (pc := 124) rfl dX0_init_124 ?_
  refine go_bipush (pc := 125) (v := 40) (by decide) dX0_init_125 ?_
  refine go_newa (pc := 127) (sl := 445) (kd := 10) (len := 40) (by decide) aC_int (by decide) (by decide) (Nat.le_of_ble_eq_true rfl) (Nat.le_of_ble_eq_true rfl) (Nat.le_of_ble_eq_true rfl) dX0_init_127 ?_
  refine go_putR (pc := 129) (x := .ref 15) fP_X0_65 rfl (Nat.le_of_ble_eq_true rfl) rfl (fun _ => rfl) (fun _ => rfl) dX0_init_129 ?_
  refine go_aload_n (pc := 132) rfl dX0_init_132 ?_
  refine go_bipush (pc := 133) (v := 40) (by decide) dX0_init_133 ?_
  refine go_newa (pc := 135) (sl := 485) (kd := 10) (len := 40) (by decide) aC_int (by decide) (by decide) (Nat.le_of_ble_eq_true rfl) (Nat.le_of_ble_eq_true rfl) (Nat.le_of_ble_eq_true rfl) dX0_init_135 ?_
  refine go_putR (pc := 137) (x := .ref 16) fP_X0_68 rfl (Nat.le_of_ble_eq_true rfl) rfl (fun _ => rfl) (fun _ => rfl) dX0_init_137 ?_
  refine go_aload_n (pc := 140) rfl dX0_init_140 ?_
  refine go_bipush (pc := 141) (v := 40) (by decide) dX0_init_141 ?_
  refine go_newa (pc := 143) (sl := 525) (kd := 10) (len := 40) (by decide) aC_int (by decide) (by decide) (Nat.le_of_ble_eq_true rfl) (Nat.le_of_ble_eq_true rfl) (Nat.le_of_ble_eq_true rfl) dX0_init_143 ?_
  refine go_putR (pc := 145) (x := .ref 17) fP_X0_71 rfl (Nat.le_of_ble_eq_true rfl) rfl (fun _ => rfl) (fun _ => rfl) dX0_init_145 ?_
  exact go_vret (pc := 148) (⟨rfl, rfl⟩) rfl (Nat.le_of_ble_eq_true rfl) dX0_init_148
def hz2 : HP := hR (hN (hR (hN (hR (hN (hR (hN (hR (hN (hR (hN (hR (hN (hR (hN (hR (hN (hR (hN (hR (hN (hR (hN (hR (hN (hR (hN (hR (hN (hI (hI (hL (hI (hI (hN (hR hz1 0 3 (.ref 2)) 0 20) 18 0 0) 18 1 0) 18 2 0) 18 3 0) 18 4 0) 10 5) 18 5 (.ref 19)) 10 40) 18 6 (.ref 20)) 10 40) 18 7 (.ref 21)) 10 40) 18 8 (.ref 22)) 10 40) 18 9 (.ref 23)) 10 40) 18 10 (.ref 24)) 10 40) 18 11 (.ref 25)) 10 40) 18 12 (.ref 26)) 10 40) 18 13 (.ref 27)) 10 40) 18 14 (.ref 28)) 10 40) 18 15 (.ref 29)) 10 40) 18 16 (.ref 30)) 10 40) 18 17 (.ref 31)) 10 40) 18 18 (.ref 32)) 10 40) 18 19 (.ref 33)
set_option maxHeartbeats 4000000 in
set_option maxRecDepth 100000 in
theorem k2_X0_init (l : Launch) : Mt l yX0_init cX0_init 1 none 1 [.ref 18] (hN (hR hz1 0 3 (.ref 2)) 0 20) 15 565 (fun r h' => r = none ∧ h' = hz2) := by
  refine Mt_of (by decide) (Nat.le_of_ble_eq_true rfl) ?_
  show Go l RX0 cX0_init 1 (g_rm 1 15 565) "<init>" none 19 15 565 _ _ 0 0 [(0, .ref 18)] [] (hN (hR hz1 0 3 (.ref 2)) 0 20)
  refine go_aload_n (pc := 0) rfl dX0_init_0 ?_
  refine go_objInit (pc := 1) oL_X0_3 oI oK (Nat.le_of_ble_eq_true rfl) (Nat.le_of_ble_eq_true rfl) (Nat.le_of_ble_eq_true rfl) dX0_init_1 ?_
  refine go_aload_n (pc := 4) rfl dX0_init_4 ?_
  refine go_iconst (pc := 5) (v := 0) (by decide) dX0_init_5 ?_
  refine go_putI (pc := 6) (fP_X0_9 _) rfl (Nat.le_of_ble_eq_true rfl) rfl (fun _ => rfl) (fun _ => rfl) dX0_init_6 ?_
  refine go_aload_n (pc := 9) rfl dX0_init_9 ?_
  refine go_iconst (pc := 10) (v := 0) (by decide) dX0_init_10 ?_
  refine go_putI (pc := 11) (fP_X0_15 _) rfl (Nat.le_of_ble_eq_true rfl) rfl (fun _ => rfl) (fun _ => rfl) dX0_init_11 ?_
  refine go_aload_n (pc := 14) rfl dX0_init_14 ?_
  refine go_lconst (pc := 15) (v := 0) (by decide) dX0_init_15 ?_
  refine go_putL (pc := 16) (fP_X0_18 _) rfl (Nat.le_of_ble_eq_true rfl) rfl (fun _ => rfl) (fun _ => rfl) dX0_init_16 ?_
  refine go_aload_n (pc := 19) rfl dX0_init_19 ?_
  refine go_iconst (pc := 20) (v := 0) (by decide) dX0_init_20 ?_
  refine go_putI (pc := 21) (fP_X0_22 _) rfl (Nat.le_of_ble_eq_true rfl) rfl (fun _ => rfl) (fun _ => rfl) dX0_init_21 ?_
  refine go_aload_n (pc := 24) rfl dX0_init_24 ?_
  refine go_iconst (pc := 25) (v := 0) (by decide) dX0_init_25 ?_
  refine go_putI (pc := 26) (fP_X0_25 _) rfl (Nat.le_of_ble_eq_true rfl) rfl (fun _ => rfl) (fun _ => rfl) dX0_init_26 ?_
  refine go_aload_n (pc := 29) rfl dX0_init_29 ?_
  refine go_iconst (pc := 30) (v := 5) (by decide) dX0_init_30 ?_
  refine go_newa (pc := 31) (sl := 0) (kd := 10) (len := 5) (by decide) aC_int (by decide) (by decide) (Nat.le_of_ble_eq_true rfl) (Nat.le_of_ble_eq_true rfl) (Nat.le_of_ble_eq_true rfl) dX0_init_31 ?_
  refine go_putR (pc := 33) (x := .ref 19) fP_X0_28 rfl (Nat.le_of_ble_eq_true rfl) rfl (fun _ => rfl) (fun _ => rfl) dX0_init_33 ?_
  refine go_aload_n (pc := 36) rfl dX0_init_36 ?_
  refine go_bipush (pc := 37) (v := 40) (by decide) dX0_init_37 ?_
  refine go_newa (pc := 39) (sl := 5) (kd := 10) (len := 40) (by decide) aC_int (by decide) (by decide) (Nat.le_of_ble_eq_true rfl) (Nat.le_of_ble_eq_true rfl) (Nat.le_of_ble_eq_true rfl) dX0_init_39 ?_
  refine go_putR (pc := 41) (x := .ref 20) fP_X0_32 rfl (Nat.le_of_ble_eq_true rfl) rfl (fun _ => rfl) (fun _ => rfl) dX0_init_41 ?_
  refine go_aload_n (pc := 44) rfl dX0_init_44 ?_
  refine go_bipush (pc := 45) (v := 40) (by decide) dX0_init_45 ?_
  refine go_newa (pc := 47) (sl := 45) (kd := 10) (len := 40) (by decide) aC_int (by decide) (by decide) (Nat.le_of_ble_eq_true rfl) (Nat.le_of_ble_eq_true rfl) (Nat.le_of_ble_eq_true rfl) dX0_init_47 ?_
  refine go_putR (pc := 49) (x := .ref 21) fP_X0_35 rfl (Nat.le_of_ble_eq_true rfl) rfl (fun _ => rfl) (fun _ => rfl) dX0_init_49 ?_
  refine go_aload_n (pc := 52) rfl dX0_init_52 ?_
  refine go_bipush (pc := 53) (v := 40) (by decide) dX0_init_53 ?_
  refine go_newa (pc := 55) (sl := 85) (kd := 10) (len := 40) (by decide) aC_int (by decide) (by decide) (Nat.le_of_ble_eq_true rfl) (Nat.le_of_ble_eq_true rfl) (Nat.le_of_ble_eq_true rfl) dX0_init_55 ?_
  refine go_putR (pc := 57) (x := .ref 22) fP_X0_38 rfl (Nat.le_of_ble_eq_true rfl) rfl (fun _ => rfl) (fun _ => rfl) dX0_init_57 ?_
  refine go_aload_n (pc := 60) rfl dX0_init_60 ?_
  refine go_bipush (pc := 61) (v := 40) (by decide) dX0_init_61 ?_
  refine go_newa (pc := 63) (sl := 125) (kd := 10) (len := 40) (by decide) aC_int (by decide) (by decide) (Nat.le_of_ble_eq_true rfl) (Nat.le_of_ble_eq_true rfl) (Nat.le_of_ble_eq_true rfl) dX0_init_63 ?_
  refine go_putR (pc := 65) (x := .ref 23) fP_X0_41 rfl (Nat.le_of_ble_eq_true rfl) rfl (fun _ => rfl) (fun _ => rfl) dX0_init_65 ?_
  refine go_aload_n (pc := 68) rfl dX0_init_68 ?_
  refine go_bipush (pc := 69) (v := 40) (by decide) dX0_init_69 ?_
  refine go_newa (pc := 71) (sl := 165) (kd := 10) (len := 40) (by decide) aC_int (by decide) (by decide) (Nat.le_of_ble_eq_true rfl) (Nat.le_of_ble_eq_true rfl) (Nat.le_of_ble_eq_true rfl) dX0_init_71 ?_
  refine go_putR (pc := 73) (x := .ref 24) fP_X0_44 rfl (Nat.le_of_ble_eq_true rfl) rfl (fun _ => rfl) (fun _ => rfl) dX0_init_73 ?_
  refine go_aload_n (pc := 76) rfl dX0_init_76 ?_
  refine go_bipush (pc := 77) (v := 40) (by decide) dX0_init_77 ?_
  refine go_newa (pc := 79) (sl := 205) (kd := 10) (len := 40) (by decide) aC_int (by decide) (by decide) (Nat.le_of_ble_eq_true rfl) (Nat.le_of_ble_eq_true rfl) (Nat.le_of_ble_eq_true rfl) dX0_init_79 ?_
  refine go_putR (pc := 81) (x := .ref 25) fP_X0_47 rfl (Nat.le_of_ble_eq_true rfl) rfl (fun _ => rfl) (fun _ => rfl) dX0_init_81 ?_
  refine go_aload_n (pc := 84) rfl dX0_init_84 ?_
  refine go_bipush (pc := 85) (v := 40) (by decide) dX0_init_85 ?_
  refine go_newa (pc := 87) (sl := 245) (kd := 10) (len := 40) (by decide) aC_int (by decide) (by decide) (Nat.le_of_ble_eq_true rfl) (Nat.le_of_ble_eq_true rfl) (Nat.le_of_ble_eq_true rfl) dX0_init_87 ?_
  refine go_putR (pc := 89) (x := .ref 26) fP_X0_50 rfl (Nat.le_of_ble_eq_true rfl) rfl (fun _ => rfl) (fun _ => rfl) dX0_init_89 ?_
  refine go_aload_n (pc := 92) rfl dX0_init_92 ?_
  refine go_bipush (pc := 93) (v := 40) (by decide) dX0_init_93 ?_
  refine go_newa (pc := 95) (sl := 285) (kd := 10) (len := 40) (by decide) aC_int (by decide) (by decide) (Nat.le_of_ble_eq_true rfl) (Nat.le_of_ble_eq_true rfl) (Nat.le_of_ble_eq_true rfl) dX0_init_95 ?_
  refine go_putR (pc := 97) (x := .ref 27) fP_X0_53 rfl (Nat.le_of_ble_eq_true rfl) rfl (fun _ => rfl) (fun _ => rfl) dX0_init_97 ?_
  refine go_aload_n (pc := 100) rfl dX0_init_100 ?_
  refine go_bipush (pc := 101) (v := 40) (by decide) dX0_init_101 ?_
  refine go_newa (pc := 103) (sl := 325) (kd := 10) (len := 40) (by decide) aC_int (by decide) (by decide) (Nat.le_of_ble_eq_true rfl) (Nat.le_of_ble_eq_true rfl) (Nat.le_of_ble_eq_true rfl) dX0_init_103 ?_
  refine go_putR (pc := 105) (x := .ref 28) fP_X0_56 rfl (Nat.le_of_ble_eq_true rfl) rfl (fun _ => rfl) (fun _ => rfl) dX0_init_105 ?_
  refine go_aload_n (pc := 108) rfl dX0_init_108 ?_
  refine go_bipush (pc := 109) (v := 40) (by decide) dX0_init_109 ?_
  refine go_newa (pc := 111) (sl := 365) (kd := 10) (len := 40) (by decide) aC_int (by decide) (by decide) (Nat.le_of_ble_eq_true rfl) (Nat.le_of_ble_eq_true rfl) (Nat.le_of_ble_eq_true rfl) dX0_init_111 ?_
  refine go_putR (pc := 113) (x := .ref 29) fP_X0_59 rfl (Nat.le_of_ble_eq_true rfl) rfl (fun _ => rfl) (fun _ => rfl) dX0_init_113 ?_
  refine go_aload_n (pc := 116) rfl dX0_init_116 ?_
  refine go_bipush (pc := 117) (v := 40) (by decide) dX0_init_117 ?_
  refine go_newa (pc := 119) (sl := 405) (kd := 10) (len := 40) (by decide) aC_int (by decide) (by decide) (Nat.le_of_ble_eq_true rfl) (Nat.le_of_ble_eq_true rfl) (Nat.le_of_ble_eq_true rfl) dX0_init_119 ?_
  refine go_putR (pc := 121) (x := .ref 30) fP_X0_62 rfl (Nat.le_of_ble_eq_true rfl) rfl (fun _ => rfl) (fun _ => rfl) dX0_init_121 ?_
  refine go_aload_n (pc := 124) rfl dX0_init_124 ?_
  refine go_bipush (pc := 125) (v := 40) (by decide) dX0_init_125 ?_
  refine go_newa (pc := 127) (sl := 445) (kd := 10) (len := 40) (by decide) aC_int (by decide) (by decide) (Nat.le_of_ble_eq_true rfl) (Nat.le_of_ble_eq_true rfl) (Nat.le_of_ble_eq_true rfl) dX0_init_127 ?_
  refine go_putR (pc := 129) (x := .ref 31) fP_X0_65 rfl (Nat.le_of_ble_eq_true rfl) rfl (fun _ => rfl) (fun _ => rfl) dX0_init_129 ?_
  refine go_aload_n (pc := 132) rfl dX0_init_132 ?_
  refine go_bipush (pc := 133) (v := 40) (by decide) dX0_init_133 ?_
  refine go_newa (pc := 135) (sl := 485) (kd := 10) (len := 40) (by decide) aC_int (by decide) (by decide) (Nat.le_of_ble_eq_true rfl) (Nat.le_of_ble_eq_true rfl) (Nat.le_of_ble_eq_true rfl) dX0_init_135 ?_
  refine go_putR (pc := 137) (x := .ref 32) fP_X0_68 rfl (Nat.le_of_ble_eq_true rfl) rfl (fun _ => rfl) (fun _ => rfl) dX0_init_137 ?_
  refine go_aload_n (pc := 140) rfl dX0_init_140 ?_
  refine go_bipush (pc := 141) (v := 40) (by decide) dX0_init_141 ?_
  refine go_newa (pc := 143) (sl := 525) (kd := 10) (len := 40) (by decide) aC_int (by decide) (by decide) (Nat.le_of_ble_eq_true rfl) (Nat.le_of_ble_eq_true rfl) (Nat.le_of_ble_eq_true rfl) dX0_init_143 ?_
  refine go_putR (pc := 145) (x := .ref 33) fP_X0_71 rfl (Nat.le_of_ble_eq_true rfl) rfl (fun _ => rfl) (fun _ => rfl) dX0_init_145 ?_
  exact go_vret (pc := 148) (⟨rfl, rfl⟩) rfl (Nat.le_of_ble_eq_true rfl) dX0_init_148
def hz3 : HP := hR (hN (hR (hN (hR (hN (hR (hN (hR (hN (hR (hN (hR (hN (hR (hN (hI (hN (hI (hI (hI (hR (hN (hN (hR hz2 0 4 (.ref 18)) 3 11) 9 0) 34 0 (.ref 35)) 34 1 0) 34 2 0) 34 3 0) 5 9) 36 0 0) 10 128) 36 1 (.ref 37)) 10 128) 36 2 (.ref 38)) 10 128) 36 3 (.ref 39)) 10 128) 36 4 (.ref 40)) 10 128) 36 5 (.ref 41)) 10 128) 36 6 (.ref 42)) 10 128) 36 7 (.ref 43)) 10 5) 36 8 (.ref 44)
set_option maxHeartbeats 4000000 in
set_option maxRecDepth 100000 in
theorem k3_X5_init (l : Launch) : Mt l yX5_init cX5_init 1 none 1 [.ref 36] (hN (hI (hI (hI (hR (hN (hN (hR hz2 0 4 (.ref 18)) 3 11) 9 0) 34 0 (.ref 35)) 34 1 0) 34 2 0) 34 3 0) 5 9) 8 901 (fun r h' => r = none ∧ h' = hz3) := by
  refine Mt_of (by decide) (Nat.le_of_ble_eq_true rfl) ?_
  show Go l RX5 cX5_init 1 (g_rm 1 8 901) "<init>" none 37 8 901 _ _ 0 0 [(0, .ref 36)] [] (hN (hI (hI (hI (hR (hN (hN (hR hz2 0 4 (.ref 18)) 3 11) 9 0) 34 0 (.ref 35)) 34 1 0) 34 2 0) 34 3 0) 5 9)
  refine go_aload_n (pc := 0) rfl dX5_init_0 ?_
  refine go_objInit (pc := 1) oL_X5_3 oI oK (Nat.le_of_ble_eq_true rfl) (Nat.le_of_ble_eq_true rfl) (Nat.le_of_ble_eq_true rfl) dX5_init_1 ?_
  refine go_aload_n (pc := 4) rfl dX5_init_4 ?_
  refine go_iconst (pc := 5) (v := 0) (by decide) dX5_init_5 ?_
  refine go_putI (pc := 6) (fP_X5_9 _) rfl (Nat.le_of_ble_eq_true rfl) rfl (fun _ => rfl) (fun _ => rfl) dX5_init_6 ?_
  refine go_aload_n (pc := 9) rfl dX5_init_9 ?_
  refine go_sipush (pc := 10) (v := 128) (by decide) dX5_init_10 ?_
  refine go_newa (pc := 13) (sl := 0) (kd := 10) (len := 128) (by decide) aC_int (by decide) (by decide) (Nat.le_of_ble_eq_true rfl) (Nat.le_of_ble_eq_true rfl) (Nat.le_of_ble_eq_true rfl) dX5_init_13 ?_
  refine go_putR (pc := 15) (x := .ref 37) fP_X5_15 rfl (Nat.le_of_ble_eq_true rfl) rfl (fun _ => rfl) (fun _ => rfl) dX5_init_15 ?_
  refine go_aload_n (pc := 18) rfl dX5_init_18 ?_
  refine go_sipush (pc := 19) (v := 128) (by decide) dX5_init_19 ?_
  refine go_newa (pc := 22) (sl := 128) (kd := 10) (len := 128) (by decide) aC_int (by decide) (by decide) (Nat.le_of_ble_eq_true rfl) (Nat.le_of_ble_eq_true rfl) (Nat.le_of_ble_eq_true rfl) dX5_init_22 ?_
  refine go_putR (pc := 24) (x := .ref 38) fP_X5_19 rfl (Nat.le_of_ble_eq_true rfl) rfl (fun _ => rfl) (fun _ => rfl) dX5_init_24 ?_
  refine go_aload_n (pc := 27) rfl dX5_init_27 ?_
  refine go_sipush (pc := 28) (v := 128) (by decide) dX5_init_28 ?_
  refine go_newa (pc := 31) (sl := 256) (kd := 10) (len := 128) (by decide) aC_int (by decide) (by decide) (Nat.le_of_ble_eq_true rfl) (Nat.le_of_ble_eq_true rfl) (Nat.le_of_ble_eq_true rfl) dX5_init_31 ?_
  refine go_putR (pc := 33) (x := .ref 39) fP_X5_22 rfl (Nat.le_of_ble_eq_true rfl) rfl (fun _ => rfl) (fun _ => rfl) dX5_init_33 ?_
  refine go_aload_n (pc := 36) rfl dX5_init_36 ?_
  refine go_sipush (pc := 37) (v := 128) (by decide) dX5_init_37 ?_
  refine go_newa (pc := 40) (sl := 384) (kd := 10) (len := 128) (by decide) aC_int (by decide) (by decide) (Nat.le_of_ble_eq_true rfl) (Nat.le_of_ble_eq_true rfl) (Nat.le_of_ble_eq_true rfl) dX5_init_40 ?_
  refine go_putR (pc := 42) (x := .ref 40) fP_X5_25 rfl (Nat.le_of_ble_eq_true rfl) rfl (fun _ => rfl) (fun _ => rfl) dX5_init_42 ?_
  refine go_aload_n (pc := 45) rfl dX5_init_45 ?_
  refine go_sipush (pc := 46) (v := 128) (by decide) dX5_init_46 ?_
  refine go_newa (pc := 49) (sl := 512) (kd := 10) (len := 128) (by decide) aC_int (by decide) (by decide) (Nat.le_of_ble_eq_true rfl) (Nat.le_of_ble_eq_true rfl) (Nat.le_of_ble_eq_true rfl) dX5_init_49 ?_
  refine go_putR (pc := 51) (x := .ref 41) fP_X5_28 rfl (Nat.le_of_ble_eq_true rfl) rfl (fun _ => rfl) (fun _ => rfl) dX5_init_51 ?_
  refine go_aload_n (pc := 54) rfl dX5_init_54 ?_
  refine go_sipush (pc := 55) (v := 128) (by decide) dX5_init_55 ?_
  refine go_newa (pc := 58) (sl := 640) (kd := 10) (len := 128) (by decide) aC_int (by decide) (by decide) (Nat.le_of_ble_eq_true rfl) (Nat.le_of_ble_eq_true rfl) (Nat.le_of_ble_eq_true rfl) dX5_init_58 ?_
  refine go_putR (pc := 60) (x := .ref 42) fP_X5_31 rfl (Nat.le_of_ble_eq_true rfl) rfl (fun _ => rfl) (fun _ => rfl) dX5_init_60 ?_
  refine go_aload_n (pc := 63) rfl dX5_init_63 ?_
  refine go_sipush (pc := 64) (v := 128) (by decide) dX5_init_64 ?_
  refine go_newa (pc := 67) (sl := 768) (kd := 10) (len := 128) (by decide) aC_int (by decide) (by decide) (Nat.le_of_ble_eq_true rfl) (Nat.le_of_ble_eq_true rfl) (Nat.le_of_ble_eq_true rfl) dX5_init_67 ?_
  refine go_putR (pc := 69) (x := .ref 43) fP_X5_34 rfl (Nat.le_of_ble_eq_true rfl) rfl (fun _ => rfl) (fun _ => rfl) dX5_init_69 ?_
  refine go_aload_n (pc := 72) rfl dX5_init_72 ?_
  refine go_iconst (pc := 73) (v := 5) (by decide) dX5_init_73 ?_
  refine go_newa (pc := 74) (sl := 896) (kd := 10) (len := 5) (by decide) aC_int (by decide) (by decide) (Nat.le_of_ble_eq_true rfl) (Nat.le_of_ble_eq_true rfl) (Nat.le_of_ble_eq_true rfl) dX5_init_74 ?_
  refine go_putR (pc := 76) (x := .ref 44) fP_X5_37 rfl (Nat.le_of_ble_eq_true rfl) rfl (fun _ => rfl) (fun _ => rfl) dX5_init_76 ?_
  exact go_vret (pc := 79) (⟨rfl, rfl⟩) rfl (Nat.le_of_ble_eq_true rfl) dX5_init_79
set_option maxHeartbeats 4000000 in
set_option maxRecDepth 100000 in
theorem k4_X6_init (l : Launch) : Mt l yX6_init cX6_init 3 none 1 [.ref 48, .ref 36, .ref 18] (hN (hR (hR (hN (hR (hN (hR (hN (hI (hR hz3 34 5 (.ref 36)) 34 7 0) 10 7) 34 8 (.ref 45)) 10 7) 34 9 (.ref 46)) 12 7) 34 10 (.ref 47)) 34 4 (.ref 18)) 6 2) 0 0 (fun r h' => r = none ∧ h' = hR (hR (hN (hR (hR (hN (hR (hN (hR (hN (hI (hR hz3 34 5 (.ref 36)) 34 7 0) 10 7) 34 8 (.ref 45)) 10 7) 34 9 (.ref 46)) 12 7) 34 10 (.ref 47)) 34 4 (.ref 18)) 6 2) 48 0 (.ref 36)) 48 1 (.ref 18)) := by
  refine Mt_of (by decide) (Nat.le_of_ble_eq_true rfl) ?_
  show Go l RX6 cX6_init 3 (g_rm 1 0 0) "<init>" none 49 0 0 _ _ 0 0 [(0, .ref 48), (1, .ref 36), (2, .ref 18)] [] (hN (hR (hR (hN (hR (hN (hR (hN (hI (hR hz3 34 5 (.ref 36)) 34 7 0) 10 7) 34 8 (.ref 45)) 10 7) 34 9 (.ref 46)) 12 7) 34 10 (.ref 47)) 34 4 (.ref 18)) 6 2)
  refine go_aload_n (pc := 0) rfl dX6_init_0 ?_
  refine go_objInit (pc := 1) oL_X6_3 oI oK (Nat.le_of_ble_eq_true rfl) (Nat.le_of_ble_eq_true rfl) (Nat.le_of_ble_eq_true rfl) dX6_init_1 ?_
  refine go_aload_n (pc := 4) rfl dX6_init_4 ?_
  refine go_aload_n (pc := 5) rfl dX6_init_5 ?_
  refine go_putR (pc := 6) (x := .ref 36) fP_X6_9 rfl (Nat.le_of_ble_eq_true rfl) rfl (fun _ => rfl) (fun _ => rfl) dX6_init_6 ?_
  refine go_aload_n (pc := 9) rfl dX6_init_9 ?_
  refine go_aload_n (pc := 10) rfl dX6_init_10 ?_
  refine go_putR (pc := 11) (x := .ref 18) (fP_X6_15 _) rfl (Nat.le_of_ble_eq_true rfl) rfl (fun _ => rfl) (fun _ => rfl) dX6_init_11 ?_
  exact go_vret (pc := 14) (⟨rfl, rfl⟩) rfl (Nat.le_of_ble_eq_true rfl) dX6_init_14
def hz5 : HP := hR (hR (hR (hN (hR (hR (hN (hR (hN (hR (hN (hI (hR hz3 34 5 (.ref 36)) 34 7 0) 10 7) 34 8 (.ref 45)) 10 7) 34 9 (.ref 46)) 12 7) 34 10 (.ref 47)) 34 4 (.ref 18)) 6 2) 48 0 (.ref 36)) 48 1 (.ref 18)) 34 6 (.ref 48)
set_option maxHeartbeats 4000000 in
set_option maxRecDepth 100000 in
theorem k5_X3_init (l : Launch) : Mt l yX3_init cX3_init 2 none 2 [.ref 34, .ref 18] (hN (hR hz2 0 4 (.ref 18)) 3 11) 14 933 (fun r h' => r = none ∧ h' = hz5) := by
  refine Mt_of (by decide) (Nat.le_of_ble_eq_true rfl) ?_
  show Go l RX3 cX3_init 2 (g_rm 2 14 933) "<init>" none 35 14 933 _ _ 0 0 [(0, .ref 34), (1, .ref 18)] [] (hN (hR hz2 0 4 (.ref 18)) 3 11)
  refine go_aload_n (pc := 0) rfl dX3_init_0 ?_
  refine go_objInit (pc := 1) oL_X3_3 oI oK (Nat.le_of_ble_eq_true rfl) (Nat.le_of_ble_eq_true rfl) (Nat.le_of_ble_eq_true rfl) dX3_init_1 ?_
  refine go_aload_n (pc := 4) rfl dX3_init_4 ?_
  refine go_iconst (pc := 5) (v := 0) (by decide) dX3_init_5 ?_
  refine go_newa (pc := 6) (sl := 0) (kd := 9) (len := 0) (by decide) aC_byte (by decide) (by decide) (Nat.le_of_ble_eq_true rfl) (Nat.le_of_ble_eq_true rfl) (Nat.le_of_ble_eq_true rfl) dX3_init_6 ?_
  refine go_putR (pc := 8) (x := .ref 35) (fP_X3_9 _) rfl (Nat.le_of_ble_eq_true rfl) rfl (fun _ => rfl) (fun _ => rfl) dX3_init_8 ?_
  refine go_aload_n (pc := 11) rfl dX3_init_11 ?_
  refine go_iconst (pc := 12) (v := 0) (by decide) dX3_init_12 ?_
  refine go_putI (pc := 13) (fP_X3_15 _) rfl (Nat.le_of_ble_eq_true rfl) rfl (fun _ => rfl) (fun _ => rfl) dX3_init_13 ?_
  refine go_aload_n (pc := 16) rfl dX3_init_16 ?_
  refine go_iconst (pc := 17) (v := 0) (by decide) dX3_init_17 ?_
  refine go_putI (pc := 18) (fP_X3_19 _) rfl (Nat.le_of_ble_eq_true rfl) rfl (fun _ => rfl) (fun _ => rfl) dX3_init_18 ?_
  refine go_aload_n (pc := 21) rfl dX3_init_21 ?_
  refine go_iconst (pc := 22) (v := 0) (by decide) dX3_init_22 ?_
  refine go_putI (pc := 23) (fP_X3_22 _) rfl (Nat.le_of_ble_eq_true rfl) rfl (fun _ => rfl) (fun _ => rfl) dX3_init_23 ?_
  refine go_aload_n (pc := 26) rfl dX3_init_26 ?_
  refine go_new (pc := 27) (sl := 0) (ci := 5) rfl cL_X3_25 oC_X5 nC_X5 (Nat.le_of_ble_eq_true rfl) (Nat.le_of_ble_eq_true rfl) dX3_init_27 ?_
  refine go_dup (pc := 30) rfl dX3_init_30 ?_
  refine go_invI (pc := 31) (sl := 9) (k3_X5_init l) mL_X3_27 iM_X5_init rfl rfl rfl (Nat.le_of_ble_eq_true rfl) (Nat.le_of_ble_eq_true rfl) (Nat.le_of_ble_eq_true rfl) (Nat.le_of_ble_eq_true rfl) (Nat.le_of_ble_eq_true rfl) dX3_init_31 ?_
  intro r h' hq _
  obtain ⟨rfl, rfl⟩ := hq
  refine go_putR (pc := 34) (x := .ref 36) fP_X3_28 rfl (Nat.le_of_ble_eq_true rfl) rfl (fun _ => rfl) (fun _ => rfl) dX3_init_34 ?_
  refine go_aload_n (pc := 37) rfl dX3_init_37 ?_
  refine go_iconst (pc := 38) (v := 0) (by decide) dX3_init_38 ?_
  refine go_putI (pc := 39) (fP_X3_32 _) rfl (Nat.le_of_ble_eq_true rfl) rfl (fun _ => rfl) (fun _ => rfl) dX3_init_39 ?_
  refine go_aload_n (pc := 42) rfl dX3_init_42 ?_
  refine go_bipush (pc := 43) (v := 7) (by decide) dX3_init_43 ?_
  refine go_newa (pc := 45) (sl := 910) (kd := 10) (len := 7) (by decide) aC_int (by decide) (by decide) (Nat.le_of_ble_eq_true rfl) (Nat.le_of_ble_eq_true rfl) (Nat.le_of_ble_eq_true rfl) dX3_init_45 ?_
  refine go_putR (pc := 47) (x := .ref 45) fP_X3_35 rfl (Nat.le_of_ble_eq_true rfl) rfl (fun _ => rfl) (fun _ => rfl) dX3_init_47 ?_
  refine go_aload_n (pc := 50) rfl dX3_init_50 ?_
  refine go_bipush (pc := 51) (v := 7) (by decide) dX3_init_51 ?_
  refine go_newa (pc := 53) (sl := 917) (kd := 10) (len := 7) (by decide) aC_int (by decide) (by decide) (Nat.le_of_ble_eq_true rfl) (Nat.le_of_ble_eq_true rfl) (Nat.le_of_ble_eq_true rfl) dX3_init_53 ?_
  refine go_putR (pc := 55) (x := .ref 46) fP_X3_39 rfl (Nat.le_of_ble_eq_true rfl) rfl (fun _ => rfl) (fun _ => rfl) dX3_init_55 ?_
  refine go_aload_n (pc := 58) rfl dX3_init_58 ?_
  refine go_bipush (pc := 59) (v := 7) (by decide) dX3_init_59 ?_
  refine go_newa (pc := 61) (sl := 924) (kd := 12) (len := 7) (by decide) aC_boolean (by decide) (by decide) (Nat.le_of_ble_eq_true rfl) (Nat.le_of_ble_eq_true rfl) (Nat.le_of_ble_eq_true rfl) dX3_init_61 ?_
  refine go_putR (pc := 63) (x := .ref 47) fP_X3_42 rfl (Nat.le_of_ble_eq_true rfl) rfl (fun _ => rfl) (fun _ => rfl) dX3_init_63 ?_
  refine go_aload_n (pc := 66) rfl dX3_init_66 ?_
  refine go_aload_n (pc := 67) rfl dX3_init_67 ?_
  refine go_putR (pc := 68) (x := .ref 18) (fP_X3_46 _) rfl (Nat.le_of_ble_eq_true rfl) rfl (fun _ => rfl) (fun _ => rfl) dX3_init_68 ?_
  refine go_aload_n (pc := 71) rfl dX3_init_71 ?_
  refine go_new (pc := 72) (sl := 931) (ci := 6) rfl cL_X3_50 oC_X6 nC_X6 (Nat.le_of_ble_eq_true rfl) (Nat.le_of_ble_eq_true rfl) dX3_init_72 ?_
  refine go_dup (pc := 75) rfl dX3_init_75 ?_
  refine go_aload_n (pc := 76) rfl dX3_init_76 ?_
  refine go_getR (pc := 77) (v := .ref 36) fL_X3_28 rfl (Nat.le_of_ble_eq_true rfl) rfl rfl dX3_init_77 ?_
  refine go_aload_n (pc := 80) rfl dX3_init_80 ?_
  refine go_invI (pc := 81) (sl := 933) (k4_X6_init l) mL_X3_52 iM_X6_init rfl rfl rfl (Nat.le_of_ble_eq_true rfl) (Nat.le_of_ble_eq_true rfl) (Nat.le_of_ble_eq_true rfl) (Nat.le_of_ble_eq_true rfl) (Nat.le_of_ble_eq_true rfl) dX3_init_81 ?_
  intro r h' hq _
  obtain ⟨rfl, rfl⟩ := hq
  refine go_putR (pc := 84) (x := .ref 48) fP_X3_55 rfl (Nat.le_of_ble_eq_true rfl) rfl (fun _ => rfl) (fun _ => rfl) dX3_init_84 ?_
  exact go_vret (pc := 87) (⟨rfl, rfl⟩) rfl (Nat.le_of_ble_eq_true rfl) dX3_init_87
def hz6 : HP := hR (hR (hN (hR (hN (hR (hN (hR (hN (hR (hN (hR (hN (hN (hL (hR (hN (hL (hR (hN (hI (hR (hN (hR (hN (hR (hN (hR (hN (hR (hN (hI (hN (hR hz5 0 5 (.ref 34)) 4 13) 49 2 0) 11 5) 49 3 (.ref 50)) 10 30) 49 4 (.ref 51)) 11 13) 49 5 (.ref 52)) 11 13) 49 6 (.ref 53)) 10 585) 49 7 (.ref 54)) 49 8 0) 11 40) 49 9 (.ref 55)) 49 10 0) 11 40) 49 11 (.ref 56)) 49 12 0) 1 7) 11 7605) 57 0 (.ref 58)) 11 40) 57 1 (.ref 59)) 11 40) 57 2 (.ref 60)) 11 5) 57 3 (.ref 61)) 11 45) 57 4 (.ref 62)) 11 45) 57 5 (.ref 63)) 57 6 (.ref 2)
set_option maxHeartbeats 4000000 in
set_option maxRecDepth 100000 in
theorem k6_X1_init (l : Launch) : Mt l yX1_init cX1_init 2 none 1 [.ref 57, .ref 2] (hN (hL (hR (hN (hL (hR (hN (hI (hR (hN (hR (hN (hR (hN (hR (hN (hR (hN (hI (hN (hR hz5 0 5 (.ref 34)) 4 13) 49 2 0) 11 5) 49 3 (.ref 50)) 10 30) 49 4 (.ref 51)) 11 13) 49 5 (.ref 52)) 11 13) 49 6 (.ref 53)) 10 585) 49 7 (.ref 54)) 49 8 0) 11 40) 49 9 (.ref 55)) 49 10 0) 11 40) 49 11 (.ref 56)) 49 12 0) 1 7) 6 7780 (fun r h' => r = none ∧ h' = hz6) := by
  refine Mt_of (by decide) (Nat.le_of_ble_eq_true rfl) ?_
  show Go l RX1 cX1_init 2 (g_rm 1 6 7780) "<init>" none 58 6 7780 _ _ 0 0 [(0, .ref 57), (1, .ref 2)] [] (hN (hL (hR (hN (hL (hR (hN (hI (hR (hN (hR (hN (hR (hN (hR (hN (hR (hN (hI (hN (hR hz5 0 5 (.ref 34)) 4 13) 49 2 0) 11 5) 49 3 (.ref 50)) 10 30) 49 4 (.ref 51)) 11 13) 49 5 (.ref 52)) 11 13) 49 6 (.ref 53)) 10 585) 49 7 (.ref 54)) 49 8 0) 11 40) 49 9 (.ref 55)) 49 10 0) 11 40) 49 11 (.ref 56)) 49 12 0) 1 7)
  refine go_aload_n (pc := 0) rfl dX1_init_0 ?_
  refine go_objInit (pc := 1) oL_X1_3 oI oK (Nat.le_of_ble_eq_true rfl) (Nat.le_of_ble_eq_true rfl) (Nat.le_of_ble_eq_true rfl) dX1_init_1 ?_
  refine go_aload_n (pc := 4) rfl dX1_init_4 ?_
  refine go_sipush (pc := 5) (v := 7605) (by decide) dX1_init_5 ?_
  refine go_newa (pc := 8) (sl := 0) (kd := 11) (len := 7605) (by decide) aC_long (by decide) (by decide) (Nat.le_of_ble_eq_true rfl) (Nat.le_of_ble_eq_true rfl) (Nat.le_of_ble_eq_true rfl) dX1_init_8 ?_
  refine go_putR (pc := 10) (x := .ref 58) fP_X1_9 rfl (Nat.le_of_ble_eq_true rfl) rfl (fun _ => rfl) (fun _ => rfl) dX1_init_10 ?_
  refine go_aload_n (pc := 13) rfl dX1_init_13 ?_
  refine go_bipush (pc := 14) (v := 40) (by decide) dX1_init_14 ?_
  refine go_newa (pc := 16) (sl := 7605) (kd := 11) (len := 40) (by decide) aC_long (by decide) (by decide) (Nat.le_of_ble_eq_true rfl) (Nat.le_of_ble_eq_true rfl) (Nat.le_of_ble_eq_true rfl) dX1_init_16 ?_
  refine go_putR (pc := 18) (x := .ref 59) fP_X1_15 rfl (Nat.le_of_ble_eq_true rfl) rfl (fun _ => rfl) (fun _ => rfl) dX1_init_18 ?_
  refine go_aload_n (pc := 21) rfl dX1_init_21 ?_
  refine go_bipush (pc := 22) (v := 40) (by decide) dX1_init_22 ?_
  refine go_newa (pc := 24) (sl := 7645) (kd := 11) (len := 40) (by decide) aC_long (by decide) (by decide) (Nat.le_of_ble_eq_true rfl) (Nat.le_of_ble_eq_true rfl) (Nat.le_of_ble_eq_true rfl) dX1_init_24 ?_
  refine go_putR (pc := 26) (x := .ref 60) fP_X1_18 rfl (Nat.le_of_ble_eq_true rfl) rfl (fun _ => rfl) (fun _ => rfl) dX1_init_26 ?_
  refine go_aload_n (pc := 29) rfl dX1_init_29 ?_
  refine go_iconst (pc := 30) (v := 5) (by decide) dX1_init_30 ?_
  refine go_newa (pc := 31) (sl := 7685) (kd := 11) (len := 5) (by decide) aC_long (by decide) (by decide) (Nat.le_of_ble_eq_true rfl) (Nat.le_of_ble_eq_true rfl) (Nat.le_of_ble_eq_true rfl) dX1_init_31 ?_
  refine go_putR (pc := 33) (x := .ref 61) fP_X1_21 rfl (Nat.le_of_ble_eq_true rfl) rfl (fun _ => rfl) (fun _ => rfl) dX1_init_33 ?_
  refine go_aload_n (pc := 36) rfl dX1_init_36 ?_
  refine go_bipush (pc := 37) (v := 45) (by decide) dX1_init_37 ?_
  refine go_newa (pc := 39) (sl := 7690) (kd := 11) (len := 45) (by decide) aC_long (by decide) (by decide) (Nat.le_of_ble_eq_true rfl) (Nat.le_of_ble_eq_true rfl) (Nat.le_of_ble_eq_true rfl) dX1_init_39 ?_
  refine go_putR (pc := 41) (x := .ref 62) fP_X1_24 rfl (Nat.le_of_ble_eq_true rfl) rfl (fun _ => rfl) (fun _ => rfl) dX1_init_41 ?_
  refine go_aload_n (pc := 44) rfl dX1_init_44 ?_
  refine go_bipush (pc := 45) (v := 45) (by decide) dX1_init_45 ?_
  refine go_newa (pc := 47) (sl := 7735) (kd := 11) (len := 45) (by decide) aC_long (by decide) (by decide) (Nat.le_of_ble_eq_true rfl) (Nat.le_of_ble_eq_true rfl) (Nat.le_of_ble_eq_true rfl) dX1_init_47 ?_
  refine go_putR (pc := 49) (x := .ref 63) fP_X1_27 rfl (Nat.le_of_ble_eq_true rfl) rfl (fun _ => rfl) (fun _ => rfl) dX1_init_49 ?_
  refine go_aload_n (pc := 52) rfl dX1_init_52 ?_
  refine go_aload_n (pc := 53) rfl dX1_init_53 ?_
  refine go_putR (pc := 54) (x := .ref 2) (fP_X1_30 _) rfl (Nat.le_of_ble_eq_true rfl) rfl (fun _ => rfl) (fun _ => rfl) dX1_init_54 ?_
  exact go_vret (pc := 57) (⟨rfl, rfl⟩) rfl (Nat.le_of_ble_eq_true rfl) dX1_init_57
def hz7 : HP := hR (hR hz6 49 0 (.ref 57)) 49 1 (.ref 2)
set_option maxHeartbeats 4000000 in
set_option maxRecDepth 100000 in
theorem k7_X4_init (l : Launch) : Mt l yX4_init cX4_init 2 none 2 [.ref 49, .ref 2] (hN (hR hz5 0 5 (.ref 34)) 4 13) 14 8513 (fun r h' => r = none ∧ h' = hz7) := by
  refine Mt_of (by decide) (Nat.le_of_ble_eq_true rfl) ?_
  show Go l RX4 cX4_init 2 (g_rm 2 14 8513) "<init>" none 50 14 8513 _ _ 0 0 [(0, .ref 49), (1, .ref 2)] [] (hN (hR hz5 0 5 (.ref 34)) 4 13)
  refine go_aload_n (pc := 0) rfl dX4_init_0 ?_
  refine go_objInit (pc := 1) oL_X4_3 oI oK (Nat.le_of_ble_eq_true rfl) (Nat.le_of_ble_eq_true rfl) (Nat.le_of_ble_eq_true rfl) dX4_init_1 ?_
  refine go_aload_n (pc := 4) rfl dX4_init_4 ?_
  refine go_iconst (pc := 5) (v := 0) (by decide) dX4_init_5 ?_
  refine go_putI (pc := 6) (fP_X4_9 _) rfl (Nat.le_of_ble_eq_true rfl) rfl (fun _ => rfl) (fun _ => rfl) dX4_init_6 ?_
  refine go_aload_n (pc := 9) rfl dX4_init_9 ?_
  refine go_iconst (pc := 10) (v := 5) (by decide) dX4_init_10 ?_
  refine go_newa (pc := 11) (sl := 0) (kd := 11) (len := 5) (by decide) aC_long (by decide) (by decide) (Nat.le_of_ble_eq_true rfl) (Nat.le_of_ble_eq_true rfl) (Nat.le_of_ble_eq_true rfl) dX4_init_11 ?_
  refine go_putR (pc := 13) (x := .ref 50) fP_X4_15 rfl (Nat.le_of_ble_eq_true rfl) rfl (fun _ => rfl) (fun _ => rfl) dX4_init_13 ?_
  refine go_aload_n (pc := 16) rfl dX4_init_16 ?_
  refine go_bipush (pc := 17) (v := 30) (by decide) dX4_init_17 ?_
  refine go_newa (pc := 19) (sl := 5) (kd := 10) (len := 30) (by decide) aC_int (by decide) (by decide) (Nat.le_of_ble_eq_true rfl) (Nat.le_of_ble_eq_true rfl) (Nat.le_of_ble_eq_true rfl) dX4_init_19 ?_
  refine go_putR (pc := 21) (x := .ref 51) fP_X4_19 rfl (Nat.le_of_ble_eq_true rfl) rfl (fun _ => rfl) (fun _ => rfl) dX4_init_21 ?_
  refine go_aload_n (pc := 24) rfl dX4_init_24 ?_
  refine go_bipush (pc := 25) (v := 13) (by decide) dX4_init_25 ?_
  refine go_newa (pc := 27) (sl := 35) (kd := 11) (len := 13) (by decide) aC_long (by decide) (by decide) (Nat.le_of_ble_eq_true rfl) (Nat.le_of_ble_eq_true rfl) (Nat.le_of_ble_eq_true rfl) dX4_init_27 ?_
  refine go_putR (pc := 29) (x := .ref 52) fP_X4_23 rfl (Nat.le_of_ble_eq_true rfl) rfl (fun _ => rfl) (fun _ => rfl) dX4_init_29 ?_
  refine go_aload_n (pc := 32) rfl dX4_init_32 ?_
  refine go_bipush (pc := 33) (v := 13) (by decide) dX4_init_33 ?_
  refine go_newa (pc := 35) (sl := 48) (kd := 11) (len := 13) (by decide) aC_long (by decide) (by decide) (Nat.le_of_ble_eq_true rfl) (Nat.le_of_ble_eq_true rfl) (Nat.le_of_ble_eq_true rfl) dX4_init_35 ?_
  refine go_putR (pc := 37) (x := .ref 53) fP_X4_26 rfl (Nat.le_of_ble_eq_true rfl) rfl (fun _ => rfl) (fun _ => rfl) dX4_init_37 ?_
  refine go_aload_n (pc := 40) rfl dX4_init_40 ?_
  refine go_sipush (pc := 41) (v := 585) (by decide) dX4_init_41 ?_
  refine go_newa (pc := 44) (sl := 61) (kd := 10) (len := 585) (by decide) aC_int (by decide) (by decide) (Nat.le_of_ble_eq_true rfl) (Nat.le_of_ble_eq_true rfl) (Nat.le_of_ble_eq_true rfl) dX4_init_44 ?_
  refine go_putR (pc := 46) (x := .ref 54) fP_X4_29 rfl (Nat.le_of_ble_eq_true rfl) rfl (fun _ => rfl) (fun _ => rfl) dX4_init_46 ?_
  refine go_aload_n (pc := 49) rfl dX4_init_49 ?_
  refine go_iconst (pc := 50) (v := 0) (by decide) dX4_init_50 ?_
  refine go_putI (pc := 51) (fP_X4_32 _) rfl (Nat.le_of_ble_eq_true rfl) rfl (fun _ => rfl) (fun _ => rfl) dX4_init_51 ?_
  refine go_aload_n (pc := 54) rfl dX4_init_54 ?_
  refine go_bipush (pc := 55) (v := 40) (by decide) dX4_init_55 ?_
  refine go_newa (pc := 57) (sl := 646) (kd := 11) (len := 40) (by decide) aC_long (by decide) (by decide) (Nat.le_of_ble_eq_true rfl) (Nat.le_of_ble_eq_true rfl) (Nat.le_of_ble_eq_true rfl) dX4_init_57 ?_
  refine go_putR (pc := 59) (x := .ref 55) fP_X4_36 rfl (Nat.le_of_ble_eq_true rfl) rfl (fun _ => rfl) (fun _ => rfl) dX4_init_59 ?_
  refine go_aload_n (pc := 62) rfl dX4_init_62 ?_
  refine go_lconst (pc := 63) (v := 0) (by decide) dX4_init_63 ?_
  refine go_putL (pc := 64) (fP_X4_39 _) rfl (Nat.le_of_ble_eq_true rfl) rfl (fun _ => rfl) (fun _ => rfl) dX4_init_64 ?_
  refine go_aload_n (pc := 67) rfl dX4_init_67 ?_
  refine go_bipush (pc := 68) (v := 40) (by decide) dX4_init_68 ?_
  refine go_newa (pc := 70) (sl := 686) (kd := 11) (len := 40) (by decide) aC_long (by decide) (by decide) (Nat.le_of_ble_eq_true rfl) (Nat.le_of_ble_eq_true rfl) (Nat.le_of_ble_eq_true rfl) dX4_init_70 ?_
  refine go_putR (pc := 72) (x := .ref 56) fP_X4_43 rfl (Nat.le_of_ble_eq_true rfl) rfl (fun _ => rfl) (fun _ => rfl) dX4_init_72 ?_
  refine go_aload_n (pc := 75) rfl dX4_init_75 ?_
  refine go_lconst (pc := 76) (v := 0) (by decide) dX4_init_76 ?_
  refine go_putL (pc := 77) (fP_X4_46 _) rfl (Nat.le_of_ble_eq_true rfl) rfl (fun _ => rfl) (fun _ => rfl) dX4_init_77 ?_
  refine go_aload_n (pc := 80) rfl dX4_init_80 ?_
  refine go_new (pc := 81) (sl := 726) (ci := 1) rfl cL_X4_49 oC_X1 nC_X1 (Nat.le_of_ble_eq_true rfl) (Nat.le_of_ble_eq_true rfl) dX4_init_81 ?_
  refine go_dup (pc := 84) rfl dX4_init_84 ?_
  refine go_aload_n (pc := 85) rfl dX4_init_85 ?_
  refine go_invI (pc := 86) (sl := 733) (k6_X1_init l) mL_X4_51 iM_X1_init rfl rfl rfl (Nat.le_of_ble_eq_true rfl) (Nat.le_of_ble_eq_true rfl) (Nat.le_of_ble_eq_true rfl) (Nat.le_of_ble_eq_true rfl) (Nat.le_of_ble_eq_true rfl) dX4_init_86 ?_
  intro r h' hq _
  obtain ⟨rfl, rfl⟩ := hq
  refine go_putR (pc := 89) (x := .ref 57) fP_X4_54 rfl (Nat.le_of_ble_eq_true rfl) rfl (fun _ => rfl) (fun _ => rfl) dX4_init_89 ?_
  refine go_aload_n (pc := 92) rfl dX4_init_92 ?_
  refine go_aload_n (pc := 93) rfl dX4_init_93 ?_
  refine go_putR (pc := 94) (x := .ref 2) (fP_X4_58 _) rfl (Nat.le_of_ble_eq_true rfl) rfl (fun _ => rfl) (fun _ => rfl) dX4_init_94 ?_
  exact go_vret (pc := 97) (⟨rfl, rfl⟩) rfl (Nat.le_of_ble_eq_true rfl) dX4_init_97
def hz8 : HP := hR (hL (hI (hR (hN (hR (hN (hI (hI (hI (hI (hI (hR (hN (hR (hN (hR (hN (hN (hR hz7 0 6 (.ref 49)) 2 13) 10 4) 64 0 (.ref 65)) 10 186) 64 1 (.ref 66)) 10 31) 64 2 (.ref 67)) 64 3 0) 64 4 0) 64 5 0) 64 6 (-1)) 64 7 0) 10 500) 64 8 (.ref 68)) 10 500) 64 9 (.ref 69)) 64 10 0) 64 12 0) 64 11 (.ref 2)
set_option maxHeartbeats 4000000 in
set_option maxRecDepth 100000 in
theorem k8_X2_init (l : Launch) : Mt l yX2_init cX2_init 2 none 1 [.ref 64, .ref 2] (hN (hR hz7 0 6 (.ref 49)) 2 13) 5 1221 (fun r h' => r = none ∧ h' = hz8) := by
  refine Mt_of (by decide) (Nat.le_of_ble_eq_true rfl) ?_
  show Go l RX2 cX2_init 2 (g_rm 1 5 1221) "<init>" none 65 5 1221 _ _ 0 0 [(0, .ref 64), (1, .ref 2)] [] (hN (hR hz7 0 6 (.ref 49)) 2 13)
  refine go_aload_n (pc := 0) rfl dX2_init_0 ?_
  refine go_objInit (pc := 1) oL_X2_3 oI oK (Nat.le_of_ble_eq_true rfl) (Nat.le_of_ble_eq_true rfl) (Nat.le_of_ble_eq_true rfl) dX2_init_1 ?_
  refine go_aload_n (pc := 4) rfl dX2_init_4 ?_
  refine go_iconst (pc := 5) (v := 4) (by decide) dX2_init_5 ?_
  refine go_newa (pc := 6) (sl := 0) (kd := 10) (len := 4) (by decide) aC_int (by decide) (by decide) (Nat.le_of_ble_eq_true rfl) (Nat.le_of_ble_eq_true rfl) (Nat.le_of_ble_eq_true rfl) dX2_init_6 ?_
  refine go_putR (pc := 8) (x := .ref 65) fP_X2_9 rfl (Nat.le_of_ble_eq_true rfl) rfl (fun _ => rfl) (fun _ => rfl) dX2_init_8 ?_
  refine go_aload_n (pc := 11) rfl dX2_init_11 ?_
  refine go_sipush (pc := 12) (v := 186) (by decide) dX2_init_12 ?_
  refine go_newa (pc := 15) (sl := 4) (kd := 10) (len := 186) (by decide) aC_int (by decide) (by decide) (Nat.le_of_ble_eq_true rfl) (Nat.le_of_ble_eq_true rfl) (Nat.le_of_ble_eq_true rfl) dX2_init_15 ?_
  refine go_putR (pc := 17) (x := .ref 66) fP_X2_15 rfl (Nat.le_of_ble_eq_true rfl) rfl (fun _ => rfl) (fun _ => rfl) dX2_init_17 ?_
  refine go_aload_n (pc := 20) rfl dX2_init_20 ?_
  refine go_bipush (pc := 21) (v := 31) (by decide) dX2_init_21 ?_
  refine go_newa (pc := 23) (sl := 190) (kd := 10) (len := 31) (by decide) aC_int (by decide) (by decide) (Nat.le_of_ble_eq_true rfl) (Nat.le_of_ble_eq_true rfl) (Nat.le_of_ble_eq_true rfl) dX2_init_23 ?_
  refine go_putR (pc := 25) (x := .ref 67) fP_X2_18 rfl (Nat.le_of_ble_eq_true rfl) rfl (fun _ => rfl) (fun _ => rfl) dX2_init_25 ?_
  refine go_aload_n (pc := 28) rfl dX2_init_28 ?_
  refine go_iconst (pc := 29) (v := 0) (by decide) dX2_init_29 ?_
  refine go_putI (pc := 30) (fP_X2_21 _) rfl (Nat.le_of_ble_eq_true rfl) rfl (fun _ => rfl) (fun _ => rfl) dX2_init_30 ?_
  refine go_aload_n (pc := 33) rfl dX2_init_33 ?_
  refine go_iconst (pc := 34) (v := 0) (by decide) dX2_init_34 ?_
  refine go_putI (pc := 35) (fP_X2_25 _) rfl (Nat.le_of_ble_eq_true rfl) rfl (fun _ => rfl) (fun _ => rfl) dX2_init_35 ?_
  refine go_aload_n (pc := 38) rfl dX2_init_38 ?_
  refine go_iconst (pc := 39) (v := 0) (by decide) dX2_init_39 ?_
  refine go_putI (pc := 40) (fP_X2_28 _) rfl (Nat.le_of_ble_eq_true rfl) rfl (fun _ => rfl) (fun _ => rfl) dX2_init_40 ?_
  refine go_aload_n (pc := 43) rfl dX2_init_43 ?_
  refine go_iconst (pc := 44) (v := (-1)) (by decide) dX2_init_44 ?_
  refine go_putI (pc := 45) (fP_X2_31 _) rfl (Nat.le_of_ble_eq_true rfl) rfl (fun _ => rfl) (fun _ => rfl) dX2_init_45 ?_
  refine go_aload_n (pc := 48) rfl dX2_init_48 ?_
  refine go_iconst (pc := 49) (v := 0) (by decide) dX2_init_49 ?_
  refine go_putI (pc := 50) (fP_X2_34 _) rfl (Nat.le_of_ble_eq_true rfl) rfl (fun _ => rfl) (fun _ => rfl) dX2_init_50 ?_
  refine go_aload_n (pc := 53) rfl dX2_init_53 ?_
  refine go_sipush (pc := 54) (v := 500) (by decide) dX2_init_54 ?_
  refine go_newa (pc := 57) (sl := 221) (kd := 10) (len := 500) (by decide) aC_int (by decide) (by decide) (Nat.le_of_ble_eq_true rfl) (Nat.le_of_ble_eq_true rfl) (Nat.le_of_ble_eq_true rfl) dX2_init_57 ?_
  refine go_putR (pc := 59) (x := .ref 68) fP_X2_37 rfl (Nat.le_of_ble_eq_true rfl) rfl (fun _ => rfl) (fun _ => rfl) dX2_init_59 ?_
  refine go_aload_n (pc := 62) rfl dX2_init_62 ?_
  refine go_sipush (pc := 63) (v := 500) (by decide) dX2_init_63 ?_
  refine go_newa (pc := 66) (sl := 721) (kd := 10) (len := 500) (by decide) aC_int (by decide) (by decide) (Nat.le_of_ble_eq_true rfl) (Nat.le_of_ble_eq_true rfl) (Nat.le_of_ble_eq_true rfl) dX2_init_66 ?_
  refine go_putR (pc := 68) (x := .ref 69) fP_X2_40 rfl (Nat.le_of_ble_eq_true rfl) rfl (fun _ => rfl) (fun _ => rfl) dX2_init_68 ?_
  refine go_aload_n (pc := 71) rfl dX2_init_71 ?_
  refine go_iconst (pc := 72) (v := 0) (by decide) dX2_init_72 ?_
  refine go_putI (pc := 73) (fP_X2_43 _) rfl (Nat.le_of_ble_eq_true rfl) rfl (fun _ => rfl) (fun _ => rfl) dX2_init_73 ?_
  refine go_aload_n (pc := 76) rfl dX2_init_76 ?_
  refine go_lconst (pc := 77) (v := 0) (by decide) dX2_init_77 ?_
  refine go_putL (pc := 78) (fP_X2_46 _) rfl (Nat.le_of_ble_eq_true rfl) rfl (fun _ => rfl) (fun _ => rfl) dX2_init_78 ?_
  refine go_aload_n (pc := 81) rfl dX2_init_81 ?_
  refine go_aload_n (pc := 82) rfl dX2_init_82 ?_
  refine go_putR (pc := 83) (x := .ref 2) (fP_X2_50 _) rfl (Nat.le_of_ble_eq_true rfl) rfl (fun _ => rfl) (fun _ => rfl) dX2_init_83 ?_
  exact go_vret (pc := 86) (⟨rfl, rfl⟩) rfl (Nat.le_of_ble_eq_true rfl) dX2_init_86
def hz9 : HP := hR hz8 0 7 (.ref 64)
set_option maxHeartbeats 4000000 in
set_option maxRecDepth 100000 in
theorem k9_X7_init (l : Launch) : Mt l yX7_init cX7_init 1 none 3 [.ref 0] (hN hpE 7 8) 69 12374 (fun r h' => r = none ∧ h' = hz9) := by
  refine Mt_of (by decide) (Nat.le_of_ble_eq_true rfl) ?_
  show Go l RX7 cX7_init 1 (g_rm 3 69 12374) "<init>" none 1 69 12374 _ _ 0 0 [(0, .ref 0)] [] (hN hpE 7 8)
  refine go_aload_n (pc := 0) rfl dX7_init_0 ?_
  refine go_objInit (pc := 1) oL_X7_3 oI oK (Nat.le_of_ble_eq_true rfl) (Nat.le_of_ble_eq_true rfl) (Nat.le_of_ble_eq_true rfl) dX7_init_1 ?_
  refine go_aload_n (pc := 4) rfl dX7_init_4 ?_
  refine go_sipush (pc := 5) (v := 500) (by decide) dX7_init_5 ?_
  refine go_newa (pc := 8) (sl := 0) (kd := 9) (len := 500) (by decide) aC_byte (by decide) (by decide) (Nat.le_of_ble_eq_true rfl) (Nat.le_of_ble_eq_true rfl) (Nat.le_of_ble_eq_true rfl) dX7_init_8 ?_
  refine go_putR (pc := 10) (x := .ref 1) fP_X7_9 rfl (Nat.le_of_ble_eq_true rfl) rfl (fun _ => rfl) (fun _ => rfl) dX7_init_10 ?_
  refine go_aload_n (pc := 13) rfl dX7_init_13 ?_
  refine go_iconst (pc := 14) (v := 0) (by decide) dX7_init_14 ?_
  refine go_putI (pc := 15) (fP_X7_13 _) rfl (Nat.le_of_ble_eq_true rfl) rfl (fun _ => rfl) (fun _ => rfl) dX7_init_15 ?_
  refine go_aload_n (pc := 18) rfl dX7_init_18 ?_
  refine go_iconst (pc := 19) (v := 0) (by decide) dX7_init_19 ?_
  refine go_putI (pc := 20) (fP_X7_17 _) rfl (Nat.le_of_ble_eq_true rfl) rfl (fun _ => rfl) (fun _ => rfl) dX7_init_20 ?_
  refine go_aload_n (pc := 23) rfl dX7_init_23 ?_
  refine go_new (pc := 24) (sl := 500) (ci := 0) rfl cL_X7_20 oC_X0 nC_X0 (Nat.le_of_ble_eq_true rfl) (Nat.le_of_ble_eq_true rfl) dX7_init_24 ?_
  refine go_dup (pc := 27) rfl dX7_init_27 ?_
  refine go_invI (pc := 28) (sl := 520) (k1_X0_init l) mL_X7_22 iM_X0_init rfl rfl rfl (Nat.le_of_ble_eq_true rfl) (Nat.le_of_ble_eq_true rfl) (Nat.le_of_ble_eq_true rfl) (Nat.le_of_ble_eq_true rfl) (Nat.le_of_ble_eq_true rfl) dX7_init_28 ?_
  intro r h' hq _
  obtain ⟨rfl, rfl⟩ := hq
  refine go_putR (pc := 31) (x := .ref 2) (fP_X7_23 _) rfl (Nat.le_of_ble_eq_true rfl) rfl (fun _ => rfl) (fun _ => rfl) dX7_init_31 ?_
  refine go_aload_n (pc := 34) rfl dX7_init_34 ?_
  refine go_new (pc := 35) (sl := 1085) (ci := 0) rfl cL_X7_20 oC_X0 nC_X0 (Nat.le_of_ble_eq_true rfl) (Nat.le_of_ble_eq_true rfl) dX7_init_35 ?_
  refine go_dup (pc := 38) rfl dX7_init_38 ?_
  refine go_invI (pc := 39) (sl := 1105) (k2_X0_init l) mL_X7_22 iM_X0_init rfl rfl rfl (Nat.le_of_ble_eq_true rfl) (Nat.le_of_ble_eq_true rfl) (Nat.le_of_ble_eq_true rfl) (Nat.le_of_ble_eq_true rfl) (Nat.le_of_ble_eq_true rfl) dX7_init_39 ?_
  intro r h' hq _
  obtain ⟨rfl, rfl⟩ := hq
  refine go_putR (pc := 42) (x := .ref 18) (fP_X7_27 _) rfl (Nat.le_of_ble_eq_true rfl) rfl (fun _ => rfl) (fun _ => rfl) dX7_init_42 ?_
  refine go_aload_n (pc := 45) rfl dX7_init_45 ?_
  refine go_new (pc := 46) (sl := 1670) (ci := 3) rfl cL_X7_30 oC_X3 nC_X3 (Nat.le_of_ble_eq_true rfl) (Nat.le_of_ble_eq_true rfl) dX7_init_46 ?_
  refine go_dup (pc := 49) rfl dX7_init_49 ?_
  refine go_aload_n (pc := 50) rfl dX7_init_50 ?_
  refine go_getR (pc := 51) (v := .ref 18) fL_X7_27 rfl (Nat.le_of_ble_eq_true rfl) rfl rfl dX7_init_51 ?_
  refine go_invI (pc := 54) (sl := 1681) (k5_X3_init l) mL_X7_32 iM_X3_init rfl rfl rfl (Nat.le_of_ble_eq_true rfl) (Nat.le_of_ble_eq_true rfl) (Nat.le_of_ble_eq_true rfl) (Nat.le_of_ble_eq_true rfl) (Nat.le_of_ble_eq_true rfl) dX7_init_54 ?_
  intro r h' hq _
  obtain ⟨rfl, rfl⟩ := hq
  refine go_putR (pc := 57) (x := .ref 34) fP_X7_35 rfl (Nat.le_of_ble_eq_true rfl) rfl (fun _ => rfl) (fun _ => rfl) dX7_init_57 ?_
  refine go_aload_n (pc := 60) rfl dX7_init_60 ?_
  refine go_new (pc := 61) (sl := 2614) (ci := 4) rfl cL_X7_39 oC_X4 nC_X4 (Nat.le_of_ble_eq_true rfl) (Nat.le_of_ble_eq_true rfl) dX7_init_61 ?_
  refine go_dup (pc := 64) rfl dX7_init_64 ?_
  refine go_aload_n (pc := 65) rfl dX7_init_65 ?_
  refine go_getR (pc := 66) (v := .ref 2) fL_X7_23 rfl (Nat.le_of_ble_eq_true rfl) rfl rfl dX7_init_66 ?_
  refine go_invI (pc := 69) (sl := 2627) (k7_X4_init l) mL_X7_41 iM_X4_init rfl rfl rfl (Nat.le_of_ble_eq_true rfl) (Nat.le_of_ble_eq_true rfl) (Nat.le_of_ble_eq_true rfl) (Nat.le_of_ble_eq_true rfl) (Nat.le_of_ble_eq_true rfl) dX7_init_69 ?_
  intro r h' hq _
  obtain ⟨rfl, rfl⟩ := hq
  refine go_putR (pc := 72) (x := .ref 49) fP_X7_42 rfl (Nat.le_of_ble_eq_true rfl) rfl (fun _ => rfl) (fun _ => rfl) dX7_init_72 ?_
  refine go_aload_n (pc := 75) rfl dX7_init_75 ?_
  refine go_new (pc := 76) (sl := 11140) (ci := 2) rfl cL_X7_46 oC_X2 nC_X2 (Nat.le_of_ble_eq_true rfl) (Nat.le_of_ble_eq_true rfl) dX7_init_76 ?_
  refine go_dup (pc := 79) rfl dX7_init_79 ?_
  refine go_aload_n (pc := 80) rfl dX7_init_80 ?_
  refine go_getR (pc := 81) (v := .ref 2) fL_X7_23 rfl (Nat.le_of_ble_eq_true rfl) rfl rfl dX7_init_81 ?_
  refine go_invI (pc := 84) (sl := 11153) (k8_X2_init l) mL_X7_48 iM_X2_init rfl rfl rfl (Nat.le_of_ble_eq_true rfl) (Nat.le_of_ble_eq_true rfl) (Nat.le_of_ble_eq_true rfl) (Nat.le_of_ble_eq_true rfl) (Nat.le_of_ble_eq_true rfl) dX7_init_84 ?_
  intro r h' hq _
  obtain ⟨rfl, rfl⟩ := hq
  refine go_putR (pc := 87) (x := .ref 64) fP_X7_49 rfl (Nat.le_of_ble_eq_true rfl) rfl (fun _ => rfl) (fun _ => rfl) dX7_init_87 ?_
  exact go_vret (pc := 90) (⟨rfl, rfl⟩) rfl (Nat.le_of_ble_eq_true rfl) dX7_init_90
def hz10 : HP := hR (hN (hR (hN (hR (hN (hR (hN (hR (hN (hR (hN (hR (hN (hR (hN (hR (hN (hR (hN (hR (hN (hR (hN (hR (hN (hR (hN (hR (hN (hR (hN (hR (hN (hR (hN (hR (hN (hR (hN (hR (hN (hR (hN (hR (hN (hR (hN (hR (hN (hR (hN (hR (hN (hR (hN (hR (hN (hR (hN (hR (hN (hR (hN (hR (hN (hR (hN (hR (hN (hR (hN (hR (hN (hR (hN (hR (hN (hR (hN (hR (hN (hR (hN (hR (hN (hR (hN (hR (hN (hR (hN (hN hz9 8 60) 9 500) 70 0 (.ref 71)) 9 500) 70 1 (.ref 72)) 10 2) 70 7 (.ref 73)) 10 2) 70 8 (.ref 74)) 10 2) 70 9 (.ref 75)) 10 2) 70 10 (.ref 76)) 10 260) 70 11 (.ref 77)) 10 260) 70 12 (.ref 78)) 10 260) 70 13 (.ref 79)) 10 260) 70 14 (.ref 80)) 10 260) 70 15 (.ref 81)) 10 260) 70 16 (.ref 82)) 10 260) 70 17 (.ref 83)) 10 260) 70 18 (.ref 84)) 10 260) 70 19 (.ref 85)) 10 260) 70 20 (.ref 86)) 10 260) 70 21 (.ref 87)) 10 260) 70 22 (.ref 88)) 10 520) 70 23 (.ref 89)) 10 560) 70 24 (.ref 90)) 10 560) 70 25 (.ref 91)) 10 560) 70 26 (.ref 92)) 10 80) 70 27 (.ref 93)) 10 10) 70 28 (.ref 94)) 10 80) 70 31 (.ref 95)) 10 80) 70 32 (.ref 96)) 10 80) 70 33 (.ref 97)) 10 80) 70 34 (.ref 98)) 10 80) 70 35 (.ref 99)) 10 10) 70 36 (.ref 100)) 12 10) 70 37 (.ref 101)) 12 10) 70 38 (.ref 102)) 10 11115) 70 39 (.ref 103)) 11 40) 70 40 (.ref 104)) 11 40) 70 41 (.ref 105)) 11 40) 70 42 (.ref 106)) 11 5) 70 43 (.ref 107)) 10 30) 70 44 (.ref 108)) 10 19) 70 45 (.ref 109)) 10 585) 70 46 (.ref 110)) 11 40) 70 48 (.ref 111)) 10 19) 70 49 (.ref 112)) 10 4) 70 56 (.ref 113)) 10 192) 70 57 (.ref 114)) 10 500) 70 58 (.ref 115)) 10 500) 70 59 (.ref 116)
set_option maxHeartbeats 4000000 in
set_option maxRecDepth 100000 in
theorem k10_X8_init (l : Launch) : Mt l yX8_init cX8_init 1 none 1 [.ref 70] (hN hz9 8 60) 46 19977 (fun r h' => r = none ∧ h' = hz10) := by
  refine Mt_of (by decide) (Nat.le_of_ble_eq_true rfl) ?_
  show Go l RX8 cX8_init 1 (g_rm 1 46 19977) "<init>" none 71 46 19977 _ _ 0 0 [(0, .ref 70)] [] (hN hz9 8 60)
  refine go_aload_n (pc := 0) rfl dX8_init_0 ?_
  refine go_objInit (pc := 1) oL_X8_1 oI oK (Nat.le_of_ble_eq_true rfl) (Nat.le_of_ble_eq_true rfl) (Nat.le_of_ble_eq_true rfl) dX8_init_1 ?_
  refine go_aload_n (pc := 4) rfl dX8_init_4 ?_
  refine go_sipush (pc := 5) (v := 500) (by decide) dX8_init_5 ?_
  refine go_newa (pc := 8) (sl := 0) (kd := 9) (len := 500) (by decide) aC_byte (by decide) (by decide) (Nat.le_of_ble_eq_true rfl) (Nat.le_of_ble_eq_true rfl) (Nat.le_of_ble_eq_true rfl) dX8_init_8 ?_
  refine go_putR (pc := 10) (x := .ref 71) fP_X8_7 rfl (Nat.le_of_ble_eq_true rfl) rfl (fun _ => rfl) (fun _ => rfl) dX8_init_10 ?_
  refine go_aload_n (pc := 13) rfl dX8_init_13 ?_
  refine go_sipush (pc := 14) (v := 500) (by decide) dX8_init_14 ?_
  refine go_newa (pc := 17) (sl := 500) (kd := 9) (len := 500) (by decide) aC_byte (by decide) (by decide) (Nat.le_of_ble_eq_true rfl) (Nat.le_of_ble_eq_true rfl) (Nat.le_of_ble_eq_true rfl) dX8_init_17 ?_
  refine go_putR (pc := 19) (x := .ref 72) fP_X8_13 rfl (Nat.le_of_ble_eq_true rfl) rfl (fun _ => rfl) (fun _ => rfl) dX8_init_19 ?_
  refine go_aload_n (pc := 22) rfl dX8_init_22 ?_
  refine go_iconst (pc := 23) (v := 2) (by decide) dX8_init_23 ?_
  refine go_newa (pc := 24) (sl := 1000) (kd := 10) (len := 2) (by decide) aC_int (by decide) (by decide) (Nat.le_of_ble_eq_true rfl) (Nat.le_of_ble_eq_true rfl) (Nat.le_of_ble_eq_true rfl) dX8_init_24 ?_
  refine go_putR (pc := 26) (x := .ref 73) fP_X8_16 rfl (Nat.le_of_ble_eq_true rfl) rfl (fun _ => rfl) (fun _ => rfl) dX8_init_26 ?_
  refine go_aload_n (pc := 29) rfl dX8_init_29 ?_
  refine go_iconst (pc := 30) (v := 2) (by decide) dX8_init_30 ?_
  refine go_newa (pc := 31) (sl := 1002) (kd := 10) (len := 2) (by decide) aC_int (by decide) (by decide) (Nat.le_of_ble_eq_true rfl) (Nat.le_of_ble_eq_true rfl) (Nat.le_of_ble_eq_true rfl) dX8_init_31 ?_
  refine go_putR (pc := 33) (x := .ref 74) fP_X8_20 rfl (Nat.le_of_ble_eq_true rfl) rfl (fun _ => rfl) (fun _ => rfl) dX8_init_33 ?_
  refine go_aload_n (pc := 36) rfl dX8_init_36 ?_
  refine go_iconst (pc := 37) (v := 2) (by decide) dX8_init_37 ?_
  refine go_newa (pc := 38) (sl := 1004) (kd := 10) (len := 2) (by decide) aC_int (by decide) (by decide) (Nat.le_of_ble_eq_true rfl) (Nat.le_of_ble_eq_true rfl) (Nat.le_of_ble_eq_true rfl) dX8_init_38 ?_
  refine go_putR (pc := 40) (x := .ref 75) fP_X8_23 rfl (Nat.le_of_ble_eq_true rfl) rfl (fun _ => rfl) (fun _ => rfl) dX8_init_40 ?_
  refine go_aload_n (pc := 43) rfl dX8_init_43 ?_
  refine go_iconst (pc := 44) (v := 2) (by decide) dX8_init_44 ?_
  refine go_newa (pc := 45) (sl := 1006) (kd := 10) (len := 2) (by decide) aC_int (by decide) (by decide) (Nat.le_of_ble_eq_true rfl) (Nat.le_of_ble_eq_true rfl) (Nat.le_of_ble_eq_true rfl) dX8_init_45 ?_
  refine go_putR (pc := 47) (x := .ref 76) fP_X8_26 rfl (Nat.le_of_ble_eq_true rfl) rfl (fun _ => rfl) (fun _ => rfl) dX8_init_47 ?_
  refine go_aload_n (pc := 50) rfl dX8_init_50 ?_
  refine go_sipush (pc := 51) (v := 260) (by decide) dX8_init_51 ?_
  refine go_newa (pc := 54) (sl := 1008) (kd := 10) (len := 260) (by decide) aC_int (by decide) (by decide) (Nat.le_of_ble_eq_true rfl) (Nat.le_of_ble_eq_true rfl) (Nat.le_of_ble_eq_true rfl) dX8_init_54 ?_
  refine go_putR (pc := 56) (x := .ref 77) fP_X8_29 rfl (Nat.le_of_ble_eq_true rfl) rfl (fun _ => rfl) (fun _ => rfl) dX8_init_56 ?_
  refine go_aload_n (pc := 59) rfl dX8_init_59 ?_
  refine go_sipush (pc := 60) (v := 260) (by decide) dX8_init_60 ?_
  refine go_newa (pc := 63) (sl := 1268) (kd := 10) (len := 260) (by decide) aC_int (by decide) (by decide) (Nat.le_of_ble_eq_true rfl) (Nat.le_of_ble_eq_true rfl) (Nat.le_of_ble_eq_true rfl) dX8_init_63 ?_
  refine go_putR (pc := 65) (x := .ref 78) fP_X8_32 rfl (Nat.le_of_ble_eq_true rfl) rfl (fun _ => rfl) (fun _ => rfl) dX8_init_65 ?_
  refine go_aload_n (pc := 68) rfl dX8_init_68 ?_
  refine go_sipush (pc := 69) (v := 260) (by decide) dX8_init_69 ?_
  refine go_newa (pc := 72) (sl := 1528) (kd := 10) (len := 260) (by decide) aC_int (by decide) (by decide) (Nat.le_of_ble_eq_true rfl) (Nat.le_of_ble_eq_true rfl) (Nat.le_of_ble_eq_true rfl) dX8_init_72 ?_
  refine go_putR (pc := 74) (x := .ref 79) fP_X8_35 rfl (Nat.le_of_ble_eq_true rfl) rfl (fun _ => rfl) (fun _ => rfl) dX8_init_74 ?_
  refine go_aload_n (pc := 77) rfl dX8_init_77 ?_
  refine go_sipush (pc := 78) (v := 260) (by decide) dX8_init_78 ?_
  refine go_newa (pc := 81) (sl := 1788) (kd := 10) (len := 260) (by decide) aC_int (by decide) (by decide) (Nat.le_of_ble_eq_true rfl) (Nat.le_of_ble_eq_true rfl) (Nat.le_of_ble_eq_true rfl) dX8_init_81 ?_
  refine go_putR (pc := 83) (x := .ref 80) fP_X8_38 rfl (Nat.le_of_ble_eq_true rfl) rfl (fun _ => rfl) (fun _ => rfl) dX8_init_83 ?_
  refine go_aload_n (pc := 86) rfl dX8_init_86 ?_
  refine go_sipush (pc := 87) (v := 260) (by decide) dX8_init_87 ?_
  refine go_newa (pc := 90) (sl := 2048) (kd := 10) (len := 260) (by decide) aC_int (by decide) (by decide) (Nat.le_of_ble_eq_true rfl) (Nat.le_of_ble_eq_true rfl) (Nat.le_of_ble_eq_true rfl) dX8_init_90 ?_
  refine go_putR (pc := 92) (x := .ref 81) fP_X8_41 rfl (Nat.le_of_ble_eq_true rfl) rfl (fun _ => rfl) (fun _ => rfl) dX8_init_92 ?_
  refine go_aload_n (pc := 95) rfl dX8_init_95 ?_
  refine go_sipush (pc := 96) (v := 260) (by decide) dX8_init_96 ?_
  refine go_newa (pc := 99) (sl := 2308) (kd := 10) (len := 260) (by decide) aC_int (by decide) (by decide) (Nat.le_of_ble_eq_true rfl) (Nat.le_of_ble_eq_true rfl) (Nat.le_of_ble_eq_true rfl) dX8_init_99 ?_
  refine go_putR (pc := 101) (x := .ref 82) fP_X8_44 rfl (Nat.le_of_ble_eq_true rfl) rfl (fun _ => rfl) (fun _ => rfl) dX8_init_101 ?_
  refine go_aload_n (pc := 104) rfl dX8_init_104 ?_
  refine go_sipush (pc := 105) (v := 260) (by decide) dX8_init_105 ?_
  refine go_newa (pc := 108) (sl := 2568) (kd := 10) (len := 260) (by decide) aC_int (by decide) (by decide) (Nat.le_of_ble_eq_true rfl) (Nat.le_of_ble_eq_true rfl) (Nat.le_of_ble_eq_true rfl) dX8_init_108 ?_
  refine go_putR (pc := 110) (x := .ref 83) fP_X8_47 rfl (Nat.le_of_ble_eq_true rfl) rfl (fun _ => rfl) (fun _ => rfl) dX8_init_110 ?_
  refine go_aload_n (pc := 113) rfl dX8_init_113 ?_
  refine go_sipush (pc := 114) (v := 260) (by decide) dX8_init_114 ?_
  refine go_newa (pc := 117) (sl := 2828) (kd := 10) (len := 260) (by decide) aC_int (by decide) (by decide) (Nat.le_of_ble_eq_true rfl) (Nat.le_of_ble_eq_true rfl) (Nat.le_of_ble_eq_true rfl) dX8_init_117 ?_
  refine go_putR (pc := 119) (x := .ref 84) fP_X8_50 rfl (Nat.le_of_ble_eq_true rfl) rfl (fun _ => rfl) (fun _ => rfl) dX8_init_119 ?_
  refine go_aload_n (pc := 122) rfl dX8_init_122 ?_
  refine go_sipush (pc := 123) (v := 260) (by decide) dX8_init_123 ?_
  refine go_newa (pc := 126) (sl := 3088) (kd := 10) (len := 260) (by decide) aC_int (by decide) (by decide) (Nat.le_of_ble_eq_true rfl) (Nat.le_of_ble_eq_true rfl) (Nat.le_of_ble_eq_true rfl) dX8_init_126 ?_
  refine go_putR (pc := 128) (x := .ref 85) fP_X8_53 rfl (Nat.le_of_ble_eq_true rfl) rfl (fun _ => rfl) (fun _ => rfl) dX8_init_128 ?_
  refine go_aload_n (pc := 131) rfl dX8_init_131 ?_
  refine go_sipush (pc := 132) (v := 260) (by decide) dX8_init_132 ?_
  refine go_newa (pc := 135) (sl := 3348) (kd := 10) (len := 260) (by decide) aC_int (by decide) (by decide) (Nat.le_of_ble_eq_true rfl) (Nat.le_of_ble_eq_true rfl) (Nat.le_of_ble_eq_true rfl) dX8_init_135 ?_
  refine go_putR (pc := 137) (x := .ref 86) fP_X8_56 rfl (Nat.le_of_ble_eq_true rfl) rfl (fun _ => rfl) (fun _ => rfl) dX8_init_137 ?_
  refine go_aload_n (pc := 140) rfl dX8_init_140 ?_
  refine go_sipush (pc := 141) (v := 260) (by decide) dX8_init_141 ?_
  refine go_newa (pc := 144) (sl := 3608) (kd := 10) (len := 260) (by decide) aC_int (by decide) (by decide) (Nat.le_of_ble_eq_true rfl) (Nat.le_of_ble_eq_true rfl) (Nat.le_of_ble_eq_true rfl) dX8_init_144 ?_
  refine go_putR (pc := 146) (x := .ref 87) fP_X8_59 rfl (Nat.le_of_ble_eq_true rfl) rfl (fun _ => rfl) (fun _ => rfl) dX8_init_146 ?_
  refine go_aload_n (pc := 149) rfl dX8_init_149 ?_
  refine go_sipush (pc := 150) (v := 260) (by decide) dX8_init_150 ?_
  refine go_newa (pc := 153) (sl := 3868) (kd := 10) (len := 260) (by decide) aC_int (by decide) (by decide) (Nat.le_of_ble_eq_true rfl) (Nat.le_of_ble_eq_true rfl) (Nat.le_of_ble_eq_true rfl) dX8_init_153 ?_
  refine go_putR (pc := 155) (x := .ref 88) fP_X8_62 rfl (Nat.le_of_ble_eq_true rfl) rfl (fun _ => rfl) (fun _ => rfl) dX8_init_155 ?_
  refine go_aload_n (pc := 158) rfl dX8_init_158 ?_
  refine go_sipush (pc := 159) (v := 520) (by decide) dX8_init_159 ?_
  refine go_newa (pc := 162) (sl := 4128) (kd := 10) (len := 520) (by decide) aC_int (by decide) (by decide) (Nat.le_of_ble_eq_true rfl) (Nat.le_of_ble_eq_true rfl) (Nat.le_of_ble_eq_true rfl) dX8_init_162 ?_
  refine go_putR (pc := 164) (x := .ref 89) fP_X8_65 rfl (Nat.le_of_ble_eq_true rfl) rfl (fun _ => rfl) (fun _ => rfl) dX8_init_164 ?_
  refine go_aload_n (pc := 167) rfl dX8_init_167 ?_
  refine go_sipush (pc := 168) (v := 560) (by decide) dX8_init_168 ?_
  refine go_newa (pc := 171) (sl := 4648) (kd := 10) (len := 560) (by decide) aC_int (by decide) (by decide) (Nat.le_of_ble_eq_true rfl) (Nat.le_of_ble_eq_true rfl) (Nat.le_of_ble_eq_true rfl) dX8_init_171 ?_
  refine go_putR (pc := 173) (x := .ref 90) fP_X8_68 rfl (Nat.le_of_ble_eq_true rfl) rfl (fun _ => rfl) (fun _ => rfl) dX8_init_173 ?_
  refine go_aload_n (pc := 176) rfl dX8_init_176 ?_
  refine go_sipush (pc := 177) (v := 560) (by decide) dX8_init_177 ?_
  refine go_newa (pc := 180) (sl := 5208) (kd := 10) (len := 560) (by decide) aC_int (by decide) (by decide) (Nat.le_of_ble_eq_true rfl) (Nat.le_of_ble_eq_true rfl) (Nat.le_of_ble_eq_true rfl) dX8_init_180 ?_
  refine go_putR (pc := 182) (x := .ref 91) fP_X8_71 rfl (Nat.le_of_ble_eq_true rfl) rfl (fun _ => rfl) (fun _ => rfl) dX8_init_182 ?_
  refine go_aload_n (pc := 185) rfl dX8_init_185 ?_
  refine go_sipush (pc := 186) (v := 560) (by decide) dX8_init_186 ?_
  refine go_newa (pc := 189) (sl := 5768) (kd := 10) (len := 560) (by decide) aC_int (by decide) (by decide) (Nat.le_of_ble_eq_true rfl) (Nat.le_of_ble_eq_true rfl) (Nat.le_of_ble_eq_true rfl) dX8_init_189 ?_
  refine go_putR (pc := 191) (x := .ref 92) fP_X8_74 rfl (Nat.le_of_ble_eq_true rfl) rfl (fun _ => rfl) (fun _ => rfl) dX8_init_191 ?_
  refine go_aload_n (pc := 194) rfl dX8_init_194 ?_
  refine go_bipush (pc := 195) (v := 80) (by decide) dX8_init_195 ?_
  refine go_newa (pc := 197) (sl := 6328) (kd := 10) (len := 80) (by decide) aC_int (by decide) (by decide) (Nat.le_of_ble_eq_true rfl) (Nat.le_of_ble_eq_true rfl) (Nat.le_of_ble_eq_true rfl) dX8_init_197 ?_
  refine go_putR (pc := 199) (x := .ref 93) fP_X8_77 rfl (Nat.le_of_ble_eq_true rfl) rfl (fun _ => rfl) (fun _ => rfl) dX8_init_199 ?_
  refine go_aload_n (pc := 202) rfl dX8_init_202 ?_
  refine go_bipush (pc := 203) (v := 10) (by decide) dX8_init_203 ?_
  refine go_newa (pc := 205) (sl := 6408) (kd := 10) (len := 10) (by decide) aC_int (by decide) (by decide) (Nat.le_of_ble_eq_true rfl) (Nat.le_of_ble_eq_true rfl) (Nat.le_of_ble_eq_true rfl) dX8_init_205 ?_
  refine go_putR (pc := 207) (x := .ref 94) fP_X8_80 rfl (Nat.le_of_ble_eq_true rfl) rfl (fun _ => rfl) (fun _ => rfl) dX8_init_207 ?_
  refine go_aload_n (pc := 210) rfl dX8_init_210 ?_
  refine go_bipush (pc := 211) (v := 80) (by decide) dX8_init_211 ?_
  refine go_newa (pc := 213) (sl := 6418) (kd := 10) (len := 80) (by decide) aC_int (by decide) (by decide) (Nat.le_of_ble_eq_true rfl) (Nat.le_of_ble_eq_true rfl) (Nat.le_of_ble_eq_true rfl) dX8_init_213 ?_
  refine go_putR (pc := 215) (x := .ref 95) fP_X8_83 rfl (Nat.le_of_ble_eq_true rfl) rfl (fun _ => rfl) (fun _ => rfl) dX8_init_215 ?_
  refine go_aload_n (pc := 218) rfl dX8_init_218 ?_
  refine go_bipush (pc := 219) (v := 80) (by decide) dX8_init_219 ?_
  refine go_newa (pc := 221) (sl := 6498) (kd := 10) (len := 80) (by decide) aC_int (by decide) (by decide) (Nat.le_of_ble_eq_true rfl) (Nat.le_of_ble_eq_true rfl) (Nat.le_of_ble_eq_true rfl) dX8_init_221 ?_
  refine go_putR (pc := 223) (x := .ref 96) fP_X8_86 rfl (Nat.le_of_ble_eq_true rfl) rfl (fun _ => rfl) (fun _ => rfl) dX8_init_223 ?_
  refine go_aload_n (pc := 226) rfl dX8_init_226 ?_
  refine go_bipush (pc := 227) (v := 80) (by decide) dX8_init_227 ?_
  refine go_newa (pc := 229) (sl := 6578) (kd := 10) (len := 80) (by decide) aC_int (by decide) (by decide) (Nat.le_of_ble_eq_true rfl) (Nat.le_of_ble_eq_true rfl) (Nat.le_of_ble_eq_true rfl) dX8_init_229 ?_
  refine go_putR (pc := 231) (x := .ref 97) fP_X8_89 rfl (Nat.le_of_ble_eq_true rfl) rfl (fun _ => rfl) (fun _ => rfl) dX8_init_231 ?_
  refine go_aload_n (pc := 234) rfl dX8_init_234 ?_
  refine go_bipush (pc := 235) (v := 80) (by decide) dX8_init_235 ?_
  refine go_newa (pc := 237) (sl := 6658) (kd := 10) (len := 80) (by decide) aC_int (by decide) (by decide) (Nat.le_of_ble_eq_true rfl) (Nat.le_of_ble_eq_true rfl) (Nat.le_of_ble_eq_true rfl) dX8_init_237 ?_
  refine go_putR (pc := 239) (x := .ref 98) fP_X8_92 rfl (Nat.le_of_ble_eq_true rfl) rfl (fun _ => rfl) (fun _ => rfl) dX8_init_239 ?_
  refine go_aload_n (pc := 242) rfl dX8_init_242 ?_
  refine go_bipush (pc := 243) (v := 80) (by decide) dX8_init_243 ?_
  refine go_newa (pc := 245) (sl := 6738) (kd := 10) (len := 80) (by decide) aC_int (by decide) (by decide) (Nat.le_of_ble_eq_true rfl) (Nat.le_of_ble_eq_true rfl) (Nat.le_of_ble_eq_true rfl) dX8_init_245 ?_
  refine go_putR (pc := 247) (x := .ref 99) fP_X8_95 rfl (Nat.le_of_ble_eq_true rfl) rfl (fun _ => rfl) (fun _ => rfl) dX8_init_247 ?_
  refine go_aload_n (pc := 250) rfl dX8_init_250 ?_
  refine go_bipush (pc := 251) (v := 10) (by decide) dX8_init_251 ?_
  refine go_newa (pc := 253) (sl := 6818) (kd := 10) (len := 10) (by decide) aC_int (by decide) (by decide) (Nat.le_of_ble_eq_true rfl) (Nat.le_of_ble_eq_true rfl) (Nat.le_of_ble_eq_true rfl) dX8_init_253 ?_
  refine go_putR (pc := 255) (x := .ref 100) fP_X8_98 rfl (Nat.le_of_ble_eq_true rfl) rfl (fun _ => rfl) (fun _ => rfl) dX8_init_255 ?_
  refine go_aload_n (pc := 258) rfl dX8_init_258 ?_
  refine go_bipush (pc := 259) (v := 10) (by decide) dX8_init_259 ?_
  refine go_newa (pc := 261) (sl := 6828) (kd := 12) (len := 10) (by decide) aC_boolean (by decide) (by decide) (Nat.le_of_ble_eq_true rfl) (Nat.le_of_ble_eq_true rfl) (Nat.le_of_ble_eq_true rfl) dX8_init_261 ?_
  refine go_putR (pc := 263) (x := .ref 101) fP_X8_101 rfl (Nat.le_of_ble_eq_true rfl) rfl (fun _ => rfl) (fun _ => rfl) dX8_init_263 ?_
  refine go_aload_n (pc := 266) rfl dX8_init_266 ?_
  refine go_bipush (pc := 267) (v := 10) (by decide) dX8_init_267 ?_
  refine go_newa (pc := 269) (sl := 6838) (kd := 12) (len := 10) (by decide) aC_boolean (by decide) (by decide) (Nat.le_of_ble_eq_true rfl) (Nat.le_of_ble_eq_true rfl) (Nat.le_of_ble_eq_true rfl) dX8_init_269 ?_
  refine go_putR (pc := 271) (x := .ref 102) fP_X8_105 rfl (Nat.le_of_ble_eq_true rfl) rfl (fun _ => rfl) (fun _ => rfl) dX8_init_271 ?_
  refine go_aload_n (pc := 274) rfl dX8_init_274 ?_
  refine go_sipush (pc := 275) (v := 11115) (by decide) dX8_init_275 ?_
  refine go_newa (pc := 278) (sl := 6848) (kd := 10) (len := 11115) (by decide) aC_int (by decide) (by decide) (Nat.le_of_ble_eq_true rfl) (Nat.le_of_ble_eq_true rfl) (Nat.le_of_ble_eq_true rfl) dX8_init_278 ?_
  refine go_putR (pc := 280) (x := .ref 103) fP_X8_108 rfl (Nat.le_of_ble_eq_true rfl) rfl (fun _ => rfl) (fun _ => rfl) dX8_init_280 ?_
  refine go_aload_n (pc := 283) rfl dX8_init_283 ?_
  refine go_bipush (pc := 284) (v := 40) (by decide) dX8_init_284 ?_
  refine go_newa (pc := 286) (sl := 17963) (kd := 11) (len := 40) (by decide) aC_long (by decide) (by decide) (Nat.le_of_ble_eq_true rfl) (Nat.le_of_ble_eq_true rfl) (Nat.le_of_ble_eq_true rfl) dX8_init_286 ?_
  refine go_putR (pc := 288) (x := .ref 104) fP_X8_111 rfl (Nat.le_of_ble_eq_true rfl) rfl (fun _ => rfl) (fun _ => rfl) dX8_init_288 ?_
  refine go_aload_n (pc := 291) rfl dX8_init_291 ?_
  refine go_bipush (pc := 292) (v := 40) (by decide) dX8_init_292 ?_
  refine go_newa (pc := 294) (sl := 18003) (kd := 11) (len := 40) (by decide) aC_long (by decide) (by decide) (Nat.le_of_ble_eq_true rfl) (Nat.le_of_ble_eq_true rfl) (Nat.le_of_ble_eq_true rfl) dX8_init_294 ?_
  refine go_putR (pc := 296) (x := .ref 105) fP_X8_115 rfl (Nat.le_of_ble_eq_true rfl) rfl (fun _ => rfl) (fun _ => rfl) dX8_init_296 ?_
  refine go_aload_n (pc := 299) rfl dX8_init_299 ?_
  refine go_bipush (pc := 300) (v := 40) (by decide) dX8_init_300 ?_
  refine go_newa (pc := 302) (sl := 18043) (kd := 11) (len := 40) (by decide) aC_long (by decide) (by decide) (Nat.le_of_ble_eq_true rfl) (Nat.le_of_ble_eq_true rfl) (Nat.le_of_ble_eq_true rfl) dX8_init_302 ?_
  refine go_putR (pc := 304) (x := .ref 106) fP_X8_118 rfl (Nat.le_of_ble_eq_true rfl) rfl (fun _ => rfl) (fun _ => rfl) dX8_init_304 ?_
  refine go_aload_n (pc := 307) rfl dX8_init_307 ?_
  refine go_iconst (pc := 308) (v := 5) (by decide) dX8_init_308 ?_
  refine go_newa (pc := 309) (sl := 18083) (kd := 11) (len := 5) (by decide) aC_long (by decide) (by decide) (Nat.le_of_ble_eq_true rfl) (Nat.le_of_ble_eq_true rfl) (Nat.le_of_ble_eq_true rfl) dX8_init_309 ?_
  refine go_putR (pc := 311) (x := .ref 107) fP_X8_121 rfl (Nat.le_of_ble_eq_true rfl) rfl (fun _ => rfl) (fun _ => rfl) dX8_init_311 ?_
  refine go_aload_n (pc := 314) rfl dX8_init_314 ?_
  refine go_bipush (pc := 315) (v := 30) (by decide) dX8_init_315 ?_
  refine go_newa (pc := 317) (sl := 18088) (kd := 10) (len := 30) (by decide) aC_int (by decide) (by decide) (Nat.le_of_ble_eq_true rfl) (Nat.le_of_ble_eq_true rfl) (Nat.le_of_ble_eq_true rfl) dX8_init_317 ?_
  refine go_putR (pc := 319) (x := .ref 108) fP_X8_124 rfl (Nat.le_of_ble_eq_true rfl) rfl (fun _ => rfl) (fun _ => rfl) dX8_init_319 ?_
  refine go_aload_n (pc := 322) rfl dX8_init_322 ?_
  refine go_bipush (pc := 323) (v := 19) (by decide) dX8_init_323 ?_
  refine go_newa (pc := 325) (sl := 18118) (kd := 10) (len := 19) (by decide) aC_int (by decide) (by decide) (Nat.le_of_ble_eq_true rfl) (Nat.le_of_ble_eq_true rfl) (Nat.le_of_ble_eq_true rfl) dX8_init_325 ?_
  refine go_putR (pc := 327) (x := .ref 109) fP_X8_127 rfl (Nat.le_of_ble_eq_true rfl) rfl (fun _ => rfl) (fun _ => rfl) dX8_init_327 ?_
  refine go_aload_n (pc := 330) rfl dX8_init_330 ?_
  refine go_sipush (pc := 331) (v := 585) (by decide) dX8_init_331 ?_
  refine go_newa (pc := 334) (sl := 18137) (kd := 10) (len := 585) (by decide) aC_int (by decide) (by decide) (Nat.le_of_ble_eq_true rfl) (Nat.le_of_ble_eq_true rfl) (Nat.le_of_ble_eq_true rfl) dX8_init_334 ?_
  refine go_putR (pc := 336) (x := .ref 110) fP_X8_130 rfl (Nat.le_of_ble_eq_true rfl) rfl (fun _ => rfl) (fun _ => rfl) dX8_init_336 ?_
  refine go_aload_n (pc := 339) rfl dX8_init_339 ?_
  refine go_bipush (pc := 340) (v := 40) (by decide) dX8_init_340 ?_
  refine go_newa (pc := 342) (sl := 18722) (kd := 11) (len := 40) (by decide) aC_long (by decide) (by decide) (Nat.le_of_ble_eq_true rfl) (Nat.le_of_ble_eq_true rfl) (Nat.le_of_ble_eq_true rfl) dX8_init_342 ?_
  refine go_putR (pc := 344) (x := .ref 111) fP_X8_133 rfl (Nat.le_of_ble_eq_true rfl) rfl (fun _ => rfl) (fun _ => rfl) dX8_init_344 ?_
  refine go_aload_n (pc := 347) rfl dX8_init_347 ?_
  refine go_bipush (pc := 348) (v := 19) (by decide) dX8_init_348 ?_
  refine go_newa (pc := 350) (sl := 18762) (kd := 10) (len := 19) (by decide) aC_int (by decide) (by decide) (Nat.le_of_ble_eq_true rfl) (Nat.le_of_ble_eq_true rfl) (Nat.le_of_ble_eq_true rfl) dX8_init_350 ?_
  refine go_putR (pc := 352) (x := .ref 112) fP_X8_136 rfl (Nat.le_of_ble_eq_true rfl) rfl (fun _ => rfl) (fun _ => rfl) dX8_init_352 ?_
  refine go_aload_n (pc := 355) rfl dX8_init_355 ?_
  refine go_iconst (pc := 356) (v := 4) (by decide) dX8_init_356 ?_
  refine go_newa (pc := 357) (sl := 18781) (kd := 10) (len := 4) (by decide) aC_int (by decide) (by decide) (Nat.le_of_ble_eq_true rfl) (Nat.le_of_ble_eq_true rfl) (Nat.le_of_ble_eq_true rfl) dX8_init_357 ?_
  refine go_putR (pc := 359) (x := .ref 113) fP_X8_139 rfl (Nat.le_of_ble_eq_true rfl) rfl (fun _ => rfl) (fun _ => rfl) dX8_init_359 ?_
  refine go_aload_n (pc := 362) rfl dX8_init_362 ?_
  refine go_sipush (pc := 363) (v := 192) (by decide) dX8_init_363 ?_
  refine go_newa (pc := 366) (sl := 18785) (kd := 10) (len := 192) (by decide) aC_int (by decide) (by decide) (Nat.le_of_ble_eq_true rfl) (Nat.le_of_ble_eq_true rfl) (Nat.le_of_ble_eq_true rfl) dX8_init_366 ?_
  refine go_putR (pc := 368) (x := .ref 114) fP_X8_142 rfl (Nat.le_of_ble_eq_true rfl) rfl (fun _ => rfl) (fun _ => rfl) dX8_init_368 ?_
  refine go_aload_n (pc := 371) rfl dX8_init_371 ?_
  refine go_sipush (pc := 372) (v := 500) (by decide) dX8_init_372 ?_
  refine go_newa (pc := 375) (sl := 18977) (kd := 10) (len := 500) (by decide) aC_int (by decide) (by decide) (Nat.le_of_ble_eq_true rfl) (Nat.le_of_ble_eq_true rfl) (Nat.le_of_ble_eq_true rfl) dX8_init_375 ?_
  refine go_putR (pc := 377) (x := .ref 115) fP_X8_145 rfl (Nat.le_of_ble_eq_true rfl) rfl (fun _ => rfl) (fun _ => rfl) dX8_init_377 ?_
  refine go_aload_n (pc := 380) rfl dX8_init_380 ?_
  refine go_sipush (pc := 381) (v := 500) (by decide) dX8_init_381 ?_
  refine go_newa (pc := 384) (sl := 19477) (kd := 10) (len := 500) (by decide) aC_int (by decide) (by decide) (Nat.le_of_ble_eq_true rfl) (Nat.le_of_ble_eq_true rfl) (Nat.le_of_ble_eq_true rfl) dX8_init_384 ?_
  refine go_putR (pc := 386) (x := .ref 116) fP_X8_148 rfl (Nat.le_of_ble_eq_true rfl) rfl (fun _ => rfl) (fun _ => rfl) dX8_init_386 ?_
  exact go_vret (pc := 389) (⟨rfl, rfl⟩) rfl (Nat.le_of_ble_eq_true rfl) dX8_init_389
end
