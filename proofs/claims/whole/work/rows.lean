section
-- ===== PART A: goes FIRST, ahead of the names: the tables' words, and 'selects' of the private methods out of them =====
/-- a private method of a class that the tables say can be made, by its rows of tables_1 -/
def lw_okq (q : MethodName × Nat) : Prop := (q.1.cls ≠ "java/lang/invoke/MethodHandle" ∧ q.1.cls ≠ "java/lang/invoke/VarHandle") ∧ Cond.instantiable q.1.cls q.2 ∈ tables_1 ∧ Cond.privateMethod q.1 ∈ tables_1 ∧ Cond.instanceMethod q.1 ∈ tables_1
theorem lw_p0 : lw_okq (⟨"TailMerger$Program", "appendBlock", "()I"⟩, 5) := ⟨⟨by decide +kernel, by decide +kernel⟩, List.mem_of_getElem? (i := 18) (by decide +kernel), List.mem_of_getElem? (i := 134) (by decide +kernel), List.mem_of_getElem? (i := 135) (by decide +kernel)⟩
theorem lw_p1 : lw_okq (⟨"TailMerger$Block", "clear", "()V"⟩, 8) := ⟨⟨by decide +kernel, by decide +kernel⟩, List.mem_of_getElem? (i := 25) (by decide +kernel), List.mem_of_getElem? (i := 138) (by decide +kernel), List.mem_of_getElem? (i := 139) (by decide +kernel)⟩
theorem lw_p2 : lw_okq (⟨"TailMerger$Block", "terminate", "(IIII)I"⟩, 8) := ⟨⟨by decide +kernel, by decide +kernel⟩, List.mem_of_getElem? (i := 25) (by decide +kernel), List.mem_of_getElem? (i := 142) (by decide +kernel), List.mem_of_getElem? (i := 143) (by decide +kernel)⟩
theorem lw_p3 : lw_okq (⟨"TailMerger$Program", "has", "(I)Z"⟩, 5) := ⟨⟨by decide +kernel, by decide +kernel⟩, List.mem_of_getElem? (i := 18) (by decide +kernel), List.mem_of_getElem? (i := 150) (by decide +kernel), List.mem_of_getElem? (i := 151) (by decide +kernel)⟩
theorem lw_p4 : lw_okq (⟨"TailMerger$Block", "append", "(IIIII)I"⟩, 8) := ⟨⟨by decide +kernel, by decide +kernel⟩, List.mem_of_getElem? (i := 25) (by decide +kernel), List.mem_of_getElem? (i := 160) (by decide +kernel), List.mem_of_getElem? (i := 161) (by decide +kernel)⟩
theorem lw_p5 : lw_okq (⟨"TailMerger", "instructionError", "(II)I"⟩, 4) := ⟨⟨by decide +kernel, by decide +kernel⟩, List.mem_of_getElem? (i := 10) (by decide +kernel), List.mem_of_getElem? (i := 189) (by decide +kernel), List.mem_of_getElem? (i := 190) (by decide +kernel)⟩
theorem lw_p6 : lw_okq (⟨"TailMerger$Block", "hashOfTail", "(I)I"⟩, 8) := ⟨⟨by decide +kernel, by decide +kernel⟩, List.mem_of_getElem? (i := 25) (by decide +kernel), List.mem_of_getElem? (i := 221) (by decide +kernel), List.mem_of_getElem? (i := 222) (by decide +kernel)⟩
theorem lw_p7 : lw_okq (⟨"TailMerger", "pairError", "(II)I"⟩, 4) := ⟨⟨by decide +kernel, by decide +kernel⟩, List.mem_of_getElem? (i := 10) (by decide +kernel), List.mem_of_getElem? (i := 230) (by decide +kernel), List.mem_of_getElem? (i := 231) (by decide +kernel)⟩
theorem lw_p8 : lw_okq (⟨"TailMerger$Block", "tailSharedWith", "(LTailMerger$Block;)I"⟩, 8) := ⟨⟨by decide +kernel, by decide +kernel⟩, List.mem_of_getElem? (i := 25) (by decide +kernel), List.mem_of_getElem? (i := 234) (by decide +kernel), List.mem_of_getElem? (i := 235) (by decide +kernel)⟩
theorem lw_p9 : lw_okq (⟨"TailMerger$Block", "hasTerminatorOf", "(LTailMerger$Block;)Z"⟩, 8) := ⟨⟨by decide +kernel, by decide +kernel⟩, List.mem_of_getElem? (i := 25) (by decide +kernel), List.mem_of_getElem? (i := 238) (by decide +kernel), List.mem_of_getElem? (i := 239) (by decide +kernel)⟩
theorem lw_p10 : lw_okq (⟨"TailMerger$Block", "isEqualAt", "(LTailMerger$Block;I)Z"⟩, 8) := ⟨⟨by decide +kernel, by decide +kernel⟩, List.mem_of_getElem? (i := 25) (by decide +kernel), List.mem_of_getElem? (i := 245) (by decide +kernel), List.mem_of_getElem? (i := 246) (by decide +kernel)⟩
theorem lw_p11 : lw_okq (⟨"TailMerger$Block", "parameterTailWith", "(LTailMerger$Block;)I"⟩, 8) := ⟨⟨by decide +kernel, by decide +kernel⟩, List.mem_of_getElem? (i := 25) (by decide +kernel), List.mem_of_getElem? (i := 253) (by decide +kernel), List.mem_of_getElem? (i := 254) (by decide +kernel)⟩
theorem lw_p12 : lw_okq (⟨"TailMerger$Block", "fitsParameterTail", "(LTailMerger$Block;IZ)Z"⟩, 8) := ⟨⟨by decide +kernel, by decide +kernel⟩, List.mem_of_getElem? (i := 25) (by decide +kernel), List.mem_of_getElem? (i := 257) (by decide +kernel), List.mem_of_getElem? (i := 258) (by decide +kernel)⟩
theorem lw_p13 : lw_okq (⟨"TailMerger$Block", "usesParameterAt", "(I)Z"⟩, 8) := ⟨⟨by decide +kernel, by decide +kernel⟩, List.mem_of_getElem? (i := 25) (by decide +kernel), List.mem_of_getElem? (i := 261) (by decide +kernel), List.mem_of_getElem? (i := 262) (by decide +kernel)⟩
theorem lw_p14 : lw_okq (⟨"TailMerger$Block", "isSameConstTargetAt", "(LTailMerger$Block;I)Z"⟩, 8) := ⟨⟨by decide +kernel, by decide +kernel⟩, List.mem_of_getElem? (i := 25) (by decide +kernel), List.mem_of_getElem? (i := 265) (by decide +kernel), List.mem_of_getElem? (i := 266) (by decide +kernel)⟩
theorem lw_p15 : lw_okq (⟨"TailMerger$Program", "size", "()I"⟩, 5) := ⟨⟨by decide +kernel, by decide +kernel⟩, List.mem_of_getElem? (i := 18) (by decide +kernel), List.mem_of_getElem? (i := 277) (by decide +kernel), List.mem_of_getElem? (i := 278) (by decide +kernel)⟩
def lw_privs_1 : List (MethodName × Nat) := [(⟨"TailMerger$Program", "appendBlock", "()I"⟩, 5), (⟨"TailMerger$Block", "clear", "()V"⟩, 8), (⟨"TailMerger$Block", "terminate", "(IIII)I"⟩, 8), (⟨"TailMerger$Program", "has", "(I)Z"⟩, 5), (⟨"TailMerger$Block", "append", "(IIIII)I"⟩, 8), (⟨"TailMerger", "instructionError", "(II)I"⟩, 4), (⟨"TailMerger$Block", "hashOfTail", "(I)I"⟩, 8), (⟨"TailMerger", "pairError", "(II)I"⟩, 4), (⟨"TailMerger$Block", "tailSharedWith", "(LTailMerger$Block;)I"⟩, 8), (⟨"TailMerger$Block", "hasTerminatorOf", "(LTailMerger$Block;)Z"⟩, 8), (⟨"TailMerger$Block", "isEqualAt", "(LTailMerger$Block;I)Z"⟩, 8), (⟨"TailMerger$Block", "parameterTailWith", "(LTailMerger$Block;)I"⟩, 8), (⟨"TailMerger$Block", "fitsParameterTail", "(LTailMerger$Block;IZ)Z"⟩, 8), (⟨"TailMerger$Block", "usesParameterAt", "(I)Z"⟩, 8), (⟨"TailMerger$Block", "isSameConstTargetAt", "(LTailMerger$Block;I)Z"⟩, 8), (⟨"TailMerger$Program", "size", "()I"⟩, 5)]
theorem lw_r1 : ∀ q ∈ lw_privs_1, lw_okq q := List.forall_mem_cons.mpr ⟨lw_p0, List.forall_mem_cons.mpr ⟨lw_p1, List.forall_mem_cons.mpr ⟨lw_p2, List.forall_mem_cons.mpr ⟨lw_p3, List.forall_mem_cons.mpr ⟨lw_p4, List.forall_mem_cons.mpr ⟨lw_p5, List.forall_mem_cons.mpr ⟨lw_p6, List.forall_mem_cons.mpr ⟨lw_p7, List.forall_mem_cons.mpr ⟨lw_p8, List.forall_mem_cons.mpr ⟨lw_p9, List.forall_mem_cons.mpr ⟨lw_p10, List.forall_mem_cons.mpr ⟨lw_p11, List.forall_mem_cons.mpr ⟨lw_p12, List.forall_mem_cons.mpr ⟨lw_p13, List.forall_mem_cons.mpr ⟨lw_p14, List.forall_mem_cons.mpr ⟨lw_p15, fun _ h => absurd h List.not_mem_nil⟩⟩⟩⟩⟩⟩⟩⟩⟩⟩⟩⟩⟩⟩⟩⟩
theorem lw_p16 : lw_okq (⟨"TailMerger$Program", "terminatorCost", "(I)I"⟩, 5) := ⟨⟨by decide +kernel, by decide +kernel⟩, List.mem_of_getElem? (i := 18) (by decide +kernel), List.mem_of_getElem? (i := 281) (by decide +kernel), List.mem_of_getElem? (i := 282) (by decide +kernel)⟩
theorem lw_p17 : lw_okq (⟨"TailMerger", "tailOrError", "(I)I"⟩, 4) := ⟨⟨by decide +kernel, by decide +kernel⟩, List.mem_of_getElem? (i := 10) (by decide +kernel), List.mem_of_getElem? (i := 289) (by decide +kernel), List.mem_of_getElem? (i := 290) (by decide +kernel)⟩
theorem lw_p18 : lw_okq (⟨"TailMerger$Program", "tailOfSet", "(I)I"⟩, 5) := ⟨⟨by decide +kernel, by decide +kernel⟩, List.mem_of_getElem? (i := 18) (by decide +kernel), List.mem_of_getElem? (i := 299) (by decide +kernel), List.mem_of_getElem? (i := 300) (by decide +kernel)⟩
theorem lw_p19 : lw_okq (⟨"TailMerger$Program", "savingOfSet", "(II)I"⟩, 5) := ⟨⟨by decide +kernel, by decide +kernel⟩, List.mem_of_getElem? (i := 18) (by decide +kernel), List.mem_of_getElem? (i := 308) (by decide +kernel), List.mem_of_getElem? (i := 309) (by decide +kernel)⟩
theorem lw_p20 : lw_okq (⟨"TailMerger$Program", "savingOf", "(III)I"⟩, 5) := ⟨⟨by decide +kernel, by decide +kernel⟩, List.mem_of_getElem? (i := 18) (by decide +kernel), List.mem_of_getElem? (i := 313) (by decide +kernel), List.mem_of_getElem? (i := 314) (by decide +kernel)⟩
theorem lw_p21 : lw_okq (⟨"TailMerger$Program", "bestSet", "()I"⟩, 5) := ⟨⟨by decide +kernel, by decide +kernel⟩, List.mem_of_getElem? (i := 18) (by decide +kernel), List.mem_of_getElem? (i := 321) (by decide +kernel), List.mem_of_getElem? (i := 322) (by decide +kernel)⟩
theorem lw_p22 : lw_okq (⟨"TailMerger$Program", "compareWithLater", "(I)V"⟩, 5) := ⟨⟨by decide +kernel, by decide +kernel⟩, List.mem_of_getElem? (i := 18) (by decide +kernel), List.mem_of_getElem? (i := 325) (by decide +kernel), List.mem_of_getElem? (i := 326) (by decide +kernel)⟩
theorem lw_p23 : lw_okq (⟨"TailMerger$Program", "sharersFrom", "(II)I"⟩, 5) := ⟨⟨by decide +kernel, by decide +kernel⟩, List.mem_of_getElem? (i := 18) (by decide +kernel), List.mem_of_getElem? (i := 329) (by decide +kernel), List.mem_of_getElem? (i := 330) (by decide +kernel)⟩
theorem lw_p24 : lw_okq (⟨"TailMerger$Program", "mergeSet", "(II)I"⟩, 5) := ⟨⟨by decide +kernel, by decide +kernel⟩, List.mem_of_getElem? (i := 18) (by decide +kernel), List.mem_of_getElem? (i := 337) (by decide +kernel), List.mem_of_getElem? (i := 338) (by decide +kernel)⟩
theorem lw_p25 : lw_okq (⟨"TailMerger$Block", "uniteLines", "(LTailMerger$Block;I)V"⟩, 8) := ⟨⟨by decide +kernel, by decide +kernel⟩, List.mem_of_getElem? (i := 25) (by decide +kernel), List.mem_of_getElem? (i := 342) (by decide +kernel), List.mem_of_getElem? (i := 343) (by decide +kernel)⟩
theorem lw_p26 : lw_okq (⟨"TailMerger$Block", "appendTail", "(LTailMerger$Block;I)V"⟩, 8) := ⟨⟨by decide +kernel, by decide +kernel⟩, List.mem_of_getElem? (i := 25) (by decide +kernel), List.mem_of_getElem? (i := 346) (by decide +kernel), List.mem_of_getElem? (i := 347) (by decide +kernel)⟩
theorem lw_p27 : lw_okq (⟨"TailMerger$Block", "replaceTailByJump", "(II)V"⟩, 8) := ⟨⟨by decide +kernel, by decide +kernel⟩, List.mem_of_getElem? (i := 25) (by decide +kernel), List.mem_of_getElem? (i := 351) (by decide +kernel), List.mem_of_getElem? (i := 352) (by decide +kernel)⟩
theorem lw_p28 : lw_okq (⟨"TailMerger$Program", "savingWithParameter", "(II)I"⟩, 5) := ⟨⟨by decide +kernel, by decide +kernel⟩, List.mem_of_getElem? (i := 18) (by decide +kernel), List.mem_of_getElem? (i := 360) (by decide +kernel), List.mem_of_getElem? (i := 361) (by decide +kernel)⟩
theorem lw_p29 : lw_okq (⟨"TailMerger$Program", "mergePair", "(III)I"⟩, 5) := ⟨⟨by decide +kernel, by decide +kernel⟩, List.mem_of_getElem? (i := 18) (by decide +kernel), List.mem_of_getElem? (i := 368) (by decide +kernel), List.mem_of_getElem? (i := 369) (by decide +kernel)⟩
theorem lw_p30 : lw_okq (⟨"TailMerger$Block", "takeParameterAt", "(I)V"⟩, 8) := ⟨⟨by decide +kernel, by decide +kernel⟩, List.mem_of_getElem? (i := 25) (by decide +kernel), List.mem_of_getElem? (i := 373) (by decide +kernel), List.mem_of_getElem? (i := 374) (by decide +kernel)⟩
theorem lw_p31 : lw_okq (⟨"TailMerger$Block", "replaceTailByParameter", "(III)V"⟩, 8) := ⟨⟨by decide +kernel, by decide +kernel⟩, List.mem_of_getElem? (i := 25) (by decide +kernel), List.mem_of_getElem? (i := 377) (by decide +kernel), List.mem_of_getElem? (i := 378) (by decide +kernel)⟩
def lw_privs_2 : List (MethodName × Nat) := [(⟨"TailMerger$Program", "terminatorCost", "(I)I"⟩, 5), (⟨"TailMerger", "tailOrError", "(I)I"⟩, 4), (⟨"TailMerger$Program", "tailOfSet", "(I)I"⟩, 5), (⟨"TailMerger$Program", "savingOfSet", "(II)I"⟩, 5), (⟨"TailMerger$Program", "savingOf", "(III)I"⟩, 5), (⟨"TailMerger$Program", "bestSet", "()I"⟩, 5), (⟨"TailMerger$Program", "compareWithLater", "(I)V"⟩, 5), (⟨"TailMerger$Program", "sharersFrom", "(II)I"⟩, 5), (⟨"TailMerger$Program", "mergeSet", "(II)I"⟩, 5), (⟨"TailMerger$Block", "uniteLines", "(LTailMerger$Block;I)V"⟩, 8), (⟨"TailMerger$Block", "appendTail", "(LTailMerger$Block;I)V"⟩, 8), (⟨"TailMerger$Block", "replaceTailByJump", "(II)V"⟩, 8), (⟨"TailMerger$Program", "savingWithParameter", "(II)I"⟩, 5), (⟨"TailMerger$Program", "mergePair", "(III)I"⟩, 5), (⟨"TailMerger$Block", "takeParameterAt", "(I)V"⟩, 8), (⟨"TailMerger$Block", "replaceTailByParameter", "(III)V"⟩, 8)]
theorem lw_r2 : ∀ q ∈ lw_privs_2, lw_okq q := List.forall_mem_cons.mpr ⟨lw_p16, List.forall_mem_cons.mpr ⟨lw_p17, List.forall_mem_cons.mpr ⟨lw_p18, List.forall_mem_cons.mpr ⟨lw_p19, List.forall_mem_cons.mpr ⟨lw_p20, List.forall_mem_cons.mpr ⟨lw_p21, List.forall_mem_cons.mpr ⟨lw_p22, List.forall_mem_cons.mpr ⟨lw_p23, List.forall_mem_cons.mpr ⟨lw_p24, List.forall_mem_cons.mpr ⟨lw_p25, List.forall_mem_cons.mpr ⟨lw_p26, List.forall_mem_cons.mpr ⟨lw_p27, List.forall_mem_cons.mpr ⟨lw_p28, List.forall_mem_cons.mpr ⟨lw_p29, List.forall_mem_cons.mpr ⟨lw_p30, List.forall_mem_cons.mpr ⟨lw_p31, fun _ h => absurd h List.not_mem_nil⟩⟩⟩⟩⟩⟩⟩⟩⟩⟩⟩⟩⟩⟩⟩⟩
theorem lw_p32 : lw_okq (⟨"TailMerger$Machine", "execute", "(LTailMerger$Program;I)I"⟩, 3) := ⟨⟨by decide +kernel, by decide +kernel⟩, List.mem_of_getElem? (i := 97) (by decide +kernel), List.mem_of_getElem? (i := 394) (by decide +kernel), List.mem_of_getElem? (i := 395) (by decide +kernel)⟩
theorem lw_p33 : lw_okq (⟨"TailMerger$Machine", "perform", "(LTailMerger$Block;I)V"⟩, 3) := ⟨⟨by decide +kernel, by decide +kernel⟩, List.mem_of_getElem? (i := 97) (by decide +kernel), List.mem_of_getElem? (i := 401) (by decide +kernel), List.mem_of_getElem? (i := 402) (by decide +kernel)⟩
theorem lw_p34 : lw_okq (⟨"TailMerger$Machine", "emit", "(I)V"⟩, 3) := ⟨⟨by decide +kernel, by decide +kernel⟩, List.mem_of_getElem? (i := 97) (by decide +kernel), List.mem_of_getElem? (i := 405) (by decide +kernel), List.mem_of_getElem? (i := 406) (by decide +kernel)⟩
theorem lw_p35 : lw_okq (⟨"TailMerger$Machine", "successorOf", "(LTailMerger$Block;)I"⟩, 3) := ⟨⟨by decide +kernel, by decide +kernel⟩, List.mem_of_getElem? (i := 97) (by decide +kernel), List.mem_of_getElem? (i := 409) (by decide +kernel), List.mem_of_getElem? (i := 410) (by decide +kernel)⟩
theorem lw_p36 : lw_okq (⟨"TailMerger$Program", "copyFrom", "(LTailMerger$Program;)V"⟩, 5) := ⟨⟨by decide +kernel, by decide +kernel⟩, List.mem_of_getElem? (i := 18) (by decide +kernel), List.mem_of_getElem? (i := 429) (by decide +kernel), List.mem_of_getElem? (i := 430) (by decide +kernel)⟩
theorem lw_p37 : lw_okq (⟨"TailMerger$Block", "copyFrom", "(LTailMerger$Block;)V"⟩, 8) := ⟨⟨by decide +kernel, by decide +kernel⟩, List.mem_of_getElem? (i := 25) (by decide +kernel), List.mem_of_getElem? (i := 433) (by decide +kernel), List.mem_of_getElem? (i := 434) (by decide +kernel)⟩
theorem lw_p38 : lw_okq (⟨"TailMergerModel", "newBlock", "()I"⟩, 7) := ⟨⟨by decide +kernel, by decide +kernel⟩, List.mem_of_getElem? (i := 443) (by decide +kernel), List.mem_of_getElem? (i := 475) (by decide +kernel), List.mem_of_getElem? (i := 476) (by decide +kernel)⟩
theorem lw_p39 : lw_okq (⟨"TailMergerModel", "terminate", "(IIIII)V"⟩, 7) := ⟨⟨by decide +kernel, by decide +kernel⟩, List.mem_of_getElem? (i := 443) (by decide +kernel), List.mem_of_getElem? (i := 482) (by decide +kernel), List.mem_of_getElem? (i := 483) (by decide +kernel)⟩
theorem lw_p40 : lw_okq (⟨"TailMergerModel", "isBlock", "(I)Z"⟩, 7) := ⟨⟨by decide +kernel, by decide +kernel⟩, List.mem_of_getElem? (i := 443) (by decide +kernel), List.mem_of_getElem? (i := 493) (by decide +kernel), List.mem_of_getElem? (i := 494) (by decide +kernel)⟩
theorem lw_p41 : lw_okq (⟨"TailMergerModel", "many", "(I)I"⟩, 7) := ⟨⟨by decide +kernel, by decide +kernel⟩, List.mem_of_getElem? (i := 443) (by decide +kernel), List.mem_of_getElem? (i := 506) (by decide +kernel), List.mem_of_getElem? (i := 507) (by decide +kernel)⟩
theorem lw_p42 : lw_okq (⟨"TailMergerModel", "append", "(IIIIII)V"⟩, 7) := ⟨⟨by decide +kernel, by decide +kernel⟩, List.mem_of_getElem? (i := 443) (by decide +kernel), List.mem_of_getElem? (i := 510) (by decide +kernel), List.mem_of_getElem? (i := 511) (by decide +kernel)⟩
theorem lw_p43 : lw_okq (⟨"TailMergerModel", "field", "(III)I"⟩, 7) := ⟨⟨by decide +kernel, by decide +kernel⟩, List.mem_of_getElem? (i := 443) (by decide +kernel), List.mem_of_getElem? (i := 541) (by decide +kernel), List.mem_of_getElem? (i := 542) (by decide +kernel)⟩
theorem lw_p44 : lw_okq (⟨"TailMergerModel", "wrongPair", "(II)I"⟩, 7) := ⟨⟨by decide +kernel, by decide +kernel⟩, List.mem_of_getElem? (i := 443) (by decide +kernel), List.mem_of_getElem? (i := 578) (by decide +kernel), List.mem_of_getElem? (i := 579) (by decide +kernel)⟩
theorem lw_p45 : lw_okq (⟨"TailMergerModel", "tailOfTwo", "(II)I"⟩, 7) := ⟨⟨by decide +kernel, by decide +kernel⟩, List.mem_of_getElem? (i := 443) (by decide +kernel), List.mem_of_getElem? (i := 582) (by decide +kernel), List.mem_of_getElem? (i := 583) (by decide +kernel)⟩
theorem lw_p46 : lw_okq (⟨"TailMergerModel", "sameEnds", "(II)Z"⟩, 7) := ⟨⟨by decide +kernel, by decide +kernel⟩, List.mem_of_getElem? (i := 443) (by decide +kernel), List.mem_of_getElem? (i := 586) (by decide +kernel), List.mem_of_getElem? (i := 587) (by decide +kernel)⟩
theorem lw_p47 : lw_okq (⟨"TailMergerModel", "sameFromEnd", "(III)Z"⟩, 7) := ⟨⟨by decide +kernel, by decide +kernel⟩, List.mem_of_getElem? (i := 443) (by decide +kernel), List.mem_of_getElem? (i := 590) (by decide +kernel), List.mem_of_getElem? (i := 591) (by decide +kernel)⟩
def lw_privs_3 : List (MethodName × Nat) := [(⟨"TailMerger$Machine", "execute", "(LTailMerger$Program;I)I"⟩, 3), (⟨"TailMerger$Machine", "perform", "(LTailMerger$Block;I)V"⟩, 3), (⟨"TailMerger$Machine", "emit", "(I)V"⟩, 3), (⟨"TailMerger$Machine", "successorOf", "(LTailMerger$Block;)I"⟩, 3), (⟨"TailMerger$Program", "copyFrom", "(LTailMerger$Program;)V"⟩, 5), (⟨"TailMerger$Block", "copyFrom", "(LTailMerger$Block;)V"⟩, 8), (⟨"TailMergerModel", "newBlock", "()I"⟩, 7), (⟨"TailMergerModel", "terminate", "(IIIII)V"⟩, 7), (⟨"TailMergerModel", "isBlock", "(I)Z"⟩, 7), (⟨"TailMergerModel", "many", "(I)I"⟩, 7), (⟨"TailMergerModel", "append", "(IIIIII)V"⟩, 7), (⟨"TailMergerModel", "field", "(III)I"⟩, 7), (⟨"TailMergerModel", "wrongPair", "(II)I"⟩, 7), (⟨"TailMergerModel", "tailOfTwo", "(II)I"⟩, 7), (⟨"TailMergerModel", "sameEnds", "(II)Z"⟩, 7), (⟨"TailMergerModel", "sameFromEnd", "(III)Z"⟩, 7)]
theorem lw_r3 : ∀ q ∈ lw_privs_3, lw_okq q := List.forall_mem_cons.mpr ⟨lw_p32, List.forall_mem_cons.mpr ⟨lw_p33, List.forall_mem_cons.mpr ⟨lw_p34, List.forall_mem_cons.mpr ⟨lw_p35, List.forall_mem_cons.mpr ⟨lw_p36, List.forall_mem_cons.mpr ⟨lw_p37, List.forall_mem_cons.mpr ⟨lw_p38, List.forall_mem_cons.mpr ⟨lw_p39, List.forall_mem_cons.mpr ⟨lw_p40, List.forall_mem_cons.mpr ⟨lw_p41, List.forall_mem_cons.mpr ⟨lw_p42, List.forall_mem_cons.mpr ⟨lw_p43, List.forall_mem_cons.mpr ⟨lw_p44, List.forall_mem_cons.mpr ⟨lw_p45, List.forall_mem_cons.mpr ⟨lw_p46, List.forall_mem_cons.mpr ⟨lw_p47, fun _ h => absurd h List.not_mem_nil⟩⟩⟩⟩⟩⟩⟩⟩⟩⟩⟩⟩⟩⟩⟩⟩
theorem lw_p48 : lw_okq (⟨"TailMergerModel", "parameterLength", "(II)I"⟩, 7) := ⟨⟨by decide +kernel, by decide +kernel⟩, List.mem_of_getElem? (i := 443) (by decide +kernel), List.mem_of_getElem? (i := 598) (by decide +kernel), List.mem_of_getElem? (i := 599) (by decide +kernel)⟩
theorem lw_p49 : lw_okq (⟨"TailMergerModel", "uses7", "(II)Z"⟩, 7) := ⟨⟨by decide +kernel, by decide +kernel⟩, List.mem_of_getElem? (i := 443) (by decide +kernel), List.mem_of_getElem? (i := 602) (by decide +kernel), List.mem_of_getElem? (i := 603) (by decide +kernel)⟩
theorem lw_p50 : lw_okq (⟨"TailMergerModel", "canDiffer", "(III)Z"⟩, 7) := ⟨⟨by decide +kernel, by decide +kernel⟩, List.mem_of_getElem? (i := 443) (by decide +kernel), List.mem_of_getElem? (i := 606) (by decide +kernel), List.mem_of_getElem? (i := 607) (by decide +kernel)⟩
theorem lw_p51 : lw_okq (⟨"TailMergerModel", "costOf", "(I)I"⟩, 7) := ⟨⟨by decide +kernel, by decide +kernel⟩, List.mem_of_getElem? (i := 443) (by decide +kernel), List.mem_of_getElem? (i := 618) (by decide +kernel), List.mem_of_getElem? (i := 619) (by decide +kernel)⟩
theorem lw_p52 : lw_okq (⟨"TailMergerModel", "wrongSet", "(I)I"⟩, 7) := ⟨⟨by decide +kernel, by decide +kernel⟩, List.mem_of_getElem? (i := 443) (by decide +kernel), List.mem_of_getElem? (i := 626) (by decide +kernel), List.mem_of_getElem? (i := 627) (by decide +kernel)⟩
theorem lw_p53 : lw_okq (⟨"TailMergerModel", "tailOf", "(I)I"⟩, 7) := ⟨⟨by decide +kernel, by decide +kernel⟩, List.mem_of_getElem? (i := 443) (by decide +kernel), List.mem_of_getElem? (i := 633) (by decide +kernel), List.mem_of_getElem? (i := 634) (by decide +kernel)⟩
theorem lw_p54 : lw_okq (⟨"TailMergerModel", "savingOf", "(I)I"⟩, 7) := ⟨⟨by decide +kernel, by decide +kernel⟩, List.mem_of_getElem? (i := 443) (by decide +kernel), List.mem_of_getElem? (i := 640) (by decide +kernel), List.mem_of_getElem? (i := 641) (by decide +kernel)⟩
theorem lw_p55 : lw_okq (⟨"TailMergerModel", "findBest", "()I"⟩, 7) := ⟨⟨by decide +kernel, by decide +kernel⟩, List.mem_of_getElem? (i := 443) (by decide +kernel), List.mem_of_getElem? (i := 648) (by decide +kernel), List.mem_of_getElem? (i := 649) (by decide +kernel)⟩
theorem lw_p56 : lw_okq (⟨"TailMergerModel", "mergeSet", "(I)I"⟩, 7) := ⟨⟨by decide +kernel, by decide +kernel⟩, List.mem_of_getElem? (i := 443) (by decide +kernel), List.mem_of_getElem? (i := 656) (by decide +kernel), List.mem_of_getElem? (i := 657) (by decide +kernel)⟩
theorem lw_p57 : lw_okq (⟨"TailMergerModel", "copyTail", "(III)V"⟩, 7) := ⟨⟨by decide +kernel, by decide +kernel⟩, List.mem_of_getElem? (i := 443) (by decide +kernel), List.mem_of_getElem? (i := 660) (by decide +kernel), List.mem_of_getElem? (i := 661) (by decide +kernel)⟩
theorem lw_p58 : lw_okq (⟨"TailMergerModel", "uniteLines", "(III)V"⟩, 7) := ⟨⟨by decide +kernel, by decide +kernel⟩, List.mem_of_getElem? (i := 443) (by decide +kernel), List.mem_of_getElem? (i := 664) (by decide +kernel), List.mem_of_getElem? (i := 665) (by decide +kernel)⟩
theorem lw_p59 : lw_okq (⟨"TailMergerModel", "cutTail", "(III)V"⟩, 7) := ⟨⟨by decide +kernel, by decide +kernel⟩, List.mem_of_getElem? (i := 443) (by decide +kernel), List.mem_of_getElem? (i := 668) (by decide +kernel), List.mem_of_getElem? (i := 669) (by decide +kernel)⟩
theorem lw_p60 : lw_okq (⟨"TailMergerModel", "passParameter", "(IIII)V"⟩, 7) := ⟨⟨by decide +kernel, by decide +kernel⟩, List.mem_of_getElem? (i := 443) (by decide +kernel), List.mem_of_getElem? (i := 680) (by decide +kernel), List.mem_of_getElem? (i := 681) (by decide +kernel)⟩
theorem lw_p61 : lw_okq (⟨"TailMergerModel", "execute", "(I)V"⟩, 7) := ⟨⟨by decide +kernel, by decide +kernel⟩, List.mem_of_getElem? (i := 443) (by decide +kernel), List.mem_of_getElem? (i := 696) (by decide +kernel), List.mem_of_getElem? (i := 697) (by decide +kernel)⟩
theorem lw_p62 : lw_okq (⟨"TailMergerModel", "nextOf", "(I)I"⟩, 7) := ⟨⟨by decide +kernel, by decide +kernel⟩, List.mem_of_getElem? (i := 443) (by decide +kernel), List.mem_of_getElem? (i := 700) (by decide +kernel), List.mem_of_getElem? (i := 701) (by decide +kernel)⟩
def lw_privs_4 : List (MethodName × Nat) := [(⟨"TailMergerModel", "parameterLength", "(II)I"⟩, 7), (⟨"TailMergerModel", "uses7", "(II)Z"⟩, 7), (⟨"TailMergerModel", "canDiffer", "(III)Z"⟩, 7), (⟨"TailMergerModel", "costOf", "(I)I"⟩, 7), (⟨"TailMergerModel", "wrongSet", "(I)I"⟩, 7), (⟨"TailMergerModel", "tailOf", "(I)I"⟩, 7), (⟨"TailMergerModel", "savingOf", "(I)I"⟩, 7), (⟨"TailMergerModel", "findBest", "()I"⟩, 7), (⟨"TailMergerModel", "mergeSet", "(I)I"⟩, 7), (⟨"TailMergerModel", "copyTail", "(III)V"⟩, 7), (⟨"TailMergerModel", "uniteLines", "(III)V"⟩, 7), (⟨"TailMergerModel", "cutTail", "(III)V"⟩, 7), (⟨"TailMergerModel", "passParameter", "(IIII)V"⟩, 7), (⟨"TailMergerModel", "execute", "(I)V"⟩, 7), (⟨"TailMergerModel", "nextOf", "(I)I"⟩, 7)]
theorem lw_r4 : ∀ q ∈ lw_privs_4, lw_okq q := List.forall_mem_cons.mpr ⟨lw_p48, List.forall_mem_cons.mpr ⟨lw_p49, List.forall_mem_cons.mpr ⟨lw_p50, List.forall_mem_cons.mpr ⟨lw_p51, List.forall_mem_cons.mpr ⟨lw_p52, List.forall_mem_cons.mpr ⟨lw_p53, List.forall_mem_cons.mpr ⟨lw_p54, List.forall_mem_cons.mpr ⟨lw_p55, List.forall_mem_cons.mpr ⟨lw_p56, List.forall_mem_cons.mpr ⟨lw_p57, List.forall_mem_cons.mpr ⟨lw_p58, List.forall_mem_cons.mpr ⟨lw_p59, List.forall_mem_cons.mpr ⟨lw_p60, List.forall_mem_cons.mpr ⟨lw_p61, List.forall_mem_cons.mpr ⟨lw_p62, fun _ h => absurd h List.not_mem_nil⟩⟩⟩⟩⟩⟩⟩⟩⟩⟩⟩⟩⟩⟩⟩
def lw_privs : List (MethodName × Nat) := lw_privs_1 ++ (lw_privs_2 ++ (lw_privs_3 ++ (lw_privs_4)))
def lw_tbl : List Cond := k2_sels lw_privs ++ tables_1
theorem lw_privs_ok : ∀ q ∈ lw_privs, lw_okq q := by
  show ∀ q ∈ lw_privs_1 ++ (lw_privs_2 ++ (lw_privs_3 ++ (lw_privs_4))), lw_okq q
  exact List.forall_mem_append.mpr ⟨lw_r1, List.forall_mem_append.mpr ⟨lw_r2, List.forall_mem_append.mpr ⟨lw_r3, lw_r4⟩⟩⟩
-- ===== end of PART A; then your names; then what follows =====
end
section
/-! ===== BEGIN words of one list among another's, by their places ===== -/
theorem goodIn_r {big : List Cond} (ws : List Cond) (ps : List Nat) (hp : ws = ps.filterMap (fun i => big[i]?)) (h : ws.all goodWord = true) : GoodIn big ws := by
  intro w hw
  have h1 := List.all_eq_true.mp h w hw
  rw [hp] at hw
  obtain ⟨i, -, hi⟩ := List.mem_filterMap.mp hw
  have hm : w ∈ big := by first | exact List.mem_of_getElem? hi | exact List.getElem?_mem hi
  exact ⟨hm, good_of_word h1⟩
theorem goodIn_app {big a b : List Cond} (ha : GoodIn big a) (hb : GoodIn big b) : GoodIn big (a ++ b) := fun w h => (List.mem_append.mp h).elim (ha w) (hb w)
theorem goodIn_ca {big a b : List Cond} {c : Cond} (ha : GoodIn big (c :: a)) (hb : GoodIn big b) : GoodIn big (c :: (a ++ b)) := fun w h => (List.mem_cons.mp h).elim (fun e => ha w (List.mem_cons.mpr (Or.inl e))) (fun h => (List.mem_append.mp h).elim (fun h => ha w (List.mem_cons.mpr (Or.inr h))) (hb w))
theorem goodIn_sub {big ws : List Cond} (hm : ∀ w ∈ ws, w ∈ big) (h : ws.all goodWord = true) : GoodIn big ws := fun w hw => ⟨hm w hw, good_of_word (List.all_eq_true.mp h w hw)⟩
/-! ===== END ===== -/

/-! ===== BEGIN printed: names, fields, word lists, decode rows ===== -/
def RX0 : String := "TailMerger$Block"
def TX0 : u_T := fun k => match k with
  | 0 => ("TailMerger$Block", "opcodes", "[I", true)
  | 1 => ("TailMerger$Block", "destinations", "[I", true)
  | 2 => ("TailMerger$Block", "operandsA", "[I", true)
  | 3 => ("TailMerger$Block", "operandsB", "[I", true)
  | 4 => ("TailMerger$Block", "lineSets", "[I", true)
  | 5 => ("TailMerger$Block", "count", "I", false)
  | 6 => ("TailMerger$Block", "kind", "I", false)
  | _ => ("TailMerger$Block", "terminatorOperands", "[I", true)
def tyX0 : Nat → FieldType := fun k => match k with
  | 0 => .array .int
  | 1 => .array .int
  | 2 => .array .int
  | 3 => .array .int
  | 4 => .array .int
  | 5 => .int
  | 6 => .int
  | _ => .array .int
abbrev wsX00 : List Cond := u_ws RX0 TX0 8
theorem nmX0 : ∀ a, a < 8 → ∀ b, b < 8 → a ≠ b → (TX0 a).2.1 ≠ (TX0 b).2.1 := by decide +kernel
theorem tyX0_ok : ∀ k, k < 8 → parseFieldDescriptor (TX0 k).2.2.1 = some (tyX0 k) := by decide +kernel
abbrev cX0_init : ByteArray := prog_2_method_1_code
def yX0_init : MethodName := ⟨RX0, "<init>", "()V"⟩
abbrev cX0_clear : ByteArray := prog_2_method_2_code
def yX0_clear : MethodName := ⟨RX0, "clear", "()V"⟩
abbrev cX0_append : ByteArray := prog_2_method_3_code
def yX0_append : MethodName := ⟨RX0, "append", "(IIIII)I"⟩
abbrev cX0_terminate : ByteArray := prog_2_method_4_code
def yX0_terminate : MethodName := ⟨RX0, "terminate", "(IIII)I"⟩
abbrev cX0_copyFrom : ByteArray := prog_2_method_5_code
def yX0_copyFrom : MethodName := ⟨RX0, "copyFrom", "(LTailMerger$Block;)V"⟩
abbrev cX0_appendTail : ByteArray := prog_2_method_6_code
def yX0_appendTail : MethodName := ⟨RX0, "appendTail", "(LTailMerger$Block;I)V"⟩
abbrev cX0_uniteLines : ByteArray := prog_2_method_7_code
def yX0_uniteLines : MethodName := ⟨RX0, "uniteLines", "(LTailMerger$Block;I)V"⟩
abbrev cX0_replaceTailByJump : ByteArray := prog_2_method_8_code
def yX0_replaceTailByJump : MethodName := ⟨RX0, "replaceTailByJump", "(II)V"⟩
abbrev cX0_replaceTailByParameter : ByteArray := prog_2_method_9_code
def yX0_replaceTailByParameter : MethodName := ⟨RX0, "replaceTailByParameter", "(III)V"⟩
abbrev cX0_takeParameterAt : ByteArray := prog_2_method_10_code
def yX0_takeParameterAt : MethodName := ⟨RX0, "takeParameterAt", "(I)V"⟩
abbrev cX0_hashOfTail : ByteArray := prog_2_method_11_code
def yX0_hashOfTail : MethodName := ⟨RX0, "hashOfTail", "(I)I"⟩
abbrev cX0_tailSharedWith : ByteArray := prog_2_method_12_code
def yX0_tailSharedWith : MethodName := ⟨RX0, "tailSharedWith", "(LTailMerger$Block;)I"⟩
abbrev cX0_parameterTailWith : ByteArray := prog_2_method_13_code
def yX0_parameterTailWith : MethodName := ⟨RX0, "parameterTailWith", "(LTailMerger$Block;)I"⟩
abbrev cX0_fitsParameterTail : ByteArray := prog_2_method_14_code
def yX0_fitsParameterTail : MethodName := ⟨RX0, "fitsParameterTail", "(LTailMerger$Block;IZ)Z"⟩
abbrev cX0_hasTerminatorOf : ByteArray := prog_2_method_15_code
def yX0_hasTerminatorOf : MethodName := ⟨RX0, "hasTerminatorOf", "(LTailMerger$Block;)Z"⟩
abbrev cX0_isEqualAt : ByteArray := prog_2_method_16_code
def yX0_isEqualAt : MethodName := ⟨RX0, "isEqualAt", "(LTailMerger$Block;I)Z"⟩
abbrev cX0_isSameConstTargetAt : ByteArray := prog_2_method_17_code
def yX0_isSameConstTargetAt : MethodName := ⟨RX0, "isSameConstTargetAt", "(LTailMerger$Block;I)Z"⟩
abbrev cX0_usesParameterAt : ByteArray := prog_2_method_18_code
def yX0_usesParameterAt : MethodName := ⟨RX0, "usesParameterAt", "(I)Z"⟩
def RX1 : String := "TailMerger$Machine"
def TX1 : u_T := fun k => match k with
  | 0 => ("TailMerger$Machine", "values", "[I", true)
  | 1 => ("TailMerger$Machine", "emitted", "[I", true)
  | _ => ("TailMerger$Machine", "emittedCount", "I", false)
def tyX1 : Nat → FieldType := fun k => match k with
  | 0 => .array .int
  | 1 => .array .int
  | _ => .int
abbrev wsX10 : List Cond := u_ws RX1 TX1 3
theorem nmX1 : ∀ a, a < 3 → ∀ b, b < 3 → a ≠ b → (TX1 a).2.1 ≠ (TX1 b).2.1 := by decide +kernel
theorem tyX1_ok : ∀ k, k < 3 → parseFieldDescriptor (TX1 k).2.2.1 = some (tyX1 k) := by decide +kernel
abbrev cX1_init : ByteArray := prog_3_method_1_code
def yX1_init : MethodName := ⟨RX1, "<init>", "()V"⟩
abbrev cX1_execute : ByteArray := prog_3_method_2_code
def yX1_execute : MethodName := ⟨RX1, "execute", "(LTailMerger$Program;I)I"⟩
abbrev cX1_successorOf : ByteArray := prog_3_method_3_code
def yX1_successorOf : MethodName := ⟨RX1, "successorOf", "(LTailMerger$Block;)I"⟩
abbrev cX1_perform : ByteArray := prog_3_method_4_code
def yX1_perform : MethodName := ⟨RX1, "perform", "(LTailMerger$Block;I)V"⟩
abbrev cX1_emit : ByteArray := prog_3_method_5_code
def yX1_emit : MethodName := ⟨RX1, "emit", "(I)V"⟩
def RX2 : String := "TailMerger$Program"
def TX2 : u_T := fun k => match k with
  | 0 => ("TailMerger$Program", "blocks", "[LTailMerger$Block;", true)
  | 1 => ("TailMerger$Program", "count", "I", false)
  | 2 => ("TailMerger$Program", "jumpCost", "I", false)
  | 3 => ("TailMerger$Program", "initialValues", "[I", true)
  | _ => ("TailMerger$Program", "sharedLengths", "[I", true)
def tyX2 : Nat → FieldType := fun k => match k with
  | 0 => .array (.object "TailMerger$Block")
  | 1 => .int
  | 2 => .int
  | 3 => .array .int
  | _ => .array .int
abbrev wsX20 : List Cond := u_ws RX2 TX2 5
theorem nmX2 : ∀ a, a < 5 → ∀ b, b < 5 → a ≠ b → (TX2 a).2.1 ≠ (TX2 b).2.1 := by decide +kernel
theorem tyX2_ok : ∀ k, k < 5 → parseFieldDescriptor (TX2 k).2.2.1 = some (tyX2 k) := by decide +kernel
abbrev cX2_init : ByteArray := prog_4_method_1_code
def yX2_init : MethodName := ⟨RX2, "<init>", "()V"⟩
abbrev cX2_has : ByteArray := prog_4_method_2_code
def yX2_has : MethodName := ⟨RX2, "has", "(I)Z"⟩
abbrev cX2_appendBlock : ByteArray := prog_4_method_3_code
def yX2_appendBlock : MethodName := ⟨RX2, "appendBlock", "()I"⟩
abbrev cX2_copyFrom : ByteArray := prog_4_method_4_code
def yX2_copyFrom : MethodName := ⟨RX2, "copyFrom", "(LTailMerger$Program;)V"⟩
abbrev cX2_size : ByteArray := prog_4_method_5_code
def yX2_size : MethodName := ⟨RX2, "size", "()I"⟩
abbrev cX2_terminatorCost : ByteArray := prog_4_method_6_code
def yX2_terminatorCost : MethodName := ⟨RX2, "terminatorCost", "(I)I"⟩
abbrev cX2_tailOfSet : ByteArray := prog_4_method_7_code
def yX2_tailOfSet : MethodName := ⟨RX2, "tailOfSet", "(I)I"⟩
abbrev cX2_contains : ByteArray := prog_4_method_8_code
def yX2_contains : MethodName := ⟨RX2, "contains", "(II)Z"⟩
abbrev cX2_savingOfSet : ByteArray := prog_4_method_9_code
def yX2_savingOfSet : MethodName := ⟨RX2, "savingOfSet", "(II)I"⟩
abbrev cX2_savingOf : ByteArray := prog_4_method_10_code
def yX2_savingOf : MethodName := ⟨RX2, "savingOf", "(III)I"⟩
abbrev cX2_bestSet : ByteArray := prog_4_method_11_code
def yX2_bestSet : MethodName := ⟨RX2, "bestSet", "()I"⟩
abbrev cX2_compareWithLater : ByteArray := prog_4_method_12_code
def yX2_compareWithLater : MethodName := ⟨RX2, "compareWithLater", "(I)V"⟩
abbrev cX2_sharersFrom : ByteArray := prog_4_method_13_code
def yX2_sharersFrom : MethodName := ⟨RX2, "sharersFrom", "(II)I"⟩
abbrev cX2_mergeSet : ByteArray := prog_4_method_14_code
def yX2_mergeSet : MethodName := ⟨RX2, "mergeSet", "(II)I"⟩
abbrev cX2_savingWithParameter : ByteArray := prog_4_method_15_code
def yX2_savingWithParameter : MethodName := ⟨RX2, "savingWithParameter", "(II)I"⟩
abbrev cX2_mergePair : ByteArray := prog_4_method_16_code
def yX2_mergePair : MethodName := ⟨RX2, "mergePair", "(III)I"⟩
def RX3 : String := "TailMerger"
def TX3 : u_T := fun k => match k with
  | 0 => ("TailMerger", "program", "LTailMerger$Program;", true)
  | 1 => ("TailMerger", "slots", "[LTailMerger$Program;", true)
  | 2 => ("TailMerger", "saved", "[Z", true)
  | _ => ("TailMerger", "machine", "LTailMerger$Machine;", true)
def tyX3 : Nat → FieldType := fun k => match k with
  | 0 => .object "TailMerger$Program"
  | 1 => .array (.object "TailMerger$Program")
  | 2 => .array .boolean
  | _ => .object "TailMerger$Machine"
abbrev wsX30 : List Cond := u_ws RX3 TX3 4
theorem nmX3 : ∀ a, a < 4 → ∀ b, b < 4 → a ≠ b → (TX3 a).2.1 ≠ (TX3 b).2.1 := by decide +kernel
theorem tyX3_ok : ∀ k, k < 4 → parseFieldDescriptor (TX3 k).2.2.1 = some (tyX3 k) := by decide +kernel
abbrev cX3_init : ByteArray := prog_1_method_1_code
def yX3_init : MethodName := ⟨RX3, "<init>", "()V"⟩
abbrev cX3_addBlock : ByteArray := prog_1_method_2_code
def yX3_addBlock : MethodName := ⟨RX3, "addBlock", "()I"⟩
abbrev cX3_addInstruction : ByteArray := prog_1_method_3_code
def yX3_addInstruction : MethodName := ⟨RX3, "addInstruction", "(IIIIII)I"⟩
abbrev cX3_operandsFit : ByteArray := prog_1_method_4_code
def yX3_operandsFit : MethodName := ⟨RX3, "operandsFit", "(IIII)Z"⟩
abbrev cX3_isGeneral : ByteArray := prog_1_method_5_code
def yX3_isGeneral : MethodName := ⟨RX3, "isGeneral", "(I)Z"⟩
abbrev cX3_setJump : ByteArray := prog_1_method_6_code
def yX3_setJump : MethodName := ⟨RX3, "setJump", "(II)I"⟩
abbrev cX3_setBranch : ByteArray := prog_1_method_7_code
def yX3_setBranch : MethodName := ⟨RX3, "setBranch", "(IIII)I"⟩
abbrev cX3_setReturn : ByteArray := prog_1_method_8_code
def yX3_setReturn : MethodName := ⟨RX3, "setReturn", "(II)I"⟩
abbrev cX3_blockCount : ByteArray := prog_1_method_9_code
def yX3_blockCount : MethodName := ⟨RX3, "blockCount", "()I"⟩
abbrev cX3_instructionCount : ByteArray := prog_1_method_10_code
def yX3_instructionCount : MethodName := ⟨RX3, "instructionCount", "(I)I"⟩
abbrev cX3_opcode : ByteArray := prog_1_method_11_code
def yX3_opcode : MethodName := ⟨RX3, "opcode", "(II)I"⟩
abbrev cX3_destination : ByteArray := prog_1_method_12_code
def yX3_destination : MethodName := ⟨RX3, "destination", "(II)I"⟩
abbrev cX3_operandA : ByteArray := prog_1_method_13_code
def yX3_operandA : MethodName := ⟨RX3, "operandA", "(II)I"⟩
abbrev cX3_operandB : ByteArray := prog_1_method_14_code
def yX3_operandB : MethodName := ⟨RX3, "operandB", "(II)I"⟩
abbrev cX3_lines : ByteArray := prog_1_method_15_code
def yX3_lines : MethodName := ⟨RX3, "lines", "(II)I"⟩
abbrev cX3_instructionError : ByteArray := prog_1_method_16_code
def yX3_instructionError : MethodName := ⟨RX3, "instructionError", "(II)I"⟩
abbrev cX3_terminatorKind : ByteArray := prog_1_method_17_code
def yX3_terminatorKind : MethodName := ⟨RX3, "terminatorKind", "(I)I"⟩
abbrev cX3_terminatorOperand : ByteArray := prog_1_method_18_code
def yX3_terminatorOperand : MethodName := ⟨RX3, "terminatorOperand", "(II)I"⟩
abbrev cX3_tailHash : ByteArray := prog_1_method_19_code
def yX3_tailHash : MethodName := ⟨RX3, "tailHash", "(II)I"⟩
abbrev cX3_commonTail : ByteArray := prog_1_method_20_code
def yX3_commonTail : MethodName := ⟨RX3, "commonTail", "(II)I"⟩
abbrev cX3_parameterTail : ByteArray := prog_1_method_21_code
def yX3_parameterTail : MethodName := ⟨RX3, "parameterTail", "(II)I"⟩
abbrev cX3_pairError : ByteArray := prog_1_method_22_code
def yX3_pairError : MethodName := ⟨RX3, "pairError", "(II)I"⟩
abbrev cX3_setJumpCost : ByteArray := prog_1_method_23_code
def yX3_setJumpCost : MethodName := ⟨RX3, "setJumpCost", "(I)I"⟩
abbrev cX3_codeSize : ByteArray := prog_1_method_24_code
def yX3_codeSize : MethodName := ⟨RX3, "codeSize", "()I"⟩
abbrev cX3_tailSaving : ByteArray := prog_1_method_25_code
def yX3_tailSaving : MethodName := ⟨RX3, "tailSaving", "(I)I"⟩
abbrev cX3_tailOrError : ByteArray := prog_1_method_26_code
def yX3_tailOrError : MethodName := ⟨RX3, "tailOrError", "(I)I"⟩
abbrev cX3_bestTail : ByteArray := prog_1_method_27_code
def yX3_bestTail : MethodName := ⟨RX3, "bestTail", "()I"⟩
abbrev cX3_mergeTail : ByteArray := prog_1_method_28_code
def yX3_mergeTail : MethodName := ⟨RX3, "mergeTail", "(I)I"⟩
abbrev cX3_parameterSaving : ByteArray := prog_1_method_29_code
def yX3_parameterSaving : MethodName := ⟨RX3, "parameterSaving", "(II)I"⟩
abbrev cX3_mergeWithParameter : ByteArray := prog_1_method_30_code
def yX3_mergeWithParameter : MethodName := ⟨RX3, "mergeWithParameter", "(II)I"⟩
abbrev cX3_mergeAll : ByteArray := prog_1_method_31_code
def yX3_mergeAll : MethodName := ⟨RX3, "mergeAll", "()I"⟩
abbrev cX3_setRegister : ByteArray := prog_1_method_32_code
def yX3_setRegister : MethodName := ⟨RX3, "setRegister", "(II)I"⟩
abbrev cX3_run : ByteArray := prog_1_method_33_code
def yX3_run : MethodName := ⟨RX3, "run", "(I)I"⟩
abbrev cX3_traceLength : ByteArray := prog_1_method_34_code
def yX3_traceLength : MethodName := ⟨RX3, "traceLength", "()I"⟩
abbrev cX3_trace : ByteArray := prog_1_method_35_code
def yX3_trace : MethodName := ⟨RX3, "trace", "(I)I"⟩
abbrev cX3_register : ByteArray := prog_1_method_36_code
def yX3_register : MethodName := ⟨RX3, "register", "(I)I"⟩
abbrev cX3_save : ByteArray := prog_1_method_37_code
def yX3_save : MethodName := ⟨RX3, "save", "(I)I"⟩
abbrev cX3_restore : ByteArray := prog_1_method_38_code
def yX3_restore : MethodName := ⟨RX3, "restore", "(I)I"⟩
def RX4 : String := "TailMergerModel"
def TX4 : u_T := fun k => match k with
  | 0 => ("TailMergerModel", "state", "[I", true)
  | 1 => ("TailMergerModel", "slots", "[I", true)
  | 2 => ("TailMergerModel", "isSaved", "[Z", true)
  | 3 => ("TailMergerModel", "differsAt", "I", false)
  | 4 => ("TailMergerModel", "register", "[I", true)
  | 5 => ("TailMergerModel", "trace", "[I", true)
  | _ => ("TailMergerModel", "traced", "I", false)
def tyX4 : Nat → FieldType := fun k => match k with
  | 0 => .array .int
  | 1 => .array .int
  | 2 => .array .boolean
  | 3 => .int
  | 4 => .array .int
  | 5 => .array .int
  | _ => .int
abbrev wsX40 : List Cond := u_ws RX4 TX4 7
theorem nmX4 : ∀ a, a < 7 → ∀ b, b < 7 → a ≠ b → (TX4 a).2.1 ≠ (TX4 b).2.1 := by decide +kernel
theorem tyX4_ok : ∀ k, k < 7 → parseFieldDescriptor (TX4 k).2.2.1 = some (tyX4 k) := by decide +kernel
abbrev cX4_init : ByteArray := prog_6_method_1_code
def yX4_init : MethodName := ⟨RX4, "<init>", "()V"⟩
abbrev cX4_in : ByteArray := prog_6_method_2_code
def yX4_in : MethodName := ⟨RX4, "in", "(III)Z"⟩
abbrev cX4_isBlock : ByteArray := prog_6_method_3_code
def yX4_isBlock : MethodName := ⟨RX4, "isBlock", "(I)Z"⟩
abbrev cX4_base : ByteArray := prog_6_method_4_code
def yX4_base : MethodName := ⟨RX4, "base", "(I)I"⟩
abbrev cX4_many : ByteArray := prog_6_method_5_code
def yX4_many : MethodName := ⟨RX4, "many", "(I)I"⟩
abbrev cX4_at : ByteArray := prog_6_method_6_code
def yX4_at : MethodName := ⟨RX4, "at", "(II)I"⟩
abbrev cX4_end : ByteArray := prog_6_method_7_code
def yX4_end : MethodName := ⟨RX4, "end", "(I)I"⟩
abbrev cX4_terminate : ByteArray := prog_6_method_8_code
def yX4_terminate : MethodName := ⟨RX4, "terminate", "(IIIII)V"⟩
abbrev cX4_newBlock : ByteArray := prog_6_method_9_code
def yX4_newBlock : MethodName := ⟨RX4, "newBlock", "()I"⟩
abbrev cX4_addBlock : ByteArray := prog_6_method_10_code
def yX4_addBlock : MethodName := ⟨RX4, "addBlock", "()I"⟩
abbrev cX4_isRegister : ByteArray := prog_6_method_11_code
def yX4_isRegister : MethodName := ⟨RX4, "isRegister", "(I)Z"⟩
abbrev cX4_fits : ByteArray := prog_6_method_12_code
def yX4_fits : MethodName := ⟨RX4, "fits", "(IIII)Z"⟩
abbrev cX4_append : ByteArray := prog_6_method_13_code
def yX4_append : MethodName := ⟨RX4, "append", "(IIIIII)V"⟩
abbrev cX4_addInstruction : ByteArray := prog_6_method_14_code
def yX4_addInstruction : MethodName := ⟨RX4, "addInstruction", "(IIIIII)I"⟩
abbrev cX4_setJump : ByteArray := prog_6_method_15_code
def yX4_setJump : MethodName := ⟨RX4, "setJump", "(II)I"⟩
abbrev cX4_setBranch : ByteArray := prog_6_method_16_code
def yX4_setBranch : MethodName := ⟨RX4, "setBranch", "(IIII)I"⟩
abbrev cX4_setReturn : ByteArray := prog_6_method_17_code
def yX4_setReturn : MethodName := ⟨RX4, "setReturn", "(II)I"⟩
abbrev cX4_blockCount : ByteArray := prog_6_method_18_code
def yX4_blockCount : MethodName := ⟨RX4, "blockCount", "()I"⟩
abbrev cX4_instructionCount : ByteArray := prog_6_method_19_code
def yX4_instructionCount : MethodName := ⟨RX4, "instructionCount", "(I)I"⟩
abbrev cX4_field : ByteArray := prog_6_method_20_code
def yX4_field : MethodName := ⟨RX4, "field", "(III)I"⟩
abbrev cX4_opcode : ByteArray := prog_6_method_21_code
def yX4_opcode : MethodName := ⟨RX4, "opcode", "(II)I"⟩
abbrev cX4_destination : ByteArray := prog_6_method_22_code
def yX4_destination : MethodName := ⟨RX4, "destination", "(II)I"⟩
abbrev cX4_operandA : ByteArray := prog_6_method_23_code
def yX4_operandA : MethodName := ⟨RX4, "operandA", "(II)I"⟩
abbrev cX4_operandB : ByteArray := prog_6_method_24_code
def yX4_operandB : MethodName := ⟨RX4, "operandB", "(II)I"⟩
abbrev cX4_lines : ByteArray := prog_6_method_25_code
def yX4_lines : MethodName := ⟨RX4, "lines", "(II)I"⟩
abbrev cX4_terminatorKind : ByteArray := prog_6_method_26_code
def yX4_terminatorKind : MethodName := ⟨RX4, "terminatorKind", "(I)I"⟩
abbrev cX4_terminatorOperand : ByteArray := prog_6_method_27_code
def yX4_terminatorOperand : MethodName := ⟨RX4, "terminatorOperand", "(II)I"⟩
abbrev cX4_tailHash : ByteArray := prog_6_method_28_code
def yX4_tailHash : MethodName := ⟨RX4, "tailHash", "(II)I"⟩
abbrev cX4_sameEnds : ByteArray := prog_6_method_29_code
def yX4_sameEnds : MethodName := ⟨RX4, "sameEnds", "(II)Z"⟩
abbrev cX4_sameFromEnd : ByteArray := prog_6_method_30_code
def yX4_sameFromEnd : MethodName := ⟨RX4, "sameFromEnd", "(III)Z"⟩
abbrev cX4_tailOfTwo : ByteArray := prog_6_method_31_code
def yX4_tailOfTwo : MethodName := ⟨RX4, "tailOfTwo", "(II)I"⟩
abbrev cX4_wrongPair : ByteArray := prog_6_method_32_code
def yX4_wrongPair : MethodName := ⟨RX4, "wrongPair", "(II)I"⟩
abbrev cX4_commonTail : ByteArray := prog_6_method_33_code
def yX4_commonTail : MethodName := ⟨RX4, "commonTail", "(II)I"⟩
abbrev cX4_uses7 : ByteArray := prog_6_method_34_code
def yX4_uses7 : MethodName := ⟨RX4, "uses7", "(II)Z"⟩
abbrev cX4_canDiffer : ByteArray := prog_6_method_35_code
def yX4_canDiffer : MethodName := ⟨RX4, "canDiffer", "(III)Z"⟩
abbrev cX4_parameterLength : ByteArray := prog_6_method_36_code
def yX4_parameterLength : MethodName := ⟨RX4, "parameterLength", "(II)I"⟩
abbrev cX4_parameterTail : ByteArray := prog_6_method_37_code
def yX4_parameterTail : MethodName := ⟨RX4, "parameterTail", "(II)I"⟩
abbrev cX4_setJumpCost : ByteArray := prog_6_method_38_code
def yX4_setJumpCost : MethodName := ⟨RX4, "setJumpCost", "(I)I"⟩
abbrev cX4_costOf : ByteArray := prog_6_method_39_code
def yX4_costOf : MethodName := ⟨RX4, "costOf", "(I)I"⟩
abbrev cX4_codeSize : ByteArray := prog_6_method_40_code
def yX4_codeSize : MethodName := ⟨RX4, "codeSize", "()I"⟩
abbrev cX4_ones : ByteArray := prog_6_method_41_code
def yX4_ones : MethodName := ⟨RX4, "ones", "(I)I"⟩
abbrev cX4_lowest : ByteArray := prog_6_method_42_code
def yX4_lowest : MethodName := ⟨RX4, "lowest", "(I)I"⟩
abbrev cX4_tailOf : ByteArray := prog_6_method_43_code
def yX4_tailOf : MethodName := ⟨RX4, "tailOf", "(I)I"⟩
abbrev cX4_wrongSet : ByteArray := prog_6_method_44_code
def yX4_wrongSet : MethodName := ⟨RX4, "wrongSet", "(I)I"⟩
abbrev cX4_savingOf : ByteArray := prog_6_method_45_code
def yX4_savingOf : MethodName := ⟨RX4, "savingOf", "(I)I"⟩
abbrev cX4_tailSaving : ByteArray := prog_6_method_46_code
def yX4_tailSaving : MethodName := ⟨RX4, "tailSaving", "(I)I"⟩
abbrev cX4_findBest : ByteArray := prog_6_method_47_code
def yX4_findBest : MethodName := ⟨RX4, "findBest", "()I"⟩
abbrev cX4_bestTail : ByteArray := prog_6_method_48_code
def yX4_bestTail : MethodName := ⟨RX4, "bestTail", "()I"⟩
abbrev cX4_copyTail : ByteArray := prog_6_method_49_code
def yX4_copyTail : MethodName := ⟨RX4, "copyTail", "(III)V"⟩
abbrev cX4_uniteLines : ByteArray := prog_6_method_50_code
def yX4_uniteLines : MethodName := ⟨RX4, "uniteLines", "(III)V"⟩
abbrev cX4_cutTail : ByteArray := prog_6_method_51_code
def yX4_cutTail : MethodName := ⟨RX4, "cutTail", "(III)V"⟩
abbrev cX4_mergeSet : ByteArray := prog_6_method_52_code
def yX4_mergeSet : MethodName := ⟨RX4, "mergeSet", "(I)I"⟩
abbrev cX4_mergeTail : ByteArray := prog_6_method_53_code
def yX4_mergeTail : MethodName := ⟨RX4, "mergeTail", "(I)I"⟩
abbrev cX4_parameterSaving : ByteArray := prog_6_method_54_code
def yX4_parameterSaving : MethodName := ⟨RX4, "parameterSaving", "(II)I"⟩
abbrev cX4_passParameter : ByteArray := prog_6_method_55_code
def yX4_passParameter : MethodName := ⟨RX4, "passParameter", "(IIII)V"⟩
abbrev cX4_mergeWithParameter : ByteArray := prog_6_method_56_code
def yX4_mergeWithParameter : MethodName := ⟨RX4, "mergeWithParameter", "(II)I"⟩
abbrev cX4_mergeAll : ByteArray := prog_6_method_57_code
def yX4_mergeAll : MethodName := ⟨RX4, "mergeAll", "()I"⟩
abbrev cX4_setRegister : ByteArray := prog_6_method_58_code
def yX4_setRegister : MethodName := ⟨RX4, "setRegister", "(II)I"⟩
abbrev cX4_execute : ByteArray := prog_6_method_59_code
def yX4_execute : MethodName := ⟨RX4, "execute", "(I)V"⟩
abbrev cX4_nextOf : ByteArray := prog_6_method_60_code
def yX4_nextOf : MethodName := ⟨RX4, "nextOf", "(I)I"⟩
abbrev cX4_run : ByteArray := prog_6_method_61_code
def yX4_run : MethodName := ⟨RX4, "run", "(I)I"⟩
abbrev cX4_traceLength : ByteArray := prog_6_method_62_code
def yX4_traceLength : MethodName := ⟨RX4, "traceLength", "()I"⟩
abbrev cX4_trace : ByteArray := prog_6_method_63_code
def yX4_trace : MethodName := ⟨RX4, "trace", "(I)I"⟩
abbrev cX4_register : ByteArray := prog_6_method_64_code
def yX4_register : MethodName := ⟨RX4, "register", "(I)I"⟩
abbrev cX4_save : ByteArray := prog_6_method_65_code
def yX4_save : MethodName := ⟨RX4, "save", "(I)I"⟩
abbrev cX4_restore : ByteArray := prog_6_method_66_code
def yX4_restore : MethodName := ⟨RX4, "restore", "(I)I"⟩
def RJ6 : String := "java/lang/Integer"
def TJ6 : u_T := fun k => match k with
  | _ => ("", "", "", false)
def tyJ6 : Nat → FieldType := fun k => match k with
  | _ => .int
abbrev wsJ60 : List Cond := u_ws RJ6 TJ6 0
theorem nmJ6 : ∀ a, a < 0 → ∀ b, b < 0 → a ≠ b → (TJ6 a).2.1 ≠ (TJ6 b).2.1 := by decide +kernel
theorem tyJ6_ok : ∀ k, k < 0 → parseFieldDescriptor (TJ6 k).2.2.1 = some (tyJ6 k) := by decide +kernel
abbrev cJ6_bitCount_0f7a4 : ByteArray := prog_7_method_49_code
def yJ6_bitCount_0f7a4 : MethodName := ⟨RJ6, "bitCount", "(I)I"⟩
def RJ9 : String := "java/lang/Math"
def TJ9 : u_T := fun k => match k with
  | _ => ("", "", "", false)
def tyJ9 : Nat → FieldType := fun k => match k with
  | _ => .int
abbrev wsJ90 : List Cond := u_ws RJ9 TJ9 0
theorem nmJ9 : ∀ a, a < 0 → ∀ b, b < 0 → a ≠ b → (TJ9 a).2.1 ≠ (TJ9 b).2.1 := by decide +kernel
theorem tyJ9_ok : ∀ k, k < 0 → parseFieldDescriptor (TJ9 k).2.2.1 = some (tyJ9 k) := by decide +kernel
abbrev cJ9_min_7cf53 : ByteArray := prog_8_method_69_code
def yJ9_min_7cf53 : MethodName := ⟨RJ9, "min", "(II)I"⟩
def RJ10 : String := "java/lang/System"
def TJ10 : u_T := fun k => match k with
  | _ => ("", "", "", false)
def tyJ10 : Nat → FieldType := fun k => match k with
  | _ => .int
abbrev wsJ100 : List Cond := u_ws RJ10 TJ10 0
theorem nmJ10 : ∀ a, a < 0 → ∀ b, b < 0 → a ≠ b → (TJ10 a).2.1 ≠ (TJ10 b).2.1 := by decide +kernel
theorem tyJ10_ok : ∀ k, k < 0 → parseFieldDescriptor (TJ10 k).2.2.1 = some (tyJ10 k) := by decide +kernel
def RL : String := "TailMergerLaw"
abbrev cL_law : ByteArray := code
def yL_law : MethodName := ⟨RL, "law", "([I)Z"⟩
def wsX0_init : List Cond := .code yX0_init cX0_init 1 none :: ([.methodLink RX0 3 objectInit, .instanceMethod objectInit, .code objectInit ⟨#[0xb1]⟩ 1 none, .arrayClass .int, .fieldLink RX0 9 "TailMerger$Block" "opcodes" "[I", .fieldLink RX0 15 "TailMerger$Block" "destinations" "[I", .fieldLink RX0 18 "TailMerger$Block" "operandsA" "[I", .fieldLink RX0 21 "TailMerger$Block" "operandsB" "[I", .fieldLink RX0 24 "TailMerger$Block" "lineSets" "[I", .fieldLink RX0 27 "TailMerger$Block" "count" "I", .fieldLink RX0 31 "TailMerger$Block" "kind" "I", .fieldLink RX0 34 "TailMerger$Block" "terminatorOperands" "[I"] ++ wsX00)
def wsX0_terminate : List Cond := .code yX0_terminate cX0_terminate 6 (some .int) :: ([.fieldLink RX0 31 "TailMerger$Block" "kind" "I", .fieldLink RX0 34 "TailMerger$Block" "terminatorOperands" "[I"] ++ wsX00)
def wsX0_clear : List Cond := .code yX0_clear cX0_clear 1 none :: ([.fieldLink RX0 27 "TailMerger$Block" "count" "I", .methodLink RX0 37 yX0_terminate, .instanceMethod yX0_terminate, .selects RX0 yX0_terminate yX0_terminate, .initialized RX0, .code yX0_terminate cX0_terminate 6 (some .int), .fieldLink RX0 31 "TailMerger$Block" "kind" "I", .fieldLink RX0 34 "TailMerger$Block" "terminatorOperands" "[I"] ++ wsX00)
def wsX0_append : List Cond := .code yX0_append cX0_append 7 (some .int) :: ([.fieldLink RX0 27 "TailMerger$Block" "count" "I", .fieldLink RX0 9 "TailMerger$Block" "opcodes" "[I", .fieldLink RX0 15 "TailMerger$Block" "destinations" "[I", .fieldLink RX0 18 "TailMerger$Block" "operandsA" "[I", .fieldLink RX0 21 "TailMerger$Block" "operandsB" "[I", .fieldLink RX0 24 "TailMerger$Block" "lineSets" "[I"] ++ wsX00)
def wsX0_appendTail : List Cond := .code yX0_appendTail cX0_appendTail 4 none :: ([.fieldLink RX0 27 "TailMerger$Block" "count" "I", .fieldLink RX0 9 "TailMerger$Block" "opcodes" "[I", .fieldLink RX0 15 "TailMerger$Block" "destinations" "[I", .fieldLink RX0 18 "TailMerger$Block" "operandsA" "[I", .fieldLink RX0 21 "TailMerger$Block" "operandsB" "[I", .fieldLink RX0 24 "TailMerger$Block" "lineSets" "[I", .fieldLink RX0 31 "TailMerger$Block" "kind" "I", .fieldLink RX0 34 "TailMerger$Block" "terminatorOperands" "[I", .methodLink RX0 45 yX0_append, .instanceMethod yX0_append, .selects RX0 yX0_append yX0_append, .initialized RX0, .code yX0_append cX0_append 7 (some .int), .methodLink RX0 37 yX0_terminate, .instanceMethod yX0_terminate, .selects RX0 yX0_terminate yX0_terminate, .code yX0_terminate cX0_terminate 6 (some .int)] ++ wsX00)
def wsX0_copyFrom : List Cond := .code yX0_copyFrom cX0_copyFrom 2 none :: ([.fieldLink RX0 27 "TailMerger$Block" "count" "I", .methodLink RX0 41 yX0_appendTail, .instanceMethod yX0_appendTail, .selects RX0 yX0_appendTail yX0_appendTail, .initialized RX0, .code yX0_appendTail cX0_appendTail 4 none, .fieldLink RX0 9 "TailMerger$Block" "opcodes" "[I", .fieldLink RX0 15 "TailMerger$Block" "destinations" "[I", .fieldLink RX0 18 "TailMerger$Block" "operandsA" "[I", .fieldLink RX0 21 "TailMerger$Block" "operandsB" "[I", .fieldLink RX0 24 "TailMerger$Block" "lineSets" "[I", .fieldLink RX0 31 "TailMerger$Block" "kind" "I", .fieldLink RX0 34 "TailMerger$Block" "terminatorOperands" "[I", .methodLink RX0 45 yX0_append, .instanceMethod yX0_append, .selects RX0 yX0_append yX0_append, .code yX0_append cX0_append 7 (some .int), .methodLink RX0 37 yX0_terminate, .instanceMethod yX0_terminate, .selects RX0 yX0_terminate yX0_terminate, .code yX0_terminate cX0_terminate 6 (some .int)] ++ wsX00)
def wsX0_uniteLines : List Cond := .code yX0_uniteLines cX0_uniteLines 4 none :: ([.fieldLink RX0 24 "TailMerger$Block" "lineSets" "[I", .fieldLink RX0 27 "TailMerger$Block" "count" "I"] ++ wsX00)
def wsX0_replaceTailByJump : List Cond := .code yX0_replaceTailByJump cX0_replaceTailByJump 3 none :: ([.fieldLink RX0 27 "TailMerger$Block" "count" "I", .methodLink RX0 37 yX0_terminate, .instanceMethod yX0_terminate, .selects RX0 yX0_terminate yX0_terminate, .initialized RX0, .code yX0_terminate cX0_terminate 6 (some .int), .fieldLink RX0 31 "TailMerger$Block" "kind" "I", .fieldLink RX0 34 "TailMerger$Block" "terminatorOperands" "[I"] ++ wsX00)
def wsX0_replaceTailByParameter : List Cond := .code yX0_replaceTailByParameter cX0_replaceTailByParameter 6 none :: ([.fieldLink RX0 18 "TailMerger$Block" "operandsA" "[I", .fieldLink RX0 27 "TailMerger$Block" "count" "I", .fieldLink RX0 24 "TailMerger$Block" "lineSets" "[I", .methodLink RX0 49 yX0_replaceTailByJump, .instanceMethod yX0_replaceTailByJump, .selects RX0 yX0_replaceTailByJump yX0_replaceTailByJump, .initialized RX0, .code yX0_replaceTailByJump cX0_replaceTailByJump 3 none, .methodLink RX0 37 yX0_terminate, .instanceMethod yX0_terminate, .selects RX0 yX0_terminate yX0_terminate, .code yX0_terminate cX0_terminate 6 (some .int), .fieldLink RX0 31 "TailMerger$Block" "kind" "I", .fieldLink RX0 34 "TailMerger$Block" "terminatorOperands" "[I", .methodLink RX0 45 yX0_append, .instanceMethod yX0_append, .selects RX0 yX0_append yX0_append, .code yX0_append cX0_append 7 (some .int), .fieldLink RX0 9 "TailMerger$Block" "opcodes" "[I", .fieldLink RX0 15 "TailMerger$Block" "destinations" "[I", .fieldLink RX0 21 "TailMerger$Block" "operandsB" "[I"] ++ wsX00)
def wsX0_takeParameterAt : List Cond := .code yX0_takeParameterAt cX0_takeParameterAt 2 none :: ([.fieldLink RX0 9 "TailMerger$Block" "opcodes" "[I", .fieldLink RX0 27 "TailMerger$Block" "count" "I", .fieldLink RX0 18 "TailMerger$Block" "operandsA" "[I"] ++ wsX00)
def wsX0_hashOfTail : List Cond := .code yX0_hashOfTail cX0_hashOfTail 4 (some .int) :: ([.fieldLink RX0 27 "TailMerger$Block" "count" "I", .fieldLink RX0 9 "TailMerger$Block" "opcodes" "[I", .fieldLink RX0 15 "TailMerger$Block" "destinations" "[I", .fieldLink RX0 18 "TailMerger$Block" "operandsA" "[I", .fieldLink RX0 21 "TailMerger$Block" "operandsB" "[I", .fieldLink RX0 31 "TailMerger$Block" "kind" "I", .fieldLink RX0 34 "TailMerger$Block" "terminatorOperands" "[I", .constant RX0 53 (2147483647)] ++ wsX00)
def wsX0_hasTerminatorOf : List Cond := .code yX0_hasTerminatorOf cX0_hasTerminatorOf 2 (some .boolean) :: ([.fieldLink RX0 31 "TailMerger$Block" "kind" "I", .fieldLink RX0 34 "TailMerger$Block" "terminatorOperands" "[I"] ++ wsX00)
def wsX0_isEqualAt : List Cond := .code yX0_isEqualAt cX0_isEqualAt 5 (some .boolean) :: ([.fieldLink RX0 27 "TailMerger$Block" "count" "I", .fieldLink RX0 9 "TailMerger$Block" "opcodes" "[I", .fieldLink RX0 15 "TailMerger$Block" "destinations" "[I", .fieldLink RX0 18 "TailMerger$Block" "operandsA" "[I", .fieldLink RX0 21 "TailMerger$Block" "operandsB" "[I"] ++ wsX00)
def wsX0_tailSharedWith : List Cond := .code yX0_tailSharedWith cX0_tailSharedWith 4 (some .int) :: ([.fieldLink RX0 27 "TailMerger$Block" "count" "I", .methodLink RX0 58 Lib.Math.min.name, .static Lib.Math.min.name, .initialized "java/lang/Math", .code Lib.Math.min.name Lib.Math.min.code 2 (some .int), .methodLink RX0 54 yX0_hasTerminatorOf, .instanceMethod yX0_hasTerminatorOf, .selects RX0 yX0_hasTerminatorOf yX0_hasTerminatorOf, .initialized RX0, .code yX0_hasTerminatorOf cX0_hasTerminatorOf 2 (some .boolean), .fieldLink RX0 31 "TailMerger$Block" "kind" "I", .fieldLink RX0 34 "TailMerger$Block" "terminatorOperands" "[I", .methodLink RX0 64 yX0_isEqualAt, .instanceMethod yX0_isEqualAt, .selects RX0 yX0_isEqualAt yX0_isEqualAt, .code yX0_isEqualAt cX0_isEqualAt 5 (some .boolean), .fieldLink RX0 9 "TailMerger$Block" "opcodes" "[I", .fieldLink RX0 15 "TailMerger$Block" "destinations" "[I", .fieldLink RX0 18 "TailMerger$Block" "operandsA" "[I", .fieldLink RX0 21 "TailMerger$Block" "operandsB" "[I"] ++ wsX00)
def wsX0_usesParameterAt : List Cond := .code yX0_usesParameterAt cX0_usesParameterAt 3 (some .boolean) :: ([.fieldLink RX0 27 "TailMerger$Block" "count" "I", .fieldLink RX0 15 "TailMerger$Block" "destinations" "[I", .fieldLink RX0 21 "TailMerger$Block" "operandsB" "[I", .fieldLink RX0 18 "TailMerger$Block" "operandsA" "[I", .fieldLink RX0 9 "TailMerger$Block" "opcodes" "[I"] ++ wsX00)
def wsX0_isSameConstTargetAt : List Cond := .code yX0_isSameConstTargetAt cX0_isSameConstTargetAt 5 (some .boolean) :: ([.fieldLink RX0 27 "TailMerger$Block" "count" "I", .fieldLink RX0 9 "TailMerger$Block" "opcodes" "[I", .fieldLink RX0 15 "TailMerger$Block" "destinations" "[I"] ++ wsX00)
def wsX0_fitsParameterTail : List Cond := .code yX0_fitsParameterTail cX0_fitsParameterTail 4 (some .boolean) :: ([.methodLink RX0 72 yX0_usesParameterAt, .instanceMethod yX0_usesParameterAt, .selects RX0 yX0_usesParameterAt yX0_usesParameterAt, .initialized RX0, .code yX0_usesParameterAt cX0_usesParameterAt 3 (some .boolean), .fieldLink RX0 27 "TailMerger$Block" "count" "I", .fieldLink RX0 15 "TailMerger$Block" "destinations" "[I", .fieldLink RX0 21 "TailMerger$Block" "operandsB" "[I", .fieldLink RX0 18 "TailMerger$Block" "operandsA" "[I", .fieldLink RX0 9 "TailMerger$Block" "opcodes" "[I", .methodLink RX0 64 yX0_isEqualAt, .instanceMethod yX0_isEqualAt, .selects RX0 yX0_isEqualAt yX0_isEqualAt, .code yX0_isEqualAt cX0_isEqualAt 5 (some .boolean), .methodLink RX0 76 yX0_isSameConstTargetAt, .instanceMethod yX0_isSameConstTargetAt, .selects RX0 yX0_isSameConstTargetAt yX0_isSameConstTargetAt, .code yX0_isSameConstTargetAt cX0_isSameConstTargetAt 5 (some .boolean)] ++ wsX00)
def wsX0_parameterTailWith_r1 : List Cond := [Cond.fieldLink RX0 31 "TailMerger$Block" "kind" "I", Cond.fieldLink RX0 27 "TailMerger$Block" "count" "I", Cond.methodLink RX0 58 Lib.Math.min.name, Cond.static Lib.Math.min.name, Cond.initialized "java/lang/Math", Cond.code Lib.Math.min.name Lib.Math.min.code 2 (some .int), Cond.methodLink RX0 54 yX0_hasTerminatorOf, Cond.instanceMethod yX0_hasTerminatorOf, Cond.selects RX0 yX0_hasTerminatorOf yX0_hasTerminatorOf, Cond.initialized RX0, Cond.code yX0_hasTerminatorOf cX0_hasTerminatorOf 2 (some .boolean), Cond.fieldLink RX0 34 "TailMerger$Block" "terminatorOperands" "[I", Cond.methodLink RX0 68 yX0_fitsParameterTail, Cond.instanceMethod yX0_fitsParameterTail, Cond.selects RX0 yX0_fitsParameterTail yX0_fitsParameterTail, Cond.code yX0_fitsParameterTail cX0_fitsParameterTail 4 (some .boolean), Cond.methodLink RX0 72 yX0_usesParameterAt, Cond.instanceMethod yX0_usesParameterAt, Cond.selects RX0 yX0_usesParameterAt yX0_usesParameterAt, Cond.code yX0_usesParameterAt cX0_usesParameterAt 3 (some .boolean), Cond.fieldLink RX0 15 "TailMerger$Block" "destinations" "[I", Cond.fieldLink RX0 21 "TailMerger$Block" "operandsB" "[I", Cond.fieldLink RX0 18 "TailMerger$Block" "operandsA" "[I", Cond.fieldLink RX0 9 "TailMerger$Block" "opcodes" "[I"]
def wsX0_parameterTailWith_r2 : List Cond := [Cond.methodLink RX0 64 yX0_isEqualAt, Cond.instanceMethod yX0_isEqualAt, Cond.selects RX0 yX0_isEqualAt yX0_isEqualAt, Cond.code yX0_isEqualAt cX0_isEqualAt 5 (some .boolean), Cond.methodLink RX0 76 yX0_isSameConstTargetAt, Cond.instanceMethod yX0_isSameConstTargetAt, Cond.selects RX0 yX0_isSameConstTargetAt yX0_isSameConstTargetAt, Cond.code yX0_isSameConstTargetAt cX0_isSameConstTargetAt 5 (some .boolean)]
def wsX0_parameterTailWith : List Cond := .code yX0_parameterTailWith cX0_parameterTailWith 5 (some .int) :: ((wsX0_parameterTailWith_r1 ++ wsX0_parameterTailWith_r2) ++ wsX00)
def wsX1_init : List Cond := .code yX1_init cX1_init 1 none :: ([.methodLink RX1 3 objectInit, .instanceMethod objectInit, .code objectInit ⟨#[0xb1]⟩ 1 none, .arrayClass .int, .fieldLink RX1 9 "TailMerger$Machine" "values" "[I", .fieldLink RX1 15 "TailMerger$Machine" "emitted" "[I", .fieldLink RX1 18 "TailMerger$Machine" "emittedCount" "I"] ++ wsX10)
def wsX1_emit : List Cond := .code yX1_emit cX1_emit 2 none :: ([.fieldLink RX1 18 "TailMerger$Machine" "emittedCount" "I", .fieldLink RX1 15 "TailMerger$Machine" "emitted" "[I"] ++ wsX10)
def wsX1_perform : List Cond := .code yX1_perform cX1_perform 6 none :: ([.fieldLink RX1 9 "TailMerger$Machine" "values" "[I", .methodLink RX1 68 yX1_emit, .instanceMethod yX1_emit, .selects RX1 yX1_emit yX1_emit, .initialized RX1, .code yX1_emit cX1_emit 2 none, .fieldLink RX1 18 "TailMerger$Machine" "emittedCount" "I", .fieldLink RX1 15 "TailMerger$Machine" "emitted" "[I"] ++ wsX00 ++ wsX10)
def wsX1_successorOf : List Cond := .code yX1_successorOf cX1_successorOf 3 (some .int) :: ([.fieldLink RX1 9 "TailMerger$Machine" "values" "[I"] ++ wsX00 ++ wsX10)
def wsX1_execute : List Cond := .code yX1_execute cX1_execute 6 (some .int) :: ([.fieldLink RX1 9 "TailMerger$Machine" "values" "[I", .methodLink RX1 27 arraycopyName, .native arraycopyName, .static arraycopyName, .initialized "java/lang/System", .fieldLink RX1 18 "TailMerger$Machine" "emittedCount" "I", .methodLink RX1 42 yX1_perform, .instanceMethod yX1_perform, .selects RX1 yX1_perform yX1_perform, .initialized RX1, .code yX1_perform cX1_perform 6 none, .methodLink RX1 68 yX1_emit, .instanceMethod yX1_emit, .selects RX1 yX1_emit yX1_emit, .code yX1_emit cX1_emit 2 none, .fieldLink RX1 15 "TailMerger$Machine" "emitted" "[I", .methodLink RX1 49 yX1_successorOf, .instanceMethod yX1_successorOf, .selects RX1 yX1_successorOf yX1_successorOf, .code yX1_successorOf cX1_successorOf 3 (some .int)] ++ wsX20 ++ wsX10 ++ wsX00)
def wsX2_init : List Cond := .code yX2_init cX2_init 2 none :: ([.methodLink RX2 3 objectInit, .instanceMethod objectInit, .code objectInit ⟨#[0xb1]⟩ 1 none, .classLink RX2 9 RX0, .fieldLink RX2 11 "TailMerger$Program" "blocks" "[LTailMerger$Block;", .instantiable RX0 8, .initialized RX0, .fieldLink RX2 18 "TailMerger$Program" "count" "I", .fieldLink RX2 22 "TailMerger$Program" "jumpCost" "I", .arrayClass .int, .fieldLink RX2 25 "TailMerger$Program" "initialValues" "[I", .fieldLink RX2 29 "TailMerger$Program" "sharedLengths" "[I", .instanceMethod yX0_init, .code yX0_init cX0_init 1 none, .methodLink RX0 3 objectInit, .fieldLink RX0 9 "TailMerger$Block" "opcodes" "[I", .fieldLink RX0 15 "TailMerger$Block" "destinations" "[I", .fieldLink RX0 18 "TailMerger$Block" "operandsA" "[I", .fieldLink RX0 21 "TailMerger$Block" "operandsB" "[I", .fieldLink RX0 24 "TailMerger$Block" "lineSets" "[I", .fieldLink RX0 27 "TailMerger$Block" "count" "I", .fieldLink RX0 31 "TailMerger$Block" "kind" "I", .fieldLink RX0 34 "TailMerger$Block" "terminatorOperands" "[I"] ++ wsX20 ++ wsX00)
def wsX2_has : List Cond := .code yX2_has cX2_has 2 (some .boolean) :: ([.fieldLink RX2 18 "TailMerger$Program" "count" "I"] ++ wsX20)
def wsX2_appendBlock : List Cond := .code yX2_appendBlock cX2_appendBlock 2 (some .int) :: ([.fieldLink RX2 18 "TailMerger$Program" "count" "I", .fieldLink RX2 11 "TailMerger$Program" "blocks" "[LTailMerger$Block;", .instanceMethod yX0_clear, .initialized RX0, .selects RX0 yX0_clear yX0_clear, .code yX0_clear cX0_clear 1 none, .fieldLink RX0 27 "TailMerger$Block" "count" "I", .methodLink RX0 37 yX0_terminate, .instanceMethod yX0_terminate, .selects RX0 yX0_terminate yX0_terminate, .code yX0_terminate cX0_terminate 6 (some .int), .fieldLink RX0 31 "TailMerger$Block" "kind" "I", .fieldLink RX0 34 "TailMerger$Block" "terminatorOperands" "[I"] ++ wsX20 ++ wsX00)
def wsX2_copyFrom_r1 : List Cond := [Cond.fieldLink RX2 18 "TailMerger$Program" "count" "I", Cond.fieldLink RX2 11 "TailMerger$Program" "blocks" "[LTailMerger$Block;", Cond.fieldLink RX2 22 "TailMerger$Program" "jumpCost" "I", Cond.fieldLink RX2 25 "TailMerger$Program" "initialValues" "[I", Cond.methodLink RX2 39 arraycopyName, Cond.native arraycopyName, Cond.static arraycopyName, Cond.initialized "java/lang/System", Cond.instanceMethod yX0_copyFrom, Cond.initialized RX0, Cond.selects RX0 yX0_copyFrom yX0_copyFrom, Cond.code yX0_copyFrom cX0_copyFrom 2 none, Cond.fieldLink RX0 27 "TailMerger$Block" "count" "I", Cond.methodLink RX0 41 yX0_appendTail, Cond.instanceMethod yX0_appendTail, Cond.selects RX0 yX0_appendTail yX0_appendTail, Cond.code yX0_appendTail cX0_appendTail 4 none, Cond.fieldLink RX0 9 "TailMerger$Block" "opcodes" "[I", Cond.fieldLink RX0 15 "TailMerger$Block" "destinations" "[I", Cond.fieldLink RX0 18 "TailMerger$Block" "operandsA" "[I", Cond.fieldLink RX0 21 "TailMerger$Block" "operandsB" "[I", Cond.fieldLink RX0 24 "TailMerger$Block" "lineSets" "[I", Cond.fieldLink RX0 31 "TailMerger$Block" "kind" "I", Cond.fieldLink RX0 34 "TailMerger$Block" "terminatorOperands" "[I"]
def wsX2_copyFrom_r2 : List Cond := [Cond.methodLink RX0 45 yX0_append, Cond.instanceMethod yX0_append, Cond.selects RX0 yX0_append yX0_append, Cond.code yX0_append cX0_append 7 (some .int), Cond.methodLink RX0 37 yX0_terminate, Cond.instanceMethod yX0_terminate, Cond.selects RX0 yX0_terminate yX0_terminate, Cond.code yX0_terminate cX0_terminate 6 (some .int)]
def wsX2_copyFrom : List Cond := .code yX2_copyFrom cX2_copyFrom 3 none :: ((wsX2_copyFrom_r1 ++ wsX2_copyFrom_r2) ++ wsX20 ++ wsX00)
def wsX2_terminatorCost : List Cond := .code yX2_terminatorCost cX2_terminatorCost 2 (some .int) :: ([.fieldLink RX2 11 "TailMerger$Program" "blocks" "[LTailMerger$Block;", .fieldLink RX2 22 "TailMerger$Program" "jumpCost" "I"] ++ wsX20 ++ wsX00)
def wsX2_size : List Cond := .code yX2_size cX2_size 3 (some .int) :: ([.fieldLink RX2 18 "TailMerger$Program" "count" "I", .fieldLink RX2 11 "TailMerger$Program" "blocks" "[LTailMerger$Block;", .methodLink RX2 46 yX2_terminatorCost, .instanceMethod yX2_terminatorCost, .selects RX2 yX2_terminatorCost yX2_terminatorCost, .initialized RX2, .code yX2_terminatorCost cX2_terminatorCost 2 (some .int), .fieldLink RX2 22 "TailMerger$Program" "jumpCost" "I"] ++ wsX20 ++ wsX00)
def wsX2_contains : List Cond := .code yX2_contains cX2_contains 2 (some .boolean) :: ([])
def wsX2_tailOfSet_r1 : List Cond := [Cond.fieldLink RX2 18 "TailMerger$Program" "count" "I", Cond.fieldLink RX2 11 "TailMerger$Program" "blocks" "[LTailMerger$Block;", Cond.methodLink RX2 61 Lib.Math.min.name, Cond.static Lib.Math.min.name, Cond.initialized "java/lang/Math", Cond.code Lib.Math.min.name Lib.Math.min.code 2 (some .int), Cond.methodLink RX2 53 yX2_contains, Cond.static yX2_contains, Cond.initialized RX2, Cond.code yX2_contains cX2_contains 2 (some .boolean), Cond.instanceMethod yX0_tailSharedWith, Cond.initialized RX0, Cond.selects RX0 yX0_tailSharedWith yX0_tailSharedWith, Cond.code yX0_tailSharedWith cX0_tailSharedWith 4 (some .int), Cond.fieldLink RX0 27 "TailMerger$Block" "count" "I", Cond.methodLink RX0 58 Lib.Math.min.name, Cond.methodLink RX0 54 yX0_hasTerminatorOf, Cond.instanceMethod yX0_hasTerminatorOf, Cond.selects RX0 yX0_hasTerminatorOf yX0_hasTerminatorOf, Cond.code yX0_hasTerminatorOf cX0_hasTerminatorOf 2 (some .boolean), Cond.fieldLink RX0 31 "TailMerger$Block" "kind" "I", Cond.fieldLink RX0 34 "TailMerger$Block" "terminatorOperands" "[I", Cond.methodLink RX0 64 yX0_isEqualAt, Cond.instanceMethod yX0_isEqualAt]
def wsX2_tailOfSet_r2 : List Cond := [Cond.selects RX0 yX0_isEqualAt yX0_isEqualAt, Cond.code yX0_isEqualAt cX0_isEqualAt 5 (some .boolean), Cond.fieldLink RX0 9 "TailMerger$Block" "opcodes" "[I", Cond.fieldLink RX0 15 "TailMerger$Block" "destinations" "[I", Cond.fieldLink RX0 18 "TailMerger$Block" "operandsA" "[I", Cond.fieldLink RX0 21 "TailMerger$Block" "operandsB" "[I"]
def wsX2_tailOfSet : List Cond := .code yX2_tailOfSet cX2_tailOfSet 5 (some .int) :: ((wsX2_tailOfSet_r1 ++ wsX2_tailOfSet_r2) ++ wsX20 ++ wsX00)
def wsJ6_bitCount_0f7a4 : List Cond := .code yJ6_bitCount_0f7a4 cJ6_bitCount_0f7a4 1 (some .int) :: ([.constant RJ6 265 (1431655765), .constant RJ6 266 (858993459), .constant RJ6 267 (252645135)])
def wsX2_savingOf : List Cond := .code yX2_savingOf cX2_savingOf 4 (some .int) :: ([.fieldLink RX2 22 "TailMerger$Program" "jumpCost" "I"] ++ wsX20)
def wsX2_savingOfSet : List Cond := .code yX2_savingOfSet cX2_savingOfSet 5 (some .int) :: ([.fieldLink RX2 18 "TailMerger$Program" "count" "I", .methodLink RX2 53 yX2_contains, .static yX2_contains, .initialized RX2, .code yX2_contains cX2_contains 2 (some .boolean), .methodLink RX2 67 yJ6_bitCount_0f7a4, .static yJ6_bitCount_0f7a4, .initialized RJ6, .code yJ6_bitCount_0f7a4 cJ6_bitCount_0f7a4 1 (some .int), .constant RJ6 265 (1431655765), .constant RJ6 266 (858993459), .constant RJ6 267 (252645135), .methodLink RX2 46 yX2_terminatorCost, .instanceMethod yX2_terminatorCost, .selects RX2 yX2_terminatorCost yX2_terminatorCost, .code yX2_terminatorCost cX2_terminatorCost 2 (some .int), .fieldLink RX2 11 "TailMerger$Program" "blocks" "[LTailMerger$Block;", .fieldLink RX2 22 "TailMerger$Program" "jumpCost" "I", .methodLink RX2 72 yX2_savingOf, .instanceMethod yX2_savingOf, .selects RX2 yX2_savingOf yX2_savingOf, .code yX2_savingOf cX2_savingOf 4 (some .int)] ++ wsX20 ++ wsX00)
def wsX2_compareWithLater_r1 : List Cond := [Cond.fieldLink RX2 18 "TailMerger$Program" "count" "I", Cond.fieldLink RX2 29 "TailMerger$Program" "sharedLengths" "[I", Cond.fieldLink RX2 11 "TailMerger$Program" "blocks" "[LTailMerger$Block;", Cond.instanceMethod yX0_tailSharedWith, Cond.initialized RX0, Cond.selects RX0 yX0_tailSharedWith yX0_tailSharedWith, Cond.code yX0_tailSharedWith cX0_tailSharedWith 4 (some .int), Cond.fieldLink RX0 27 "TailMerger$Block" "count" "I", Cond.methodLink RX0 58 Lib.Math.min.name, Cond.static Lib.Math.min.name, Cond.initialized "java/lang/Math", Cond.code Lib.Math.min.name Lib.Math.min.code 2 (some .int), Cond.methodLink RX0 54 yX0_hasTerminatorOf, Cond.instanceMethod yX0_hasTerminatorOf, Cond.selects RX0 yX0_hasTerminatorOf yX0_hasTerminatorOf, Cond.code yX0_hasTerminatorOf cX0_hasTerminatorOf 2 (some .boolean), Cond.fieldLink RX0 31 "TailMerger$Block" "kind" "I", Cond.fieldLink RX0 34 "TailMerger$Block" "terminatorOperands" "[I", Cond.methodLink RX0 64 yX0_isEqualAt, Cond.instanceMethod yX0_isEqualAt, Cond.selects RX0 yX0_isEqualAt yX0_isEqualAt, Cond.code yX0_isEqualAt cX0_isEqualAt 5 (some .boolean), Cond.fieldLink RX0 9 "TailMerger$Block" "opcodes" "[I", Cond.fieldLink RX0 15 "TailMerger$Block" "destinations" "[I"]
def wsX2_compareWithLater_r2 : List Cond := [Cond.fieldLink RX0 18 "TailMerger$Block" "operandsA" "[I", Cond.fieldLink RX0 21 "TailMerger$Block" "operandsB" "[I"]
def wsX2_compareWithLater : List Cond := .code yX2_compareWithLater cX2_compareWithLater 3 none :: ((wsX2_compareWithLater_r1 ++ wsX2_compareWithLater_r2) ++ wsX20 ++ wsX00)
def wsX2_sharersFrom : List Cond := .code yX2_sharersFrom cX2_sharersFrom 5 (some .int) :: ([.fieldLink RX2 18 "TailMerger$Program" "count" "I", .fieldLink RX2 29 "TailMerger$Program" "sharedLengths" "[I"] ++ wsX20)
def wsX2_bestSet_r1 : List Cond := [Cond.fieldLink RX2 18 "TailMerger$Program" "count" "I", Cond.fieldLink RX2 11 "TailMerger$Program" "blocks" "[LTailMerger$Block;", Cond.methodLink RX2 76 yX2_compareWithLater, Cond.instanceMethod yX2_compareWithLater, Cond.selects RX2 yX2_compareWithLater yX2_compareWithLater, Cond.initialized RX2, Cond.code yX2_compareWithLater cX2_compareWithLater 3 none, Cond.fieldLink RX2 29 "TailMerger$Program" "sharedLengths" "[I", Cond.instanceMethod yX0_tailSharedWith, Cond.initialized RX0, Cond.selects RX0 yX0_tailSharedWith yX0_tailSharedWith, Cond.code yX0_tailSharedWith cX0_tailSharedWith 4 (some .int), Cond.fieldLink RX0 27 "TailMerger$Block" "count" "I", Cond.methodLink RX0 58 Lib.Math.min.name, Cond.static Lib.Math.min.name, Cond.initialized "java/lang/Math", Cond.code Lib.Math.min.name Lib.Math.min.code 2 (some .int), Cond.methodLink RX0 54 yX0_hasTerminatorOf, Cond.instanceMethod yX0_hasTerminatorOf, Cond.selects RX0 yX0_hasTerminatorOf yX0_hasTerminatorOf, Cond.code yX0_hasTerminatorOf cX0_hasTerminatorOf 2 (some .boolean), Cond.fieldLink RX0 31 "TailMerger$Block" "kind" "I", Cond.fieldLink RX0 34 "TailMerger$Block" "terminatorOperands" "[I", Cond.methodLink RX0 64 yX0_isEqualAt]
def wsX2_bestSet_r2 : List Cond := [Cond.instanceMethod yX0_isEqualAt, Cond.selects RX0 yX0_isEqualAt yX0_isEqualAt, Cond.code yX0_isEqualAt cX0_isEqualAt 5 (some .boolean), Cond.fieldLink RX0 9 "TailMerger$Block" "opcodes" "[I", Cond.fieldLink RX0 15 "TailMerger$Block" "destinations" "[I", Cond.fieldLink RX0 18 "TailMerger$Block" "operandsA" "[I", Cond.fieldLink RX0 21 "TailMerger$Block" "operandsB" "[I", Cond.methodLink RX2 46 yX2_terminatorCost, Cond.instanceMethod yX2_terminatorCost, Cond.selects RX2 yX2_terminatorCost yX2_terminatorCost, Cond.code yX2_terminatorCost cX2_terminatorCost 2 (some .int), Cond.fieldLink RX2 22 "TailMerger$Program" "jumpCost" "I", Cond.methodLink RX2 80 yX2_sharersFrom, Cond.instanceMethod yX2_sharersFrom, Cond.selects RX2 yX2_sharersFrom yX2_sharersFrom, Cond.code yX2_sharersFrom cX2_sharersFrom 5 (some .int), Cond.methodLink RX2 67 yJ6_bitCount_0f7a4, Cond.static yJ6_bitCount_0f7a4, Cond.initialized RJ6, Cond.code yJ6_bitCount_0f7a4 cJ6_bitCount_0f7a4 1 (some .int), Cond.constant RJ6 265 (1431655765), Cond.constant RJ6 266 (858993459), Cond.constant RJ6 267 (252645135), Cond.methodLink RX2 72 yX2_savingOf]
def wsX2_bestSet_r3 : List Cond := [Cond.instanceMethod yX2_savingOf, Cond.selects RX2 yX2_savingOf yX2_savingOf, Cond.code yX2_savingOf cX2_savingOf 4 (some .int)]
def wsX2_bestSet : List Cond := .code yX2_bestSet cX2_bestSet 8 (some .int) :: ((wsX2_bestSet_r1 ++ (wsX2_bestSet_r2 ++ wsX2_bestSet_r3)) ++ wsX20 ++ wsX00)
def wsX2_mergeSet_r1 : List Cond := [Cond.fieldLink RX2 11 "TailMerger$Program" "blocks" "[LTailMerger$Block;", Cond.methodLink RX2 83 yX2_appendBlock, Cond.instanceMethod yX2_appendBlock, Cond.selects RX2 yX2_appendBlock yX2_appendBlock, Cond.initialized RX2, Cond.code yX2_appendBlock cX2_appendBlock 2 (some .int), Cond.fieldLink RX2 18 "TailMerger$Program" "count" "I", Cond.instanceMethod yX0_clear, Cond.initialized RX0, Cond.selects RX0 yX0_clear yX0_clear, Cond.code yX0_clear cX0_clear 1 none, Cond.fieldLink RX0 27 "TailMerger$Block" "count" "I", Cond.methodLink RX0 37 yX0_terminate, Cond.instanceMethod yX0_terminate, Cond.selects RX0 yX0_terminate yX0_terminate, Cond.code yX0_terminate cX0_terminate 6 (some .int), Cond.fieldLink RX0 31 "TailMerger$Block" "kind" "I", Cond.fieldLink RX0 34 "TailMerger$Block" "terminatorOperands" "[I", Cond.methodLink RX2 53 yX2_contains, Cond.static yX2_contains, Cond.code yX2_contains cX2_contains 2 (some .boolean), Cond.instanceMethod yX0_uniteLines, Cond.selects RX0 yX0_uniteLines yX0_uniteLines, Cond.code yX0_uniteLines cX0_uniteLines 4 none]
def wsX2_mergeSet_r2 : List Cond := [Cond.fieldLink RX0 24 "TailMerger$Block" "lineSets" "[I", Cond.instanceMethod yX0_appendTail, Cond.selects RX0 yX0_appendTail yX0_appendTail, Cond.code yX0_appendTail cX0_appendTail 4 none, Cond.fieldLink RX0 9 "TailMerger$Block" "opcodes" "[I", Cond.fieldLink RX0 15 "TailMerger$Block" "destinations" "[I", Cond.fieldLink RX0 18 "TailMerger$Block" "operandsA" "[I", Cond.fieldLink RX0 21 "TailMerger$Block" "operandsB" "[I", Cond.methodLink RX0 45 yX0_append, Cond.instanceMethod yX0_append, Cond.selects RX0 yX0_append yX0_append, Cond.code yX0_append cX0_append 7 (some .int), Cond.instanceMethod yX0_replaceTailByJump, Cond.selects RX0 yX0_replaceTailByJump yX0_replaceTailByJump, Cond.code yX0_replaceTailByJump cX0_replaceTailByJump 3 none]
def wsX2_mergeSet : List Cond := .code yX2_mergeSet cX2_mergeSet 6 (some .int) :: ((wsX2_mergeSet_r1 ++ wsX2_mergeSet_r2) ++ wsX20 ++ wsX00)
def wsX2_savingWithParameter : List Cond := .code yX2_savingWithParameter cX2_savingWithParameter 3 (some .int) :: ([.fieldLink RX2 22 "TailMerger$Program" "jumpCost" "I", .methodLink RX2 46 yX2_terminatorCost, .instanceMethod yX2_terminatorCost, .selects RX2 yX2_terminatorCost yX2_terminatorCost, .initialized RX2, .code yX2_terminatorCost cX2_terminatorCost 2 (some .int), .fieldLink RX2 11 "TailMerger$Program" "blocks" "[LTailMerger$Block;"] ++ wsX20 ++ wsX00)
def wsX2_mergePair_r1 : List Cond := [Cond.fieldLink RX2 11 "TailMerger$Program" "blocks" "[LTailMerger$Block;", Cond.methodLink RX2 83 yX2_appendBlock, Cond.instanceMethod yX2_appendBlock, Cond.selects RX2 yX2_appendBlock yX2_appendBlock, Cond.initialized RX2, Cond.code yX2_appendBlock cX2_appendBlock 2 (some .int), Cond.fieldLink RX2 18 "TailMerger$Program" "count" "I", Cond.instanceMethod yX0_clear, Cond.initialized RX0, Cond.selects RX0 yX0_clear yX0_clear, Cond.code yX0_clear cX0_clear 1 none, Cond.fieldLink RX0 27 "TailMerger$Block" "count" "I", Cond.methodLink RX0 37 yX0_terminate, Cond.instanceMethod yX0_terminate, Cond.selects RX0 yX0_terminate yX0_terminate, Cond.code yX0_terminate cX0_terminate 6 (some .int), Cond.fieldLink RX0 31 "TailMerger$Block" "kind" "I", Cond.fieldLink RX0 34 "TailMerger$Block" "terminatorOperands" "[I", Cond.instanceMethod yX0_isEqualAt, Cond.selects RX0 yX0_isEqualAt yX0_isEqualAt, Cond.code yX0_isEqualAt cX0_isEqualAt 5 (some .boolean), Cond.fieldLink RX0 9 "TailMerger$Block" "opcodes" "[I", Cond.fieldLink RX0 15 "TailMerger$Block" "destinations" "[I", Cond.fieldLink RX0 18 "TailMerger$Block" "operandsA" "[I"]
def wsX2_mergePair_r2 : List Cond := [Cond.fieldLink RX0 21 "TailMerger$Block" "operandsB" "[I", Cond.instanceMethod yX0_appendTail, Cond.selects RX0 yX0_appendTail yX0_appendTail, Cond.code yX0_appendTail cX0_appendTail 4 none, Cond.fieldLink RX0 24 "TailMerger$Block" "lineSets" "[I", Cond.methodLink RX0 45 yX0_append, Cond.instanceMethod yX0_append, Cond.selects RX0 yX0_append yX0_append, Cond.code yX0_append cX0_append 7 (some .int), Cond.instanceMethod yX0_uniteLines, Cond.selects RX0 yX0_uniteLines yX0_uniteLines, Cond.code yX0_uniteLines cX0_uniteLines 4 none, Cond.instanceMethod yX0_takeParameterAt, Cond.selects RX0 yX0_takeParameterAt yX0_takeParameterAt, Cond.code yX0_takeParameterAt cX0_takeParameterAt 2 none, Cond.instanceMethod yX0_replaceTailByParameter, Cond.selects RX0 yX0_replaceTailByParameter yX0_replaceTailByParameter, Cond.code yX0_replaceTailByParameter cX0_replaceTailByParameter 6 none, Cond.methodLink RX0 49 yX0_replaceTailByJump, Cond.instanceMethod yX0_replaceTailByJump, Cond.selects RX0 yX0_replaceTailByJump yX0_replaceTailByJump, Cond.code yX0_replaceTailByJump cX0_replaceTailByJump 3 none]
def wsX2_mergePair : List Cond := .code yX2_mergePair cX2_mergePair 6 (some .int) :: ((wsX2_mergePair_r1 ++ wsX2_mergePair_r2) ++ wsX20 ++ wsX00)
def wsX3_init_r1 : List Cond := [Cond.methodLink RX3 1 objectInit, Cond.instanceMethod objectInit, Cond.code objectInit ⟨#[0xb1]⟩ 1 none, Cond.classLink RX3 7 RX2, Cond.instantiable RX2 5, Cond.initialized RX2, Cond.fieldLink RX3 10 "TailMerger" "program" "LTailMerger$Program;", Cond.fieldLink RX3 16 "TailMerger" "slots" "[LTailMerger$Program;", Cond.arrayClass .boolean, Cond.fieldLink RX3 20 "TailMerger" "saved" "[Z", Cond.classLink RX3 24 RX1, Cond.instantiable RX1 3, Cond.initialized RX1, Cond.fieldLink RX3 27 "TailMerger" "machine" "LTailMerger$Machine;", Cond.instanceMethod yX2_init, Cond.code yX2_init cX2_init 2 none, Cond.methodLink RX2 3 objectInit, Cond.classLink RX2 9 RX0, Cond.fieldLink RX2 11 "TailMerger$Program" "blocks" "[LTailMerger$Block;", Cond.instantiable RX0 8, Cond.initialized RX0, Cond.fieldLink RX2 18 "TailMerger$Program" "count" "I", Cond.fieldLink RX2 22 "TailMerger$Program" "jumpCost" "I", Cond.arrayClass .int]
def wsX3_init_r2 : List Cond := [Cond.fieldLink RX2 25 "TailMerger$Program" "initialValues" "[I", Cond.fieldLink RX2 29 "TailMerger$Program" "sharedLengths" "[I", Cond.instanceMethod yX0_init, Cond.code yX0_init cX0_init 1 none, Cond.methodLink RX0 3 objectInit, Cond.fieldLink RX0 9 "TailMerger$Block" "opcodes" "[I", Cond.fieldLink RX0 15 "TailMerger$Block" "destinations" "[I", Cond.fieldLink RX0 18 "TailMerger$Block" "operandsA" "[I", Cond.fieldLink RX0 21 "TailMerger$Block" "operandsB" "[I", Cond.fieldLink RX0 24 "TailMerger$Block" "lineSets" "[I", Cond.fieldLink RX0 27 "TailMerger$Block" "count" "I", Cond.fieldLink RX0 31 "TailMerger$Block" "kind" "I", Cond.fieldLink RX0 34 "TailMerger$Block" "terminatorOperands" "[I", Cond.instanceMethod yX1_init, Cond.code yX1_init cX1_init 1 none, Cond.methodLink RX1 3 objectInit, Cond.fieldLink RX1 9 "TailMerger$Machine" "values" "[I", Cond.fieldLink RX1 15 "TailMerger$Machine" "emitted" "[I", Cond.fieldLink RX1 18 "TailMerger$Machine" "emittedCount" "I"]
def wsX3_init : List Cond := .code yX3_init cX3_init 2 none :: ((wsX3_init_r1 ++ wsX3_init_r2) ++ wsX20 ++ wsX30 ++ wsX10 ++ wsX00)
def wsX3_addBlock : List Cond := .code yX3_addBlock cX3_addBlock 1 (some .int) :: ([.fieldLink RX3 10 "TailMerger" "program" "LTailMerger$Program;", .instanceMethod yX2_appendBlock, .initialized RX2, .selects RX2 yX2_appendBlock yX2_appendBlock, .code yX2_appendBlock cX2_appendBlock 2 (some .int), .fieldLink RX2 18 "TailMerger$Program" "count" "I", .fieldLink RX2 11 "TailMerger$Program" "blocks" "[LTailMerger$Block;", .instanceMethod yX0_clear, .initialized RX0, .selects RX0 yX0_clear yX0_clear, .code yX0_clear cX0_clear 1 none, .fieldLink RX0 27 "TailMerger$Block" "count" "I", .methodLink RX0 37 yX0_terminate, .instanceMethod yX0_terminate, .selects RX0 yX0_terminate yX0_terminate, .code yX0_terminate cX0_terminate 6 (some .int), .fieldLink RX0 31 "TailMerger$Block" "kind" "I", .fieldLink RX0 34 "TailMerger$Block" "terminatorOperands" "[I"] ++ wsX30 ++ wsX20 ++ wsX00)
def wsX3_isGeneral : List Cond := .code yX3_isGeneral cX3_isGeneral 1 (some .boolean) :: ([])
def wsX3_operandsFit : List Cond := .code yX3_operandsFit cX3_operandsFit 4 (some .boolean) :: ([.methodLink RX3 53 yX3_isGeneral, .static yX3_isGeneral, .initialized RX3, .code yX3_isGeneral cX3_isGeneral 1 (some .boolean)])
def wsX3_addInstruction : List Cond := .code yX3_addInstruction cX3_addInstruction 7 (some .int) :: ([.fieldLink RX3 10 "TailMerger" "program" "LTailMerger$Program;", .instanceMethod yX2_has, .initialized RX2, .selects RX2 yX2_has yX2_has, .code yX2_has cX2_has 2 (some .boolean), .fieldLink RX2 18 "TailMerger$Program" "count" "I", .methodLink RX3 39 yX3_operandsFit, .static yX3_operandsFit, .initialized RX3, .code yX3_operandsFit cX3_operandsFit 4 (some .boolean), .methodLink RX3 53 yX3_isGeneral, .static yX3_isGeneral, .code yX3_isGeneral cX3_isGeneral 1 (some .boolean), .instanceMethod yX0_append, .initialized RX0, .selects RX0 yX0_append yX0_append, .code yX0_append cX0_append 7 (some .int), .fieldLink RX0 27 "TailMerger$Block" "count" "I", .fieldLink RX0 9 "TailMerger$Block" "opcodes" "[I", .fieldLink RX0 15 "TailMerger$Block" "destinations" "[I", .fieldLink RX0 18 "TailMerger$Block" "operandsA" "[I", .fieldLink RX0 21 "TailMerger$Block" "operandsB" "[I", .fieldLink RX0 24 "TailMerger$Block" "lineSets" "[I"] ++ wsX30 ++ wsX20 ++ wsX00)
def wsX3_setJump : List Cond := .code yX3_setJump cX3_setJump 3 (some .int) :: ([.fieldLink RX3 10 "TailMerger" "program" "LTailMerger$Program;", .instanceMethod yX2_has, .initialized RX2, .selects RX2 yX2_has yX2_has, .code yX2_has cX2_has 2 (some .boolean), .fieldLink RX2 18 "TailMerger$Program" "count" "I", .instanceMethod yX0_terminate, .initialized RX0, .selects RX0 yX0_terminate yX0_terminate, .code yX0_terminate cX0_terminate 6 (some .int), .fieldLink RX0 31 "TailMerger$Block" "kind" "I", .fieldLink RX0 34 "TailMerger$Block" "terminatorOperands" "[I"] ++ wsX30 ++ wsX20 ++ wsX00)
def wsX3_setBranch : List Cond := .code yX3_setBranch cX3_setBranch 5 (some .int) :: ([.fieldLink RX3 10 "TailMerger" "program" "LTailMerger$Program;", .instanceMethod yX2_has, .initialized RX2, .selects RX2 yX2_has yX2_has, .code yX2_has cX2_has 2 (some .boolean), .fieldLink RX2 18 "TailMerger$Program" "count" "I", .methodLink RX3 53 yX3_isGeneral, .static yX3_isGeneral, .initialized RX3, .code yX3_isGeneral cX3_isGeneral 1 (some .boolean), .instanceMethod yX0_terminate, .initialized RX0, .selects RX0 yX0_terminate yX0_terminate, .code yX0_terminate cX0_terminate 6 (some .int), .fieldLink RX0 31 "TailMerger$Block" "kind" "I", .fieldLink RX0 34 "TailMerger$Block" "terminatorOperands" "[I"] ++ wsX30 ++ wsX20 ++ wsX00)
def wsX3_setReturn : List Cond := .code yX3_setReturn cX3_setReturn 3 (some .int) :: ([.fieldLink RX3 10 "TailMerger" "program" "LTailMerger$Program;", .instanceMethod yX2_has, .initialized RX2, .selects RX2 yX2_has yX2_has, .code yX2_has cX2_has 2 (some .boolean), .fieldLink RX2 18 "TailMerger$Program" "count" "I", .methodLink RX3 53 yX3_isGeneral, .static yX3_isGeneral, .initialized RX3, .code yX3_isGeneral cX3_isGeneral 1 (some .boolean), .instanceMethod yX0_terminate, .initialized RX0, .selects RX0 yX0_terminate yX0_terminate, .code yX0_terminate cX0_terminate 6 (some .int), .fieldLink RX0 31 "TailMerger$Block" "kind" "I", .fieldLink RX0 34 "TailMerger$Block" "terminatorOperands" "[I"] ++ wsX30 ++ wsX20 ++ wsX00)
def wsX3_blockCount : List Cond := .code yX3_blockCount cX3_blockCount 1 (some .int) :: ([.fieldLink RX3 10 "TailMerger" "program" "LTailMerger$Program;"] ++ wsX30 ++ wsX20)
def wsX3_instructionCount : List Cond := .code yX3_instructionCount cX3_instructionCount 2 (some .int) :: ([.fieldLink RX3 10 "TailMerger" "program" "LTailMerger$Program;", .instanceMethod yX2_has, .initialized RX2, .selects RX2 yX2_has yX2_has, .code yX2_has cX2_has 2 (some .boolean), .fieldLink RX2 18 "TailMerger$Program" "count" "I"] ++ wsX30 ++ wsX20 ++ wsX00)
def wsX3_instructionError : List Cond := .code yX3_instructionError cX3_instructionError 3 (some .int) :: ([.fieldLink RX3 10 "TailMerger" "program" "LTailMerger$Program;", .instanceMethod yX2_has, .initialized RX2, .selects RX2 yX2_has yX2_has, .code yX2_has cX2_has 2 (some .boolean), .fieldLink RX2 18 "TailMerger$Program" "count" "I"] ++ wsX30 ++ wsX20 ++ wsX00)
def wsX3_opcode : List Cond := .code yX3_opcode cX3_opcode 4 (some .int) :: ([.fieldLink RX3 10 "TailMerger" "program" "LTailMerger$Program;", .methodLink RX3 65 yX3_instructionError, .instanceMethod yX3_instructionError, .selects RX3 yX3_instructionError yX3_instructionError, .initialized RX3, .code yX3_instructionError cX3_instructionError 3 (some .int), .instanceMethod yX2_has, .initialized RX2, .selects RX2 yX2_has yX2_has, .code yX2_has cX2_has 2 (some .boolean), .fieldLink RX2 18 "TailMerger$Program" "count" "I"] ++ wsX30 ++ wsX20 ++ wsX00)
def wsX3_destination : List Cond := .code yX3_destination cX3_destination 4 (some .int) :: ([.fieldLink RX3 10 "TailMerger" "program" "LTailMerger$Program;", .methodLink RX3 65 yX3_instructionError, .instanceMethod yX3_instructionError, .selects RX3 yX3_instructionError yX3_instructionError, .initialized RX3, .code yX3_instructionError cX3_instructionError 3 (some .int), .instanceMethod yX2_has, .initialized RX2, .selects RX2 yX2_has yX2_has, .code yX2_has cX2_has 2 (some .boolean), .fieldLink RX2 18 "TailMerger$Program" "count" "I"] ++ wsX30 ++ wsX20 ++ wsX00)
def wsX3_operandA : List Cond := .code yX3_operandA cX3_operandA 4 (some .int) :: ([.fieldLink RX3 10 "TailMerger" "program" "LTailMerger$Program;", .methodLink RX3 65 yX3_instructionError, .instanceMethod yX3_instructionError, .selects RX3 yX3_instructionError yX3_instructionError, .initialized RX3, .code yX3_instructionError cX3_instructionError 3 (some .int), .instanceMethod yX2_has, .initialized RX2, .selects RX2 yX2_has yX2_has, .code yX2_has cX2_has 2 (some .boolean), .fieldLink RX2 18 "TailMerger$Program" "count" "I"] ++ wsX30 ++ wsX20 ++ wsX00)
def wsX3_operandB : List Cond := .code yX3_operandB cX3_operandB 4 (some .int) :: ([.fieldLink RX3 10 "TailMerger" "program" "LTailMerger$Program;", .methodLink RX3 65 yX3_instructionError, .instanceMethod yX3_instructionError, .selects RX3 yX3_instructionError yX3_instructionError, .initialized RX3, .code yX3_instructionError cX3_instructionError 3 (some .int), .instanceMethod yX2_has, .initialized RX2, .selects RX2 yX2_has yX2_has, .code yX2_has cX2_has 2 (some .boolean), .fieldLink RX2 18 "TailMerger$Program" "count" "I"] ++ wsX30 ++ wsX20 ++ wsX00)
def wsX3_lines : List Cond := .code yX3_lines cX3_lines 4 (some .int) :: ([.fieldLink RX3 10 "TailMerger" "program" "LTailMerger$Program;", .methodLink RX3 65 yX3_instructionError, .instanceMethod yX3_instructionError, .selects RX3 yX3_instructionError yX3_instructionError, .initialized RX3, .code yX3_instructionError cX3_instructionError 3 (some .int), .instanceMethod yX2_has, .initialized RX2, .selects RX2 yX2_has yX2_has, .code yX2_has cX2_has 2 (some .boolean), .fieldLink RX2 18 "TailMerger$Program" "count" "I"] ++ wsX30 ++ wsX20 ++ wsX00)
def wsX3_terminatorKind : List Cond := .code yX3_terminatorKind cX3_terminatorKind 2 (some .int) :: ([.fieldLink RX3 10 "TailMerger" "program" "LTailMerger$Program;", .instanceMethod yX2_has, .initialized RX2, .selects RX2 yX2_has yX2_has, .code yX2_has cX2_has 2 (some .boolean), .fieldLink RX2 18 "TailMerger$Program" "count" "I"] ++ wsX30 ++ wsX20 ++ wsX00)
def wsX3_terminatorOperand : List Cond := .code yX3_terminatorOperand cX3_terminatorOperand 5 (some .int) :: ([.fieldLink RX3 10 "TailMerger" "program" "LTailMerger$Program;", .instanceMethod yX2_has, .initialized RX2, .selects RX2 yX2_has yX2_has, .code yX2_has cX2_has 2 (some .boolean), .fieldLink RX2 18 "TailMerger$Program" "count" "I"] ++ wsX30 ++ wsX20 ++ wsX00)
def wsX3_tailHash : List Cond := .code yX3_tailHash cX3_tailHash 4 (some .int) :: ([.fieldLink RX3 10 "TailMerger" "program" "LTailMerger$Program;", .instanceMethod yX2_has, .initialized RX2, .selects RX2 yX2_has yX2_has, .code yX2_has cX2_has 2 (some .boolean), .fieldLink RX2 18 "TailMerger$Program" "count" "I", .instanceMethod yX0_hashOfTail, .initialized RX0, .selects RX0 yX0_hashOfTail yX0_hashOfTail, .code yX0_hashOfTail cX0_hashOfTail 4 (some .int), .fieldLink RX0 27 "TailMerger$Block" "count" "I", .fieldLink RX0 9 "TailMerger$Block" "opcodes" "[I", .fieldLink RX0 15 "TailMerger$Block" "destinations" "[I", .fieldLink RX0 18 "TailMerger$Block" "operandsA" "[I", .fieldLink RX0 21 "TailMerger$Block" "operandsB" "[I", .fieldLink RX0 31 "TailMerger$Block" "kind" "I", .fieldLink RX0 34 "TailMerger$Block" "terminatorOperands" "[I", .constant RX0 53 (2147483647)] ++ wsX30 ++ wsX20 ++ wsX00)
def wsX3_pairError : List Cond := .code yX3_pairError cX3_pairError 3 (some .int) :: ([.fieldLink RX3 10 "TailMerger" "program" "LTailMerger$Program;", .instanceMethod yX2_has, .initialized RX2, .selects RX2 yX2_has yX2_has, .code yX2_has cX2_has 2 (some .boolean), .fieldLink RX2 18 "TailMerger$Program" "count" "I"] ++ wsX30 ++ wsX20)
def wsX3_commonTail_r1 : List Cond := [Cond.fieldLink RX3 10 "TailMerger" "program" "LTailMerger$Program;", Cond.methodLink RX3 95 yX3_pairError, Cond.instanceMethod yX3_pairError, Cond.selects RX3 yX3_pairError yX3_pairError, Cond.initialized RX3, Cond.code yX3_pairError cX3_pairError 3 (some .int), Cond.instanceMethod yX2_has, Cond.initialized RX2, Cond.selects RX2 yX2_has yX2_has, Cond.code yX2_has cX2_has 2 (some .boolean), Cond.fieldLink RX2 18 "TailMerger$Program" "count" "I", Cond.instanceMethod yX0_tailSharedWith, Cond.initialized RX0, Cond.selects RX0 yX0_tailSharedWith yX0_tailSharedWith, Cond.code yX0_tailSharedWith cX0_tailSharedWith 4 (some .int), Cond.fieldLink RX0 27 "TailMerger$Block" "count" "I", Cond.methodLink RX0 58 Lib.Math.min.name, Cond.static Lib.Math.min.name, Cond.initialized "java/lang/Math", Cond.code Lib.Math.min.name Lib.Math.min.code 2 (some .int), Cond.methodLink RX0 54 yX0_hasTerminatorOf, Cond.instanceMethod yX0_hasTerminatorOf, Cond.selects RX0 yX0_hasTerminatorOf yX0_hasTerminatorOf, Cond.code yX0_hasTerminatorOf cX0_hasTerminatorOf 2 (some .boolean)]
def wsX3_commonTail_r2 : List Cond := [Cond.fieldLink RX0 31 "TailMerger$Block" "kind" "I", Cond.fieldLink RX0 34 "TailMerger$Block" "terminatorOperands" "[I", Cond.methodLink RX0 64 yX0_isEqualAt, Cond.instanceMethod yX0_isEqualAt, Cond.selects RX0 yX0_isEqualAt yX0_isEqualAt, Cond.code yX0_isEqualAt cX0_isEqualAt 5 (some .boolean), Cond.fieldLink RX0 9 "TailMerger$Block" "opcodes" "[I", Cond.fieldLink RX0 15 "TailMerger$Block" "destinations" "[I", Cond.fieldLink RX0 18 "TailMerger$Block" "operandsA" "[I", Cond.fieldLink RX0 21 "TailMerger$Block" "operandsB" "[I"]
def wsX3_commonTail : List Cond := .code yX3_commonTail cX3_commonTail 4 (some .int) :: ((wsX3_commonTail_r1 ++ wsX3_commonTail_r2) ++ wsX30 ++ wsX20 ++ wsX00)
def wsX3_parameterTail_r1 : List Cond := [Cond.fieldLink RX3 10 "TailMerger" "program" "LTailMerger$Program;", Cond.methodLink RX3 95 yX3_pairError, Cond.instanceMethod yX3_pairError, Cond.selects RX3 yX3_pairError yX3_pairError, Cond.initialized RX3, Cond.code yX3_pairError cX3_pairError 3 (some .int), Cond.instanceMethod yX2_has, Cond.initialized RX2, Cond.selects RX2 yX2_has yX2_has, Cond.code yX2_has cX2_has 2 (some .boolean), Cond.fieldLink RX2 18 "TailMerger$Program" "count" "I", Cond.instanceMethod yX0_parameterTailWith, Cond.initialized RX0, Cond.selects RX0 yX0_parameterTailWith yX0_parameterTailWith, Cond.code yX0_parameterTailWith cX0_parameterTailWith 5 (some .int), Cond.fieldLink RX0 31 "TailMerger$Block" "kind" "I", Cond.fieldLink RX0 27 "TailMerger$Block" "count" "I", Cond.methodLink RX0 58 Lib.Math.min.name, Cond.static Lib.Math.min.name, Cond.initialized "java/lang/Math", Cond.code Lib.Math.min.name Lib.Math.min.code 2 (some .int), Cond.methodLink RX0 54 yX0_hasTerminatorOf, Cond.instanceMethod yX0_hasTerminatorOf, Cond.selects RX0 yX0_hasTerminatorOf yX0_hasTerminatorOf]
def wsX3_parameterTail_r2 : List Cond := [Cond.code yX0_hasTerminatorOf cX0_hasTerminatorOf 2 (some .boolean), Cond.fieldLink RX0 34 "TailMerger$Block" "terminatorOperands" "[I", Cond.methodLink RX0 68 yX0_fitsParameterTail, Cond.instanceMethod yX0_fitsParameterTail, Cond.selects RX0 yX0_fitsParameterTail yX0_fitsParameterTail, Cond.code yX0_fitsParameterTail cX0_fitsParameterTail 4 (some .boolean), Cond.methodLink RX0 72 yX0_usesParameterAt, Cond.instanceMethod yX0_usesParameterAt, Cond.selects RX0 yX0_usesParameterAt yX0_usesParameterAt, Cond.code yX0_usesParameterAt cX0_usesParameterAt 3 (some .boolean), Cond.fieldLink RX0 15 "TailMerger$Block" "destinations" "[I", Cond.fieldLink RX0 21 "TailMerger$Block" "operandsB" "[I", Cond.fieldLink RX0 18 "TailMerger$Block" "operandsA" "[I", Cond.fieldLink RX0 9 "TailMerger$Block" "opcodes" "[I", Cond.methodLink RX0 64 yX0_isEqualAt, Cond.instanceMethod yX0_isEqualAt, Cond.selects RX0 yX0_isEqualAt yX0_isEqualAt, Cond.code yX0_isEqualAt cX0_isEqualAt 5 (some .boolean), Cond.methodLink RX0 76 yX0_isSameConstTargetAt, Cond.instanceMethod yX0_isSameConstTargetAt, Cond.selects RX0 yX0_isSameConstTargetAt yX0_isSameConstTargetAt, Cond.code yX0_isSameConstTargetAt cX0_isSameConstTargetAt 5 (some .boolean)]
def wsX3_parameterTail : List Cond := .code yX3_parameterTail cX3_parameterTail 4 (some .int) :: ((wsX3_parameterTail_r1 ++ wsX3_parameterTail_r2) ++ wsX30 ++ wsX20 ++ wsX00)
def wsX3_setJumpCost : List Cond := .code yX3_setJumpCost cX3_setJumpCost 3 (some .int) :: ([.fieldLink RX3 10 "TailMerger" "program" "LTailMerger$Program;"] ++ wsX30 ++ wsX20)
def wsX3_codeSize : List Cond := .code yX3_codeSize cX3_codeSize 1 (some .int) :: ([.fieldLink RX3 10 "TailMerger" "program" "LTailMerger$Program;", .instanceMethod yX2_size, .initialized RX2, .selects RX2 yX2_size yX2_size, .code yX2_size cX2_size 3 (some .int), .fieldLink RX2 18 "TailMerger$Program" "count" "I", .fieldLink RX2 11 "TailMerger$Program" "blocks" "[LTailMerger$Block;", .methodLink RX2 46 yX2_terminatorCost, .instanceMethod yX2_terminatorCost, .selects RX2 yX2_terminatorCost yX2_terminatorCost, .code yX2_terminatorCost cX2_terminatorCost 2 (some .int), .fieldLink RX2 22 "TailMerger$Program" "jumpCost" "I"] ++ wsX30 ++ wsX20 ++ wsX00)
def wsX3_tailOrError_r1 : List Cond := [Cond.fieldLink RX3 10 "TailMerger" "program" "LTailMerger$Program;", Cond.methodLink RX3 117 yJ6_bitCount_0f7a4, Cond.static yJ6_bitCount_0f7a4, Cond.initialized RJ6, Cond.code yJ6_bitCount_0f7a4 cJ6_bitCount_0f7a4 1 (some .int), Cond.constant RJ6 265 (1431655765), Cond.constant RJ6 266 (858993459), Cond.constant RJ6 267 (252645135), Cond.instanceMethod yX2_tailOfSet, Cond.initialized RX2, Cond.selects RX2 yX2_tailOfSet yX2_tailOfSet, Cond.code yX2_tailOfSet cX2_tailOfSet 5 (some .int), Cond.fieldLink RX2 18 "TailMerger$Program" "count" "I", Cond.fieldLink RX2 11 "TailMerger$Program" "blocks" "[LTailMerger$Block;", Cond.methodLink RX2 61 Lib.Math.min.name, Cond.static Lib.Math.min.name, Cond.initialized "java/lang/Math", Cond.code Lib.Math.min.name Lib.Math.min.code 2 (some .int), Cond.methodLink RX2 53 yX2_contains, Cond.static yX2_contains, Cond.code yX2_contains cX2_contains 2 (some .boolean), Cond.instanceMethod yX0_tailSharedWith, Cond.initialized RX0, Cond.selects RX0 yX0_tailSharedWith yX0_tailSharedWith]
def wsX3_tailOrError_r2 : List Cond := [Cond.code yX0_tailSharedWith cX0_tailSharedWith 4 (some .int), Cond.fieldLink RX0 27 "TailMerger$Block" "count" "I", Cond.methodLink RX0 58 Lib.Math.min.name, Cond.methodLink RX0 54 yX0_hasTerminatorOf, Cond.instanceMethod yX0_hasTerminatorOf, Cond.selects RX0 yX0_hasTerminatorOf yX0_hasTerminatorOf, Cond.code yX0_hasTerminatorOf cX0_hasTerminatorOf 2 (some .boolean), Cond.fieldLink RX0 31 "TailMerger$Block" "kind" "I", Cond.fieldLink RX0 34 "TailMerger$Block" "terminatorOperands" "[I", Cond.methodLink RX0 64 yX0_isEqualAt, Cond.instanceMethod yX0_isEqualAt, Cond.selects RX0 yX0_isEqualAt yX0_isEqualAt, Cond.code yX0_isEqualAt cX0_isEqualAt 5 (some .boolean), Cond.fieldLink RX0 9 "TailMerger$Block" "opcodes" "[I", Cond.fieldLink RX0 15 "TailMerger$Block" "destinations" "[I", Cond.fieldLink RX0 18 "TailMerger$Block" "operandsA" "[I", Cond.fieldLink RX0 21 "TailMerger$Block" "operandsB" "[I"]
def wsX3_tailOrError : List Cond := .code yX3_tailOrError cX3_tailOrError 2 (some .int) :: ((wsX3_tailOrError_r1 ++ wsX3_tailOrError_r2) ++ wsX30 ++ wsX20 ++ wsX00)
def wsX3_tailSaving_r1 : List Cond := [Cond.fieldLink RX3 10 "TailMerger" "program" "LTailMerger$Program;", Cond.methodLink RX3 111 yX3_tailOrError, Cond.instanceMethod yX3_tailOrError, Cond.selects RX3 yX3_tailOrError yX3_tailOrError, Cond.initialized RX3, Cond.code yX3_tailOrError cX3_tailOrError 2 (some .int), Cond.methodLink RX3 117 yJ6_bitCount_0f7a4, Cond.static yJ6_bitCount_0f7a4, Cond.initialized RJ6, Cond.code yJ6_bitCount_0f7a4 cJ6_bitCount_0f7a4 1 (some .int), Cond.constant RJ6 265 (1431655765), Cond.constant RJ6 266 (858993459), Cond.constant RJ6 267 (252645135), Cond.instanceMethod yX2_tailOfSet, Cond.initialized RX2, Cond.selects RX2 yX2_tailOfSet yX2_tailOfSet, Cond.code yX2_tailOfSet cX2_tailOfSet 5 (some .int), Cond.fieldLink RX2 18 "TailMerger$Program" "count" "I", Cond.fieldLink RX2 11 "TailMerger$Program" "blocks" "[LTailMerger$Block;", Cond.methodLink RX2 61 Lib.Math.min.name, Cond.static Lib.Math.min.name, Cond.initialized "java/lang/Math", Cond.code Lib.Math.min.name Lib.Math.min.code 2 (some .int), Cond.methodLink RX2 53 yX2_contains]
def wsX3_tailSaving_r2 : List Cond := [Cond.static yX2_contains, Cond.code yX2_contains cX2_contains 2 (some .boolean), Cond.instanceMethod yX0_tailSharedWith, Cond.initialized RX0, Cond.selects RX0 yX0_tailSharedWith yX0_tailSharedWith, Cond.code yX0_tailSharedWith cX0_tailSharedWith 4 (some .int), Cond.fieldLink RX0 27 "TailMerger$Block" "count" "I", Cond.methodLink RX0 58 Lib.Math.min.name, Cond.methodLink RX0 54 yX0_hasTerminatorOf, Cond.instanceMethod yX0_hasTerminatorOf, Cond.selects RX0 yX0_hasTerminatorOf yX0_hasTerminatorOf, Cond.code yX0_hasTerminatorOf cX0_hasTerminatorOf 2 (some .boolean), Cond.fieldLink RX0 31 "TailMerger$Block" "kind" "I", Cond.fieldLink RX0 34 "TailMerger$Block" "terminatorOperands" "[I", Cond.methodLink RX0 64 yX0_isEqualAt, Cond.instanceMethod yX0_isEqualAt, Cond.selects RX0 yX0_isEqualAt yX0_isEqualAt, Cond.code yX0_isEqualAt cX0_isEqualAt 5 (some .boolean), Cond.fieldLink RX0 9 "TailMerger$Block" "opcodes" "[I", Cond.fieldLink RX0 15 "TailMerger$Block" "destinations" "[I", Cond.fieldLink RX0 18 "TailMerger$Block" "operandsA" "[I", Cond.fieldLink RX0 21 "TailMerger$Block" "operandsB" "[I", Cond.instanceMethod yX2_savingOfSet, Cond.selects RX2 yX2_savingOfSet yX2_savingOfSet]
def wsX3_tailSaving_r3 : List Cond := [Cond.code yX2_savingOfSet cX2_savingOfSet 5 (some .int), Cond.methodLink RX2 67 yJ6_bitCount_0f7a4, Cond.methodLink RX2 46 yX2_terminatorCost, Cond.instanceMethod yX2_terminatorCost, Cond.selects RX2 yX2_terminatorCost yX2_terminatorCost, Cond.code yX2_terminatorCost cX2_terminatorCost 2 (some .int), Cond.fieldLink RX2 22 "TailMerger$Program" "jumpCost" "I", Cond.methodLink RX2 72 yX2_savingOf, Cond.instanceMethod yX2_savingOf, Cond.selects RX2 yX2_savingOf yX2_savingOf, Cond.code yX2_savingOf cX2_savingOf 4 (some .int)]
def wsX3_tailSaving : List Cond := .code yX3_tailSaving cX3_tailSaving 3 (some .int) :: ((wsX3_tailSaving_r1 ++ (wsX3_tailSaving_r2 ++ wsX3_tailSaving_r3)) ++ wsX30 ++ wsX20 ++ wsX00)
def wsX3_bestTail_r1 : List Cond := [Cond.fieldLink RX3 10 "TailMerger" "program" "LTailMerger$Program;", Cond.instanceMethod yX2_bestSet, Cond.initialized RX2, Cond.selects RX2 yX2_bestSet yX2_bestSet, Cond.code yX2_bestSet cX2_bestSet 8 (some .int), Cond.fieldLink RX2 18 "TailMerger$Program" "count" "I", Cond.fieldLink RX2 11 "TailMerger$Program" "blocks" "[LTailMerger$Block;", Cond.methodLink RX2 76 yX2_compareWithLater, Cond.instanceMethod yX2_compareWithLater, Cond.selects RX2 yX2_compareWithLater yX2_compareWithLater, Cond.code yX2_compareWithLater cX2_compareWithLater 3 none, Cond.fieldLink RX2 29 "TailMerger$Program" "sharedLengths" "[I", Cond.instanceMethod yX0_tailSharedWith, Cond.initialized RX0, Cond.selects RX0 yX0_tailSharedWith yX0_tailSharedWith, Cond.code yX0_tailSharedWith cX0_tailSharedWith 4 (some .int), Cond.fieldLink RX0 27 "TailMerger$Block" "count" "I", Cond.methodLink RX0 58 Lib.Math.min.name, Cond.static Lib.Math.min.name, Cond.initialized "java/lang/Math", Cond.code Lib.Math.min.name Lib.Math.min.code 2 (some .int), Cond.methodLink RX0 54 yX0_hasTerminatorOf, Cond.instanceMethod yX0_hasTerminatorOf, Cond.selects RX0 yX0_hasTerminatorOf yX0_hasTerminatorOf]
def wsX3_bestTail_r2 : List Cond := [Cond.code yX0_hasTerminatorOf cX0_hasTerminatorOf 2 (some .boolean), Cond.fieldLink RX0 31 "TailMerger$Block" "kind" "I", Cond.fieldLink RX0 34 "TailMerger$Block" "terminatorOperands" "[I", Cond.methodLink RX0 64 yX0_isEqualAt, Cond.instanceMethod yX0_isEqualAt, Cond.selects RX0 yX0_isEqualAt yX0_isEqualAt, Cond.code yX0_isEqualAt cX0_isEqualAt 5 (some .boolean), Cond.fieldLink RX0 9 "TailMerger$Block" "opcodes" "[I", Cond.fieldLink RX0 15 "TailMerger$Block" "destinations" "[I", Cond.fieldLink RX0 18 "TailMerger$Block" "operandsA" "[I", Cond.fieldLink RX0 21 "TailMerger$Block" "operandsB" "[I", Cond.methodLink RX2 46 yX2_terminatorCost, Cond.instanceMethod yX2_terminatorCost, Cond.selects RX2 yX2_terminatorCost yX2_terminatorCost, Cond.code yX2_terminatorCost cX2_terminatorCost 2 (some .int), Cond.fieldLink RX2 22 "TailMerger$Program" "jumpCost" "I", Cond.methodLink RX2 80 yX2_sharersFrom, Cond.instanceMethod yX2_sharersFrom, Cond.selects RX2 yX2_sharersFrom yX2_sharersFrom, Cond.code yX2_sharersFrom cX2_sharersFrom 5 (some .int), Cond.methodLink RX2 67 yJ6_bitCount_0f7a4, Cond.static yJ6_bitCount_0f7a4, Cond.initialized RJ6, Cond.code yJ6_bitCount_0f7a4 cJ6_bitCount_0f7a4 1 (some .int)]
def wsX3_bestTail_r3 : List Cond := [Cond.constant RJ6 265 (1431655765), Cond.constant RJ6 266 (858993459), Cond.constant RJ6 267 (252645135), Cond.methodLink RX2 72 yX2_savingOf, Cond.instanceMethod yX2_savingOf, Cond.selects RX2 yX2_savingOf yX2_savingOf, Cond.code yX2_savingOf cX2_savingOf 4 (some .int)]
def wsX3_bestTail : List Cond := .code yX3_bestTail cX3_bestTail 1 (some .int) :: ((wsX3_bestTail_r1 ++ (wsX3_bestTail_r2 ++ wsX3_bestTail_r3)) ++ wsX30 ++ wsX20 ++ wsX00)
def wsX3_mergeTail_r1 : List Cond := [Cond.fieldLink RX3 10 "TailMerger" "program" "LTailMerger$Program;", Cond.methodLink RX3 111 yX3_tailOrError, Cond.instanceMethod yX3_tailOrError, Cond.selects RX3 yX3_tailOrError yX3_tailOrError, Cond.initialized RX3, Cond.code yX3_tailOrError cX3_tailOrError 2 (some .int), Cond.methodLink RX3 117 yJ6_bitCount_0f7a4, Cond.static yJ6_bitCount_0f7a4, Cond.initialized RJ6, Cond.code yJ6_bitCount_0f7a4 cJ6_bitCount_0f7a4 1 (some .int), Cond.constant RJ6 265 (1431655765), Cond.constant RJ6 266 (858993459), Cond.constant RJ6 267 (252645135), Cond.instanceMethod yX2_tailOfSet, Cond.initialized RX2, Cond.selects RX2 yX2_tailOfSet yX2_tailOfSet, Cond.code yX2_tailOfSet cX2_tailOfSet 5 (some .int), Cond.fieldLink RX2 18 "TailMerger$Program" "count" "I", Cond.fieldLink RX2 11 "TailMerger$Program" "blocks" "[LTailMerger$Block;", Cond.methodLink RX2 61 Lib.Math.min.name, Cond.static Lib.Math.min.name, Cond.initialized "java/lang/Math", Cond.code Lib.Math.min.name Lib.Math.min.code 2 (some .int), Cond.methodLink RX2 53 yX2_contains]
def wsX3_mergeTail_r2 : List Cond := [Cond.static yX2_contains, Cond.code yX2_contains cX2_contains 2 (some .boolean), Cond.instanceMethod yX0_tailSharedWith, Cond.initialized RX0, Cond.selects RX0 yX0_tailSharedWith yX0_tailSharedWith, Cond.code yX0_tailSharedWith cX0_tailSharedWith 4 (some .int), Cond.fieldLink RX0 27 "TailMerger$Block" "count" "I", Cond.methodLink RX0 58 Lib.Math.min.name, Cond.methodLink RX0 54 yX0_hasTerminatorOf, Cond.instanceMethod yX0_hasTerminatorOf, Cond.selects RX0 yX0_hasTerminatorOf yX0_hasTerminatorOf, Cond.code yX0_hasTerminatorOf cX0_hasTerminatorOf 2 (some .boolean), Cond.fieldLink RX0 31 "TailMerger$Block" "kind" "I", Cond.fieldLink RX0 34 "TailMerger$Block" "terminatorOperands" "[I", Cond.methodLink RX0 64 yX0_isEqualAt, Cond.instanceMethod yX0_isEqualAt, Cond.selects RX0 yX0_isEqualAt yX0_isEqualAt, Cond.code yX0_isEqualAt cX0_isEqualAt 5 (some .boolean), Cond.fieldLink RX0 9 "TailMerger$Block" "opcodes" "[I", Cond.fieldLink RX0 15 "TailMerger$Block" "destinations" "[I", Cond.fieldLink RX0 18 "TailMerger$Block" "operandsA" "[I", Cond.fieldLink RX0 21 "TailMerger$Block" "operandsB" "[I", Cond.instanceMethod yX2_savingOfSet, Cond.selects RX2 yX2_savingOfSet yX2_savingOfSet]
def wsX3_mergeTail_r3 : List Cond := [Cond.code yX2_savingOfSet cX2_savingOfSet 5 (some .int), Cond.methodLink RX2 67 yJ6_bitCount_0f7a4, Cond.methodLink RX2 46 yX2_terminatorCost, Cond.instanceMethod yX2_terminatorCost, Cond.selects RX2 yX2_terminatorCost yX2_terminatorCost, Cond.code yX2_terminatorCost cX2_terminatorCost 2 (some .int), Cond.fieldLink RX2 22 "TailMerger$Program" "jumpCost" "I", Cond.methodLink RX2 72 yX2_savingOf, Cond.instanceMethod yX2_savingOf, Cond.selects RX2 yX2_savingOf yX2_savingOf, Cond.code yX2_savingOf cX2_savingOf 4 (some .int), Cond.instanceMethod yX2_mergeSet, Cond.selects RX2 yX2_mergeSet yX2_mergeSet, Cond.code yX2_mergeSet cX2_mergeSet 6 (some .int), Cond.methodLink RX2 83 yX2_appendBlock, Cond.instanceMethod yX2_appendBlock, Cond.selects RX2 yX2_appendBlock yX2_appendBlock, Cond.code yX2_appendBlock cX2_appendBlock 2 (some .int), Cond.instanceMethod yX0_clear, Cond.selects RX0 yX0_clear yX0_clear, Cond.code yX0_clear cX0_clear 1 none, Cond.methodLink RX0 37 yX0_terminate, Cond.instanceMethod yX0_terminate, Cond.selects RX0 yX0_terminate yX0_terminate]
def wsX3_mergeTail_r4 : List Cond := [Cond.code yX0_terminate cX0_terminate 6 (some .int), Cond.instanceMethod yX0_uniteLines, Cond.selects RX0 yX0_uniteLines yX0_uniteLines, Cond.code yX0_uniteLines cX0_uniteLines 4 none, Cond.fieldLink RX0 24 "TailMerger$Block" "lineSets" "[I", Cond.instanceMethod yX0_appendTail, Cond.selects RX0 yX0_appendTail yX0_appendTail, Cond.code yX0_appendTail cX0_appendTail 4 none, Cond.methodLink RX0 45 yX0_append, Cond.instanceMethod yX0_append, Cond.selects RX0 yX0_append yX0_append, Cond.code yX0_append cX0_append 7 (some .int), Cond.instanceMethod yX0_replaceTailByJump, Cond.selects RX0 yX0_replaceTailByJump yX0_replaceTailByJump, Cond.code yX0_replaceTailByJump cX0_replaceTailByJump 3 none]
def wsX3_mergeTail : List Cond := .code yX3_mergeTail cX3_mergeTail 3 (some .int) :: ((wsX3_mergeTail_r1 ++ (wsX3_mergeTail_r2 ++ (wsX3_mergeTail_r3 ++ wsX3_mergeTail_r4))) ++ wsX30 ++ wsX20 ++ wsX00)
def wsX3_parameterSaving_r1 : List Cond := [Cond.fieldLink RX3 10 "TailMerger" "program" "LTailMerger$Program;", Cond.methodLink RX3 131 yX3_parameterTail, Cond.instanceMethod yX3_parameterTail, Cond.selects RX3 yX3_parameterTail yX3_parameterTail, Cond.initialized RX3, Cond.code yX3_parameterTail cX3_parameterTail 4 (some .int), Cond.methodLink RX3 95 yX3_pairError, Cond.instanceMethod yX3_pairError, Cond.selects RX3 yX3_pairError yX3_pairError, Cond.code yX3_pairError cX3_pairError 3 (some .int), Cond.instanceMethod yX2_has, Cond.initialized RX2, Cond.selects RX2 yX2_has yX2_has, Cond.code yX2_has cX2_has 2 (some .boolean), Cond.fieldLink RX2 18 "TailMerger$Program" "count" "I", Cond.instanceMethod yX0_parameterTailWith, Cond.initialized RX0, Cond.selects RX0 yX0_parameterTailWith yX0_parameterTailWith, Cond.code yX0_parameterTailWith cX0_parameterTailWith 5 (some .int), Cond.fieldLink RX0 31 "TailMerger$Block" "kind" "I", Cond.fieldLink RX0 27 "TailMerger$Block" "count" "I", Cond.methodLink RX0 58 Lib.Math.min.name, Cond.static Lib.Math.min.name, Cond.initialized "java/lang/Math"]
def wsX3_parameterSaving_r2 : List Cond := [Cond.code Lib.Math.min.name Lib.Math.min.code 2 (some .int), Cond.methodLink RX0 54 yX0_hasTerminatorOf, Cond.instanceMethod yX0_hasTerminatorOf, Cond.selects RX0 yX0_hasTerminatorOf yX0_hasTerminatorOf, Cond.code yX0_hasTerminatorOf cX0_hasTerminatorOf 2 (some .boolean), Cond.fieldLink RX0 34 "TailMerger$Block" "terminatorOperands" "[I", Cond.methodLink RX0 68 yX0_fitsParameterTail, Cond.instanceMethod yX0_fitsParameterTail, Cond.selects RX0 yX0_fitsParameterTail yX0_fitsParameterTail, Cond.code yX0_fitsParameterTail cX0_fitsParameterTail 4 (some .boolean), Cond.methodLink RX0 72 yX0_usesParameterAt, Cond.instanceMethod yX0_usesParameterAt, Cond.selects RX0 yX0_usesParameterAt yX0_usesParameterAt, Cond.code yX0_usesParameterAt cX0_usesParameterAt 3 (some .boolean), Cond.fieldLink RX0 15 "TailMerger$Block" "destinations" "[I", Cond.fieldLink RX0 21 "TailMerger$Block" "operandsB" "[I", Cond.fieldLink RX0 18 "TailMerger$Block" "operandsA" "[I", Cond.fieldLink RX0 9 "TailMerger$Block" "opcodes" "[I", Cond.methodLink RX0 64 yX0_isEqualAt, Cond.instanceMethod yX0_isEqualAt, Cond.selects RX0 yX0_isEqualAt yX0_isEqualAt, Cond.code yX0_isEqualAt cX0_isEqualAt 5 (some .boolean), Cond.methodLink RX0 76 yX0_isSameConstTargetAt, Cond.instanceMethod yX0_isSameConstTargetAt]
def wsX3_parameterSaving_r3 : List Cond := [Cond.selects RX0 yX0_isSameConstTargetAt yX0_isSameConstTargetAt, Cond.code yX0_isSameConstTargetAt cX0_isSameConstTargetAt 5 (some .boolean), Cond.instanceMethod yX2_savingWithParameter, Cond.selects RX2 yX2_savingWithParameter yX2_savingWithParameter, Cond.code yX2_savingWithParameter cX2_savingWithParameter 3 (some .int), Cond.fieldLink RX2 22 "TailMerger$Program" "jumpCost" "I", Cond.methodLink RX2 46 yX2_terminatorCost, Cond.instanceMethod yX2_terminatorCost, Cond.selects RX2 yX2_terminatorCost yX2_terminatorCost, Cond.code yX2_terminatorCost cX2_terminatorCost 2 (some .int), Cond.fieldLink RX2 11 "TailMerger$Program" "blocks" "[LTailMerger$Block;"]
def wsX3_parameterSaving : List Cond := .code yX3_parameterSaving cX3_parameterSaving 4 (some .int) :: ((wsX3_parameterSaving_r1 ++ (wsX3_parameterSaving_r2 ++ wsX3_parameterSaving_r3)) ++ wsX30 ++ wsX20 ++ wsX00)
def wsX3_mergeWithParameter_r1 : List Cond := [Cond.fieldLink RX3 10 "TailMerger" "program" "LTailMerger$Program;", Cond.methodLink RX3 131 yX3_parameterTail, Cond.instanceMethod yX3_parameterTail, Cond.selects RX3 yX3_parameterTail yX3_parameterTail, Cond.initialized RX3, Cond.code yX3_parameterTail cX3_parameterTail 4 (some .int), Cond.methodLink RX3 95 yX3_pairError, Cond.instanceMethod yX3_pairError, Cond.selects RX3 yX3_pairError yX3_pairError, Cond.code yX3_pairError cX3_pairError 3 (some .int), Cond.instanceMethod yX2_has, Cond.initialized RX2, Cond.selects RX2 yX2_has yX2_has, Cond.code yX2_has cX2_has 2 (some .boolean), Cond.fieldLink RX2 18 "TailMerger$Program" "count" "I", Cond.instanceMethod yX0_parameterTailWith, Cond.initialized RX0, Cond.selects RX0 yX0_parameterTailWith yX0_parameterTailWith, Cond.code yX0_parameterTailWith cX0_parameterTailWith 5 (some .int), Cond.fieldLink RX0 31 "TailMerger$Block" "kind" "I", Cond.fieldLink RX0 27 "TailMerger$Block" "count" "I", Cond.methodLink RX0 58 Lib.Math.min.name, Cond.static Lib.Math.min.name, Cond.initialized "java/lang/Math"]
def wsX3_mergeWithParameter_r2 : List Cond := [Cond.code Lib.Math.min.name Lib.Math.min.code 2 (some .int), Cond.methodLink RX0 54 yX0_hasTerminatorOf, Cond.instanceMethod yX0_hasTerminatorOf, Cond.selects RX0 yX0_hasTerminatorOf yX0_hasTerminatorOf, Cond.code yX0_hasTerminatorOf cX0_hasTerminatorOf 2 (some .boolean), Cond.fieldLink RX0 34 "TailMerger$Block" "terminatorOperands" "[I", Cond.methodLink RX0 68 yX0_fitsParameterTail, Cond.instanceMethod yX0_fitsParameterTail, Cond.selects RX0 yX0_fitsParameterTail yX0_fitsParameterTail, Cond.code yX0_fitsParameterTail cX0_fitsParameterTail 4 (some .boolean), Cond.methodLink RX0 72 yX0_usesParameterAt, Cond.instanceMethod yX0_usesParameterAt, Cond.selects RX0 yX0_usesParameterAt yX0_usesParameterAt, Cond.code yX0_usesParameterAt cX0_usesParameterAt 3 (some .boolean), Cond.fieldLink RX0 15 "TailMerger$Block" "destinations" "[I", Cond.fieldLink RX0 21 "TailMerger$Block" "operandsB" "[I", Cond.fieldLink RX0 18 "TailMerger$Block" "operandsA" "[I", Cond.fieldLink RX0 9 "TailMerger$Block" "opcodes" "[I", Cond.methodLink RX0 64 yX0_isEqualAt, Cond.instanceMethod yX0_isEqualAt, Cond.selects RX0 yX0_isEqualAt yX0_isEqualAt, Cond.code yX0_isEqualAt cX0_isEqualAt 5 (some .boolean), Cond.methodLink RX0 76 yX0_isSameConstTargetAt, Cond.instanceMethod yX0_isSameConstTargetAt]
def wsX3_mergeWithParameter_r3 : List Cond := [Cond.selects RX0 yX0_isSameConstTargetAt yX0_isSameConstTargetAt, Cond.code yX0_isSameConstTargetAt cX0_isSameConstTargetAt 5 (some .boolean), Cond.instanceMethod yX2_mergePair, Cond.selects RX2 yX2_mergePair yX2_mergePair, Cond.code yX2_mergePair cX2_mergePair 6 (some .int), Cond.fieldLink RX2 11 "TailMerger$Program" "blocks" "[LTailMerger$Block;", Cond.methodLink RX2 83 yX2_appendBlock, Cond.instanceMethod yX2_appendBlock, Cond.selects RX2 yX2_appendBlock yX2_appendBlock, Cond.code yX2_appendBlock cX2_appendBlock 2 (some .int), Cond.instanceMethod yX0_clear, Cond.selects RX0 yX0_clear yX0_clear, Cond.code yX0_clear cX0_clear 1 none, Cond.methodLink RX0 37 yX0_terminate, Cond.instanceMethod yX0_terminate, Cond.selects RX0 yX0_terminate yX0_terminate, Cond.code yX0_terminate cX0_terminate 6 (some .int), Cond.instanceMethod yX0_appendTail, Cond.selects RX0 yX0_appendTail yX0_appendTail, Cond.code yX0_appendTail cX0_appendTail 4 none, Cond.fieldLink RX0 24 "TailMerger$Block" "lineSets" "[I", Cond.methodLink RX0 45 yX0_append, Cond.instanceMethod yX0_append, Cond.selects RX0 yX0_append yX0_append]
def wsX3_mergeWithParameter_r4 : List Cond := [Cond.code yX0_append cX0_append 7 (some .int), Cond.instanceMethod yX0_uniteLines, Cond.selects RX0 yX0_uniteLines yX0_uniteLines, Cond.code yX0_uniteLines cX0_uniteLines 4 none, Cond.instanceMethod yX0_takeParameterAt, Cond.selects RX0 yX0_takeParameterAt yX0_takeParameterAt, Cond.code yX0_takeParameterAt cX0_takeParameterAt 2 none, Cond.instanceMethod yX0_replaceTailByParameter, Cond.selects RX0 yX0_replaceTailByParameter yX0_replaceTailByParameter, Cond.code yX0_replaceTailByParameter cX0_replaceTailByParameter 6 none, Cond.methodLink RX0 49 yX0_replaceTailByJump, Cond.instanceMethod yX0_replaceTailByJump, Cond.selects RX0 yX0_replaceTailByJump yX0_replaceTailByJump, Cond.code yX0_replaceTailByJump cX0_replaceTailByJump 3 none]
def wsX3_mergeWithParameter : List Cond := .code yX3_mergeWithParameter cX3_mergeWithParameter 4 (some .int) :: ((wsX3_mergeWithParameter_r1 ++ (wsX3_mergeWithParameter_r2 ++ (wsX3_mergeWithParameter_r3 ++ wsX3_mergeWithParameter_r4))) ++ wsX30 ++ wsX20 ++ wsX00)
def wsX3_mergeAll_r1 : List Cond := [Cond.fieldLink RX3 10 "TailMerger" "program" "LTailMerger$Program;", Cond.instanceMethod yX2_bestSet, Cond.initialized RX2, Cond.selects RX2 yX2_bestSet yX2_bestSet, Cond.code yX2_bestSet cX2_bestSet 8 (some .int), Cond.fieldLink RX2 18 "TailMerger$Program" "count" "I", Cond.fieldLink RX2 11 "TailMerger$Program" "blocks" "[LTailMerger$Block;", Cond.methodLink RX2 76 yX2_compareWithLater, Cond.instanceMethod yX2_compareWithLater, Cond.selects RX2 yX2_compareWithLater yX2_compareWithLater, Cond.code yX2_compareWithLater cX2_compareWithLater 3 none, Cond.fieldLink RX2 29 "TailMerger$Program" "sharedLengths" "[I", Cond.instanceMethod yX0_tailSharedWith, Cond.initialized RX0, Cond.selects RX0 yX0_tailSharedWith yX0_tailSharedWith, Cond.code yX0_tailSharedWith cX0_tailSharedWith 4 (some .int), Cond.fieldLink RX0 27 "TailMerger$Block" "count" "I", Cond.methodLink RX0 58 Lib.Math.min.name, Cond.static Lib.Math.min.name, Cond.initialized "java/lang/Math", Cond.code Lib.Math.min.name Lib.Math.min.code 2 (some .int), Cond.methodLink RX0 54 yX0_hasTerminatorOf, Cond.instanceMethod yX0_hasTerminatorOf, Cond.selects RX0 yX0_hasTerminatorOf yX0_hasTerminatorOf]
def wsX3_mergeAll_r2 : List Cond := [Cond.code yX0_hasTerminatorOf cX0_hasTerminatorOf 2 (some .boolean), Cond.fieldLink RX0 31 "TailMerger$Block" "kind" "I", Cond.fieldLink RX0 34 "TailMerger$Block" "terminatorOperands" "[I", Cond.methodLink RX0 64 yX0_isEqualAt, Cond.instanceMethod yX0_isEqualAt, Cond.selects RX0 yX0_isEqualAt yX0_isEqualAt, Cond.code yX0_isEqualAt cX0_isEqualAt 5 (some .boolean), Cond.fieldLink RX0 9 "TailMerger$Block" "opcodes" "[I", Cond.fieldLink RX0 15 "TailMerger$Block" "destinations" "[I", Cond.fieldLink RX0 18 "TailMerger$Block" "operandsA" "[I", Cond.fieldLink RX0 21 "TailMerger$Block" "operandsB" "[I", Cond.methodLink RX2 46 yX2_terminatorCost, Cond.instanceMethod yX2_terminatorCost, Cond.selects RX2 yX2_terminatorCost yX2_terminatorCost, Cond.code yX2_terminatorCost cX2_terminatorCost 2 (some .int), Cond.fieldLink RX2 22 "TailMerger$Program" "jumpCost" "I", Cond.methodLink RX2 80 yX2_sharersFrom, Cond.instanceMethod yX2_sharersFrom, Cond.selects RX2 yX2_sharersFrom yX2_sharersFrom, Cond.code yX2_sharersFrom cX2_sharersFrom 5 (some .int), Cond.methodLink RX2 67 yJ6_bitCount_0f7a4, Cond.static yJ6_bitCount_0f7a4, Cond.initialized RJ6, Cond.code yJ6_bitCount_0f7a4 cJ6_bitCount_0f7a4 1 (some .int)]
def wsX3_mergeAll_r3 : List Cond := [Cond.constant RJ6 265 (1431655765), Cond.constant RJ6 266 (858993459), Cond.constant RJ6 267 (252645135), Cond.methodLink RX2 72 yX2_savingOf, Cond.instanceMethod yX2_savingOf, Cond.selects RX2 yX2_savingOf yX2_savingOf, Cond.code yX2_savingOf cX2_savingOf 4 (some .int), Cond.instanceMethod yX2_tailOfSet, Cond.selects RX2 yX2_tailOfSet yX2_tailOfSet, Cond.code yX2_tailOfSet cX2_tailOfSet 5 (some .int), Cond.methodLink RX2 61 Lib.Math.min.name, Cond.methodLink RX2 53 yX2_contains, Cond.static yX2_contains, Cond.code yX2_contains cX2_contains 2 (some .boolean), Cond.instanceMethod yX2_mergeSet, Cond.selects RX2 yX2_mergeSet yX2_mergeSet, Cond.code yX2_mergeSet cX2_mergeSet 6 (some .int), Cond.methodLink RX2 83 yX2_appendBlock, Cond.instanceMethod yX2_appendBlock, Cond.selects RX2 yX2_appendBlock yX2_appendBlock, Cond.code yX2_appendBlock cX2_appendBlock 2 (some .int), Cond.instanceMethod yX0_clear, Cond.selects RX0 yX0_clear yX0_clear, Cond.code yX0_clear cX0_clear 1 none]
def wsX3_mergeAll_r4 : List Cond := [Cond.methodLink RX0 37 yX0_terminate, Cond.instanceMethod yX0_terminate, Cond.selects RX0 yX0_terminate yX0_terminate, Cond.code yX0_terminate cX0_terminate 6 (some .int), Cond.instanceMethod yX0_uniteLines, Cond.selects RX0 yX0_uniteLines yX0_uniteLines, Cond.code yX0_uniteLines cX0_uniteLines 4 none, Cond.fieldLink RX0 24 "TailMerger$Block" "lineSets" "[I", Cond.instanceMethod yX0_appendTail, Cond.selects RX0 yX0_appendTail yX0_appendTail, Cond.code yX0_appendTail cX0_appendTail 4 none, Cond.methodLink RX0 45 yX0_append, Cond.instanceMethod yX0_append, Cond.selects RX0 yX0_append yX0_append, Cond.code yX0_append cX0_append 7 (some .int), Cond.instanceMethod yX0_replaceTailByJump, Cond.selects RX0 yX0_replaceTailByJump yX0_replaceTailByJump, Cond.code yX0_replaceTailByJump cX0_replaceTailByJump 3 none]
def wsX3_mergeAll : List Cond := .code yX3_mergeAll cX3_mergeAll 4 (some .int) :: ((wsX3_mergeAll_r1 ++ (wsX3_mergeAll_r2 ++ (wsX3_mergeAll_r3 ++ wsX3_mergeAll_r4))) ++ wsX30 ++ wsX20 ++ wsX00)
def wsX3_setRegister : List Cond := .code yX3_setRegister cX3_setRegister 3 (some .int) :: ([.fieldLink RX3 10 "TailMerger" "program" "LTailMerger$Program;", .methodLink RX3 53 yX3_isGeneral, .static yX3_isGeneral, .initialized RX3, .code yX3_isGeneral cX3_isGeneral 1 (some .boolean)] ++ wsX30 ++ wsX20)
def wsX3_run_r1 : List Cond := [Cond.fieldLink RX3 10 "TailMerger" "program" "LTailMerger$Program;", Cond.fieldLink RX3 27 "TailMerger" "machine" "LTailMerger$Machine;", Cond.instanceMethod yX1_execute, Cond.initialized RX1, Cond.selects RX1 yX1_execute yX1_execute, Cond.code yX1_execute cX1_execute 6 (some .int), Cond.fieldLink RX1 9 "TailMerger$Machine" "values" "[I", Cond.methodLink RX1 27 arraycopyName, Cond.native arraycopyName, Cond.static arraycopyName, Cond.initialized "java/lang/System", Cond.fieldLink RX1 18 "TailMerger$Machine" "emittedCount" "I", Cond.methodLink RX1 42 yX1_perform, Cond.instanceMethod yX1_perform, Cond.selects RX1 yX1_perform yX1_perform, Cond.code yX1_perform cX1_perform 6 none, Cond.methodLink RX1 68 yX1_emit, Cond.instanceMethod yX1_emit, Cond.selects RX1 yX1_emit yX1_emit, Cond.code yX1_emit cX1_emit 2 none, Cond.fieldLink RX1 15 "TailMerger$Machine" "emitted" "[I", Cond.methodLink RX1 49 yX1_successorOf, Cond.instanceMethod yX1_successorOf, Cond.selects RX1 yX1_successorOf yX1_successorOf]
def wsX3_run_r2 : List Cond := [Cond.code yX1_successorOf cX1_successorOf 3 (some .int)]
def wsX3_run : List Cond := .code yX3_run cX3_run 2 (some .int) :: ((wsX3_run_r1 ++ wsX3_run_r2) ++ wsX30 ++ wsX20 ++ wsX10 ++ wsX00)
def wsX3_traceLength : List Cond := .code yX3_traceLength cX3_traceLength 1 (some .int) :: ([.fieldLink RX3 27 "TailMerger" "machine" "LTailMerger$Machine;"] ++ wsX30 ++ wsX10)
def wsX3_trace : List Cond := .code yX3_trace cX3_trace 2 (some .int) :: ([.fieldLink RX3 27 "TailMerger" "machine" "LTailMerger$Machine;"] ++ wsX30 ++ wsX10)
def wsX3_register : List Cond := .code yX3_register cX3_register 2 (some .int) :: ([.fieldLink RX3 27 "TailMerger" "machine" "LTailMerger$Machine;"] ++ wsX30 ++ wsX10)
def wsX3_save_r1 : List Cond := [Cond.fieldLink RX3 16 "TailMerger" "slots" "[LTailMerger$Program;", Cond.fieldLink RX3 10 "TailMerger" "program" "LTailMerger$Program;", Cond.fieldLink RX3 20 "TailMerger" "saved" "[Z", Cond.instanceMethod yX2_copyFrom, Cond.initialized RX2, Cond.selects RX2 yX2_copyFrom yX2_copyFrom, Cond.code yX2_copyFrom cX2_copyFrom 3 none, Cond.fieldLink RX2 18 "TailMerger$Program" "count" "I", Cond.fieldLink RX2 11 "TailMerger$Program" "blocks" "[LTailMerger$Block;", Cond.fieldLink RX2 22 "TailMerger$Program" "jumpCost" "I", Cond.fieldLink RX2 25 "TailMerger$Program" "initialValues" "[I", Cond.methodLink RX2 39 arraycopyName, Cond.native arraycopyName, Cond.static arraycopyName, Cond.initialized "java/lang/System", Cond.instanceMethod yX0_copyFrom, Cond.initialized RX0, Cond.selects RX0 yX0_copyFrom yX0_copyFrom, Cond.code yX0_copyFrom cX0_copyFrom 2 none, Cond.fieldLink RX0 27 "TailMerger$Block" "count" "I", Cond.methodLink RX0 41 yX0_appendTail, Cond.instanceMethod yX0_appendTail, Cond.selects RX0 yX0_appendTail yX0_appendTail, Cond.code yX0_appendTail cX0_appendTail 4 none]
def wsX3_save_r2 : List Cond := [Cond.fieldLink RX0 9 "TailMerger$Block" "opcodes" "[I", Cond.fieldLink RX0 15 "TailMerger$Block" "destinations" "[I", Cond.fieldLink RX0 18 "TailMerger$Block" "operandsA" "[I", Cond.fieldLink RX0 21 "TailMerger$Block" "operandsB" "[I", Cond.fieldLink RX0 24 "TailMerger$Block" "lineSets" "[I", Cond.fieldLink RX0 31 "TailMerger$Block" "kind" "I", Cond.fieldLink RX0 34 "TailMerger$Block" "terminatorOperands" "[I", Cond.methodLink RX0 45 yX0_append, Cond.instanceMethod yX0_append, Cond.selects RX0 yX0_append yX0_append, Cond.code yX0_append cX0_append 7 (some .int), Cond.methodLink RX0 37 yX0_terminate, Cond.instanceMethod yX0_terminate, Cond.selects RX0 yX0_terminate yX0_terminate, Cond.code yX0_terminate cX0_terminate 6 (some .int)]
def wsX3_save : List Cond := .code yX3_save cX3_save 2 (some .int) :: ((wsX3_save_r1 ++ wsX3_save_r2) ++ wsX30 ++ wsX20 ++ wsX00)
def wsX3_restore_r1 : List Cond := [Cond.fieldLink RX3 20 "TailMerger" "saved" "[Z", Cond.fieldLink RX3 10 "TailMerger" "program" "LTailMerger$Program;", Cond.fieldLink RX3 16 "TailMerger" "slots" "[LTailMerger$Program;", Cond.instanceMethod yX2_copyFrom, Cond.initialized RX2, Cond.selects RX2 yX2_copyFrom yX2_copyFrom, Cond.code yX2_copyFrom cX2_copyFrom 3 none, Cond.fieldLink RX2 18 "TailMerger$Program" "count" "I", Cond.fieldLink RX2 11 "TailMerger$Program" "blocks" "[LTailMerger$Block;", Cond.fieldLink RX2 22 "TailMerger$Program" "jumpCost" "I", Cond.fieldLink RX2 25 "TailMerger$Program" "initialValues" "[I", Cond.methodLink RX2 39 arraycopyName, Cond.native arraycopyName, Cond.static arraycopyName, Cond.initialized "java/lang/System", Cond.instanceMethod yX0_copyFrom, Cond.initialized RX0, Cond.selects RX0 yX0_copyFrom yX0_copyFrom, Cond.code yX0_copyFrom cX0_copyFrom 2 none, Cond.fieldLink RX0 27 "TailMerger$Block" "count" "I", Cond.methodLink RX0 41 yX0_appendTail, Cond.instanceMethod yX0_appendTail, Cond.selects RX0 yX0_appendTail yX0_appendTail, Cond.code yX0_appendTail cX0_appendTail 4 none]
def wsX3_restore_r2 : List Cond := [Cond.fieldLink RX0 9 "TailMerger$Block" "opcodes" "[I", Cond.fieldLink RX0 15 "TailMerger$Block" "destinations" "[I", Cond.fieldLink RX0 18 "TailMerger$Block" "operandsA" "[I", Cond.fieldLink RX0 21 "TailMerger$Block" "operandsB" "[I", Cond.fieldLink RX0 24 "TailMerger$Block" "lineSets" "[I", Cond.fieldLink RX0 31 "TailMerger$Block" "kind" "I", Cond.fieldLink RX0 34 "TailMerger$Block" "terminatorOperands" "[I", Cond.methodLink RX0 45 yX0_append, Cond.instanceMethod yX0_append, Cond.selects RX0 yX0_append yX0_append, Cond.code yX0_append cX0_append 7 (some .int), Cond.methodLink RX0 37 yX0_terminate, Cond.instanceMethod yX0_terminate, Cond.selects RX0 yX0_terminate yX0_terminate, Cond.code yX0_terminate cX0_terminate 6 (some .int)]
def wsX3_restore : List Cond := .code yX3_restore cX3_restore 2 (some .int) :: ((wsX3_restore_r1 ++ wsX3_restore_r2) ++ wsX30 ++ wsX20 ++ wsX00)
def wsX4_init : List Cond := .code yX4_init cX4_init 1 none :: ([.methodLink RX4 1 objectInit, .instanceMethod objectInit, .code objectInit ⟨#[0xb1]⟩ 1 none, .arrayClass .int, .fieldLink RX4 7 "TailMergerModel" "state" "[I", .fieldLink RX4 13 "TailMergerModel" "slots" "[I", .arrayClass .boolean, .fieldLink RX4 16 "TailMergerModel" "isSaved" "[Z", .fieldLink RX4 20 "TailMergerModel" "register" "[I", .fieldLink RX4 23 "TailMergerModel" "trace" "[I"] ++ wsX40)
def wsX4_in : List Cond := .code yX4_in cX4_in 3 (some .boolean) :: ([])
def wsX4_isBlock : List Cond := .code yX4_isBlock cX4_isBlock 2 (some .boolean) :: ([.fieldLink RX4 7 "TailMergerModel" "state" "[I", .methodLink RX4 26 yX4_in, .static yX4_in, .initialized RX4, .code yX4_in cX4_in 3 (some .boolean)] ++ wsX40)
def wsX4_base : List Cond := .code yX4_base cX4_base 1 (some .int) :: ([])
def wsX4_many : List Cond := .code yX4_many cX4_many 2 (some .int) :: ([.fieldLink RX4 7 "TailMergerModel" "state" "[I", .methodLink RX4 30 yX4_base, .static yX4_base, .initialized RX4, .code yX4_base cX4_base 1 (some .int)] ++ wsX40)
def wsX4_at : List Cond := .code yX4_at cX4_at 2 (some .int) :: ([.methodLink RX4 30 yX4_base, .static yX4_base, .initialized RX4, .code yX4_base cX4_base 1 (some .int)])
def wsX4_end : List Cond := .code yX4_end cX4_end 1 (some .int) :: ([.methodLink RX4 30 yX4_base, .static yX4_base, .initialized RX4, .code yX4_base cX4_base 1 (some .int)])
def wsX4_terminate : List Cond := .code yX4_terminate cX4_terminate 6 none :: ([.fieldLink RX4 7 "TailMergerModel" "state" "[I", .methodLink RX4 34 yX4_end, .static yX4_end, .initialized RX4, .code yX4_end cX4_end 1 (some .int), .methodLink RX4 30 yX4_base, .static yX4_base, .code yX4_base cX4_base 1 (some .int)] ++ wsX40)
def wsX4_newBlock : List Cond := .code yX4_newBlock cX4_newBlock 3 (some .int) :: ([.fieldLink RX4 7 "TailMergerModel" "state" "[I", .methodLink RX4 30 yX4_base, .static yX4_base, .initialized RX4, .code yX4_base cX4_base 1 (some .int), .methodLink RX4 37 yX4_terminate, .instanceMethod yX4_terminate, .selects RX4 yX4_terminate yX4_terminate, .code yX4_terminate cX4_terminate 6 none, .methodLink RX4 34 yX4_end, .static yX4_end, .code yX4_end cX4_end 1 (some .int)] ++ wsX40)
def wsX4_addBlock : List Cond := .code yX4_addBlock cX4_addBlock 1 (some .int) :: ([.fieldLink RX4 7 "TailMergerModel" "state" "[I", .methodLink RX4 41 yX4_newBlock, .instanceMethod yX4_newBlock, .selects RX4 yX4_newBlock yX4_newBlock, .initialized RX4, .code yX4_newBlock cX4_newBlock 3 (some .int), .methodLink RX4 30 yX4_base, .static yX4_base, .code yX4_base cX4_base 1 (some .int), .methodLink RX4 37 yX4_terminate, .instanceMethod yX4_terminate, .selects RX4 yX4_terminate yX4_terminate, .code yX4_terminate cX4_terminate 6 none, .methodLink RX4 34 yX4_end, .static yX4_end, .code yX4_end cX4_end 1 (some .int)] ++ wsX40)
def wsX4_isRegister : List Cond := .code yX4_isRegister cX4_isRegister 1 (some .boolean) :: ([.methodLink RX4 26 yX4_in, .static yX4_in, .initialized RX4, .code yX4_in cX4_in 3 (some .boolean)])
def wsX4_fits : List Cond := .code yX4_fits cX4_fits 4 (some .boolean) :: ([.methodLink RX4 45 yX4_isRegister, .static yX4_isRegister, .initialized RX4, .code yX4_isRegister cX4_isRegister 1 (some .boolean), .methodLink RX4 26 yX4_in, .static yX4_in, .code yX4_in cX4_in 3 (some .boolean)])
def wsX4_append : List Cond := .code yX4_append cX4_append 8 none :: ([.fieldLink RX4 7 "TailMergerModel" "state" "[I", .methodLink RX4 49 yX4_many, .instanceMethod yX4_many, .selects RX4 yX4_many yX4_many, .initialized RX4, .code yX4_many cX4_many 2 (some .int), .methodLink RX4 30 yX4_base, .static yX4_base, .code yX4_base cX4_base 1 (some .int), .methodLink RX4 52 yX4_at, .static yX4_at, .code yX4_at cX4_at 2 (some .int)] ++ wsX40)
def wsX4_addInstruction_r1 : List Cond := [Cond.methodLink RX4 56 yX4_isBlock, Cond.instanceMethod yX4_isBlock, Cond.selects RX4 yX4_isBlock yX4_isBlock, Cond.initialized RX4, Cond.code yX4_isBlock cX4_isBlock 2 (some .boolean), Cond.fieldLink RX4 7 "TailMergerModel" "state" "[I", Cond.methodLink RX4 26 yX4_in, Cond.static yX4_in, Cond.code yX4_in cX4_in 3 (some .boolean), Cond.methodLink RX4 59 yX4_fits, Cond.static yX4_fits, Cond.code yX4_fits cX4_fits 4 (some .boolean), Cond.methodLink RX4 45 yX4_isRegister, Cond.static yX4_isRegister, Cond.code yX4_isRegister cX4_isRegister 1 (some .boolean), Cond.methodLink RX4 49 yX4_many, Cond.instanceMethod yX4_many, Cond.selects RX4 yX4_many yX4_many, Cond.code yX4_many cX4_many 2 (some .int), Cond.methodLink RX4 30 yX4_base, Cond.static yX4_base, Cond.code yX4_base cX4_base 1 (some .int), Cond.methodLink RX4 63 yX4_append, Cond.instanceMethod yX4_append]
def wsX4_addInstruction_r2 : List Cond := [Cond.selects RX4 yX4_append yX4_append, Cond.code yX4_append cX4_append 8 none, Cond.methodLink RX4 52 yX4_at, Cond.static yX4_at, Cond.code yX4_at cX4_at 2 (some .int)]
def wsX4_addInstruction : List Cond := .code yX4_addInstruction cX4_addInstruction 7 (some .int) :: ((wsX4_addInstruction_r1 ++ wsX4_addInstruction_r2) ++ wsX40)
def wsX4_setJump : List Cond := .code yX4_setJump cX4_setJump 4 (some .int) :: ([.fieldLink RX4 7 "TailMergerModel" "state" "[I", .methodLink RX4 56 yX4_isBlock, .instanceMethod yX4_isBlock, .selects RX4 yX4_isBlock yX4_isBlock, .initialized RX4, .code yX4_isBlock cX4_isBlock 2 (some .boolean), .methodLink RX4 26 yX4_in, .static yX4_in, .code yX4_in cX4_in 3 (some .boolean), .methodLink RX4 34 yX4_end, .static yX4_end, .code yX4_end cX4_end 1 (some .int), .methodLink RX4 30 yX4_base, .static yX4_base, .code yX4_base cX4_base 1 (some .int), .methodLink RX4 37 yX4_terminate, .instanceMethod yX4_terminate, .selects RX4 yX4_terminate yX4_terminate, .code yX4_terminate cX4_terminate 6 none] ++ wsX40)
def wsX4_setBranch : List Cond := .code yX4_setBranch cX4_setBranch 6 (some .int) :: ([.fieldLink RX4 7 "TailMergerModel" "state" "[I", .methodLink RX4 56 yX4_isBlock, .instanceMethod yX4_isBlock, .selects RX4 yX4_isBlock yX4_isBlock, .initialized RX4, .code yX4_isBlock cX4_isBlock 2 (some .boolean), .methodLink RX4 26 yX4_in, .static yX4_in, .code yX4_in cX4_in 3 (some .boolean), .methodLink RX4 45 yX4_isRegister, .static yX4_isRegister, .code yX4_isRegister cX4_isRegister 1 (some .boolean), .methodLink RX4 34 yX4_end, .static yX4_end, .code yX4_end cX4_end 1 (some .int), .methodLink RX4 30 yX4_base, .static yX4_base, .code yX4_base cX4_base 1 (some .int), .methodLink RX4 37 yX4_terminate, .instanceMethod yX4_terminate, .selects RX4 yX4_terminate yX4_terminate, .code yX4_terminate cX4_terminate 6 none] ++ wsX40)
def wsX4_setReturn : List Cond := .code yX4_setReturn cX4_setReturn 4 (some .int) :: ([.fieldLink RX4 7 "TailMergerModel" "state" "[I", .methodLink RX4 56 yX4_isBlock, .instanceMethod yX4_isBlock, .selects RX4 yX4_isBlock yX4_isBlock, .initialized RX4, .code yX4_isBlock cX4_isBlock 2 (some .boolean), .methodLink RX4 26 yX4_in, .static yX4_in, .code yX4_in cX4_in 3 (some .boolean), .methodLink RX4 45 yX4_isRegister, .static yX4_isRegister, .code yX4_isRegister cX4_isRegister 1 (some .boolean), .methodLink RX4 34 yX4_end, .static yX4_end, .code yX4_end cX4_end 1 (some .int), .methodLink RX4 30 yX4_base, .static yX4_base, .code yX4_base cX4_base 1 (some .int), .methodLink RX4 37 yX4_terminate, .instanceMethod yX4_terminate, .selects RX4 yX4_terminate yX4_terminate, .code yX4_terminate cX4_terminate 6 none] ++ wsX40)
def wsX4_blockCount : List Cond := .code yX4_blockCount cX4_blockCount 1 (some .int) :: ([.fieldLink RX4 7 "TailMergerModel" "state" "[I"] ++ wsX40)
def wsX4_instructionCount : List Cond := .code yX4_instructionCount cX4_instructionCount 2 (some .int) :: ([.methodLink RX4 56 yX4_isBlock, .instanceMethod yX4_isBlock, .selects RX4 yX4_isBlock yX4_isBlock, .initialized RX4, .code yX4_isBlock cX4_isBlock 2 (some .boolean), .fieldLink RX4 7 "TailMergerModel" "state" "[I", .methodLink RX4 26 yX4_in, .static yX4_in, .code yX4_in cX4_in 3 (some .boolean), .methodLink RX4 49 yX4_many, .instanceMethod yX4_many, .selects RX4 yX4_many yX4_many, .code yX4_many cX4_many 2 (some .int), .methodLink RX4 30 yX4_base, .static yX4_base, .code yX4_base cX4_base 1 (some .int)] ++ wsX40)
def wsX4_field : List Cond := .code yX4_field cX4_field 4 (some .int) :: ([.fieldLink RX4 7 "TailMergerModel" "state" "[I", .methodLink RX4 56 yX4_isBlock, .instanceMethod yX4_isBlock, .selects RX4 yX4_isBlock yX4_isBlock, .initialized RX4, .code yX4_isBlock cX4_isBlock 2 (some .boolean), .methodLink RX4 26 yX4_in, .static yX4_in, .code yX4_in cX4_in 3 (some .boolean), .methodLink RX4 49 yX4_many, .instanceMethod yX4_many, .selects RX4 yX4_many yX4_many, .code yX4_many cX4_many 2 (some .int), .methodLink RX4 30 yX4_base, .static yX4_base, .code yX4_base cX4_base 1 (some .int), .methodLink RX4 52 yX4_at, .static yX4_at, .code yX4_at cX4_at 2 (some .int)] ++ wsX40)
def wsX4_opcode : List Cond := .code yX4_opcode cX4_opcode 3 (some .int) :: ([.methodLink RX4 67 yX4_field, .instanceMethod yX4_field, .selects RX4 yX4_field yX4_field, .initialized RX4, .code yX4_field cX4_field 4 (some .int), .fieldLink RX4 7 "TailMergerModel" "state" "[I", .methodLink RX4 56 yX4_isBlock, .instanceMethod yX4_isBlock, .selects RX4 yX4_isBlock yX4_isBlock, .code yX4_isBlock cX4_isBlock 2 (some .boolean), .methodLink RX4 26 yX4_in, .static yX4_in, .code yX4_in cX4_in 3 (some .boolean), .methodLink RX4 49 yX4_many, .instanceMethod yX4_many, .selects RX4 yX4_many yX4_many, .code yX4_many cX4_many 2 (some .int), .methodLink RX4 30 yX4_base, .static yX4_base, .code yX4_base cX4_base 1 (some .int), .methodLink RX4 52 yX4_at, .static yX4_at, .code yX4_at cX4_at 2 (some .int)] ++ wsX40)
def wsX4_destination : List Cond := .code yX4_destination cX4_destination 3 (some .int) :: ([.methodLink RX4 67 yX4_field, .instanceMethod yX4_field, .selects RX4 yX4_field yX4_field, .initialized RX4, .code yX4_field cX4_field 4 (some .int), .fieldLink RX4 7 "TailMergerModel" "state" "[I", .methodLink RX4 56 yX4_isBlock, .instanceMethod yX4_isBlock, .selects RX4 yX4_isBlock yX4_isBlock, .code yX4_isBlock cX4_isBlock 2 (some .boolean), .methodLink RX4 26 yX4_in, .static yX4_in, .code yX4_in cX4_in 3 (some .boolean), .methodLink RX4 49 yX4_many, .instanceMethod yX4_many, .selects RX4 yX4_many yX4_many, .code yX4_many cX4_many 2 (some .int), .methodLink RX4 30 yX4_base, .static yX4_base, .code yX4_base cX4_base 1 (some .int), .methodLink RX4 52 yX4_at, .static yX4_at, .code yX4_at cX4_at 2 (some .int)] ++ wsX40)
def wsX4_operandA : List Cond := .code yX4_operandA cX4_operandA 3 (some .int) :: ([.methodLink RX4 67 yX4_field, .instanceMethod yX4_field, .selects RX4 yX4_field yX4_field, .initialized RX4, .code yX4_field cX4_field 4 (some .int), .fieldLink RX4 7 "TailMergerModel" "state" "[I", .methodLink RX4 56 yX4_isBlock, .instanceMethod yX4_isBlock, .selects RX4 yX4_isBlock yX4_isBlock, .code yX4_isBlock cX4_isBlock 2 (some .boolean), .methodLink RX4 26 yX4_in, .static yX4_in, .code yX4_in cX4_in 3 (some .boolean), .methodLink RX4 49 yX4_many, .instanceMethod yX4_many, .selects RX4 yX4_many yX4_many, .code yX4_many cX4_many 2 (some .int), .methodLink RX4 30 yX4_base, .static yX4_base, .code yX4_base cX4_base 1 (some .int), .methodLink RX4 52 yX4_at, .static yX4_at, .code yX4_at cX4_at 2 (some .int)] ++ wsX40)
def wsX4_operandB : List Cond := .code yX4_operandB cX4_operandB 3 (some .int) :: ([.methodLink RX4 67 yX4_field, .instanceMethod yX4_field, .selects RX4 yX4_field yX4_field, .initialized RX4, .code yX4_field cX4_field 4 (some .int), .fieldLink RX4 7 "TailMergerModel" "state" "[I", .methodLink RX4 56 yX4_isBlock, .instanceMethod yX4_isBlock, .selects RX4 yX4_isBlock yX4_isBlock, .code yX4_isBlock cX4_isBlock 2 (some .boolean), .methodLink RX4 26 yX4_in, .static yX4_in, .code yX4_in cX4_in 3 (some .boolean), .methodLink RX4 49 yX4_many, .instanceMethod yX4_many, .selects RX4 yX4_many yX4_many, .code yX4_many cX4_many 2 (some .int), .methodLink RX4 30 yX4_base, .static yX4_base, .code yX4_base cX4_base 1 (some .int), .methodLink RX4 52 yX4_at, .static yX4_at, .code yX4_at cX4_at 2 (some .int)] ++ wsX40)
def wsX4_lines : List Cond := .code yX4_lines cX4_lines 3 (some .int) :: ([.methodLink RX4 67 yX4_field, .instanceMethod yX4_field, .selects RX4 yX4_field yX4_field, .initialized RX4, .code yX4_field cX4_field 4 (some .int), .fieldLink RX4 7 "TailMergerModel" "state" "[I", .methodLink RX4 56 yX4_isBlock, .instanceMethod yX4_isBlock, .selects RX4 yX4_isBlock yX4_isBlock, .code yX4_isBlock cX4_isBlock 2 (some .boolean), .methodLink RX4 26 yX4_in, .static yX4_in, .code yX4_in cX4_in 3 (some .boolean), .methodLink RX4 49 yX4_many, .instanceMethod yX4_many, .selects RX4 yX4_many yX4_many, .code yX4_many cX4_many 2 (some .int), .methodLink RX4 30 yX4_base, .static yX4_base, .code yX4_base cX4_base 1 (some .int), .methodLink RX4 52 yX4_at, .static yX4_at, .code yX4_at cX4_at 2 (some .int)] ++ wsX40)
def wsX4_terminatorKind : List Cond := .code yX4_terminatorKind cX4_terminatorKind 2 (some .int) :: ([.fieldLink RX4 7 "TailMergerModel" "state" "[I", .methodLink RX4 56 yX4_isBlock, .instanceMethod yX4_isBlock, .selects RX4 yX4_isBlock yX4_isBlock, .initialized RX4, .code yX4_isBlock cX4_isBlock 2 (some .boolean), .methodLink RX4 26 yX4_in, .static yX4_in, .code yX4_in cX4_in 3 (some .boolean), .methodLink RX4 34 yX4_end, .static yX4_end, .code yX4_end cX4_end 1 (some .int), .methodLink RX4 30 yX4_base, .static yX4_base, .code yX4_base cX4_base 1 (some .int)] ++ wsX40)
def wsX4_terminatorOperand : List Cond := .code yX4_terminatorOperand cX4_terminatorOperand 4 (some .int) :: ([.fieldLink RX4 7 "TailMergerModel" "state" "[I", .methodLink RX4 56 yX4_isBlock, .instanceMethod yX4_isBlock, .selects RX4 yX4_isBlock yX4_isBlock, .initialized RX4, .code yX4_isBlock cX4_isBlock 2 (some .boolean), .methodLink RX4 26 yX4_in, .static yX4_in, .code yX4_in cX4_in 3 (some .boolean), .methodLink RX4 34 yX4_end, .static yX4_end, .code yX4_end cX4_end 1 (some .int), .methodLink RX4 30 yX4_base, .static yX4_base, .code yX4_base cX4_base 1 (some .int)] ++ wsX40)
def wsX4_tailHash : List Cond := .code yX4_tailHash cX4_tailHash 6 (some .int) :: ([.fieldLink RX4 7 "TailMergerModel" "state" "[I", .constant RX4 71 (2147483647), .methodLink RX4 56 yX4_isBlock, .instanceMethod yX4_isBlock, .selects RX4 yX4_isBlock yX4_isBlock, .initialized RX4, .code yX4_isBlock cX4_isBlock 2 (some .boolean), .methodLink RX4 26 yX4_in, .static yX4_in, .code yX4_in cX4_in 3 (some .boolean), .methodLink RX4 49 yX4_many, .instanceMethod yX4_many, .selects RX4 yX4_many yX4_many, .code yX4_many cX4_many 2 (some .int), .methodLink RX4 30 yX4_base, .static yX4_base, .code yX4_base cX4_base 1 (some .int), .methodLink RX4 52 yX4_at, .static yX4_at, .code yX4_at cX4_at 2 (some .int), .methodLink RX4 34 yX4_end, .static yX4_end, .code yX4_end cX4_end 1 (some .int)] ++ wsX40)
def wsX4_sameEnds : List Cond := .code yX4_sameEnds cX4_sameEnds 5 (some .boolean) :: ([.fieldLink RX4 7 "TailMergerModel" "state" "[I", .methodLink RX4 34 yX4_end, .static yX4_end, .initialized RX4, .code yX4_end cX4_end 1 (some .int), .methodLink RX4 30 yX4_base, .static yX4_base, .code yX4_base cX4_base 1 (some .int)] ++ wsX40)
def wsX4_sameFromEnd : List Cond := .code yX4_sameFromEnd cX4_sameFromEnd 8 (some .boolean) :: ([.fieldLink RX4 7 "TailMergerModel" "state" "[I", .methodLink RX4 49 yX4_many, .instanceMethod yX4_many, .selects RX4 yX4_many yX4_many, .initialized RX4, .code yX4_many cX4_many 2 (some .int), .methodLink RX4 30 yX4_base, .static yX4_base, .code yX4_base cX4_base 1 (some .int), .methodLink RX4 52 yX4_at, .static yX4_at, .code yX4_at cX4_at 2 (some .int)] ++ wsX40)
def wsX4_tailOfTwo : List Cond := .code yX4_tailOfTwo cX4_tailOfTwo 4 (some .int) :: ([.methodLink RX4 72 yX4_sameEnds, .instanceMethod yX4_sameEnds, .selects RX4 yX4_sameEnds yX4_sameEnds, .initialized RX4, .code yX4_sameEnds cX4_sameEnds 5 (some .boolean), .fieldLink RX4 7 "TailMergerModel" "state" "[I", .methodLink RX4 34 yX4_end, .static yX4_end, .code yX4_end cX4_end 1 (some .int), .methodLink RX4 30 yX4_base, .static yX4_base, .code yX4_base cX4_base 1 (some .int), .methodLink RX4 49 yX4_many, .instanceMethod yX4_many, .selects RX4 yX4_many yX4_many, .code yX4_many cX4_many 2 (some .int), .methodLink RX4 76 yX4_sameFromEnd, .instanceMethod yX4_sameFromEnd, .selects RX4 yX4_sameFromEnd yX4_sameFromEnd, .code yX4_sameFromEnd cX4_sameFromEnd 8 (some .boolean), .methodLink RX4 52 yX4_at, .static yX4_at, .code yX4_at cX4_at 2 (some .int)] ++ wsX40)
def wsX4_wrongPair : List Cond := .code yX4_wrongPair cX4_wrongPair 3 (some .int) :: ([.methodLink RX4 56 yX4_isBlock, .instanceMethod yX4_isBlock, .selects RX4 yX4_isBlock yX4_isBlock, .initialized RX4, .code yX4_isBlock cX4_isBlock 2 (some .boolean), .fieldLink RX4 7 "TailMergerModel" "state" "[I", .methodLink RX4 26 yX4_in, .static yX4_in, .code yX4_in cX4_in 3 (some .boolean)] ++ wsX40)
def wsX4_commonTail_r1 : List Cond := [Cond.methodLink RX4 79 yX4_wrongPair, Cond.instanceMethod yX4_wrongPair, Cond.selects RX4 yX4_wrongPair yX4_wrongPair, Cond.initialized RX4, Cond.code yX4_wrongPair cX4_wrongPair 3 (some .int), Cond.methodLink RX4 56 yX4_isBlock, Cond.instanceMethod yX4_isBlock, Cond.selects RX4 yX4_isBlock yX4_isBlock, Cond.code yX4_isBlock cX4_isBlock 2 (some .boolean), Cond.fieldLink RX4 7 "TailMergerModel" "state" "[I", Cond.methodLink RX4 26 yX4_in, Cond.static yX4_in, Cond.code yX4_in cX4_in 3 (some .boolean), Cond.methodLink RX4 82 yX4_tailOfTwo, Cond.instanceMethod yX4_tailOfTwo, Cond.selects RX4 yX4_tailOfTwo yX4_tailOfTwo, Cond.code yX4_tailOfTwo cX4_tailOfTwo 4 (some .int), Cond.methodLink RX4 72 yX4_sameEnds, Cond.instanceMethod yX4_sameEnds, Cond.selects RX4 yX4_sameEnds yX4_sameEnds, Cond.code yX4_sameEnds cX4_sameEnds 5 (some .boolean), Cond.methodLink RX4 34 yX4_end, Cond.static yX4_end, Cond.code yX4_end cX4_end 1 (some .int)]
def wsX4_commonTail_r2 : List Cond := [Cond.methodLink RX4 30 yX4_base, Cond.static yX4_base, Cond.code yX4_base cX4_base 1 (some .int), Cond.methodLink RX4 49 yX4_many, Cond.instanceMethod yX4_many, Cond.selects RX4 yX4_many yX4_many, Cond.code yX4_many cX4_many 2 (some .int), Cond.methodLink RX4 76 yX4_sameFromEnd, Cond.instanceMethod yX4_sameFromEnd, Cond.selects RX4 yX4_sameFromEnd yX4_sameFromEnd, Cond.code yX4_sameFromEnd cX4_sameFromEnd 8 (some .boolean), Cond.methodLink RX4 52 yX4_at, Cond.static yX4_at, Cond.code yX4_at cX4_at 2 (some .int)]
def wsX4_commonTail : List Cond := .code yX4_commonTail cX4_commonTail 4 (some .int) :: ((wsX4_commonTail_r1 ++ wsX4_commonTail_r2) ++ wsX40)
def wsX4_uses7 : List Cond := .code yX4_uses7 cX4_uses7 8 (some .boolean) :: ([.fieldLink RX4 7 "TailMergerModel" "state" "[I", .methodLink RX4 49 yX4_many, .instanceMethod yX4_many, .selects RX4 yX4_many yX4_many, .initialized RX4, .code yX4_many cX4_many 2 (some .int), .methodLink RX4 30 yX4_base, .static yX4_base, .code yX4_base cX4_base 1 (some .int), .methodLink RX4 52 yX4_at, .static yX4_at, .code yX4_at cX4_at 2 (some .int)] ++ wsX40)
def wsX4_canDiffer : List Cond := .code yX4_canDiffer cX4_canDiffer 6 (some .boolean) :: ([.fieldLink RX4 7 "TailMergerModel" "state" "[I", .methodLink RX4 49 yX4_many, .instanceMethod yX4_many, .selects RX4 yX4_many yX4_many, .initialized RX4, .code yX4_many cX4_many 2 (some .int), .methodLink RX4 30 yX4_base, .static yX4_base, .code yX4_base cX4_base 1 (some .int), .methodLink RX4 52 yX4_at, .static yX4_at, .code yX4_at cX4_at 2 (some .int)] ++ wsX40)
def wsX4_parameterLength_r1 : List Cond := [Cond.fieldLink RX4 7 "TailMergerModel" "state" "[I", Cond.fieldLink RX4 88 "TailMergerModel" "differsAt" "I", Cond.methodLink RX4 72 yX4_sameEnds, Cond.instanceMethod yX4_sameEnds, Cond.selects RX4 yX4_sameEnds yX4_sameEnds, Cond.initialized RX4, Cond.code yX4_sameEnds cX4_sameEnds 5 (some .boolean), Cond.methodLink RX4 34 yX4_end, Cond.static yX4_end, Cond.code yX4_end cX4_end 1 (some .int), Cond.methodLink RX4 30 yX4_base, Cond.static yX4_base, Cond.code yX4_base cX4_base 1 (some .int), Cond.methodLink RX4 49 yX4_many, Cond.instanceMethod yX4_many, Cond.selects RX4 yX4_many yX4_many, Cond.code yX4_many cX4_many 2 (some .int), Cond.methodLink RX4 85 yX4_uses7, Cond.instanceMethod yX4_uses7, Cond.selects RX4 yX4_uses7 yX4_uses7, Cond.code yX4_uses7 cX4_uses7 8 (some .boolean), Cond.methodLink RX4 52 yX4_at, Cond.static yX4_at, Cond.code yX4_at cX4_at 2 (some .int)]
def wsX4_parameterLength_r2 : List Cond := [Cond.methodLink RX4 76 yX4_sameFromEnd, Cond.instanceMethod yX4_sameFromEnd, Cond.selects RX4 yX4_sameFromEnd yX4_sameFromEnd, Cond.code yX4_sameFromEnd cX4_sameFromEnd 8 (some .boolean), Cond.methodLink RX4 92 yX4_canDiffer, Cond.instanceMethod yX4_canDiffer, Cond.selects RX4 yX4_canDiffer yX4_canDiffer, Cond.code yX4_canDiffer cX4_canDiffer 6 (some .boolean)]
def wsX4_parameterLength : List Cond := .code yX4_parameterLength cX4_parameterLength 7 (some .int) :: ((wsX4_parameterLength_r1 ++ wsX4_parameterLength_r2) ++ wsX40)
def wsX4_parameterTail_r1 : List Cond := [Cond.methodLink RX4 79 yX4_wrongPair, Cond.instanceMethod yX4_wrongPair, Cond.selects RX4 yX4_wrongPair yX4_wrongPair, Cond.initialized RX4, Cond.code yX4_wrongPair cX4_wrongPair 3 (some .int), Cond.methodLink RX4 56 yX4_isBlock, Cond.instanceMethod yX4_isBlock, Cond.selects RX4 yX4_isBlock yX4_isBlock, Cond.code yX4_isBlock cX4_isBlock 2 (some .boolean), Cond.fieldLink RX4 7 "TailMergerModel" "state" "[I", Cond.methodLink RX4 26 yX4_in, Cond.static yX4_in, Cond.code yX4_in cX4_in 3 (some .boolean), Cond.methodLink RX4 95 yX4_parameterLength, Cond.instanceMethod yX4_parameterLength, Cond.selects RX4 yX4_parameterLength yX4_parameterLength, Cond.code yX4_parameterLength cX4_parameterLength 7 (some .int), Cond.fieldLink RX4 88 "TailMergerModel" "differsAt" "I", Cond.methodLink RX4 72 yX4_sameEnds, Cond.instanceMethod yX4_sameEnds, Cond.selects RX4 yX4_sameEnds yX4_sameEnds, Cond.code yX4_sameEnds cX4_sameEnds 5 (some .boolean), Cond.methodLink RX4 34 yX4_end, Cond.static yX4_end]
def wsX4_parameterTail_r2 : List Cond := [Cond.code yX4_end cX4_end 1 (some .int), Cond.methodLink RX4 30 yX4_base, Cond.static yX4_base, Cond.code yX4_base cX4_base 1 (some .int), Cond.methodLink RX4 49 yX4_many, Cond.instanceMethod yX4_many, Cond.selects RX4 yX4_many yX4_many, Cond.code yX4_many cX4_many 2 (some .int), Cond.methodLink RX4 85 yX4_uses7, Cond.instanceMethod yX4_uses7, Cond.selects RX4 yX4_uses7 yX4_uses7, Cond.code yX4_uses7 cX4_uses7 8 (some .boolean), Cond.methodLink RX4 52 yX4_at, Cond.static yX4_at, Cond.code yX4_at cX4_at 2 (some .int), Cond.methodLink RX4 76 yX4_sameFromEnd, Cond.instanceMethod yX4_sameFromEnd, Cond.selects RX4 yX4_sameFromEnd yX4_sameFromEnd, Cond.code yX4_sameFromEnd cX4_sameFromEnd 8 (some .boolean), Cond.methodLink RX4 92 yX4_canDiffer, Cond.instanceMethod yX4_canDiffer, Cond.selects RX4 yX4_canDiffer yX4_canDiffer, Cond.code yX4_canDiffer cX4_canDiffer 6 (some .boolean)]
def wsX4_parameterTail : List Cond := .code yX4_parameterTail cX4_parameterTail 4 (some .int) :: ((wsX4_parameterTail_r1 ++ wsX4_parameterTail_r2) ++ wsX40)
def wsX4_setJumpCost : List Cond := .code yX4_setJumpCost cX4_setJumpCost 3 (some .int) :: ([.fieldLink RX4 7 "TailMergerModel" "state" "[I", .methodLink RX4 26 yX4_in, .static yX4_in, .initialized RX4, .code yX4_in cX4_in 3 (some .boolean)] ++ wsX40)
def wsX4_costOf : List Cond := .code yX4_costOf cX4_costOf 3 (some .int) :: ([.fieldLink RX4 7 "TailMergerModel" "state" "[I", .methodLink RX4 34 yX4_end, .static yX4_end, .initialized RX4, .code yX4_end cX4_end 1 (some .int), .methodLink RX4 30 yX4_base, .static yX4_base, .code yX4_base cX4_base 1 (some .int)] ++ wsX40)
def wsX4_codeSize : List Cond := .code yX4_codeSize cX4_codeSize 3 (some .int) :: ([.fieldLink RX4 7 "TailMergerModel" "state" "[I", .methodLink RX4 49 yX4_many, .instanceMethod yX4_many, .selects RX4 yX4_many yX4_many, .initialized RX4, .code yX4_many cX4_many 2 (some .int), .methodLink RX4 30 yX4_base, .static yX4_base, .code yX4_base cX4_base 1 (some .int), .methodLink RX4 98 yX4_costOf, .instanceMethod yX4_costOf, .selects RX4 yX4_costOf yX4_costOf, .code yX4_costOf cX4_costOf 3 (some .int), .methodLink RX4 34 yX4_end, .static yX4_end, .code yX4_end cX4_end 1 (some .int)] ++ wsX40)
def wsX4_ones : List Cond := .code yX4_ones cX4_ones 3 (some .int) :: ([])
def wsX4_lowest : List Cond := .code yX4_lowest cX4_lowest 2 (some .int) :: ([])
def wsX4_tailOf_r1 : List Cond := [Cond.fieldLink RX4 7 "TailMergerModel" "state" "[I", Cond.methodLink RX4 101 yX4_lowest, Cond.static yX4_lowest, Cond.initialized RX4, Cond.code yX4_lowest cX4_lowest 2 (some .int), Cond.methodLink RX4 82 yX4_tailOfTwo, Cond.instanceMethod yX4_tailOfTwo, Cond.selects RX4 yX4_tailOfTwo yX4_tailOfTwo, Cond.code yX4_tailOfTwo cX4_tailOfTwo 4 (some .int), Cond.methodLink RX4 72 yX4_sameEnds, Cond.instanceMethod yX4_sameEnds, Cond.selects RX4 yX4_sameEnds yX4_sameEnds, Cond.code yX4_sameEnds cX4_sameEnds 5 (some .boolean), Cond.methodLink RX4 34 yX4_end, Cond.static yX4_end, Cond.code yX4_end cX4_end 1 (some .int), Cond.methodLink RX4 30 yX4_base, Cond.static yX4_base, Cond.code yX4_base cX4_base 1 (some .int), Cond.methodLink RX4 49 yX4_many, Cond.instanceMethod yX4_many, Cond.selects RX4 yX4_many yX4_many, Cond.code yX4_many cX4_many 2 (some .int), Cond.methodLink RX4 76 yX4_sameFromEnd]
def wsX4_tailOf_r2 : List Cond := [Cond.instanceMethod yX4_sameFromEnd, Cond.selects RX4 yX4_sameFromEnd yX4_sameFromEnd, Cond.code yX4_sameFromEnd cX4_sameFromEnd 8 (some .boolean), Cond.methodLink RX4 52 yX4_at, Cond.static yX4_at, Cond.code yX4_at cX4_at 2 (some .int)]
def wsX4_tailOf : List Cond := .code yX4_tailOf cX4_tailOf 6 (some .int) :: ((wsX4_tailOf_r1 ++ wsX4_tailOf_r2) ++ wsX40)
def wsX4_wrongSet_r1 : List Cond := [Cond.fieldLink RX4 7 "TailMergerModel" "state" "[I", Cond.methodLink RX4 104 yX4_ones, Cond.static yX4_ones, Cond.initialized RX4, Cond.code yX4_ones cX4_ones 3 (some .int), Cond.methodLink RX4 107 yX4_tailOf, Cond.instanceMethod yX4_tailOf, Cond.selects RX4 yX4_tailOf yX4_tailOf, Cond.code yX4_tailOf cX4_tailOf 6 (some .int), Cond.methodLink RX4 101 yX4_lowest, Cond.static yX4_lowest, Cond.code yX4_lowest cX4_lowest 2 (some .int), Cond.methodLink RX4 82 yX4_tailOfTwo, Cond.instanceMethod yX4_tailOfTwo, Cond.selects RX4 yX4_tailOfTwo yX4_tailOfTwo, Cond.code yX4_tailOfTwo cX4_tailOfTwo 4 (some .int), Cond.methodLink RX4 72 yX4_sameEnds, Cond.instanceMethod yX4_sameEnds, Cond.selects RX4 yX4_sameEnds yX4_sameEnds, Cond.code yX4_sameEnds cX4_sameEnds 5 (some .boolean), Cond.methodLink RX4 34 yX4_end, Cond.static yX4_end, Cond.code yX4_end cX4_end 1 (some .int), Cond.methodLink RX4 30 yX4_base]
def wsX4_wrongSet_r2 : List Cond := [Cond.static yX4_base, Cond.code yX4_base cX4_base 1 (some .int), Cond.methodLink RX4 49 yX4_many, Cond.instanceMethod yX4_many, Cond.selects RX4 yX4_many yX4_many, Cond.code yX4_many cX4_many 2 (some .int), Cond.methodLink RX4 76 yX4_sameFromEnd, Cond.instanceMethod yX4_sameFromEnd, Cond.selects RX4 yX4_sameFromEnd yX4_sameFromEnd, Cond.code yX4_sameFromEnd cX4_sameFromEnd 8 (some .boolean), Cond.methodLink RX4 52 yX4_at, Cond.static yX4_at, Cond.code yX4_at cX4_at 2 (some .int)]
def wsX4_wrongSet : List Cond := .code yX4_wrongSet cX4_wrongSet 2 (some .int) :: ((wsX4_wrongSet_r1 ++ wsX4_wrongSet_r2) ++ wsX40)
def wsX4_savingOf_r1 : List Cond := [Cond.fieldLink RX4 7 "TailMergerModel" "state" "[I", Cond.methodLink RX4 104 yX4_ones, Cond.static yX4_ones, Cond.initialized RX4, Cond.code yX4_ones cX4_ones 3 (some .int), Cond.methodLink RX4 107 yX4_tailOf, Cond.instanceMethod yX4_tailOf, Cond.selects RX4 yX4_tailOf yX4_tailOf, Cond.code yX4_tailOf cX4_tailOf 6 (some .int), Cond.methodLink RX4 101 yX4_lowest, Cond.static yX4_lowest, Cond.code yX4_lowest cX4_lowest 2 (some .int), Cond.methodLink RX4 82 yX4_tailOfTwo, Cond.instanceMethod yX4_tailOfTwo, Cond.selects RX4 yX4_tailOfTwo yX4_tailOfTwo, Cond.code yX4_tailOfTwo cX4_tailOfTwo 4 (some .int), Cond.methodLink RX4 72 yX4_sameEnds, Cond.instanceMethod yX4_sameEnds, Cond.selects RX4 yX4_sameEnds yX4_sameEnds, Cond.code yX4_sameEnds cX4_sameEnds 5 (some .boolean), Cond.methodLink RX4 34 yX4_end, Cond.static yX4_end, Cond.code yX4_end cX4_end 1 (some .int), Cond.methodLink RX4 30 yX4_base]
def wsX4_savingOf_r2 : List Cond := [Cond.static yX4_base, Cond.code yX4_base cX4_base 1 (some .int), Cond.methodLink RX4 49 yX4_many, Cond.instanceMethod yX4_many, Cond.selects RX4 yX4_many yX4_many, Cond.code yX4_many cX4_many 2 (some .int), Cond.methodLink RX4 76 yX4_sameFromEnd, Cond.instanceMethod yX4_sameFromEnd, Cond.selects RX4 yX4_sameFromEnd yX4_sameFromEnd, Cond.code yX4_sameFromEnd cX4_sameFromEnd 8 (some .boolean), Cond.methodLink RX4 52 yX4_at, Cond.static yX4_at, Cond.code yX4_at cX4_at 2 (some .int), Cond.methodLink RX4 98 yX4_costOf, Cond.instanceMethod yX4_costOf, Cond.selects RX4 yX4_costOf yX4_costOf, Cond.code yX4_costOf cX4_costOf 3 (some .int)]
def wsX4_savingOf : List Cond := .code yX4_savingOf cX4_savingOf 3 (some .int) :: ((wsX4_savingOf_r1 ++ wsX4_savingOf_r2) ++ wsX40)
def wsX4_tailSaving_r1 : List Cond := [Cond.methodLink RX4 110 yX4_wrongSet, Cond.instanceMethod yX4_wrongSet, Cond.selects RX4 yX4_wrongSet yX4_wrongSet, Cond.initialized RX4, Cond.code yX4_wrongSet cX4_wrongSet 2 (some .int), Cond.fieldLink RX4 7 "TailMergerModel" "state" "[I", Cond.methodLink RX4 104 yX4_ones, Cond.static yX4_ones, Cond.code yX4_ones cX4_ones 3 (some .int), Cond.methodLink RX4 107 yX4_tailOf, Cond.instanceMethod yX4_tailOf, Cond.selects RX4 yX4_tailOf yX4_tailOf, Cond.code yX4_tailOf cX4_tailOf 6 (some .int), Cond.methodLink RX4 101 yX4_lowest, Cond.static yX4_lowest, Cond.code yX4_lowest cX4_lowest 2 (some .int), Cond.methodLink RX4 82 yX4_tailOfTwo, Cond.instanceMethod yX4_tailOfTwo, Cond.selects RX4 yX4_tailOfTwo yX4_tailOfTwo, Cond.code yX4_tailOfTwo cX4_tailOfTwo 4 (some .int), Cond.methodLink RX4 72 yX4_sameEnds, Cond.instanceMethod yX4_sameEnds, Cond.selects RX4 yX4_sameEnds yX4_sameEnds, Cond.code yX4_sameEnds cX4_sameEnds 5 (some .boolean)]
def wsX4_tailSaving_r2 : List Cond := [Cond.methodLink RX4 34 yX4_end, Cond.static yX4_end, Cond.code yX4_end cX4_end 1 (some .int), Cond.methodLink RX4 30 yX4_base, Cond.static yX4_base, Cond.code yX4_base cX4_base 1 (some .int), Cond.methodLink RX4 49 yX4_many, Cond.instanceMethod yX4_many, Cond.selects RX4 yX4_many yX4_many, Cond.code yX4_many cX4_many 2 (some .int), Cond.methodLink RX4 76 yX4_sameFromEnd, Cond.instanceMethod yX4_sameFromEnd, Cond.selects RX4 yX4_sameFromEnd yX4_sameFromEnd, Cond.code yX4_sameFromEnd cX4_sameFromEnd 8 (some .boolean), Cond.methodLink RX4 52 yX4_at, Cond.static yX4_at, Cond.code yX4_at cX4_at 2 (some .int), Cond.methodLink RX4 113 yX4_savingOf, Cond.instanceMethod yX4_savingOf, Cond.selects RX4 yX4_savingOf yX4_savingOf, Cond.code yX4_savingOf cX4_savingOf 3 (some .int), Cond.methodLink RX4 98 yX4_costOf, Cond.instanceMethod yX4_costOf, Cond.selects RX4 yX4_costOf yX4_costOf]
def wsX4_tailSaving_r3 : List Cond := [Cond.code yX4_costOf cX4_costOf 3 (some .int)]
def wsX4_tailSaving : List Cond := .code yX4_tailSaving cX4_tailSaving 3 (some .int) :: ((wsX4_tailSaving_r1 ++ (wsX4_tailSaving_r2 ++ wsX4_tailSaving_r3)) ++ wsX40)
def wsX4_findBest_r1 : List Cond := [Cond.fieldLink RX4 7 "TailMergerModel" "state" "[I", Cond.methodLink RX4 104 yX4_ones, Cond.static yX4_ones, Cond.initialized RX4, Cond.code yX4_ones cX4_ones 3 (some .int), Cond.methodLink RX4 107 yX4_tailOf, Cond.instanceMethod yX4_tailOf, Cond.selects RX4 yX4_tailOf yX4_tailOf, Cond.code yX4_tailOf cX4_tailOf 6 (some .int), Cond.methodLink RX4 101 yX4_lowest, Cond.static yX4_lowest, Cond.code yX4_lowest cX4_lowest 2 (some .int), Cond.methodLink RX4 82 yX4_tailOfTwo, Cond.instanceMethod yX4_tailOfTwo, Cond.selects RX4 yX4_tailOfTwo yX4_tailOfTwo, Cond.code yX4_tailOfTwo cX4_tailOfTwo 4 (some .int), Cond.methodLink RX4 72 yX4_sameEnds, Cond.instanceMethod yX4_sameEnds, Cond.selects RX4 yX4_sameEnds yX4_sameEnds, Cond.code yX4_sameEnds cX4_sameEnds 5 (some .boolean), Cond.methodLink RX4 34 yX4_end, Cond.static yX4_end, Cond.code yX4_end cX4_end 1 (some .int), Cond.methodLink RX4 30 yX4_base]
def wsX4_findBest_r2 : List Cond := [Cond.static yX4_base, Cond.code yX4_base cX4_base 1 (some .int), Cond.methodLink RX4 49 yX4_many, Cond.instanceMethod yX4_many, Cond.selects RX4 yX4_many yX4_many, Cond.code yX4_many cX4_many 2 (some .int), Cond.methodLink RX4 76 yX4_sameFromEnd, Cond.instanceMethod yX4_sameFromEnd, Cond.selects RX4 yX4_sameFromEnd yX4_sameFromEnd, Cond.code yX4_sameFromEnd cX4_sameFromEnd 8 (some .boolean), Cond.methodLink RX4 52 yX4_at, Cond.static yX4_at, Cond.code yX4_at cX4_at 2 (some .int), Cond.methodLink RX4 113 yX4_savingOf, Cond.instanceMethod yX4_savingOf, Cond.selects RX4 yX4_savingOf yX4_savingOf, Cond.code yX4_savingOf cX4_savingOf 3 (some .int), Cond.methodLink RX4 98 yX4_costOf, Cond.instanceMethod yX4_costOf, Cond.selects RX4 yX4_costOf yX4_costOf, Cond.code yX4_costOf cX4_costOf 3 (some .int)]
def wsX4_findBest : List Cond := .code yX4_findBest cX4_findBest 4 (some .int) :: ((wsX4_findBest_r1 ++ wsX4_findBest_r2) ++ wsX40)
def wsX4_bestTail_r1 : List Cond := [Cond.methodLink RX4 116 yX4_findBest, Cond.instanceMethod yX4_findBest, Cond.selects RX4 yX4_findBest yX4_findBest, Cond.initialized RX4, Cond.code yX4_findBest cX4_findBest 4 (some .int), Cond.fieldLink RX4 7 "TailMergerModel" "state" "[I", Cond.methodLink RX4 104 yX4_ones, Cond.static yX4_ones, Cond.code yX4_ones cX4_ones 3 (some .int), Cond.methodLink RX4 107 yX4_tailOf, Cond.instanceMethod yX4_tailOf, Cond.selects RX4 yX4_tailOf yX4_tailOf, Cond.code yX4_tailOf cX4_tailOf 6 (some .int), Cond.methodLink RX4 101 yX4_lowest, Cond.static yX4_lowest, Cond.code yX4_lowest cX4_lowest 2 (some .int), Cond.methodLink RX4 82 yX4_tailOfTwo, Cond.instanceMethod yX4_tailOfTwo, Cond.selects RX4 yX4_tailOfTwo yX4_tailOfTwo, Cond.code yX4_tailOfTwo cX4_tailOfTwo 4 (some .int), Cond.methodLink RX4 72 yX4_sameEnds, Cond.instanceMethod yX4_sameEnds, Cond.selects RX4 yX4_sameEnds yX4_sameEnds, Cond.code yX4_sameEnds cX4_sameEnds 5 (some .boolean)]
def wsX4_bestTail_r2 : List Cond := [Cond.methodLink RX4 34 yX4_end, Cond.static yX4_end, Cond.code yX4_end cX4_end 1 (some .int), Cond.methodLink RX4 30 yX4_base, Cond.static yX4_base, Cond.code yX4_base cX4_base 1 (some .int), Cond.methodLink RX4 49 yX4_many, Cond.instanceMethod yX4_many, Cond.selects RX4 yX4_many yX4_many, Cond.code yX4_many cX4_many 2 (some .int), Cond.methodLink RX4 76 yX4_sameFromEnd, Cond.instanceMethod yX4_sameFromEnd, Cond.selects RX4 yX4_sameFromEnd yX4_sameFromEnd, Cond.code yX4_sameFromEnd cX4_sameFromEnd 8 (some .boolean), Cond.methodLink RX4 52 yX4_at, Cond.static yX4_at, Cond.code yX4_at cX4_at 2 (some .int), Cond.methodLink RX4 113 yX4_savingOf, Cond.instanceMethod yX4_savingOf, Cond.selects RX4 yX4_savingOf yX4_savingOf, Cond.code yX4_savingOf cX4_savingOf 3 (some .int), Cond.methodLink RX4 98 yX4_costOf, Cond.instanceMethod yX4_costOf, Cond.selects RX4 yX4_costOf yX4_costOf]
def wsX4_bestTail_r3 : List Cond := [Cond.code yX4_costOf cX4_costOf 3 (some .int)]
def wsX4_bestTail : List Cond := .code yX4_bestTail cX4_bestTail 1 (some .int) :: ((wsX4_bestTail_r1 ++ (wsX4_bestTail_r2 ++ wsX4_bestTail_r3)) ++ wsX40)
def wsX4_copyTail : List Cond := .code yX4_copyTail cX4_copyTail 6 none :: ([.fieldLink RX4 7 "TailMergerModel" "state" "[I", .methodLink RX4 49 yX4_many, .instanceMethod yX4_many, .selects RX4 yX4_many yX4_many, .initialized RX4, .code yX4_many cX4_many 2 (some .int), .methodLink RX4 30 yX4_base, .static yX4_base, .code yX4_base cX4_base 1 (some .int), .methodLink RX4 52 yX4_at, .static yX4_at, .code yX4_at cX4_at 2 (some .int), .methodLink RX4 63 yX4_append, .instanceMethod yX4_append, .selects RX4 yX4_append yX4_append, .code yX4_append cX4_append 8 none, .methodLink RX4 34 yX4_end, .static yX4_end, .code yX4_end cX4_end 1 (some .int), .methodLink RX4 37 yX4_terminate, .instanceMethod yX4_terminate, .selects RX4 yX4_terminate yX4_terminate, .code yX4_terminate cX4_terminate 6 none] ++ wsX40)
def wsX4_uniteLines : List Cond := .code yX4_uniteLines cX4_uniteLines 5 none :: ([.fieldLink RX4 7 "TailMergerModel" "state" "[I", .methodLink RX4 52 yX4_at, .static yX4_at, .initialized RX4, .code yX4_at cX4_at 2 (some .int), .methodLink RX4 30 yX4_base, .static yX4_base, .code yX4_base cX4_base 1 (some .int), .methodLink RX4 49 yX4_many, .instanceMethod yX4_many, .selects RX4 yX4_many yX4_many, .code yX4_many cX4_many 2 (some .int)] ++ wsX40)
def wsX4_cutTail : List Cond := .code yX4_cutTail cX4_cutTail 5 none :: ([.fieldLink RX4 7 "TailMergerModel" "state" "[I", .methodLink RX4 49 yX4_many, .instanceMethod yX4_many, .selects RX4 yX4_many yX4_many, .initialized RX4, .code yX4_many cX4_many 2 (some .int), .methodLink RX4 30 yX4_base, .static yX4_base, .code yX4_base cX4_base 1 (some .int), .methodLink RX4 52 yX4_at, .static yX4_at, .code yX4_at cX4_at 2 (some .int), .methodLink RX4 34 yX4_end, .static yX4_end, .code yX4_end cX4_end 1 (some .int), .methodLink RX4 37 yX4_terminate, .instanceMethod yX4_terminate, .selects RX4 yX4_terminate yX4_terminate, .code yX4_terminate cX4_terminate 6 none] ++ wsX40)
def wsX4_mergeSet_r1 : List Cond := [Cond.fieldLink RX4 7 "TailMergerModel" "state" "[I", Cond.methodLink RX4 107 yX4_tailOf, Cond.instanceMethod yX4_tailOf, Cond.selects RX4 yX4_tailOf yX4_tailOf, Cond.initialized RX4, Cond.code yX4_tailOf cX4_tailOf 6 (some .int), Cond.methodLink RX4 101 yX4_lowest, Cond.static yX4_lowest, Cond.code yX4_lowest cX4_lowest 2 (some .int), Cond.methodLink RX4 82 yX4_tailOfTwo, Cond.instanceMethod yX4_tailOfTwo, Cond.selects RX4 yX4_tailOfTwo yX4_tailOfTwo, Cond.code yX4_tailOfTwo cX4_tailOfTwo 4 (some .int), Cond.methodLink RX4 72 yX4_sameEnds, Cond.instanceMethod yX4_sameEnds, Cond.selects RX4 yX4_sameEnds yX4_sameEnds, Cond.code yX4_sameEnds cX4_sameEnds 5 (some .boolean), Cond.methodLink RX4 34 yX4_end, Cond.static yX4_end, Cond.code yX4_end cX4_end 1 (some .int), Cond.methodLink RX4 30 yX4_base, Cond.static yX4_base, Cond.code yX4_base cX4_base 1 (some .int), Cond.methodLink RX4 49 yX4_many]
def wsX4_mergeSet_r2 : List Cond := [Cond.instanceMethod yX4_many, Cond.selects RX4 yX4_many yX4_many, Cond.code yX4_many cX4_many 2 (some .int), Cond.methodLink RX4 76 yX4_sameFromEnd, Cond.instanceMethod yX4_sameFromEnd, Cond.selects RX4 yX4_sameFromEnd yX4_sameFromEnd, Cond.code yX4_sameFromEnd cX4_sameFromEnd 8 (some .boolean), Cond.methodLink RX4 52 yX4_at, Cond.static yX4_at, Cond.code yX4_at cX4_at 2 (some .int), Cond.methodLink RX4 41 yX4_newBlock, Cond.instanceMethod yX4_newBlock, Cond.selects RX4 yX4_newBlock yX4_newBlock, Cond.code yX4_newBlock cX4_newBlock 3 (some .int), Cond.methodLink RX4 37 yX4_terminate, Cond.instanceMethod yX4_terminate, Cond.selects RX4 yX4_terminate yX4_terminate, Cond.code yX4_terminate cX4_terminate 6 none, Cond.methodLink RX4 119 yX4_copyTail, Cond.instanceMethod yX4_copyTail, Cond.selects RX4 yX4_copyTail yX4_copyTail, Cond.code yX4_copyTail cX4_copyTail 6 none, Cond.methodLink RX4 63 yX4_append, Cond.instanceMethod yX4_append]
def wsX4_mergeSet_r3 : List Cond := [Cond.selects RX4 yX4_append yX4_append, Cond.code yX4_append cX4_append 8 none, Cond.methodLink RX4 123 yX4_uniteLines, Cond.instanceMethod yX4_uniteLines, Cond.selects RX4 yX4_uniteLines yX4_uniteLines, Cond.code yX4_uniteLines cX4_uniteLines 5 none, Cond.methodLink RX4 126 yX4_cutTail, Cond.instanceMethod yX4_cutTail, Cond.selects RX4 yX4_cutTail yX4_cutTail, Cond.code yX4_cutTail cX4_cutTail 5 none]
def wsX4_mergeSet : List Cond := .code yX4_mergeSet cX4_mergeSet 6 (some .int) :: ((wsX4_mergeSet_r1 ++ (wsX4_mergeSet_r2 ++ wsX4_mergeSet_r3)) ++ wsX40)
def wsX4_mergeTail_r1 : List Cond := [Cond.fieldLink RX4 7 "TailMergerModel" "state" "[I", Cond.methodLink RX4 110 yX4_wrongSet, Cond.instanceMethod yX4_wrongSet, Cond.selects RX4 yX4_wrongSet yX4_wrongSet, Cond.initialized RX4, Cond.code yX4_wrongSet cX4_wrongSet 2 (some .int), Cond.methodLink RX4 104 yX4_ones, Cond.static yX4_ones, Cond.code yX4_ones cX4_ones 3 (some .int), Cond.methodLink RX4 107 yX4_tailOf, Cond.instanceMethod yX4_tailOf, Cond.selects RX4 yX4_tailOf yX4_tailOf, Cond.code yX4_tailOf cX4_tailOf 6 (some .int), Cond.methodLink RX4 101 yX4_lowest, Cond.static yX4_lowest, Cond.code yX4_lowest cX4_lowest 2 (some .int), Cond.methodLink RX4 82 yX4_tailOfTwo, Cond.instanceMethod yX4_tailOfTwo, Cond.selects RX4 yX4_tailOfTwo yX4_tailOfTwo, Cond.code yX4_tailOfTwo cX4_tailOfTwo 4 (some .int), Cond.methodLink RX4 72 yX4_sameEnds, Cond.instanceMethod yX4_sameEnds, Cond.selects RX4 yX4_sameEnds yX4_sameEnds, Cond.code yX4_sameEnds cX4_sameEnds 5 (some .boolean)]
def wsX4_mergeTail_r2 : List Cond := [Cond.methodLink RX4 34 yX4_end, Cond.static yX4_end, Cond.code yX4_end cX4_end 1 (some .int), Cond.methodLink RX4 30 yX4_base, Cond.static yX4_base, Cond.code yX4_base cX4_base 1 (some .int), Cond.methodLink RX4 49 yX4_many, Cond.instanceMethod yX4_many, Cond.selects RX4 yX4_many yX4_many, Cond.code yX4_many cX4_many 2 (some .int), Cond.methodLink RX4 76 yX4_sameFromEnd, Cond.instanceMethod yX4_sameFromEnd, Cond.selects RX4 yX4_sameFromEnd yX4_sameFromEnd, Cond.code yX4_sameFromEnd cX4_sameFromEnd 8 (some .boolean), Cond.methodLink RX4 52 yX4_at, Cond.static yX4_at, Cond.code yX4_at cX4_at 2 (some .int), Cond.methodLink RX4 113 yX4_savingOf, Cond.instanceMethod yX4_savingOf, Cond.selects RX4 yX4_savingOf yX4_savingOf, Cond.code yX4_savingOf cX4_savingOf 3 (some .int), Cond.methodLink RX4 98 yX4_costOf, Cond.instanceMethod yX4_costOf, Cond.selects RX4 yX4_costOf yX4_costOf]
def wsX4_mergeTail_r3 : List Cond := [Cond.code yX4_costOf cX4_costOf 3 (some .int), Cond.methodLink RX4 129 yX4_mergeSet, Cond.instanceMethod yX4_mergeSet, Cond.selects RX4 yX4_mergeSet yX4_mergeSet, Cond.code yX4_mergeSet cX4_mergeSet 6 (some .int), Cond.methodLink RX4 41 yX4_newBlock, Cond.instanceMethod yX4_newBlock, Cond.selects RX4 yX4_newBlock yX4_newBlock, Cond.code yX4_newBlock cX4_newBlock 3 (some .int), Cond.methodLink RX4 37 yX4_terminate, Cond.instanceMethod yX4_terminate, Cond.selects RX4 yX4_terminate yX4_terminate, Cond.code yX4_terminate cX4_terminate 6 none, Cond.methodLink RX4 119 yX4_copyTail, Cond.instanceMethod yX4_copyTail, Cond.selects RX4 yX4_copyTail yX4_copyTail, Cond.code yX4_copyTail cX4_copyTail 6 none, Cond.methodLink RX4 63 yX4_append, Cond.instanceMethod yX4_append, Cond.selects RX4 yX4_append yX4_append, Cond.code yX4_append cX4_append 8 none, Cond.methodLink RX4 123 yX4_uniteLines, Cond.instanceMethod yX4_uniteLines, Cond.selects RX4 yX4_uniteLines yX4_uniteLines]
def wsX4_mergeTail_r4 : List Cond := [Cond.code yX4_uniteLines cX4_uniteLines 5 none, Cond.methodLink RX4 126 yX4_cutTail, Cond.instanceMethod yX4_cutTail, Cond.selects RX4 yX4_cutTail yX4_cutTail, Cond.code yX4_cutTail cX4_cutTail 5 none]
def wsX4_mergeTail : List Cond := .code yX4_mergeTail cX4_mergeTail 3 (some .int) :: ((wsX4_mergeTail_r1 ++ (wsX4_mergeTail_r2 ++ (wsX4_mergeTail_r3 ++ wsX4_mergeTail_r4))) ++ wsX40)
def wsX4_parameterSaving_r1 : List Cond := [Cond.fieldLink RX4 7 "TailMergerModel" "state" "[I", Cond.methodLink RX4 79 yX4_wrongPair, Cond.instanceMethod yX4_wrongPair, Cond.selects RX4 yX4_wrongPair yX4_wrongPair, Cond.initialized RX4, Cond.code yX4_wrongPair cX4_wrongPair 3 (some .int), Cond.methodLink RX4 56 yX4_isBlock, Cond.instanceMethod yX4_isBlock, Cond.selects RX4 yX4_isBlock yX4_isBlock, Cond.code yX4_isBlock cX4_isBlock 2 (some .boolean), Cond.methodLink RX4 26 yX4_in, Cond.static yX4_in, Cond.code yX4_in cX4_in 3 (some .boolean), Cond.methodLink RX4 95 yX4_parameterLength, Cond.instanceMethod yX4_parameterLength, Cond.selects RX4 yX4_parameterLength yX4_parameterLength, Cond.code yX4_parameterLength cX4_parameterLength 7 (some .int), Cond.fieldLink RX4 88 "TailMergerModel" "differsAt" "I", Cond.methodLink RX4 72 yX4_sameEnds, Cond.instanceMethod yX4_sameEnds, Cond.selects RX4 yX4_sameEnds yX4_sameEnds, Cond.code yX4_sameEnds cX4_sameEnds 5 (some .boolean), Cond.methodLink RX4 34 yX4_end, Cond.static yX4_end]
def wsX4_parameterSaving_r2 : List Cond := [Cond.code yX4_end cX4_end 1 (some .int), Cond.methodLink RX4 30 yX4_base, Cond.static yX4_base, Cond.code yX4_base cX4_base 1 (some .int), Cond.methodLink RX4 49 yX4_many, Cond.instanceMethod yX4_many, Cond.selects RX4 yX4_many yX4_many, Cond.code yX4_many cX4_many 2 (some .int), Cond.methodLink RX4 85 yX4_uses7, Cond.instanceMethod yX4_uses7, Cond.selects RX4 yX4_uses7 yX4_uses7, Cond.code yX4_uses7 cX4_uses7 8 (some .boolean), Cond.methodLink RX4 52 yX4_at, Cond.static yX4_at, Cond.code yX4_at cX4_at 2 (some .int), Cond.methodLink RX4 76 yX4_sameFromEnd, Cond.instanceMethod yX4_sameFromEnd, Cond.selects RX4 yX4_sameFromEnd yX4_sameFromEnd, Cond.code yX4_sameFromEnd cX4_sameFromEnd 8 (some .boolean), Cond.methodLink RX4 92 yX4_canDiffer, Cond.instanceMethod yX4_canDiffer, Cond.selects RX4 yX4_canDiffer yX4_canDiffer, Cond.code yX4_canDiffer cX4_canDiffer 6 (some .boolean), Cond.methodLink RX4 98 yX4_costOf]
def wsX4_parameterSaving_r3 : List Cond := [Cond.instanceMethod yX4_costOf, Cond.selects RX4 yX4_costOf yX4_costOf, Cond.code yX4_costOf cX4_costOf 3 (some .int)]
def wsX4_parameterSaving : List Cond := .code yX4_parameterSaving cX4_parameterSaving 5 (some .int) :: ((wsX4_parameterSaving_r1 ++ (wsX4_parameterSaving_r2 ++ wsX4_parameterSaving_r3)) ++ wsX40)
def wsX4_passParameter_r1 : List Cond := [Cond.fieldLink RX4 7 "TailMergerModel" "state" "[I", Cond.methodLink RX4 49 yX4_many, Cond.instanceMethod yX4_many, Cond.selects RX4 yX4_many yX4_many, Cond.initialized RX4, Cond.code yX4_many cX4_many 2 (some .int), Cond.methodLink RX4 30 yX4_base, Cond.static yX4_base, Cond.code yX4_base cX4_base 1 (some .int), Cond.methodLink RX4 52 yX4_at, Cond.static yX4_at, Cond.code yX4_at cX4_at 2 (some .int), Cond.methodLink RX4 126 yX4_cutTail, Cond.instanceMethod yX4_cutTail, Cond.selects RX4 yX4_cutTail yX4_cutTail, Cond.code yX4_cutTail cX4_cutTail 5 none, Cond.methodLink RX4 34 yX4_end, Cond.static yX4_end, Cond.code yX4_end cX4_end 1 (some .int), Cond.methodLink RX4 37 yX4_terminate, Cond.instanceMethod yX4_terminate, Cond.selects RX4 yX4_terminate yX4_terminate, Cond.code yX4_terminate cX4_terminate 6 none, Cond.methodLink RX4 63 yX4_append]
def wsX4_passParameter_r2 : List Cond := [Cond.instanceMethod yX4_append, Cond.selects RX4 yX4_append yX4_append, Cond.code yX4_append cX4_append 8 none]
def wsX4_passParameter : List Cond := .code yX4_passParameter cX4_passParameter 8 none :: ((wsX4_passParameter_r1 ++ wsX4_passParameter_r2) ++ wsX40)
def wsX4_mergeWithParameter_r1 : List Cond := [Cond.fieldLink RX4 7 "TailMergerModel" "state" "[I", Cond.fieldLink RX4 88 "TailMergerModel" "differsAt" "I", Cond.methodLink RX4 79 yX4_wrongPair, Cond.instanceMethod yX4_wrongPair, Cond.selects RX4 yX4_wrongPair yX4_wrongPair, Cond.initialized RX4, Cond.code yX4_wrongPair cX4_wrongPair 3 (some .int), Cond.methodLink RX4 56 yX4_isBlock, Cond.instanceMethod yX4_isBlock, Cond.selects RX4 yX4_isBlock yX4_isBlock, Cond.code yX4_isBlock cX4_isBlock 2 (some .boolean), Cond.methodLink RX4 26 yX4_in, Cond.static yX4_in, Cond.code yX4_in cX4_in 3 (some .boolean), Cond.methodLink RX4 95 yX4_parameterLength, Cond.instanceMethod yX4_parameterLength, Cond.selects RX4 yX4_parameterLength yX4_parameterLength, Cond.code yX4_parameterLength cX4_parameterLength 7 (some .int), Cond.methodLink RX4 72 yX4_sameEnds, Cond.instanceMethod yX4_sameEnds, Cond.selects RX4 yX4_sameEnds yX4_sameEnds, Cond.code yX4_sameEnds cX4_sameEnds 5 (some .boolean), Cond.methodLink RX4 34 yX4_end, Cond.static yX4_end]
def wsX4_mergeWithParameter_r2 : List Cond := [Cond.code yX4_end cX4_end 1 (some .int), Cond.methodLink RX4 30 yX4_base, Cond.static yX4_base, Cond.code yX4_base cX4_base 1 (some .int), Cond.methodLink RX4 49 yX4_many, Cond.instanceMethod yX4_many, Cond.selects RX4 yX4_many yX4_many, Cond.code yX4_many cX4_many 2 (some .int), Cond.methodLink RX4 85 yX4_uses7, Cond.instanceMethod yX4_uses7, Cond.selects RX4 yX4_uses7 yX4_uses7, Cond.code yX4_uses7 cX4_uses7 8 (some .boolean), Cond.methodLink RX4 52 yX4_at, Cond.static yX4_at, Cond.code yX4_at cX4_at 2 (some .int), Cond.methodLink RX4 76 yX4_sameFromEnd, Cond.instanceMethod yX4_sameFromEnd, Cond.selects RX4 yX4_sameFromEnd yX4_sameFromEnd, Cond.code yX4_sameFromEnd cX4_sameFromEnd 8 (some .boolean), Cond.methodLink RX4 92 yX4_canDiffer, Cond.instanceMethod yX4_canDiffer, Cond.selects RX4 yX4_canDiffer yX4_canDiffer, Cond.code yX4_canDiffer cX4_canDiffer 6 (some .boolean), Cond.methodLink RX4 41 yX4_newBlock]
def wsX4_mergeWithParameter_r3 : List Cond := [Cond.instanceMethod yX4_newBlock, Cond.selects RX4 yX4_newBlock yX4_newBlock, Cond.code yX4_newBlock cX4_newBlock 3 (some .int), Cond.methodLink RX4 37 yX4_terminate, Cond.instanceMethod yX4_terminate, Cond.selects RX4 yX4_terminate yX4_terminate, Cond.code yX4_terminate cX4_terminate 6 none, Cond.methodLink RX4 119 yX4_copyTail, Cond.instanceMethod yX4_copyTail, Cond.selects RX4 yX4_copyTail yX4_copyTail, Cond.code yX4_copyTail cX4_copyTail 6 none, Cond.methodLink RX4 63 yX4_append, Cond.instanceMethod yX4_append, Cond.selects RX4 yX4_append yX4_append, Cond.code yX4_append cX4_append 8 none, Cond.methodLink RX4 123 yX4_uniteLines, Cond.instanceMethod yX4_uniteLines, Cond.selects RX4 yX4_uniteLines yX4_uniteLines, Cond.code yX4_uniteLines cX4_uniteLines 5 none, Cond.methodLink RX4 132 yX4_passParameter, Cond.instanceMethod yX4_passParameter, Cond.selects RX4 yX4_passParameter yX4_passParameter, Cond.code yX4_passParameter cX4_passParameter 8 none, Cond.methodLink RX4 126 yX4_cutTail]
def wsX4_mergeWithParameter_r4 : List Cond := [Cond.instanceMethod yX4_cutTail, Cond.selects RX4 yX4_cutTail yX4_cutTail, Cond.code yX4_cutTail cX4_cutTail 5 none]
def wsX4_mergeWithParameter : List Cond := .code yX4_mergeWithParameter cX4_mergeWithParameter 8 (some .int) :: ((wsX4_mergeWithParameter_r1 ++ (wsX4_mergeWithParameter_r2 ++ (wsX4_mergeWithParameter_r3 ++ wsX4_mergeWithParameter_r4))) ++ wsX40)
def wsX4_mergeAll_r1 : List Cond := [Cond.fieldLink RX4 7 "TailMergerModel" "state" "[I", Cond.methodLink RX4 116 yX4_findBest, Cond.instanceMethod yX4_findBest, Cond.selects RX4 yX4_findBest yX4_findBest, Cond.initialized RX4, Cond.code yX4_findBest cX4_findBest 4 (some .int), Cond.methodLink RX4 104 yX4_ones, Cond.static yX4_ones, Cond.code yX4_ones cX4_ones 3 (some .int), Cond.methodLink RX4 107 yX4_tailOf, Cond.instanceMethod yX4_tailOf, Cond.selects RX4 yX4_tailOf yX4_tailOf, Cond.code yX4_tailOf cX4_tailOf 6 (some .int), Cond.methodLink RX4 101 yX4_lowest, Cond.static yX4_lowest, Cond.code yX4_lowest cX4_lowest 2 (some .int), Cond.methodLink RX4 82 yX4_tailOfTwo, Cond.instanceMethod yX4_tailOfTwo, Cond.selects RX4 yX4_tailOfTwo yX4_tailOfTwo, Cond.code yX4_tailOfTwo cX4_tailOfTwo 4 (some .int), Cond.methodLink RX4 72 yX4_sameEnds, Cond.instanceMethod yX4_sameEnds, Cond.selects RX4 yX4_sameEnds yX4_sameEnds, Cond.code yX4_sameEnds cX4_sameEnds 5 (some .boolean)]
def wsX4_mergeAll_r2 : List Cond := [Cond.methodLink RX4 34 yX4_end, Cond.static yX4_end, Cond.code yX4_end cX4_end 1 (some .int), Cond.methodLink RX4 30 yX4_base, Cond.static yX4_base, Cond.code yX4_base cX4_base 1 (some .int), Cond.methodLink RX4 49 yX4_many, Cond.instanceMethod yX4_many, Cond.selects RX4 yX4_many yX4_many, Cond.code yX4_many cX4_many 2 (some .int), Cond.methodLink RX4 76 yX4_sameFromEnd, Cond.instanceMethod yX4_sameFromEnd, Cond.selects RX4 yX4_sameFromEnd yX4_sameFromEnd, Cond.code yX4_sameFromEnd cX4_sameFromEnd 8 (some .boolean), Cond.methodLink RX4 52 yX4_at, Cond.static yX4_at, Cond.code yX4_at cX4_at 2 (some .int), Cond.methodLink RX4 113 yX4_savingOf, Cond.instanceMethod yX4_savingOf, Cond.selects RX4 yX4_savingOf yX4_savingOf, Cond.code yX4_savingOf cX4_savingOf 3 (some .int), Cond.methodLink RX4 98 yX4_costOf, Cond.instanceMethod yX4_costOf, Cond.selects RX4 yX4_costOf yX4_costOf]
def wsX4_mergeAll_r3 : List Cond := [Cond.code yX4_costOf cX4_costOf 3 (some .int), Cond.methodLink RX4 129 yX4_mergeSet, Cond.instanceMethod yX4_mergeSet, Cond.selects RX4 yX4_mergeSet yX4_mergeSet, Cond.code yX4_mergeSet cX4_mergeSet 6 (some .int), Cond.methodLink RX4 41 yX4_newBlock, Cond.instanceMethod yX4_newBlock, Cond.selects RX4 yX4_newBlock yX4_newBlock, Cond.code yX4_newBlock cX4_newBlock 3 (some .int), Cond.methodLink RX4 37 yX4_terminate, Cond.instanceMethod yX4_terminate, Cond.selects RX4 yX4_terminate yX4_terminate, Cond.code yX4_terminate cX4_terminate 6 none, Cond.methodLink RX4 119 yX4_copyTail, Cond.instanceMethod yX4_copyTail, Cond.selects RX4 yX4_copyTail yX4_copyTail, Cond.code yX4_copyTail cX4_copyTail 6 none, Cond.methodLink RX4 63 yX4_append, Cond.instanceMethod yX4_append, Cond.selects RX4 yX4_append yX4_append, Cond.code yX4_append cX4_append 8 none, Cond.methodLink RX4 123 yX4_uniteLines, Cond.instanceMethod yX4_uniteLines, Cond.selects RX4 yX4_uniteLines yX4_uniteLines]
def wsX4_mergeAll_r4 : List Cond := [Cond.code yX4_uniteLines cX4_uniteLines 5 none, Cond.methodLink RX4 126 yX4_cutTail, Cond.instanceMethod yX4_cutTail, Cond.selects RX4 yX4_cutTail yX4_cutTail, Cond.code yX4_cutTail cX4_cutTail 5 none]
def wsX4_mergeAll : List Cond := .code yX4_mergeAll cX4_mergeAll 3 (some .int) :: ((wsX4_mergeAll_r1 ++ (wsX4_mergeAll_r2 ++ (wsX4_mergeAll_r3 ++ wsX4_mergeAll_r4))) ++ wsX40)
def wsX4_setRegister : List Cond := .code yX4_setRegister cX4_setRegister 3 (some .int) :: ([.fieldLink RX4 7 "TailMergerModel" "state" "[I", .methodLink RX4 45 yX4_isRegister, .static yX4_isRegister, .initialized RX4, .code yX4_isRegister cX4_isRegister 1 (some .boolean), .methodLink RX4 26 yX4_in, .static yX4_in, .code yX4_in cX4_in 3 (some .boolean)] ++ wsX40)
def wsX4_execute : List Cond := .code yX4_execute cX4_execute 5 none :: ([.fieldLink RX4 7 "TailMergerModel" "state" "[I", .fieldLink RX4 20 "TailMergerModel" "register" "[I", .fieldLink RX4 23 "TailMergerModel" "trace" "[I", .fieldLink RX4 136 "TailMergerModel" "traced" "I"] ++ wsX40)
def wsX4_nextOf : List Cond := .code yX4_nextOf cX4_nextOf 3 (some .int) :: ([.fieldLink RX4 7 "TailMergerModel" "state" "[I", .fieldLink RX4 20 "TailMergerModel" "register" "[I", .methodLink RX4 34 yX4_end, .static yX4_end, .initialized RX4, .code yX4_end cX4_end 1 (some .int), .methodLink RX4 30 yX4_base, .static yX4_base, .code yX4_base cX4_base 1 (some .int)] ++ wsX40)
def wsX4_run_r1 : List Cond := [Cond.fieldLink RX4 7 "TailMergerModel" "state" "[I", Cond.fieldLink RX4 20 "TailMergerModel" "register" "[I", Cond.fieldLink RX4 136 "TailMergerModel" "traced" "I", Cond.methodLink RX4 26 yX4_in, Cond.static yX4_in, Cond.initialized RX4, Cond.code yX4_in cX4_in 3 (some .boolean), Cond.methodLink RX4 49 yX4_many, Cond.instanceMethod yX4_many, Cond.selects RX4 yX4_many yX4_many, Cond.code yX4_many cX4_many 2 (some .int), Cond.methodLink RX4 30 yX4_base, Cond.static yX4_base, Cond.code yX4_base cX4_base 1 (some .int), Cond.methodLink RX4 52 yX4_at, Cond.static yX4_at, Cond.code yX4_at cX4_at 2 (some .int), Cond.methodLink RX4 139 yX4_execute, Cond.instanceMethod yX4_execute, Cond.selects RX4 yX4_execute yX4_execute, Cond.code yX4_execute cX4_execute 5 none, Cond.fieldLink RX4 23 "TailMergerModel" "trace" "[I", Cond.methodLink RX4 143 yX4_nextOf, Cond.instanceMethod yX4_nextOf]
def wsX4_run_r2 : List Cond := [Cond.selects RX4 yX4_nextOf yX4_nextOf, Cond.code yX4_nextOf cX4_nextOf 3 (some .int), Cond.methodLink RX4 34 yX4_end, Cond.static yX4_end, Cond.code yX4_end cX4_end 1 (some .int)]
def wsX4_run : List Cond := .code yX4_run cX4_run 5 (some .int) :: ((wsX4_run_r1 ++ wsX4_run_r2) ++ wsX40)
def wsX4_traceLength : List Cond := .code yX4_traceLength cX4_traceLength 1 (some .int) :: ([.fieldLink RX4 136 "TailMergerModel" "traced" "I"] ++ wsX40)
def wsX4_trace : List Cond := .code yX4_trace cX4_trace 2 (some .int) :: ([.fieldLink RX4 136 "TailMergerModel" "traced" "I", .fieldLink RX4 23 "TailMergerModel" "trace" "[I", .methodLink RX4 26 yX4_in, .static yX4_in, .initialized RX4, .code yX4_in cX4_in 3 (some .boolean)] ++ wsX40)
def wsX4_register : List Cond := .code yX4_register cX4_register 2 (some .int) :: ([.fieldLink RX4 20 "TailMergerModel" "register" "[I", .methodLink RX4 26 yX4_in, .static yX4_in, .initialized RX4, .code yX4_in cX4_in 3 (some .boolean)] ++ wsX40)
def wsX4_save : List Cond := .code yX4_save cX4_save 3 (some .int) :: ([.fieldLink RX4 13 "TailMergerModel" "slots" "[I", .fieldLink RX4 7 "TailMergerModel" "state" "[I", .fieldLink RX4 16 "TailMergerModel" "isSaved" "[Z", .methodLink RX4 26 yX4_in, .static yX4_in, .initialized RX4, .code yX4_in cX4_in 3 (some .boolean)] ++ wsX40)
def wsX4_restore : List Cond := .code yX4_restore cX4_restore 3 (some .int) :: ([.fieldLink RX4 16 "TailMergerModel" "isSaved" "[Z", .fieldLink RX4 7 "TailMergerModel" "state" "[I", .fieldLink RX4 13 "TailMergerModel" "slots" "[I", .methodLink RX4 26 yX4_in, .static yX4_in, .initialized RX4, .code yX4_in cX4_in 3 (some .boolean)] ++ wsX40)
def wsJ9_min_7cf53 : List Cond := .code yJ9_min_7cf53 cJ9_min_7cf53 2 (some .int) :: ([])
def wsL_law_r1 : List Cond := [Cond.classLink RL 7 RX3, Cond.instantiable RX3 4, Cond.initialized RX3, Cond.classLink RL 10 RX4, Cond.instantiable RX4 7, Cond.initialized RX4, Cond.methodLink RL 9 yX3_init, Cond.instanceMethod yX3_init, Cond.code yX3_init cX3_init 2 none, Cond.methodLink RX3 1 objectInit, Cond.instanceMethod objectInit, Cond.code objectInit ⟨#[0xb1]⟩ 1 none, Cond.classLink RX3 7 RX2, Cond.instantiable RX2 5, Cond.initialized RX2, Cond.fieldLink RX3 10 "TailMerger" "program" "LTailMerger$Program;", Cond.fieldLink RX3 16 "TailMerger" "slots" "[LTailMerger$Program;", Cond.arrayClass .boolean, Cond.fieldLink RX3 20 "TailMerger" "saved" "[Z", Cond.classLink RX3 24 RX1, Cond.instantiable RX1 3, Cond.initialized RX1, Cond.fieldLink RX3 27 "TailMerger" "machine" "LTailMerger$Machine;", Cond.instanceMethod yX2_init]
def wsL_law_r2 : List Cond := [Cond.code yX2_init cX2_init 2 none, Cond.methodLink RX2 3 objectInit, Cond.classLink RX2 9 RX0, Cond.fieldLink RX2 11 "TailMerger$Program" "blocks" "[LTailMerger$Block;", Cond.instantiable RX0 8, Cond.initialized RX0, Cond.fieldLink RX2 18 "TailMerger$Program" "count" "I", Cond.fieldLink RX2 22 "TailMerger$Program" "jumpCost" "I", Cond.arrayClass .int, Cond.fieldLink RX2 25 "TailMerger$Program" "initialValues" "[I", Cond.fieldLink RX2 29 "TailMerger$Program" "sharedLengths" "[I", Cond.instanceMethod yX0_init, Cond.code yX0_init cX0_init 1 none, Cond.methodLink RX0 3 objectInit, Cond.fieldLink RX0 9 "TailMerger$Block" "opcodes" "[I", Cond.fieldLink RX0 15 "TailMerger$Block" "destinations" "[I", Cond.fieldLink RX0 18 "TailMerger$Block" "operandsA" "[I", Cond.fieldLink RX0 21 "TailMerger$Block" "operandsB" "[I", Cond.fieldLink RX0 24 "TailMerger$Block" "lineSets" "[I", Cond.fieldLink RX0 27 "TailMerger$Block" "count" "I", Cond.fieldLink RX0 31 "TailMerger$Block" "kind" "I", Cond.fieldLink RX0 34 "TailMerger$Block" "terminatorOperands" "[I", Cond.instanceMethod yX1_init, Cond.code yX1_init cX1_init 1 none]
def wsL_law_r3 : List Cond := [Cond.methodLink RX1 3 objectInit, Cond.fieldLink RX1 9 "TailMerger$Machine" "values" "[I", Cond.fieldLink RX1 15 "TailMerger$Machine" "emitted" "[I", Cond.fieldLink RX1 18 "TailMerger$Machine" "emittedCount" "I", Cond.methodLink RL 12 yX4_init, Cond.instanceMethod yX4_init, Cond.code yX4_init cX4_init 1 none, Cond.methodLink RX4 1 objectInit, Cond.fieldLink RX4 7 "TailMergerModel" "state" "[I", Cond.fieldLink RX4 13 "TailMergerModel" "slots" "[I", Cond.fieldLink RX4 16 "TailMergerModel" "isSaved" "[Z", Cond.fieldLink RX4 20 "TailMergerModel" "register" "[I", Cond.fieldLink RX4 23 "TailMergerModel" "trace" "[I", Cond.methodLink RL 13 yX3_addBlock, Cond.instanceMethod yX3_addBlock, Cond.selects RX3 yX3_addBlock yX3_addBlock, Cond.code yX3_addBlock cX3_addBlock 1 (some .int), Cond.instanceMethod yX2_appendBlock, Cond.selects RX2 yX2_appendBlock yX2_appendBlock, Cond.code yX2_appendBlock cX2_appendBlock 2 (some .int), Cond.instanceMethod yX0_clear, Cond.selects RX0 yX0_clear yX0_clear, Cond.code yX0_clear cX0_clear 1 none, Cond.methodLink RX0 37 yX0_terminate]
def wsL_law_r4 : List Cond := [Cond.instanceMethod yX0_terminate, Cond.selects RX0 yX0_terminate yX0_terminate, Cond.code yX0_terminate cX0_terminate 6 (some .int), Cond.methodLink RL 17 yX4_addBlock, Cond.instanceMethod yX4_addBlock, Cond.selects RX4 yX4_addBlock yX4_addBlock, Cond.code yX4_addBlock cX4_addBlock 1 (some .int), Cond.methodLink RX4 41 yX4_newBlock, Cond.instanceMethod yX4_newBlock, Cond.selects RX4 yX4_newBlock yX4_newBlock, Cond.code yX4_newBlock cX4_newBlock 3 (some .int), Cond.methodLink RX4 30 yX4_base, Cond.static yX4_base, Cond.code yX4_base cX4_base 1 (some .int), Cond.methodLink RX4 37 yX4_terminate, Cond.instanceMethod yX4_terminate, Cond.selects RX4 yX4_terminate yX4_terminate, Cond.code yX4_terminate cX4_terminate 6 none, Cond.methodLink RX4 34 yX4_end, Cond.static yX4_end, Cond.code yX4_end cX4_end 1 (some .int), Cond.methodLink RL 18 yX3_addInstruction, Cond.instanceMethod yX3_addInstruction, Cond.selects RX3 yX3_addInstruction yX3_addInstruction]
def wsL_law_r5 : List Cond := [Cond.code yX3_addInstruction cX3_addInstruction 7 (some .int), Cond.instanceMethod yX2_has, Cond.selects RX2 yX2_has yX2_has, Cond.code yX2_has cX2_has 2 (some .boolean), Cond.methodLink RX3 39 yX3_operandsFit, Cond.static yX3_operandsFit, Cond.code yX3_operandsFit cX3_operandsFit 4 (some .boolean), Cond.methodLink RX3 53 yX3_isGeneral, Cond.static yX3_isGeneral, Cond.code yX3_isGeneral cX3_isGeneral 1 (some .boolean), Cond.instanceMethod yX0_append, Cond.selects RX0 yX0_append yX0_append, Cond.code yX0_append cX0_append 7 (some .int), Cond.methodLink RL 22 yX4_addInstruction, Cond.instanceMethod yX4_addInstruction, Cond.selects RX4 yX4_addInstruction yX4_addInstruction, Cond.code yX4_addInstruction cX4_addInstruction 7 (some .int), Cond.methodLink RX4 56 yX4_isBlock, Cond.instanceMethod yX4_isBlock, Cond.selects RX4 yX4_isBlock yX4_isBlock, Cond.code yX4_isBlock cX4_isBlock 2 (some .boolean), Cond.methodLink RX4 26 yX4_in, Cond.static yX4_in, Cond.code yX4_in cX4_in 3 (some .boolean)]
def wsL_law_r6 : List Cond := [Cond.methodLink RX4 59 yX4_fits, Cond.static yX4_fits, Cond.code yX4_fits cX4_fits 4 (some .boolean), Cond.methodLink RX4 45 yX4_isRegister, Cond.static yX4_isRegister, Cond.code yX4_isRegister cX4_isRegister 1 (some .boolean), Cond.methodLink RX4 49 yX4_many, Cond.instanceMethod yX4_many, Cond.selects RX4 yX4_many yX4_many, Cond.code yX4_many cX4_many 2 (some .int), Cond.methodLink RX4 63 yX4_append, Cond.instanceMethod yX4_append, Cond.selects RX4 yX4_append yX4_append, Cond.code yX4_append cX4_append 8 none, Cond.methodLink RX4 52 yX4_at, Cond.static yX4_at, Cond.code yX4_at cX4_at 2 (some .int), Cond.methodLink RL 23 yX3_setJump, Cond.instanceMethod yX3_setJump, Cond.selects RX3 yX3_setJump yX3_setJump, Cond.code yX3_setJump cX3_setJump 3 (some .int), Cond.methodLink RL 27 yX4_setJump, Cond.instanceMethod yX4_setJump, Cond.selects RX4 yX4_setJump yX4_setJump]
def wsL_law_r7 : List Cond := [Cond.code yX4_setJump cX4_setJump 4 (some .int), Cond.methodLink RL 28 yX3_setBranch, Cond.instanceMethod yX3_setBranch, Cond.selects RX3 yX3_setBranch yX3_setBranch, Cond.code yX3_setBranch cX3_setBranch 5 (some .int), Cond.methodLink RL 32 yX4_setBranch, Cond.instanceMethod yX4_setBranch, Cond.selects RX4 yX4_setBranch yX4_setBranch, Cond.code yX4_setBranch cX4_setBranch 6 (some .int), Cond.methodLink RL 33 yX3_setReturn, Cond.instanceMethod yX3_setReturn, Cond.selects RX3 yX3_setReturn yX3_setReturn, Cond.code yX3_setReturn cX3_setReturn 3 (some .int), Cond.methodLink RL 36 yX4_setReturn, Cond.instanceMethod yX4_setReturn, Cond.selects RX4 yX4_setReturn yX4_setReturn, Cond.code yX4_setReturn cX4_setReturn 4 (some .int), Cond.methodLink RL 37 yX3_blockCount, Cond.instanceMethod yX3_blockCount, Cond.selects RX3 yX3_blockCount yX3_blockCount, Cond.code yX3_blockCount cX3_blockCount 1 (some .int), Cond.methodLink RL 40 yX4_blockCount, Cond.instanceMethod yX4_blockCount, Cond.selects RX4 yX4_blockCount yX4_blockCount]
def wsL_law_r8 : List Cond := [Cond.code yX4_blockCount cX4_blockCount 1 (some .int), Cond.methodLink RL 41 yX3_instructionCount, Cond.instanceMethod yX3_instructionCount, Cond.selects RX3 yX3_instructionCount yX3_instructionCount, Cond.code yX3_instructionCount cX3_instructionCount 2 (some .int), Cond.methodLink RL 45 yX4_instructionCount, Cond.instanceMethod yX4_instructionCount, Cond.selects RX4 yX4_instructionCount yX4_instructionCount, Cond.code yX4_instructionCount cX4_instructionCount 2 (some .int), Cond.methodLink RL 46 yX3_opcode, Cond.instanceMethod yX3_opcode, Cond.selects RX3 yX3_opcode yX3_opcode, Cond.code yX3_opcode cX3_opcode 4 (some .int), Cond.methodLink RX3 65 yX3_instructionError, Cond.instanceMethod yX3_instructionError, Cond.selects RX3 yX3_instructionError yX3_instructionError, Cond.code yX3_instructionError cX3_instructionError 3 (some .int), Cond.methodLink RL 49 yX4_opcode, Cond.instanceMethod yX4_opcode, Cond.selects RX4 yX4_opcode yX4_opcode, Cond.code yX4_opcode cX4_opcode 3 (some .int), Cond.methodLink RX4 67 yX4_field, Cond.instanceMethod yX4_field, Cond.selects RX4 yX4_field yX4_field]
def wsL_law_r9 : List Cond := [Cond.code yX4_field cX4_field 4 (some .int), Cond.methodLink RL 50 yX3_destination, Cond.instanceMethod yX3_destination, Cond.selects RX3 yX3_destination yX3_destination, Cond.code yX3_destination cX3_destination 4 (some .int), Cond.methodLink RL 53 yX4_destination, Cond.instanceMethod yX4_destination, Cond.selects RX4 yX4_destination yX4_destination, Cond.code yX4_destination cX4_destination 3 (some .int), Cond.methodLink RL 54 yX3_operandA, Cond.instanceMethod yX3_operandA, Cond.selects RX3 yX3_operandA yX3_operandA, Cond.code yX3_operandA cX3_operandA 4 (some .int), Cond.methodLink RL 57 yX4_operandA, Cond.instanceMethod yX4_operandA, Cond.selects RX4 yX4_operandA yX4_operandA, Cond.code yX4_operandA cX4_operandA 3 (some .int), Cond.methodLink RL 58 yX3_operandB, Cond.instanceMethod yX3_operandB, Cond.selects RX3 yX3_operandB yX3_operandB, Cond.code yX3_operandB cX3_operandB 4 (some .int), Cond.methodLink RL 61 yX4_operandB, Cond.instanceMethod yX4_operandB, Cond.selects RX4 yX4_operandB yX4_operandB]
def wsL_law_r10 : List Cond := [Cond.code yX4_operandB cX4_operandB 3 (some .int), Cond.methodLink RL 62 yX3_lines, Cond.instanceMethod yX3_lines, Cond.selects RX3 yX3_lines yX3_lines, Cond.code yX3_lines cX3_lines 4 (some .int), Cond.methodLink RL 65 yX4_lines, Cond.instanceMethod yX4_lines, Cond.selects RX4 yX4_lines yX4_lines, Cond.code yX4_lines cX4_lines 3 (some .int), Cond.methodLink RL 66 yX3_terminatorKind, Cond.instanceMethod yX3_terminatorKind, Cond.selects RX3 yX3_terminatorKind yX3_terminatorKind, Cond.code yX3_terminatorKind cX3_terminatorKind 2 (some .int), Cond.methodLink RL 69 yX4_terminatorKind, Cond.instanceMethod yX4_terminatorKind, Cond.selects RX4 yX4_terminatorKind yX4_terminatorKind, Cond.code yX4_terminatorKind cX4_terminatorKind 2 (some .int), Cond.methodLink RL 70 yX3_terminatorOperand, Cond.instanceMethod yX3_terminatorOperand, Cond.selects RX3 yX3_terminatorOperand yX3_terminatorOperand, Cond.code yX3_terminatorOperand cX3_terminatorOperand 5 (some .int), Cond.methodLink RL 73 yX4_terminatorOperand, Cond.instanceMethod yX4_terminatorOperand, Cond.selects RX4 yX4_terminatorOperand yX4_terminatorOperand]
def wsL_law_r11 : List Cond := [Cond.code yX4_terminatorOperand cX4_terminatorOperand 4 (some .int), Cond.methodLink RL 74 yX3_tailHash, Cond.instanceMethod yX3_tailHash, Cond.selects RX3 yX3_tailHash yX3_tailHash, Cond.code yX3_tailHash cX3_tailHash 4 (some .int), Cond.instanceMethod yX0_hashOfTail, Cond.selects RX0 yX0_hashOfTail yX0_hashOfTail, Cond.code yX0_hashOfTail cX0_hashOfTail 4 (some .int), Cond.constant RX0 53 (2147483647), Cond.methodLink RL 77 yX4_tailHash, Cond.instanceMethod yX4_tailHash, Cond.selects RX4 yX4_tailHash yX4_tailHash, Cond.code yX4_tailHash cX4_tailHash 6 (some .int), Cond.constant RX4 71 (2147483647), Cond.methodLink RL 78 yX3_commonTail, Cond.instanceMethod yX3_commonTail, Cond.selects RX3 yX3_commonTail yX3_commonTail, Cond.code yX3_commonTail cX3_commonTail 4 (some .int), Cond.methodLink RX3 95 yX3_pairError, Cond.instanceMethod yX3_pairError, Cond.selects RX3 yX3_pairError yX3_pairError, Cond.code yX3_pairError cX3_pairError 3 (some .int), Cond.instanceMethod yX0_tailSharedWith, Cond.selects RX0 yX0_tailSharedWith yX0_tailSharedWith]
def wsL_law_r12 : List Cond := [Cond.code yX0_tailSharedWith cX0_tailSharedWith 4 (some .int), Cond.methodLink RX0 58 Lib.Math.min.name, Cond.static Lib.Math.min.name, Cond.initialized "java/lang/Math", Cond.code Lib.Math.min.name Lib.Math.min.code 2 (some .int), Cond.methodLink RX0 54 yX0_hasTerminatorOf, Cond.instanceMethod yX0_hasTerminatorOf, Cond.selects RX0 yX0_hasTerminatorOf yX0_hasTerminatorOf, Cond.code yX0_hasTerminatorOf cX0_hasTerminatorOf 2 (some .boolean), Cond.methodLink RX0 64 yX0_isEqualAt, Cond.instanceMethod yX0_isEqualAt, Cond.selects RX0 yX0_isEqualAt yX0_isEqualAt, Cond.code yX0_isEqualAt cX0_isEqualAt 5 (some .boolean), Cond.methodLink RL 81 yX4_commonTail, Cond.instanceMethod yX4_commonTail, Cond.selects RX4 yX4_commonTail yX4_commonTail, Cond.code yX4_commonTail cX4_commonTail 4 (some .int), Cond.methodLink RX4 79 yX4_wrongPair, Cond.instanceMethod yX4_wrongPair, Cond.selects RX4 yX4_wrongPair yX4_wrongPair, Cond.code yX4_wrongPair cX4_wrongPair 3 (some .int), Cond.methodLink RX4 82 yX4_tailOfTwo, Cond.instanceMethod yX4_tailOfTwo, Cond.selects RX4 yX4_tailOfTwo yX4_tailOfTwo]
def wsL_law_r13 : List Cond := [Cond.code yX4_tailOfTwo cX4_tailOfTwo 4 (some .int), Cond.methodLink RX4 72 yX4_sameEnds, Cond.instanceMethod yX4_sameEnds, Cond.selects RX4 yX4_sameEnds yX4_sameEnds, Cond.code yX4_sameEnds cX4_sameEnds 5 (some .boolean), Cond.methodLink RX4 76 yX4_sameFromEnd, Cond.instanceMethod yX4_sameFromEnd, Cond.selects RX4 yX4_sameFromEnd yX4_sameFromEnd, Cond.code yX4_sameFromEnd cX4_sameFromEnd 8 (some .boolean), Cond.methodLink RL 82 yX3_parameterTail, Cond.instanceMethod yX3_parameterTail, Cond.selects RX3 yX3_parameterTail yX3_parameterTail, Cond.code yX3_parameterTail cX3_parameterTail 4 (some .int), Cond.instanceMethod yX0_parameterTailWith, Cond.selects RX0 yX0_parameterTailWith yX0_parameterTailWith, Cond.code yX0_parameterTailWith cX0_parameterTailWith 5 (some .int), Cond.methodLink RX0 68 yX0_fitsParameterTail, Cond.instanceMethod yX0_fitsParameterTail, Cond.selects RX0 yX0_fitsParameterTail yX0_fitsParameterTail, Cond.code yX0_fitsParameterTail cX0_fitsParameterTail 4 (some .boolean), Cond.methodLink RX0 72 yX0_usesParameterAt, Cond.instanceMethod yX0_usesParameterAt, Cond.selects RX0 yX0_usesParameterAt yX0_usesParameterAt, Cond.code yX0_usesParameterAt cX0_usesParameterAt 3 (some .boolean)]
def wsL_law_r14 : List Cond := [Cond.methodLink RX0 76 yX0_isSameConstTargetAt, Cond.instanceMethod yX0_isSameConstTargetAt, Cond.selects RX0 yX0_isSameConstTargetAt yX0_isSameConstTargetAt, Cond.code yX0_isSameConstTargetAt cX0_isSameConstTargetAt 5 (some .boolean), Cond.methodLink RL 85 yX4_parameterTail, Cond.instanceMethod yX4_parameterTail, Cond.selects RX4 yX4_parameterTail yX4_parameterTail, Cond.code yX4_parameterTail cX4_parameterTail 4 (some .int), Cond.methodLink RX4 95 yX4_parameterLength, Cond.instanceMethod yX4_parameterLength, Cond.selects RX4 yX4_parameterLength yX4_parameterLength, Cond.code yX4_parameterLength cX4_parameterLength 7 (some .int), Cond.fieldLink RX4 88 "TailMergerModel" "differsAt" "I", Cond.methodLink RX4 85 yX4_uses7, Cond.instanceMethod yX4_uses7, Cond.selects RX4 yX4_uses7 yX4_uses7, Cond.code yX4_uses7 cX4_uses7 8 (some .boolean), Cond.methodLink RX4 92 yX4_canDiffer, Cond.instanceMethod yX4_canDiffer, Cond.selects RX4 yX4_canDiffer yX4_canDiffer, Cond.code yX4_canDiffer cX4_canDiffer 6 (some .boolean), Cond.methodLink RL 86 yX3_setJumpCost, Cond.instanceMethod yX3_setJumpCost, Cond.selects RX3 yX3_setJumpCost yX3_setJumpCost]
def wsL_law_r15 : List Cond := [Cond.code yX3_setJumpCost cX3_setJumpCost 3 (some .int), Cond.methodLink RL 89 yX4_setJumpCost, Cond.instanceMethod yX4_setJumpCost, Cond.selects RX4 yX4_setJumpCost yX4_setJumpCost, Cond.code yX4_setJumpCost cX4_setJumpCost 3 (some .int), Cond.methodLink RL 90 yX3_codeSize, Cond.instanceMethod yX3_codeSize, Cond.selects RX3 yX3_codeSize yX3_codeSize, Cond.code yX3_codeSize cX3_codeSize 1 (some .int), Cond.instanceMethod yX2_size, Cond.selects RX2 yX2_size yX2_size, Cond.code yX2_size cX2_size 3 (some .int), Cond.methodLink RX2 46 yX2_terminatorCost, Cond.instanceMethod yX2_terminatorCost, Cond.selects RX2 yX2_terminatorCost yX2_terminatorCost, Cond.code yX2_terminatorCost cX2_terminatorCost 2 (some .int), Cond.methodLink RL 93 yX4_codeSize, Cond.instanceMethod yX4_codeSize, Cond.selects RX4 yX4_codeSize yX4_codeSize, Cond.code yX4_codeSize cX4_codeSize 3 (some .int), Cond.methodLink RX4 98 yX4_costOf, Cond.instanceMethod yX4_costOf, Cond.selects RX4 yX4_costOf yX4_costOf, Cond.code yX4_costOf cX4_costOf 3 (some .int)]
def wsL_law_r16 : List Cond := [Cond.methodLink RL 94 yX3_tailSaving, Cond.instanceMethod yX3_tailSaving, Cond.selects RX3 yX3_tailSaving yX3_tailSaving, Cond.code yX3_tailSaving cX3_tailSaving 3 (some .int), Cond.methodLink RX3 111 yX3_tailOrError, Cond.instanceMethod yX3_tailOrError, Cond.selects RX3 yX3_tailOrError yX3_tailOrError, Cond.code yX3_tailOrError cX3_tailOrError 2 (some .int), Cond.methodLink RX3 117 yJ6_bitCount_0f7a4, Cond.static yJ6_bitCount_0f7a4, Cond.initialized RJ6, Cond.code yJ6_bitCount_0f7a4 cJ6_bitCount_0f7a4 1 (some .int), Cond.constant RJ6 265 (1431655765), Cond.constant RJ6 266 (858993459), Cond.constant RJ6 267 (252645135), Cond.instanceMethod yX2_tailOfSet, Cond.selects RX2 yX2_tailOfSet yX2_tailOfSet, Cond.code yX2_tailOfSet cX2_tailOfSet 5 (some .int), Cond.methodLink RX2 61 Lib.Math.min.name, Cond.methodLink RX2 53 yX2_contains, Cond.static yX2_contains, Cond.code yX2_contains cX2_contains 2 (some .boolean), Cond.instanceMethod yX2_savingOfSet, Cond.selects RX2 yX2_savingOfSet yX2_savingOfSet]
def wsL_law_r17 : List Cond := [Cond.code yX2_savingOfSet cX2_savingOfSet 5 (some .int), Cond.methodLink RX2 67 yJ6_bitCount_0f7a4, Cond.methodLink RX2 72 yX2_savingOf, Cond.instanceMethod yX2_savingOf, Cond.selects RX2 yX2_savingOf yX2_savingOf, Cond.code yX2_savingOf cX2_savingOf 4 (some .int), Cond.methodLink RL 97 yX4_tailSaving, Cond.instanceMethod yX4_tailSaving, Cond.selects RX4 yX4_tailSaving yX4_tailSaving, Cond.code yX4_tailSaving cX4_tailSaving 3 (some .int), Cond.methodLink RX4 110 yX4_wrongSet, Cond.instanceMethod yX4_wrongSet, Cond.selects RX4 yX4_wrongSet yX4_wrongSet, Cond.code yX4_wrongSet cX4_wrongSet 2 (some .int), Cond.methodLink RX4 104 yX4_ones, Cond.static yX4_ones, Cond.code yX4_ones cX4_ones 3 (some .int), Cond.methodLink RX4 107 yX4_tailOf, Cond.instanceMethod yX4_tailOf, Cond.selects RX4 yX4_tailOf yX4_tailOf, Cond.code yX4_tailOf cX4_tailOf 6 (some .int), Cond.methodLink RX4 101 yX4_lowest, Cond.static yX4_lowest, Cond.code yX4_lowest cX4_lowest 2 (some .int)]
def wsL_law_r18 : List Cond := [Cond.methodLink RX4 113 yX4_savingOf, Cond.instanceMethod yX4_savingOf, Cond.selects RX4 yX4_savingOf yX4_savingOf, Cond.code yX4_savingOf cX4_savingOf 3 (some .int), Cond.methodLink RL 98 yX3_bestTail, Cond.instanceMethod yX3_bestTail, Cond.selects RX3 yX3_bestTail yX3_bestTail, Cond.code yX3_bestTail cX3_bestTail 1 (some .int), Cond.instanceMethod yX2_bestSet, Cond.selects RX2 yX2_bestSet yX2_bestSet, Cond.code yX2_bestSet cX2_bestSet 8 (some .int), Cond.methodLink RX2 76 yX2_compareWithLater, Cond.instanceMethod yX2_compareWithLater, Cond.selects RX2 yX2_compareWithLater yX2_compareWithLater, Cond.code yX2_compareWithLater cX2_compareWithLater 3 none, Cond.methodLink RX2 80 yX2_sharersFrom, Cond.instanceMethod yX2_sharersFrom, Cond.selects RX2 yX2_sharersFrom yX2_sharersFrom, Cond.code yX2_sharersFrom cX2_sharersFrom 5 (some .int), Cond.methodLink RL 101 yX4_bestTail, Cond.instanceMethod yX4_bestTail, Cond.selects RX4 yX4_bestTail yX4_bestTail, Cond.code yX4_bestTail cX4_bestTail 1 (some .int), Cond.methodLink RX4 116 yX4_findBest]
def wsL_law_r19 : List Cond := [Cond.instanceMethod yX4_findBest, Cond.selects RX4 yX4_findBest yX4_findBest, Cond.code yX4_findBest cX4_findBest 4 (some .int), Cond.methodLink RL 102 yX3_mergeTail, Cond.instanceMethod yX3_mergeTail, Cond.selects RX3 yX3_mergeTail yX3_mergeTail, Cond.code yX3_mergeTail cX3_mergeTail 3 (some .int), Cond.instanceMethod yX2_mergeSet, Cond.selects RX2 yX2_mergeSet yX2_mergeSet, Cond.code yX2_mergeSet cX2_mergeSet 6 (some .int), Cond.methodLink RX2 83 yX2_appendBlock, Cond.instanceMethod yX0_uniteLines, Cond.selects RX0 yX0_uniteLines yX0_uniteLines, Cond.code yX0_uniteLines cX0_uniteLines 4 none, Cond.instanceMethod yX0_appendTail, Cond.selects RX0 yX0_appendTail yX0_appendTail, Cond.code yX0_appendTail cX0_appendTail 4 none, Cond.methodLink RX0 45 yX0_append, Cond.instanceMethod yX0_replaceTailByJump, Cond.selects RX0 yX0_replaceTailByJump yX0_replaceTailByJump, Cond.code yX0_replaceTailByJump cX0_replaceTailByJump 3 none, Cond.methodLink RL 105 yX4_mergeTail, Cond.instanceMethod yX4_mergeTail, Cond.selects RX4 yX4_mergeTail yX4_mergeTail]
def wsL_law_r20 : List Cond := [Cond.code yX4_mergeTail cX4_mergeTail 3 (some .int), Cond.methodLink RX4 129 yX4_mergeSet, Cond.instanceMethod yX4_mergeSet, Cond.selects RX4 yX4_mergeSet yX4_mergeSet, Cond.code yX4_mergeSet cX4_mergeSet 6 (some .int), Cond.methodLink RX4 119 yX4_copyTail, Cond.instanceMethod yX4_copyTail, Cond.selects RX4 yX4_copyTail yX4_copyTail, Cond.code yX4_copyTail cX4_copyTail 6 none, Cond.methodLink RX4 123 yX4_uniteLines, Cond.instanceMethod yX4_uniteLines, Cond.selects RX4 yX4_uniteLines yX4_uniteLines, Cond.code yX4_uniteLines cX4_uniteLines 5 none, Cond.methodLink RX4 126 yX4_cutTail, Cond.instanceMethod yX4_cutTail, Cond.selects RX4 yX4_cutTail yX4_cutTail, Cond.code yX4_cutTail cX4_cutTail 5 none, Cond.methodLink RL 106 yX3_parameterSaving, Cond.instanceMethod yX3_parameterSaving, Cond.selects RX3 yX3_parameterSaving yX3_parameterSaving, Cond.code yX3_parameterSaving cX3_parameterSaving 4 (some .int), Cond.methodLink RX3 131 yX3_parameterTail, Cond.instanceMethod yX2_savingWithParameter, Cond.selects RX2 yX2_savingWithParameter yX2_savingWithParameter]
def wsL_law_r21 : List Cond := [Cond.code yX2_savingWithParameter cX2_savingWithParameter 3 (some .int), Cond.methodLink RL 109 yX4_parameterSaving, Cond.instanceMethod yX4_parameterSaving, Cond.selects RX4 yX4_parameterSaving yX4_parameterSaving, Cond.code yX4_parameterSaving cX4_parameterSaving 5 (some .int), Cond.methodLink RL 110 yX3_mergeWithParameter, Cond.instanceMethod yX3_mergeWithParameter, Cond.selects RX3 yX3_mergeWithParameter yX3_mergeWithParameter, Cond.code yX3_mergeWithParameter cX3_mergeWithParameter 4 (some .int), Cond.instanceMethod yX2_mergePair, Cond.selects RX2 yX2_mergePair yX2_mergePair, Cond.code yX2_mergePair cX2_mergePair 6 (some .int), Cond.instanceMethod yX0_takeParameterAt, Cond.selects RX0 yX0_takeParameterAt yX0_takeParameterAt, Cond.code yX0_takeParameterAt cX0_takeParameterAt 2 none, Cond.instanceMethod yX0_replaceTailByParameter, Cond.selects RX0 yX0_replaceTailByParameter yX0_replaceTailByParameter, Cond.code yX0_replaceTailByParameter cX0_replaceTailByParameter 6 none, Cond.methodLink RX0 49 yX0_replaceTailByJump, Cond.methodLink RL 113 yX4_mergeWithParameter, Cond.instanceMethod yX4_mergeWithParameter, Cond.selects RX4 yX4_mergeWithParameter yX4_mergeWithParameter, Cond.code yX4_mergeWithParameter cX4_mergeWithParameter 8 (some .int), Cond.methodLink RX4 132 yX4_passParameter]
def wsL_law_r22 : List Cond := [Cond.instanceMethod yX4_passParameter, Cond.selects RX4 yX4_passParameter yX4_passParameter, Cond.code yX4_passParameter cX4_passParameter 8 none, Cond.methodLink RL 114 yX3_mergeAll, Cond.instanceMethod yX3_mergeAll, Cond.selects RX3 yX3_mergeAll yX3_mergeAll, Cond.code yX3_mergeAll cX3_mergeAll 4 (some .int), Cond.methodLink RL 117 yX4_mergeAll, Cond.instanceMethod yX4_mergeAll, Cond.selects RX4 yX4_mergeAll yX4_mergeAll, Cond.code yX4_mergeAll cX4_mergeAll 3 (some .int), Cond.methodLink RL 118 yX3_setRegister, Cond.instanceMethod yX3_setRegister, Cond.selects RX3 yX3_setRegister yX3_setRegister, Cond.code yX3_setRegister cX3_setRegister 3 (some .int), Cond.methodLink RL 121 yX4_setRegister, Cond.instanceMethod yX4_setRegister, Cond.selects RX4 yX4_setRegister yX4_setRegister, Cond.code yX4_setRegister cX4_setRegister 3 (some .int), Cond.methodLink RL 122 yX3_run, Cond.instanceMethod yX3_run, Cond.selects RX3 yX3_run yX3_run, Cond.code yX3_run cX3_run 2 (some .int), Cond.instanceMethod yX1_execute]
def wsL_law_r23 : List Cond := [Cond.selects RX1 yX1_execute yX1_execute, Cond.code yX1_execute cX1_execute 6 (some .int), Cond.methodLink RX1 27 arraycopyName, Cond.native arraycopyName, Cond.static arraycopyName, Cond.initialized "java/lang/System", Cond.methodLink RX1 42 yX1_perform, Cond.instanceMethod yX1_perform, Cond.selects RX1 yX1_perform yX1_perform, Cond.code yX1_perform cX1_perform 6 none, Cond.methodLink RX1 68 yX1_emit, Cond.instanceMethod yX1_emit, Cond.selects RX1 yX1_emit yX1_emit, Cond.code yX1_emit cX1_emit 2 none, Cond.methodLink RX1 49 yX1_successorOf, Cond.instanceMethod yX1_successorOf, Cond.selects RX1 yX1_successorOf yX1_successorOf, Cond.code yX1_successorOf cX1_successorOf 3 (some .int), Cond.methodLink RL 125 yX4_run, Cond.instanceMethod yX4_run, Cond.selects RX4 yX4_run yX4_run, Cond.code yX4_run cX4_run 5 (some .int), Cond.fieldLink RX4 136 "TailMergerModel" "traced" "I", Cond.methodLink RX4 139 yX4_execute]
def wsL_law_r24 : List Cond := [Cond.instanceMethod yX4_execute, Cond.selects RX4 yX4_execute yX4_execute, Cond.code yX4_execute cX4_execute 5 none, Cond.methodLink RX4 143 yX4_nextOf, Cond.instanceMethod yX4_nextOf, Cond.selects RX4 yX4_nextOf yX4_nextOf, Cond.code yX4_nextOf cX4_nextOf 3 (some .int), Cond.methodLink RL 126 yX3_traceLength, Cond.instanceMethod yX3_traceLength, Cond.selects RX3 yX3_traceLength yX3_traceLength, Cond.code yX3_traceLength cX3_traceLength 1 (some .int), Cond.methodLink RL 129 yX4_traceLength, Cond.instanceMethod yX4_traceLength, Cond.selects RX4 yX4_traceLength yX4_traceLength, Cond.code yX4_traceLength cX4_traceLength 1 (some .int), Cond.methodLink RL 130 yX3_trace, Cond.instanceMethod yX3_trace, Cond.selects RX3 yX3_trace yX3_trace, Cond.code yX3_trace cX3_trace 2 (some .int), Cond.methodLink RL 133 yX4_trace, Cond.instanceMethod yX4_trace, Cond.selects RX4 yX4_trace yX4_trace, Cond.code yX4_trace cX4_trace 2 (some .int), Cond.methodLink RL 134 yX3_register]
def wsL_law_r25 : List Cond := [Cond.instanceMethod yX3_register, Cond.selects RX3 yX3_register yX3_register, Cond.code yX3_register cX3_register 2 (some .int), Cond.methodLink RL 137 yX4_register, Cond.instanceMethod yX4_register, Cond.selects RX4 yX4_register yX4_register, Cond.code yX4_register cX4_register 2 (some .int), Cond.methodLink RL 138 yX3_save, Cond.instanceMethod yX3_save, Cond.selects RX3 yX3_save yX3_save, Cond.code yX3_save cX3_save 2 (some .int), Cond.instanceMethod yX2_copyFrom, Cond.selects RX2 yX2_copyFrom yX2_copyFrom, Cond.code yX2_copyFrom cX2_copyFrom 3 none, Cond.methodLink RX2 39 arraycopyName, Cond.instanceMethod yX0_copyFrom, Cond.selects RX0 yX0_copyFrom yX0_copyFrom, Cond.code yX0_copyFrom cX0_copyFrom 2 none, Cond.methodLink RX0 41 yX0_appendTail, Cond.methodLink RL 141 yX4_save, Cond.instanceMethod yX4_save, Cond.selects RX4 yX4_save yX4_save, Cond.code yX4_save cX4_save 3 (some .int), Cond.methodLink RL 142 yX3_restore]
def wsL_law_r26 : List Cond := [Cond.instanceMethod yX3_restore, Cond.selects RX3 yX3_restore yX3_restore, Cond.code yX3_restore cX3_restore 2 (some .int), Cond.methodLink RL 145 yX4_restore, Cond.instanceMethod yX4_restore, Cond.selects RX4 yX4_restore yX4_restore, Cond.code yX4_restore cX4_restore 3 (some .int)]
def wsL_law : List Cond := (wsL_law_r1 ++ (wsL_law_r2 ++ (wsL_law_r3 ++ (wsL_law_r4 ++ (wsL_law_r5 ++ (wsL_law_r6 ++ (wsL_law_r7 ++ (wsL_law_r8 ++ (wsL_law_r9 ++ (wsL_law_r10 ++ (wsL_law_r11 ++ (wsL_law_r12 ++ (wsL_law_r13 ++ (wsL_law_r14 ++ (wsL_law_r15 ++ (wsL_law_r16 ++ (wsL_law_r17 ++ (wsL_law_r18 ++ (wsL_law_r19 ++ (wsL_law_r20 ++ (wsL_law_r21 ++ (wsL_law_r22 ++ (wsL_law_r23 ++ (wsL_law_r24 ++ (wsL_law_r25 ++ wsL_law_r26))))))))))))))))))))))))) ++ wsX30 ++ wsX40 ++ wsX20 ++ wsX10 ++ wsX00 ++ ([] : List Cond)
abbrev vwCl : List vw_C := [(RX0, TX0, 8), (RX1, TX1, 3), (RX2, TX2, 5), (RX3, TX3, 4), (RX4, TX4, 7)]
end
section
set_option maxRecDepth 20000 in
theorem wsL_law_r1_in : ∀ w ∈ wsL_law_r1, w ∈ lw_tbl := fun w h => (goodIn_r (big := lw_tbl) _ [72, 73, 64, 505, 506, 68, 74, 75, 76, 77, 78, 79, 80, 81, 65, 179, 180, 178, 181, 159, 160, 67, 182, 83] (by decide +kernel) (by decide +kernel) w h).1
set_option maxRecDepth 20000 in
theorem wsL_law_r2_in : ∀ w ∈ wsL_law_r2, w ∈ lw_tbl := fun w h => (goodIn_r (big := lw_tbl) _ [84, 85, 86, 136, 88, 66, 139, 141, 135, 143, 146, 90, 91, 92, 93, 96, 99, 102, 105, 107, 111, 115, 162, 163] (by decide +kernel) (by decide +kernel) w h).1
set_option maxRecDepth 20000 in
theorem wsL_law_r3_in : ∀ w ∈ wsL_law_r3, w ∈ lw_tbl := fun w h => (goodIn_r (big := lw_tbl) _ [164, 165, 167, 169, 507, 508, 509, 510, 511, 512, 513, 515, 516, 192, 193, 194, 195, 198, 0, 199, 202, 1, 203, 204] (by decide +kernel) (by decide +kernel) w h).1
set_option maxRecDepth 20000 in
theorem wsL_law_r4_in : ∀ w ∈ wsL_law_r4, w ∈ lw_tbl := fun w h => (goodIn_r (big := lw_tbl) _ [206, 2, 207, 533, 534, 535, 536, 537, 539, 38, 540, 541, 542, 543, 544, 546, 39, 547, 548, 549, 550, 208, 209, 210] (by decide +kernel) (by decide +kernel) w h).1
set_option maxRecDepth 20000 in
theorem wsL_law_r5_in : ∀ w ∈ wsL_law_r5, w ∈ lw_tbl := fun w h => (goodIn_r (big := lw_tbl) _ [211, 214, 3, 215, 216, 217, 218, 219, 220, 221, 224, 4, 225, 551, 552, 553, 554, 555, 557, 40, 558, 559, 560, 561] (by decide +kernel) (by decide +kernel) w h).1
set_option maxRecDepth 20000 in
theorem wsL_law_r6_in : ∀ w ∈ wsL_law_r6, w ∈ lw_tbl := fun w h => (goodIn_r (big := lw_tbl) _ [562, 563, 564, 565, 566, 567, 568, 570, 41, 571, 572, 574, 42, 575, 576, 577, 578, 226, 227, 228, 229, 579, 580, 581] (by decide +kernel) (by decide +kernel) w h).1
set_option maxRecDepth 20000 in
theorem wsL_law_r7_in : ∀ w ∈ wsL_law_r7, w ∈ lw_tbl := fun w h => (goodIn_r (big := lw_tbl) _ [582, 231, 232, 233, 234, 583, 584, 585, 586, 235, 236, 237, 238, 587, 588, 589, 590, 239, 240, 241, 242, 591, 592, 593] (by decide +kernel) (by decide +kernel) w h).1
set_option maxRecDepth 20000 in
theorem wsL_law_r8_in : ∀ w ∈ wsL_law_r8, w ∈ lw_tbl := fun w h => (goodIn_r (big := lw_tbl) _ [594, 243, 244, 245, 246, 595, 596, 597, 598, 247, 248, 249, 250, 251, 253, 5, 254, 599, 600, 601, 602, 603, 605, 43] (by decide +kernel) (by decide +kernel) w h).1
set_option maxRecDepth 20000 in
theorem wsL_law_r9_in : ∀ w ∈ wsL_law_r9, w ∈ lw_tbl := fun w h => (goodIn_r (big := lw_tbl) _ [606, 255, 256, 257, 258, 607, 608, 609, 610, 259, 260, 261, 262, 611, 612, 613, 614, 263, 264, 265, 266, 615, 616, 617] (by decide +kernel) (by decide +kernel) w h).1
set_option maxRecDepth 20000 in
theorem wsL_law_r10_in : ∀ w ∈ wsL_law_r10, w ∈ lw_tbl := fun w h => (goodIn_r (big := lw_tbl) _ [618, 267, 268, 269, 270, 619, 620, 621, 622, 271, 272, 273, 274, 623, 624, 625, 626, 275, 276, 277, 278, 627, 628, 629] (by decide +kernel) (by decide +kernel) w h).1
set_option maxRecDepth 20000 in
theorem wsL_law_r11_in : ∀ w ∈ wsL_law_r11, w ∈ lw_tbl := fun w h => (goodIn_r (big := lw_tbl) _ [630, 279, 280, 281, 282, 285, 6, 286, 287, 631, 632, 633, 634, 635, 288, 289, 290, 291, 292, 294, 7, 295, 298, 8] (by decide +kernel) (by decide +kernel) w h).1
set_option maxRecDepth 20000 in
theorem wsL_law_r12_in : ∀ w ∈ wsL_law_r12, w ∈ lw_tbl := fun w h => (goodIn_r (big := lw_tbl) _ [299, 304, 305, 69, 306, 300, 302, 9, 303, 307, 309, 10, 310, 636, 637, 638, 639, 640, 642, 44, 643, 644, 646, 45] (by decide +kernel) (by decide +kernel) w h).1
set_option maxRecDepth 20000 in
theorem wsL_law_r13_in : ∀ w ∈ wsL_law_r13, w ∈ lw_tbl := fun w h => (goodIn_r (big := lw_tbl) _ [647, 648, 650, 46, 651, 652, 654, 47, 655, 311, 312, 313, 314, 317, 11, 318, 319, 321, 12, 322, 323, 325, 13, 326] (by decide +kernel) (by decide +kernel) w h).1
set_option maxRecDepth 20000 in
theorem wsL_law_r14_in : ∀ w ∈ wsL_law_r14, w ∈ lw_tbl := fun w h => (goodIn_r (big := lw_tbl) _ [327, 329, 14, 330, 656, 657, 658, 659, 660, 662, 48, 663, 514, 664, 666, 49, 667, 668, 670, 50, 671, 331, 332, 333] (by decide +kernel) (by decide +kernel) w h).1
set_option maxRecDepth 20000 in
theorem wsL_law_r15_in : ∀ w ∈ wsL_law_r15, w ∈ lw_tbl := fun w h => (goodIn_r (big := lw_tbl) _ [334, 672, 673, 674, 675, 335, 336, 337, 338, 341, 15, 342, 343, 345, 16, 346, 676, 677, 678, 679, 680, 682, 51, 683] (by decide +kernel) (by decide +kernel) w h).1
set_option maxRecDepth 20000 in
theorem wsL_law_r16_in : ∀ w ∈ wsL_law_r16, w ∈ lw_tbl := fun w h => (goodIn_r (big := lw_tbl) _ [347, 348, 349, 350, 351, 353, 17, 354, 355, 356, 70, 357, 358, 359, 360, 363, 18, 364, 369, 365, 366, 367, 372, 19] (by decide +kernel) (by decide +kernel) w h).1
set_option maxRecDepth 20000 in
theorem wsL_law_r17_in : ∀ w ∈ wsL_law_r17, w ∈ lw_tbl := fun w h => (goodIn_r (big := lw_tbl) _ [373, 374, 375, 377, 20, 378, 684, 685, 686, 687, 688, 690, 52, 691, 692, 693, 694, 695, 697, 53, 698, 699, 700, 701] (by decide +kernel) (by decide +kernel) w h).1
set_option maxRecDepth 20000 in
theorem wsL_law_r18_in : ∀ w ∈ wsL_law_r18, w ∈ lw_tbl := fun w h => (goodIn_r (big := lw_tbl) _ [702, 704, 54, 705, 379, 380, 381, 382, 385, 21, 386, 387, 389, 22, 390, 391, 393, 23, 394, 706, 707, 708, 709, 710] (by decide +kernel) (by decide +kernel) w h).1
set_option maxRecDepth 20000 in
theorem wsL_law_r19_in : ∀ w ∈ wsL_law_r19, w ∈ lw_tbl := fun w h => (goodIn_r (big := lw_tbl) _ [712, 55, 713, 395, 396, 397, 398, 401, 24, 402, 403, 406, 25, 407, 410, 26, 411, 412, 415, 27, 416, 714, 715, 716] (by decide +kernel) (by decide +kernel) w h).1
set_option maxRecDepth 20000 in
theorem wsL_law_r20_in : ∀ w ∈ wsL_law_r20, w ∈ lw_tbl := fun w h => (goodIn_r (big := lw_tbl) _ [717, 718, 720, 56, 721, 722, 724, 57, 725, 726, 728, 58, 729, 730, 732, 59, 733, 417, 418, 419, 420, 421, 424, 28] (by decide +kernel) (by decide +kernel) w h).1
set_option maxRecDepth 20000 in
theorem wsL_law_r21_in : ∀ w ∈ wsL_law_r21, w ∈ lw_tbl := fun w h => (goodIn_r (big := lw_tbl) _ [425, 734, 735, 736, 737, 426, 427, 428, 429, 432, 29, 433, 437, 30, 438, 441, 31, 442, 443, 738, 739, 740, 741, 742] (by decide +kernel) (by decide +kernel) w h).1
set_option maxRecDepth 20000 in
theorem wsL_law_r22_in : ∀ w ∈ wsL_law_r22, w ∈ lw_tbl := fun w h => (goodIn_r (big := lw_tbl) _ [744, 60, 745, 444, 445, 446, 447, 746, 747, 748, 749, 448, 449, 450, 451, 750, 751, 752, 753, 452, 453, 454, 455, 458] (by decide +kernel) (by decide +kernel) w h).1
set_option maxRecDepth 20000 in
theorem wsL_law_r23_in : ∀ w ∈ wsL_law_r23, w ∈ lw_tbl := fun w h => (goodIn_r (big := lw_tbl) _ [32, 459, 460, 462, 461, 71, 463, 465, 33, 466, 467, 469, 34, 470, 471, 473, 35, 474, 754, 755, 756, 757, 517, 758] (by decide +kernel) (by decide +kernel) w h).1
set_option maxRecDepth 20000 in
theorem wsL_law_r24_in : ∀ w ∈ wsL_law_r24, w ∈ lw_tbl := fun w h => (goodIn_r (big := lw_tbl) _ [760, 61, 761, 762, 764, 62, 765, 475, 476, 477, 478, 766, 767, 768, 769, 479, 480, 481, 482, 770, 771, 772, 773, 483] (by decide +kernel) (by decide +kernel) w h).1
set_option maxRecDepth 20000 in
theorem wsL_law_r25_in : ∀ w ∈ wsL_law_r25, w ∈ lw_tbl := fun w h => (goodIn_r (big := lw_tbl) _ [484, 485, 486, 774, 775, 776, 777, 487, 488, 489, 490, 493, 36, 494, 500, 497, 37, 498, 499, 778, 779, 780, 781, 501] (by decide +kernel) (by decide +kernel) w h).1
set_option maxRecDepth 20000 in
theorem wsL_law_r26_in : ∀ w ∈ wsL_law_r26, w ∈ lw_tbl := fun w h => (goodIn_r (big := lw_tbl) _ [502, 503, 504, 782, 783, 784, 785] (by decide +kernel) (by decide +kernel) w h).1
set_option maxRecDepth 20000 in
theorem inX0 : ∀ w ∈ wsX00, w ∈ lw_tbl := fun w h => (goodIn_r (big := lw_tbl) _ [118, 120, 122, 124, 126, 128, 130, 132] (by decide +kernel) (by decide +kernel) w h).1
set_option maxRecDepth 20000 in
theorem inX1 : ∀ w ∈ wsX10, w ∈ lw_tbl := fun w h => (goodIn_r (big := lw_tbl) _ [171, 173, 175] (by decide +kernel) (by decide +kernel) w h).1
set_option maxRecDepth 20000 in
theorem inX2 : ∀ w ∈ wsX20, w ∈ lw_tbl := fun w h => (goodIn_r (big := lw_tbl) _ [147, 149, 151, 153, 155] (by decide +kernel) (by decide +kernel) w h).1
set_option maxRecDepth 20000 in
theorem inX3 : ∀ w ∈ wsX30, w ∈ lw_tbl := fun w h => (goodIn_r (big := lw_tbl) _ [183, 185, 187, 189] (by decide +kernel) (by decide +kernel) w h).1
set_option maxRecDepth 20000 in
theorem inX4 : ∀ w ∈ wsX40, w ∈ lw_tbl := fun w h => (goodIn_r (big := lw_tbl) _ [518, 520, 522, 524, 526, 528, 530] (by decide +kernel) (by decide +kernel) w h).1
theorem wsL_law_in : ∀ w ∈ wsL_law, w ∈ lw_tbl := (fun w h => (List.mem_append.mp h).elim ((fun w h => (List.mem_append.mp h).elim ((fun w h => (List.mem_append.mp h).elim ((fun w h => (List.mem_append.mp h).elim ((fun w h => (List.mem_append.mp h).elim ((fun w h => (List.mem_append.mp h).elim ((fun w h => (List.mem_append.mp h).elim (wsL_law_r1_in w) ((fun w h => (List.mem_append.mp h).elim (wsL_law_r2_in w) ((fun w h => (List.mem_append.mp h).elim (wsL_law_r3_in w) ((fun w h => (List.mem_append.mp h).elim (wsL_law_r4_in w) ((fun w h => (List.mem_append.mp h).elim (wsL_law_r5_in w) ((fun w h => (List.mem_append.mp h).elim (wsL_law_r6_in w) ((fun w h => (List.mem_append.mp h).elim (wsL_law_r7_in w) ((fun w h => (List.mem_append.mp h).elim (wsL_law_r8_in w) ((fun w h => (List.mem_append.mp h).elim (wsL_law_r9_in w) ((fun w h => (List.mem_append.mp h).elim (wsL_law_r10_in w) ((fun w h => (List.mem_append.mp h).elim (wsL_law_r11_in w) ((fun w h => (List.mem_append.mp h).elim (wsL_law_r12_in w) ((fun w h => (List.mem_append.mp h).elim (wsL_law_r13_in w) ((fun w h => (List.mem_append.mp h).elim (wsL_law_r14_in w) ((fun w h => (List.mem_append.mp h).elim (wsL_law_r15_in w) ((fun w h => (List.mem_append.mp h).elim (wsL_law_r16_in w) ((fun w h => (List.mem_append.mp h).elim (wsL_law_r17_in w) ((fun w h => (List.mem_append.mp h).elim (wsL_law_r18_in w) ((fun w h => (List.mem_append.mp h).elim (wsL_law_r19_in w) ((fun w h => (List.mem_append.mp h).elim (wsL_law_r20_in w) ((fun w h => (List.mem_append.mp h).elim (wsL_law_r21_in w) ((fun w h => (List.mem_append.mp h).elim (wsL_law_r22_in w) ((fun w h => (List.mem_append.mp h).elim (wsL_law_r23_in w) ((fun w h => (List.mem_append.mp h).elim (wsL_law_r24_in w) ((fun w h => (List.mem_append.mp h).elim (wsL_law_r25_in w) (wsL_law_r26_in w)) w)) w)) w)) w)) w)) w)) w)) w)) w)) w)) w)) w)) w)) w)) w)) w)) w)) w)) w)) w)) w)) w)) w)) w)) w) (inX3 w)) w) (inX4 w)) w) (inX2 w)) w) (inX1 w)) w) (inX0 w)) w) ((fun _ h => absurd h List.not_mem_nil) w))
theorem inlX0 : ∀ w ∈ wsX00, w ∈ wsL_law := fun _ h => List.mem_append_left _ (List.mem_append_right _ h)
theorem inlX1 : ∀ w ∈ wsX10, w ∈ wsL_law := fun _ h => List.mem_append_left _ (List.mem_append_left _ (List.mem_append_right _ h))
theorem inlX2 : ∀ w ∈ wsX20, w ∈ wsL_law := fun _ h => List.mem_append_left _ (List.mem_append_left _ (List.mem_append_left _ (List.mem_append_right _ h)))
theorem inlX3 : ∀ w ∈ wsX30, w ∈ wsL_law := fun _ h => List.mem_append_left _ (List.mem_append_left _ (List.mem_append_left _ (List.mem_append_left _ (List.mem_append_left _ (List.mem_append_right _ h)))))
theorem inlX4 : ∀ w ∈ wsX40, w ∈ wsL_law := fun _ h => List.mem_append_left _ (List.mem_append_left _ (List.mem_append_left _ (List.mem_append_left _ (List.mem_append_right _ h))))
theorem inJ6 : ∀ w ∈ wsJ60, w ∈ lw_tbl := by decide +kernel
theorem inJ9 : ∀ w ∈ wsJ90, w ∈ lw_tbl := by decide +kernel
theorem inJ10 : ∀ w ∈ wsJ100, w ∈ lw_tbl := by decide +kernel
end
section
theorem dX0_init_0 : decode cX0_init 0 = .ok (.aload_n 0, 1) := by decide +kernel
theorem dX0_init_1 : decode cX0_init 1 = .ok (.invokespecial 3, 3) := by decide +kernel
theorem dX0_init_4 : decode cX0_init 4 = .ok (.aload_n 0, 1) := by decide +kernel
theorem dX0_init_5 : decode cX0_init 5 = .ok (.bipush 10, 2) := by decide +kernel
theorem dX0_init_7 : decode cX0_init 7 = .ok (.newarray .int, 2) := by decide +kernel
theorem dX0_init_9 : decode cX0_init 9 = .ok (.putfield 9, 3) := by decide +kernel
theorem dX0_init_12 : decode cX0_init 12 = .ok (.aload_n 0, 1) := by decide +kernel
theorem dX0_init_13 : decode cX0_init 13 = .ok (.bipush 10, 2) := by decide +kernel
theorem dX0_init_15 : decode cX0_init 15 = .ok (.newarray .int, 2) := by decide +kernel
theorem dX0_init_17 : decode cX0_init 17 = .ok (.putfield 15, 3) := by decide +kernel
theorem dX0_init_20 : decode cX0_init 20 = .ok (.aload_n 0, 1) := by decide +kernel
theorem dX0_init_21 : decode cX0_init 21 = .ok (.bipush 10, 2) := by decide +kernel
theorem dX0_init_23 : decode cX0_init 23 = .ok (.newarray .int, 2) := by decide +kernel
theorem dX0_init_25 : decode cX0_init 25 = .ok (.putfield 18, 3) := by decide +kernel
theorem dX0_init_28 : decode cX0_init 28 = .ok (.aload_n 0, 1) := by decide +kernel
theorem dX0_init_29 : decode cX0_init 29 = .ok (.bipush 10, 2) := by decide +kernel
theorem dX0_init_31 : decode cX0_init 31 = .ok (.newarray .int, 2) := by decide +kernel
theorem dX0_init_33 : decode cX0_init 33 = .ok (.putfield 21, 3) := by decide +kernel
theorem dX0_init_36 : decode cX0_init 36 = .ok (.aload_n 0, 1) := by decide +kernel
theorem dX0_init_37 : decode cX0_init 37 = .ok (.bipush 10, 2) := by decide +kernel
theorem dX0_init_39 : decode cX0_init 39 = .ok (.newarray .int, 2) := by decide +kernel
theorem dX0_init_41 : decode cX0_init 41 = .ok (.putfield 24, 3) := by decide +kernel
theorem dX0_init_44 : decode cX0_init 44 = .ok (.aload_n 0, 1) := by decide +kernel
theorem dX0_init_45 : decode cX0_init 45 = .ok (.iconst 0, 1) := by decide +kernel
theorem dX0_init_46 : decode cX0_init 46 = .ok (.putfield 27, 3) := by decide +kernel
theorem dX0_init_49 : decode cX0_init 49 = .ok (.aload_n 0, 1) := by decide +kernel
theorem dX0_init_50 : decode cX0_init 50 = .ok (.iconst 2, 1) := by decide +kernel
theorem dX0_init_51 : decode cX0_init 51 = .ok (.putfield 31, 3) := by decide +kernel
theorem dX0_init_54 : decode cX0_init 54 = .ok (.aload_n 0, 1) := by decide +kernel
theorem dX0_init_55 : decode cX0_init 55 = .ok (.iconst 3, 1) := by decide +kernel
theorem dX0_init_56 : decode cX0_init 56 = .ok (.newarray .int, 2) := by decide +kernel
theorem dX0_init_58 : decode cX0_init 58 = .ok (.putfield 34, 3) := by decide +kernel
theorem dX0_init_61 : decode cX0_init 61 = .ok (.return_, 1) := by decide +kernel
set_option maxRecDepth 20000 in
theorem ggX0_clear_X0_terminate : GoodIn wsX0_clear wsX0_terminate := goodIn_r _ [6, 7, 8, 9, 10, 11, 12, 13, 14, 15, 16] (by decide +kernel) (by decide +kernel)
set_option maxRecDepth 20000 in
theorem gX0_clear_X0_terminate : GoodIn wsX0_clear (wsV RX0 37 RX0 yX0_terminate wsX0_terminate) := goodIn_app (goodIn_of _ (by decide +kernel)) ggX0_clear_X0_terminate
theorem dX0_clear_0 : decode cX0_clear 0 = .ok (.aload_n 0, 1) := by decide +kernel
theorem dX0_clear_1 : decode cX0_clear 1 = .ok (.iconst 0, 1) := by decide +kernel
theorem dX0_clear_2 : decode cX0_clear 2 = .ok (.putfield 27, 3) := by decide +kernel
theorem dX0_clear_5 : decode cX0_clear 5 = .ok (.aload_n 0, 1) := by decide +kernel
theorem dX0_clear_6 : decode cX0_clear 6 = .ok (.iconst 2, 1) := by decide +kernel
theorem dX0_clear_7 : decode cX0_clear 7 = .ok (.iconst 0, 1) := by decide +kernel
theorem dX0_clear_8 : decode cX0_clear 8 = .ok (.iconst 0, 1) := by decide +kernel
theorem dX0_clear_9 : decode cX0_clear 9 = .ok (.iconst 0, 1) := by decide +kernel
theorem dX0_clear_10 : decode cX0_clear 10 = .ok (.invokevirtual 37, 3) := by decide +kernel
theorem dX0_clear_13 : decode cX0_clear 13 = .ok (.pop, 1) := by decide +kernel
theorem dX0_clear_14 : decode cX0_clear 14 = .ok (.return_, 1) := by decide +kernel
theorem dX0_append_0 : decode cX0_append 0 = .ok (.aload_n 0, 1) := by decide +kernel
theorem dX0_append_1 : decode cX0_append 1 = .ok (.getfield 27, 3) := by decide +kernel
theorem dX0_append_4 : decode cX0_append 4 = .ok (.bipush 10, 2) := by decide +kernel
theorem dX0_append_6 : decode cX0_append 6 = .ok (.if_icmp .lt 7, 3) := by decide +kernel
theorem dX0_append_9 : decode cX0_append 9 = .ok (.sipush (-1004), 3) := by decide +kernel
theorem dX0_append_12 : decode cX0_append 12 = .ok (.ireturn, 1) := by decide +kernel
theorem dX0_append_13 : decode cX0_append 13 = .ok (.aload_n 0, 1) := by decide +kernel
theorem dX0_append_14 : decode cX0_append 14 = .ok (.getfield 27, 3) := by decide +kernel
theorem dX0_append_17 : decode cX0_append 17 = .ok (.istore 6, 2) := by decide +kernel
theorem dX0_append_19 : decode cX0_append 19 = .ok (.aload_n 0, 1) := by decide +kernel
theorem dX0_append_20 : decode cX0_append 20 = .ok (.getfield 9, 3) := by decide +kernel
theorem dX0_append_23 : decode cX0_append 23 = .ok (.iload 6, 2) := by decide +kernel
theorem dX0_append_25 : decode cX0_append 25 = .ok (.iload_n 1, 1) := by decide +kernel
theorem dX0_append_26 : decode cX0_append 26 = .ok (.iastore, 1) := by decide +kernel
theorem dX0_append_27 : decode cX0_append 27 = .ok (.aload_n 0, 1) := by decide +kernel
theorem dX0_append_28 : decode cX0_append 28 = .ok (.getfield 15, 3) := by decide +kernel
theorem dX0_append_31 : decode cX0_append 31 = .ok (.iload 6, 2) := by decide +kernel
theorem dX0_append_33 : decode cX0_append 33 = .ok (.iload_n 2, 1) := by decide +kernel
theorem dX0_append_34 : decode cX0_append 34 = .ok (.iastore, 1) := by decide +kernel
theorem dX0_append_35 : decode cX0_append 35 = .ok (.aload_n 0, 1) := by decide +kernel
theorem dX0_append_36 : decode cX0_append 36 = .ok (.getfield 18, 3) := by decide +kernel
theorem dX0_append_39 : decode cX0_append 39 = .ok (.iload 6, 2) := by decide +kernel
theorem dX0_append_41 : decode cX0_append 41 = .ok (.iload_n 3, 1) := by decide +kernel
theorem dX0_append_42 : decode cX0_append 42 = .ok (.iastore, 1) := by decide +kernel
theorem dX0_append_43 : decode cX0_append 43 = .ok (.aload_n 0, 1) := by decide +kernel
theorem dX0_append_44 : decode cX0_append 44 = .ok (.getfield 21, 3) := by decide +kernel
theorem dX0_append_47 : decode cX0_append 47 = .ok (.iload 6, 2) := by decide +kernel
theorem dX0_append_49 : decode cX0_append 49 = .ok (.iload 4, 2) := by decide +kernel
theorem dX0_append_51 : decode cX0_append 51 = .ok (.iastore, 1) := by decide +kernel
theorem dX0_append_52 : decode cX0_append 52 = .ok (.aload_n 0, 1) := by decide +kernel
theorem dX0_append_53 : decode cX0_append 53 = .ok (.getfield 24, 3) := by decide +kernel
theorem dX0_append_56 : decode cX0_append 56 = .ok (.iload 6, 2) := by decide +kernel
theorem dX0_append_58 : decode cX0_append 58 = .ok (.iload 5, 2) := by decide +kernel
theorem dX0_append_60 : decode cX0_append 60 = .ok (.iastore, 1) := by decide +kernel
theorem dX0_append_61 : decode cX0_append 61 = .ok (.aload_n 0, 1) := by decide +kernel
theorem dX0_append_62 : decode cX0_append 62 = .ok (.dup, 1) := by decide +kernel
theorem dX0_append_63 : decode cX0_append 63 = .ok (.getfield 27, 3) := by decide +kernel
theorem dX0_append_66 : decode cX0_append 66 = .ok (.iconst 1, 1) := by decide +kernel
theorem dX0_append_67 : decode cX0_append 67 = .ok (.iadd, 1) := by decide +kernel
theorem dX0_append_68 : decode cX0_append 68 = .ok (.putfield 27, 3) := by decide +kernel
theorem dX0_append_71 : decode cX0_append 71 = .ok (.iload 6, 2) := by decide +kernel
theorem dX0_append_73 : decode cX0_append 73 = .ok (.ireturn, 1) := by decide +kernel
theorem dX0_terminate_0 : decode cX0_terminate 0 = .ok (.aload_n 0, 1) := by decide +kernel
theorem dX0_terminate_1 : decode cX0_terminate 1 = .ok (.getfield 31, 3) := by decide +kernel
theorem dX0_terminate_4 : decode cX0_terminate 4 = .ok (.istore 5, 2) := by decide +kernel
theorem dX0_terminate_6 : decode cX0_terminate 6 = .ok (.aload_n 0, 1) := by decide +kernel
theorem dX0_terminate_7 : decode cX0_terminate 7 = .ok (.iload_n 1, 1) := by decide +kernel
theorem dX0_terminate_8 : decode cX0_terminate 8 = .ok (.putfield 31, 3) := by decide +kernel
theorem dX0_terminate_11 : decode cX0_terminate 11 = .ok (.aload_n 0, 1) := by decide +kernel
theorem dX0_terminate_12 : decode cX0_terminate 12 = .ok (.getfield 34, 3) := by decide +kernel
theorem dX0_terminate_15 : decode cX0_terminate 15 = .ok (.iconst 0, 1) := by decide +kernel
theorem dX0_terminate_16 : decode cX0_terminate 16 = .ok (.iload_n 2, 1) := by decide +kernel
theorem dX0_terminate_17 : decode cX0_terminate 17 = .ok (.iastore, 1) := by decide +kernel
theorem dX0_terminate_18 : decode cX0_terminate 18 = .ok (.aload_n 0, 1) := by decide +kernel
theorem dX0_terminate_19 : decode cX0_terminate 19 = .ok (.getfield 34, 3) := by decide +kernel
theorem dX0_terminate_22 : decode cX0_terminate 22 = .ok (.iconst 1, 1) := by decide +kernel
theorem dX0_terminate_23 : decode cX0_terminate 23 = .ok (.iload_n 3, 1) := by decide +kernel
theorem dX0_terminate_24 : decode cX0_terminate 24 = .ok (.iastore, 1) := by decide +kernel
theorem dX0_terminate_25 : decode cX0_terminate 25 = .ok (.aload_n 0, 1) := by decide +kernel
theorem dX0_terminate_26 : decode cX0_terminate 26 = .ok (.getfield 34, 3) := by decide +kernel
theorem dX0_terminate_29 : decode cX0_terminate 29 = .ok (.iconst 2, 1) := by decide +kernel
theorem dX0_terminate_30 : decode cX0_terminate 30 = .ok (.iload 4, 2) := by decide +kernel
theorem dX0_terminate_32 : decode cX0_terminate 32 = .ok (.iastore, 1) := by decide +kernel
theorem dX0_terminate_33 : decode cX0_terminate 33 = .ok (.iload 5, 2) := by decide +kernel
theorem dX0_terminate_35 : decode cX0_terminate 35 = .ok (.ireturn, 1) := by decide +kernel
set_option maxRecDepth 20000 in
theorem ggX0_copyFrom_X0_appendTail : GoodIn wsX0_copyFrom wsX0_appendTail := goodIn_r _ [6, 1, 7, 8, 9, 10, 11, 12, 13, 14, 15, 16, 5, 17, 18, 19, 20, 21, 22, 23, 24, 25, 26, 27, 28, 29] (by decide +kernel) (by decide +kernel)
set_option maxRecDepth 20000 in
theorem gX0_copyFrom_X0_appendTail : GoodIn wsX0_copyFrom (wsV RX0 41 RX0 yX0_appendTail wsX0_appendTail) := goodIn_app (goodIn_of _ (by decide +kernel)) ggX0_copyFrom_X0_appendTail
theorem dX0_copyFrom_0 : decode cX0_copyFrom 0 = .ok (.aload_n 0, 1) := by decide +kernel
theorem dX0_copyFrom_1 : decode cX0_copyFrom 1 = .ok (.iconst 0, 1) := by decide +kernel
theorem dX0_copyFrom_2 : decode cX0_copyFrom 2 = .ok (.putfield 27, 3) := by decide +kernel
theorem dX0_copyFrom_5 : decode cX0_copyFrom 5 = .ok (.aload_n 0, 1) := by decide +kernel
theorem dX0_copyFrom_6 : decode cX0_copyFrom 6 = .ok (.aload_n 1, 1) := by decide +kernel
theorem dX0_copyFrom_7 : decode cX0_copyFrom 7 = .ok (.aload_n 1, 1) := by decide +kernel
theorem dX0_copyFrom_8 : decode cX0_copyFrom 8 = .ok (.getfield 27, 3) := by decide +kernel
theorem dX0_copyFrom_11 : decode cX0_copyFrom 11 = .ok (.invokevirtual 41, 3) := by decide +kernel
theorem dX0_copyFrom_14 : decode cX0_copyFrom 14 = .ok (.return_, 1) := by decide +kernel
set_option maxRecDepth 20000 in
theorem ggX0_appendTail_X0_append : GoodIn wsX0_appendTail wsX0_append := goodIn_r _ [13, 1, 2, 3, 4, 5, 6, 18, 19, 20, 21, 22, 23, 24, 25] (by decide +kernel) (by decide +kernel)
set_option maxRecDepth 20000 in
theorem gX0_appendTail_X0_append : GoodIn wsX0_appendTail (wsV RX0 45 RX0 yX0_append wsX0_append) := goodIn_app (goodIn_of _ (by decide +kernel)) ggX0_appendTail_X0_append
set_option maxRecDepth 20000 in
theorem ggX0_appendTail_X0_terminate : GoodIn wsX0_appendTail wsX0_terminate := goodIn_r _ [17, 7, 8, 18, 19, 20, 21, 22, 23, 24, 25] (by decide +kernel) (by decide +kernel)
set_option maxRecDepth 20000 in
theorem gX0_appendTail_X0_terminate : GoodIn wsX0_appendTail (wsV RX0 37 RX0 yX0_terminate wsX0_terminate) := goodIn_app (goodIn_of _ (by decide +kernel)) ggX0_appendTail_X0_terminate
theorem dX0_appendTail_0 : decode cX0_appendTail 0 = .ok (.aload_n 1, 1) := by decide +kernel
theorem dX0_appendTail_1 : decode cX0_appendTail 1 = .ok (.getfield 27, 3) := by decide +kernel
theorem dX0_appendTail_4 : decode cX0_appendTail 4 = .ok (.iload_n 2, 1) := by decide +kernel
theorem dX0_appendTail_5 : decode cX0_appendTail 5 = .ok (.isub, 1) := by decide +kernel
theorem dX0_appendTail_6 : decode cX0_appendTail 6 = .ok (.istore_n 3, 1) := by decide +kernel
theorem dX0_appendTail_7 : decode cX0_appendTail 7 = .ok (.iload_n 3, 1) := by decide +kernel
theorem dX0_appendTail_8 : decode cX0_appendTail 8 = .ok (.aload_n 1, 1) := by decide +kernel
theorem dX0_appendTail_9 : decode cX0_appendTail 9 = .ok (.getfield 27, 3) := by decide +kernel
theorem dX0_appendTail_12 : decode cX0_appendTail 12 = .ok (.if_icmp .ge 44, 3) := by decide +kernel
theorem dX0_appendTail_15 : decode cX0_appendTail 15 = .ok (.aload_n 0, 1) := by decide +kernel
theorem dX0_appendTail_16 : decode cX0_appendTail 16 = .ok (.aload_n 1, 1) := by decide +kernel
theorem dX0_appendTail_17 : decode cX0_appendTail 17 = .ok (.getfield 9, 3) := by decide +kernel
theorem dX0_appendTail_20 : decode cX0_appendTail 20 = .ok (.iload_n 3, 1) := by decide +kernel
theorem dX0_appendTail_21 : decode cX0_appendTail 21 = .ok (.iaload, 1) := by decide +kernel
theorem dX0_appendTail_22 : decode cX0_appendTail 22 = .ok (.aload_n 1, 1) := by decide +kernel
theorem dX0_appendTail_23 : decode cX0_appendTail 23 = .ok (.getfield 15, 3) := by decide +kernel
theorem dX0_appendTail_26 : decode cX0_appendTail 26 = .ok (.iload_n 3, 1) := by decide +kernel
theorem dX0_appendTail_27 : decode cX0_appendTail 27 = .ok (.iaload, 1) := by decide +kernel
theorem dX0_appendTail_28 : decode cX0_appendTail 28 = .ok (.aload_n 1, 1) := by decide +kernel
theorem dX0_appendTail_29 : decode cX0_appendTail 29 = .ok (.getfield 18, 3) := by decide +kernel
theorem dX0_appendTail_32 : decode cX0_appendTail 32 = .ok (.iload_n 3, 1) := by decide +kernel
theorem dX0_appendTail_33 : decode cX0_appendTail 33 = .ok (.iaload, 1) := by decide +kernel
theorem dX0_appendTail_34 : decode cX0_appendTail 34 = .ok (.aload_n 1, 1) := by decide +kernel
theorem dX0_appendTail_35 : decode cX0_appendTail 35 = .ok (.getfield 21, 3) := by decide +kernel
theorem dX0_appendTail_38 : decode cX0_appendTail 38 = .ok (.iload_n 3, 1) := by decide +kernel
theorem dX0_appendTail_39 : decode cX0_appendTail 39 = .ok (.iaload, 1) := by decide +kernel
theorem dX0_appendTail_40 : decode cX0_appendTail 40 = .ok (.aload_n 1, 1) := by decide +kernel
theorem dX0_appendTail_41 : decode cX0_appendTail 41 = .ok (.getfield 24, 3) := by decide +kernel
theorem dX0_appendTail_44 : decode cX0_appendTail 44 = .ok (.iload_n 3, 1) := by decide +kernel
theorem dX0_appendTail_45 : decode cX0_appendTail 45 = .ok (.iaload, 1) := by decide +kernel
theorem dX0_appendTail_46 : decode cX0_appendTail 46 = .ok (.invokevirtual 45, 3) := by decide +kernel
theorem dX0_appendTail_49 : decode cX0_appendTail 49 = .ok (.pop, 1) := by decide +kernel
theorem dX0_appendTail_50 : decode cX0_appendTail 50 = .ok (.iinc 3 1, 3) := by decide +kernel
theorem dX0_appendTail_53 : decode cX0_appendTail 53 = .ok (.goto (-46), 3) := by decide +kernel
theorem dX0_appendTail_56 : decode cX0_appendTail 56 = .ok (.aload_n 0, 1) := by decide +kernel
theorem dX0_appendTail_57 : decode cX0_appendTail 57 = .ok (.aload_n 1, 1) := by decide +kernel
theorem dX0_appendTail_58 : decode cX0_appendTail 58 = .ok (.getfield 31, 3) := by decide +kernel
theorem dX0_appendTail_61 : decode cX0_appendTail 61 = .ok (.aload_n 1, 1) := by decide +kernel
theorem dX0_appendTail_62 : decode cX0_appendTail 62 = .ok (.getfield 34, 3) := by decide +kernel
theorem dX0_appendTail_65 : decode cX0_appendTail 65 = .ok (.iconst 0, 1) := by decide +kernel
theorem dX0_appendTail_66 : decode cX0_appendTail 66 = .ok (.iaload, 1) := by decide +kernel
theorem dX0_appendTail_67 : decode cX0_appendTail 67 = .ok (.aload_n 1, 1) := by decide +kernel
theorem dX0_appendTail_68 : decode cX0_appendTail 68 = .ok (.getfield 34, 3) := by decide +kernel
theorem dX0_appendTail_71 : decode cX0_appendTail 71 = .ok (.iconst 1, 1) := by decide +kernel
theorem dX0_appendTail_72 : decode cX0_appendTail 72 = .ok (.iaload, 1) := by decide +kernel
theorem dX0_appendTail_73 : decode cX0_appendTail 73 = .ok (.aload_n 1, 1) := by decide +kernel
theorem dX0_appendTail_74 : decode cX0_appendTail 74 = .ok (.getfield 34, 3) := by decide +kernel
theorem dX0_appendTail_77 : decode cX0_appendTail 77 = .ok (.iconst 2, 1) := by decide +kernel
theorem dX0_appendTail_78 : decode cX0_appendTail 78 = .ok (.iaload, 1) := by decide +kernel
theorem dX0_appendTail_79 : decode cX0_appendTail 79 = .ok (.invokevirtual 37, 3) := by decide +kernel
theorem dX0_appendTail_82 : decode cX0_appendTail 82 = .ok (.pop, 1) := by decide +kernel
theorem dX0_appendTail_83 : decode cX0_appendTail 83 = .ok (.return_, 1) := by decide +kernel
theorem dX0_uniteLines_0 : decode cX0_uniteLines 0 = .ok (.iconst 1, 1) := by decide +kernel
theorem dX0_uniteLines_1 : decode cX0_uniteLines 1 = .ok (.istore_n 3, 1) := by decide +kernel
theorem dX0_uniteLines_2 : decode cX0_uniteLines 2 = .ok (.iload_n 3, 1) := by decide +kernel
theorem dX0_uniteLines_3 : decode cX0_uniteLines 3 = .ok (.iload_n 2, 1) := by decide +kernel
theorem dX0_uniteLines_4 : decode cX0_uniteLines 4 = .ok (.if_icmp .gt 34, 3) := by decide +kernel
theorem dX0_uniteLines_7 : decode cX0_uniteLines 7 = .ok (.aload_n 0, 1) := by decide +kernel
theorem dX0_uniteLines_8 : decode cX0_uniteLines 8 = .ok (.getfield 24, 3) := by decide +kernel
theorem dX0_uniteLines_11 : decode cX0_uniteLines 11 = .ok (.aload_n 0, 1) := by decide +kernel
theorem dX0_uniteLines_12 : decode cX0_uniteLines 12 = .ok (.getfield 27, 3) := by decide +kernel
theorem dX0_uniteLines_15 : decode cX0_uniteLines 15 = .ok (.iload_n 3, 1) := by decide +kernel
theorem dX0_uniteLines_16 : decode cX0_uniteLines 16 = .ok (.isub, 1) := by decide +kernel
theorem dX0_uniteLines_17 : decode cX0_uniteLines 17 = .ok (.dup2, 1) := by decide +kernel
theorem dX0_uniteLines_18 : decode cX0_uniteLines 18 = .ok (.iaload, 1) := by decide +kernel
theorem dX0_uniteLines_19 : decode cX0_uniteLines 19 = .ok (.aload_n 1, 1) := by decide +kernel
theorem dX0_uniteLines_20 : decode cX0_uniteLines 20 = .ok (.getfield 24, 3) := by decide +kernel
theorem dX0_uniteLines_23 : decode cX0_uniteLines 23 = .ok (.aload_n 1, 1) := by decide +kernel
theorem dX0_uniteLines_24 : decode cX0_uniteLines 24 = .ok (.getfield 27, 3) := by decide +kernel
theorem dX0_uniteLines_27 : decode cX0_uniteLines 27 = .ok (.iload_n 3, 1) := by decide +kernel
theorem dX0_uniteLines_28 : decode cX0_uniteLines 28 = .ok (.isub, 1) := by decide +kernel
theorem dX0_uniteLines_29 : decode cX0_uniteLines 29 = .ok (.iaload, 1) := by decide +kernel
theorem dX0_uniteLines_30 : decode cX0_uniteLines 30 = .ok (.ior, 1) := by decide +kernel
theorem dX0_uniteLines_31 : decode cX0_uniteLines 31 = .ok (.iastore, 1) := by decide +kernel
theorem dX0_uniteLines_32 : decode cX0_uniteLines 32 = .ok (.iinc 3 1, 3) := by decide +kernel
theorem dX0_uniteLines_35 : decode cX0_uniteLines 35 = .ok (.goto (-33), 3) := by decide +kernel
theorem dX0_uniteLines_38 : decode cX0_uniteLines 38 = .ok (.return_, 1) := by decide +kernel
set_option maxRecDepth 20000 in
theorem ggX0_replaceTailByJump_X0_terminate : GoodIn wsX0_replaceTailByJump wsX0_terminate := goodIn_r _ [6, 7, 8, 9, 10, 11, 12, 13, 14, 15, 16] (by decide +kernel) (by decide +kernel)
set_option maxRecDepth 20000 in
theorem gX0_replaceTailByJump_X0_terminate : GoodIn wsX0_replaceTailByJump (wsV RX0 37 RX0 yX0_terminate wsX0_terminate) := goodIn_app (goodIn_of _ (by decide +kernel)) ggX0_replaceTailByJump_X0_terminate
theorem dX0_replaceTailByJump_0 : decode cX0_replaceTailByJump 0 = .ok (.aload_n 0, 1) := by decide +kernel
theorem dX0_replaceTailByJump_1 : decode cX0_replaceTailByJump 1 = .ok (.dup, 1) := by decide +kernel
theorem dX0_replaceTailByJump_2 : decode cX0_replaceTailByJump 2 = .ok (.getfield 27, 3) := by decide +kernel
theorem dX0_replaceTailByJump_5 : decode cX0_replaceTailByJump 5 = .ok (.iload_n 1, 1) := by decide +kernel
theorem dX0_replaceTailByJump_6 : decode cX0_replaceTailByJump 6 = .ok (.isub, 1) := by decide +kernel
theorem dX0_replaceTailByJump_7 : decode cX0_replaceTailByJump 7 = .ok (.putfield 27, 3) := by decide +kernel
theorem dX0_replaceTailByJump_10 : decode cX0_replaceTailByJump 10 = .ok (.aload_n 0, 1) := by decide +kernel
theorem dX0_replaceTailByJump_11 : decode cX0_replaceTailByJump 11 = .ok (.iconst 0, 1) := by decide +kernel
theorem dX0_replaceTailByJump_12 : decode cX0_replaceTailByJump 12 = .ok (.iload_n 2, 1) := by decide +kernel
theorem dX0_replaceTailByJump_13 : decode cX0_replaceTailByJump 13 = .ok (.iconst 0, 1) := by decide +kernel
theorem dX0_replaceTailByJump_14 : decode cX0_replaceTailByJump 14 = .ok (.iconst 0, 1) := by decide +kernel
theorem dX0_replaceTailByJump_15 : decode cX0_replaceTailByJump 15 = .ok (.invokevirtual 37, 3) := by decide +kernel
theorem dX0_replaceTailByJump_18 : decode cX0_replaceTailByJump 18 = .ok (.pop, 1) := by decide +kernel
theorem dX0_replaceTailByJump_19 : decode cX0_replaceTailByJump 19 = .ok (.return_, 1) := by decide +kernel
set_option maxRecDepth 20000 in
theorem ggX0_replaceTailByParameter_X0_replaceTailByJump : GoodIn wsX0_replaceTailByParameter wsX0_replaceTailByJump := goodIn_r _ [8, 2, 9, 10, 11, 7, 12, 13, 14, 22, 23, 24, 25, 26, 27, 28, 29] (by decide +kernel) (by decide +kernel)
set_option maxRecDepth 20000 in
theorem gX0_replaceTailByParameter_X0_replaceTailByJump : GoodIn wsX0_replaceTailByParameter (wsV RX0 49 RX0 yX0_replaceTailByJump wsX0_replaceTailByJump) := goodIn_app (goodIn_of _ (by decide +kernel)) ggX0_replaceTailByParameter_X0_replaceTailByJump
set_option maxRecDepth 20000 in
theorem ggX0_replaceTailByParameter_X0_append : GoodIn wsX0_replaceTailByParameter wsX0_append := goodIn_r _ [18, 2, 19, 20, 1, 21, 3, 22, 23, 24, 25, 26, 27, 28, 29] (by decide +kernel) (by decide +kernel)
set_option maxRecDepth 20000 in
theorem gX0_replaceTailByParameter_X0_append : GoodIn wsX0_replaceTailByParameter (wsV RX0 45 RX0 yX0_append wsX0_append) := goodIn_app (goodIn_of _ (by decide +kernel)) ggX0_replaceTailByParameter_X0_append
theorem dX0_replaceTailByParameter_0 : decode cX0_replaceTailByParameter 0 = .ok (.aload_n 0, 1) := by decide +kernel
theorem dX0_replaceTailByParameter_1 : decode cX0_replaceTailByParameter 1 = .ok (.getfield 18, 3) := by decide +kernel
theorem dX0_replaceTailByParameter_4 : decode cX0_replaceTailByParameter 4 = .ok (.aload_n 0, 1) := by decide +kernel
theorem dX0_replaceTailByParameter_5 : decode cX0_replaceTailByParameter 5 = .ok (.getfield 27, 3) := by decide +kernel
theorem dX0_replaceTailByParameter_8 : decode cX0_replaceTailByParameter 8 = .ok (.iload_n 2, 1) := by decide +kernel
theorem dX0_replaceTailByParameter_9 : decode cX0_replaceTailByParameter 9 = .ok (.isub, 1) := by decide +kernel
theorem dX0_replaceTailByParameter_10 : decode cX0_replaceTailByParameter 10 = .ok (.iaload, 1) := by decide +kernel
theorem dX0_replaceTailByParameter_11 : decode cX0_replaceTailByParameter 11 = .ok (.istore 4, 2) := by decide +kernel
theorem dX0_replaceTailByParameter_13 : decode cX0_replaceTailByParameter 13 = .ok (.aload_n 0, 1) := by decide +kernel
theorem dX0_replaceTailByParameter_14 : decode cX0_replaceTailByParameter 14 = .ok (.getfield 24, 3) := by decide +kernel
theorem dX0_replaceTailByParameter_17 : decode cX0_replaceTailByParameter 17 = .ok (.aload_n 0, 1) := by decide +kernel
theorem dX0_replaceTailByParameter_18 : decode cX0_replaceTailByParameter 18 = .ok (.getfield 27, 3) := by decide +kernel
theorem dX0_replaceTailByParameter_21 : decode cX0_replaceTailByParameter 21 = .ok (.iload_n 2, 1) := by decide +kernel
theorem dX0_replaceTailByParameter_22 : decode cX0_replaceTailByParameter 22 = .ok (.isub, 1) := by decide +kernel
theorem dX0_replaceTailByParameter_23 : decode cX0_replaceTailByParameter 23 = .ok (.iaload, 1) := by decide +kernel
theorem dX0_replaceTailByParameter_24 : decode cX0_replaceTailByParameter 24 = .ok (.istore 5, 2) := by decide +kernel
theorem dX0_replaceTailByParameter_26 : decode cX0_replaceTailByParameter 26 = .ok (.aload_n 0, 1) := by decide +kernel
theorem dX0_replaceTailByParameter_27 : decode cX0_replaceTailByParameter 27 = .ok (.iload_n 1, 1) := by decide +kernel
theorem dX0_replaceTailByParameter_28 : decode cX0_replaceTailByParameter 28 = .ok (.iload_n 3, 1) := by decide +kernel
theorem dX0_replaceTailByParameter_29 : decode cX0_replaceTailByParameter 29 = .ok (.invokevirtual 49, 3) := by decide +kernel
theorem dX0_replaceTailByParameter_32 : decode cX0_replaceTailByParameter 32 = .ok (.aload_n 0, 1) := by decide +kernel
theorem dX0_replaceTailByParameter_33 : decode cX0_replaceTailByParameter 33 = .ok (.iconst 0, 1) := by decide +kernel
theorem dX0_replaceTailByParameter_34 : decode cX0_replaceTailByParameter 34 = .ok (.bipush 7, 2) := by decide +kernel
theorem dX0_replaceTailByParameter_36 : decode cX0_replaceTailByParameter 36 = .ok (.iload 4, 2) := by decide +kernel
theorem dX0_replaceTailByParameter_38 : decode cX0_replaceTailByParameter 38 = .ok (.iconst 0, 1) := by decide +kernel
theorem dX0_replaceTailByParameter_39 : decode cX0_replaceTailByParameter 39 = .ok (.iload 5, 2) := by decide +kernel
theorem dX0_replaceTailByParameter_41 : decode cX0_replaceTailByParameter 41 = .ok (.invokevirtual 45, 3) := by decide +kernel
theorem dX0_replaceTailByParameter_44 : decode cX0_replaceTailByParameter 44 = .ok (.pop, 1) := by decide +kernel
theorem dX0_replaceTailByParameter_45 : decode cX0_replaceTailByParameter 45 = .ok (.return_, 1) := by decide +kernel
theorem dX0_takeParameterAt_0 : decode cX0_takeParameterAt 0 = .ok (.aload_n 0, 1) := by decide +kernel
theorem dX0_takeParameterAt_1 : decode cX0_takeParameterAt 1 = .ok (.getfield 9, 3) := by decide +kernel
theorem dX0_takeParameterAt_4 : decode cX0_takeParameterAt 4 = .ok (.aload_n 0, 1) := by decide +kernel
theorem dX0_takeParameterAt_5 : decode cX0_takeParameterAt 5 = .ok (.getfield 27, 3) := by decide +kernel
theorem dX0_takeParameterAt_8 : decode cX0_takeParameterAt 8 = .ok (.iload_n 1, 1) := by decide +kernel
theorem dX0_takeParameterAt_9 : decode cX0_takeParameterAt 9 = .ok (.isub, 1) := by decide +kernel
theorem dX0_takeParameterAt_10 : decode cX0_takeParameterAt 10 = .ok (.iconst 1, 1) := by decide +kernel
theorem dX0_takeParameterAt_11 : decode cX0_takeParameterAt 11 = .ok (.iastore, 1) := by decide +kernel
theorem dX0_takeParameterAt_12 : decode cX0_takeParameterAt 12 = .ok (.aload_n 0, 1) := by decide +kernel
theorem dX0_takeParameterAt_13 : decode cX0_takeParameterAt 13 = .ok (.getfield 18, 3) := by decide +kernel
theorem dX0_takeParameterAt_16 : decode cX0_takeParameterAt 16 = .ok (.aload_n 0, 1) := by decide +kernel
theorem dX0_takeParameterAt_17 : decode cX0_takeParameterAt 17 = .ok (.getfield 27, 3) := by decide +kernel
theorem dX0_takeParameterAt_20 : decode cX0_takeParameterAt 20 = .ok (.iload_n 1, 1) := by decide +kernel
theorem dX0_takeParameterAt_21 : decode cX0_takeParameterAt 21 = .ok (.isub, 1) := by decide +kernel
theorem dX0_takeParameterAt_22 : decode cX0_takeParameterAt 22 = .ok (.bipush 7, 2) := by decide +kernel
theorem dX0_takeParameterAt_24 : decode cX0_takeParameterAt 24 = .ok (.iastore, 1) := by decide +kernel
theorem dX0_takeParameterAt_25 : decode cX0_takeParameterAt 25 = .ok (.return_, 1) := by decide +kernel
theorem dX0_hashOfTail_0 : decode cX0_hashOfTail 0 = .ok (.bipush 17, 2) := by decide +kernel
theorem dX0_hashOfTail_2 : decode cX0_hashOfTail 2 = .ok (.istore_n 2, 1) := by decide +kernel
theorem dX0_hashOfTail_3 : decode cX0_hashOfTail 3 = .ok (.aload_n 0, 1) := by decide +kernel
theorem dX0_hashOfTail_4 : decode cX0_hashOfTail 4 = .ok (.getfield 27, 3) := by decide +kernel
theorem dX0_hashOfTail_7 : decode cX0_hashOfTail 7 = .ok (.iload_n 1, 1) := by decide +kernel
theorem dX0_hashOfTail_8 : decode cX0_hashOfTail 8 = .ok (.isub, 1) := by decide +kernel
theorem dX0_hashOfTail_9 : decode cX0_hashOfTail 9 = .ok (.istore_n 3, 1) := by decide +kernel
theorem dX0_hashOfTail_10 : decode cX0_hashOfTail 10 = .ok (.iload_n 3, 1) := by decide +kernel
theorem dX0_hashOfTail_11 : decode cX0_hashOfTail 11 = .ok (.aload_n 0, 1) := by decide +kernel
theorem dX0_hashOfTail_12 : decode cX0_hashOfTail 12 = .ok (.getfield 27, 3) := by decide +kernel
theorem dX0_hashOfTail_15 : decode cX0_hashOfTail 15 = .ok (.if_icmp .ge 57, 3) := by decide +kernel
theorem dX0_hashOfTail_18 : decode cX0_hashOfTail 18 = .ok (.bipush 31, 2) := by decide +kernel
theorem dX0_hashOfTail_20 : decode cX0_hashOfTail 20 = .ok (.iload_n 2, 1) := by decide +kernel
theorem dX0_hashOfTail_21 : decode cX0_hashOfTail 21 = .ok (.imul, 1) := by decide +kernel
theorem dX0_hashOfTail_22 : decode cX0_hashOfTail 22 = .ok (.aload_n 0, 1) := by decide +kernel
theorem dX0_hashOfTail_23 : decode cX0_hashOfTail 23 = .ok (.getfield 9, 3) := by decide +kernel
theorem dX0_hashOfTail_26 : decode cX0_hashOfTail 26 = .ok (.iload_n 3, 1) := by decide +kernel
theorem dX0_hashOfTail_27 : decode cX0_hashOfTail 27 = .ok (.iaload, 1) := by decide +kernel
theorem dX0_hashOfTail_28 : decode cX0_hashOfTail 28 = .ok (.iadd, 1) := by decide +kernel
theorem dX0_hashOfTail_29 : decode cX0_hashOfTail 29 = .ok (.istore_n 2, 1) := by decide +kernel
theorem dX0_hashOfTail_30 : decode cX0_hashOfTail 30 = .ok (.bipush 31, 2) := by decide +kernel
theorem dX0_hashOfTail_32 : decode cX0_hashOfTail 32 = .ok (.iload_n 2, 1) := by decide +kernel
theorem dX0_hashOfTail_33 : decode cX0_hashOfTail 33 = .ok (.imul, 1) := by decide +kernel
theorem dX0_hashOfTail_34 : decode cX0_hashOfTail 34 = .ok (.aload_n 0, 1) := by decide +kernel
theorem dX0_hashOfTail_35 : decode cX0_hashOfTail 35 = .ok (.getfield 15, 3) := by decide +kernel
theorem dX0_hashOfTail_38 : decode cX0_hashOfTail 38 = .ok (.iload_n 3, 1) := by decide +kernel
theorem dX0_hashOfTail_39 : decode cX0_hashOfTail 39 = .ok (.iaload, 1) := by decide +kernel
theorem dX0_hashOfTail_40 : decode cX0_hashOfTail 40 = .ok (.iadd, 1) := by decide +kernel
theorem dX0_hashOfTail_41 : decode cX0_hashOfTail 41 = .ok (.istore_n 2, 1) := by decide +kernel
theorem dX0_hashOfTail_42 : decode cX0_hashOfTail 42 = .ok (.bipush 31, 2) := by decide +kernel
theorem dX0_hashOfTail_44 : decode cX0_hashOfTail 44 = .ok (.iload_n 2, 1) := by decide +kernel
theorem dX0_hashOfTail_45 : decode cX0_hashOfTail 45 = .ok (.imul, 1) := by decide +kernel
theorem dX0_hashOfTail_46 : decode cX0_hashOfTail 46 = .ok (.aload_n 0, 1) := by decide +kernel
theorem dX0_hashOfTail_47 : decode cX0_hashOfTail 47 = .ok (.getfield 18, 3) := by decide +kernel
theorem dX0_hashOfTail_50 : decode cX0_hashOfTail 50 = .ok (.iload_n 3, 1) := by decide +kernel
theorem dX0_hashOfTail_51 : decode cX0_hashOfTail 51 = .ok (.iaload, 1) := by decide +kernel
theorem dX0_hashOfTail_52 : decode cX0_hashOfTail 52 = .ok (.iadd, 1) := by decide +kernel
theorem dX0_hashOfTail_53 : decode cX0_hashOfTail 53 = .ok (.istore_n 2, 1) := by decide +kernel
theorem dX0_hashOfTail_54 : decode cX0_hashOfTail 54 = .ok (.bipush 31, 2) := by decide +kernel
theorem dX0_hashOfTail_56 : decode cX0_hashOfTail 56 = .ok (.iload_n 2, 1) := by decide +kernel
theorem dX0_hashOfTail_57 : decode cX0_hashOfTail 57 = .ok (.imul, 1) := by decide +kernel
theorem dX0_hashOfTail_58 : decode cX0_hashOfTail 58 = .ok (.aload_n 0, 1) := by decide +kernel
theorem dX0_hashOfTail_59 : decode cX0_hashOfTail 59 = .ok (.getfield 21, 3) := by decide +kernel
theorem dX0_hashOfTail_62 : decode cX0_hashOfTail 62 = .ok (.iload_n 3, 1) := by decide +kernel
theorem dX0_hashOfTail_63 : decode cX0_hashOfTail 63 = .ok (.iaload, 1) := by decide +kernel
theorem dX0_hashOfTail_64 : decode cX0_hashOfTail 64 = .ok (.iadd, 1) := by decide +kernel
theorem dX0_hashOfTail_65 : decode cX0_hashOfTail 65 = .ok (.istore_n 2, 1) := by decide +kernel
theorem dX0_hashOfTail_66 : decode cX0_hashOfTail 66 = .ok (.iinc 3 1, 3) := by decide +kernel
theorem dX0_hashOfTail_69 : decode cX0_hashOfTail 69 = .ok (.goto (-59), 3) := by decide +kernel
theorem dX0_hashOfTail_72 : decode cX0_hashOfTail 72 = .ok (.bipush 31, 2) := by decide +kernel
theorem dX0_hashOfTail_74 : decode cX0_hashOfTail 74 = .ok (.iload_n 2, 1) := by decide +kernel
theorem dX0_hashOfTail_75 : decode cX0_hashOfTail 75 = .ok (.imul, 1) := by decide +kernel
theorem dX0_hashOfTail_76 : decode cX0_hashOfTail 76 = .ok (.aload_n 0, 1) := by decide +kernel
theorem dX0_hashOfTail_77 : decode cX0_hashOfTail 77 = .ok (.getfield 31, 3) := by decide +kernel
theorem dX0_hashOfTail_80 : decode cX0_hashOfTail 80 = .ok (.iadd, 1) := by decide +kernel
theorem dX0_hashOfTail_81 : decode cX0_hashOfTail 81 = .ok (.istore_n 2, 1) := by decide +kernel
theorem dX0_hashOfTail_82 : decode cX0_hashOfTail 82 = .ok (.iconst 0, 1) := by decide +kernel
theorem dX0_hashOfTail_83 : decode cX0_hashOfTail 83 = .ok (.istore_n 3, 1) := by decide +kernel
theorem dX0_hashOfTail_84 : decode cX0_hashOfTail 84 = .ok (.iload_n 3, 1) := by decide +kernel
theorem dX0_hashOfTail_85 : decode cX0_hashOfTail 85 = .ok (.iconst 3, 1) := by decide +kernel
theorem dX0_hashOfTail_86 : decode cX0_hashOfTail 86 = .ok (.if_icmp .ge 21, 3) := by decide +kernel
theorem dX0_hashOfTail_89 : decode cX0_hashOfTail 89 = .ok (.bipush 31, 2) := by decide +kernel
theorem dX0_hashOfTail_91 : decode cX0_hashOfTail 91 = .ok (.iload_n 2, 1) := by decide +kernel
theorem dX0_hashOfTail_92 : decode cX0_hashOfTail 92 = .ok (.imul, 1) := by decide +kernel
theorem dX0_hashOfTail_93 : decode cX0_hashOfTail 93 = .ok (.aload_n 0, 1) := by decide +kernel
theorem dX0_hashOfTail_94 : decode cX0_hashOfTail 94 = .ok (.getfield 34, 3) := by decide +kernel
theorem dX0_hashOfTail_97 : decode cX0_hashOfTail 97 = .ok (.iload_n 3, 1) := by decide +kernel
theorem dX0_hashOfTail_98 : decode cX0_hashOfTail 98 = .ok (.iaload, 1) := by decide +kernel
theorem dX0_hashOfTail_99 : decode cX0_hashOfTail 99 = .ok (.iadd, 1) := by decide +kernel
theorem dX0_hashOfTail_100 : decode cX0_hashOfTail 100 = .ok (.istore_n 2, 1) := by decide +kernel
theorem dX0_hashOfTail_101 : decode cX0_hashOfTail 101 = .ok (.iinc 3 1, 3) := by decide +kernel
theorem dX0_hashOfTail_104 : decode cX0_hashOfTail 104 = .ok (.goto (-20), 3) := by decide +kernel
theorem dX0_hashOfTail_107 : decode cX0_hashOfTail 107 = .ok (.iload_n 2, 1) := by decide +kernel
theorem dX0_hashOfTail_108 : decode cX0_hashOfTail 108 = .ok (.ldc 53, 2) := by decide +kernel
theorem dX0_hashOfTail_110 : decode cX0_hashOfTail 110 = .ok (.iand, 1) := by decide +kernel
theorem dX0_hashOfTail_111 : decode cX0_hashOfTail 111 = .ok (.ireturn, 1) := by decide +kernel
set_option maxRecDepth 20000 in
theorem ggX0_tailSharedWith_X0_hasTerminatorOf : GoodIn wsX0_tailSharedWith wsX0_hasTerminatorOf := goodIn_r _ [10, 11, 12, 21, 22, 23, 24, 25, 26, 27, 28] (by decide +kernel) (by decide +kernel)
set_option maxRecDepth 20000 in
theorem gX0_tailSharedWith_X0_hasTerminatorOf : GoodIn wsX0_tailSharedWith (wsV RX0 54 RX0 yX0_hasTerminatorOf wsX0_hasTerminatorOf) := goodIn_app (goodIn_of _ (by decide +kernel)) ggX0_tailSharedWith_X0_hasTerminatorOf
set_option maxRecDepth 20000 in
theorem ggX0_tailSharedWith_X0_isEqualAt : GoodIn wsX0_tailSharedWith wsX0_isEqualAt := goodIn_r _ [16, 1, 17, 18, 19, 20, 21, 22, 23, 24, 25, 26, 27, 28] (by decide +kernel) (by decide +kernel)
set_option maxRecDepth 20000 in
theorem gX0_tailSharedWith_X0_isEqualAt : GoodIn wsX0_tailSharedWith (wsV RX0 64 RX0 yX0_isEqualAt wsX0_isEqualAt) := goodIn_app (goodIn_of _ (by decide +kernel)) ggX0_tailSharedWith_X0_isEqualAt
theorem dX0_tailSharedWith_0 : decode cX0_tailSharedWith 0 = .ok (.aload_n 0, 1) := by decide +kernel
theorem dX0_tailSharedWith_1 : decode cX0_tailSharedWith 1 = .ok (.aload_n 1, 1) := by decide +kernel
theorem dX0_tailSharedWith_2 : decode cX0_tailSharedWith 2 = .ok (.invokevirtual 54, 3) := by decide +kernel
theorem dX0_tailSharedWith_5 : decode cX0_tailSharedWith 5 = .ok (.ifCond .ne 7, 3) := by decide +kernel
theorem dX0_tailSharedWith_8 : decode cX0_tailSharedWith 8 = .ok (.sipush (-1005), 3) := by decide +kernel
theorem dX0_tailSharedWith_11 : decode cX0_tailSharedWith 11 = .ok (.ireturn, 1) := by decide +kernel
theorem dX0_tailSharedWith_12 : decode cX0_tailSharedWith 12 = .ok (.aload_n 0, 1) := by decide +kernel
theorem dX0_tailSharedWith_13 : decode cX0_tailSharedWith 13 = .ok (.getfield 27, 3) := by decide +kernel
theorem dX0_tailSharedWith_16 : decode cX0_tailSharedWith 16 = .ok (.aload_n 1, 1) := by decide +kernel
theorem dX0_tailSharedWith_17 : decode cX0_tailSharedWith 17 = .ok (.getfield 27, 3) := by decide +kernel
theorem dX0_tailSharedWith_20 : decode cX0_tailSharedWith 20 = .ok (.invokestatic 58, 3) := by decide +kernel
theorem dX0_tailSharedWith_23 : decode cX0_tailSharedWith 23 = .ok (.istore_n 2, 1) := by decide +kernel
theorem dX0_tailSharedWith_24 : decode cX0_tailSharedWith 24 = .ok (.iconst 0, 1) := by decide +kernel
theorem dX0_tailSharedWith_25 : decode cX0_tailSharedWith 25 = .ok (.istore_n 3, 1) := by decide +kernel
theorem dX0_tailSharedWith_26 : decode cX0_tailSharedWith 26 = .ok (.iload_n 3, 1) := by decide +kernel
theorem dX0_tailSharedWith_27 : decode cX0_tailSharedWith 27 = .ok (.iload_n 2, 1) := by decide +kernel
theorem dX0_tailSharedWith_28 : decode cX0_tailSharedWith 28 = .ok (.if_icmp .ge 20, 3) := by decide +kernel
theorem dX0_tailSharedWith_31 : decode cX0_tailSharedWith 31 = .ok (.aload_n 0, 1) := by decide +kernel
theorem dX0_tailSharedWith_32 : decode cX0_tailSharedWith 32 = .ok (.aload_n 1, 1) := by decide +kernel
theorem dX0_tailSharedWith_33 : decode cX0_tailSharedWith 33 = .ok (.iload_n 3, 1) := by decide +kernel
theorem dX0_tailSharedWith_34 : decode cX0_tailSharedWith 34 = .ok (.iconst 1, 1) := by decide +kernel
theorem dX0_tailSharedWith_35 : decode cX0_tailSharedWith 35 = .ok (.iadd, 1) := by decide +kernel
theorem dX0_tailSharedWith_36 : decode cX0_tailSharedWith 36 = .ok (.invokevirtual 64, 3) := by decide +kernel
theorem dX0_tailSharedWith_39 : decode cX0_tailSharedWith 39 = .ok (.ifCond .eq 9, 3) := by decide +kernel
theorem dX0_tailSharedWith_42 : decode cX0_tailSharedWith 42 = .ok (.iinc 3 1, 3) := by decide +kernel
theorem dX0_tailSharedWith_45 : decode cX0_tailSharedWith 45 = .ok (.goto (-19), 3) := by decide +kernel
theorem dX0_tailSharedWith_48 : decode cX0_tailSharedWith 48 = .ok (.iload_n 3, 1) := by decide +kernel
theorem dX0_tailSharedWith_49 : decode cX0_tailSharedWith 49 = .ok (.ireturn, 1) := by decide +kernel
set_option maxRecDepth 20000 in
theorem ggX0_parameterTailWith_X0_hasTerminatorOf : GoodIn wsX0_parameterTailWith wsX0_hasTerminatorOf := goodIn_r _ [11, 1, 12, 33, 34, 35, 36, 37, 38, 39, 40] (by decide +kernel) (by decide +kernel)
set_option maxRecDepth 20000 in
theorem gX0_parameterTailWith_X0_hasTerminatorOf : GoodIn wsX0_parameterTailWith (wsV RX0 54 RX0 yX0_hasTerminatorOf wsX0_hasTerminatorOf) := goodIn_app (goodIn_of _ (by decide +kernel)) ggX0_parameterTailWith_X0_hasTerminatorOf
set_option maxRecDepth 20000 in
theorem ggX0_parameterTailWith_X0_fitsParameterTail : GoodIn wsX0_parameterTailWith wsX0_fitsParameterTail := goodIn_r _ [16, 17, 18, 19, 10, 20, 2, 21, 22, 23, 24, 25, 26, 27, 28, 29, 30, 31, 32, 33, 34, 35, 36, 37, 38, 39, 40] (by decide +kernel) (by decide +kernel)
set_option maxRecDepth 20000 in
theorem gX0_parameterTailWith_X0_fitsParameterTail : GoodIn wsX0_parameterTailWith (wsV RX0 68 RX0 yX0_fitsParameterTail wsX0_fitsParameterTail) := goodIn_app (goodIn_of _ (by decide +kernel)) ggX0_parameterTailWith_X0_fitsParameterTail
set_option maxRecDepth 20000 in
theorem ggX0_parameterTailWith_X0_isEqualAt : GoodIn wsX0_parameterTailWith wsX0_isEqualAt := goodIn_r _ [28, 2, 24, 21, 23, 22, 33, 34, 35, 36, 37, 38, 39, 40] (by decide +kernel) (by decide +kernel)
set_option maxRecDepth 20000 in
theorem gX0_parameterTailWith_X0_isEqualAt : GoodIn wsX0_parameterTailWith (wsV RX0 64 RX0 yX0_isEqualAt wsX0_isEqualAt) := goodIn_app (goodIn_of _ (by decide +kernel)) ggX0_parameterTailWith_X0_isEqualAt
theorem dX0_parameterTailWith_0 : decode cX0_parameterTailWith 0 = .ok (.aload_n 0, 1) := by decide +kernel
theorem dX0_parameterTailWith_1 : decode cX0_parameterTailWith 1 = .ok (.getfield 31, 3) := by decide +kernel
theorem dX0_parameterTailWith_4 : decode cX0_parameterTailWith 4 = .ok (.iconst 2, 1) := by decide +kernel
theorem dX0_parameterTailWith_5 : decode cX0_parameterTailWith 5 = .ok (.if_icmp .ne 11, 3) := by decide +kernel
theorem dX0_parameterTailWith_8 : decode cX0_parameterTailWith 8 = .ok (.aload_n 0, 1) := by decide +kernel
theorem dX0_parameterTailWith_9 : decode cX0_parameterTailWith 9 = .ok (.aload_n 1, 1) := by decide +kernel
theorem dX0_parameterTailWith_10 : decode cX0_parameterTailWith 10 = .ok (.invokevirtual 54, 3) := by decide +kernel
theorem dX0_parameterTailWith_13 : decode cX0_parameterTailWith 13 = .ok (.ifCond .ne 7, 3) := by decide +kernel
theorem dX0_parameterTailWith_16 : decode cX0_parameterTailWith 16 = .ok (.sipush (-1005), 3) := by decide +kernel
theorem dX0_parameterTailWith_19 : decode cX0_parameterTailWith 19 = .ok (.ireturn, 1) := by decide +kernel
theorem dX0_parameterTailWith_20 : decode cX0_parameterTailWith 20 = .ok (.aload_n 0, 1) := by decide +kernel
theorem dX0_parameterTailWith_21 : decode cX0_parameterTailWith 21 = .ok (.getfield 27, 3) := by decide +kernel
theorem dX0_parameterTailWith_24 : decode cX0_parameterTailWith 24 = .ok (.aload_n 1, 1) := by decide +kernel
theorem dX0_parameterTailWith_25 : decode cX0_parameterTailWith 25 = .ok (.getfield 27, 3) := by decide +kernel
theorem dX0_parameterTailWith_28 : decode cX0_parameterTailWith 28 = .ok (.invokestatic 58, 3) := by decide +kernel
theorem dX0_parameterTailWith_31 : decode cX0_parameterTailWith 31 = .ok (.istore_n 2, 1) := by decide +kernel
theorem dX0_parameterTailWith_32 : decode cX0_parameterTailWith 32 = .ok (.iconst 0, 1) := by decide +kernel
theorem dX0_parameterTailWith_33 : decode cX0_parameterTailWith 33 = .ok (.istore_n 3, 1) := by decide +kernel
theorem dX0_parameterTailWith_34 : decode cX0_parameterTailWith 34 = .ok (.iconst 0, 1) := by decide +kernel
theorem dX0_parameterTailWith_35 : decode cX0_parameterTailWith 35 = .ok (.istore 4, 2) := by decide +kernel
theorem dX0_parameterTailWith_37 : decode cX0_parameterTailWith 37 = .ok (.iload_n 3, 1) := by decide +kernel
theorem dX0_parameterTailWith_38 : decode cX0_parameterTailWith 38 = .ok (.iload_n 2, 1) := by decide +kernel
theorem dX0_parameterTailWith_39 : decode cX0_parameterTailWith 39 = .ok (.if_icmp .ge 43, 3) := by decide +kernel
theorem dX0_parameterTailWith_42 : decode cX0_parameterTailWith 42 = .ok (.aload_n 0, 1) := by decide +kernel
theorem dX0_parameterTailWith_43 : decode cX0_parameterTailWith 43 = .ok (.aload_n 1, 1) := by decide +kernel
theorem dX0_parameterTailWith_44 : decode cX0_parameterTailWith 44 = .ok (.iload_n 3, 1) := by decide +kernel
theorem dX0_parameterTailWith_45 : decode cX0_parameterTailWith 45 = .ok (.iconst 1, 1) := by decide +kernel
theorem dX0_parameterTailWith_46 : decode cX0_parameterTailWith 46 = .ok (.iadd, 1) := by decide +kernel
theorem dX0_parameterTailWith_47 : decode cX0_parameterTailWith 47 = .ok (.iload 4, 2) := by decide +kernel
theorem dX0_parameterTailWith_49 : decode cX0_parameterTailWith 49 = .ok (.invokevirtual 68, 3) := by decide +kernel
theorem dX0_parameterTailWith_52 : decode cX0_parameterTailWith 52 = .ok (.ifCond .eq 30, 3) := by decide +kernel
theorem dX0_parameterTailWith_55 : decode cX0_parameterTailWith 55 = .ok (.iinc 3 1, 3) := by decide +kernel
theorem dX0_parameterTailWith_58 : decode cX0_parameterTailWith 58 = .ok (.iload 4, 2) := by decide +kernel
theorem dX0_parameterTailWith_60 : decode cX0_parameterTailWith 60 = .ok (.ifCond .ne 12, 3) := by decide +kernel
theorem dX0_parameterTailWith_63 : decode cX0_parameterTailWith 63 = .ok (.aload_n 0, 1) := by decide +kernel
theorem dX0_parameterTailWith_64 : decode cX0_parameterTailWith 64 = .ok (.aload_n 1, 1) := by decide +kernel
theorem dX0_parameterTailWith_65 : decode cX0_parameterTailWith 65 = .ok (.iload_n 3, 1) := by decide +kernel
theorem dX0_parameterTailWith_66 : decode cX0_parameterTailWith 66 = .ok (.invokevirtual 64, 3) := by decide +kernel
theorem dX0_parameterTailWith_69 : decode cX0_parameterTailWith 69 = .ok (.ifCond .ne 7, 3) := by decide +kernel
theorem dX0_parameterTailWith_72 : decode cX0_parameterTailWith 72 = .ok (.iconst 1, 1) := by decide +kernel
theorem dX0_parameterTailWith_73 : decode cX0_parameterTailWith 73 = .ok (.goto 4, 3) := by decide +kernel
theorem dX0_parameterTailWith_76 : decode cX0_parameterTailWith 76 = .ok (.iconst 0, 1) := by decide +kernel
theorem dX0_parameterTailWith_77 : decode cX0_parameterTailWith 77 = .ok (.istore 4, 2) := by decide +kernel
theorem dX0_parameterTailWith_79 : decode cX0_parameterTailWith 79 = .ok (.goto (-42), 3) := by decide +kernel
theorem dX0_parameterTailWith_82 : decode cX0_parameterTailWith 82 = .ok (.iload 4, 2) := by decide +kernel
theorem dX0_parameterTailWith_84 : decode cX0_parameterTailWith 84 = .ok (.ifCond .eq 7, 3) := by decide +kernel
theorem dX0_parameterTailWith_87 : decode cX0_parameterTailWith 87 = .ok (.iload_n 3, 1) := by decide +kernel
theorem dX0_parameterTailWith_88 : decode cX0_parameterTailWith 88 = .ok (.goto 6, 3) := by decide +kernel
theorem dX0_parameterTailWith_91 : decode cX0_parameterTailWith 91 = .ok (.sipush (-1005), 3) := by decide +kernel
theorem dX0_parameterTailWith_94 : decode cX0_parameterTailWith 94 = .ok (.ireturn, 1) := by decide +kernel
set_option maxRecDepth 20000 in
theorem ggX0_fitsParameterTail_X0_usesParameterAt : GoodIn wsX0_fitsParameterTail wsX0_usesParameterAt := goodIn_r _ [5, 6, 7, 8, 9, 10, 19, 20, 21, 22, 23, 24, 25, 26] (by decide +kernel) (by decide +kernel)
set_option maxRecDepth 20000 in
theorem gX0_fitsParameterTail_X0_usesParameterAt : GoodIn wsX0_fitsParameterTail (wsV RX0 72 RX0 yX0_usesParameterAt wsX0_usesParameterAt) := goodIn_app (goodIn_of _ (by decide +kernel)) ggX0_fitsParameterTail_X0_usesParameterAt
set_option maxRecDepth 20000 in
theorem ggX0_fitsParameterTail_X0_isEqualAt : GoodIn wsX0_fitsParameterTail wsX0_isEqualAt := goodIn_r _ [14, 6, 10, 7, 9, 8, 19, 20, 21, 22, 23, 24, 25, 26] (by decide +kernel) (by decide +kernel)
set_option maxRecDepth 20000 in
theorem gX0_fitsParameterTail_X0_isEqualAt : GoodIn wsX0_fitsParameterTail (wsV RX0 64 RX0 yX0_isEqualAt wsX0_isEqualAt) := goodIn_app (goodIn_of _ (by decide +kernel)) ggX0_fitsParameterTail_X0_isEqualAt
set_option maxRecDepth 20000 in
theorem ggX0_fitsParameterTail_X0_isSameConstTargetAt : GoodIn wsX0_fitsParameterTail wsX0_isSameConstTargetAt := goodIn_r _ [18, 6, 10, 7, 19, 20, 21, 22, 23, 24, 25, 26] (by decide +kernel) (by decide +kernel)
set_option maxRecDepth 20000 in
theorem gX0_fitsParameterTail_X0_isSameConstTargetAt : GoodIn wsX0_fitsParameterTail (wsV RX0 76 RX0 yX0_isSameConstTargetAt wsX0_isSameConstTargetAt) := goodIn_app (goodIn_of _ (by decide +kernel)) ggX0_fitsParameterTail_X0_isSameConstTargetAt
theorem dX0_fitsParameterTail_0 : decode cX0_fitsParameterTail 0 = .ok (.aload_n 0, 1) := by decide +kernel
theorem dX0_fitsParameterTail_1 : decode cX0_fitsParameterTail 1 = .ok (.iload_n 2, 1) := by decide +kernel
theorem dX0_fitsParameterTail_2 : decode cX0_fitsParameterTail 2 = .ok (.invokevirtual 72, 3) := by decide +kernel
theorem dX0_fitsParameterTail_5 : decode cX0_fitsParameterTail 5 = .ok (.ifCond .ne 11, 3) := by decide +kernel
theorem dX0_fitsParameterTail_8 : decode cX0_fitsParameterTail 8 = .ok (.aload_n 1, 1) := by decide +kernel
theorem dX0_fitsParameterTail_9 : decode cX0_fitsParameterTail 9 = .ok (.iload_n 2, 1) := by decide +kernel
theorem dX0_fitsParameterTail_10 : decode cX0_fitsParameterTail 10 = .ok (.invokevirtual 72, 3) := by decide +kernel
theorem dX0_fitsParameterTail_13 : decode cX0_fitsParameterTail 13 = .ok (.ifCond .eq 5, 3) := by decide +kernel
theorem dX0_fitsParameterTail_16 : decode cX0_fitsParameterTail 16 = .ok (.iconst 0, 1) := by decide +kernel
theorem dX0_fitsParameterTail_17 : decode cX0_fitsParameterTail 17 = .ok (.ireturn, 1) := by decide +kernel
theorem dX0_fitsParameterTail_18 : decode cX0_fitsParameterTail 18 = .ok (.aload_n 0, 1) := by decide +kernel
theorem dX0_fitsParameterTail_19 : decode cX0_fitsParameterTail 19 = .ok (.aload_n 1, 1) := by decide +kernel
theorem dX0_fitsParameterTail_20 : decode cX0_fitsParameterTail 20 = .ok (.iload_n 2, 1) := by decide +kernel
theorem dX0_fitsParameterTail_21 : decode cX0_fitsParameterTail 21 = .ok (.invokevirtual 64, 3) := by decide +kernel
theorem dX0_fitsParameterTail_24 : decode cX0_fitsParameterTail 24 = .ok (.ifCond .ne 16, 3) := by decide +kernel
theorem dX0_fitsParameterTail_27 : decode cX0_fitsParameterTail 27 = .ok (.iload_n 3, 1) := by decide +kernel
theorem dX0_fitsParameterTail_28 : decode cX0_fitsParameterTail 28 = .ok (.ifCond .ne 16, 3) := by decide +kernel
theorem dX0_fitsParameterTail_31 : decode cX0_fitsParameterTail 31 = .ok (.aload_n 0, 1) := by decide +kernel
theorem dX0_fitsParameterTail_32 : decode cX0_fitsParameterTail 32 = .ok (.aload_n 1, 1) := by decide +kernel
theorem dX0_fitsParameterTail_33 : decode cX0_fitsParameterTail 33 = .ok (.iload_n 2, 1) := by decide +kernel
theorem dX0_fitsParameterTail_34 : decode cX0_fitsParameterTail 34 = .ok (.invokevirtual 76, 3) := by decide +kernel
theorem dX0_fitsParameterTail_37 : decode cX0_fitsParameterTail 37 = .ok (.ifCond .eq 7, 3) := by decide +kernel
theorem dX0_fitsParameterTail_40 : decode cX0_fitsParameterTail 40 = .ok (.iconst 1, 1) := by decide +kernel
theorem dX0_fitsParameterTail_41 : decode cX0_fitsParameterTail 41 = .ok (.goto 4, 3) := by decide +kernel
theorem dX0_fitsParameterTail_44 : decode cX0_fitsParameterTail 44 = .ok (.iconst 0, 1) := by decide +kernel
theorem dX0_fitsParameterTail_45 : decode cX0_fitsParameterTail 45 = .ok (.ireturn, 1) := by decide +kernel
theorem dX0_hasTerminatorOf_0 : decode cX0_hasTerminatorOf 0 = .ok (.aload_n 0, 1) := by decide +kernel
theorem dX0_hasTerminatorOf_1 : decode cX0_hasTerminatorOf 1 = .ok (.getfield 31, 3) := by decide +kernel
theorem dX0_hasTerminatorOf_4 : decode cX0_hasTerminatorOf 4 = .ok (.aload_n 1, 1) := by decide +kernel
theorem dX0_hasTerminatorOf_5 : decode cX0_hasTerminatorOf 5 = .ok (.getfield 31, 3) := by decide +kernel
theorem dX0_hasTerminatorOf_8 : decode cX0_hasTerminatorOf 8 = .ok (.if_icmp .ne 52, 3) := by decide +kernel
theorem dX0_hasTerminatorOf_11 : decode cX0_hasTerminatorOf 11 = .ok (.aload_n 0, 1) := by decide +kernel
theorem dX0_hasTerminatorOf_12 : decode cX0_hasTerminatorOf 12 = .ok (.getfield 34, 3) := by decide +kernel
theorem dX0_hasTerminatorOf_15 : decode cX0_hasTerminatorOf 15 = .ok (.iconst 0, 1) := by decide +kernel
theorem dX0_hasTerminatorOf_16 : decode cX0_hasTerminatorOf 16 = .ok (.iaload, 1) := by decide +kernel
theorem dX0_hasTerminatorOf_17 : decode cX0_hasTerminatorOf 17 = .ok (.aload_n 1, 1) := by decide +kernel
theorem dX0_hasTerminatorOf_18 : decode cX0_hasTerminatorOf 18 = .ok (.getfield 34, 3) := by decide +kernel
theorem dX0_hasTerminatorOf_21 : decode cX0_hasTerminatorOf 21 = .ok (.iconst 0, 1) := by decide +kernel
theorem dX0_hasTerminatorOf_22 : decode cX0_hasTerminatorOf 22 = .ok (.iaload, 1) := by decide +kernel
theorem dX0_hasTerminatorOf_23 : decode cX0_hasTerminatorOf 23 = .ok (.if_icmp .ne 37, 3) := by decide +kernel
theorem dX0_hasTerminatorOf_26 : decode cX0_hasTerminatorOf 26 = .ok (.aload_n 0, 1) := by decide +kernel
theorem dX0_hasTerminatorOf_27 : decode cX0_hasTerminatorOf 27 = .ok (.getfield 34, 3) := by decide +kernel
theorem dX0_hasTerminatorOf_30 : decode cX0_hasTerminatorOf 30 = .ok (.iconst 1, 1) := by decide +kernel
theorem dX0_hasTerminatorOf_31 : decode cX0_hasTerminatorOf 31 = .ok (.iaload, 1) := by decide +kernel
theorem dX0_hasTerminatorOf_32 : decode cX0_hasTerminatorOf 32 = .ok (.aload_n 1, 1) := by decide +kernel
theorem dX0_hasTerminatorOf_33 : decode cX0_hasTerminatorOf 33 = .ok (.getfield 34, 3) := by decide +kernel
theorem dX0_hasTerminatorOf_36 : decode cX0_hasTerminatorOf 36 = .ok (.iconst 1, 1) := by decide +kernel
theorem dX0_hasTerminatorOf_37 : decode cX0_hasTerminatorOf 37 = .ok (.iaload, 1) := by decide +kernel
theorem dX0_hasTerminatorOf_38 : decode cX0_hasTerminatorOf 38 = .ok (.if_icmp .ne 22, 3) := by decide +kernel
theorem dX0_hasTerminatorOf_41 : decode cX0_hasTerminatorOf 41 = .ok (.aload_n 0, 1) := by decide +kernel
theorem dX0_hasTerminatorOf_42 : decode cX0_hasTerminatorOf 42 = .ok (.getfield 34, 3) := by decide +kernel
theorem dX0_hasTerminatorOf_45 : decode cX0_hasTerminatorOf 45 = .ok (.iconst 2, 1) := by decide +kernel
theorem dX0_hasTerminatorOf_46 : decode cX0_hasTerminatorOf 46 = .ok (.iaload, 1) := by decide +kernel
theorem dX0_hasTerminatorOf_47 : decode cX0_hasTerminatorOf 47 = .ok (.aload_n 1, 1) := by decide +kernel
theorem dX0_hasTerminatorOf_48 : decode cX0_hasTerminatorOf 48 = .ok (.getfield 34, 3) := by decide +kernel
theorem dX0_hasTerminatorOf_51 : decode cX0_hasTerminatorOf 51 = .ok (.iconst 2, 1) := by decide +kernel
theorem dX0_hasTerminatorOf_52 : decode cX0_hasTerminatorOf 52 = .ok (.iaload, 1) := by decide +kernel
theorem dX0_hasTerminatorOf_53 : decode cX0_hasTerminatorOf 53 = .ok (.if_icmp .ne 7, 3) := by decide +kernel
theorem dX0_hasTerminatorOf_56 : decode cX0_hasTerminatorOf 56 = .ok (.iconst 1, 1) := by decide +kernel
theorem dX0_hasTerminatorOf_57 : decode cX0_hasTerminatorOf 57 = .ok (.goto 4, 3) := by decide +kernel
theorem dX0_hasTerminatorOf_60 : decode cX0_hasTerminatorOf 60 = .ok (.iconst 0, 1) := by decide +kernel
theorem dX0_hasTerminatorOf_61 : decode cX0_hasTerminatorOf 61 = .ok (.ireturn, 1) := by decide +kernel
theorem dX0_isEqualAt_0 : decode cX0_isEqualAt 0 = .ok (.aload_n 0, 1) := by decide +kernel
theorem dX0_isEqualAt_1 : decode cX0_isEqualAt 1 = .ok (.getfield 27, 3) := by decide +kernel
theorem dX0_isEqualAt_4 : decode cX0_isEqualAt 4 = .ok (.iload_n 2, 1) := by decide +kernel
theorem dX0_isEqualAt_5 : decode cX0_isEqualAt 5 = .ok (.isub, 1) := by decide +kernel
theorem dX0_isEqualAt_6 : decode cX0_isEqualAt 6 = .ok (.istore_n 3, 1) := by decide +kernel
theorem dX0_isEqualAt_7 : decode cX0_isEqualAt 7 = .ok (.aload_n 1, 1) := by decide +kernel
theorem dX0_isEqualAt_8 : decode cX0_isEqualAt 8 = .ok (.getfield 27, 3) := by decide +kernel
theorem dX0_isEqualAt_11 : decode cX0_isEqualAt 11 = .ok (.iload_n 2, 1) := by decide +kernel
theorem dX0_isEqualAt_12 : decode cX0_isEqualAt 12 = .ok (.isub, 1) := by decide +kernel
theorem dX0_isEqualAt_13 : decode cX0_isEqualAt 13 = .ok (.istore 4, 2) := by decide +kernel
theorem dX0_isEqualAt_15 : decode cX0_isEqualAt 15 = .ok (.aload_n 0, 1) := by decide +kernel
theorem dX0_isEqualAt_16 : decode cX0_isEqualAt 16 = .ok (.getfield 9, 3) := by decide +kernel
theorem dX0_isEqualAt_19 : decode cX0_isEqualAt 19 = .ok (.iload_n 3, 1) := by decide +kernel
theorem dX0_isEqualAt_20 : decode cX0_isEqualAt 20 = .ok (.iaload, 1) := by decide +kernel
theorem dX0_isEqualAt_21 : decode cX0_isEqualAt 21 = .ok (.aload_n 1, 1) := by decide +kernel
theorem dX0_isEqualAt_22 : decode cX0_isEqualAt 22 = .ok (.getfield 9, 3) := by decide +kernel
theorem dX0_isEqualAt_25 : decode cX0_isEqualAt 25 = .ok (.iload 4, 2) := by decide +kernel
theorem dX0_isEqualAt_27 : decode cX0_isEqualAt 27 = .ok (.iaload, 1) := by decide +kernel
theorem dX0_isEqualAt_28 : decode cX0_isEqualAt 28 = .ok (.if_icmp .ne 55, 3) := by decide +kernel
theorem dX0_isEqualAt_31 : decode cX0_isEqualAt 31 = .ok (.aload_n 0, 1) := by decide +kernel
theorem dX0_isEqualAt_32 : decode cX0_isEqualAt 32 = .ok (.getfield 15, 3) := by decide +kernel
theorem dX0_isEqualAt_35 : decode cX0_isEqualAt 35 = .ok (.iload_n 3, 1) := by decide +kernel
theorem dX0_isEqualAt_36 : decode cX0_isEqualAt 36 = .ok (.iaload, 1) := by decide +kernel
theorem dX0_isEqualAt_37 : decode cX0_isEqualAt 37 = .ok (.aload_n 1, 1) := by decide +kernel
theorem dX0_isEqualAt_38 : decode cX0_isEqualAt 38 = .ok (.getfield 15, 3) := by decide +kernel
theorem dX0_isEqualAt_41 : decode cX0_isEqualAt 41 = .ok (.iload 4, 2) := by decide +kernel
theorem dX0_isEqualAt_43 : decode cX0_isEqualAt 43 = .ok (.iaload, 1) := by decide +kernel
theorem dX0_isEqualAt_44 : decode cX0_isEqualAt 44 = .ok (.if_icmp .ne 39, 3) := by decide +kernel
theorem dX0_isEqualAt_47 : decode cX0_isEqualAt 47 = .ok (.aload_n 0, 1) := by decide +kernel
theorem dX0_isEqualAt_48 : decode cX0_isEqualAt 48 = .ok (.getfield 18, 3) := by decide +kernel
theorem dX0_isEqualAt_51 : decode cX0_isEqualAt 51 = .ok (.iload_n 3, 1) := by decide +kernel
theorem dX0_isEqualAt_52 : decode cX0_isEqualAt 52 = .ok (.iaload, 1) := by decide +kernel
theorem dX0_isEqualAt_53 : decode cX0_isEqualAt 53 = .ok (.aload_n 1, 1) := by decide +kernel
theorem dX0_isEqualAt_54 : decode cX0_isEqualAt 54 = .ok (.getfield 18, 3) := by decide +kernel
theorem dX0_isEqualAt_57 : decode cX0_isEqualAt 57 = .ok (.iload 4, 2) := by decide +kernel
theorem dX0_isEqualAt_59 : decode cX0_isEqualAt 59 = .ok (.iaload, 1) := by decide +kernel
theorem dX0_isEqualAt_60 : decode cX0_isEqualAt 60 = .ok (.if_icmp .ne 23, 3) := by decide +kernel
theorem dX0_isEqualAt_63 : decode cX0_isEqualAt 63 = .ok (.aload_n 0, 1) := by decide +kernel
theorem dX0_isEqualAt_64 : decode cX0_isEqualAt 64 = .ok (.getfield 21, 3) := by decide +kernel
theorem dX0_isEqualAt_67 : decode cX0_isEqualAt 67 = .ok (.iload_n 3, 1) := by decide +kernel
theorem dX0_isEqualAt_68 : decode cX0_isEqualAt 68 = .ok (.iaload, 1) := by decide +kernel
theorem dX0_isEqualAt_69 : decode cX0_isEqualAt 69 = .ok (.aload_n 1, 1) := by decide +kernel
theorem dX0_isEqualAt_70 : decode cX0_isEqualAt 70 = .ok (.getfield 21, 3) := by decide +kernel
theorem dX0_isEqualAt_73 : decode cX0_isEqualAt 73 = .ok (.iload 4, 2) := by decide +kernel
theorem dX0_isEqualAt_75 : decode cX0_isEqualAt 75 = .ok (.iaload, 1) := by decide +kernel
theorem dX0_isEqualAt_76 : decode cX0_isEqualAt 76 = .ok (.if_icmp .ne 7, 3) := by decide +kernel
theorem dX0_isEqualAt_79 : decode cX0_isEqualAt 79 = .ok (.iconst 1, 1) := by decide +kernel
theorem dX0_isEqualAt_80 : decode cX0_isEqualAt 80 = .ok (.goto 4, 3) := by decide +kernel
theorem dX0_isEqualAt_83 : decode cX0_isEqualAt 83 = .ok (.iconst 0, 1) := by decide +kernel
theorem dX0_isEqualAt_84 : decode cX0_isEqualAt 84 = .ok (.ireturn, 1) := by decide +kernel
theorem dX0_isSameConstTargetAt_0 : decode cX0_isSameConstTargetAt 0 = .ok (.aload_n 0, 1) := by decide +kernel
theorem dX0_isSameConstTargetAt_1 : decode cX0_isSameConstTargetAt 1 = .ok (.getfield 27, 3) := by decide +kernel
theorem dX0_isSameConstTargetAt_4 : decode cX0_isSameConstTargetAt 4 = .ok (.iload_n 2, 1) := by decide +kernel
theorem dX0_isSameConstTargetAt_5 : decode cX0_isSameConstTargetAt 5 = .ok (.isub, 1) := by decide +kernel
theorem dX0_isSameConstTargetAt_6 : decode cX0_isSameConstTargetAt 6 = .ok (.istore_n 3, 1) := by decide +kernel
theorem dX0_isSameConstTargetAt_7 : decode cX0_isSameConstTargetAt 7 = .ok (.aload_n 1, 1) := by decide +kernel
theorem dX0_isSameConstTargetAt_8 : decode cX0_isSameConstTargetAt 8 = .ok (.getfield 27, 3) := by decide +kernel
theorem dX0_isSameConstTargetAt_11 : decode cX0_isSameConstTargetAt 11 = .ok (.iload_n 2, 1) := by decide +kernel
theorem dX0_isSameConstTargetAt_12 : decode cX0_isSameConstTargetAt 12 = .ok (.isub, 1) := by decide +kernel
theorem dX0_isSameConstTargetAt_13 : decode cX0_isSameConstTargetAt 13 = .ok (.istore 4, 2) := by decide +kernel
theorem dX0_isSameConstTargetAt_15 : decode cX0_isSameConstTargetAt 15 = .ok (.aload_n 0, 1) := by decide +kernel
theorem dX0_isSameConstTargetAt_16 : decode cX0_isSameConstTargetAt 16 = .ok (.getfield 9, 3) := by decide +kernel
theorem dX0_isSameConstTargetAt_19 : decode cX0_isSameConstTargetAt 19 = .ok (.iload_n 3, 1) := by decide +kernel
theorem dX0_isSameConstTargetAt_20 : decode cX0_isSameConstTargetAt 20 = .ok (.iaload, 1) := by decide +kernel
theorem dX0_isSameConstTargetAt_21 : decode cX0_isSameConstTargetAt 21 = .ok (.ifCond .ne 33, 3) := by decide +kernel
theorem dX0_isSameConstTargetAt_24 : decode cX0_isSameConstTargetAt 24 = .ok (.aload_n 1, 1) := by decide +kernel
theorem dX0_isSameConstTargetAt_25 : decode cX0_isSameConstTargetAt 25 = .ok (.getfield 9, 3) := by decide +kernel
theorem dX0_isSameConstTargetAt_28 : decode cX0_isSameConstTargetAt 28 = .ok (.iload 4, 2) := by decide +kernel
theorem dX0_isSameConstTargetAt_30 : decode cX0_isSameConstTargetAt 30 = .ok (.iaload, 1) := by decide +kernel
theorem dX0_isSameConstTargetAt_31 : decode cX0_isSameConstTargetAt 31 = .ok (.ifCond .ne 23, 3) := by decide +kernel
theorem dX0_isSameConstTargetAt_34 : decode cX0_isSameConstTargetAt 34 = .ok (.aload_n 0, 1) := by decide +kernel
theorem dX0_isSameConstTargetAt_35 : decode cX0_isSameConstTargetAt 35 = .ok (.getfield 15, 3) := by decide +kernel
theorem dX0_isSameConstTargetAt_38 : decode cX0_isSameConstTargetAt 38 = .ok (.iload_n 3, 1) := by decide +kernel
theorem dX0_isSameConstTargetAt_39 : decode cX0_isSameConstTargetAt 39 = .ok (.iaload, 1) := by decide +kernel
theorem dX0_isSameConstTargetAt_40 : decode cX0_isSameConstTargetAt 40 = .ok (.aload_n 1, 1) := by decide +kernel
theorem dX0_isSameConstTargetAt_41 : decode cX0_isSameConstTargetAt 41 = .ok (.getfield 15, 3) := by decide +kernel
theorem dX0_isSameConstTargetAt_44 : decode cX0_isSameConstTargetAt 44 = .ok (.iload 4, 2) := by decide +kernel
theorem dX0_isSameConstTargetAt_46 : decode cX0_isSameConstTargetAt 46 = .ok (.iaload, 1) := by decide +kernel
theorem dX0_isSameConstTargetAt_47 : decode cX0_isSameConstTargetAt 47 = .ok (.if_icmp .ne 7, 3) := by decide +kernel
theorem dX0_isSameConstTargetAt_50 : decode cX0_isSameConstTargetAt 50 = .ok (.iconst 1, 1) := by decide +kernel
theorem dX0_isSameConstTargetAt_51 : decode cX0_isSameConstTargetAt 51 = .ok (.goto 4, 3) := by decide +kernel
theorem dX0_isSameConstTargetAt_54 : decode cX0_isSameConstTargetAt 54 = .ok (.iconst 0, 1) := by decide +kernel
theorem dX0_isSameConstTargetAt_55 : decode cX0_isSameConstTargetAt 55 = .ok (.ireturn, 1) := by decide +kernel
theorem dX0_usesParameterAt_0 : decode cX0_usesParameterAt 0 = .ok (.aload_n 0, 1) := by decide +kernel
theorem dX0_usesParameterAt_1 : decode cX0_usesParameterAt 1 = .ok (.getfield 27, 3) := by decide +kernel
theorem dX0_usesParameterAt_4 : decode cX0_usesParameterAt 4 = .ok (.iload_n 1, 1) := by decide +kernel
theorem dX0_usesParameterAt_5 : decode cX0_usesParameterAt 5 = .ok (.isub, 1) := by decide +kernel
theorem dX0_usesParameterAt_6 : decode cX0_usesParameterAt 6 = .ok (.istore_n 2, 1) := by decide +kernel
theorem dX0_usesParameterAt_7 : decode cX0_usesParameterAt 7 = .ok (.aload_n 0, 1) := by decide +kernel
theorem dX0_usesParameterAt_8 : decode cX0_usesParameterAt 8 = .ok (.getfield 15, 3) := by decide +kernel
theorem dX0_usesParameterAt_11 : decode cX0_usesParameterAt 11 = .ok (.iload_n 2, 1) := by decide +kernel
theorem dX0_usesParameterAt_12 : decode cX0_usesParameterAt 12 = .ok (.iaload, 1) := by decide +kernel
theorem dX0_usesParameterAt_13 : decode cX0_usesParameterAt 13 = .ok (.bipush 7, 2) := by decide +kernel
theorem dX0_usesParameterAt_15 : decode cX0_usesParameterAt 15 = .ok (.if_icmp .eq 34, 3) := by decide +kernel
theorem dX0_usesParameterAt_18 : decode cX0_usesParameterAt 18 = .ok (.aload_n 0, 1) := by decide +kernel
theorem dX0_usesParameterAt_19 : decode cX0_usesParameterAt 19 = .ok (.getfield 21, 3) := by decide +kernel
theorem dX0_usesParameterAt_22 : decode cX0_usesParameterAt 22 = .ok (.iload_n 2, 1) := by decide +kernel
theorem dX0_usesParameterAt_23 : decode cX0_usesParameterAt 23 = .ok (.iaload, 1) := by decide +kernel
theorem dX0_usesParameterAt_24 : decode cX0_usesParameterAt 24 = .ok (.bipush 7, 2) := by decide +kernel
theorem dX0_usesParameterAt_26 : decode cX0_usesParameterAt 26 = .ok (.if_icmp .eq 23, 3) := by decide +kernel
theorem dX0_usesParameterAt_29 : decode cX0_usesParameterAt 29 = .ok (.aload_n 0, 1) := by decide +kernel
theorem dX0_usesParameterAt_30 : decode cX0_usesParameterAt 30 = .ok (.getfield 18, 3) := by decide +kernel
theorem dX0_usesParameterAt_33 : decode cX0_usesParameterAt 33 = .ok (.iload_n 2, 1) := by decide +kernel
theorem dX0_usesParameterAt_34 : decode cX0_usesParameterAt 34 = .ok (.iaload, 1) := by decide +kernel
theorem dX0_usesParameterAt_35 : decode cX0_usesParameterAt 35 = .ok (.bipush 7, 2) := by decide +kernel
theorem dX0_usesParameterAt_37 : decode cX0_usesParameterAt 37 = .ok (.if_icmp .ne 16, 3) := by decide +kernel
theorem dX0_usesParameterAt_40 : decode cX0_usesParameterAt 40 = .ok (.aload_n 0, 1) := by decide +kernel
theorem dX0_usesParameterAt_41 : decode cX0_usesParameterAt 41 = .ok (.getfield 9, 3) := by decide +kernel
theorem dX0_usesParameterAt_44 : decode cX0_usesParameterAt 44 = .ok (.iload_n 2, 1) := by decide +kernel
theorem dX0_usesParameterAt_45 : decode cX0_usesParameterAt 45 = .ok (.iaload, 1) := by decide +kernel
theorem dX0_usesParameterAt_46 : decode cX0_usesParameterAt 46 = .ok (.ifCond .eq 7, 3) := by decide +kernel
theorem dX0_usesParameterAt_49 : decode cX0_usesParameterAt 49 = .ok (.iconst 1, 1) := by decide +kernel
theorem dX0_usesParameterAt_50 : decode cX0_usesParameterAt 50 = .ok (.goto 4, 3) := by decide +kernel
theorem dX0_usesParameterAt_53 : decode cX0_usesParameterAt 53 = .ok (.iconst 0, 1) := by decide +kernel
theorem dX0_usesParameterAt_54 : decode cX0_usesParameterAt 54 = .ok (.ireturn, 1) := by decide +kernel
theorem dX1_init_0 : decode cX1_init 0 = .ok (.aload_n 0, 1) := by decide +kernel
theorem dX1_init_1 : decode cX1_init 1 = .ok (.invokespecial 3, 3) := by decide +kernel
theorem dX1_init_4 : decode cX1_init 4 = .ok (.aload_n 0, 1) := by decide +kernel
theorem dX1_init_5 : decode cX1_init 5 = .ok (.bipush 8, 2) := by decide +kernel
theorem dX1_init_7 : decode cX1_init 7 = .ok (.newarray .int, 2) := by decide +kernel
theorem dX1_init_9 : decode cX1_init 9 = .ok (.putfield 9, 3) := by decide +kernel
theorem dX1_init_12 : decode cX1_init 12 = .ok (.aload_n 0, 1) := by decide +kernel
theorem dX1_init_13 : decode cX1_init 13 = .ok (.sipush 1000, 3) := by decide +kernel
theorem dX1_init_16 : decode cX1_init 16 = .ok (.newarray .int, 2) := by decide +kernel
theorem dX1_init_18 : decode cX1_init 18 = .ok (.putfield 15, 3) := by decide +kernel
theorem dX1_init_21 : decode cX1_init 21 = .ok (.aload_n 0, 1) := by decide +kernel
theorem dX1_init_22 : decode cX1_init 22 = .ok (.iconst 0, 1) := by decide +kernel
theorem dX1_init_23 : decode cX1_init 23 = .ok (.putfield 18, 3) := by decide +kernel
theorem dX1_init_26 : decode cX1_init 26 = .ok (.return_, 1) := by decide +kernel
set_option maxRecDepth 20000 in
theorem ggX1_execute_X1_perform : GoodIn wsX1_execute wsX1_perform := goodIn_r _ [11, 1, 12, 13, 14, 10, 15, 6, 16, 29, 30, 31, 32, 33, 34, 35, 36, 26, 27, 28] (by decide +kernel) (by decide +kernel)
set_option maxRecDepth 20000 in
theorem gX1_execute_X1_perform : GoodIn wsX1_execute (wsV RX1 42 RX1 yX1_perform wsX1_perform) := goodIn_app (goodIn_of _ (by decide +kernel)) ggX1_execute_X1_perform
set_option maxRecDepth 20000 in
theorem ggX1_execute_X1_successorOf : GoodIn wsX1_execute wsX1_successorOf := goodIn_r _ [20, 1, 29, 30, 31, 32, 33, 34, 35, 36, 26, 27, 28] (by decide +kernel) (by decide +kernel)
set_option maxRecDepth 20000 in
theorem gX1_execute_X1_successorOf : GoodIn wsX1_execute (wsV RX1 49 RX1 yX1_successorOf wsX1_successorOf) := goodIn_app (goodIn_of _ (by decide +kernel)) ggX1_execute_X1_successorOf
theorem dX1_execute_0 : decode cX1_execute 0 = .ok (.aload_n 1, 1) := by decide +kernel
theorem dX1_execute_1 : decode cX1_execute 1 = .ok (.getfield 22, 3) := by decide +kernel
theorem dX1_execute_4 : decode cX1_execute 4 = .ok (.iconst 0, 1) := by decide +kernel
theorem dX1_execute_5 : decode cX1_execute 5 = .ok (.aload_n 0, 1) := by decide +kernel
theorem dX1_execute_6 : decode cX1_execute 6 = .ok (.getfield 9, 3) := by decide +kernel
theorem dX1_execute_9 : decode cX1_execute 9 = .ok (.iconst 0, 1) := by decide +kernel
theorem dX1_execute_10 : decode cX1_execute 10 = .ok (.bipush 8, 2) := by decide +kernel
theorem dX1_execute_12 : decode cX1_execute 12 = .ok (.invokestatic 27, 3) := by decide +kernel
theorem dX1_execute_15 : decode cX1_execute 15 = .ok (.aload_n 0, 1) := by decide +kernel
theorem dX1_execute_16 : decode cX1_execute 16 = .ok (.iconst 0, 1) := by decide +kernel
theorem dX1_execute_17 : decode cX1_execute 17 = .ok (.putfield 18, 3) := by decide +kernel
theorem dX1_execute_20 : decode cX1_execute 20 = .ok (.aload_n 1, 1) := by decide +kernel
theorem dX1_execute_21 : decode cX1_execute 21 = .ok (.getfield 33, 3) := by decide +kernel
theorem dX1_execute_24 : decode cX1_execute 24 = .ok (.iconst 0, 1) := by decide +kernel
theorem dX1_execute_25 : decode cX1_execute 25 = .ok (.aaload, 1) := by decide +kernel
theorem dX1_execute_26 : decode cX1_execute 26 = .ok (.astore_n 3, 1) := by decide +kernel
theorem dX1_execute_27 : decode cX1_execute 27 = .ok (.iconst 0, 1) := by decide +kernel
theorem dX1_execute_28 : decode cX1_execute 28 = .ok (.istore 4, 2) := by decide +kernel
theorem dX1_execute_30 : decode cX1_execute 30 = .ok (.iconst 1, 1) := by decide +kernel
theorem dX1_execute_31 : decode cX1_execute 31 = .ok (.istore 5, 2) := by decide +kernel
theorem dX1_execute_33 : decode cX1_execute 33 = .ok (.iload 5, 2) := by decide +kernel
theorem dX1_execute_35 : decode cX1_execute 35 = .ok (.iload_n 2, 1) := by decide +kernel
theorem dX1_execute_36 : decode cX1_execute 36 = .ok (.if_icmp .gt 56, 3) := by decide +kernel
theorem dX1_execute_39 : decode cX1_execute 39 = .ok (.iload 4, 2) := by decide +kernel
theorem dX1_execute_41 : decode cX1_execute 41 = .ok (.aload_n 3, 1) := by decide +kernel
theorem dX1_execute_42 : decode cX1_execute 42 = .ok (.getfield 37, 3) := by decide +kernel
theorem dX1_execute_45 : decode cX1_execute 45 = .ok (.if_icmp .ge 16, 3) := by decide +kernel
theorem dX1_execute_48 : decode cX1_execute 48 = .ok (.aload_n 0, 1) := by decide +kernel
theorem dX1_execute_49 : decode cX1_execute 49 = .ok (.aload_n 3, 1) := by decide +kernel
theorem dX1_execute_50 : decode cX1_execute 50 = .ok (.iload 4, 2) := by decide +kernel
theorem dX1_execute_52 : decode cX1_execute 52 = .ok (.invokevirtual 42, 3) := by decide +kernel
theorem dX1_execute_55 : decode cX1_execute 55 = .ok (.iinc 4 1, 3) := by decide +kernel
theorem dX1_execute_58 : decode cX1_execute 58 = .ok (.goto 28, 3) := by decide +kernel
theorem dX1_execute_61 : decode cX1_execute 61 = .ok (.aload_n 3, 1) := by decide +kernel
theorem dX1_execute_62 : decode cX1_execute 62 = .ok (.getfield 46, 3) := by decide +kernel
theorem dX1_execute_65 : decode cX1_execute 65 = .ok (.iconst 2, 1) := by decide +kernel
theorem dX1_execute_66 : decode cX1_execute 66 = .ok (.if_icmp .ne 6, 3) := by decide +kernel
theorem dX1_execute_69 : decode cX1_execute 69 = .ok (.iload 5, 2) := by decide +kernel
theorem dX1_execute_71 : decode cX1_execute 71 = .ok (.ireturn, 1) := by decide +kernel
theorem dX1_execute_72 : decode cX1_execute 72 = .ok (.aload_n 1, 1) := by decide +kernel
theorem dX1_execute_73 : decode cX1_execute 73 = .ok (.getfield 33, 3) := by decide +kernel
theorem dX1_execute_76 : decode cX1_execute 76 = .ok (.aload_n 0, 1) := by decide +kernel
theorem dX1_execute_77 : decode cX1_execute 77 = .ok (.aload_n 3, 1) := by decide +kernel
theorem dX1_execute_78 : decode cX1_execute 78 = .ok (.invokevirtual 49, 3) := by decide +kernel
theorem dX1_execute_81 : decode cX1_execute 81 = .ok (.aaload, 1) := by decide +kernel
theorem dX1_execute_82 : decode cX1_execute 82 = .ok (.astore_n 3, 1) := by decide +kernel
theorem dX1_execute_83 : decode cX1_execute 83 = .ok (.iconst 0, 1) := by decide +kernel
theorem dX1_execute_84 : decode cX1_execute 84 = .ok (.istore 4, 2) := by decide +kernel
theorem dX1_execute_86 : decode cX1_execute 86 = .ok (.iinc 5 1, 3) := by decide +kernel
theorem dX1_execute_89 : decode cX1_execute 89 = .ok (.goto (-56), 3) := by decide +kernel
theorem dX1_execute_92 : decode cX1_execute 92 = .ok (.sipush (-1007), 3) := by decide +kernel
theorem dX1_execute_95 : decode cX1_execute 95 = .ok (.ireturn, 1) := by decide +kernel
theorem dX1_successorOf_0 : decode cX1_successorOf 0 = .ok (.aload_n 1, 1) := by decide +kernel
theorem dX1_successorOf_1 : decode cX1_successorOf 1 = .ok (.getfield 53, 3) := by decide +kernel
theorem dX1_successorOf_4 : decode cX1_successorOf 4 = .ok (.astore_n 2, 1) := by decide +kernel
theorem dX1_successorOf_5 : decode cX1_successorOf 5 = .ok (.aload_n 1, 1) := by decide +kernel
theorem dX1_successorOf_6 : decode cX1_successorOf 6 = .ok (.getfield 46, 3) := by decide +kernel
theorem dX1_successorOf_9 : decode cX1_successorOf 9 = .ok (.ifCond .ne 7, 3) := by decide +kernel
theorem dX1_successorOf_12 : decode cX1_successorOf 12 = .ok (.aload_n 2, 1) := by decide +kernel
theorem dX1_successorOf_13 : decode cX1_successorOf 13 = .ok (.iconst 0, 1) := by decide +kernel
theorem dX1_successorOf_14 : decode cX1_successorOf 14 = .ok (.iaload, 1) := by decide +kernel
theorem dX1_successorOf_15 : decode cX1_successorOf 15 = .ok (.ireturn, 1) := by decide +kernel
theorem dX1_successorOf_16 : decode cX1_successorOf 16 = .ok (.aload_n 0, 1) := by decide +kernel
theorem dX1_successorOf_17 : decode cX1_successorOf 17 = .ok (.getfield 9, 3) := by decide +kernel
theorem dX1_successorOf_20 : decode cX1_successorOf 20 = .ok (.aload_n 2, 1) := by decide +kernel
theorem dX1_successorOf_21 : decode cX1_successorOf 21 = .ok (.iconst 0, 1) := by decide +kernel
theorem dX1_successorOf_22 : decode cX1_successorOf 22 = .ok (.iaload, 1) := by decide +kernel
theorem dX1_successorOf_23 : decode cX1_successorOf 23 = .ok (.iaload, 1) := by decide +kernel
theorem dX1_successorOf_24 : decode cX1_successorOf 24 = .ok (.ifCond .eq 9, 3) := by decide +kernel
theorem dX1_successorOf_27 : decode cX1_successorOf 27 = .ok (.aload_n 2, 1) := by decide +kernel
theorem dX1_successorOf_28 : decode cX1_successorOf 28 = .ok (.iconst 1, 1) := by decide +kernel
theorem dX1_successorOf_29 : decode cX1_successorOf 29 = .ok (.iaload, 1) := by decide +kernel
theorem dX1_successorOf_30 : decode cX1_successorOf 30 = .ok (.goto 6, 3) := by decide +kernel
theorem dX1_successorOf_33 : decode cX1_successorOf 33 = .ok (.aload_n 2, 1) := by decide +kernel
theorem dX1_successorOf_34 : decode cX1_successorOf 34 = .ok (.iconst 2, 1) := by decide +kernel
theorem dX1_successorOf_35 : decode cX1_successorOf 35 = .ok (.iaload, 1) := by decide +kernel
theorem dX1_successorOf_36 : decode cX1_successorOf 36 = .ok (.ireturn, 1) := by decide +kernel
set_option maxRecDepth 20000 in
theorem ggX1_perform_X1_emit : GoodIn wsX1_perform wsX1_emit := goodIn_r _ [6, 7, 8, 17, 18, 19] (by decide +kernel) (by decide +kernel)
set_option maxRecDepth 20000 in
theorem gX1_perform_X1_emit : GoodIn wsX1_perform (wsV RX1 68 RX1 yX1_emit wsX1_emit) := goodIn_app (goodIn_of _ (by decide +kernel)) ggX1_perform_X1_emit
theorem dX1_perform_0 : decode cX1_perform 0 = .ok (.aload_n 1, 1) := by decide +kernel
theorem dX1_perform_1 : decode cX1_perform 1 = .ok (.getfield 56, 3) := by decide +kernel
theorem dX1_perform_4 : decode cX1_perform 4 = .ok (.iload_n 2, 1) := by decide +kernel
theorem dX1_perform_5 : decode cX1_perform 5 = .ok (.iaload, 1) := by decide +kernel
theorem dX1_perform_6 : decode cX1_perform 6 = .ok (.istore_n 3, 1) := by decide +kernel
theorem dX1_perform_7 : decode cX1_perform 7 = .ok (.aload_n 1, 1) := by decide +kernel
theorem dX1_perform_8 : decode cX1_perform 8 = .ok (.getfield 59, 3) := by decide +kernel
theorem dX1_perform_11 : decode cX1_perform 11 = .ok (.iload_n 2, 1) := by decide +kernel
theorem dX1_perform_12 : decode cX1_perform 12 = .ok (.iaload, 1) := by decide +kernel
theorem dX1_perform_13 : decode cX1_perform 13 = .ok (.istore 4, 2) := by decide +kernel
theorem dX1_perform_15 : decode cX1_perform 15 = .ok (.aload_n 1, 1) := by decide +kernel
theorem dX1_perform_16 : decode cX1_perform 16 = .ok (.getfield 62, 3) := by decide +kernel
theorem dX1_perform_19 : decode cX1_perform 19 = .ok (.iload_n 2, 1) := by decide +kernel
theorem dX1_perform_20 : decode cX1_perform 20 = .ok (.iaload, 1) := by decide +kernel
theorem dX1_perform_21 : decode cX1_perform 21 = .ok (.istore 5, 2) := by decide +kernel
theorem dX1_perform_23 : decode cX1_perform 23 = .ok (.aload_n 1, 1) := by decide +kernel
theorem dX1_perform_24 : decode cX1_perform 24 = .ok (.getfield 65, 3) := by decide +kernel
theorem dX1_perform_27 : decode cX1_perform 27 = .ok (.iload_n 2, 1) := by decide +kernel
theorem dX1_perform_28 : decode cX1_perform 28 = .ok (.iaload, 1) := by decide +kernel
theorem dX1_perform_29 : decode cX1_perform 29 = .ok (.tableswitch 169 0 5 #[39, 50, 66, 90, 114, 138], 39) := by decide +kernel
theorem dX1_perform_68 : decode cX1_perform 68 = .ok (.aload_n 0, 1) := by decide +kernel
theorem dX1_perform_69 : decode cX1_perform 69 = .ok (.getfield 9, 3) := by decide +kernel
theorem dX1_perform_72 : decode cX1_perform 72 = .ok (.iload_n 3, 1) := by decide +kernel
theorem dX1_perform_73 : decode cX1_perform 73 = .ok (.iload 4, 2) := by decide +kernel
theorem dX1_perform_75 : decode cX1_perform 75 = .ok (.iastore, 1) := by decide +kernel
theorem dX1_perform_76 : decode cX1_perform 76 = .ok (.goto 133, 3) := by decide +kernel
theorem dX1_perform_79 : decode cX1_perform 79 = .ok (.aload_n 0, 1) := by decide +kernel
theorem dX1_perform_80 : decode cX1_perform 80 = .ok (.getfield 9, 3) := by decide +kernel
theorem dX1_perform_83 : decode cX1_perform 83 = .ok (.iload_n 3, 1) := by decide +kernel
theorem dX1_perform_84 : decode cX1_perform 84 = .ok (.aload_n 0, 1) := by decide +kernel
theorem dX1_perform_85 : decode cX1_perform 85 = .ok (.getfield 9, 3) := by decide +kernel
theorem dX1_perform_88 : decode cX1_perform 88 = .ok (.iload 4, 2) := by decide +kernel
theorem dX1_perform_90 : decode cX1_perform 90 = .ok (.iaload, 1) := by decide +kernel
theorem dX1_perform_91 : decode cX1_perform 91 = .ok (.iastore, 1) := by decide +kernel
theorem dX1_perform_92 : decode cX1_perform 92 = .ok (.goto 117, 3) := by decide +kernel
theorem dX1_perform_95 : decode cX1_perform 95 = .ok (.aload_n 0, 1) := by decide +kernel
theorem dX1_perform_96 : decode cX1_perform 96 = .ok (.getfield 9, 3) := by decide +kernel
theorem dX1_perform_99 : decode cX1_perform 99 = .ok (.iload_n 3, 1) := by decide +kernel
theorem dX1_perform_100 : decode cX1_perform 100 = .ok (.aload_n 0, 1) := by decide +kernel
theorem dX1_perform_101 : decode cX1_perform 101 = .ok (.getfield 9, 3) := by decide +kernel
theorem dX1_perform_104 : decode cX1_perform 104 = .ok (.iload 4, 2) := by decide +kernel
theorem dX1_perform_106 : decode cX1_perform 106 = .ok (.iaload, 1) := by decide +kernel
theorem dX1_perform_107 : decode cX1_perform 107 = .ok (.aload_n 0, 1) := by decide +kernel
theorem dX1_perform_108 : decode cX1_perform 108 = .ok (.getfield 9, 3) := by decide +kernel
theorem dX1_perform_111 : decode cX1_perform 111 = .ok (.iload 5, 2) := by decide +kernel
theorem dX1_perform_113 : decode cX1_perform 113 = .ok (.iaload, 1) := by decide +kernel
theorem dX1_perform_114 : decode cX1_perform 114 = .ok (.iadd, 1) := by decide +kernel
theorem dX1_perform_115 : decode cX1_perform 115 = .ok (.iastore, 1) := by decide +kernel
theorem dX1_perform_116 : decode cX1_perform 116 = .ok (.goto 93, 3) := by decide +kernel
theorem dX1_perform_119 : decode cX1_perform 119 = .ok (.aload_n 0, 1) := by decide +kernel
theorem dX1_perform_120 : decode cX1_perform 120 = .ok (.getfield 9, 3) := by decide +kernel
theorem dX1_perform_123 : decode cX1_perform 123 = .ok (.iload_n 3, 1) := by decide +kernel
theorem dX1_perform_124 : decode cX1_perform 124 = .ok (.aload_n 0, 1) := by decide +kernel
theorem dX1_perform_125 : decode cX1_perform 125 = .ok (.getfield 9, 3) := by decide +kernel
theorem dX1_perform_128 : decode cX1_perform 128 = .ok (.iload 4, 2) := by decide +kernel
theorem dX1_perform_130 : decode cX1_perform 130 = .ok (.iaload, 1) := by decide +kernel
theorem dX1_perform_131 : decode cX1_perform 131 = .ok (.aload_n 0, 1) := by decide +kernel
theorem dX1_perform_132 : decode cX1_perform 132 = .ok (.getfield 9, 3) := by decide +kernel
theorem dX1_perform_135 : decode cX1_perform 135 = .ok (.iload 5, 2) := by decide +kernel
theorem dX1_perform_137 : decode cX1_perform 137 = .ok (.iaload, 1) := by decide +kernel
theorem dX1_perform_138 : decode cX1_perform 138 = .ok (.isub, 1) := by decide +kernel
theorem dX1_perform_139 : decode cX1_perform 139 = .ok (.iastore, 1) := by decide +kernel
theorem dX1_perform_140 : decode cX1_perform 140 = .ok (.goto 69, 3) := by decide +kernel
theorem dX1_perform_143 : decode cX1_perform 143 = .ok (.aload_n 0, 1) := by decide +kernel
theorem dX1_perform_144 : decode cX1_perform 144 = .ok (.getfield 9, 3) := by decide +kernel
theorem dX1_perform_147 : decode cX1_perform 147 = .ok (.iload_n 3, 1) := by decide +kernel
theorem dX1_perform_148 : decode cX1_perform 148 = .ok (.aload_n 0, 1) := by decide +kernel
theorem dX1_perform_149 : decode cX1_perform 149 = .ok (.getfield 9, 3) := by decide +kernel
theorem dX1_perform_152 : decode cX1_perform 152 = .ok (.iload 4, 2) := by decide +kernel
theorem dX1_perform_154 : decode cX1_perform 154 = .ok (.iaload, 1) := by decide +kernel
theorem dX1_perform_155 : decode cX1_perform 155 = .ok (.aload_n 0, 1) := by decide +kernel
theorem dX1_perform_156 : decode cX1_perform 156 = .ok (.getfield 9, 3) := by decide +kernel
theorem dX1_perform_159 : decode cX1_perform 159 = .ok (.iload 5, 2) := by decide +kernel
theorem dX1_perform_161 : decode cX1_perform 161 = .ok (.iaload, 1) := by decide +kernel
theorem dX1_perform_162 : decode cX1_perform 162 = .ok (.imul, 1) := by decide +kernel
theorem dX1_perform_163 : decode cX1_perform 163 = .ok (.iastore, 1) := by decide +kernel
theorem dX1_perform_164 : decode cX1_perform 164 = .ok (.goto 45, 3) := by decide +kernel
theorem dX1_perform_167 : decode cX1_perform 167 = .ok (.aload_n 0, 1) := by decide +kernel
theorem dX1_perform_168 : decode cX1_perform 168 = .ok (.getfield 9, 3) := by decide +kernel
theorem dX1_perform_171 : decode cX1_perform 171 = .ok (.iload_n 3, 1) := by decide +kernel
theorem dX1_perform_172 : decode cX1_perform 172 = .ok (.aload_n 0, 1) := by decide +kernel
theorem dX1_perform_173 : decode cX1_perform 173 = .ok (.getfield 9, 3) := by decide +kernel
theorem dX1_perform_176 : decode cX1_perform 176 = .ok (.iload 4, 2) := by decide +kernel
theorem dX1_perform_178 : decode cX1_perform 178 = .ok (.iaload, 1) := by decide +kernel
theorem dX1_perform_179 : decode cX1_perform 179 = .ok (.aload_n 0, 1) := by decide +kernel
theorem dX1_perform_180 : decode cX1_perform 180 = .ok (.getfield 9, 3) := by decide +kernel
theorem dX1_perform_183 : decode cX1_perform 183 = .ok (.iload 5, 2) := by decide +kernel
theorem dX1_perform_185 : decode cX1_perform 185 = .ok (.iaload, 1) := by decide +kernel
theorem dX1_perform_186 : decode cX1_perform 186 = .ok (.if_icmp .ge 7, 3) := by decide +kernel
theorem dX1_perform_189 : decode cX1_perform 189 = .ok (.iconst 1, 1) := by decide +kernel
theorem dX1_perform_190 : decode cX1_perform 190 = .ok (.goto 4, 3) := by decide +kernel
theorem dX1_perform_193 : decode cX1_perform 193 = .ok (.iconst 0, 1) := by decide +kernel
theorem dX1_perform_194 : decode cX1_perform 194 = .ok (.iastore, 1) := by decide +kernel
theorem dX1_perform_195 : decode cX1_perform 195 = .ok (.goto 14, 3) := by decide +kernel
theorem dX1_perform_198 : decode cX1_perform 198 = .ok (.aload_n 0, 1) := by decide +kernel
theorem dX1_perform_199 : decode cX1_perform 199 = .ok (.aload_n 0, 1) := by decide +kernel
theorem dX1_perform_200 : decode cX1_perform 200 = .ok (.getfield 9, 3) := by decide +kernel
theorem dX1_perform_203 : decode cX1_perform 203 = .ok (.iload 4, 2) := by decide +kernel
theorem dX1_perform_205 : decode cX1_perform 205 = .ok (.iaload, 1) := by decide +kernel
theorem dX1_perform_206 : decode cX1_perform 206 = .ok (.invokevirtual 68, 3) := by decide +kernel
theorem dX1_perform_209 : decode cX1_perform 209 = .ok (.return_, 1) := by decide +kernel
theorem dX1_emit_0 : decode cX1_emit 0 = .ok (.aload_n 0, 1) := by decide +kernel
theorem dX1_emit_1 : decode cX1_emit 1 = .ok (.getfield 18, 3) := by decide +kernel
theorem dX1_emit_4 : decode cX1_emit 4 = .ok (.sipush 1000, 3) := by decide +kernel
theorem dX1_emit_7 : decode cX1_emit 7 = .ok (.if_icmp .ge 23, 3) := by decide +kernel
theorem dX1_emit_10 : decode cX1_emit 10 = .ok (.aload_n 0, 1) := by decide +kernel
theorem dX1_emit_11 : decode cX1_emit 11 = .ok (.getfield 15, 3) := by decide +kernel
theorem dX1_emit_14 : decode cX1_emit 14 = .ok (.aload_n 0, 1) := by decide +kernel
theorem dX1_emit_15 : decode cX1_emit 15 = .ok (.getfield 18, 3) := by decide +kernel
theorem dX1_emit_18 : decode cX1_emit 18 = .ok (.iload_n 1, 1) := by decide +kernel
theorem dX1_emit_19 : decode cX1_emit 19 = .ok (.iastore, 1) := by decide +kernel
theorem dX1_emit_20 : decode cX1_emit 20 = .ok (.aload_n 0, 1) := by decide +kernel
theorem dX1_emit_21 : decode cX1_emit 21 = .ok (.dup, 1) := by decide +kernel
theorem dX1_emit_22 : decode cX1_emit 22 = .ok (.getfield 18, 3) := by decide +kernel
theorem dX1_emit_25 : decode cX1_emit 25 = .ok (.iconst 1, 1) := by decide +kernel
theorem dX1_emit_26 : decode cX1_emit 26 = .ok (.iadd, 1) := by decide +kernel
theorem dX1_emit_27 : decode cX1_emit 27 = .ok (.putfield 18, 3) := by decide +kernel
theorem dX1_emit_30 : decode cX1_emit 30 = .ok (.return_, 1) := by decide +kernel
set_option maxRecDepth 20000 in
theorem ggX2_init_X0_init : GoodIn wsX2_init wsX0_init := goodIn_r _ [14, 15, 2, 3, 10, 16, 17, 18, 19, 20, 21, 22, 23, 29, 30, 31, 32, 33, 34, 35, 36] (by decide +kernel) (by decide +kernel)
set_option maxRecDepth 20000 in
theorem gX2_init_X0_init_n17 : GoodIn wsX2_init (wsX0_init) := ggX2_init_X0_init
theorem dX2_init_0 : decode cX2_init 0 = .ok (.aload_n 0, 1) := by decide +kernel
theorem dX2_init_1 : decode cX2_init 1 = .ok (.invokespecial 3, 3) := by decide +kernel
theorem dX2_init_4 : decode cX2_init 4 = .ok (.aload_n 0, 1) := by decide +kernel
theorem dX2_init_5 : decode cX2_init 5 = .ok (.bipush 12, 2) := by decide +kernel
theorem dX2_init_7 : decode cX2_init 7 = .ok (.anewarray 9, 3) := by decide +kernel
theorem dX2_init_10 : decode cX2_init 10 = .ok (.putfield 11, 3) := by decide +kernel
theorem dX2_init_13 : decode cX2_init 13 = .ok (.iconst 0, 1) := by decide +kernel
theorem dX2_init_14 : decode cX2_init 14 = .ok (.istore_n 1, 1) := by decide +kernel
theorem dX2_init_15 : decode cX2_init 15 = .ok (.iload_n 1, 1) := by decide +kernel
theorem dX2_init_16 : decode cX2_init 16 = .ok (.bipush 12, 2) := by decide +kernel
theorem dX2_init_18 : decode cX2_init 18 = .ok (.if_icmp .ge 22, 3) := by decide +kernel
theorem dX2_init_21 : decode cX2_init 21 = .ok (.aload_n 0, 1) := by decide +kernel
theorem dX2_init_22 : decode cX2_init 22 = .ok (.getfield 11, 3) := by decide +kernel
theorem dX2_init_25 : decode cX2_init 25 = .ok (.iload_n 1, 1) := by decide +kernel
theorem dX2_init_26 : decode cX2_init 26 = .ok (.new 9, 3) := by decide +kernel
theorem dX2_init_29 : decode cX2_init 29 = .ok (.dup, 1) := by decide +kernel
theorem dX2_init_30 : decode cX2_init 30 = .ok (.invokespecial 17, 3) := by decide +kernel
theorem dX2_init_33 : decode cX2_init 33 = .ok (.aastore, 1) := by decide +kernel
theorem dX2_init_34 : decode cX2_init 34 = .ok (.iinc 1 1, 3) := by decide +kernel
theorem dX2_init_37 : decode cX2_init 37 = .ok (.goto (-22), 3) := by decide +kernel
theorem dX2_init_40 : decode cX2_init 40 = .ok (.aload_n 0, 1) := by decide +kernel
theorem dX2_init_41 : decode cX2_init 41 = .ok (.iconst 0, 1) := by decide +kernel
theorem dX2_init_42 : decode cX2_init 42 = .ok (.putfield 18, 3) := by decide +kernel
theorem dX2_init_45 : decode cX2_init 45 = .ok (.aload_n 0, 1) := by decide +kernel
theorem dX2_init_46 : decode cX2_init 46 = .ok (.iconst 1, 1) := by decide +kernel
theorem dX2_init_47 : decode cX2_init 47 = .ok (.putfield 22, 3) := by decide +kernel
theorem dX2_init_50 : decode cX2_init 50 = .ok (.aload_n 0, 1) := by decide +kernel
theorem dX2_init_51 : decode cX2_init 51 = .ok (.bipush 8, 2) := by decide +kernel
theorem dX2_init_53 : decode cX2_init 53 = .ok (.newarray .int, 2) := by decide +kernel
theorem dX2_init_55 : decode cX2_init 55 = .ok (.putfield 25, 3) := by decide +kernel
theorem dX2_init_58 : decode cX2_init 58 = .ok (.aload_n 0, 1) := by decide +kernel
theorem dX2_init_59 : decode cX2_init 59 = .ok (.bipush 12, 2) := by decide +kernel
theorem dX2_init_61 : decode cX2_init 61 = .ok (.newarray .int, 2) := by decide +kernel
theorem dX2_init_63 : decode cX2_init 63 = .ok (.putfield 29, 3) := by decide +kernel
theorem dX2_init_66 : decode cX2_init 66 = .ok (.return_, 1) := by decide +kernel
theorem dX2_has_0 : decode cX2_has 0 = .ok (.iload_n 1, 1) := by decide +kernel
theorem dX2_has_1 : decode cX2_has 1 = .ok (.ifCond .lt 15, 3) := by decide +kernel
theorem dX2_has_4 : decode cX2_has 4 = .ok (.iload_n 1, 1) := by decide +kernel
theorem dX2_has_5 : decode cX2_has 5 = .ok (.aload_n 0, 1) := by decide +kernel
theorem dX2_has_6 : decode cX2_has 6 = .ok (.getfield 18, 3) := by decide +kernel
theorem dX2_has_9 : decode cX2_has 9 = .ok (.if_icmp .ge 7, 3) := by decide +kernel
theorem dX2_has_12 : decode cX2_has 12 = .ok (.iconst 1, 1) := by decide +kernel
theorem dX2_has_13 : decode cX2_has 13 = .ok (.goto 4, 3) := by decide +kernel
theorem dX2_has_16 : decode cX2_has 16 = .ok (.iconst 0, 1) := by decide +kernel
theorem dX2_has_17 : decode cX2_has 17 = .ok (.ireturn, 1) := by decide +kernel
set_option maxRecDepth 20000 in
theorem ggX2_appendBlock_X0_clear : GoodIn wsX2_appendBlock wsX0_clear := goodIn_r _ [6, 7, 8, 9, 10, 4, 11, 12, 13, 19, 20, 21, 22, 23, 24, 25, 26] (by decide +kernel) (by decide +kernel)
set_option maxRecDepth 20000 in
theorem gX2_appendBlock_X0_clear_n32 : GoodIn wsX2_appendBlock (wsX0_clear) := ggX2_appendBlock_X0_clear
theorem dX2_appendBlock_0 : decode cX2_appendBlock 0 = .ok (.aload_n 0, 1) := by decide +kernel
theorem dX2_appendBlock_1 : decode cX2_appendBlock 1 = .ok (.getfield 18, 3) := by decide +kernel
theorem dX2_appendBlock_4 : decode cX2_appendBlock 4 = .ok (.bipush 12, 2) := by decide +kernel
theorem dX2_appendBlock_6 : decode cX2_appendBlock 6 = .ok (.if_icmp .lt 7, 3) := by decide +kernel
theorem dX2_appendBlock_9 : decode cX2_appendBlock 9 = .ok (.sipush (-1004), 3) := by decide +kernel
theorem dX2_appendBlock_12 : decode cX2_appendBlock 12 = .ok (.ireturn, 1) := by decide +kernel
theorem dX2_appendBlock_13 : decode cX2_appendBlock 13 = .ok (.aload_n 0, 1) := by decide +kernel
theorem dX2_appendBlock_14 : decode cX2_appendBlock 14 = .ok (.getfield 18, 3) := by decide +kernel
theorem dX2_appendBlock_17 : decode cX2_appendBlock 17 = .ok (.istore_n 1, 1) := by decide +kernel
theorem dX2_appendBlock_18 : decode cX2_appendBlock 18 = .ok (.aload_n 0, 1) := by decide +kernel
theorem dX2_appendBlock_19 : decode cX2_appendBlock 19 = .ok (.getfield 11, 3) := by decide +kernel
theorem dX2_appendBlock_22 : decode cX2_appendBlock 22 = .ok (.iload_n 1, 1) := by decide +kernel
theorem dX2_appendBlock_23 : decode cX2_appendBlock 23 = .ok (.aaload, 1) := by decide +kernel
theorem dX2_appendBlock_24 : decode cX2_appendBlock 24 = .ok (.invokevirtual 32, 3) := by decide +kernel
theorem dX2_appendBlock_27 : decode cX2_appendBlock 27 = .ok (.aload_n 0, 1) := by decide +kernel
theorem dX2_appendBlock_28 : decode cX2_appendBlock 28 = .ok (.dup, 1) := by decide +kernel
theorem dX2_appendBlock_29 : decode cX2_appendBlock 29 = .ok (.getfield 18, 3) := by decide +kernel
theorem dX2_appendBlock_32 : decode cX2_appendBlock 32 = .ok (.iconst 1, 1) := by decide +kernel
theorem dX2_appendBlock_33 : decode cX2_appendBlock 33 = .ok (.iadd, 1) := by decide +kernel
theorem dX2_appendBlock_34 : decode cX2_appendBlock 34 = .ok (.putfield 18, 3) := by decide +kernel
end
section
theorem dX2_appendBlock_37 : decode cX2_appendBlock 37 = .ok (.iload_n 1, 1) := by decide +kernel
theorem dX2_appendBlock_38 : decode cX2_appendBlock 38 = .ok (.ireturn, 1) := by decide +kernel
set_option maxRecDepth 20000 in
theorem ggX2_copyFrom_X0_copyFrom : GoodIn wsX2_copyFrom wsX0_copyFrom := goodIn_r _ [12, 13, 14, 15, 16, 10, 17, 18, 19, 20, 21, 22, 23, 24, 25, 26, 27, 28, 29, 30, 31, 32, 38, 39, 40, 41, 42, 43, 44, 45] (by decide +kernel) (by decide +kernel)
set_option maxRecDepth 20000 in
theorem gX2_copyFrom_X0_copyFrom_n35 : GoodIn wsX2_copyFrom (wsX0_copyFrom) := ggX2_copyFrom_X0_copyFrom
theorem dX2_copyFrom_0 : decode cX2_copyFrom 0 = .ok (.aload_n 0, 1) := by decide +kernel
theorem dX2_copyFrom_1 : decode cX2_copyFrom 1 = .ok (.aload_n 1, 1) := by decide +kernel
theorem dX2_copyFrom_2 : decode cX2_copyFrom 2 = .ok (.getfield 18, 3) := by decide +kernel
theorem dX2_copyFrom_5 : decode cX2_copyFrom 5 = .ok (.putfield 18, 3) := by decide +kernel
theorem dX2_copyFrom_8 : decode cX2_copyFrom 8 = .ok (.iconst 0, 1) := by decide +kernel
theorem dX2_copyFrom_9 : decode cX2_copyFrom 9 = .ok (.istore_n 2, 1) := by decide +kernel
theorem dX2_copyFrom_10 : decode cX2_copyFrom 10 = .ok (.iload_n 2, 1) := by decide +kernel
theorem dX2_copyFrom_11 : decode cX2_copyFrom 11 = .ok (.aload_n 0, 1) := by decide +kernel
theorem dX2_copyFrom_12 : decode cX2_copyFrom 12 = .ok (.getfield 18, 3) := by decide +kernel
theorem dX2_copyFrom_15 : decode cX2_copyFrom 15 = .ok (.if_icmp .ge 24, 3) := by decide +kernel
theorem dX2_copyFrom_18 : decode cX2_copyFrom 18 = .ok (.aload_n 0, 1) := by decide +kernel
theorem dX2_copyFrom_19 : decode cX2_copyFrom 19 = .ok (.getfield 11, 3) := by decide +kernel
theorem dX2_copyFrom_22 : decode cX2_copyFrom 22 = .ok (.iload_n 2, 1) := by decide +kernel
theorem dX2_copyFrom_23 : decode cX2_copyFrom 23 = .ok (.aaload, 1) := by decide +kernel
theorem dX2_copyFrom_24 : decode cX2_copyFrom 24 = .ok (.aload_n 1, 1) := by decide +kernel
theorem dX2_copyFrom_25 : decode cX2_copyFrom 25 = .ok (.getfield 11, 3) := by decide +kernel
theorem dX2_copyFrom_28 : decode cX2_copyFrom 28 = .ok (.iload_n 2, 1) := by decide +kernel
theorem dX2_copyFrom_29 : decode cX2_copyFrom 29 = .ok (.aaload, 1) := by decide +kernel
theorem dX2_copyFrom_30 : decode cX2_copyFrom 30 = .ok (.invokevirtual 35, 3) := by decide +kernel
theorem dX2_copyFrom_33 : decode cX2_copyFrom 33 = .ok (.iinc 2 1, 3) := by decide +kernel
theorem dX2_copyFrom_36 : decode cX2_copyFrom 36 = .ok (.goto (-26), 3) := by decide +kernel
theorem dX2_copyFrom_39 : decode cX2_copyFrom 39 = .ok (.aload_n 0, 1) := by decide +kernel
theorem dX2_copyFrom_40 : decode cX2_copyFrom 40 = .ok (.aload_n 1, 1) := by decide +kernel
theorem dX2_copyFrom_41 : decode cX2_copyFrom 41 = .ok (.getfield 22, 3) := by decide +kernel
theorem dX2_copyFrom_44 : decode cX2_copyFrom 44 = .ok (.putfield 22, 3) := by decide +kernel
theorem dX2_copyFrom_47 : decode cX2_copyFrom 47 = .ok (.aload_n 1, 1) := by decide +kernel
theorem dX2_copyFrom_48 : decode cX2_copyFrom 48 = .ok (.getfield 25, 3) := by decide +kernel
theorem dX2_copyFrom_51 : decode cX2_copyFrom 51 = .ok (.iconst 0, 1) := by decide +kernel
theorem dX2_copyFrom_52 : decode cX2_copyFrom 52 = .ok (.aload_n 0, 1) := by decide +kernel
theorem dX2_copyFrom_53 : decode cX2_copyFrom 53 = .ok (.getfield 25, 3) := by decide +kernel
theorem dX2_copyFrom_56 : decode cX2_copyFrom 56 = .ok (.iconst 0, 1) := by decide +kernel
theorem dX2_copyFrom_57 : decode cX2_copyFrom 57 = .ok (.bipush 8, 2) := by decide +kernel
theorem dX2_copyFrom_59 : decode cX2_copyFrom 59 = .ok (.invokestatic 39, 3) := by decide +kernel
theorem dX2_copyFrom_62 : decode cX2_copyFrom 62 = .ok (.return_, 1) := by decide +kernel
set_option maxRecDepth 20000 in
theorem ggX2_size_X2_terminatorCost : GoodIn wsX2_size wsX2_terminatorCost := goodIn_r _ [7, 2, 8, 9, 10, 11, 12, 13, 14, 15, 16, 17, 18, 19, 20, 21] (by decide +kernel) (by decide +kernel)
set_option maxRecDepth 20000 in
theorem gX2_size_X2_terminatorCost : GoodIn wsX2_size (wsV RX2 46 RX2 yX2_terminatorCost wsX2_terminatorCost) := goodIn_app (goodIn_of _ (by decide +kernel)) ggX2_size_X2_terminatorCost
theorem dX2_size_0 : decode cX2_size 0 = .ok (.iconst 0, 1) := by decide +kernel
theorem dX2_size_1 : decode cX2_size 1 = .ok (.istore_n 1, 1) := by decide +kernel
theorem dX2_size_2 : decode cX2_size 2 = .ok (.iconst 0, 1) := by decide +kernel
theorem dX2_size_3 : decode cX2_size 3 = .ok (.istore_n 2, 1) := by decide +kernel
theorem dX2_size_4 : decode cX2_size 4 = .ok (.iload_n 2, 1) := by decide +kernel
theorem dX2_size_5 : decode cX2_size 5 = .ok (.aload_n 0, 1) := by decide +kernel
theorem dX2_size_6 : decode cX2_size 6 = .ok (.getfield 18, 3) := by decide +kernel
theorem dX2_size_9 : decode cX2_size 9 = .ok (.if_icmp .ge 27, 3) := by decide +kernel
theorem dX2_size_12 : decode cX2_size 12 = .ok (.iload_n 1, 1) := by decide +kernel
theorem dX2_size_13 : decode cX2_size 13 = .ok (.aload_n 0, 1) := by decide +kernel
theorem dX2_size_14 : decode cX2_size 14 = .ok (.getfield 11, 3) := by decide +kernel
theorem dX2_size_17 : decode cX2_size 17 = .ok (.iload_n 2, 1) := by decide +kernel
theorem dX2_size_18 : decode cX2_size 18 = .ok (.aaload, 1) := by decide +kernel
theorem dX2_size_19 : decode cX2_size 19 = .ok (.getfield 45, 3) := by decide +kernel
theorem dX2_size_22 : decode cX2_size 22 = .ok (.aload_n 0, 1) := by decide +kernel
theorem dX2_size_23 : decode cX2_size 23 = .ok (.iload_n 2, 1) := by decide +kernel
theorem dX2_size_24 : decode cX2_size 24 = .ok (.invokevirtual 46, 3) := by decide +kernel
theorem dX2_size_27 : decode cX2_size 27 = .ok (.iadd, 1) := by decide +kernel
theorem dX2_size_28 : decode cX2_size 28 = .ok (.iadd, 1) := by decide +kernel
theorem dX2_size_29 : decode cX2_size 29 = .ok (.istore_n 1, 1) := by decide +kernel
theorem dX2_size_30 : decode cX2_size 30 = .ok (.iinc 2 1, 3) := by decide +kernel
theorem dX2_size_33 : decode cX2_size 33 = .ok (.goto (-29), 3) := by decide +kernel
theorem dX2_size_36 : decode cX2_size 36 = .ok (.iload_n 1, 1) := by decide +kernel
theorem dX2_size_37 : decode cX2_size 37 = .ok (.ireturn, 1) := by decide +kernel
theorem dX2_terminatorCost_0 : decode cX2_terminatorCost 0 = .ok (.aload_n 0, 1) := by decide +kernel
theorem dX2_terminatorCost_1 : decode cX2_terminatorCost 1 = .ok (.getfield 11, 3) := by decide +kernel
theorem dX2_terminatorCost_4 : decode cX2_terminatorCost 4 = .ok (.iload_n 1, 1) := by decide +kernel
theorem dX2_terminatorCost_5 : decode cX2_terminatorCost 5 = .ok (.aaload, 1) := by decide +kernel
theorem dX2_terminatorCost_6 : decode cX2_terminatorCost 6 = .ok (.getfield 50, 3) := by decide +kernel
theorem dX2_terminatorCost_9 : decode cX2_terminatorCost 9 = .ok (.lookupswitch 34 #[(0, 27), (1, 32)], 27) := by decide +kernel
theorem dX2_terminatorCost_36 : decode cX2_terminatorCost 36 = .ok (.aload_n 0, 1) := by decide +kernel
theorem dX2_terminatorCost_37 : decode cX2_terminatorCost 37 = .ok (.getfield 22, 3) := by decide +kernel
theorem dX2_terminatorCost_40 : decode cX2_terminatorCost 40 = .ok (.ireturn, 1) := by decide +kernel
theorem dX2_terminatorCost_41 : decode cX2_terminatorCost 41 = .ok (.iconst 2, 1) := by decide +kernel
theorem dX2_terminatorCost_42 : decode cX2_terminatorCost 42 = .ok (.ireturn, 1) := by decide +kernel
theorem dX2_terminatorCost_43 : decode cX2_terminatorCost 43 = .ok (.iconst 1, 1) := by decide +kernel
theorem dX2_terminatorCost_44 : decode cX2_terminatorCost 44 = .ok (.ireturn, 1) := by decide +kernel
set_option maxRecDepth 20000 in
theorem ggX2_tailOfSet_X2_contains : GoodIn wsX2_tailOfSet wsX2_contains := goodIn_r _ [10] (by decide +kernel) (by decide +kernel)
set_option maxRecDepth 20000 in
theorem gX2_tailOfSet_X2_contains : GoodIn wsX2_tailOfSet (va_wsS RX2 53 yX2_contains wsX2_contains) := goodIn_app (goodIn_of _ (by decide +kernel)) ggX2_tailOfSet_X2_contains
set_option maxRecDepth 20000 in
theorem ggX2_tailOfSet_X0_tailSharedWith : GoodIn wsX2_tailOfSet wsX0_tailSharedWith := goodIn_r _ [14, 15, 16, 4, 5, 6, 17, 18, 19, 12, 20, 21, 22, 23, 24, 25, 26, 27, 28, 29, 30, 36, 37, 38, 39, 40, 41, 42, 43] (by decide +kernel) (by decide +kernel)
set_option maxRecDepth 20000 in
theorem gX2_tailOfSet_X0_tailSharedWith_n57 : GoodIn wsX2_tailOfSet (wsX0_tailSharedWith) := ggX2_tailOfSet_X0_tailSharedWith
theorem dX2_tailOfSet_0 : decode cX2_tailOfSet 0 = .ok (.sipush (-1008), 3) := by decide +kernel
theorem dX2_tailOfSet_3 : decode cX2_tailOfSet 3 = .ok (.istore_n 2, 1) := by decide +kernel
theorem dX2_tailOfSet_4 : decode cX2_tailOfSet 4 = .ok (.sipush (-1005), 3) := by decide +kernel
theorem dX2_tailOfSet_7 : decode cX2_tailOfSet 7 = .ok (.istore_n 3, 1) := by decide +kernel
theorem dX2_tailOfSet_8 : decode cX2_tailOfSet 8 = .ok (.iconst 0, 1) := by decide +kernel
theorem dX2_tailOfSet_9 : decode cX2_tailOfSet 9 = .ok (.istore 4, 2) := by decide +kernel
theorem dX2_tailOfSet_11 : decode cX2_tailOfSet 11 = .ok (.iload 4, 2) := by decide +kernel
theorem dX2_tailOfSet_13 : decode cX2_tailOfSet 13 = .ok (.aload_n 0, 1) := by decide +kernel
theorem dX2_tailOfSet_14 : decode cX2_tailOfSet 14 = .ok (.getfield 18, 3) := by decide +kernel
theorem dX2_tailOfSet_17 : decode cX2_tailOfSet 17 = .ok (.if_icmp .ge 63, 3) := by decide +kernel
theorem dX2_tailOfSet_20 : decode cX2_tailOfSet 20 = .ok (.iload_n 1, 1) := by decide +kernel
theorem dX2_tailOfSet_21 : decode cX2_tailOfSet 21 = .ok (.iload 4, 2) := by decide +kernel
theorem dX2_tailOfSet_23 : decode cX2_tailOfSet 23 = .ok (.invokestatic 53, 3) := by decide +kernel
theorem dX2_tailOfSet_26 : decode cX2_tailOfSet 26 = .ok (.ifCond .eq 48, 3) := by decide +kernel
theorem dX2_tailOfSet_29 : decode cX2_tailOfSet 29 = .ok (.iload_n 2, 1) := by decide +kernel
theorem dX2_tailOfSet_30 : decode cX2_tailOfSet 30 = .ok (.sipush (-1008), 3) := by decide +kernel
theorem dX2_tailOfSet_33 : decode cX2_tailOfSet 33 = .ok (.if_icmp .ne 20, 3) := by decide +kernel
theorem dX2_tailOfSet_36 : decode cX2_tailOfSet 36 = .ok (.iload 4, 2) := by decide +kernel
theorem dX2_tailOfSet_38 : decode cX2_tailOfSet 38 = .ok (.istore_n 2, 1) := by decide +kernel
theorem dX2_tailOfSet_39 : decode cX2_tailOfSet 39 = .ok (.aload_n 0, 1) := by decide +kernel
theorem dX2_tailOfSet_40 : decode cX2_tailOfSet 40 = .ok (.getfield 11, 3) := by decide +kernel
theorem dX2_tailOfSet_43 : decode cX2_tailOfSet 43 = .ok (.iload 4, 2) := by decide +kernel
theorem dX2_tailOfSet_45 : decode cX2_tailOfSet 45 = .ok (.aaload, 1) := by decide +kernel
theorem dX2_tailOfSet_46 : decode cX2_tailOfSet 46 = .ok (.getfield 45, 3) := by decide +kernel
theorem dX2_tailOfSet_49 : decode cX2_tailOfSet 49 = .ok (.istore_n 3, 1) := by decide +kernel
theorem dX2_tailOfSet_50 : decode cX2_tailOfSet 50 = .ok (.goto 24, 3) := by decide +kernel
theorem dX2_tailOfSet_53 : decode cX2_tailOfSet 53 = .ok (.iload_n 3, 1) := by decide +kernel
theorem dX2_tailOfSet_54 : decode cX2_tailOfSet 54 = .ok (.aload_n 0, 1) := by decide +kernel
theorem dX2_tailOfSet_55 : decode cX2_tailOfSet 55 = .ok (.getfield 11, 3) := by decide +kernel
theorem dX2_tailOfSet_58 : decode cX2_tailOfSet 58 = .ok (.iload_n 2, 1) := by decide +kernel
theorem dX2_tailOfSet_59 : decode cX2_tailOfSet 59 = .ok (.aaload, 1) := by decide +kernel
theorem dX2_tailOfSet_60 : decode cX2_tailOfSet 60 = .ok (.aload_n 0, 1) := by decide +kernel
theorem dX2_tailOfSet_61 : decode cX2_tailOfSet 61 = .ok (.getfield 11, 3) := by decide +kernel
theorem dX2_tailOfSet_64 : decode cX2_tailOfSet 64 = .ok (.iload 4, 2) := by decide +kernel
theorem dX2_tailOfSet_66 : decode cX2_tailOfSet 66 = .ok (.aaload, 1) := by decide +kernel
theorem dX2_tailOfSet_67 : decode cX2_tailOfSet 67 = .ok (.invokevirtual 57, 3) := by decide +kernel
theorem dX2_tailOfSet_70 : decode cX2_tailOfSet 70 = .ok (.invokestatic 61, 3) := by decide +kernel
theorem dX2_tailOfSet_73 : decode cX2_tailOfSet 73 = .ok (.istore_n 3, 1) := by decide +kernel
theorem dX2_tailOfSet_74 : decode cX2_tailOfSet 74 = .ok (.iinc 4 1, 3) := by decide +kernel
theorem dX2_tailOfSet_77 : decode cX2_tailOfSet 77 = .ok (.goto (-66), 3) := by decide +kernel
theorem dX2_tailOfSet_80 : decode cX2_tailOfSet 80 = .ok (.iload_n 3, 1) := by decide +kernel
theorem dX2_tailOfSet_81 : decode cX2_tailOfSet 81 = .ok (.ireturn, 1) := by decide +kernel
theorem dX2_contains_0 : decode cX2_contains 0 = .ok (.iload_n 0, 1) := by decide +kernel
theorem dX2_contains_1 : decode cX2_contains 1 = .ok (.iload_n 1, 1) := by decide +kernel
theorem dX2_contains_2 : decode cX2_contains 2 = .ok (.ishr, 1) := by decide +kernel
theorem dX2_contains_3 : decode cX2_contains 3 = .ok (.iconst 1, 1) := by decide +kernel
theorem dX2_contains_4 : decode cX2_contains 4 = .ok (.iand, 1) := by decide +kernel
theorem dX2_contains_5 : decode cX2_contains 5 = .ok (.iconst 1, 1) := by decide +kernel
theorem dX2_contains_6 : decode cX2_contains 6 = .ok (.if_icmp .ne 7, 3) := by decide +kernel
theorem dX2_contains_9 : decode cX2_contains 9 = .ok (.iconst 1, 1) := by decide +kernel
theorem dX2_contains_10 : decode cX2_contains 10 = .ok (.goto 4, 3) := by decide +kernel
theorem dX2_contains_13 : decode cX2_contains 13 = .ok (.iconst 0, 1) := by decide +kernel
theorem dX2_contains_14 : decode cX2_contains 14 = .ok (.ireturn, 1) := by decide +kernel
set_option maxRecDepth 20000 in
theorem ggX2_savingOfSet_X2_contains : GoodIn wsX2_savingOfSet wsX2_contains := goodIn_r _ [5] (by decide +kernel) (by decide +kernel)
set_option maxRecDepth 20000 in
theorem gX2_savingOfSet_X2_contains : GoodIn wsX2_savingOfSet (va_wsS RX2 53 yX2_contains wsX2_contains) := goodIn_app (goodIn_of _ (by decide +kernel)) ggX2_savingOfSet_X2_contains
set_option maxRecDepth 20000 in
theorem ggX2_savingOfSet_J6_bitCount_0f7a4 : GoodIn wsX2_savingOfSet wsJ6_bitCount_0f7a4 := goodIn_r _ [9, 10, 11, 12] (by decide +kernel) (by decide +kernel)
set_option maxRecDepth 20000 in
theorem gX2_savingOfSet_J6_bitCount_0f7a4 : GoodIn wsX2_savingOfSet (va_wsS RX2 67 yJ6_bitCount_0f7a4 wsJ6_bitCount_0f7a4) := goodIn_app (goodIn_of _ (by decide +kernel)) ggX2_savingOfSet_J6_bitCount_0f7a4
set_option maxRecDepth 20000 in
theorem ggX2_savingOfSet_X2_terminatorCost : GoodIn wsX2_savingOfSet wsX2_terminatorCost := goodIn_r _ [16, 17, 18, 23, 24, 25, 26, 27, 28, 29, 30, 31, 32, 33, 34, 35] (by decide +kernel) (by decide +kernel)
set_option maxRecDepth 20000 in
theorem gX2_savingOfSet_X2_terminatorCost : GoodIn wsX2_savingOfSet (wsV RX2 46 RX2 yX2_terminatorCost wsX2_terminatorCost) := goodIn_app (goodIn_of _ (by decide +kernel)) ggX2_savingOfSet_X2_terminatorCost
set_option maxRecDepth 20000 in
theorem ggX2_savingOfSet_X2_savingOf : GoodIn wsX2_savingOfSet wsX2_savingOf := goodIn_r _ [22, 18, 23, 24, 25, 26, 27] (by decide +kernel) (by decide +kernel)
set_option maxRecDepth 20000 in
theorem gX2_savingOfSet_X2_savingOf : GoodIn wsX2_savingOfSet (wsV RX2 72 RX2 yX2_savingOf wsX2_savingOf) := goodIn_app (goodIn_of _ (by decide +kernel)) ggX2_savingOfSet_X2_savingOf
theorem dX2_savingOfSet_0 : decode cX2_savingOfSet 0 = .ok (.iconst 0, 1) := by decide +kernel
theorem dX2_savingOfSet_1 : decode cX2_savingOfSet 1 = .ok (.istore_n 3, 1) := by decide +kernel
theorem dX2_savingOfSet_2 : decode cX2_savingOfSet 2 = .ok (.iconst 0, 1) := by decide +kernel
theorem dX2_savingOfSet_3 : decode cX2_savingOfSet 3 = .ok (.istore 4, 2) := by decide +kernel
theorem dX2_savingOfSet_5 : decode cX2_savingOfSet 5 = .ok (.iload 4, 2) := by decide +kernel
theorem dX2_savingOfSet_7 : decode cX2_savingOfSet 7 = .ok (.aload_n 0, 1) := by decide +kernel
theorem dX2_savingOfSet_8 : decode cX2_savingOfSet 8 = .ok (.getfield 18, 3) := by decide +kernel
theorem dX2_savingOfSet_11 : decode cX2_savingOfSet 11 = .ok (.if_icmp .ge 21, 3) := by decide +kernel
theorem dX2_savingOfSet_14 : decode cX2_savingOfSet 14 = .ok (.iload_n 1, 1) := by decide +kernel
theorem dX2_savingOfSet_15 : decode cX2_savingOfSet 15 = .ok (.iload 4, 2) := by decide +kernel
theorem dX2_savingOfSet_17 : decode cX2_savingOfSet 17 = .ok (.invokestatic 53, 3) := by decide +kernel
theorem dX2_savingOfSet_20 : decode cX2_savingOfSet 20 = .ok (.ifCond .eq 6, 3) := by decide +kernel
theorem dX2_savingOfSet_23 : decode cX2_savingOfSet 23 = .ok (.iload 4, 2) := by decide +kernel
theorem dX2_savingOfSet_25 : decode cX2_savingOfSet 25 = .ok (.istore_n 3, 1) := by decide +kernel
theorem dX2_savingOfSet_26 : decode cX2_savingOfSet 26 = .ok (.iinc 4 1, 3) := by decide +kernel
theorem dX2_savingOfSet_29 : decode cX2_savingOfSet 29 = .ok (.goto (-24), 3) := by decide +kernel
theorem dX2_savingOfSet_32 : decode cX2_savingOfSet 32 = .ok (.aload_n 0, 1) := by decide +kernel
theorem dX2_savingOfSet_33 : decode cX2_savingOfSet 33 = .ok (.iload_n 1, 1) := by decide +kernel
theorem dX2_savingOfSet_34 : decode cX2_savingOfSet 34 = .ok (.invokestatic 67, 3) := by decide +kernel
theorem dX2_savingOfSet_37 : decode cX2_savingOfSet 37 = .ok (.iload_n 2, 1) := by decide +kernel
theorem dX2_savingOfSet_38 : decode cX2_savingOfSet 38 = .ok (.aload_n 0, 1) := by decide +kernel
theorem dX2_savingOfSet_39 : decode cX2_savingOfSet 39 = .ok (.iload_n 3, 1) := by decide +kernel
theorem dX2_savingOfSet_40 : decode cX2_savingOfSet 40 = .ok (.invokevirtual 46, 3) := by decide +kernel
theorem dX2_savingOfSet_43 : decode cX2_savingOfSet 43 = .ok (.invokevirtual 72, 3) := by decide +kernel
theorem dX2_savingOfSet_46 : decode cX2_savingOfSet 46 = .ok (.ireturn, 1) := by decide +kernel
theorem dX2_savingOf_0 : decode cX2_savingOf 0 = .ok (.iload_n 1, 1) := by decide +kernel
theorem dX2_savingOf_1 : decode cX2_savingOf 1 = .ok (.iconst 1, 1) := by decide +kernel
theorem dX2_savingOf_2 : decode cX2_savingOf 2 = .ok (.isub, 1) := by decide +kernel
theorem dX2_savingOf_3 : decode cX2_savingOf 3 = .ok (.iload_n 2, 1) := by decide +kernel
theorem dX2_savingOf_4 : decode cX2_savingOf 4 = .ok (.iload_n 3, 1) := by decide +kernel
theorem dX2_savingOf_5 : decode cX2_savingOf 5 = .ok (.iadd, 1) := by decide +kernel
theorem dX2_savingOf_6 : decode cX2_savingOf 6 = .ok (.imul, 1) := by decide +kernel
theorem dX2_savingOf_7 : decode cX2_savingOf 7 = .ok (.iload_n 1, 1) := by decide +kernel
theorem dX2_savingOf_8 : decode cX2_savingOf 8 = .ok (.aload_n 0, 1) := by decide +kernel
theorem dX2_savingOf_9 : decode cX2_savingOf 9 = .ok (.getfield 22, 3) := by decide +kernel
theorem dX2_savingOf_12 : decode cX2_savingOf 12 = .ok (.imul, 1) := by decide +kernel
theorem dX2_savingOf_13 : decode cX2_savingOf 13 = .ok (.isub, 1) := by decide +kernel
theorem dX2_savingOf_14 : decode cX2_savingOf 14 = .ok (.ireturn, 1) := by decide +kernel
set_option maxRecDepth 20000 in
theorem ggX2_bestSet_X2_compareWithLater : GoodIn wsX2_bestSet wsX2_compareWithLater := goodIn_r _ [7, 1, 8, 2, 9, 10, 11, 12, 13, 14, 15, 16, 17, 18, 19, 20, 21, 22, 23, 24, 25, 26, 27, 28, 29, 30, 31, 52, 53, 54, 55, 56, 57, 58, 59, 60, 61, 62, 63, 64] (by decide +kernel) (by decide +kernel)
set_option maxRecDepth 20000 in
theorem gX2_bestSet_X2_compareWithLater : GoodIn wsX2_bestSet (wsV RX2 76 RX2 yX2_compareWithLater wsX2_compareWithLater) := goodIn_app (goodIn_of _ (by decide +kernel)) ggX2_bestSet_X2_compareWithLater
set_option maxRecDepth 20000 in
theorem ggX2_bestSet_X2_terminatorCost : GoodIn wsX2_bestSet wsX2_terminatorCost := goodIn_r _ [35, 2, 36, 52, 53, 54, 55, 56, 57, 58, 59, 60, 61, 62, 63, 64] (by decide +kernel) (by decide +kernel)
set_option maxRecDepth 20000 in
theorem gX2_bestSet_X2_terminatorCost : GoodIn wsX2_bestSet (wsV RX2 46 RX2 yX2_terminatorCost wsX2_terminatorCost) := goodIn_app (goodIn_of _ (by decide +kernel)) ggX2_bestSet_X2_terminatorCost
set_option maxRecDepth 20000 in
theorem ggX2_bestSet_X2_sharersFrom : GoodIn wsX2_bestSet wsX2_sharersFrom := goodIn_r _ [40, 1, 8, 52, 53, 54, 55, 56] (by decide +kernel) (by decide +kernel)
set_option maxRecDepth 20000 in
theorem gX2_bestSet_X2_sharersFrom : GoodIn wsX2_bestSet (wsV RX2 80 RX2 yX2_sharersFrom wsX2_sharersFrom) := goodIn_app (goodIn_of _ (by decide +kernel)) ggX2_bestSet_X2_sharersFrom
set_option maxRecDepth 20000 in
theorem ggX2_bestSet_J6_bitCount_0f7a4 : GoodIn wsX2_bestSet wsJ6_bitCount_0f7a4 := goodIn_r _ [44, 45, 46, 47] (by decide +kernel) (by decide +kernel)
set_option maxRecDepth 20000 in
theorem gX2_bestSet_J6_bitCount_0f7a4 : GoodIn wsX2_bestSet (va_wsS RX2 67 yJ6_bitCount_0f7a4 wsJ6_bitCount_0f7a4) := goodIn_app (goodIn_of _ (by decide +kernel)) ggX2_bestSet_J6_bitCount_0f7a4
set_option maxRecDepth 20000 in
theorem ggX2_bestSet_X2_savingOf : GoodIn wsX2_bestSet wsX2_savingOf := goodIn_r _ [51, 36, 52, 53, 54, 55, 56] (by decide +kernel) (by decide +kernel)
set_option maxRecDepth 20000 in
theorem gX2_bestSet_X2_savingOf : GoodIn wsX2_bestSet (wsV RX2 72 RX2 yX2_savingOf wsX2_savingOf) := goodIn_app (goodIn_of _ (by decide +kernel)) ggX2_bestSet_X2_savingOf
theorem dX2_bestSet_0 : decode cX2_bestSet 0 = .ok (.sipush (-1008), 3) := by decide +kernel
theorem dX2_bestSet_3 : decode cX2_bestSet 3 = .ok (.istore_n 1, 1) := by decide +kernel
theorem dX2_bestSet_4 : decode cX2_bestSet 4 = .ok (.iconst 0, 1) := by decide +kernel
theorem dX2_bestSet_5 : decode cX2_bestSet 5 = .ok (.istore_n 2, 1) := by decide +kernel
theorem dX2_bestSet_6 : decode cX2_bestSet 6 = .ok (.iconst 0, 1) := by decide +kernel
theorem dX2_bestSet_7 : decode cX2_bestSet 7 = .ok (.istore_n 3, 1) := by decide +kernel
theorem dX2_bestSet_8 : decode cX2_bestSet 8 = .ok (.iload_n 3, 1) := by decide +kernel
theorem dX2_bestSet_9 : decode cX2_bestSet 9 = .ok (.aload_n 0, 1) := by decide +kernel
theorem dX2_bestSet_10 : decode cX2_bestSet 10 = .ok (.getfield 18, 3) := by decide +kernel
theorem dX2_bestSet_13 : decode cX2_bestSet 13 = .ok (.if_icmp .ge 92, 3) := by decide +kernel
theorem dX2_bestSet_16 : decode cX2_bestSet 16 = .ok (.aload_n 0, 1) := by decide +kernel
theorem dX2_bestSet_17 : decode cX2_bestSet 17 = .ok (.iload_n 3, 1) := by decide +kernel
theorem dX2_bestSet_18 : decode cX2_bestSet 18 = .ok (.invokevirtual 76, 3) := by decide +kernel
theorem dX2_bestSet_21 : decode cX2_bestSet 21 = .ok (.aload_n 0, 1) := by decide +kernel
theorem dX2_bestSet_22 : decode cX2_bestSet 22 = .ok (.iload_n 3, 1) := by decide +kernel
theorem dX2_bestSet_23 : decode cX2_bestSet 23 = .ok (.invokevirtual 46, 3) := by decide +kernel
theorem dX2_bestSet_26 : decode cX2_bestSet 26 = .ok (.istore 4, 2) := by decide +kernel
theorem dX2_bestSet_28 : decode cX2_bestSet 28 = .ok (.iconst 0, 1) := by decide +kernel
theorem dX2_bestSet_29 : decode cX2_bestSet 29 = .ok (.istore 5, 2) := by decide +kernel
theorem dX2_bestSet_31 : decode cX2_bestSet 31 = .ok (.iload 5, 2) := by decide +kernel
theorem dX2_bestSet_33 : decode cX2_bestSet 33 = .ok (.aload_n 0, 1) := by decide +kernel
theorem dX2_bestSet_34 : decode cX2_bestSet 34 = .ok (.getfield 11, 3) := by decide +kernel
theorem dX2_bestSet_37 : decode cX2_bestSet 37 = .ok (.iload_n 3, 1) := by decide +kernel
theorem dX2_bestSet_38 : decode cX2_bestSet 38 = .ok (.aaload, 1) := by decide +kernel
theorem dX2_bestSet_39 : decode cX2_bestSet 39 = .ok (.getfield 45, 3) := by decide +kernel
theorem dX2_bestSet_42 : decode cX2_bestSet 42 = .ok (.if_icmp .gt 57, 3) := by decide +kernel
theorem dX2_bestSet_45 : decode cX2_bestSet 45 = .ok (.aload_n 0, 1) := by decide +kernel
theorem dX2_bestSet_46 : decode cX2_bestSet 46 = .ok (.iload_n 3, 1) := by decide +kernel
theorem dX2_bestSet_47 : decode cX2_bestSet 47 = .ok (.iload 5, 2) := by decide +kernel
theorem dX2_bestSet_49 : decode cX2_bestSet 49 = .ok (.invokevirtual 80, 3) := by decide +kernel
theorem dX2_bestSet_52 : decode cX2_bestSet 52 = .ok (.istore 6, 2) := by decide +kernel
theorem dX2_bestSet_54 : decode cX2_bestSet 54 = .ok (.aload_n 0, 1) := by decide +kernel
theorem dX2_bestSet_55 : decode cX2_bestSet 55 = .ok (.iload 6, 2) := by decide +kernel
theorem dX2_bestSet_57 : decode cX2_bestSet 57 = .ok (.invokestatic 67, 3) := by decide +kernel
theorem dX2_bestSet_60 : decode cX2_bestSet 60 = .ok (.iload 5, 2) := by decide +kernel
theorem dX2_bestSet_62 : decode cX2_bestSet 62 = .ok (.iload 4, 2) := by decide +kernel
theorem dX2_bestSet_64 : decode cX2_bestSet 64 = .ok (.invokevirtual 72, 3) := by decide +kernel
theorem dX2_bestSet_67 : decode cX2_bestSet 67 = .ok (.istore 7, 2) := by decide +kernel
theorem dX2_bestSet_69 : decode cX2_bestSet 69 = .ok (.iload 7, 2) := by decide +kernel
theorem dX2_bestSet_71 : decode cX2_bestSet 71 = .ok (.iload_n 2, 1) := by decide +kernel
theorem dX2_bestSet_72 : decode cX2_bestSet 72 = .ok (.if_icmp .gt 15, 3) := by decide +kernel
theorem dX2_bestSet_75 : decode cX2_bestSet 75 = .ok (.iload 7, 2) := by decide +kernel
theorem dX2_bestSet_77 : decode cX2_bestSet 77 = .ok (.iload_n 2, 1) := by decide +kernel
theorem dX2_bestSet_78 : decode cX2_bestSet 78 = .ok (.if_icmp .ne 15, 3) := by decide +kernel
theorem dX2_bestSet_81 : decode cX2_bestSet 81 = .ok (.iload 6, 2) := by decide +kernel
theorem dX2_bestSet_83 : decode cX2_bestSet 83 = .ok (.iload_n 1, 1) := by decide +kernel
theorem dX2_bestSet_84 : decode cX2_bestSet 84 = .ok (.if_icmp .ge 9, 3) := by decide +kernel
theorem dX2_bestSet_87 : decode cX2_bestSet 87 = .ok (.iload 6, 2) := by decide +kernel
theorem dX2_bestSet_89 : decode cX2_bestSet 89 = .ok (.istore_n 1, 1) := by decide +kernel
theorem dX2_bestSet_90 : decode cX2_bestSet 90 = .ok (.iload 7, 2) := by decide +kernel
theorem dX2_bestSet_92 : decode cX2_bestSet 92 = .ok (.istore_n 2, 1) := by decide +kernel
theorem dX2_bestSet_93 : decode cX2_bestSet 93 = .ok (.iinc 5 1, 3) := by decide +kernel
theorem dX2_bestSet_96 : decode cX2_bestSet 96 = .ok (.goto (-65), 3) := by decide +kernel
theorem dX2_bestSet_99 : decode cX2_bestSet 99 = .ok (.iinc 3 1, 3) := by decide +kernel
theorem dX2_bestSet_102 : decode cX2_bestSet 102 = .ok (.goto (-94), 3) := by decide +kernel
theorem dX2_bestSet_105 : decode cX2_bestSet 105 = .ok (.iload_n 1, 1) := by decide +kernel
theorem dX2_bestSet_106 : decode cX2_bestSet 106 = .ok (.ireturn, 1) := by decide +kernel
set_option maxRecDepth 20000 in
theorem ggX2_compareWithLater_X0_tailSharedWith : GoodIn wsX2_compareWithLater wsX0_tailSharedWith := goodIn_r _ [7, 8, 9, 10, 11, 12, 13, 14, 15, 5, 16, 17, 18, 19, 20, 21, 22, 23, 24, 25, 26, 32, 33, 34, 35, 36, 37, 38, 39] (by decide +kernel) (by decide +kernel)
set_option maxRecDepth 20000 in
theorem gX2_compareWithLater_X0_tailSharedWith_n57 : GoodIn wsX2_compareWithLater (wsX0_tailSharedWith) := ggX2_compareWithLater_X0_tailSharedWith
theorem dX2_compareWithLater_0 : decode cX2_compareWithLater 0 = .ok (.iload_n 1, 1) := by decide +kernel
theorem dX2_compareWithLater_1 : decode cX2_compareWithLater 1 = .ok (.iconst 1, 1) := by decide +kernel
theorem dX2_compareWithLater_2 : decode cX2_compareWithLater 2 = .ok (.iadd, 1) := by decide +kernel
theorem dX2_compareWithLater_3 : decode cX2_compareWithLater 3 = .ok (.istore_n 2, 1) := by decide +kernel
theorem dX2_compareWithLater_4 : decode cX2_compareWithLater 4 = .ok (.iload_n 2, 1) := by decide +kernel
theorem dX2_compareWithLater_5 : decode cX2_compareWithLater 5 = .ok (.aload_n 0, 1) := by decide +kernel
theorem dX2_compareWithLater_6 : decode cX2_compareWithLater 6 = .ok (.getfield 18, 3) := by decide +kernel
theorem dX2_compareWithLater_9 : decode cX2_compareWithLater 9 = .ok (.if_icmp .ge 30, 3) := by decide +kernel
theorem dX2_compareWithLater_12 : decode cX2_compareWithLater 12 = .ok (.aload_n 0, 1) := by decide +kernel
theorem dX2_compareWithLater_13 : decode cX2_compareWithLater 13 = .ok (.getfield 29, 3) := by decide +kernel
theorem dX2_compareWithLater_16 : decode cX2_compareWithLater 16 = .ok (.iload_n 2, 1) := by decide +kernel
theorem dX2_compareWithLater_17 : decode cX2_compareWithLater 17 = .ok (.aload_n 0, 1) := by decide +kernel
theorem dX2_compareWithLater_18 : decode cX2_compareWithLater 18 = .ok (.getfield 11, 3) := by decide +kernel
theorem dX2_compareWithLater_21 : decode cX2_compareWithLater 21 = .ok (.iload_n 1, 1) := by decide +kernel
theorem dX2_compareWithLater_22 : decode cX2_compareWithLater 22 = .ok (.aaload, 1) := by decide +kernel
theorem dX2_compareWithLater_23 : decode cX2_compareWithLater 23 = .ok (.aload_n 0, 1) := by decide +kernel
theorem dX2_compareWithLater_24 : decode cX2_compareWithLater 24 = .ok (.getfield 11, 3) := by decide +kernel
theorem dX2_compareWithLater_27 : decode cX2_compareWithLater 27 = .ok (.iload_n 2, 1) := by decide +kernel
theorem dX2_compareWithLater_28 : decode cX2_compareWithLater 28 = .ok (.aaload, 1) := by decide +kernel
theorem dX2_compareWithLater_29 : decode cX2_compareWithLater 29 = .ok (.invokevirtual 57, 3) := by decide +kernel
theorem dX2_compareWithLater_32 : decode cX2_compareWithLater 32 = .ok (.iastore, 1) := by decide +kernel
theorem dX2_compareWithLater_33 : decode cX2_compareWithLater 33 = .ok (.iinc 2 1, 3) := by decide +kernel
theorem dX2_compareWithLater_36 : decode cX2_compareWithLater 36 = .ok (.goto (-32), 3) := by decide +kernel
theorem dX2_compareWithLater_39 : decode cX2_compareWithLater 39 = .ok (.return_, 1) := by decide +kernel
theorem dX2_sharersFrom_0 : decode cX2_sharersFrom 0 = .ok (.iconst 1, 1) := by decide +kernel
theorem dX2_sharersFrom_1 : decode cX2_sharersFrom 1 = .ok (.iload_n 1, 1) := by decide +kernel
theorem dX2_sharersFrom_2 : decode cX2_sharersFrom 2 = .ok (.ishl, 1) := by decide +kernel
theorem dX2_sharersFrom_3 : decode cX2_sharersFrom 3 = .ok (.istore_n 3, 1) := by decide +kernel
theorem dX2_sharersFrom_4 : decode cX2_sharersFrom 4 = .ok (.iload_n 1, 1) := by decide +kernel
theorem dX2_sharersFrom_5 : decode cX2_sharersFrom 5 = .ok (.iconst 1, 1) := by decide +kernel
theorem dX2_sharersFrom_6 : decode cX2_sharersFrom 6 = .ok (.iadd, 1) := by decide +kernel
theorem dX2_sharersFrom_7 : decode cX2_sharersFrom 7 = .ok (.istore 4, 2) := by decide +kernel
theorem dX2_sharersFrom_9 : decode cX2_sharersFrom 9 = .ok (.iload 4, 2) := by decide +kernel
theorem dX2_sharersFrom_11 : decode cX2_sharersFrom 11 = .ok (.aload_n 0, 1) := by decide +kernel
theorem dX2_sharersFrom_12 : decode cX2_sharersFrom 12 = .ok (.getfield 18, 3) := by decide +kernel
theorem dX2_sharersFrom_15 : decode cX2_sharersFrom 15 = .ok (.if_icmp .ge 27, 3) := by decide +kernel
theorem dX2_sharersFrom_18 : decode cX2_sharersFrom 18 = .ok (.aload_n 0, 1) := by decide +kernel
theorem dX2_sharersFrom_19 : decode cX2_sharersFrom 19 = .ok (.getfield 29, 3) := by decide +kernel
theorem dX2_sharersFrom_22 : decode cX2_sharersFrom 22 = .ok (.iload 4, 2) := by decide +kernel
theorem dX2_sharersFrom_24 : decode cX2_sharersFrom 24 = .ok (.iaload, 1) := by decide +kernel
theorem dX2_sharersFrom_25 : decode cX2_sharersFrom 25 = .ok (.iload_n 2, 1) := by decide +kernel
theorem dX2_sharersFrom_26 : decode cX2_sharersFrom 26 = .ok (.if_icmp .lt 10, 3) := by decide +kernel
theorem dX2_sharersFrom_29 : decode cX2_sharersFrom 29 = .ok (.iload_n 3, 1) := by decide +kernel
theorem dX2_sharersFrom_30 : decode cX2_sharersFrom 30 = .ok (.iconst 1, 1) := by decide +kernel
theorem dX2_sharersFrom_31 : decode cX2_sharersFrom 31 = .ok (.iload 4, 2) := by decide +kernel
theorem dX2_sharersFrom_33 : decode cX2_sharersFrom 33 = .ok (.ishl, 1) := by decide +kernel
theorem dX2_sharersFrom_34 : decode cX2_sharersFrom 34 = .ok (.ior, 1) := by decide +kernel
theorem dX2_sharersFrom_35 : decode cX2_sharersFrom 35 = .ok (.istore_n 3, 1) := by decide +kernel
theorem dX2_sharersFrom_36 : decode cX2_sharersFrom 36 = .ok (.iinc 4 1, 3) := by decide +kernel
theorem dX2_sharersFrom_39 : decode cX2_sharersFrom 39 = .ok (.goto (-30), 3) := by decide +kernel
theorem dX2_sharersFrom_42 : decode cX2_sharersFrom 42 = .ok (.iload_n 3, 1) := by decide +kernel
theorem dX2_sharersFrom_43 : decode cX2_sharersFrom 43 = .ok (.ireturn, 1) := by decide +kernel
set_option maxRecDepth 20000 in
theorem ggX2_mergeSet_X2_appendBlock : GoodIn wsX2_mergeSet wsX2_appendBlock := goodIn_r _ [6, 7, 1, 8, 9, 10, 11, 12, 13, 14, 15, 16, 17, 18, 40, 41, 42, 43, 44, 45, 46, 47, 48, 49, 50, 51, 52] (by decide +kernel) (by decide +kernel)
set_option maxRecDepth 20000 in
theorem gX2_mergeSet_X2_appendBlock : GoodIn wsX2_mergeSet (wsV RX2 83 RX2 yX2_appendBlock wsX2_appendBlock) := goodIn_app (goodIn_of _ (by decide +kernel)) ggX2_mergeSet_X2_appendBlock
set_option maxRecDepth 20000 in
theorem ggX2_mergeSet_X2_contains : GoodIn wsX2_mergeSet wsX2_contains := goodIn_r _ [21] (by decide +kernel) (by decide +kernel)
set_option maxRecDepth 20000 in
theorem gX2_mergeSet_X2_contains : GoodIn wsX2_mergeSet (va_wsS RX2 53 yX2_contains wsX2_contains) := goodIn_app (goodIn_of _ (by decide +kernel)) ggX2_mergeSet_X2_contains
set_option maxRecDepth 20000 in
theorem ggX2_mergeSet_X0_uniteLines : GoodIn wsX2_mergeSet wsX0_uniteLines := goodIn_r _ [24, 25, 12, 45, 46, 47, 48, 49, 50, 51, 52] (by decide +kernel) (by decide +kernel)
set_option maxRecDepth 20000 in
theorem gX2_mergeSet_X0_uniteLines_n87 : GoodIn wsX2_mergeSet (wsX0_uniteLines) := ggX2_mergeSet_X0_uniteLines
set_option maxRecDepth 20000 in
theorem ggX2_mergeSet_X0_appendTail : GoodIn wsX2_mergeSet wsX0_appendTail := goodIn_r _ [28, 12, 29, 30, 31, 32, 25, 17, 18, 33, 34, 35, 9, 36, 13, 14, 15, 16, 45, 46, 47, 48, 49, 50, 51, 52] (by decide +kernel) (by decide +kernel)
set_option maxRecDepth 20000 in
theorem gX2_mergeSet_X0_appendTail_n91 : GoodIn wsX2_mergeSet (wsX0_appendTail) := ggX2_mergeSet_X0_appendTail
set_option maxRecDepth 20000 in
theorem ggX2_mergeSet_X0_replaceTailByJump : GoodIn wsX2_mergeSet wsX0_replaceTailByJump := goodIn_r _ [39, 12, 13, 14, 15, 9, 16, 17, 18, 45, 46, 47, 48, 49, 50, 51, 52] (by decide +kernel) (by decide +kernel)
set_option maxRecDepth 20000 in
theorem gX2_mergeSet_X0_replaceTailByJump_n94 : GoodIn wsX2_mergeSet (wsX0_replaceTailByJump) := ggX2_mergeSet_X0_replaceTailByJump
theorem dX2_mergeSet_0 : decode cX2_mergeSet 0 = .ok (.aload_n 0, 1) := by decide +kernel
theorem dX2_mergeSet_1 : decode cX2_mergeSet 1 = .ok (.invokevirtual 83, 3) := by decide +kernel
theorem dX2_mergeSet_4 : decode cX2_mergeSet 4 = .ok (.istore_n 3, 1) := by decide +kernel
theorem dX2_mergeSet_5 : decode cX2_mergeSet 5 = .ok (.iload_n 3, 1) := by decide +kernel
theorem dX2_mergeSet_6 : decode cX2_mergeSet 6 = .ok (.sipush (-1004), 3) := by decide +kernel
theorem dX2_mergeSet_9 : decode cX2_mergeSet 9 = .ok (.if_icmp .ne 7, 3) := by decide +kernel
theorem dX2_mergeSet_12 : decode cX2_mergeSet 12 = .ok (.sipush (-1004), 3) := by decide +kernel
theorem dX2_mergeSet_15 : decode cX2_mergeSet 15 = .ok (.ireturn, 1) := by decide +kernel
theorem dX2_mergeSet_16 : decode cX2_mergeSet 16 = .ok (.iconst 0, 1) := by decide +kernel
theorem dX2_mergeSet_17 : decode cX2_mergeSet 17 = .ok (.istore 4, 2) := by decide +kernel
theorem dX2_mergeSet_19 : decode cX2_mergeSet 19 = .ok (.iconst 0, 1) := by decide +kernel
theorem dX2_mergeSet_20 : decode cX2_mergeSet 20 = .ok (.istore 5, 2) := by decide +kernel
theorem dX2_mergeSet_22 : decode cX2_mergeSet 22 = .ok (.iload 5, 2) := by decide +kernel
theorem dX2_mergeSet_24 : decode cX2_mergeSet 24 = .ok (.iload_n 3, 1) := by decide +kernel
theorem dX2_mergeSet_25 : decode cX2_mergeSet 25 = .ok (.if_icmp .ge 75, 3) := by decide +kernel
theorem dX2_mergeSet_28 : decode cX2_mergeSet 28 = .ok (.iload_n 1, 1) := by decide +kernel
theorem dX2_mergeSet_29 : decode cX2_mergeSet 29 = .ok (.iload 5, 2) := by decide +kernel
theorem dX2_mergeSet_31 : decode cX2_mergeSet 31 = .ok (.invokestatic 53, 3) := by decide +kernel
theorem dX2_mergeSet_34 : decode cX2_mergeSet 34 = .ok (.ifCond .eq 60, 3) := by decide +kernel
theorem dX2_mergeSet_37 : decode cX2_mergeSet 37 = .ok (.iload 4, 2) := by decide +kernel
theorem dX2_mergeSet_39 : decode cX2_mergeSet 39 = .ok (.ifCond .eq 23, 3) := by decide +kernel
theorem dX2_mergeSet_42 : decode cX2_mergeSet 42 = .ok (.aload_n 0, 1) := by decide +kernel
theorem dX2_mergeSet_43 : decode cX2_mergeSet 43 = .ok (.getfield 11, 3) := by decide +kernel
theorem dX2_mergeSet_46 : decode cX2_mergeSet 46 = .ok (.iload_n 3, 1) := by decide +kernel
theorem dX2_mergeSet_47 : decode cX2_mergeSet 47 = .ok (.aaload, 1) := by decide +kernel
theorem dX2_mergeSet_48 : decode cX2_mergeSet 48 = .ok (.aload_n 0, 1) := by decide +kernel
theorem dX2_mergeSet_49 : decode cX2_mergeSet 49 = .ok (.getfield 11, 3) := by decide +kernel
theorem dX2_mergeSet_52 : decode cX2_mergeSet 52 = .ok (.iload 5, 2) := by decide +kernel
theorem dX2_mergeSet_54 : decode cX2_mergeSet 54 = .ok (.aaload, 1) := by decide +kernel
theorem dX2_mergeSet_55 : decode cX2_mergeSet 55 = .ok (.iload_n 2, 1) := by decide +kernel
theorem dX2_mergeSet_56 : decode cX2_mergeSet 56 = .ok (.invokevirtual 87, 3) := by decide +kernel
theorem dX2_mergeSet_59 : decode cX2_mergeSet 59 = .ok (.goto 23, 3) := by decide +kernel
theorem dX2_mergeSet_62 : decode cX2_mergeSet 62 = .ok (.aload_n 0, 1) := by decide +kernel
theorem dX2_mergeSet_63 : decode cX2_mergeSet 63 = .ok (.getfield 11, 3) := by decide +kernel
theorem dX2_mergeSet_66 : decode cX2_mergeSet 66 = .ok (.iload_n 3, 1) := by decide +kernel
theorem dX2_mergeSet_67 : decode cX2_mergeSet 67 = .ok (.aaload, 1) := by decide +kernel
theorem dX2_mergeSet_68 : decode cX2_mergeSet 68 = .ok (.aload_n 0, 1) := by decide +kernel
theorem dX2_mergeSet_69 : decode cX2_mergeSet 69 = .ok (.getfield 11, 3) := by decide +kernel
theorem dX2_mergeSet_72 : decode cX2_mergeSet 72 = .ok (.iload 5, 2) := by decide +kernel
theorem dX2_mergeSet_74 : decode cX2_mergeSet 74 = .ok (.aaload, 1) := by decide +kernel
theorem dX2_mergeSet_75 : decode cX2_mergeSet 75 = .ok (.iload_n 2, 1) := by decide +kernel
theorem dX2_mergeSet_76 : decode cX2_mergeSet 76 = .ok (.invokevirtual 91, 3) := by decide +kernel
theorem dX2_mergeSet_79 : decode cX2_mergeSet 79 = .ok (.iconst 1, 1) := by decide +kernel
theorem dX2_mergeSet_80 : decode cX2_mergeSet 80 = .ok (.istore 4, 2) := by decide +kernel
theorem dX2_mergeSet_82 : decode cX2_mergeSet 82 = .ok (.aload_n 0, 1) := by decide +kernel
theorem dX2_mergeSet_83 : decode cX2_mergeSet 83 = .ok (.getfield 11, 3) := by decide +kernel
theorem dX2_mergeSet_86 : decode cX2_mergeSet 86 = .ok (.iload 5, 2) := by decide +kernel
theorem dX2_mergeSet_88 : decode cX2_mergeSet 88 = .ok (.aaload, 1) := by decide +kernel
theorem dX2_mergeSet_89 : decode cX2_mergeSet 89 = .ok (.iload_n 2, 1) := by decide +kernel
theorem dX2_mergeSet_90 : decode cX2_mergeSet 90 = .ok (.iload_n 3, 1) := by decide +kernel
theorem dX2_mergeSet_91 : decode cX2_mergeSet 91 = .ok (.invokevirtual 94, 3) := by decide +kernel
theorem dX2_mergeSet_94 : decode cX2_mergeSet 94 = .ok (.iinc 5 1, 3) := by decide +kernel
theorem dX2_mergeSet_97 : decode cX2_mergeSet 97 = .ok (.goto (-75), 3) := by decide +kernel
theorem dX2_mergeSet_100 : decode cX2_mergeSet 100 = .ok (.iload_n 3, 1) := by decide +kernel
theorem dX2_mergeSet_101 : decode cX2_mergeSet 101 = .ok (.ireturn, 1) := by decide +kernel
set_option maxRecDepth 20000 in
theorem ggX2_savingWithParameter_X2_terminatorCost : GoodIn wsX2_savingWithParameter wsX2_terminatorCost := goodIn_r _ [6, 7, 1, 8, 9, 10, 11, 12, 13, 14, 15, 16, 17, 18, 19, 20] (by decide +kernel) (by decide +kernel)
set_option maxRecDepth 20000 in
theorem gX2_savingWithParameter_X2_terminatorCost : GoodIn wsX2_savingWithParameter (wsV RX2 46 RX2 yX2_terminatorCost wsX2_terminatorCost) := goodIn_app (goodIn_of _ (by decide +kernel)) ggX2_savingWithParameter_X2_terminatorCost
theorem dX2_savingWithParameter_0 : decode cX2_savingWithParameter 0 = .ok (.iload_n 2, 1) := by decide +kernel
theorem dX2_savingWithParameter_1 : decode cX2_savingWithParameter 1 = .ok (.aload_n 0, 1) := by decide +kernel
theorem dX2_savingWithParameter_2 : decode cX2_savingWithParameter 2 = .ok (.iload_n 1, 1) := by decide +kernel
theorem dX2_savingWithParameter_3 : decode cX2_savingWithParameter 3 = .ok (.invokevirtual 46, 3) := by decide +kernel
theorem dX2_savingWithParameter_6 : decode cX2_savingWithParameter 6 = .ok (.iadd, 1) := by decide +kernel
theorem dX2_savingWithParameter_7 : decode cX2_savingWithParameter 7 = .ok (.iconst 2, 1) := by decide +kernel
theorem dX2_savingWithParameter_8 : decode cX2_savingWithParameter 8 = .ok (.aload_n 0, 1) := by decide +kernel
theorem dX2_savingWithParameter_9 : decode cX2_savingWithParameter 9 = .ok (.getfield 22, 3) := by decide +kernel
theorem dX2_savingWithParameter_12 : decode cX2_savingWithParameter 12 = .ok (.imul, 1) := by decide +kernel
theorem dX2_savingWithParameter_13 : decode cX2_savingWithParameter 13 = .ok (.isub, 1) := by decide +kernel
theorem dX2_savingWithParameter_14 : decode cX2_savingWithParameter 14 = .ok (.iconst 2, 1) := by decide +kernel
theorem dX2_savingWithParameter_15 : decode cX2_savingWithParameter 15 = .ok (.isub, 1) := by decide +kernel
theorem dX2_savingWithParameter_16 : decode cX2_savingWithParameter 16 = .ok (.ireturn, 1) := by decide +kernel
set_option maxRecDepth 20000 in
theorem ggX2_mergePair_X2_appendBlock : GoodIn wsX2_mergePair wsX2_appendBlock := goodIn_r _ [6, 7, 1, 8, 9, 10, 11, 12, 13, 14, 15, 16, 17, 18, 47, 48, 49, 50, 51, 52, 53, 54, 55, 56, 57, 58, 59] (by decide +kernel) (by decide +kernel)
set_option maxRecDepth 20000 in
theorem gX2_mergePair_X2_appendBlock : GoodIn wsX2_mergePair (wsV RX2 83 RX2 yX2_appendBlock wsX2_appendBlock) := goodIn_app (goodIn_of _ (by decide +kernel)) ggX2_mergePair_X2_appendBlock
set_option maxRecDepth 20000 in
theorem ggX2_mergePair_X0_isEqualAt : GoodIn wsX2_mergePair wsX0_isEqualAt := goodIn_r _ [21, 12, 22, 23, 24, 25, 52, 53, 54, 55, 56, 57, 58, 59] (by decide +kernel) (by decide +kernel)
set_option maxRecDepth 20000 in
theorem gX2_mergePair_X0_isEqualAt_n98 : GoodIn wsX2_mergePair (wsX0_isEqualAt) := ggX2_mergePair_X0_isEqualAt
set_option maxRecDepth 20000 in
theorem ggX2_mergePair_X0_appendTail : GoodIn wsX2_mergePair wsX0_appendTail := goodIn_r _ [28, 12, 22, 23, 24, 25, 29, 17, 18, 30, 31, 32, 9, 33, 13, 14, 15, 16, 52, 53, 54, 55, 56, 57, 58, 59] (by decide +kernel) (by decide +kernel)
set_option maxRecDepth 20000 in
theorem gX2_mergePair_X0_appendTail_n91 : GoodIn wsX2_mergePair (wsX0_appendTail) := ggX2_mergePair_X0_appendTail
set_option maxRecDepth 20000 in
theorem ggX2_mergePair_X0_uniteLines : GoodIn wsX2_mergePair wsX0_uniteLines := goodIn_r _ [36, 29, 12, 52, 53, 54, 55, 56, 57, 58, 59] (by decide +kernel) (by decide +kernel)
set_option maxRecDepth 20000 in
theorem gX2_mergePair_X0_uniteLines_n87 : GoodIn wsX2_mergePair (wsX0_uniteLines) := ggX2_mergePair_X0_uniteLines
set_option maxRecDepth 20000 in
theorem ggX2_mergePair_X0_takeParameterAt : GoodIn wsX2_mergePair wsX0_takeParameterAt := goodIn_r _ [39, 22, 12, 24, 52, 53, 54, 55, 56, 57, 58, 59] (by decide +kernel) (by decide +kernel)
set_option maxRecDepth 20000 in
theorem gX2_mergePair_X0_takeParameterAt_n102 : GoodIn wsX2_mergePair (wsX0_takeParameterAt) := ggX2_mergePair_X0_takeParameterAt
set_option maxRecDepth 20000 in
theorem ggX2_mergePair_X0_replaceTailByParameter : GoodIn wsX2_mergePair wsX0_replaceTailByParameter := goodIn_r _ [42, 24, 12, 29, 43, 44, 45, 9, 46, 13, 14, 15, 16, 17, 18, 30, 31, 32, 33, 22, 23, 25, 52, 53, 54, 55, 56, 57, 58, 59] (by decide +kernel) (by decide +kernel)
set_option maxRecDepth 20000 in
theorem gX2_mergePair_X0_replaceTailByParameter_n105 : GoodIn wsX2_mergePair (wsX0_replaceTailByParameter) := ggX2_mergePair_X0_replaceTailByParameter
theorem dX2_mergePair_0 : decode cX2_mergePair 0 = .ok (.aload_n 0, 1) := by decide +kernel
theorem dX2_mergePair_1 : decode cX2_mergePair 1 = .ok (.invokevirtual 83, 3) := by decide +kernel
theorem dX2_mergePair_4 : decode cX2_mergePair 4 = .ok (.istore 4, 2) := by decide +kernel
theorem dX2_mergePair_6 : decode cX2_mergePair 6 = .ok (.iload 4, 2) := by decide +kernel
theorem dX2_mergePair_8 : decode cX2_mergePair 8 = .ok (.sipush (-1004), 3) := by decide +kernel
theorem dX2_mergePair_11 : decode cX2_mergePair 11 = .ok (.if_icmp .ne 7, 3) := by decide +kernel
theorem dX2_mergePair_14 : decode cX2_mergePair 14 = .ok (.sipush (-1004), 3) := by decide +kernel
theorem dX2_mergePair_17 : decode cX2_mergePair 17 = .ok (.ireturn, 1) := by decide +kernel
theorem dX2_mergePair_18 : decode cX2_mergePair 18 = .ok (.iconst 1, 1) := by decide +kernel
theorem dX2_mergePair_19 : decode cX2_mergePair 19 = .ok (.istore 5, 2) := by decide +kernel
theorem dX2_mergePair_21 : decode cX2_mergePair 21 = .ok (.iload 5, 2) := by decide +kernel
theorem dX2_mergePair_23 : decode cX2_mergePair 23 = .ok (.iload_n 3, 1) := by decide +kernel
theorem dX2_mergePair_24 : decode cX2_mergePair 24 = .ok (.if_icmp .ge 29, 3) := by decide +kernel
theorem dX2_mergePair_27 : decode cX2_mergePair 27 = .ok (.aload_n 0, 1) := by decide +kernel
theorem dX2_mergePair_28 : decode cX2_mergePair 28 = .ok (.getfield 11, 3) := by decide +kernel
theorem dX2_mergePair_31 : decode cX2_mergePair 31 = .ok (.iload_n 1, 1) := by decide +kernel
theorem dX2_mergePair_32 : decode cX2_mergePair 32 = .ok (.aaload, 1) := by decide +kernel
theorem dX2_mergePair_33 : decode cX2_mergePair 33 = .ok (.aload_n 0, 1) := by decide +kernel
theorem dX2_mergePair_34 : decode cX2_mergePair 34 = .ok (.getfield 11, 3) := by decide +kernel
theorem dX2_mergePair_37 : decode cX2_mergePair 37 = .ok (.iload_n 2, 1) := by decide +kernel
theorem dX2_mergePair_38 : decode cX2_mergePair 38 = .ok (.aaload, 1) := by decide +kernel
theorem dX2_mergePair_39 : decode cX2_mergePair 39 = .ok (.iload 5, 2) := by decide +kernel
theorem dX2_mergePair_41 : decode cX2_mergePair 41 = .ok (.invokevirtual 98, 3) := by decide +kernel
theorem dX2_mergePair_44 : decode cX2_mergePair 44 = .ok (.ifCond .eq 9, 3) := by decide +kernel
theorem dX2_mergePair_47 : decode cX2_mergePair 47 = .ok (.iinc 5 1, 3) := by decide +kernel
theorem dX2_mergePair_50 : decode cX2_mergePair 50 = .ok (.goto (-29), 3) := by decide +kernel
theorem dX2_mergePair_53 : decode cX2_mergePair 53 = .ok (.aload_n 0, 1) := by decide +kernel
theorem dX2_mergePair_54 : decode cX2_mergePair 54 = .ok (.getfield 11, 3) := by decide +kernel
theorem dX2_mergePair_57 : decode cX2_mergePair 57 = .ok (.iload 4, 2) := by decide +kernel
theorem dX2_mergePair_59 : decode cX2_mergePair 59 = .ok (.aaload, 1) := by decide +kernel
theorem dX2_mergePair_60 : decode cX2_mergePair 60 = .ok (.aload_n 0, 1) := by decide +kernel
theorem dX2_mergePair_61 : decode cX2_mergePair 61 = .ok (.getfield 11, 3) := by decide +kernel
theorem dX2_mergePair_64 : decode cX2_mergePair 64 = .ok (.iload_n 1, 1) := by decide +kernel
theorem dX2_mergePair_65 : decode cX2_mergePair 65 = .ok (.aaload, 1) := by decide +kernel
theorem dX2_mergePair_66 : decode cX2_mergePair 66 = .ok (.iload_n 3, 1) := by decide +kernel
theorem dX2_mergePair_67 : decode cX2_mergePair 67 = .ok (.invokevirtual 91, 3) := by decide +kernel
theorem dX2_mergePair_70 : decode cX2_mergePair 70 = .ok (.aload_n 0, 1) := by decide +kernel
theorem dX2_mergePair_71 : decode cX2_mergePair 71 = .ok (.getfield 11, 3) := by decide +kernel
theorem dX2_mergePair_74 : decode cX2_mergePair 74 = .ok (.iload 4, 2) := by decide +kernel
theorem dX2_mergePair_76 : decode cX2_mergePair 76 = .ok (.aaload, 1) := by decide +kernel
theorem dX2_mergePair_77 : decode cX2_mergePair 77 = .ok (.aload_n 0, 1) := by decide +kernel
theorem dX2_mergePair_78 : decode cX2_mergePair 78 = .ok (.getfield 11, 3) := by decide +kernel
theorem dX2_mergePair_81 : decode cX2_mergePair 81 = .ok (.iload_n 2, 1) := by decide +kernel
theorem dX2_mergePair_82 : decode cX2_mergePair 82 = .ok (.aaload, 1) := by decide +kernel
theorem dX2_mergePair_83 : decode cX2_mergePair 83 = .ok (.iload_n 3, 1) := by decide +kernel
theorem dX2_mergePair_84 : decode cX2_mergePair 84 = .ok (.invokevirtual 87, 3) := by decide +kernel
theorem dX2_mergePair_87 : decode cX2_mergePair 87 = .ok (.aload_n 0, 1) := by decide +kernel
theorem dX2_mergePair_88 : decode cX2_mergePair 88 = .ok (.getfield 11, 3) := by decide +kernel
theorem dX2_mergePair_91 : decode cX2_mergePair 91 = .ok (.iload 4, 2) := by decide +kernel
theorem dX2_mergePair_93 : decode cX2_mergePair 93 = .ok (.aaload, 1) := by decide +kernel
theorem dX2_mergePair_94 : decode cX2_mergePair 94 = .ok (.iload 5, 2) := by decide +kernel
theorem dX2_mergePair_96 : decode cX2_mergePair 96 = .ok (.invokevirtual 102, 3) := by decide +kernel
theorem dX2_mergePair_99 : decode cX2_mergePair 99 = .ok (.aload_n 0, 1) := by decide +kernel
theorem dX2_mergePair_100 : decode cX2_mergePair 100 = .ok (.getfield 11, 3) := by decide +kernel
theorem dX2_mergePair_103 : decode cX2_mergePair 103 = .ok (.iload_n 1, 1) := by decide +kernel
theorem dX2_mergePair_104 : decode cX2_mergePair 104 = .ok (.aaload, 1) := by decide +kernel
theorem dX2_mergePair_105 : decode cX2_mergePair 105 = .ok (.iload_n 3, 1) := by decide +kernel
theorem dX2_mergePair_106 : decode cX2_mergePair 106 = .ok (.iload 5, 2) := by decide +kernel
theorem dX2_mergePair_108 : decode cX2_mergePair 108 = .ok (.iload 4, 2) := by decide +kernel
theorem dX2_mergePair_110 : decode cX2_mergePair 110 = .ok (.invokevirtual 105, 3) := by decide +kernel
theorem dX2_mergePair_113 : decode cX2_mergePair 113 = .ok (.aload_n 0, 1) := by decide +kernel
theorem dX2_mergePair_114 : decode cX2_mergePair 114 = .ok (.getfield 11, 3) := by decide +kernel
theorem dX2_mergePair_117 : decode cX2_mergePair 117 = .ok (.iload_n 2, 1) := by decide +kernel
theorem dX2_mergePair_118 : decode cX2_mergePair 118 = .ok (.aaload, 1) := by decide +kernel
theorem dX2_mergePair_119 : decode cX2_mergePair 119 = .ok (.iload_n 3, 1) := by decide +kernel
theorem dX2_mergePair_120 : decode cX2_mergePair 120 = .ok (.iload 5, 2) := by decide +kernel
theorem dX2_mergePair_122 : decode cX2_mergePair 122 = .ok (.iload 4, 2) := by decide +kernel
theorem dX2_mergePair_124 : decode cX2_mergePair 124 = .ok (.invokevirtual 105, 3) := by decide +kernel
theorem dX2_mergePair_127 : decode cX2_mergePair 127 = .ok (.iload 4, 2) := by decide +kernel
theorem dX2_mergePair_129 : decode cX2_mergePair 129 = .ok (.ireturn, 1) := by decide +kernel
set_option maxRecDepth 20000 in
theorem ggX3_init_X2_init : GoodIn wsX3_init wsX2_init := goodIn_r _ [16, 17, 2, 3, 18, 19, 20, 21, 22, 23, 24, 25, 26, 27, 28, 29, 30, 31, 32, 33, 34, 35, 36, 37, 44, 45, 46, 47, 48, 56, 57, 58, 59, 60, 61, 62, 63] (by decide +kernel) (by decide +kernel)
set_option maxRecDepth 20000 in
theorem gX3_init_X2_init_n9 : GoodIn wsX3_init (wsX2_init) := ggX3_init_X2_init
set_option maxRecDepth 20000 in
theorem ggX3_init_X1_init : GoodIn wsX3_init wsX1_init := goodIn_r _ [39, 40, 2, 3, 24, 41, 42, 43, 53, 54, 55] (by decide +kernel) (by decide +kernel)
set_option maxRecDepth 20000 in
theorem gX3_init_X1_init_n26 : GoodIn wsX3_init (wsX1_init) := ggX3_init_X1_init
theorem dX3_init_0 : decode cX3_init 0 = .ok (.aload_n 0, 1) := by decide +kernel
theorem dX3_init_1 : decode cX3_init 1 = .ok (.invokespecial 1, 3) := by decide +kernel
theorem dX3_init_4 : decode cX3_init 4 = .ok (.aload_n 0, 1) := by decide +kernel
theorem dX3_init_5 : decode cX3_init 5 = .ok (.new 7, 3) := by decide +kernel
theorem dX3_init_8 : decode cX3_init 8 = .ok (.dup, 1) := by decide +kernel
theorem dX3_init_9 : decode cX3_init 9 = .ok (.invokespecial 9, 3) := by decide +kernel
theorem dX3_init_12 : decode cX3_init 12 = .ok (.putfield 10, 3) := by decide +kernel
theorem dX3_init_15 : decode cX3_init 15 = .ok (.aload_n 0, 1) := by decide +kernel
theorem dX3_init_16 : decode cX3_init 16 = .ok (.iconst 2, 1) := by decide +kernel
theorem dX3_init_17 : decode cX3_init 17 = .ok (.anewarray 7, 3) := by decide +kernel
theorem dX3_init_20 : decode cX3_init 20 = .ok (.putfield 16, 3) := by decide +kernel
theorem dX3_init_23 : decode cX3_init 23 = .ok (.iconst 0, 1) := by decide +kernel
theorem dX3_init_24 : decode cX3_init 24 = .ok (.istore_n 1, 1) := by decide +kernel
theorem dX3_init_25 : decode cX3_init 25 = .ok (.iload_n 1, 1) := by decide +kernel
theorem dX3_init_26 : decode cX3_init 26 = .ok (.iconst 2, 1) := by decide +kernel
theorem dX3_init_27 : decode cX3_init 27 = .ok (.if_icmp .ge 22, 3) := by decide +kernel
theorem dX3_init_30 : decode cX3_init 30 = .ok (.aload_n 0, 1) := by decide +kernel
theorem dX3_init_31 : decode cX3_init 31 = .ok (.getfield 16, 3) := by decide +kernel
theorem dX3_init_34 : decode cX3_init 34 = .ok (.iload_n 1, 1) := by decide +kernel
theorem dX3_init_35 : decode cX3_init 35 = .ok (.new 7, 3) := by decide +kernel
theorem dX3_init_38 : decode cX3_init 38 = .ok (.dup, 1) := by decide +kernel
theorem dX3_init_39 : decode cX3_init 39 = .ok (.invokespecial 9, 3) := by decide +kernel
theorem dX3_init_42 : decode cX3_init 42 = .ok (.aastore, 1) := by decide +kernel
theorem dX3_init_43 : decode cX3_init 43 = .ok (.iinc 1 1, 3) := by decide +kernel
theorem dX3_init_46 : decode cX3_init 46 = .ok (.goto (-21), 3) := by decide +kernel
theorem dX3_init_49 : decode cX3_init 49 = .ok (.aload_n 0, 1) := by decide +kernel
theorem dX3_init_50 : decode cX3_init 50 = .ok (.iconst 2, 1) := by decide +kernel
theorem dX3_init_51 : decode cX3_init 51 = .ok (.newarray .boolean, 2) := by decide +kernel
theorem dX3_init_53 : decode cX3_init 53 = .ok (.putfield 20, 3) := by decide +kernel
theorem dX3_init_56 : decode cX3_init 56 = .ok (.aload_n 0, 1) := by decide +kernel
theorem dX3_init_57 : decode cX3_init 57 = .ok (.new 24, 3) := by decide +kernel
theorem dX3_init_60 : decode cX3_init 60 = .ok (.dup, 1) := by decide +kernel
theorem dX3_init_61 : decode cX3_init 61 = .ok (.invokespecial 26, 3) := by decide +kernel
theorem dX3_init_64 : decode cX3_init 64 = .ok (.putfield 27, 3) := by decide +kernel
theorem dX3_init_67 : decode cX3_init 67 = .ok (.return_, 1) := by decide +kernel
set_option maxRecDepth 20000 in
theorem ggX3_addBlock_X2_appendBlock : GoodIn wsX3_addBlock wsX2_appendBlock := goodIn_r _ [5, 6, 7, 8, 9, 10, 11, 12, 13, 14, 15, 16, 17, 18, 23, 24, 25, 26, 27, 28, 29, 30, 31, 32, 33, 34, 35] (by decide +kernel) (by decide +kernel)
set_option maxRecDepth 20000 in
theorem gX3_addBlock_X2_appendBlock_n31 : GoodIn wsX3_addBlock (wsX2_appendBlock) := ggX3_addBlock_X2_appendBlock
theorem dX3_addBlock_0 : decode cX3_addBlock 0 = .ok (.aload_n 0, 1) := by decide +kernel
theorem dX3_addBlock_1 : decode cX3_addBlock 1 = .ok (.getfield 10, 3) := by decide +kernel
theorem dX3_addBlock_4 : decode cX3_addBlock 4 = .ok (.invokevirtual 31, 3) := by decide +kernel
theorem dX3_addBlock_7 : decode cX3_addBlock 7 = .ok (.ireturn, 1) := by decide +kernel
set_option maxRecDepth 20000 in
theorem ggX3_addInstruction_X2_has : GoodIn wsX3_addInstruction wsX2_has := goodIn_r _ [5, 6, 28, 29, 30, 31, 32] (by decide +kernel) (by decide +kernel)
set_option maxRecDepth 20000 in
theorem gX3_addInstruction_X2_has_n35 : GoodIn wsX3_addInstruction (wsX2_has) := ggX3_addInstruction_X2_has
set_option maxRecDepth 20000 in
theorem ggX3_addInstruction_X3_operandsFit : GoodIn wsX3_addInstruction wsX3_operandsFit := goodIn_r _ [10, 11, 12, 9, 13] (by decide +kernel) (by decide +kernel)
set_option maxRecDepth 20000 in
theorem gX3_addInstruction_X3_operandsFit : GoodIn wsX3_addInstruction (va_wsS RX3 39 yX3_operandsFit wsX3_operandsFit) := goodIn_app (goodIn_of _ (by decide +kernel)) ggX3_addInstruction_X3_operandsFit
set_option maxRecDepth 20000 in
theorem ggX3_addInstruction_X0_append : GoodIn wsX3_addInstruction wsX0_append := goodIn_r _ [17, 18, 19, 20, 21, 22, 23, 33, 34, 35, 36, 37, 38, 39, 40] (by decide +kernel) (by decide +kernel)
set_option maxRecDepth 20000 in
theorem gX3_addInstruction_X0_append_n47 : GoodIn wsX3_addInstruction (wsX0_append) := ggX3_addInstruction_X0_append
theorem dX3_addInstruction_0 : decode cX3_addInstruction 0 = .ok (.aload_n 0, 1) := by decide +kernel
theorem dX3_addInstruction_1 : decode cX3_addInstruction 1 = .ok (.getfield 10, 3) := by decide +kernel
theorem dX3_addInstruction_4 : decode cX3_addInstruction 4 = .ok (.iload_n 1, 1) := by decide +kernel
theorem dX3_addInstruction_5 : decode cX3_addInstruction 5 = .ok (.invokevirtual 35, 3) := by decide +kernel
theorem dX3_addInstruction_8 : decode cX3_addInstruction 8 = .ok (.ifCond .ne 7, 3) := by decide +kernel
theorem dX3_addInstruction_11 : decode cX3_addInstruction 11 = .ok (.sipush (-1001), 3) := by decide +kernel
theorem dX3_addInstruction_14 : decode cX3_addInstruction 14 = .ok (.ireturn, 1) := by decide +kernel
theorem dX3_addInstruction_15 : decode cX3_addInstruction 15 = .ok (.iload_n 2, 1) := by decide +kernel
theorem dX3_addInstruction_16 : decode cX3_addInstruction 16 = .ok (.iload_n 3, 1) := by decide +kernel
theorem dX3_addInstruction_17 : decode cX3_addInstruction 17 = .ok (.iload 4, 2) := by decide +kernel
theorem dX3_addInstruction_19 : decode cX3_addInstruction 19 = .ok (.iload 5, 2) := by decide +kernel
theorem dX3_addInstruction_21 : decode cX3_addInstruction 21 = .ok (.invokestatic 39, 3) := by decide +kernel
theorem dX3_addInstruction_24 : decode cX3_addInstruction 24 = .ok (.ifCond .eq 15, 3) := by decide +kernel
theorem dX3_addInstruction_27 : decode cX3_addInstruction 27 = .ok (.iload 6, 2) := by decide +kernel
theorem dX3_addInstruction_29 : decode cX3_addInstruction 29 = .ok (.ifCond .lt 10, 3) := by decide +kernel
theorem dX3_addInstruction_32 : decode cX3_addInstruction 32 = .ok (.iload 6, 2) := by decide +kernel
theorem dX3_addInstruction_34 : decode cX3_addInstruction 34 = .ok (.bipush 30, 2) := by decide +kernel
theorem dX3_addInstruction_36 : decode cX3_addInstruction 36 = .ok (.if_icmp .le 7, 3) := by decide +kernel
theorem dX3_addInstruction_39 : decode cX3_addInstruction 39 = .ok (.sipush (-1003), 3) := by decide +kernel
theorem dX3_addInstruction_42 : decode cX3_addInstruction 42 = .ok (.ireturn, 1) := by decide +kernel
theorem dX3_addInstruction_43 : decode cX3_addInstruction 43 = .ok (.aload_n 0, 1) := by decide +kernel
theorem dX3_addInstruction_44 : decode cX3_addInstruction 44 = .ok (.getfield 10, 3) := by decide +kernel
theorem dX3_addInstruction_47 : decode cX3_addInstruction 47 = .ok (.getfield 43, 3) := by decide +kernel
theorem dX3_addInstruction_50 : decode cX3_addInstruction 50 = .ok (.iload_n 1, 1) := by decide +kernel
theorem dX3_addInstruction_51 : decode cX3_addInstruction 51 = .ok (.aaload, 1) := by decide +kernel
theorem dX3_addInstruction_52 : decode cX3_addInstruction 52 = .ok (.iload_n 2, 1) := by decide +kernel
theorem dX3_addInstruction_53 : decode cX3_addInstruction 53 = .ok (.iload_n 3, 1) := by decide +kernel
theorem dX3_addInstruction_54 : decode cX3_addInstruction 54 = .ok (.iload 4, 2) := by decide +kernel
theorem dX3_addInstruction_56 : decode cX3_addInstruction 56 = .ok (.iload 5, 2) := by decide +kernel
theorem dX3_addInstruction_58 : decode cX3_addInstruction 58 = .ok (.iconst 1, 1) := by decide +kernel
theorem dX3_addInstruction_59 : decode cX3_addInstruction 59 = .ok (.iload 6, 2) := by decide +kernel
theorem dX3_addInstruction_61 : decode cX3_addInstruction 61 = .ok (.ishl, 1) := by decide +kernel
theorem dX3_addInstruction_62 : decode cX3_addInstruction 62 = .ok (.invokevirtual 47, 3) := by decide +kernel
theorem dX3_addInstruction_65 : decode cX3_addInstruction 65 = .ok (.ireturn, 1) := by decide +kernel
set_option maxRecDepth 20000 in
theorem ggX3_operandsFit_X3_isGeneral : GoodIn wsX3_operandsFit wsX3_isGeneral := goodIn_r _ [4] (by decide +kernel) (by decide +kernel)
set_option maxRecDepth 20000 in
theorem gX3_operandsFit_X3_isGeneral : GoodIn wsX3_operandsFit (va_wsS RX3 53 yX3_isGeneral wsX3_isGeneral) := goodIn_app (goodIn_of _ (by decide +kernel)) ggX3_operandsFit_X3_isGeneral
theorem dX3_operandsFit_0 : decode cX3_operandsFit 0 = .ok (.iload_n 0, 1) := by decide +kernel
theorem dX3_operandsFit_1 : decode cX3_operandsFit 1 = .ok (.tableswitch 146 0 6 #[43, 74, 98, 98, 98, 98, 125], 43) := by decide +kernel
theorem dX3_operandsFit_44 : decode cX3_operandsFit 44 = .ok (.iload_n 1, 1) := by decide +kernel
theorem dX3_operandsFit_45 : decode cX3_operandsFit 45 = .ok (.invokestatic 53, 3) := by decide +kernel
theorem dX3_operandsFit_48 : decode cX3_operandsFit 48 = .ok (.ifCond .eq 25, 3) := by decide +kernel
theorem dX3_operandsFit_51 : decode cX3_operandsFit 51 = .ok (.iload_n 2, 1) := by decide +kernel
theorem dX3_operandsFit_52 : decode cX3_operandsFit 52 = .ok (.sipush (-999), 3) := by decide +kernel
theorem dX3_operandsFit_55 : decode cX3_operandsFit 55 = .ok (.if_icmp .lt 18, 3) := by decide +kernel
theorem dX3_operandsFit_58 : decode cX3_operandsFit 58 = .ok (.iload_n 2, 1) := by decide +kernel
theorem dX3_operandsFit_59 : decode cX3_operandsFit 59 = .ok (.sipush 999, 3) := by decide +kernel
theorem dX3_operandsFit_62 : decode cX3_operandsFit 62 = .ok (.if_icmp .gt 11, 3) := by decide +kernel
theorem dX3_operandsFit_65 : decode cX3_operandsFit 65 = .ok (.iload_n 3, 1) := by decide +kernel
theorem dX3_operandsFit_66 : decode cX3_operandsFit 66 = .ok (.ifCond .ne 7, 3) := by decide +kernel
theorem dX3_operandsFit_69 : decode cX3_operandsFit 69 = .ok (.iconst 1, 1) := by decide +kernel
theorem dX3_operandsFit_70 : decode cX3_operandsFit 70 = .ok (.goto 4, 3) := by decide +kernel
theorem dX3_operandsFit_73 : decode cX3_operandsFit 73 = .ok (.iconst 0, 1) := by decide +kernel
theorem dX3_operandsFit_74 : decode cX3_operandsFit 74 = .ok (.ireturn, 1) := by decide +kernel
theorem dX3_operandsFit_75 : decode cX3_operandsFit 75 = .ok (.iload_n 1, 1) := by decide +kernel
theorem dX3_operandsFit_76 : decode cX3_operandsFit 76 = .ok (.invokestatic 53, 3) := by decide +kernel
theorem dX3_operandsFit_79 : decode cX3_operandsFit 79 = .ok (.ifCond .eq 18, 3) := by decide +kernel
theorem dX3_operandsFit_82 : decode cX3_operandsFit 82 = .ok (.iload_n 2, 1) := by decide +kernel
theorem dX3_operandsFit_83 : decode cX3_operandsFit 83 = .ok (.invokestatic 53, 3) := by decide +kernel
theorem dX3_operandsFit_86 : decode cX3_operandsFit 86 = .ok (.ifCond .eq 11, 3) := by decide +kernel
theorem dX3_operandsFit_89 : decode cX3_operandsFit 89 = .ok (.iload_n 3, 1) := by decide +kernel
theorem dX3_operandsFit_90 : decode cX3_operandsFit 90 = .ok (.ifCond .ne 7, 3) := by decide +kernel
theorem dX3_operandsFit_93 : decode cX3_operandsFit 93 = .ok (.iconst 1, 1) := by decide +kernel
theorem dX3_operandsFit_94 : decode cX3_operandsFit 94 = .ok (.goto 4, 3) := by decide +kernel
theorem dX3_operandsFit_97 : decode cX3_operandsFit 97 = .ok (.iconst 0, 1) := by decide +kernel
theorem dX3_operandsFit_98 : decode cX3_operandsFit 98 = .ok (.ireturn, 1) := by decide +kernel
theorem dX3_operandsFit_99 : decode cX3_operandsFit 99 = .ok (.iload_n 1, 1) := by decide +kernel
theorem dX3_operandsFit_100 : decode cX3_operandsFit 100 = .ok (.invokestatic 53, 3) := by decide +kernel
theorem dX3_operandsFit_103 : decode cX3_operandsFit 103 = .ok (.ifCond .eq 21, 3) := by decide +kernel
theorem dX3_operandsFit_106 : decode cX3_operandsFit 106 = .ok (.iload_n 2, 1) := by decide +kernel
theorem dX3_operandsFit_107 : decode cX3_operandsFit 107 = .ok (.invokestatic 53, 3) := by decide +kernel
theorem dX3_operandsFit_110 : decode cX3_operandsFit 110 = .ok (.ifCond .eq 14, 3) := by decide +kernel
theorem dX3_operandsFit_113 : decode cX3_operandsFit 113 = .ok (.iload_n 3, 1) := by decide +kernel
theorem dX3_operandsFit_114 : decode cX3_operandsFit 114 = .ok (.invokestatic 53, 3) := by decide +kernel
theorem dX3_operandsFit_117 : decode cX3_operandsFit 117 = .ok (.ifCond .eq 7, 3) := by decide +kernel
theorem dX3_operandsFit_120 : decode cX3_operandsFit 120 = .ok (.iconst 1, 1) := by decide +kernel
theorem dX3_operandsFit_121 : decode cX3_operandsFit 121 = .ok (.goto 4, 3) := by decide +kernel
theorem dX3_operandsFit_124 : decode cX3_operandsFit 124 = .ok (.iconst 0, 1) := by decide +kernel
theorem dX3_operandsFit_125 : decode cX3_operandsFit 125 = .ok (.ireturn, 1) := by decide +kernel
theorem dX3_operandsFit_126 : decode cX3_operandsFit 126 = .ok (.iload_n 1, 1) := by decide +kernel
theorem dX3_operandsFit_127 : decode cX3_operandsFit 127 = .ok (.ifCond .ne 18, 3) := by decide +kernel
theorem dX3_operandsFit_130 : decode cX3_operandsFit 130 = .ok (.iload_n 2, 1) := by decide +kernel
theorem dX3_operandsFit_131 : decode cX3_operandsFit 131 = .ok (.invokestatic 53, 3) := by decide +kernel
theorem dX3_operandsFit_134 : decode cX3_operandsFit 134 = .ok (.ifCond .eq 11, 3) := by decide +kernel
theorem dX3_operandsFit_137 : decode cX3_operandsFit 137 = .ok (.iload_n 3, 1) := by decide +kernel
theorem dX3_operandsFit_138 : decode cX3_operandsFit 138 = .ok (.ifCond .ne 7, 3) := by decide +kernel
theorem dX3_operandsFit_141 : decode cX3_operandsFit 141 = .ok (.iconst 1, 1) := by decide +kernel
theorem dX3_operandsFit_142 : decode cX3_operandsFit 142 = .ok (.goto 4, 3) := by decide +kernel
theorem dX3_operandsFit_145 : decode cX3_operandsFit 145 = .ok (.iconst 0, 1) := by decide +kernel
theorem dX3_operandsFit_146 : decode cX3_operandsFit 146 = .ok (.ireturn, 1) := by decide +kernel
theorem dX3_operandsFit_147 : decode cX3_operandsFit 147 = .ok (.iconst 0, 1) := by decide +kernel
theorem dX3_operandsFit_148 : decode cX3_operandsFit 148 = .ok (.ireturn, 1) := by decide +kernel
theorem dX3_isGeneral_0 : decode cX3_isGeneral 0 = .ok (.iload_n 0, 1) := by decide +kernel
theorem dX3_isGeneral_1 : decode cX3_isGeneral 1 = .ok (.ifCond .lt 13, 3) := by decide +kernel
theorem dX3_isGeneral_4 : decode cX3_isGeneral 4 = .ok (.iload_n 0, 1) := by decide +kernel
theorem dX3_isGeneral_5 : decode cX3_isGeneral 5 = .ok (.bipush 7, 2) := by decide +kernel
theorem dX3_isGeneral_7 : decode cX3_isGeneral 7 = .ok (.if_icmp .ge 7, 3) := by decide +kernel
theorem dX3_isGeneral_10 : decode cX3_isGeneral 10 = .ok (.iconst 1, 1) := by decide +kernel
theorem dX3_isGeneral_11 : decode cX3_isGeneral 11 = .ok (.goto 4, 3) := by decide +kernel
theorem dX3_isGeneral_14 : decode cX3_isGeneral 14 = .ok (.iconst 0, 1) := by decide +kernel
theorem dX3_isGeneral_15 : decode cX3_isGeneral 15 = .ok (.ireturn, 1) := by decide +kernel
set_option maxRecDepth 20000 in
theorem ggX3_setJump_X2_has : GoodIn wsX3_setJump wsX2_has := goodIn_r _ [5, 6, 17, 18, 19, 20, 21] (by decide +kernel) (by decide +kernel)
set_option maxRecDepth 20000 in
theorem gX3_setJump_X2_has_n35 : GoodIn wsX3_setJump (wsX2_has) := ggX3_setJump_X2_has
set_option maxRecDepth 20000 in
theorem ggX3_setJump_X0_terminate : GoodIn wsX3_setJump wsX0_terminate := goodIn_r _ [10, 11, 12, 22, 23, 24, 25, 26, 27, 28, 29] (by decide +kernel) (by decide +kernel)
set_option maxRecDepth 20000 in
theorem gX3_setJump_X0_terminate_n56 : GoodIn wsX3_setJump (wsX0_terminate) := ggX3_setJump_X0_terminate
theorem dX3_setJump_0 : decode cX3_setJump 0 = .ok (.aload_n 0, 1) := by decide +kernel
theorem dX3_setJump_1 : decode cX3_setJump 1 = .ok (.getfield 10, 3) := by decide +kernel
theorem dX3_setJump_4 : decode cX3_setJump 4 = .ok (.iload_n 1, 1) := by decide +kernel
theorem dX3_setJump_5 : decode cX3_setJump 5 = .ok (.invokevirtual 35, 3) := by decide +kernel
theorem dX3_setJump_8 : decode cX3_setJump 8 = .ok (.ifCond .eq 14, 3) := by decide +kernel
theorem dX3_setJump_11 : decode cX3_setJump 11 = .ok (.aload_n 0, 1) := by decide +kernel
theorem dX3_setJump_12 : decode cX3_setJump 12 = .ok (.getfield 10, 3) := by decide +kernel
theorem dX3_setJump_15 : decode cX3_setJump 15 = .ok (.iload_n 2, 1) := by decide +kernel
theorem dX3_setJump_16 : decode cX3_setJump 16 = .ok (.invokevirtual 35, 3) := by decide +kernel
theorem dX3_setJump_19 : decode cX3_setJump 19 = .ok (.ifCond .ne 7, 3) := by decide +kernel
theorem dX3_setJump_22 : decode cX3_setJump 22 = .ok (.sipush (-1001), 3) := by decide +kernel
theorem dX3_setJump_25 : decode cX3_setJump 25 = .ok (.ireturn, 1) := by decide +kernel
theorem dX3_setJump_26 : decode cX3_setJump 26 = .ok (.aload_n 0, 1) := by decide +kernel
theorem dX3_setJump_27 : decode cX3_setJump 27 = .ok (.getfield 10, 3) := by decide +kernel
theorem dX3_setJump_30 : decode cX3_setJump 30 = .ok (.getfield 43, 3) := by decide +kernel
theorem dX3_setJump_33 : decode cX3_setJump 33 = .ok (.iload_n 1, 1) := by decide +kernel
theorem dX3_setJump_34 : decode cX3_setJump 34 = .ok (.aaload, 1) := by decide +kernel
theorem dX3_setJump_35 : decode cX3_setJump 35 = .ok (.iconst 0, 1) := by decide +kernel
theorem dX3_setJump_36 : decode cX3_setJump 36 = .ok (.iload_n 2, 1) := by decide +kernel
theorem dX3_setJump_37 : decode cX3_setJump 37 = .ok (.iconst 0, 1) := by decide +kernel
theorem dX3_setJump_38 : decode cX3_setJump 38 = .ok (.iconst 0, 1) := by decide +kernel
theorem dX3_setJump_39 : decode cX3_setJump 39 = .ok (.invokevirtual 56, 3) := by decide +kernel
theorem dX3_setJump_42 : decode cX3_setJump 42 = .ok (.ireturn, 1) := by decide +kernel
set_option maxRecDepth 20000 in
theorem ggX3_setBranch_X2_has : GoodIn wsX3_setBranch wsX2_has := goodIn_r _ [5, 6, 21, 22, 23, 24, 25] (by decide +kernel) (by decide +kernel)
set_option maxRecDepth 20000 in
theorem gX3_setBranch_X2_has_n35 : GoodIn wsX3_setBranch (wsX2_has) := ggX3_setBranch_X2_has
set_option maxRecDepth 20000 in
theorem ggX3_setBranch_X3_isGeneral : GoodIn wsX3_setBranch wsX3_isGeneral := goodIn_r _ [10] (by decide +kernel) (by decide +kernel)
set_option maxRecDepth 20000 in
theorem gX3_setBranch_X3_isGeneral : GoodIn wsX3_setBranch (va_wsS RX3 53 yX3_isGeneral wsX3_isGeneral) := goodIn_app (goodIn_of _ (by decide +kernel)) ggX3_setBranch_X3_isGeneral
set_option maxRecDepth 20000 in
theorem ggX3_setBranch_X0_terminate : GoodIn wsX3_setBranch wsX0_terminate := goodIn_r _ [14, 15, 16, 26, 27, 28, 29, 30, 31, 32, 33] (by decide +kernel) (by decide +kernel)
set_option maxRecDepth 20000 in
theorem gX3_setBranch_X0_terminate_n56 : GoodIn wsX3_setBranch (wsX0_terminate) := ggX3_setBranch_X0_terminate
theorem dX3_setBranch_0 : decode cX3_setBranch 0 = .ok (.aload_n 0, 1) := by decide +kernel
theorem dX3_setBranch_1 : decode cX3_setBranch 1 = .ok (.getfield 10, 3) := by decide +kernel
theorem dX3_setBranch_4 : decode cX3_setBranch 4 = .ok (.iload_n 1, 1) := by decide +kernel
theorem dX3_setBranch_5 : decode cX3_setBranch 5 = .ok (.invokevirtual 35, 3) := by decide +kernel
theorem dX3_setBranch_8 : decode cX3_setBranch 8 = .ok (.ifCond .eq 26, 3) := by decide +kernel
theorem dX3_setBranch_11 : decode cX3_setBranch 11 = .ok (.aload_n 0, 1) := by decide +kernel
theorem dX3_setBranch_12 : decode cX3_setBranch 12 = .ok (.getfield 10, 3) := by decide +kernel
theorem dX3_setBranch_15 : decode cX3_setBranch 15 = .ok (.iload_n 3, 1) := by decide +kernel
theorem dX3_setBranch_16 : decode cX3_setBranch 16 = .ok (.invokevirtual 35, 3) := by decide +kernel
theorem dX3_setBranch_19 : decode cX3_setBranch 19 = .ok (.ifCond .eq 15, 3) := by decide +kernel
theorem dX3_setBranch_22 : decode cX3_setBranch 22 = .ok (.aload_n 0, 1) := by decide +kernel
theorem dX3_setBranch_23 : decode cX3_setBranch 23 = .ok (.getfield 10, 3) := by decide +kernel
theorem dX3_setBranch_26 : decode cX3_setBranch 26 = .ok (.iload 4, 2) := by decide +kernel
theorem dX3_setBranch_28 : decode cX3_setBranch 28 = .ok (.invokevirtual 35, 3) := by decide +kernel
theorem dX3_setBranch_31 : decode cX3_setBranch 31 = .ok (.ifCond .ne 7, 3) := by decide +kernel
theorem dX3_setBranch_34 : decode cX3_setBranch 34 = .ok (.sipush (-1001), 3) := by decide +kernel
theorem dX3_setBranch_37 : decode cX3_setBranch 37 = .ok (.ireturn, 1) := by decide +kernel
theorem dX3_setBranch_38 : decode cX3_setBranch 38 = .ok (.iload_n 2, 1) := by decide +kernel
theorem dX3_setBranch_39 : decode cX3_setBranch 39 = .ok (.invokestatic 53, 3) := by decide +kernel
theorem dX3_setBranch_42 : decode cX3_setBranch 42 = .ok (.ifCond .ne 7, 3) := by decide +kernel
theorem dX3_setBranch_45 : decode cX3_setBranch 45 = .ok (.sipush (-1003), 3) := by decide +kernel
theorem dX3_setBranch_48 : decode cX3_setBranch 48 = .ok (.ireturn, 1) := by decide +kernel
theorem dX3_setBranch_49 : decode cX3_setBranch 49 = .ok (.aload_n 0, 1) := by decide +kernel
theorem dX3_setBranch_50 : decode cX3_setBranch 50 = .ok (.getfield 10, 3) := by decide +kernel
theorem dX3_setBranch_53 : decode cX3_setBranch 53 = .ok (.getfield 43, 3) := by decide +kernel
theorem dX3_setBranch_56 : decode cX3_setBranch 56 = .ok (.iload_n 1, 1) := by decide +kernel
theorem dX3_setBranch_57 : decode cX3_setBranch 57 = .ok (.aaload, 1) := by decide +kernel
theorem dX3_setBranch_58 : decode cX3_setBranch 58 = .ok (.iconst 1, 1) := by decide +kernel
theorem dX3_setBranch_59 : decode cX3_setBranch 59 = .ok (.iload_n 2, 1) := by decide +kernel
theorem dX3_setBranch_60 : decode cX3_setBranch 60 = .ok (.iload_n 3, 1) := by decide +kernel
theorem dX3_setBranch_61 : decode cX3_setBranch 61 = .ok (.iload 4, 2) := by decide +kernel
theorem dX3_setBranch_63 : decode cX3_setBranch 63 = .ok (.invokevirtual 56, 3) := by decide +kernel
theorem dX3_setBranch_66 : decode cX3_setBranch 66 = .ok (.ireturn, 1) := by decide +kernel
set_option maxRecDepth 20000 in
theorem ggX3_setReturn_X2_has : GoodIn wsX3_setReturn wsX2_has := goodIn_r _ [5, 6, 21, 22, 23, 24, 25] (by decide +kernel) (by decide +kernel)
set_option maxRecDepth 20000 in
theorem gX3_setReturn_X2_has_n35 : GoodIn wsX3_setReturn (wsX2_has) := ggX3_setReturn_X2_has
set_option maxRecDepth 20000 in
theorem ggX3_setReturn_X3_isGeneral : GoodIn wsX3_setReturn wsX3_isGeneral := goodIn_r _ [10] (by decide +kernel) (by decide +kernel)
set_option maxRecDepth 20000 in
theorem gX3_setReturn_X3_isGeneral : GoodIn wsX3_setReturn (va_wsS RX3 53 yX3_isGeneral wsX3_isGeneral) := goodIn_app (goodIn_of _ (by decide +kernel)) ggX3_setReturn_X3_isGeneral
set_option maxRecDepth 20000 in
theorem ggX3_setReturn_X0_terminate : GoodIn wsX3_setReturn wsX0_terminate := goodIn_r _ [14, 15, 16, 26, 27, 28, 29, 30, 31, 32, 33] (by decide +kernel) (by decide +kernel)
set_option maxRecDepth 20000 in
theorem gX3_setReturn_X0_terminate_n56 : GoodIn wsX3_setReturn (wsX0_terminate) := ggX3_setReturn_X0_terminate
theorem dX3_setReturn_0 : decode cX3_setReturn 0 = .ok (.aload_n 0, 1) := by decide +kernel
theorem dX3_setReturn_1 : decode cX3_setReturn 1 = .ok (.getfield 10, 3) := by decide +kernel
theorem dX3_setReturn_4 : decode cX3_setReturn 4 = .ok (.iload_n 1, 1) := by decide +kernel
theorem dX3_setReturn_5 : decode cX3_setReturn 5 = .ok (.invokevirtual 35, 3) := by decide +kernel
theorem dX3_setReturn_8 : decode cX3_setReturn 8 = .ok (.ifCond .ne 7, 3) := by decide +kernel
theorem dX3_setReturn_11 : decode cX3_setReturn 11 = .ok (.sipush (-1001), 3) := by decide +kernel
theorem dX3_setReturn_14 : decode cX3_setReturn 14 = .ok (.ireturn, 1) := by decide +kernel
theorem dX3_setReturn_15 : decode cX3_setReturn 15 = .ok (.iload_n 2, 1) := by decide +kernel
theorem dX3_setReturn_16 : decode cX3_setReturn 16 = .ok (.invokestatic 53, 3) := by decide +kernel
theorem dX3_setReturn_19 : decode cX3_setReturn 19 = .ok (.ifCond .ne 7, 3) := by decide +kernel
theorem dX3_setReturn_22 : decode cX3_setReturn 22 = .ok (.sipush (-1003), 3) := by decide +kernel
theorem dX3_setReturn_25 : decode cX3_setReturn 25 = .ok (.ireturn, 1) := by decide +kernel
theorem dX3_setReturn_26 : decode cX3_setReturn 26 = .ok (.aload_n 0, 1) := by decide +kernel
theorem dX3_setReturn_27 : decode cX3_setReturn 27 = .ok (.getfield 10, 3) := by decide +kernel
theorem dX3_setReturn_30 : decode cX3_setReturn 30 = .ok (.getfield 43, 3) := by decide +kernel
theorem dX3_setReturn_33 : decode cX3_setReturn 33 = .ok (.iload_n 1, 1) := by decide +kernel
theorem dX3_setReturn_34 : decode cX3_setReturn 34 = .ok (.aaload, 1) := by decide +kernel
theorem dX3_setReturn_35 : decode cX3_setReturn 35 = .ok (.iconst 2, 1) := by decide +kernel
theorem dX3_setReturn_36 : decode cX3_setReturn 36 = .ok (.iload_n 2, 1) := by decide +kernel
theorem dX3_setReturn_37 : decode cX3_setReturn 37 = .ok (.iconst 0, 1) := by decide +kernel
theorem dX3_setReturn_38 : decode cX3_setReturn 38 = .ok (.iconst 0, 1) := by decide +kernel
theorem dX3_setReturn_39 : decode cX3_setReturn 39 = .ok (.invokevirtual 56, 3) := by decide +kernel
theorem dX3_setReturn_42 : decode cX3_setReturn 42 = .ok (.ireturn, 1) := by decide +kernel
theorem dX3_blockCount_0 : decode cX3_blockCount 0 = .ok (.aload_n 0, 1) := by decide +kernel
theorem dX3_blockCount_1 : decode cX3_blockCount 1 = .ok (.getfield 10, 3) := by decide +kernel
theorem dX3_blockCount_4 : decode cX3_blockCount 4 = .ok (.getfield 60, 3) := by decide +kernel
theorem dX3_blockCount_7 : decode cX3_blockCount 7 = .ok (.ireturn, 1) := by decide +kernel
set_option maxRecDepth 20000 in
theorem ggX3_instructionCount_X2_has : GoodIn wsX3_instructionCount wsX2_has := goodIn_r _ [5, 6, 11, 12, 13, 14, 15] (by decide +kernel) (by decide +kernel)
set_option maxRecDepth 20000 in
theorem gX3_instructionCount_X2_has_n35 : GoodIn wsX3_instructionCount (wsX2_has) := ggX3_instructionCount_X2_has
theorem dX3_instructionCount_0 : decode cX3_instructionCount 0 = .ok (.aload_n 0, 1) := by decide +kernel
theorem dX3_instructionCount_1 : decode cX3_instructionCount 1 = .ok (.getfield 10, 3) := by decide +kernel
theorem dX3_instructionCount_4 : decode cX3_instructionCount 4 = .ok (.iload_n 1, 1) := by decide +kernel
theorem dX3_instructionCount_5 : decode cX3_instructionCount 5 = .ok (.invokevirtual 35, 3) := by decide +kernel
theorem dX3_instructionCount_8 : decode cX3_instructionCount 8 = .ok (.ifCond .eq 18, 3) := by decide +kernel
theorem dX3_instructionCount_11 : decode cX3_instructionCount 11 = .ok (.aload_n 0, 1) := by decide +kernel
theorem dX3_instructionCount_12 : decode cX3_instructionCount 12 = .ok (.getfield 10, 3) := by decide +kernel
theorem dX3_instructionCount_15 : decode cX3_instructionCount 15 = .ok (.getfield 43, 3) := by decide +kernel
theorem dX3_instructionCount_18 : decode cX3_instructionCount 18 = .ok (.iload_n 1, 1) := by decide +kernel
theorem dX3_instructionCount_19 : decode cX3_instructionCount 19 = .ok (.aaload, 1) := by decide +kernel
theorem dX3_instructionCount_20 : decode cX3_instructionCount 20 = .ok (.getfield 64, 3) := by decide +kernel
theorem dX3_instructionCount_23 : decode cX3_instructionCount 23 = .ok (.goto 6, 3) := by decide +kernel
theorem dX3_instructionCount_26 : decode cX3_instructionCount 26 = .ok (.sipush (-1001), 3) := by decide +kernel
theorem dX3_instructionCount_29 : decode cX3_instructionCount 29 = .ok (.ireturn, 1) := by decide +kernel
set_option maxRecDepth 20000 in
theorem ggX3_opcode_X3_instructionError : GoodIn wsX3_opcode wsX3_instructionError := goodIn_r _ [6, 1, 7, 8, 9, 10, 11, 12, 13, 14, 15, 16, 17, 18, 19, 20, 21, 22, 23, 24, 25, 26, 27, 28] (by decide +kernel) (by decide +kernel)
set_option maxRecDepth 20000 in
theorem gX3_opcode_X3_instructionError : GoodIn wsX3_opcode (wsV RX3 65 RX3 yX3_instructionError wsX3_instructionError) := goodIn_app (goodIn_of _ (by decide +kernel)) ggX3_opcode_X3_instructionError
theorem dX3_opcode_0 : decode cX3_opcode 0 = .ok (.aload_n 0, 1) := by decide +kernel
theorem dX3_opcode_1 : decode cX3_opcode 1 = .ok (.iload_n 1, 1) := by decide +kernel
theorem dX3_opcode_2 : decode cX3_opcode 2 = .ok (.iload_n 2, 1) := by decide +kernel
theorem dX3_opcode_3 : decode cX3_opcode 3 = .ok (.invokevirtual 65, 3) := by decide +kernel
theorem dX3_opcode_6 : decode cX3_opcode 6 = .ok (.istore_n 3, 1) := by decide +kernel
theorem dX3_opcode_7 : decode cX3_opcode 7 = .ok (.iload_n 3, 1) := by decide +kernel
theorem dX3_opcode_8 : decode cX3_opcode 8 = .ok (.ifCond .eq 7, 3) := by decide +kernel
theorem dX3_opcode_11 : decode cX3_opcode 11 = .ok (.iload_n 3, 1) := by decide +kernel
theorem dX3_opcode_12 : decode cX3_opcode 12 = .ok (.goto 17, 3) := by decide +kernel
theorem dX3_opcode_15 : decode cX3_opcode 15 = .ok (.aload_n 0, 1) := by decide +kernel
theorem dX3_opcode_16 : decode cX3_opcode 16 = .ok (.getfield 10, 3) := by decide +kernel
theorem dX3_opcode_19 : decode cX3_opcode 19 = .ok (.getfield 43, 3) := by decide +kernel
theorem dX3_opcode_22 : decode cX3_opcode 22 = .ok (.iload_n 1, 1) := by decide +kernel
theorem dX3_opcode_23 : decode cX3_opcode 23 = .ok (.aaload, 1) := by decide +kernel
theorem dX3_opcode_24 : decode cX3_opcode 24 = .ok (.getfield 69, 3) := by decide +kernel
theorem dX3_opcode_27 : decode cX3_opcode 27 = .ok (.iload_n 2, 1) := by decide +kernel
theorem dX3_opcode_28 : decode cX3_opcode 28 = .ok (.iaload, 1) := by decide +kernel
theorem dX3_opcode_29 : decode cX3_opcode 29 = .ok (.ireturn, 1) := by decide +kernel
set_option maxRecDepth 20000 in
theorem ggX3_destination_X3_instructionError : GoodIn wsX3_destination wsX3_instructionError := goodIn_r _ [6, 1, 7, 8, 9, 10, 11, 12, 13, 14, 15, 16, 17, 18, 19, 20, 21, 22, 23, 24, 25, 26, 27, 28] (by decide +kernel) (by decide +kernel)
set_option maxRecDepth 20000 in
theorem gX3_destination_X3_instructionError : GoodIn wsX3_destination (wsV RX3 65 RX3 yX3_instructionError wsX3_instructionError) := goodIn_app (goodIn_of _ (by decide +kernel)) ggX3_destination_X3_instructionError
theorem dX3_destination_0 : decode cX3_destination 0 = .ok (.aload_n 0, 1) := by decide +kernel
theorem dX3_destination_1 : decode cX3_destination 1 = .ok (.iload_n 1, 1) := by decide +kernel
theorem dX3_destination_2 : decode cX3_destination 2 = .ok (.iload_n 2, 1) := by decide +kernel
theorem dX3_destination_3 : decode cX3_destination 3 = .ok (.invokevirtual 65, 3) := by decide +kernel
theorem dX3_destination_6 : decode cX3_destination 6 = .ok (.istore_n 3, 1) := by decide +kernel
theorem dX3_destination_7 : decode cX3_destination 7 = .ok (.iload_n 3, 1) := by decide +kernel
theorem dX3_destination_8 : decode cX3_destination 8 = .ok (.ifCond .eq 7, 3) := by decide +kernel
theorem dX3_destination_11 : decode cX3_destination 11 = .ok (.iload_n 3, 1) := by decide +kernel
theorem dX3_destination_12 : decode cX3_destination 12 = .ok (.goto 17, 3) := by decide +kernel
theorem dX3_destination_15 : decode cX3_destination 15 = .ok (.aload_n 0, 1) := by decide +kernel
theorem dX3_destination_16 : decode cX3_destination 16 = .ok (.getfield 10, 3) := by decide +kernel
theorem dX3_destination_19 : decode cX3_destination 19 = .ok (.getfield 43, 3) := by decide +kernel
theorem dX3_destination_22 : decode cX3_destination 22 = .ok (.iload_n 1, 1) := by decide +kernel
theorem dX3_destination_23 : decode cX3_destination 23 = .ok (.aaload, 1) := by decide +kernel
theorem dX3_destination_24 : decode cX3_destination 24 = .ok (.getfield 73, 3) := by decide +kernel
theorem dX3_destination_27 : decode cX3_destination 27 = .ok (.iload_n 2, 1) := by decide +kernel
theorem dX3_destination_28 : decode cX3_destination 28 = .ok (.iaload, 1) := by decide +kernel
theorem dX3_destination_29 : decode cX3_destination 29 = .ok (.ireturn, 1) := by decide +kernel
set_option maxRecDepth 20000 in
theorem ggX3_operandA_X3_instructionError : GoodIn wsX3_operandA wsX3_instructionError := goodIn_r _ [6, 1, 7, 8, 9, 10, 11, 12, 13, 14, 15, 16, 17, 18, 19, 20, 21, 22, 23, 24, 25, 26, 27, 28] (by decide +kernel) (by decide +kernel)
set_option maxRecDepth 20000 in
theorem gX3_operandA_X3_instructionError : GoodIn wsX3_operandA (wsV RX3 65 RX3 yX3_instructionError wsX3_instructionError) := goodIn_app (goodIn_of _ (by decide +kernel)) ggX3_operandA_X3_instructionError
theorem dX3_operandA_0 : decode cX3_operandA 0 = .ok (.aload_n 0, 1) := by decide +kernel
theorem dX3_operandA_1 : decode cX3_operandA 1 = .ok (.iload_n 1, 1) := by decide +kernel
theorem dX3_operandA_2 : decode cX3_operandA 2 = .ok (.iload_n 2, 1) := by decide +kernel
theorem dX3_operandA_3 : decode cX3_operandA 3 = .ok (.invokevirtual 65, 3) := by decide +kernel
theorem dX3_operandA_6 : decode cX3_operandA 6 = .ok (.istore_n 3, 1) := by decide +kernel
theorem dX3_operandA_7 : decode cX3_operandA 7 = .ok (.iload_n 3, 1) := by decide +kernel
theorem dX3_operandA_8 : decode cX3_operandA 8 = .ok (.ifCond .eq 7, 3) := by decide +kernel
theorem dX3_operandA_11 : decode cX3_operandA 11 = .ok (.iload_n 3, 1) := by decide +kernel
theorem dX3_operandA_12 : decode cX3_operandA 12 = .ok (.goto 17, 3) := by decide +kernel
theorem dX3_operandA_15 : decode cX3_operandA 15 = .ok (.aload_n 0, 1) := by decide +kernel
theorem dX3_operandA_16 : decode cX3_operandA 16 = .ok (.getfield 10, 3) := by decide +kernel
theorem dX3_operandA_19 : decode cX3_operandA 19 = .ok (.getfield 43, 3) := by decide +kernel
theorem dX3_operandA_22 : decode cX3_operandA 22 = .ok (.iload_n 1, 1) := by decide +kernel
theorem dX3_operandA_23 : decode cX3_operandA 23 = .ok (.aaload, 1) := by decide +kernel
theorem dX3_operandA_24 : decode cX3_operandA 24 = .ok (.getfield 76, 3) := by decide +kernel
theorem dX3_operandA_27 : decode cX3_operandA 27 = .ok (.iload_n 2, 1) := by decide +kernel
theorem dX3_operandA_28 : decode cX3_operandA 28 = .ok (.iaload, 1) := by decide +kernel
theorem dX3_operandA_29 : decode cX3_operandA 29 = .ok (.ireturn, 1) := by decide +kernel
set_option maxRecDepth 20000 in
theorem ggX3_operandB_X3_instructionError : GoodIn wsX3_operandB wsX3_instructionError := goodIn_r _ [6, 1, 7, 8, 9, 10, 11, 12, 13, 14, 15, 16, 17, 18, 19, 20, 21, 22, 23, 24, 25, 26, 27, 28] (by decide +kernel) (by decide +kernel)
set_option maxRecDepth 20000 in
theorem gX3_operandB_X3_instructionError : GoodIn wsX3_operandB (wsV RX3 65 RX3 yX3_instructionError wsX3_instructionError) := goodIn_app (goodIn_of _ (by decide +kernel)) ggX3_operandB_X3_instructionError
theorem dX3_operandB_0 : decode cX3_operandB 0 = .ok (.aload_n 0, 1) := by decide +kernel
theorem dX3_operandB_1 : decode cX3_operandB 1 = .ok (.iload_n 1, 1) := by decide +kernel
theorem dX3_operandB_2 : decode cX3_operandB 2 = .ok (.iload_n 2, 1) := by decide +kernel
theorem dX3_operandB_3 : decode cX3_operandB 3 = .ok (.invokevirtual 65, 3) := by decide +kernel
theorem dX3_operandB_6 : decode cX3_operandB 6 = .ok (.istore_n 3, 1) := by decide +kernel
theorem dX3_operandB_7 : decode cX3_operandB 7 = .ok (.iload_n 3, 1) := by decide +kernel
theorem dX3_operandB_8 : decode cX3_operandB 8 = .ok (.ifCond .eq 7, 3) := by decide +kernel
theorem dX3_operandB_11 : decode cX3_operandB 11 = .ok (.iload_n 3, 1) := by decide +kernel
theorem dX3_operandB_12 : decode cX3_operandB 12 = .ok (.goto 17, 3) := by decide +kernel
theorem dX3_operandB_15 : decode cX3_operandB 15 = .ok (.aload_n 0, 1) := by decide +kernel
theorem dX3_operandB_16 : decode cX3_operandB 16 = .ok (.getfield 10, 3) := by decide +kernel
theorem dX3_operandB_19 : decode cX3_operandB 19 = .ok (.getfield 43, 3) := by decide +kernel
theorem dX3_operandB_22 : decode cX3_operandB 22 = .ok (.iload_n 1, 1) := by decide +kernel
theorem dX3_operandB_23 : decode cX3_operandB 23 = .ok (.aaload, 1) := by decide +kernel
theorem dX3_operandB_24 : decode cX3_operandB 24 = .ok (.getfield 79, 3) := by decide +kernel
theorem dX3_operandB_27 : decode cX3_operandB 27 = .ok (.iload_n 2, 1) := by decide +kernel
theorem dX3_operandB_28 : decode cX3_operandB 28 = .ok (.iaload, 1) := by decide +kernel
theorem dX3_operandB_29 : decode cX3_operandB 29 = .ok (.ireturn, 1) := by decide +kernel
set_option maxRecDepth 20000 in
theorem ggX3_lines_X3_instructionError : GoodIn wsX3_lines wsX3_instructionError := goodIn_r _ [6, 1, 7, 8, 9, 10, 11, 12, 13, 14, 15, 16, 17, 18, 19, 20, 21, 22, 23, 24, 25, 26, 27, 28] (by decide +kernel) (by decide +kernel)
set_option maxRecDepth 20000 in
theorem gX3_lines_X3_instructionError : GoodIn wsX3_lines (wsV RX3 65 RX3 yX3_instructionError wsX3_instructionError) := goodIn_app (goodIn_of _ (by decide +kernel)) ggX3_lines_X3_instructionError
theorem dX3_lines_0 : decode cX3_lines 0 = .ok (.aload_n 0, 1) := by decide +kernel
theorem dX3_lines_1 : decode cX3_lines 1 = .ok (.iload_n 1, 1) := by decide +kernel
theorem dX3_lines_2 : decode cX3_lines 2 = .ok (.iload_n 2, 1) := by decide +kernel
theorem dX3_lines_3 : decode cX3_lines 3 = .ok (.invokevirtual 65, 3) := by decide +kernel
theorem dX3_lines_6 : decode cX3_lines 6 = .ok (.istore_n 3, 1) := by decide +kernel
theorem dX3_lines_7 : decode cX3_lines 7 = .ok (.iload_n 3, 1) := by decide +kernel
theorem dX3_lines_8 : decode cX3_lines 8 = .ok (.ifCond .eq 7, 3) := by decide +kernel
theorem dX3_lines_11 : decode cX3_lines 11 = .ok (.iload_n 3, 1) := by decide +kernel
theorem dX3_lines_12 : decode cX3_lines 12 = .ok (.goto 17, 3) := by decide +kernel
theorem dX3_lines_15 : decode cX3_lines 15 = .ok (.aload_n 0, 1) := by decide +kernel
theorem dX3_lines_16 : decode cX3_lines 16 = .ok (.getfield 10, 3) := by decide +kernel
theorem dX3_lines_19 : decode cX3_lines 19 = .ok (.getfield 43, 3) := by decide +kernel
theorem dX3_lines_22 : decode cX3_lines 22 = .ok (.iload_n 1, 1) := by decide +kernel
theorem dX3_lines_23 : decode cX3_lines 23 = .ok (.aaload, 1) := by decide +kernel
theorem dX3_lines_24 : decode cX3_lines 24 = .ok (.getfield 82, 3) := by decide +kernel
theorem dX3_lines_27 : decode cX3_lines 27 = .ok (.iload_n 2, 1) := by decide +kernel
theorem dX3_lines_28 : decode cX3_lines 28 = .ok (.iaload, 1) := by decide +kernel
theorem dX3_lines_29 : decode cX3_lines 29 = .ok (.ireturn, 1) := by decide +kernel
set_option maxRecDepth 20000 in
theorem ggX3_instructionError_X2_has : GoodIn wsX3_instructionError wsX2_has := goodIn_r _ [5, 6, 11, 12, 13, 14, 15] (by decide +kernel) (by decide +kernel)
set_option maxRecDepth 20000 in
theorem gX3_instructionError_X2_has_n35 : GoodIn wsX3_instructionError (wsX2_has) := ggX3_instructionError_X2_has
theorem dX3_instructionError_0 : decode cX3_instructionError 0 = .ok (.aload_n 0, 1) := by decide +kernel
theorem dX3_instructionError_1 : decode cX3_instructionError 1 = .ok (.getfield 10, 3) := by decide +kernel
theorem dX3_instructionError_4 : decode cX3_instructionError 4 = .ok (.iload_n 1, 1) := by decide +kernel
theorem dX3_instructionError_5 : decode cX3_instructionError 5 = .ok (.invokevirtual 35, 3) := by decide +kernel
theorem dX3_instructionError_8 : decode cX3_instructionError 8 = .ok (.ifCond .ne 7, 3) := by decide +kernel
theorem dX3_instructionError_11 : decode cX3_instructionError 11 = .ok (.sipush (-1001), 3) := by decide +kernel
theorem dX3_instructionError_14 : decode cX3_instructionError 14 = .ok (.ireturn, 1) := by decide +kernel
theorem dX3_instructionError_15 : decode cX3_instructionError 15 = .ok (.iload_n 2, 1) := by decide +kernel
theorem dX3_instructionError_16 : decode cX3_instructionError 16 = .ok (.ifCond .lt 19, 3) := by decide +kernel
theorem dX3_instructionError_19 : decode cX3_instructionError 19 = .ok (.iload_n 2, 1) := by decide +kernel
theorem dX3_instructionError_20 : decode cX3_instructionError 20 = .ok (.aload_n 0, 1) := by decide +kernel
theorem dX3_instructionError_21 : decode cX3_instructionError 21 = .ok (.getfield 10, 3) := by decide +kernel
theorem dX3_instructionError_24 : decode cX3_instructionError 24 = .ok (.getfield 43, 3) := by decide +kernel
theorem dX3_instructionError_27 : decode cX3_instructionError 27 = .ok (.iload_n 1, 1) := by decide +kernel
theorem dX3_instructionError_28 : decode cX3_instructionError 28 = .ok (.aaload, 1) := by decide +kernel
theorem dX3_instructionError_29 : decode cX3_instructionError 29 = .ok (.getfield 64, 3) := by decide +kernel
theorem dX3_instructionError_32 : decode cX3_instructionError 32 = .ok (.if_icmp .lt 7, 3) := by decide +kernel
theorem dX3_instructionError_35 : decode cX3_instructionError 35 = .ok (.sipush (-1002), 3) := by decide +kernel
theorem dX3_instructionError_38 : decode cX3_instructionError 38 = .ok (.ireturn, 1) := by decide +kernel
theorem dX3_instructionError_39 : decode cX3_instructionError 39 = .ok (.iconst 0, 1) := by decide +kernel
theorem dX3_instructionError_40 : decode cX3_instructionError 40 = .ok (.ireturn, 1) := by decide +kernel
set_option maxRecDepth 20000 in
theorem ggX3_terminatorKind_X2_has : GoodIn wsX3_terminatorKind wsX2_has := goodIn_r _ [5, 6, 11, 12, 13, 14, 15] (by decide +kernel) (by decide +kernel)
set_option maxRecDepth 20000 in
theorem gX3_terminatorKind_X2_has_n35 : GoodIn wsX3_terminatorKind (wsX2_has) := ggX3_terminatorKind_X2_has
theorem dX3_terminatorKind_0 : decode cX3_terminatorKind 0 = .ok (.aload_n 0, 1) := by decide +kernel
theorem dX3_terminatorKind_1 : decode cX3_terminatorKind 1 = .ok (.getfield 10, 3) := by decide +kernel
theorem dX3_terminatorKind_4 : decode cX3_terminatorKind 4 = .ok (.iload_n 1, 1) := by decide +kernel
theorem dX3_terminatorKind_5 : decode cX3_terminatorKind 5 = .ok (.invokevirtual 35, 3) := by decide +kernel
theorem dX3_terminatorKind_8 : decode cX3_terminatorKind 8 = .ok (.ifCond .eq 18, 3) := by decide +kernel
theorem dX3_terminatorKind_11 : decode cX3_terminatorKind 11 = .ok (.aload_n 0, 1) := by decide +kernel
theorem dX3_terminatorKind_12 : decode cX3_terminatorKind 12 = .ok (.getfield 10, 3) := by decide +kernel
theorem dX3_terminatorKind_15 : decode cX3_terminatorKind 15 = .ok (.getfield 43, 3) := by decide +kernel
theorem dX3_terminatorKind_18 : decode cX3_terminatorKind 18 = .ok (.iload_n 1, 1) := by decide +kernel
theorem dX3_terminatorKind_19 : decode cX3_terminatorKind 19 = .ok (.aaload, 1) := by decide +kernel
theorem dX3_terminatorKind_20 : decode cX3_terminatorKind 20 = .ok (.getfield 85, 3) := by decide +kernel
theorem dX3_terminatorKind_23 : decode cX3_terminatorKind 23 = .ok (.goto 6, 3) := by decide +kernel
theorem dX3_terminatorKind_26 : decode cX3_terminatorKind 26 = .ok (.sipush (-1001), 3) := by decide +kernel
theorem dX3_terminatorKind_29 : decode cX3_terminatorKind 29 = .ok (.ireturn, 1) := by decide +kernel
set_option maxRecDepth 20000 in
theorem ggX3_terminatorOperand_X2_has : GoodIn wsX3_terminatorOperand wsX2_has := goodIn_r _ [5, 6, 11, 12, 13, 14, 15] (by decide +kernel) (by decide +kernel)
set_option maxRecDepth 20000 in
theorem gX3_terminatorOperand_X2_has_n35 : GoodIn wsX3_terminatorOperand (wsX2_has) := ggX3_terminatorOperand_X2_has
theorem dX3_terminatorOperand_0 : decode cX3_terminatorOperand 0 = .ok (.aload_n 0, 1) := by decide +kernel
theorem dX3_terminatorOperand_1 : decode cX3_terminatorOperand 1 = .ok (.getfield 10, 3) := by decide +kernel
theorem dX3_terminatorOperand_4 : decode cX3_terminatorOperand 4 = .ok (.iload_n 1, 1) := by decide +kernel
theorem dX3_terminatorOperand_5 : decode cX3_terminatorOperand 5 = .ok (.invokevirtual 35, 3) := by decide +kernel
theorem dX3_terminatorOperand_8 : decode cX3_terminatorOperand 8 = .ok (.ifCond .ne 7, 3) := by decide +kernel
theorem dX3_terminatorOperand_11 : decode cX3_terminatorOperand 11 = .ok (.sipush (-1001), 3) := by decide +kernel
theorem dX3_terminatorOperand_14 : decode cX3_terminatorOperand 14 = .ok (.ireturn, 1) := by decide +kernel
theorem dX3_terminatorOperand_15 : decode cX3_terminatorOperand 15 = .ok (.aload_n 0, 1) := by decide +kernel
theorem dX3_terminatorOperand_16 : decode cX3_terminatorOperand 16 = .ok (.getfield 10, 3) := by decide +kernel
theorem dX3_terminatorOperand_19 : decode cX3_terminatorOperand 19 = .ok (.getfield 43, 3) := by decide +kernel
theorem dX3_terminatorOperand_22 : decode cX3_terminatorOperand 22 = .ok (.iload_n 1, 1) := by decide +kernel
theorem dX3_terminatorOperand_23 : decode cX3_terminatorOperand 23 = .ok (.aaload, 1) := by decide +kernel
theorem dX3_terminatorOperand_24 : decode cX3_terminatorOperand 24 = .ok (.astore_n 3, 1) := by decide +kernel
theorem dX3_terminatorOperand_25 : decode cX3_terminatorOperand 25 = .ok (.aload_n 3, 1) := by decide +kernel
theorem dX3_terminatorOperand_26 : decode cX3_terminatorOperand 26 = .ok (.getfield 85, 3) := by decide +kernel
theorem dX3_terminatorOperand_29 : decode cX3_terminatorOperand 29 = .ok (.iconst 1, 1) := by decide +kernel
theorem dX3_terminatorOperand_30 : decode cX3_terminatorOperand 30 = .ok (.if_icmp .ne 7, 3) := by decide +kernel
theorem dX3_terminatorOperand_33 : decode cX3_terminatorOperand 33 = .ok (.iconst 3, 1) := by decide +kernel
theorem dX3_terminatorOperand_34 : decode cX3_terminatorOperand 34 = .ok (.goto 4, 3) := by decide +kernel
theorem dX3_terminatorOperand_37 : decode cX3_terminatorOperand 37 = .ok (.iconst 1, 1) := by decide +kernel
theorem dX3_terminatorOperand_38 : decode cX3_terminatorOperand 38 = .ok (.istore 4, 2) := by decide +kernel
theorem dX3_terminatorOperand_40 : decode cX3_terminatorOperand 40 = .ok (.iload_n 2, 1) := by decide +kernel
theorem dX3_terminatorOperand_41 : decode cX3_terminatorOperand 41 = .ok (.ifCond .lt 9, 3) := by decide +kernel
theorem dX3_terminatorOperand_44 : decode cX3_terminatorOperand 44 = .ok (.iload_n 2, 1) := by decide +kernel
theorem dX3_terminatorOperand_45 : decode cX3_terminatorOperand 45 = .ok (.iload 4, 2) := by decide +kernel
theorem dX3_terminatorOperand_47 : decode cX3_terminatorOperand 47 = .ok (.if_icmp .lt 7, 3) := by decide +kernel
theorem dX3_terminatorOperand_50 : decode cX3_terminatorOperand 50 = .ok (.sipush (-1008), 3) := by decide +kernel
theorem dX3_terminatorOperand_53 : decode cX3_terminatorOperand 53 = .ok (.ireturn, 1) := by decide +kernel
theorem dX3_terminatorOperand_54 : decode cX3_terminatorOperand 54 = .ok (.aload_n 3, 1) := by decide +kernel
theorem dX3_terminatorOperand_55 : decode cX3_terminatorOperand 55 = .ok (.getfield 88, 3) := by decide +kernel
end
section
theorem dX3_terminatorOperand_58 : decode cX3_terminatorOperand 58 = .ok (.iload_n 2, 1) := by decide +kernel
theorem dX3_terminatorOperand_59 : decode cX3_terminatorOperand 59 = .ok (.iaload, 1) := by decide +kernel
theorem dX3_terminatorOperand_60 : decode cX3_terminatorOperand 60 = .ok (.ireturn, 1) := by decide +kernel
set_option maxRecDepth 20000 in
theorem ggX3_tailHash_X2_has : GoodIn wsX3_tailHash wsX2_has := goodIn_r _ [5, 6, 23, 24, 25, 26, 27] (by decide +kernel) (by decide +kernel)
set_option maxRecDepth 20000 in
theorem gX3_tailHash_X2_has_n35 : GoodIn wsX3_tailHash (wsX2_has) := ggX3_tailHash_X2_has
set_option maxRecDepth 20000 in
theorem ggX3_tailHash_X0_hashOfTail : GoodIn wsX3_tailHash wsX0_hashOfTail := goodIn_r _ [10, 11, 12, 13, 14, 15, 16, 17, 18, 28, 29, 30, 31, 32, 33, 34, 35] (by decide +kernel) (by decide +kernel)
set_option maxRecDepth 20000 in
theorem gX3_tailHash_X0_hashOfTail_n91 : GoodIn wsX3_tailHash (wsX0_hashOfTail) := ggX3_tailHash_X0_hashOfTail
theorem dX3_tailHash_0 : decode cX3_tailHash 0 = .ok (.aload_n 0, 1) := by decide +kernel
theorem dX3_tailHash_1 : decode cX3_tailHash 1 = .ok (.getfield 10, 3) := by decide +kernel
theorem dX3_tailHash_4 : decode cX3_tailHash 4 = .ok (.iload_n 1, 1) := by decide +kernel
theorem dX3_tailHash_5 : decode cX3_tailHash 5 = .ok (.invokevirtual 35, 3) := by decide +kernel
theorem dX3_tailHash_8 : decode cX3_tailHash 8 = .ok (.ifCond .ne 7, 3) := by decide +kernel
theorem dX3_tailHash_11 : decode cX3_tailHash 11 = .ok (.sipush (-1001), 3) := by decide +kernel
theorem dX3_tailHash_14 : decode cX3_tailHash 14 = .ok (.ireturn, 1) := by decide +kernel
theorem dX3_tailHash_15 : decode cX3_tailHash 15 = .ok (.aload_n 0, 1) := by decide +kernel
theorem dX3_tailHash_16 : decode cX3_tailHash 16 = .ok (.getfield 10, 3) := by decide +kernel
theorem dX3_tailHash_19 : decode cX3_tailHash 19 = .ok (.getfield 43, 3) := by decide +kernel
theorem dX3_tailHash_22 : decode cX3_tailHash 22 = .ok (.iload_n 1, 1) := by decide +kernel
theorem dX3_tailHash_23 : decode cX3_tailHash 23 = .ok (.aaload, 1) := by decide +kernel
theorem dX3_tailHash_24 : decode cX3_tailHash 24 = .ok (.astore_n 3, 1) := by decide +kernel
theorem dX3_tailHash_25 : decode cX3_tailHash 25 = .ok (.iload_n 2, 1) := by decide +kernel
theorem dX3_tailHash_26 : decode cX3_tailHash 26 = .ok (.ifCond .lt 11, 3) := by decide +kernel
theorem dX3_tailHash_29 : decode cX3_tailHash 29 = .ok (.iload_n 2, 1) := by decide +kernel
theorem dX3_tailHash_30 : decode cX3_tailHash 30 = .ok (.aload_n 3, 1) := by decide +kernel
theorem dX3_tailHash_31 : decode cX3_tailHash 31 = .ok (.getfield 64, 3) := by decide +kernel
theorem dX3_tailHash_34 : decode cX3_tailHash 34 = .ok (.if_icmp .le 7, 3) := by decide +kernel
theorem dX3_tailHash_37 : decode cX3_tailHash 37 = .ok (.sipush (-1003), 3) := by decide +kernel
theorem dX3_tailHash_40 : decode cX3_tailHash 40 = .ok (.ireturn, 1) := by decide +kernel
theorem dX3_tailHash_41 : decode cX3_tailHash 41 = .ok (.aload_n 3, 1) := by decide +kernel
theorem dX3_tailHash_42 : decode cX3_tailHash 42 = .ok (.iload_n 2, 1) := by decide +kernel
theorem dX3_tailHash_43 : decode cX3_tailHash 43 = .ok (.invokevirtual 91, 3) := by decide +kernel
theorem dX3_tailHash_46 : decode cX3_tailHash 46 = .ok (.ireturn, 1) := by decide +kernel
set_option maxRecDepth 20000 in
theorem ggX3_commonTail_X3_pairError : GoodIn wsX3_commonTail wsX3_pairError := goodIn_r _ [6, 1, 7, 8, 9, 10, 11, 35, 36, 37, 38, 39, 40, 41, 42, 43] (by decide +kernel) (by decide +kernel)
set_option maxRecDepth 20000 in
theorem gX3_commonTail_X3_pairError : GoodIn wsX3_commonTail (wsV RX3 95 RX3 yX3_pairError wsX3_pairError) := goodIn_app (goodIn_of _ (by decide +kernel)) ggX3_commonTail_X3_pairError
set_option maxRecDepth 20000 in
theorem ggX3_commonTail_X0_tailSharedWith : GoodIn wsX3_commonTail wsX0_tailSharedWith := goodIn_r _ [15, 16, 17, 18, 19, 20, 21, 22, 23, 13, 24, 25, 26, 27, 28, 29, 30, 31, 32, 33, 34, 44, 45, 46, 47, 48, 49, 50, 51] (by decide +kernel) (by decide +kernel)
set_option maxRecDepth 20000 in
theorem gX3_commonTail_X0_tailSharedWith_n98 : GoodIn wsX3_commonTail (wsX0_tailSharedWith) := ggX3_commonTail_X0_tailSharedWith
theorem dX3_commonTail_0 : decode cX3_commonTail 0 = .ok (.aload_n 0, 1) := by decide +kernel
theorem dX3_commonTail_1 : decode cX3_commonTail 1 = .ok (.iload_n 1, 1) := by decide +kernel
theorem dX3_commonTail_2 : decode cX3_commonTail 2 = .ok (.iload_n 2, 1) := by decide +kernel
theorem dX3_commonTail_3 : decode cX3_commonTail 3 = .ok (.invokevirtual 95, 3) := by decide +kernel
theorem dX3_commonTail_6 : decode cX3_commonTail 6 = .ok (.istore_n 3, 1) := by decide +kernel
theorem dX3_commonTail_7 : decode cX3_commonTail 7 = .ok (.iload_n 3, 1) := by decide +kernel
theorem dX3_commonTail_8 : decode cX3_commonTail 8 = .ok (.ifCond .eq 7, 3) := by decide +kernel
theorem dX3_commonTail_11 : decode cX3_commonTail 11 = .ok (.iload_n 3, 1) := by decide +kernel
theorem dX3_commonTail_12 : decode cX3_commonTail 12 = .ok (.goto 24, 3) := by decide +kernel
theorem dX3_commonTail_15 : decode cX3_commonTail 15 = .ok (.aload_n 0, 1) := by decide +kernel
theorem dX3_commonTail_16 : decode cX3_commonTail 16 = .ok (.getfield 10, 3) := by decide +kernel
theorem dX3_commonTail_19 : decode cX3_commonTail 19 = .ok (.getfield 43, 3) := by decide +kernel
theorem dX3_commonTail_22 : decode cX3_commonTail 22 = .ok (.iload_n 1, 1) := by decide +kernel
theorem dX3_commonTail_23 : decode cX3_commonTail 23 = .ok (.aaload, 1) := by decide +kernel
theorem dX3_commonTail_24 : decode cX3_commonTail 24 = .ok (.aload_n 0, 1) := by decide +kernel
theorem dX3_commonTail_25 : decode cX3_commonTail 25 = .ok (.getfield 10, 3) := by decide +kernel
theorem dX3_commonTail_28 : decode cX3_commonTail 28 = .ok (.getfield 43, 3) := by decide +kernel
theorem dX3_commonTail_31 : decode cX3_commonTail 31 = .ok (.iload_n 2, 1) := by decide +kernel
theorem dX3_commonTail_32 : decode cX3_commonTail 32 = .ok (.aaload, 1) := by decide +kernel
theorem dX3_commonTail_33 : decode cX3_commonTail 33 = .ok (.invokevirtual 98, 3) := by decide +kernel
theorem dX3_commonTail_36 : decode cX3_commonTail 36 = .ok (.ireturn, 1) := by decide +kernel
set_option maxRecDepth 20000 in
theorem ggX3_parameterTail_X3_pairError : GoodIn wsX3_parameterTail wsX3_pairError := goodIn_r _ [6, 1, 7, 8, 9, 10, 11, 47, 48, 49, 50, 51, 52, 53, 54, 55] (by decide +kernel) (by decide +kernel)
set_option maxRecDepth 20000 in
theorem gX3_parameterTail_X3_pairError : GoodIn wsX3_parameterTail (wsV RX3 95 RX3 yX3_pairError wsX3_pairError) := goodIn_app (goodIn_of _ (by decide +kernel)) ggX3_parameterTail_X3_pairError
set_option maxRecDepth 20000 in
theorem ggX3_parameterTail_X0_parameterTailWith : GoodIn wsX3_parameterTail wsX0_parameterTailWith := goodIn_r _ [15, 16, 17, 18, 19, 20, 21, 22, 23, 24, 13, 25, 26, 27, 28, 29, 30, 31, 32, 33, 34, 35, 36, 37, 38, 39, 40, 41, 42, 43, 44, 45, 46, 56, 57, 58, 59, 60, 61, 62, 63] (by decide +kernel) (by decide +kernel)
set_option maxRecDepth 20000 in
theorem gX3_parameterTail_X0_parameterTailWith_n102 : GoodIn wsX3_parameterTail (wsX0_parameterTailWith) := ggX3_parameterTail_X0_parameterTailWith
theorem dX3_parameterTail_0 : decode cX3_parameterTail 0 = .ok (.aload_n 0, 1) := by decide +kernel
theorem dX3_parameterTail_1 : decode cX3_parameterTail 1 = .ok (.iload_n 1, 1) := by decide +kernel
theorem dX3_parameterTail_2 : decode cX3_parameterTail 2 = .ok (.iload_n 2, 1) := by decide +kernel
theorem dX3_parameterTail_3 : decode cX3_parameterTail 3 = .ok (.invokevirtual 95, 3) := by decide +kernel
theorem dX3_parameterTail_6 : decode cX3_parameterTail 6 = .ok (.istore_n 3, 1) := by decide +kernel
theorem dX3_parameterTail_7 : decode cX3_parameterTail 7 = .ok (.iload_n 3, 1) := by decide +kernel
theorem dX3_parameterTail_8 : decode cX3_parameterTail 8 = .ok (.ifCond .eq 7, 3) := by decide +kernel
theorem dX3_parameterTail_11 : decode cX3_parameterTail 11 = .ok (.iload_n 3, 1) := by decide +kernel
theorem dX3_parameterTail_12 : decode cX3_parameterTail 12 = .ok (.goto 24, 3) := by decide +kernel
theorem dX3_parameterTail_15 : decode cX3_parameterTail 15 = .ok (.aload_n 0, 1) := by decide +kernel
theorem dX3_parameterTail_16 : decode cX3_parameterTail 16 = .ok (.getfield 10, 3) := by decide +kernel
theorem dX3_parameterTail_19 : decode cX3_parameterTail 19 = .ok (.getfield 43, 3) := by decide +kernel
theorem dX3_parameterTail_22 : decode cX3_parameterTail 22 = .ok (.iload_n 1, 1) := by decide +kernel
theorem dX3_parameterTail_23 : decode cX3_parameterTail 23 = .ok (.aaload, 1) := by decide +kernel
theorem dX3_parameterTail_24 : decode cX3_parameterTail 24 = .ok (.aload_n 0, 1) := by decide +kernel
theorem dX3_parameterTail_25 : decode cX3_parameterTail 25 = .ok (.getfield 10, 3) := by decide +kernel
theorem dX3_parameterTail_28 : decode cX3_parameterTail 28 = .ok (.getfield 43, 3) := by decide +kernel
theorem dX3_parameterTail_31 : decode cX3_parameterTail 31 = .ok (.iload_n 2, 1) := by decide +kernel
theorem dX3_parameterTail_32 : decode cX3_parameterTail 32 = .ok (.aaload, 1) := by decide +kernel
theorem dX3_parameterTail_33 : decode cX3_parameterTail 33 = .ok (.invokevirtual 102, 3) := by decide +kernel
theorem dX3_parameterTail_36 : decode cX3_parameterTail 36 = .ok (.ireturn, 1) := by decide +kernel
set_option maxRecDepth 20000 in
theorem ggX3_pairError_X2_has : GoodIn wsX3_pairError wsX2_has := goodIn_r _ [5, 6, 11, 12, 13, 14, 15] (by decide +kernel) (by decide +kernel)
set_option maxRecDepth 20000 in
theorem gX3_pairError_X2_has_n35 : GoodIn wsX3_pairError (wsX2_has) := ggX3_pairError_X2_has
theorem dX3_pairError_0 : decode cX3_pairError 0 = .ok (.aload_n 0, 1) := by decide +kernel
theorem dX3_pairError_1 : decode cX3_pairError 1 = .ok (.getfield 10, 3) := by decide +kernel
theorem dX3_pairError_4 : decode cX3_pairError 4 = .ok (.iload_n 1, 1) := by decide +kernel
theorem dX3_pairError_5 : decode cX3_pairError 5 = .ok (.invokevirtual 35, 3) := by decide +kernel
theorem dX3_pairError_8 : decode cX3_pairError 8 = .ok (.ifCond .eq 14, 3) := by decide +kernel
theorem dX3_pairError_11 : decode cX3_pairError 11 = .ok (.aload_n 0, 1) := by decide +kernel
theorem dX3_pairError_12 : decode cX3_pairError 12 = .ok (.getfield 10, 3) := by decide +kernel
theorem dX3_pairError_15 : decode cX3_pairError 15 = .ok (.iload_n 2, 1) := by decide +kernel
theorem dX3_pairError_16 : decode cX3_pairError 16 = .ok (.invokevirtual 35, 3) := by decide +kernel
theorem dX3_pairError_19 : decode cX3_pairError 19 = .ok (.ifCond .ne 7, 3) := by decide +kernel
theorem dX3_pairError_22 : decode cX3_pairError 22 = .ok (.sipush (-1001), 3) := by decide +kernel
theorem dX3_pairError_25 : decode cX3_pairError 25 = .ok (.ireturn, 1) := by decide +kernel
theorem dX3_pairError_26 : decode cX3_pairError 26 = .ok (.iload_n 1, 1) := by decide +kernel
theorem dX3_pairError_27 : decode cX3_pairError 27 = .ok (.iload_n 2, 1) := by decide +kernel
theorem dX3_pairError_28 : decode cX3_pairError 28 = .ok (.if_icmp .ne 9, 3) := by decide +kernel
theorem dX3_pairError_31 : decode cX3_pairError 31 = .ok (.sipush (-1003), 3) := by decide +kernel
theorem dX3_pairError_34 : decode cX3_pairError 34 = .ok (.goto 4, 3) := by decide +kernel
theorem dX3_pairError_37 : decode cX3_pairError 37 = .ok (.iconst 0, 1) := by decide +kernel
theorem dX3_pairError_38 : decode cX3_pairError 38 = .ok (.ireturn, 1) := by decide +kernel
theorem dX3_setJumpCost_0 : decode cX3_setJumpCost 0 = .ok (.iload_n 1, 1) := by decide +kernel
theorem dX3_setJumpCost_1 : decode cX3_setJumpCost 1 = .ok (.ifCond .lt 8, 3) := by decide +kernel
theorem dX3_setJumpCost_4 : decode cX3_setJumpCost 4 = .ok (.iload_n 1, 1) := by decide +kernel
theorem dX3_setJumpCost_5 : decode cX3_setJumpCost 5 = .ok (.iconst 5, 1) := by decide +kernel
theorem dX3_setJumpCost_6 : decode cX3_setJumpCost 6 = .ok (.if_icmp .le 7, 3) := by decide +kernel
theorem dX3_setJumpCost_9 : decode cX3_setJumpCost 9 = .ok (.sipush (-1003), 3) := by decide +kernel
theorem dX3_setJumpCost_12 : decode cX3_setJumpCost 12 = .ok (.ireturn, 1) := by decide +kernel
theorem dX3_setJumpCost_13 : decode cX3_setJumpCost 13 = .ok (.aload_n 0, 1) := by decide +kernel
theorem dX3_setJumpCost_14 : decode cX3_setJumpCost 14 = .ok (.getfield 10, 3) := by decide +kernel
theorem dX3_setJumpCost_17 : decode cX3_setJumpCost 17 = .ok (.getfield 105, 3) := by decide +kernel
theorem dX3_setJumpCost_20 : decode cX3_setJumpCost 20 = .ok (.istore_n 2, 1) := by decide +kernel
theorem dX3_setJumpCost_21 : decode cX3_setJumpCost 21 = .ok (.aload_n 0, 1) := by decide +kernel
theorem dX3_setJumpCost_22 : decode cX3_setJumpCost 22 = .ok (.getfield 10, 3) := by decide +kernel
theorem dX3_setJumpCost_25 : decode cX3_setJumpCost 25 = .ok (.iload_n 1, 1) := by decide +kernel
theorem dX3_setJumpCost_26 : decode cX3_setJumpCost 26 = .ok (.putfield 105, 3) := by decide +kernel
theorem dX3_setJumpCost_29 : decode cX3_setJumpCost 29 = .ok (.iload_n 2, 1) := by decide +kernel
theorem dX3_setJumpCost_30 : decode cX3_setJumpCost 30 = .ok (.ireturn, 1) := by decide +kernel
set_option maxRecDepth 20000 in
theorem ggX3_codeSize_X2_size : GoodIn wsX3_codeSize wsX2_size := goodIn_r _ [5, 6, 7, 8, 9, 10, 3, 11, 12, 17, 18, 19, 20, 21, 22, 23, 24, 25, 26, 27, 28, 29] (by decide +kernel) (by decide +kernel)
set_option maxRecDepth 20000 in
theorem gX3_codeSize_X2_size_n108 : GoodIn wsX3_codeSize (wsX2_size) := ggX3_codeSize_X2_size
theorem dX3_codeSize_0 : decode cX3_codeSize 0 = .ok (.aload_n 0, 1) := by decide +kernel
theorem dX3_codeSize_1 : decode cX3_codeSize 1 = .ok (.getfield 10, 3) := by decide +kernel
theorem dX3_codeSize_4 : decode cX3_codeSize 4 = .ok (.invokevirtual 108, 3) := by decide +kernel
theorem dX3_codeSize_7 : decode cX3_codeSize 7 = .ok (.ireturn, 1) := by decide +kernel
set_option maxRecDepth 20000 in
theorem ggX3_tailSaving_X3_tailOrError : GoodIn wsX3_tailSaving wsX3_tailOrError := goodIn_r _ [6, 1, 7, 8, 9, 10, 11, 12, 13, 14, 15, 16, 17, 18, 19, 20, 21, 22, 23, 24, 25, 26, 27, 28, 29, 30, 31, 32, 33, 34, 35, 36, 37, 38, 39, 40, 41, 42, 43, 44, 45, 46, 60, 61, 62, 63, 64, 65, 66, 67, 68, 69, 70, 71, 72, 73, 74, 75, 76] (by decide +kernel) (by decide +kernel)
set_option maxRecDepth 20000 in
theorem gX3_tailSaving_X3_tailOrError : GoodIn wsX3_tailSaving (wsV RX3 111 RX3 yX3_tailOrError wsX3_tailOrError) := goodIn_app (goodIn_of _ (by decide +kernel)) ggX3_tailSaving_X3_tailOrError
set_option maxRecDepth 20000 in
theorem ggX3_tailSaving_X2_savingOfSet : GoodIn wsX3_tailSaving wsX2_savingOfSet := goodIn_r _ [49, 18, 24, 25, 15, 26, 50, 8, 9, 10, 11, 12, 13, 51, 52, 53, 54, 19, 55, 56, 57, 58, 59, 64, 65, 66, 67, 68, 69, 70, 71, 72, 73, 74, 75, 76] (by decide +kernel) (by decide +kernel)
set_option maxRecDepth 20000 in
theorem gX3_tailSaving_X2_savingOfSet_n114 : GoodIn wsX3_tailSaving (wsX2_savingOfSet) := ggX3_tailSaving_X2_savingOfSet
theorem dX3_tailSaving_0 : decode cX3_tailSaving 0 = .ok (.aload_n 0, 1) := by decide +kernel
theorem dX3_tailSaving_1 : decode cX3_tailSaving 1 = .ok (.iload_n 1, 1) := by decide +kernel
theorem dX3_tailSaving_2 : decode cX3_tailSaving 2 = .ok (.invokevirtual 111, 3) := by decide +kernel
theorem dX3_tailSaving_5 : decode cX3_tailSaving 5 = .ok (.istore_n 2, 1) := by decide +kernel
theorem dX3_tailSaving_6 : decode cX3_tailSaving 6 = .ok (.iload_n 2, 1) := by decide +kernel
theorem dX3_tailSaving_7 : decode cX3_tailSaving 7 = .ok (.ifCond .ge 7, 3) := by decide +kernel
theorem dX3_tailSaving_10 : decode cX3_tailSaving 10 = .ok (.iload_n 2, 1) := by decide +kernel
theorem dX3_tailSaving_11 : decode cX3_tailSaving 11 = .ok (.goto 12, 3) := by decide +kernel
theorem dX3_tailSaving_14 : decode cX3_tailSaving 14 = .ok (.aload_n 0, 1) := by decide +kernel
theorem dX3_tailSaving_15 : decode cX3_tailSaving 15 = .ok (.getfield 10, 3) := by decide +kernel
theorem dX3_tailSaving_18 : decode cX3_tailSaving 18 = .ok (.iload_n 1, 1) := by decide +kernel
theorem dX3_tailSaving_19 : decode cX3_tailSaving 19 = .ok (.iload_n 2, 1) := by decide +kernel
theorem dX3_tailSaving_20 : decode cX3_tailSaving 20 = .ok (.invokevirtual 114, 3) := by decide +kernel
theorem dX3_tailSaving_23 : decode cX3_tailSaving 23 = .ok (.ireturn, 1) := by decide +kernel
set_option maxRecDepth 20000 in
theorem ggX3_tailOrError_J6_bitCount_0f7a4 : GoodIn wsX3_tailOrError wsJ6_bitCount_0f7a4 := goodIn_r _ [5, 6, 7, 8] (by decide +kernel) (by decide +kernel)
set_option maxRecDepth 20000 in
theorem gX3_tailOrError_J6_bitCount_0f7a4 : GoodIn wsX3_tailOrError (va_wsS RX3 117 yJ6_bitCount_0f7a4 wsJ6_bitCount_0f7a4) := goodIn_app (goodIn_of _ (by decide +kernel)) ggX3_tailOrError_J6_bitCount_0f7a4
set_option maxRecDepth 20000 in
theorem ggX3_tailOrError_X2_tailOfSet : GoodIn wsX3_tailOrError wsX2_tailOfSet := goodIn_r _ [12, 13, 14, 15, 16, 17, 18, 19, 20, 10, 21, 22, 23, 24, 25, 26, 27, 28, 29, 30, 31, 32, 33, 34, 35, 36, 37, 38, 39, 40, 41, 46, 47, 48, 49, 50, 51, 52, 53, 54, 55, 56, 57, 58] (by decide +kernel) (by decide +kernel)
set_option maxRecDepth 20000 in
theorem gX3_tailOrError_X2_tailOfSet_n122 : GoodIn wsX3_tailOrError (wsX2_tailOfSet) := ggX3_tailOrError_X2_tailOfSet
theorem dX3_tailOrError_0 : decode cX3_tailOrError 0 = .ok (.iload_n 1, 1) := by decide +kernel
theorem dX3_tailOrError_1 : decode cX3_tailOrError 1 = .ok (.aload_n 0, 1) := by decide +kernel
theorem dX3_tailOrError_2 : decode cX3_tailOrError 2 = .ok (.getfield 10, 3) := by decide +kernel
theorem dX3_tailOrError_5 : decode cX3_tailOrError 5 = .ok (.getfield 60, 3) := by decide +kernel
theorem dX3_tailOrError_8 : decode cX3_tailOrError 8 = .ok (.ishr, 1) := by decide +kernel
theorem dX3_tailOrError_9 : decode cX3_tailOrError 9 = .ok (.ifCond .eq 7, 3) := by decide +kernel
theorem dX3_tailOrError_12 : decode cX3_tailOrError 12 = .ok (.sipush (-1001), 3) := by decide +kernel
theorem dX3_tailOrError_15 : decode cX3_tailOrError 15 = .ok (.ireturn, 1) := by decide +kernel
theorem dX3_tailOrError_16 : decode cX3_tailOrError 16 = .ok (.iload_n 1, 1) := by decide +kernel
theorem dX3_tailOrError_17 : decode cX3_tailOrError 17 = .ok (.invokestatic 117, 3) := by decide +kernel
theorem dX3_tailOrError_20 : decode cX3_tailOrError 20 = .ok (.iconst 2, 1) := by decide +kernel
theorem dX3_tailOrError_21 : decode cX3_tailOrError 21 = .ok (.if_icmp .ge 7, 3) := by decide +kernel
theorem dX3_tailOrError_24 : decode cX3_tailOrError 24 = .ok (.sipush (-1003), 3) := by decide +kernel
theorem dX3_tailOrError_27 : decode cX3_tailOrError 27 = .ok (.ireturn, 1) := by decide +kernel
theorem dX3_tailOrError_28 : decode cX3_tailOrError 28 = .ok (.aload_n 0, 1) := by decide +kernel
theorem dX3_tailOrError_29 : decode cX3_tailOrError 29 = .ok (.getfield 10, 3) := by decide +kernel
theorem dX3_tailOrError_32 : decode cX3_tailOrError 32 = .ok (.iload_n 1, 1) := by decide +kernel
theorem dX3_tailOrError_33 : decode cX3_tailOrError 33 = .ok (.invokevirtual 122, 3) := by decide +kernel
theorem dX3_tailOrError_36 : decode cX3_tailOrError 36 = .ok (.ireturn, 1) := by decide +kernel
set_option maxRecDepth 20000 in
theorem ggX3_bestTail_X2_bestSet : GoodIn wsX3_bestTail wsX2_bestSet := goodIn_r _ [5, 6, 7, 8, 9, 10, 3, 11, 12, 13, 14, 15, 16, 17, 18, 19, 20, 21, 22, 23, 24, 25, 26, 27, 28, 29, 30, 31, 32, 33, 34, 35, 36, 37, 38, 39, 40, 41, 42, 43, 44, 45, 46, 47, 48, 49, 50, 51, 52, 53, 54, 55, 60, 61, 62, 63, 64, 65, 66, 67, 68, 69, 70, 71, 72] (by decide +kernel) (by decide +kernel)
set_option maxRecDepth 20000 in
theorem gX3_bestTail_X2_bestSet_n125 : GoodIn wsX3_bestTail (wsX2_bestSet) := ggX3_bestTail_X2_bestSet
theorem dX3_bestTail_0 : decode cX3_bestTail 0 = .ok (.aload_n 0, 1) := by decide +kernel
theorem dX3_bestTail_1 : decode cX3_bestTail 1 = .ok (.getfield 10, 3) := by decide +kernel
theorem dX3_bestTail_4 : decode cX3_bestTail 4 = .ok (.invokevirtual 125, 3) := by decide +kernel
theorem dX3_bestTail_7 : decode cX3_bestTail 7 = .ok (.ireturn, 1) := by decide +kernel
set_option maxRecDepth 20000 in
theorem ggX3_mergeTail_X3_tailOrError : GoodIn wsX3_mergeTail wsX3_tailOrError := goodIn_r _ [6, 1, 7, 8, 9, 10, 11, 12, 13, 14, 15, 16, 17, 18, 19, 20, 21, 22, 23, 24, 25, 26, 27, 28, 29, 30, 31, 32, 33, 34, 35, 36, 37, 38, 39, 40, 41, 42, 43, 44, 45, 46, 88, 89, 90, 91, 92, 93, 94, 95, 96, 97, 98, 99, 100, 101, 102, 103, 104] (by decide +kernel) (by decide +kernel)
set_option maxRecDepth 20000 in
theorem gX3_mergeTail_X3_tailOrError : GoodIn wsX3_mergeTail (wsV RX3 111 RX3 yX3_tailOrError wsX3_tailOrError) := goodIn_app (goodIn_of _ (by decide +kernel)) ggX3_mergeTail_X3_tailOrError
set_option maxRecDepth 20000 in
theorem ggX3_mergeTail_X2_savingOfSet : GoodIn wsX3_mergeTail wsX2_savingOfSet := goodIn_r _ [49, 18, 24, 25, 15, 26, 50, 8, 9, 10, 11, 12, 13, 51, 52, 53, 54, 19, 55, 56, 57, 58, 59, 92, 93, 94, 95, 96, 97, 98, 99, 100, 101, 102, 103, 104] (by decide +kernel) (by decide +kernel)
set_option maxRecDepth 20000 in
theorem gX3_mergeTail_X2_savingOfSet_n114 : GoodIn wsX3_mergeTail (wsX2_savingOfSet) := ggX3_mergeTail_X2_savingOfSet
set_option maxRecDepth 20000 in
theorem ggX3_mergeTail_X2_mergeSet : GoodIn wsX3_mergeTail wsX2_mergeSet := goodIn_r _ [62, 19, 63, 64, 65, 15, 66, 18, 67, 28, 68, 69, 31, 70, 71, 72, 73, 37, 38, 24, 25, 26, 74, 75, 76, 77, 78, 79, 80, 43, 44, 45, 46, 81, 82, 83, 84, 85, 86, 87, 92, 93, 94, 95, 96, 97, 98, 99, 100, 101, 102, 103, 104] (by decide +kernel) (by decide +kernel)
set_option maxRecDepth 20000 in
theorem gX3_mergeTail_X2_mergeSet_n128 : GoodIn wsX3_mergeTail (wsX2_mergeSet) := ggX3_mergeTail_X2_mergeSet
theorem dX3_mergeTail_0 : decode cX3_mergeTail 0 = .ok (.aload_n 0, 1) := by decide +kernel
theorem dX3_mergeTail_1 : decode cX3_mergeTail 1 = .ok (.iload_n 1, 1) := by decide +kernel
theorem dX3_mergeTail_2 : decode cX3_mergeTail 2 = .ok (.invokevirtual 111, 3) := by decide +kernel
theorem dX3_mergeTail_5 : decode cX3_mergeTail 5 = .ok (.istore_n 2, 1) := by decide +kernel
theorem dX3_mergeTail_6 : decode cX3_mergeTail 6 = .ok (.iload_n 2, 1) := by decide +kernel
theorem dX3_mergeTail_7 : decode cX3_mergeTail 7 = .ok (.ifCond .ge 5, 3) := by decide +kernel
theorem dX3_mergeTail_10 : decode cX3_mergeTail 10 = .ok (.iload_n 2, 1) := by decide +kernel
theorem dX3_mergeTail_11 : decode cX3_mergeTail 11 = .ok (.ireturn, 1) := by decide +kernel
theorem dX3_mergeTail_12 : decode cX3_mergeTail 12 = .ok (.aload_n 0, 1) := by decide +kernel
theorem dX3_mergeTail_13 : decode cX3_mergeTail 13 = .ok (.getfield 10, 3) := by decide +kernel
theorem dX3_mergeTail_16 : decode cX3_mergeTail 16 = .ok (.iload_n 1, 1) := by decide +kernel
theorem dX3_mergeTail_17 : decode cX3_mergeTail 17 = .ok (.iload_n 2, 1) := by decide +kernel
theorem dX3_mergeTail_18 : decode cX3_mergeTail 18 = .ok (.invokevirtual 114, 3) := by decide +kernel
theorem dX3_mergeTail_21 : decode cX3_mergeTail 21 = .ok (.ifCond .gt 7, 3) := by decide +kernel
theorem dX3_mergeTail_24 : decode cX3_mergeTail 24 = .ok (.sipush (-1006), 3) := by decide +kernel
theorem dX3_mergeTail_27 : decode cX3_mergeTail 27 = .ok (.ireturn, 1) := by decide +kernel
theorem dX3_mergeTail_28 : decode cX3_mergeTail 28 = .ok (.aload_n 0, 1) := by decide +kernel
theorem dX3_mergeTail_29 : decode cX3_mergeTail 29 = .ok (.getfield 10, 3) := by decide +kernel
theorem dX3_mergeTail_32 : decode cX3_mergeTail 32 = .ok (.iload_n 1, 1) := by decide +kernel
theorem dX3_mergeTail_33 : decode cX3_mergeTail 33 = .ok (.iload_n 2, 1) := by decide +kernel
theorem dX3_mergeTail_34 : decode cX3_mergeTail 34 = .ok (.invokevirtual 128, 3) := by decide +kernel
theorem dX3_mergeTail_37 : decode cX3_mergeTail 37 = .ok (.ireturn, 1) := by decide +kernel
set_option maxRecDepth 20000 in
theorem ggX3_parameterSaving_X3_parameterTail : GoodIn wsX3_parameterSaving wsX3_parameterTail := goodIn_r _ [6, 1, 7, 8, 9, 5, 10, 11, 12, 13, 14, 15, 16, 17, 18, 19, 20, 21, 22, 23, 24, 25, 26, 27, 28, 29, 30, 31, 32, 33, 34, 35, 36, 37, 38, 39, 40, 41, 42, 43, 44, 45, 46, 47, 48, 49, 50, 60, 61, 62, 63, 64, 65, 66, 67, 68, 69, 70, 71, 72, 73, 74, 75, 76] (by decide +kernel) (by decide +kernel)
set_option maxRecDepth 20000 in
theorem gX3_parameterSaving_X3_parameterTail : GoodIn wsX3_parameterSaving (wsV RX3 131 RX3 yX3_parameterTail wsX3_parameterTail) := goodIn_app (goodIn_of _ (by decide +kernel)) ggX3_parameterSaving_X3_parameterTail
set_option maxRecDepth 20000 in
theorem ggX3_parameterSaving_X2_savingWithParameter : GoodIn wsX3_parameterSaving wsX2_savingWithParameter := goodIn_r _ [53, 54, 55, 56, 57, 12, 58, 59, 64, 65, 66, 67, 68, 69, 70, 71, 72, 73, 74, 75, 76] (by decide +kernel) (by decide +kernel)
set_option maxRecDepth 20000 in
theorem gX3_parameterSaving_X2_savingWithParameter_n134 : GoodIn wsX3_parameterSaving (wsX2_savingWithParameter) := ggX3_parameterSaving_X2_savingWithParameter
theorem dX3_parameterSaving_0 : decode cX3_parameterSaving 0 = .ok (.aload_n 0, 1) := by decide +kernel
theorem dX3_parameterSaving_1 : decode cX3_parameterSaving 1 = .ok (.iload_n 1, 1) := by decide +kernel
theorem dX3_parameterSaving_2 : decode cX3_parameterSaving 2 = .ok (.iload_n 2, 1) := by decide +kernel
theorem dX3_parameterSaving_3 : decode cX3_parameterSaving 3 = .ok (.invokevirtual 131, 3) := by decide +kernel
theorem dX3_parameterSaving_6 : decode cX3_parameterSaving 6 = .ok (.istore_n 3, 1) := by decide +kernel
theorem dX3_parameterSaving_7 : decode cX3_parameterSaving 7 = .ok (.iload_n 3, 1) := by decide +kernel
theorem dX3_parameterSaving_8 : decode cX3_parameterSaving 8 = .ok (.ifCond .ge 7, 3) := by decide +kernel
theorem dX3_parameterSaving_11 : decode cX3_parameterSaving 11 = .ok (.iload_n 3, 1) := by decide +kernel
theorem dX3_parameterSaving_12 : decode cX3_parameterSaving 12 = .ok (.goto 12, 3) := by decide +kernel
theorem dX3_parameterSaving_15 : decode cX3_parameterSaving 15 = .ok (.aload_n 0, 1) := by decide +kernel
theorem dX3_parameterSaving_16 : decode cX3_parameterSaving 16 = .ok (.getfield 10, 3) := by decide +kernel
theorem dX3_parameterSaving_19 : decode cX3_parameterSaving 19 = .ok (.iload_n 1, 1) := by decide +kernel
theorem dX3_parameterSaving_20 : decode cX3_parameterSaving 20 = .ok (.iload_n 3, 1) := by decide +kernel
theorem dX3_parameterSaving_21 : decode cX3_parameterSaving 21 = .ok (.invokevirtual 134, 3) := by decide +kernel
theorem dX3_parameterSaving_24 : decode cX3_parameterSaving 24 = .ok (.ireturn, 1) := by decide +kernel
set_option maxRecDepth 20000 in
theorem ggX3_mergeWithParameter_X3_parameterTail : GoodIn wsX3_mergeWithParameter wsX3_parameterTail := goodIn_r _ [6, 1, 7, 8, 9, 5, 10, 11, 12, 13, 14, 15, 16, 17, 18, 19, 20, 21, 22, 23, 24, 25, 26, 27, 28, 29, 30, 31, 32, 33, 34, 35, 36, 37, 38, 39, 40, 41, 42, 43, 44, 45, 46, 47, 48, 49, 50, 87, 88, 89, 90, 91, 92, 93, 94, 95, 96, 97, 98, 99, 100, 101, 102, 103] (by decide +kernel) (by decide +kernel)
set_option maxRecDepth 20000 in
theorem gX3_mergeWithParameter_X3_parameterTail : GoodIn wsX3_mergeWithParameter (wsV RX3 131 RX3 yX3_parameterTail wsX3_parameterTail) := goodIn_app (goodIn_of _ (by decide +kernel)) ggX3_mergeWithParameter_X3_parameterTail
set_option maxRecDepth 20000 in
theorem ggX3_mergeWithParameter_X2_mergePair : GoodIn wsX3_mergeWithParameter wsX2_mergePair := goodIn_r _ [53, 54, 55, 56, 57, 12, 58, 15, 59, 17, 60, 61, 21, 62, 63, 64, 65, 20, 30, 44, 45, 46, 42, 39, 41, 40, 66, 67, 68, 69, 70, 71, 72, 73, 74, 75, 76, 77, 78, 79, 80, 81, 82, 83, 84, 85, 86, 91, 92, 93, 94, 95, 96, 97, 98, 99, 100, 101, 102, 103] (by decide +kernel) (by decide +kernel)
set_option maxRecDepth 20000 in
theorem gX3_mergeWithParameter_X2_mergePair_n137 : GoodIn wsX3_mergeWithParameter (wsX2_mergePair) := ggX3_mergeWithParameter_X2_mergePair
theorem dX3_mergeWithParameter_0 : decode cX3_mergeWithParameter 0 = .ok (.aload_n 0, 1) := by decide +kernel
theorem dX3_mergeWithParameter_1 : decode cX3_mergeWithParameter 1 = .ok (.iload_n 1, 1) := by decide +kernel
theorem dX3_mergeWithParameter_2 : decode cX3_mergeWithParameter 2 = .ok (.iload_n 2, 1) := by decide +kernel
theorem dX3_mergeWithParameter_3 : decode cX3_mergeWithParameter 3 = .ok (.invokevirtual 131, 3) := by decide +kernel
theorem dX3_mergeWithParameter_6 : decode cX3_mergeWithParameter 6 = .ok (.istore_n 3, 1) := by decide +kernel
theorem dX3_mergeWithParameter_7 : decode cX3_mergeWithParameter 7 = .ok (.iload_n 3, 1) := by decide +kernel
theorem dX3_mergeWithParameter_8 : decode cX3_mergeWithParameter 8 = .ok (.ifCond .ge 7, 3) := by decide +kernel
theorem dX3_mergeWithParameter_11 : decode cX3_mergeWithParameter 11 = .ok (.iload_n 3, 1) := by decide +kernel
theorem dX3_mergeWithParameter_12 : decode cX3_mergeWithParameter 12 = .ok (.goto 13, 3) := by decide +kernel
theorem dX3_mergeWithParameter_15 : decode cX3_mergeWithParameter 15 = .ok (.aload_n 0, 1) := by decide +kernel
theorem dX3_mergeWithParameter_16 : decode cX3_mergeWithParameter 16 = .ok (.getfield 10, 3) := by decide +kernel
theorem dX3_mergeWithParameter_19 : decode cX3_mergeWithParameter 19 = .ok (.iload_n 1, 1) := by decide +kernel
theorem dX3_mergeWithParameter_20 : decode cX3_mergeWithParameter 20 = .ok (.iload_n 2, 1) := by decide +kernel
theorem dX3_mergeWithParameter_21 : decode cX3_mergeWithParameter 21 = .ok (.iload_n 3, 1) := by decide +kernel
theorem dX3_mergeWithParameter_22 : decode cX3_mergeWithParameter 22 = .ok (.invokevirtual 137, 3) := by decide +kernel
theorem dX3_mergeWithParameter_25 : decode cX3_mergeWithParameter 25 = .ok (.ireturn, 1) := by decide +kernel
set_option maxRecDepth 20000 in
theorem ggX3_mergeAll_X2_bestSet : GoodIn wsX3_mergeAll wsX2_bestSet := goodIn_r _ [5, 6, 7, 8, 9, 10, 3, 11, 12, 13, 14, 15, 16, 17, 18, 19, 20, 21, 22, 23, 24, 25, 26, 27, 28, 29, 30, 31, 32, 33, 34, 35, 36, 37, 38, 39, 40, 41, 42, 43, 44, 45, 46, 47, 48, 49, 50, 51, 52, 53, 54, 55, 95, 96, 97, 98, 99, 100, 101, 102, 103, 104, 105, 106, 107] (by decide +kernel) (by decide +kernel)
set_option maxRecDepth 20000 in
theorem gX3_mergeAll_X2_bestSet_n125 : GoodIn wsX3_mergeAll (wsX2_bestSet) := ggX3_mergeAll_X2_bestSet
set_option maxRecDepth 20000 in
theorem ggX3_mergeAll_X2_tailOfSet : GoodIn wsX3_mergeAll wsX2_tailOfSet := goodIn_r _ [58, 6, 7, 59, 19, 20, 21, 60, 61, 3, 62, 13, 14, 15, 16, 17, 18, 22, 23, 24, 25, 26, 27, 28, 29, 30, 31, 32, 33, 34, 35, 95, 96, 97, 98, 99, 100, 101, 102, 103, 104, 105, 106, 107] (by decide +kernel) (by decide +kernel)
set_option maxRecDepth 20000 in
theorem gX3_mergeAll_X2_tailOfSet_n122 : GoodIn wsX3_mergeAll (wsX2_tailOfSet) := ggX3_mergeAll_X2_tailOfSet
set_option maxRecDepth 20000 in
theorem ggX3_mergeAll_X2_mergeSet : GoodIn wsX3_mergeAll wsX2_mergeSet := goodIn_r _ [65, 7, 66, 67, 68, 3, 69, 6, 70, 14, 71, 72, 17, 73, 74, 75, 76, 26, 27, 60, 61, 62, 77, 78, 79, 80, 81, 82, 83, 32, 33, 34, 35, 84, 85, 86, 87, 88, 89, 90, 95, 96, 97, 98, 99, 100, 101, 102, 103, 104, 105, 106, 107] (by decide +kernel) (by decide +kernel)
set_option maxRecDepth 20000 in
theorem gX3_mergeAll_X2_mergeSet_n128 : GoodIn wsX3_mergeAll (wsX2_mergeSet) := ggX3_mergeAll_X2_mergeSet
theorem dX3_mergeAll_0 : decode cX3_mergeAll 0 = .ok (.bipush 12, 2) := by decide +kernel
theorem dX3_mergeAll_2 : decode cX3_mergeAll 2 = .ok (.aload_n 0, 1) := by decide +kernel
theorem dX3_mergeAll_3 : decode cX3_mergeAll 3 = .ok (.getfield 10, 3) := by decide +kernel
theorem dX3_mergeAll_6 : decode cX3_mergeAll 6 = .ok (.getfield 60, 3) := by decide +kernel
theorem dX3_mergeAll_9 : decode cX3_mergeAll 9 = .ok (.isub, 1) := by decide +kernel
theorem dX3_mergeAll_10 : decode cX3_mergeAll 10 = .ok (.istore_n 1, 1) := by decide +kernel
theorem dX3_mergeAll_11 : decode cX3_mergeAll 11 = .ok (.iconst 0, 1) := by decide +kernel
theorem dX3_mergeAll_12 : decode cX3_mergeAll 12 = .ok (.istore_n 2, 1) := by decide +kernel
theorem dX3_mergeAll_13 : decode cX3_mergeAll 13 = .ok (.iload_n 2, 1) := by decide +kernel
theorem dX3_mergeAll_14 : decode cX3_mergeAll 14 = .ok (.iload_n 1, 1) := by decide +kernel
theorem dX3_mergeAll_15 : decode cX3_mergeAll 15 = .ok (.if_icmp .ge 44, 3) := by decide +kernel
theorem dX3_mergeAll_18 : decode cX3_mergeAll 18 = .ok (.aload_n 0, 1) := by decide +kernel
theorem dX3_mergeAll_19 : decode cX3_mergeAll 19 = .ok (.getfield 10, 3) := by decide +kernel
theorem dX3_mergeAll_22 : decode cX3_mergeAll 22 = .ok (.invokevirtual 125, 3) := by decide +kernel
theorem dX3_mergeAll_25 : decode cX3_mergeAll 25 = .ok (.istore_n 3, 1) := by decide +kernel
theorem dX3_mergeAll_26 : decode cX3_mergeAll 26 = .ok (.iload_n 3, 1) := by decide +kernel
theorem dX3_mergeAll_27 : decode cX3_mergeAll 27 = .ok (.sipush (-1008), 3) := by decide +kernel
theorem dX3_mergeAll_30 : decode cX3_mergeAll 30 = .ok (.if_icmp .ne 6, 3) := by decide +kernel
theorem dX3_mergeAll_33 : decode cX3_mergeAll 33 = .ok (.goto 26, 3) := by decide +kernel
theorem dX3_mergeAll_36 : decode cX3_mergeAll 36 = .ok (.aload_n 0, 1) := by decide +kernel
theorem dX3_mergeAll_37 : decode cX3_mergeAll 37 = .ok (.getfield 10, 3) := by decide +kernel
theorem dX3_mergeAll_40 : decode cX3_mergeAll 40 = .ok (.iload_n 3, 1) := by decide +kernel
theorem dX3_mergeAll_41 : decode cX3_mergeAll 41 = .ok (.aload_n 0, 1) := by decide +kernel
theorem dX3_mergeAll_42 : decode cX3_mergeAll 42 = .ok (.getfield 10, 3) := by decide +kernel
theorem dX3_mergeAll_45 : decode cX3_mergeAll 45 = .ok (.iload_n 3, 1) := by decide +kernel
theorem dX3_mergeAll_46 : decode cX3_mergeAll 46 = .ok (.invokevirtual 122, 3) := by decide +kernel
theorem dX3_mergeAll_49 : decode cX3_mergeAll 49 = .ok (.invokevirtual 128, 3) := by decide +kernel
theorem dX3_mergeAll_52 : decode cX3_mergeAll 52 = .ok (.pop, 1) := by decide +kernel
theorem dX3_mergeAll_53 : decode cX3_mergeAll 53 = .ok (.iinc 2 1, 3) := by decide +kernel
theorem dX3_mergeAll_56 : decode cX3_mergeAll 56 = .ok (.goto (-43), 3) := by decide +kernel
theorem dX3_mergeAll_59 : decode cX3_mergeAll 59 = .ok (.iload_n 2, 1) := by decide +kernel
theorem dX3_mergeAll_60 : decode cX3_mergeAll 60 = .ok (.ireturn, 1) := by decide +kernel
set_option maxRecDepth 20000 in
theorem ggX3_setRegister_X3_isGeneral : GoodIn wsX3_setRegister wsX3_isGeneral := goodIn_r _ [5] (by decide +kernel) (by decide +kernel)
set_option maxRecDepth 20000 in
theorem gX3_setRegister_X3_isGeneral : GoodIn wsX3_setRegister (va_wsS RX3 53 yX3_isGeneral wsX3_isGeneral) := goodIn_app (goodIn_of _ (by decide +kernel)) ggX3_setRegister_X3_isGeneral
theorem dX3_setRegister_0 : decode cX3_setRegister 0 = .ok (.iload_n 1, 1) := by decide +kernel
theorem dX3_setRegister_1 : decode cX3_setRegister 1 = .ok (.invokestatic 53, 3) := by decide +kernel
theorem dX3_setRegister_4 : decode cX3_setRegister 4 = .ok (.ifCond .ne 7, 3) := by decide +kernel
theorem dX3_setRegister_7 : decode cX3_setRegister 7 = .ok (.sipush (-1003), 3) := by decide +kernel
theorem dX3_setRegister_10 : decode cX3_setRegister 10 = .ok (.ireturn, 1) := by decide +kernel
theorem dX3_setRegister_11 : decode cX3_setRegister 11 = .ok (.aload_n 0, 1) := by decide +kernel
theorem dX3_setRegister_12 : decode cX3_setRegister 12 = .ok (.getfield 10, 3) := by decide +kernel
theorem dX3_setRegister_15 : decode cX3_setRegister 15 = .ok (.getfield 141, 3) := by decide +kernel
theorem dX3_setRegister_18 : decode cX3_setRegister 18 = .ok (.iload_n 1, 1) := by decide +kernel
theorem dX3_setRegister_19 : decode cX3_setRegister 19 = .ok (.iload_n 2, 1) := by decide +kernel
theorem dX3_setRegister_20 : decode cX3_setRegister 20 = .ok (.iastore, 1) := by decide +kernel
theorem dX3_setRegister_21 : decode cX3_setRegister 21 = .ok (.iconst 1, 1) := by decide +kernel
theorem dX3_setRegister_22 : decode cX3_setRegister 22 = .ok (.ireturn, 1) := by decide +kernel
set_option maxRecDepth 20000 in
theorem ggX3_run_X1_execute : GoodIn wsX3_run wsX1_execute := goodIn_r _ [6, 7, 8, 9, 10, 11, 12, 13, 14, 15, 4, 16, 17, 18, 19, 20, 21, 22, 23, 24, 25, 30, 31, 32, 33, 34, 35, 36, 37, 38, 39, 40, 41, 42, 43, 44, 45] (by decide +kernel) (by decide +kernel)
set_option maxRecDepth 20000 in
theorem gX3_run_X1_execute_n144 : GoodIn wsX3_run (wsX1_execute) := ggX3_run_X1_execute
theorem dX3_run_0 : decode cX3_run 0 = .ok (.iload_n 1, 1) := by decide +kernel
theorem dX3_run_1 : decode cX3_run 1 = .ok (.iconst 1, 1) := by decide +kernel
theorem dX3_run_2 : decode cX3_run 2 = .ok (.if_icmp .lt 10, 3) := by decide +kernel
theorem dX3_run_5 : decode cX3_run 5 = .ok (.iload_n 1, 1) := by decide +kernel
theorem dX3_run_6 : decode cX3_run 6 = .ok (.sipush 1000, 3) := by decide +kernel
theorem dX3_run_9 : decode cX3_run 9 = .ok (.if_icmp .le 7, 3) := by decide +kernel
theorem dX3_run_12 : decode cX3_run 12 = .ok (.sipush (-1003), 3) := by decide +kernel
theorem dX3_run_15 : decode cX3_run 15 = .ok (.ireturn, 1) := by decide +kernel
theorem dX3_run_16 : decode cX3_run 16 = .ok (.aload_n 0, 1) := by decide +kernel
theorem dX3_run_17 : decode cX3_run 17 = .ok (.getfield 10, 3) := by decide +kernel
theorem dX3_run_20 : decode cX3_run 20 = .ok (.getfield 60, 3) := by decide +kernel
theorem dX3_run_23 : decode cX3_run 23 = .ok (.ifCond .ne 7, 3) := by decide +kernel
theorem dX3_run_26 : decode cX3_run 26 = .ok (.sipush (-1001), 3) := by decide +kernel
theorem dX3_run_29 : decode cX3_run 29 = .ok (.ireturn, 1) := by decide +kernel
theorem dX3_run_30 : decode cX3_run 30 = .ok (.aload_n 0, 1) := by decide +kernel
theorem dX3_run_31 : decode cX3_run 31 = .ok (.getfield 27, 3) := by decide +kernel
theorem dX3_run_34 : decode cX3_run 34 = .ok (.aload_n 0, 1) := by decide +kernel
theorem dX3_run_35 : decode cX3_run 35 = .ok (.getfield 10, 3) := by decide +kernel
theorem dX3_run_38 : decode cX3_run 38 = .ok (.iload_n 1, 1) := by decide +kernel
theorem dX3_run_39 : decode cX3_run 39 = .ok (.invokevirtual 144, 3) := by decide +kernel
theorem dX3_run_42 : decode cX3_run 42 = .ok (.ireturn, 1) := by decide +kernel
theorem dX3_traceLength_0 : decode cX3_traceLength 0 = .ok (.aload_n 0, 1) := by decide +kernel
theorem dX3_traceLength_1 : decode cX3_traceLength 1 = .ok (.getfield 27, 3) := by decide +kernel
theorem dX3_traceLength_4 : decode cX3_traceLength 4 = .ok (.getfield 148, 3) := by decide +kernel
theorem dX3_traceLength_7 : decode cX3_traceLength 7 = .ok (.ireturn, 1) := by decide +kernel
theorem dX3_trace_0 : decode cX3_trace 0 = .ok (.iload_n 1, 1) := by decide +kernel
theorem dX3_trace_1 : decode cX3_trace 1 = .ok (.ifCond .lt 26, 3) := by decide +kernel
theorem dX3_trace_4 : decode cX3_trace 4 = .ok (.iload_n 1, 1) := by decide +kernel
theorem dX3_trace_5 : decode cX3_trace 5 = .ok (.aload_n 0, 1) := by decide +kernel
theorem dX3_trace_6 : decode cX3_trace 6 = .ok (.getfield 27, 3) := by decide +kernel
theorem dX3_trace_9 : decode cX3_trace 9 = .ok (.getfield 148, 3) := by decide +kernel
theorem dX3_trace_12 : decode cX3_trace 12 = .ok (.if_icmp .ge 15, 3) := by decide +kernel
theorem dX3_trace_15 : decode cX3_trace 15 = .ok (.aload_n 0, 1) := by decide +kernel
theorem dX3_trace_16 : decode cX3_trace 16 = .ok (.getfield 27, 3) := by decide +kernel
theorem dX3_trace_19 : decode cX3_trace 19 = .ok (.getfield 151, 3) := by decide +kernel
theorem dX3_trace_22 : decode cX3_trace 22 = .ok (.iload_n 1, 1) := by decide +kernel
theorem dX3_trace_23 : decode cX3_trace 23 = .ok (.iaload, 1) := by decide +kernel
theorem dX3_trace_24 : decode cX3_trace 24 = .ok (.goto 4, 3) := by decide +kernel
theorem dX3_trace_27 : decode cX3_trace 27 = .ok (.iconst 0, 1) := by decide +kernel
theorem dX3_trace_28 : decode cX3_trace 28 = .ok (.ireturn, 1) := by decide +kernel
theorem dX3_register_0 : decode cX3_register 0 = .ok (.iload_n 1, 1) := by decide +kernel
theorem dX3_register_1 : decode cX3_register 1 = .ok (.ifCond .lt 21, 3) := by decide +kernel
theorem dX3_register_4 : decode cX3_register 4 = .ok (.iload_n 1, 1) := by decide +kernel
theorem dX3_register_5 : decode cX3_register 5 = .ok (.bipush 8, 2) := by decide +kernel
theorem dX3_register_7 : decode cX3_register 7 = .ok (.if_icmp .ge 15, 3) := by decide +kernel
theorem dX3_register_10 : decode cX3_register 10 = .ok (.aload_n 0, 1) := by decide +kernel
theorem dX3_register_11 : decode cX3_register 11 = .ok (.getfield 27, 3) := by decide +kernel
theorem dX3_register_14 : decode cX3_register 14 = .ok (.getfield 154, 3) := by decide +kernel
theorem dX3_register_17 : decode cX3_register 17 = .ok (.iload_n 1, 1) := by decide +kernel
theorem dX3_register_18 : decode cX3_register 18 = .ok (.iaload, 1) := by decide +kernel
theorem dX3_register_19 : decode cX3_register 19 = .ok (.goto 4, 3) := by decide +kernel
theorem dX3_register_22 : decode cX3_register 22 = .ok (.iconst 0, 1) := by decide +kernel
theorem dX3_register_23 : decode cX3_register 23 = .ok (.ireturn, 1) := by decide +kernel
set_option maxRecDepth 20000 in
theorem ggX3_save_X2_copyFrom : GoodIn wsX3_save wsX2_copyFrom := goodIn_r _ [7, 8, 9, 10, 11, 12, 13, 14, 15, 16, 17, 18, 19, 20, 21, 22, 23, 24, 25, 26, 27, 28, 29, 30, 31, 32, 33, 34, 35, 36, 37, 38, 39, 44, 45, 46, 47, 48, 49, 50, 51, 52, 53, 54, 55, 56] (by decide +kernel) (by decide +kernel)
set_option maxRecDepth 20000 in
theorem gX3_save_X2_copyFrom_n157 : GoodIn wsX3_save (wsX2_copyFrom) := ggX3_save_X2_copyFrom
theorem dX3_save_0 : decode cX3_save 0 = .ok (.iload_n 1, 1) := by decide +kernel
theorem dX3_save_1 : decode cX3_save 1 = .ok (.ifCond .lt 8, 3) := by decide +kernel
theorem dX3_save_4 : decode cX3_save 4 = .ok (.iload_n 1, 1) := by decide +kernel
theorem dX3_save_5 : decode cX3_save 5 = .ok (.iconst 2, 1) := by decide +kernel
theorem dX3_save_6 : decode cX3_save 6 = .ok (.if_icmp .lt 7, 3) := by decide +kernel
theorem dX3_save_9 : decode cX3_save 9 = .ok (.sipush (-1003), 3) := by decide +kernel
theorem dX3_save_12 : decode cX3_save 12 = .ok (.ireturn, 1) := by decide +kernel
theorem dX3_save_13 : decode cX3_save 13 = .ok (.aload_n 0, 1) := by decide +kernel
theorem dX3_save_14 : decode cX3_save 14 = .ok (.getfield 16, 3) := by decide +kernel
theorem dX3_save_17 : decode cX3_save 17 = .ok (.iload_n 1, 1) := by decide +kernel
theorem dX3_save_18 : decode cX3_save 18 = .ok (.aaload, 1) := by decide +kernel
theorem dX3_save_19 : decode cX3_save 19 = .ok (.aload_n 0, 1) := by decide +kernel
theorem dX3_save_20 : decode cX3_save 20 = .ok (.getfield 10, 3) := by decide +kernel
theorem dX3_save_23 : decode cX3_save 23 = .ok (.invokevirtual 157, 3) := by decide +kernel
theorem dX3_save_26 : decode cX3_save 26 = .ok (.aload_n 0, 1) := by decide +kernel
theorem dX3_save_27 : decode cX3_save 27 = .ok (.getfield 20, 3) := by decide +kernel
theorem dX3_save_30 : decode cX3_save 30 = .ok (.iload_n 1, 1) := by decide +kernel
theorem dX3_save_31 : decode cX3_save 31 = .ok (.iconst 1, 1) := by decide +kernel
theorem dX3_save_32 : decode cX3_save 32 = .ok (.bastore, 1) := by decide +kernel
theorem dX3_save_33 : decode cX3_save 33 = .ok (.iconst 1, 1) := by decide +kernel
theorem dX3_save_34 : decode cX3_save 34 = .ok (.ireturn, 1) := by decide +kernel
set_option maxRecDepth 20000 in
theorem ggX3_restore_X2_copyFrom : GoodIn wsX3_restore wsX2_copyFrom := goodIn_r _ [7, 8, 9, 10, 11, 12, 13, 14, 15, 16, 17, 18, 19, 20, 21, 22, 23, 24, 25, 26, 27, 28, 29, 30, 31, 32, 33, 34, 35, 36, 37, 38, 39, 44, 45, 46, 47, 48, 49, 50, 51, 52, 53, 54, 55, 56] (by decide +kernel) (by decide +kernel)
set_option maxRecDepth 20000 in
theorem gX3_restore_X2_copyFrom_n157 : GoodIn wsX3_restore (wsX2_copyFrom) := ggX3_restore_X2_copyFrom
theorem dX3_restore_0 : decode cX3_restore 0 = .ok (.iload_n 1, 1) := by decide +kernel
theorem dX3_restore_1 : decode cX3_restore 1 = .ok (.ifCond .lt 8, 3) := by decide +kernel
theorem dX3_restore_4 : decode cX3_restore 4 = .ok (.iload_n 1, 1) := by decide +kernel
theorem dX3_restore_5 : decode cX3_restore 5 = .ok (.iconst 2, 1) := by decide +kernel
theorem dX3_restore_6 : decode cX3_restore 6 = .ok (.if_icmp .lt 7, 3) := by decide +kernel
theorem dX3_restore_9 : decode cX3_restore 9 = .ok (.sipush (-1003), 3) := by decide +kernel
theorem dX3_restore_12 : decode cX3_restore 12 = .ok (.ireturn, 1) := by decide +kernel
theorem dX3_restore_13 : decode cX3_restore 13 = .ok (.aload_n 0, 1) := by decide +kernel
theorem dX3_restore_14 : decode cX3_restore 14 = .ok (.getfield 20, 3) := by decide +kernel
theorem dX3_restore_17 : decode cX3_restore 17 = .ok (.iload_n 1, 1) := by decide +kernel
theorem dX3_restore_18 : decode cX3_restore 18 = .ok (.baload, 1) := by decide +kernel
theorem dX3_restore_19 : decode cX3_restore 19 = .ok (.ifCond .ne 7, 3) := by decide +kernel
theorem dX3_restore_22 : decode cX3_restore 22 = .ok (.sipush (-1009), 3) := by decide +kernel
theorem dX3_restore_25 : decode cX3_restore 25 = .ok (.ireturn, 1) := by decide +kernel
theorem dX3_restore_26 : decode cX3_restore 26 = .ok (.aload_n 0, 1) := by decide +kernel
theorem dX3_restore_27 : decode cX3_restore 27 = .ok (.getfield 10, 3) := by decide +kernel
theorem dX3_restore_30 : decode cX3_restore 30 = .ok (.aload_n 0, 1) := by decide +kernel
theorem dX3_restore_31 : decode cX3_restore 31 = .ok (.getfield 16, 3) := by decide +kernel
theorem dX3_restore_34 : decode cX3_restore 34 = .ok (.iload_n 1, 1) := by decide +kernel
theorem dX3_restore_35 : decode cX3_restore 35 = .ok (.aaload, 1) := by decide +kernel
theorem dX3_restore_36 : decode cX3_restore 36 = .ok (.invokevirtual 157, 3) := by decide +kernel
theorem dX3_restore_39 : decode cX3_restore 39 = .ok (.iconst 1, 1) := by decide +kernel
theorem dX3_restore_40 : decode cX3_restore 40 = .ok (.ireturn, 1) := by decide +kernel
theorem dX4_init_0 : decode cX4_init 0 = .ok (.aload_n 0, 1) := by decide +kernel
theorem dX4_init_1 : decode cX4_init 1 = .ok (.invokespecial 1, 3) := by decide +kernel
theorem dX4_init_4 : decode cX4_init 4 = .ok (.aload_n 0, 1) := by decide +kernel
theorem dX4_init_5 : decode cX4_init 5 = .ok (.sipush 670, 3) := by decide +kernel
theorem dX4_init_8 : decode cX4_init 8 = .ok (.newarray .int, 2) := by decide +kernel
theorem dX4_init_10 : decode cX4_init 10 = .ok (.putfield 7, 3) := by decide +kernel
theorem dX4_init_13 : decode cX4_init 13 = .ok (.aload_n 0, 1) := by decide +kernel
theorem dX4_init_14 : decode cX4_init 14 = .ok (.sipush 1340, 3) := by decide +kernel
theorem dX4_init_17 : decode cX4_init 17 = .ok (.newarray .int, 2) := by decide +kernel
theorem dX4_init_19 : decode cX4_init 19 = .ok (.putfield 13, 3) := by decide +kernel
theorem dX4_init_22 : decode cX4_init 22 = .ok (.aload_n 0, 1) := by decide +kernel
theorem dX4_init_23 : decode cX4_init 23 = .ok (.iconst 2, 1) := by decide +kernel
theorem dX4_init_24 : decode cX4_init 24 = .ok (.newarray .boolean, 2) := by decide +kernel
theorem dX4_init_26 : decode cX4_init 26 = .ok (.putfield 16, 3) := by decide +kernel
theorem dX4_init_29 : decode cX4_init 29 = .ok (.aload_n 0, 1) := by decide +kernel
theorem dX4_init_30 : decode cX4_init 30 = .ok (.bipush 8, 2) := by decide +kernel
theorem dX4_init_32 : decode cX4_init 32 = .ok (.newarray .int, 2) := by decide +kernel
theorem dX4_init_34 : decode cX4_init 34 = .ok (.putfield 20, 3) := by decide +kernel
theorem dX4_init_37 : decode cX4_init 37 = .ok (.aload_n 0, 1) := by decide +kernel
theorem dX4_init_38 : decode cX4_init 38 = .ok (.sipush 1000, 3) := by decide +kernel
theorem dX4_init_41 : decode cX4_init 41 = .ok (.newarray .int, 2) := by decide +kernel
theorem dX4_init_43 : decode cX4_init 43 = .ok (.putfield 23, 3) := by decide +kernel
theorem dX4_init_46 : decode cX4_init 46 = .ok (.aload_n 0, 1) := by decide +kernel
theorem dX4_init_47 : decode cX4_init 47 = .ok (.getfield 7, 3) := by decide +kernel
theorem dX4_init_50 : decode cX4_init 50 = .ok (.iconst 1, 1) := by decide +kernel
theorem dX4_init_51 : decode cX4_init 51 = .ok (.iconst 1, 1) := by decide +kernel
theorem dX4_init_52 : decode cX4_init 52 = .ok (.iastore, 1) := by decide +kernel
theorem dX4_init_53 : decode cX4_init 53 = .ok (.return_, 1) := by decide +kernel
theorem dX4_in_0 : decode cX4_in 0 = .ok (.iload_n 0, 1) := by decide +kernel
theorem dX4_in_1 : decode cX4_in 1 = .ok (.iload_n 1, 1) := by decide +kernel
theorem dX4_in_2 : decode cX4_in 2 = .ok (.if_icmp .lt 12, 3) := by decide +kernel
theorem dX4_in_5 : decode cX4_in 5 = .ok (.iload_n 0, 1) := by decide +kernel
theorem dX4_in_6 : decode cX4_in 6 = .ok (.iload_n 2, 1) := by decide +kernel
theorem dX4_in_7 : decode cX4_in 7 = .ok (.if_icmp .gt 7, 3) := by decide +kernel
theorem dX4_in_10 : decode cX4_in 10 = .ok (.iconst 1, 1) := by decide +kernel
theorem dX4_in_11 : decode cX4_in 11 = .ok (.goto 4, 3) := by decide +kernel
theorem dX4_in_14 : decode cX4_in 14 = .ok (.iconst 0, 1) := by decide +kernel
theorem dX4_in_15 : decode cX4_in 15 = .ok (.ireturn, 1) := by decide +kernel
set_option maxRecDepth 20000 in
theorem ggX4_isBlock_X4_in : GoodIn wsX4_isBlock wsX4_in := goodIn_r _ [5] (by decide +kernel) (by decide +kernel)
set_option maxRecDepth 20000 in
theorem gX4_isBlock_X4_in : GoodIn wsX4_isBlock (va_wsS RX4 26 yX4_in wsX4_in) := goodIn_app (goodIn_of _ (by decide +kernel)) ggX4_isBlock_X4_in
theorem dX4_isBlock_0 : decode cX4_isBlock 0 = .ok (.iload_n 1, 1) := by decide +kernel
theorem dX4_isBlock_1 : decode cX4_isBlock 1 = .ok (.iconst 0, 1) := by decide +kernel
theorem dX4_isBlock_2 : decode cX4_isBlock 2 = .ok (.aload_n 0, 1) := by decide +kernel
theorem dX4_isBlock_3 : decode cX4_isBlock 3 = .ok (.getfield 7, 3) := by decide +kernel
theorem dX4_isBlock_6 : decode cX4_isBlock 6 = .ok (.iconst 0, 1) := by decide +kernel
theorem dX4_isBlock_7 : decode cX4_isBlock 7 = .ok (.iaload, 1) := by decide +kernel
theorem dX4_isBlock_8 : decode cX4_isBlock 8 = .ok (.iconst 1, 1) := by decide +kernel
theorem dX4_isBlock_9 : decode cX4_isBlock 9 = .ok (.isub, 1) := by decide +kernel
theorem dX4_isBlock_10 : decode cX4_isBlock 10 = .ok (.invokestatic 26, 3) := by decide +kernel
theorem dX4_isBlock_13 : decode cX4_isBlock 13 = .ok (.ireturn, 1) := by decide +kernel
theorem dX4_base_0 : decode cX4_base 0 = .ok (.bipush 10, 2) := by decide +kernel
theorem dX4_base_2 : decode cX4_base 2 = .ok (.bipush 55, 2) := by decide +kernel
theorem dX4_base_4 : decode cX4_base 4 = .ok (.iload_n 0, 1) := by decide +kernel
theorem dX4_base_5 : decode cX4_base 5 = .ok (.imul, 1) := by decide +kernel
theorem dX4_base_6 : decode cX4_base 6 = .ok (.iadd, 1) := by decide +kernel
theorem dX4_base_7 : decode cX4_base 7 = .ok (.ireturn, 1) := by decide +kernel
set_option maxRecDepth 20000 in
theorem ggX4_many_X4_base : GoodIn wsX4_many wsX4_base := goodIn_r _ [5] (by decide +kernel) (by decide +kernel)
set_option maxRecDepth 20000 in
theorem gX4_many_X4_base : GoodIn wsX4_many (va_wsS RX4 30 yX4_base wsX4_base) := goodIn_app (goodIn_of _ (by decide +kernel)) ggX4_many_X4_base
theorem dX4_many_0 : decode cX4_many 0 = .ok (.aload_n 0, 1) := by decide +kernel
theorem dX4_many_1 : decode cX4_many 1 = .ok (.getfield 7, 3) := by decide +kernel
theorem dX4_many_4 : decode cX4_many 4 = .ok (.iload_n 1, 1) := by decide +kernel
theorem dX4_many_5 : decode cX4_many 5 = .ok (.invokestatic 30, 3) := by decide +kernel
theorem dX4_many_8 : decode cX4_many 8 = .ok (.iaload, 1) := by decide +kernel
theorem dX4_many_9 : decode cX4_many 9 = .ok (.ireturn, 1) := by decide +kernel
set_option maxRecDepth 20000 in
theorem ggX4_at_X4_base : GoodIn wsX4_at wsX4_base := goodIn_r _ [4] (by decide +kernel) (by decide +kernel)
set_option maxRecDepth 20000 in
theorem gX4_at_X4_base : GoodIn wsX4_at (va_wsS RX4 30 yX4_base wsX4_base) := goodIn_app (goodIn_of _ (by decide +kernel)) ggX4_at_X4_base
theorem dX4_at_0 : decode cX4_at 0 = .ok (.iload_n 0, 1) := by decide +kernel
theorem dX4_at_1 : decode cX4_at 1 = .ok (.invokestatic 30, 3) := by decide +kernel
theorem dX4_at_4 : decode cX4_at 4 = .ok (.iconst 1, 1) := by decide +kernel
theorem dX4_at_5 : decode cX4_at 5 = .ok (.iadd, 1) := by decide +kernel
theorem dX4_at_6 : decode cX4_at 6 = .ok (.iconst 5, 1) := by decide +kernel
theorem dX4_at_7 : decode cX4_at 7 = .ok (.iload_n 1, 1) := by decide +kernel
theorem dX4_at_8 : decode cX4_at 8 = .ok (.imul, 1) := by decide +kernel
theorem dX4_at_9 : decode cX4_at 9 = .ok (.iadd, 1) := by decide +kernel
theorem dX4_at_10 : decode cX4_at 10 = .ok (.ireturn, 1) := by decide +kernel
set_option maxRecDepth 20000 in
theorem ggX4_end_X4_base : GoodIn wsX4_end wsX4_base := goodIn_r _ [4] (by decide +kernel) (by decide +kernel)
set_option maxRecDepth 20000 in
theorem gX4_end_X4_base : GoodIn wsX4_end (va_wsS RX4 30 yX4_base wsX4_base) := goodIn_app (goodIn_of _ (by decide +kernel)) ggX4_end_X4_base
theorem dX4_end_0 : decode cX4_end 0 = .ok (.iload_n 0, 1) := by decide +kernel
theorem dX4_end_1 : decode cX4_end 1 = .ok (.invokestatic 30, 3) := by decide +kernel
theorem dX4_end_4 : decode cX4_end 4 = .ok (.bipush 51, 2) := by decide +kernel
theorem dX4_end_6 : decode cX4_end 6 = .ok (.iadd, 1) := by decide +kernel
theorem dX4_end_7 : decode cX4_end 7 = .ok (.ireturn, 1) := by decide +kernel
set_option maxRecDepth 20000 in
theorem ggX4_terminate_X4_end : GoodIn wsX4_terminate wsX4_end := goodIn_r _ [5, 6, 7, 4, 8] (by decide +kernel) (by decide +kernel)
set_option maxRecDepth 20000 in
theorem gX4_terminate_X4_end : GoodIn wsX4_terminate (va_wsS RX4 34 yX4_end wsX4_end) := goodIn_app (goodIn_of _ (by decide +kernel)) ggX4_terminate_X4_end
theorem dX4_terminate_0 : decode cX4_terminate 0 = .ok (.aload_n 0, 1) := by decide +kernel
theorem dX4_terminate_1 : decode cX4_terminate 1 = .ok (.getfield 7, 3) := by decide +kernel
theorem dX4_terminate_4 : decode cX4_terminate 4 = .ok (.iload_n 1, 1) := by decide +kernel
theorem dX4_terminate_5 : decode cX4_terminate 5 = .ok (.invokestatic 34, 3) := by decide +kernel
theorem dX4_terminate_8 : decode cX4_terminate 8 = .ok (.iload_n 2, 1) := by decide +kernel
theorem dX4_terminate_9 : decode cX4_terminate 9 = .ok (.iastore, 1) := by decide +kernel
theorem dX4_terminate_10 : decode cX4_terminate 10 = .ok (.aload_n 0, 1) := by decide +kernel
theorem dX4_terminate_11 : decode cX4_terminate 11 = .ok (.getfield 7, 3) := by decide +kernel
theorem dX4_terminate_14 : decode cX4_terminate 14 = .ok (.iload_n 1, 1) := by decide +kernel
theorem dX4_terminate_15 : decode cX4_terminate 15 = .ok (.invokestatic 34, 3) := by decide +kernel
theorem dX4_terminate_18 : decode cX4_terminate 18 = .ok (.iconst 1, 1) := by decide +kernel
theorem dX4_terminate_19 : decode cX4_terminate 19 = .ok (.iadd, 1) := by decide +kernel
theorem dX4_terminate_20 : decode cX4_terminate 20 = .ok (.iload_n 3, 1) := by decide +kernel
theorem dX4_terminate_21 : decode cX4_terminate 21 = .ok (.iastore, 1) := by decide +kernel
theorem dX4_terminate_22 : decode cX4_terminate 22 = .ok (.aload_n 0, 1) := by decide +kernel
theorem dX4_terminate_23 : decode cX4_terminate 23 = .ok (.getfield 7, 3) := by decide +kernel
theorem dX4_terminate_26 : decode cX4_terminate 26 = .ok (.iload_n 1, 1) := by decide +kernel
theorem dX4_terminate_27 : decode cX4_terminate 27 = .ok (.invokestatic 34, 3) := by decide +kernel
theorem dX4_terminate_30 : decode cX4_terminate 30 = .ok (.iconst 2, 1) := by decide +kernel
theorem dX4_terminate_31 : decode cX4_terminate 31 = .ok (.iadd, 1) := by decide +kernel
theorem dX4_terminate_32 : decode cX4_terminate 32 = .ok (.iload 4, 2) := by decide +kernel
theorem dX4_terminate_34 : decode cX4_terminate 34 = .ok (.iastore, 1) := by decide +kernel
theorem dX4_terminate_35 : decode cX4_terminate 35 = .ok (.aload_n 0, 1) := by decide +kernel
theorem dX4_terminate_36 : decode cX4_terminate 36 = .ok (.getfield 7, 3) := by decide +kernel
theorem dX4_terminate_39 : decode cX4_terminate 39 = .ok (.iload_n 1, 1) := by decide +kernel
theorem dX4_terminate_40 : decode cX4_terminate 40 = .ok (.invokestatic 34, 3) := by decide +kernel
theorem dX4_terminate_43 : decode cX4_terminate 43 = .ok (.iconst 3, 1) := by decide +kernel
theorem dX4_terminate_44 : decode cX4_terminate 44 = .ok (.iadd, 1) := by decide +kernel
theorem dX4_terminate_45 : decode cX4_terminate 45 = .ok (.iload 5, 2) := by decide +kernel
theorem dX4_terminate_47 : decode cX4_terminate 47 = .ok (.iastore, 1) := by decide +kernel
theorem dX4_terminate_48 : decode cX4_terminate 48 = .ok (.return_, 1) := by decide +kernel
set_option maxRecDepth 20000 in
theorem ggX4_newBlock_X4_base : GoodIn wsX4_newBlock wsX4_base := goodIn_r _ [5] (by decide +kernel) (by decide +kernel)
set_option maxRecDepth 20000 in
theorem gX4_newBlock_X4_base : GoodIn wsX4_newBlock (va_wsS RX4 30 yX4_base wsX4_base) := goodIn_app (goodIn_of _ (by decide +kernel)) ggX4_newBlock_X4_base
set_option maxRecDepth 20000 in
theorem ggX4_newBlock_X4_terminate : GoodIn wsX4_newBlock wsX4_terminate := goodIn_r _ [9, 1, 10, 11, 4, 12, 2, 3, 5, 13, 14, 15, 16, 17, 18, 19] (by decide +kernel) (by decide +kernel)
set_option maxRecDepth 20000 in
theorem gX4_newBlock_X4_terminate : GoodIn wsX4_newBlock (wsV RX4 37 RX4 yX4_terminate wsX4_terminate) := goodIn_app (goodIn_of _ (by decide +kernel)) ggX4_newBlock_X4_terminate
theorem dX4_newBlock_0 : decode cX4_newBlock 0 = .ok (.aload_n 0, 1) := by decide +kernel
theorem dX4_newBlock_1 : decode cX4_newBlock 1 = .ok (.getfield 7, 3) := by decide +kernel
theorem dX4_newBlock_4 : decode cX4_newBlock 4 = .ok (.iconst 0, 1) := by decide +kernel
theorem dX4_newBlock_5 : decode cX4_newBlock 5 = .ok (.iaload, 1) := by decide +kernel
theorem dX4_newBlock_6 : decode cX4_newBlock 6 = .ok (.istore_n 1, 1) := by decide +kernel
theorem dX4_newBlock_7 : decode cX4_newBlock 7 = .ok (.iconst 0, 1) := by decide +kernel
theorem dX4_newBlock_8 : decode cX4_newBlock 8 = .ok (.istore_n 2, 1) := by decide +kernel
theorem dX4_newBlock_9 : decode cX4_newBlock 9 = .ok (.iload_n 2, 1) := by decide +kernel
theorem dX4_newBlock_10 : decode cX4_newBlock 10 = .ok (.bipush 55, 2) := by decide +kernel
theorem dX4_newBlock_12 : decode cX4_newBlock 12 = .ok (.if_icmp .ge 21, 3) := by decide +kernel
theorem dX4_newBlock_15 : decode cX4_newBlock 15 = .ok (.aload_n 0, 1) := by decide +kernel
theorem dX4_newBlock_16 : decode cX4_newBlock 16 = .ok (.getfield 7, 3) := by decide +kernel
theorem dX4_newBlock_19 : decode cX4_newBlock 19 = .ok (.iload_n 1, 1) := by decide +kernel
theorem dX4_newBlock_20 : decode cX4_newBlock 20 = .ok (.invokestatic 30, 3) := by decide +kernel
theorem dX4_newBlock_23 : decode cX4_newBlock 23 = .ok (.iload_n 2, 1) := by decide +kernel
theorem dX4_newBlock_24 : decode cX4_newBlock 24 = .ok (.iadd, 1) := by decide +kernel
theorem dX4_newBlock_25 : decode cX4_newBlock 25 = .ok (.iconst 0, 1) := by decide +kernel
theorem dX4_newBlock_26 : decode cX4_newBlock 26 = .ok (.iastore, 1) := by decide +kernel
theorem dX4_newBlock_27 : decode cX4_newBlock 27 = .ok (.iinc 2 1, 3) := by decide +kernel
theorem dX4_newBlock_30 : decode cX4_newBlock 30 = .ok (.goto (-21), 3) := by decide +kernel
theorem dX4_newBlock_33 : decode cX4_newBlock 33 = .ok (.aload_n 0, 1) := by decide +kernel
theorem dX4_newBlock_34 : decode cX4_newBlock 34 = .ok (.iload_n 1, 1) := by decide +kernel
theorem dX4_newBlock_35 : decode cX4_newBlock 35 = .ok (.iconst 2, 1) := by decide +kernel
theorem dX4_newBlock_36 : decode cX4_newBlock 36 = .ok (.iconst 0, 1) := by decide +kernel
theorem dX4_newBlock_37 : decode cX4_newBlock 37 = .ok (.iconst 0, 1) := by decide +kernel
theorem dX4_newBlock_38 : decode cX4_newBlock 38 = .ok (.iconst 0, 1) := by decide +kernel
theorem dX4_newBlock_39 : decode cX4_newBlock 39 = .ok (.invokevirtual 37, 3) := by decide +kernel
theorem dX4_newBlock_42 : decode cX4_newBlock 42 = .ok (.aload_n 0, 1) := by decide +kernel
theorem dX4_newBlock_43 : decode cX4_newBlock 43 = .ok (.getfield 7, 3) := by decide +kernel
theorem dX4_newBlock_46 : decode cX4_newBlock 46 = .ok (.iconst 0, 1) := by decide +kernel
theorem dX4_newBlock_47 : decode cX4_newBlock 47 = .ok (.dup2, 1) := by decide +kernel
theorem dX4_newBlock_48 : decode cX4_newBlock 48 = .ok (.iaload, 1) := by decide +kernel
theorem dX4_newBlock_49 : decode cX4_newBlock 49 = .ok (.iconst 1, 1) := by decide +kernel
theorem dX4_newBlock_50 : decode cX4_newBlock 50 = .ok (.iadd, 1) := by decide +kernel
theorem dX4_newBlock_51 : decode cX4_newBlock 51 = .ok (.iastore, 1) := by decide +kernel
theorem dX4_newBlock_52 : decode cX4_newBlock 52 = .ok (.iload_n 1, 1) := by decide +kernel
theorem dX4_newBlock_53 : decode cX4_newBlock 53 = .ok (.ireturn, 1) := by decide +kernel
set_option maxRecDepth 20000 in
theorem ggX4_addBlock_X4_newBlock : GoodIn wsX4_addBlock wsX4_newBlock := goodIn_r _ [6, 1, 7, 8, 5, 9, 10, 11, 12, 13, 14, 15, 16, 17, 18, 19, 20, 21, 22, 23] (by decide +kernel) (by decide +kernel)
set_option maxRecDepth 20000 in
theorem gX4_addBlock_X4_newBlock : GoodIn wsX4_addBlock (wsV RX4 41 RX4 yX4_newBlock wsX4_newBlock) := goodIn_app (goodIn_of _ (by decide +kernel)) ggX4_addBlock_X4_newBlock
theorem dX4_addBlock_0 : decode cX4_addBlock 0 = .ok (.aload_n 0, 1) := by decide +kernel
theorem dX4_addBlock_1 : decode cX4_addBlock 1 = .ok (.getfield 7, 3) := by decide +kernel
theorem dX4_addBlock_4 : decode cX4_addBlock 4 = .ok (.iconst 0, 1) := by decide +kernel
theorem dX4_addBlock_5 : decode cX4_addBlock 5 = .ok (.iaload, 1) := by decide +kernel
theorem dX4_addBlock_6 : decode cX4_addBlock 6 = .ok (.bipush 12, 2) := by decide +kernel
theorem dX4_addBlock_8 : decode cX4_addBlock 8 = .ok (.if_icmp .ne 9, 3) := by decide +kernel
theorem dX4_addBlock_11 : decode cX4_addBlock 11 = .ok (.sipush (-1004), 3) := by decide +kernel
theorem dX4_addBlock_14 : decode cX4_addBlock 14 = .ok (.goto 7, 3) := by decide +kernel
theorem dX4_addBlock_17 : decode cX4_addBlock 17 = .ok (.aload_n 0, 1) := by decide +kernel
theorem dX4_addBlock_18 : decode cX4_addBlock 18 = .ok (.invokevirtual 41, 3) := by decide +kernel
theorem dX4_addBlock_21 : decode cX4_addBlock 21 = .ok (.ireturn, 1) := by decide +kernel
set_option maxRecDepth 20000 in
theorem ggX4_isRegister_X4_in : GoodIn wsX4_isRegister wsX4_in := goodIn_r _ [4] (by decide +kernel) (by decide +kernel)
set_option maxRecDepth 20000 in
theorem gX4_isRegister_X4_in : GoodIn wsX4_isRegister (va_wsS RX4 26 yX4_in wsX4_in) := goodIn_app (goodIn_of _ (by decide +kernel)) ggX4_isRegister_X4_in
theorem dX4_isRegister_0 : decode cX4_isRegister 0 = .ok (.iload_n 0, 1) := by decide +kernel
theorem dX4_isRegister_1 : decode cX4_isRegister 1 = .ok (.iconst 0, 1) := by decide +kernel
theorem dX4_isRegister_2 : decode cX4_isRegister 2 = .ok (.bipush 6, 2) := by decide +kernel
theorem dX4_isRegister_4 : decode cX4_isRegister 4 = .ok (.invokestatic 26, 3) := by decide +kernel
theorem dX4_isRegister_7 : decode cX4_isRegister 7 = .ok (.ireturn, 1) := by decide +kernel
set_option maxRecDepth 20000 in
theorem ggX4_fits_X4_isRegister : GoodIn wsX4_fits wsX4_isRegister := goodIn_r _ [4, 5, 6, 3, 7] (by decide +kernel) (by decide +kernel)
set_option maxRecDepth 20000 in
theorem gX4_fits_X4_isRegister : GoodIn wsX4_fits (va_wsS RX4 45 yX4_isRegister wsX4_isRegister) := goodIn_app (goodIn_of _ (by decide +kernel)) ggX4_fits_X4_isRegister
set_option maxRecDepth 20000 in
theorem ggX4_fits_X4_in : GoodIn wsX4_fits wsX4_in := goodIn_r _ [7] (by decide +kernel) (by decide +kernel)
set_option maxRecDepth 20000 in
theorem gX4_fits_X4_in : GoodIn wsX4_fits (va_wsS RX4 26 yX4_in wsX4_in) := goodIn_app (goodIn_of _ (by decide +kernel)) ggX4_fits_X4_in
theorem dX4_fits_0 : decode cX4_fits 0 = .ok (.iload_n 0, 1) := by decide +kernel
theorem dX4_fits_1 : decode cX4_fits 1 = .ok (.tableswitch 145 0 6 #[43, 73, 97, 97, 97, 97, 124], 43) := by decide +kernel
theorem dX4_fits_44 : decode cX4_fits 44 = .ok (.iload_n 1, 1) := by decide +kernel
theorem dX4_fits_45 : decode cX4_fits 45 = .ok (.invokestatic 45, 3) := by decide +kernel
theorem dX4_fits_48 : decode cX4_fits 48 = .ok (.ifCond .eq 24, 3) := by decide +kernel
theorem dX4_fits_51 : decode cX4_fits 51 = .ok (.iload_n 2, 1) := by decide +kernel
theorem dX4_fits_52 : decode cX4_fits 52 = .ok (.sipush (-999), 3) := by decide +kernel
theorem dX4_fits_55 : decode cX4_fits 55 = .ok (.sipush 999, 3) := by decide +kernel
theorem dX4_fits_58 : decode cX4_fits 58 = .ok (.invokestatic 26, 3) := by decide +kernel
theorem dX4_fits_61 : decode cX4_fits 61 = .ok (.ifCond .eq 11, 3) := by decide +kernel
theorem dX4_fits_64 : decode cX4_fits 64 = .ok (.iload_n 3, 1) := by decide +kernel
theorem dX4_fits_65 : decode cX4_fits 65 = .ok (.ifCond .ne 7, 3) := by decide +kernel
theorem dX4_fits_68 : decode cX4_fits 68 = .ok (.iconst 1, 1) := by decide +kernel
theorem dX4_fits_69 : decode cX4_fits 69 = .ok (.goto 4, 3) := by decide +kernel
theorem dX4_fits_72 : decode cX4_fits 72 = .ok (.iconst 0, 1) := by decide +kernel
theorem dX4_fits_73 : decode cX4_fits 73 = .ok (.ireturn, 1) := by decide +kernel
theorem dX4_fits_74 : decode cX4_fits 74 = .ok (.iload_n 1, 1) := by decide +kernel
theorem dX4_fits_75 : decode cX4_fits 75 = .ok (.invokestatic 45, 3) := by decide +kernel
theorem dX4_fits_78 : decode cX4_fits 78 = .ok (.ifCond .eq 18, 3) := by decide +kernel
theorem dX4_fits_81 : decode cX4_fits 81 = .ok (.iload_n 2, 1) := by decide +kernel
theorem dX4_fits_82 : decode cX4_fits 82 = .ok (.invokestatic 45, 3) := by decide +kernel
theorem dX4_fits_85 : decode cX4_fits 85 = .ok (.ifCond .eq 11, 3) := by decide +kernel
theorem dX4_fits_88 : decode cX4_fits 88 = .ok (.iload_n 3, 1) := by decide +kernel
theorem dX4_fits_89 : decode cX4_fits 89 = .ok (.ifCond .ne 7, 3) := by decide +kernel
theorem dX4_fits_92 : decode cX4_fits 92 = .ok (.iconst 1, 1) := by decide +kernel
theorem dX4_fits_93 : decode cX4_fits 93 = .ok (.goto 4, 3) := by decide +kernel
theorem dX4_fits_96 : decode cX4_fits 96 = .ok (.iconst 0, 1) := by decide +kernel
theorem dX4_fits_97 : decode cX4_fits 97 = .ok (.ireturn, 1) := by decide +kernel
theorem dX4_fits_98 : decode cX4_fits 98 = .ok (.iload_n 1, 1) := by decide +kernel
theorem dX4_fits_99 : decode cX4_fits 99 = .ok (.invokestatic 45, 3) := by decide +kernel
theorem dX4_fits_102 : decode cX4_fits 102 = .ok (.ifCond .eq 21, 3) := by decide +kernel
theorem dX4_fits_105 : decode cX4_fits 105 = .ok (.iload_n 2, 1) := by decide +kernel
theorem dX4_fits_106 : decode cX4_fits 106 = .ok (.invokestatic 45, 3) := by decide +kernel
theorem dX4_fits_109 : decode cX4_fits 109 = .ok (.ifCond .eq 14, 3) := by decide +kernel
theorem dX4_fits_112 : decode cX4_fits 112 = .ok (.iload_n 3, 1) := by decide +kernel
theorem dX4_fits_113 : decode cX4_fits 113 = .ok (.invokestatic 45, 3) := by decide +kernel
theorem dX4_fits_116 : decode cX4_fits 116 = .ok (.ifCond .eq 7, 3) := by decide +kernel
theorem dX4_fits_119 : decode cX4_fits 119 = .ok (.iconst 1, 1) := by decide +kernel
theorem dX4_fits_120 : decode cX4_fits 120 = .ok (.goto 4, 3) := by decide +kernel
theorem dX4_fits_123 : decode cX4_fits 123 = .ok (.iconst 0, 1) := by decide +kernel
theorem dX4_fits_124 : decode cX4_fits 124 = .ok (.ireturn, 1) := by decide +kernel
theorem dX4_fits_125 : decode cX4_fits 125 = .ok (.iload_n 1, 1) := by decide +kernel
theorem dX4_fits_126 : decode cX4_fits 126 = .ok (.ifCond .ne 18, 3) := by decide +kernel
theorem dX4_fits_129 : decode cX4_fits 129 = .ok (.iload_n 2, 1) := by decide +kernel
theorem dX4_fits_130 : decode cX4_fits 130 = .ok (.invokestatic 45, 3) := by decide +kernel
theorem dX4_fits_133 : decode cX4_fits 133 = .ok (.ifCond .eq 11, 3) := by decide +kernel
theorem dX4_fits_136 : decode cX4_fits 136 = .ok (.iload_n 3, 1) := by decide +kernel
theorem dX4_fits_137 : decode cX4_fits 137 = .ok (.ifCond .ne 7, 3) := by decide +kernel
theorem dX4_fits_140 : decode cX4_fits 140 = .ok (.iconst 1, 1) := by decide +kernel
theorem dX4_fits_141 : decode cX4_fits 141 = .ok (.goto 4, 3) := by decide +kernel
theorem dX4_fits_144 : decode cX4_fits 144 = .ok (.iconst 0, 1) := by decide +kernel
theorem dX4_fits_145 : decode cX4_fits 145 = .ok (.ireturn, 1) := by decide +kernel
theorem dX4_fits_146 : decode cX4_fits 146 = .ok (.iconst 0, 1) := by decide +kernel
theorem dX4_fits_147 : decode cX4_fits 147 = .ok (.ireturn, 1) := by decide +kernel
set_option maxRecDepth 20000 in
theorem ggX4_append_X4_many : GoodIn wsX4_append wsX4_many := goodIn_r _ [6, 1, 7, 8, 5, 9, 13, 14, 15, 16, 17, 18, 19] (by decide +kernel) (by decide +kernel)
set_option maxRecDepth 20000 in
theorem gX4_append_X4_many : GoodIn wsX4_append (wsV RX4 49 RX4 yX4_many wsX4_many) := goodIn_app (goodIn_of _ (by decide +kernel)) ggX4_append_X4_many
set_option maxRecDepth 20000 in
theorem ggX4_append_X4_at : GoodIn wsX4_append wsX4_at := goodIn_r _ [12, 7, 8, 5, 9] (by decide +kernel) (by decide +kernel)
set_option maxRecDepth 20000 in
theorem gX4_append_X4_at : GoodIn wsX4_append (va_wsS RX4 52 yX4_at wsX4_at) := goodIn_app (goodIn_of _ (by decide +kernel)) ggX4_append_X4_at
set_option maxRecDepth 20000 in
theorem ggX4_append_X4_base : GoodIn wsX4_append wsX4_base := goodIn_r _ [9] (by decide +kernel) (by decide +kernel)
set_option maxRecDepth 20000 in
theorem gX4_append_X4_base : GoodIn wsX4_append (va_wsS RX4 30 yX4_base wsX4_base) := goodIn_app (goodIn_of _ (by decide +kernel)) ggX4_append_X4_base
theorem dX4_append_0 : decode cX4_append 0 = .ok (.iload_n 1, 1) := by decide +kernel
theorem dX4_append_1 : decode cX4_append 1 = .ok (.aload_n 0, 1) := by decide +kernel
theorem dX4_append_2 : decode cX4_append 2 = .ok (.iload_n 1, 1) := by decide +kernel
theorem dX4_append_3 : decode cX4_append 3 = .ok (.invokevirtual 49, 3) := by decide +kernel
theorem dX4_append_6 : decode cX4_append 6 = .ok (.invokestatic 52, 3) := by decide +kernel
theorem dX4_append_9 : decode cX4_append 9 = .ok (.istore 7, 2) := by decide +kernel
theorem dX4_append_11 : decode cX4_append 11 = .ok (.aload_n 0, 1) := by decide +kernel
theorem dX4_append_12 : decode cX4_append 12 = .ok (.getfield 7, 3) := by decide +kernel
theorem dX4_append_15 : decode cX4_append 15 = .ok (.iload 7, 2) := by decide +kernel
theorem dX4_append_17 : decode cX4_append 17 = .ok (.iload_n 2, 1) := by decide +kernel
theorem dX4_append_18 : decode cX4_append 18 = .ok (.iastore, 1) := by decide +kernel
theorem dX4_append_19 : decode cX4_append 19 = .ok (.aload_n 0, 1) := by decide +kernel
theorem dX4_append_20 : decode cX4_append 20 = .ok (.getfield 7, 3) := by decide +kernel
theorem dX4_append_23 : decode cX4_append 23 = .ok (.iload 7, 2) := by decide +kernel
theorem dX4_append_25 : decode cX4_append 25 = .ok (.iconst 1, 1) := by decide +kernel
theorem dX4_append_26 : decode cX4_append 26 = .ok (.iadd, 1) := by decide +kernel
theorem dX4_append_27 : decode cX4_append 27 = .ok (.iload_n 3, 1) := by decide +kernel
theorem dX4_append_28 : decode cX4_append 28 = .ok (.iastore, 1) := by decide +kernel
theorem dX4_append_29 : decode cX4_append 29 = .ok (.aload_n 0, 1) := by decide +kernel
theorem dX4_append_30 : decode cX4_append 30 = .ok (.getfield 7, 3) := by decide +kernel
theorem dX4_append_33 : decode cX4_append 33 = .ok (.iload 7, 2) := by decide +kernel
theorem dX4_append_35 : decode cX4_append 35 = .ok (.iconst 2, 1) := by decide +kernel
theorem dX4_append_36 : decode cX4_append 36 = .ok (.iadd, 1) := by decide +kernel
theorem dX4_append_37 : decode cX4_append 37 = .ok (.iload 4, 2) := by decide +kernel
theorem dX4_append_39 : decode cX4_append 39 = .ok (.iastore, 1) := by decide +kernel
theorem dX4_append_40 : decode cX4_append 40 = .ok (.aload_n 0, 1) := by decide +kernel
theorem dX4_append_41 : decode cX4_append 41 = .ok (.getfield 7, 3) := by decide +kernel
theorem dX4_append_44 : decode cX4_append 44 = .ok (.iload 7, 2) := by decide +kernel
theorem dX4_append_46 : decode cX4_append 46 = .ok (.iconst 3, 1) := by decide +kernel
theorem dX4_append_47 : decode cX4_append 47 = .ok (.iadd, 1) := by decide +kernel
theorem dX4_append_48 : decode cX4_append 48 = .ok (.iload 5, 2) := by decide +kernel
theorem dX4_append_50 : decode cX4_append 50 = .ok (.iastore, 1) := by decide +kernel
theorem dX4_append_51 : decode cX4_append 51 = .ok (.aload_n 0, 1) := by decide +kernel
theorem dX4_append_52 : decode cX4_append 52 = .ok (.getfield 7, 3) := by decide +kernel
theorem dX4_append_55 : decode cX4_append 55 = .ok (.iload 7, 2) := by decide +kernel
theorem dX4_append_57 : decode cX4_append 57 = .ok (.iconst 4, 1) := by decide +kernel
theorem dX4_append_58 : decode cX4_append 58 = .ok (.iadd, 1) := by decide +kernel
theorem dX4_append_59 : decode cX4_append 59 = .ok (.iload 6, 2) := by decide +kernel
theorem dX4_append_61 : decode cX4_append 61 = .ok (.iastore, 1) := by decide +kernel
theorem dX4_append_62 : decode cX4_append 62 = .ok (.aload_n 0, 1) := by decide +kernel
theorem dX4_append_63 : decode cX4_append 63 = .ok (.getfield 7, 3) := by decide +kernel
theorem dX4_append_66 : decode cX4_append 66 = .ok (.iload_n 1, 1) := by decide +kernel
theorem dX4_append_67 : decode cX4_append 67 = .ok (.invokestatic 30, 3) := by decide +kernel
theorem dX4_append_70 : decode cX4_append 70 = .ok (.dup2, 1) := by decide +kernel
theorem dX4_append_71 : decode cX4_append 71 = .ok (.iaload, 1) := by decide +kernel
theorem dX4_append_72 : decode cX4_append 72 = .ok (.iconst 1, 1) := by decide +kernel
theorem dX4_append_73 : decode cX4_append 73 = .ok (.iadd, 1) := by decide +kernel
theorem dX4_append_74 : decode cX4_append 74 = .ok (.iastore, 1) := by decide +kernel
theorem dX4_append_75 : decode cX4_append 75 = .ok (.return_, 1) := by decide +kernel
set_option maxRecDepth 20000 in
theorem ggX4_addInstruction_X4_isBlock : GoodIn wsX4_addInstruction wsX4_isBlock := goodIn_r _ [5, 6, 7, 8, 4, 9, 30, 31, 32, 33, 34, 35, 36] (by decide +kernel) (by decide +kernel)
set_option maxRecDepth 20000 in
theorem gX4_addInstruction_X4_isBlock : GoodIn wsX4_addInstruction (wsV RX4 56 RX4 yX4_isBlock wsX4_isBlock) := goodIn_app (goodIn_of _ (by decide +kernel)) ggX4_addInstruction_X4_isBlock
set_option maxRecDepth 20000 in
theorem ggX4_addInstruction_X4_fits : GoodIn wsX4_addInstruction wsX4_fits := goodIn_r _ [12, 13, 14, 4, 15, 7, 8, 9] (by decide +kernel) (by decide +kernel)
set_option maxRecDepth 20000 in
theorem gX4_addInstruction_X4_fits : GoodIn wsX4_addInstruction (va_wsS RX4 59 yX4_fits wsX4_fits) := goodIn_app (goodIn_of _ (by decide +kernel)) ggX4_addInstruction_X4_fits
set_option maxRecDepth 20000 in
theorem ggX4_addInstruction_X4_in : GoodIn wsX4_addInstruction wsX4_in := goodIn_r _ [9] (by decide +kernel) (by decide +kernel)
set_option maxRecDepth 20000 in
theorem gX4_addInstruction_X4_in : GoodIn wsX4_addInstruction (va_wsS RX4 26 yX4_in wsX4_in) := goodIn_app (goodIn_of _ (by decide +kernel)) ggX4_addInstruction_X4_in
set_option maxRecDepth 20000 in
theorem ggX4_addInstruction_X4_many : GoodIn wsX4_addInstruction wsX4_many := goodIn_r _ [19, 6, 20, 21, 4, 22, 30, 31, 32, 33, 34, 35, 36] (by decide +kernel) (by decide +kernel)
set_option maxRecDepth 20000 in
theorem gX4_addInstruction_X4_many : GoodIn wsX4_addInstruction (wsV RX4 49 RX4 yX4_many wsX4_many) := goodIn_app (goodIn_of _ (by decide +kernel)) ggX4_addInstruction_X4_many
set_option maxRecDepth 20000 in
theorem ggX4_addInstruction_X4_append : GoodIn wsX4_addInstruction wsX4_append := goodIn_r _ [26, 6, 16, 17, 18, 4, 19, 20, 21, 22, 27, 28, 29, 30, 31, 32, 33, 34, 35, 36] (by decide +kernel) (by decide +kernel)
set_option maxRecDepth 20000 in
theorem gX4_addInstruction_X4_append : GoodIn wsX4_addInstruction (wsV RX4 63 RX4 yX4_append wsX4_append) := goodIn_app (goodIn_of _ (by decide +kernel)) ggX4_addInstruction_X4_append
theorem dX4_addInstruction_0 : decode cX4_addInstruction 0 = .ok (.aload_n 0, 1) := by decide +kernel
theorem dX4_addInstruction_1 : decode cX4_addInstruction 1 = .ok (.iload_n 1, 1) := by decide +kernel
theorem dX4_addInstruction_2 : decode cX4_addInstruction 2 = .ok (.invokevirtual 56, 3) := by decide +kernel
theorem dX4_addInstruction_5 : decode cX4_addInstruction 5 = .ok (.ifCond .ne 7, 3) := by decide +kernel
theorem dX4_addInstruction_8 : decode cX4_addInstruction 8 = .ok (.sipush (-1001), 3) := by decide +kernel
theorem dX4_addInstruction_11 : decode cX4_addInstruction 11 = .ok (.ireturn, 1) := by decide +kernel
theorem dX4_addInstruction_12 : decode cX4_addInstruction 12 = .ok (.iload_n 2, 1) := by decide +kernel
theorem dX4_addInstruction_13 : decode cX4_addInstruction 13 = .ok (.iload_n 3, 1) := by decide +kernel
theorem dX4_addInstruction_14 : decode cX4_addInstruction 14 = .ok (.iload 4, 2) := by decide +kernel
theorem dX4_addInstruction_16 : decode cX4_addInstruction 16 = .ok (.iload 5, 2) := by decide +kernel
theorem dX4_addInstruction_18 : decode cX4_addInstruction 18 = .ok (.invokestatic 59, 3) := by decide +kernel
theorem dX4_addInstruction_21 : decode cX4_addInstruction 21 = .ok (.ifCond .eq 14, 3) := by decide +kernel
theorem dX4_addInstruction_24 : decode cX4_addInstruction 24 = .ok (.iload 6, 2) := by decide +kernel
theorem dX4_addInstruction_26 : decode cX4_addInstruction 26 = .ok (.iconst 0, 1) := by decide +kernel
theorem dX4_addInstruction_27 : decode cX4_addInstruction 27 = .ok (.bipush 30, 2) := by decide +kernel
theorem dX4_addInstruction_29 : decode cX4_addInstruction 29 = .ok (.invokestatic 26, 3) := by decide +kernel
theorem dX4_addInstruction_32 : decode cX4_addInstruction 32 = .ok (.ifCond .ne 7, 3) := by decide +kernel
theorem dX4_addInstruction_35 : decode cX4_addInstruction 35 = .ok (.sipush (-1003), 3) := by decide +kernel
theorem dX4_addInstruction_38 : decode cX4_addInstruction 38 = .ok (.ireturn, 1) := by decide +kernel
theorem dX4_addInstruction_39 : decode cX4_addInstruction 39 = .ok (.aload_n 0, 1) := by decide +kernel
theorem dX4_addInstruction_40 : decode cX4_addInstruction 40 = .ok (.iload_n 1, 1) := by decide +kernel
theorem dX4_addInstruction_41 : decode cX4_addInstruction 41 = .ok (.invokevirtual 49, 3) := by decide +kernel
theorem dX4_addInstruction_44 : decode cX4_addInstruction 44 = .ok (.bipush 10, 2) := by decide +kernel
theorem dX4_addInstruction_46 : decode cX4_addInstruction 46 = .ok (.if_icmp .ne 7, 3) := by decide +kernel
theorem dX4_addInstruction_49 : decode cX4_addInstruction 49 = .ok (.sipush (-1004), 3) := by decide +kernel
theorem dX4_addInstruction_52 : decode cX4_addInstruction 52 = .ok (.ireturn, 1) := by decide +kernel
theorem dX4_addInstruction_53 : decode cX4_addInstruction 53 = .ok (.aload_n 0, 1) := by decide +kernel
theorem dX4_addInstruction_54 : decode cX4_addInstruction 54 = .ok (.iload_n 1, 1) := by decide +kernel
theorem dX4_addInstruction_55 : decode cX4_addInstruction 55 = .ok (.iload_n 2, 1) := by decide +kernel
theorem dX4_addInstruction_56 : decode cX4_addInstruction 56 = .ok (.iload_n 3, 1) := by decide +kernel
theorem dX4_addInstruction_57 : decode cX4_addInstruction 57 = .ok (.iload 4, 2) := by decide +kernel
theorem dX4_addInstruction_59 : decode cX4_addInstruction 59 = .ok (.iload 5, 2) := by decide +kernel
theorem dX4_addInstruction_61 : decode cX4_addInstruction 61 = .ok (.iconst 1, 1) := by decide +kernel
theorem dX4_addInstruction_62 : decode cX4_addInstruction 62 = .ok (.iload 6, 2) := by decide +kernel
theorem dX4_addInstruction_64 : decode cX4_addInstruction 64 = .ok (.ishl, 1) := by decide +kernel
theorem dX4_addInstruction_65 : decode cX4_addInstruction 65 = .ok (.invokevirtual 63, 3) := by decide +kernel
theorem dX4_addInstruction_68 : decode cX4_addInstruction 68 = .ok (.aload_n 0, 1) := by decide +kernel
theorem dX4_addInstruction_69 : decode cX4_addInstruction 69 = .ok (.iload_n 1, 1) := by decide +kernel
theorem dX4_addInstruction_70 : decode cX4_addInstruction 70 = .ok (.invokevirtual 49, 3) := by decide +kernel
theorem dX4_addInstruction_73 : decode cX4_addInstruction 73 = .ok (.iconst 1, 1) := by decide +kernel
theorem dX4_addInstruction_74 : decode cX4_addInstruction 74 = .ok (.isub, 1) := by decide +kernel
theorem dX4_addInstruction_75 : decode cX4_addInstruction 75 = .ok (.ireturn, 1) := by decide +kernel
set_option maxRecDepth 20000 in
theorem ggX4_setJump_X4_isBlock : GoodIn wsX4_setJump wsX4_isBlock := goodIn_r _ [6, 1, 7, 8, 5, 9, 20, 21, 22, 23, 24, 25, 26] (by decide +kernel) (by decide +kernel)
set_option maxRecDepth 20000 in
theorem gX4_setJump_X4_isBlock : GoodIn wsX4_setJump (wsV RX4 56 RX4 yX4_isBlock wsX4_isBlock) := goodIn_app (goodIn_of _ (by decide +kernel)) ggX4_setJump_X4_isBlock
set_option maxRecDepth 20000 in
theorem ggX4_setJump_X4_end : GoodIn wsX4_setJump wsX4_end := goodIn_r _ [12, 13, 14, 5, 15] (by decide +kernel) (by decide +kernel)
set_option maxRecDepth 20000 in
theorem gX4_setJump_X4_end : GoodIn wsX4_setJump (va_wsS RX4 34 yX4_end wsX4_end) := goodIn_app (goodIn_of _ (by decide +kernel)) ggX4_setJump_X4_end
set_option maxRecDepth 20000 in
theorem ggX4_setJump_X4_terminate : GoodIn wsX4_setJump wsX4_terminate := goodIn_r _ [19, 1, 10, 11, 5, 12, 13, 14, 15, 20, 21, 22, 23, 24, 25, 26] (by decide +kernel) (by decide +kernel)
set_option maxRecDepth 20000 in
theorem gX4_setJump_X4_terminate : GoodIn wsX4_setJump (wsV RX4 37 RX4 yX4_terminate wsX4_terminate) := goodIn_app (goodIn_of _ (by decide +kernel)) ggX4_setJump_X4_terminate
theorem dX4_setJump_0 : decode cX4_setJump 0 = .ok (.aload_n 0, 1) := by decide +kernel
theorem dX4_setJump_1 : decode cX4_setJump 1 = .ok (.iload_n 1, 1) := by decide +kernel
theorem dX4_setJump_2 : decode cX4_setJump 2 = .ok (.invokevirtual 56, 3) := by decide +kernel
theorem dX4_setJump_5 : decode cX4_setJump 5 = .ok (.ifCond .eq 11, 3) := by decide +kernel
theorem dX4_setJump_8 : decode cX4_setJump 8 = .ok (.aload_n 0, 1) := by decide +kernel
theorem dX4_setJump_9 : decode cX4_setJump 9 = .ok (.iload_n 2, 1) := by decide +kernel
theorem dX4_setJump_10 : decode cX4_setJump 10 = .ok (.invokevirtual 56, 3) := by decide +kernel
theorem dX4_setJump_13 : decode cX4_setJump 13 = .ok (.ifCond .ne 7, 3) := by decide +kernel
theorem dX4_setJump_16 : decode cX4_setJump 16 = .ok (.sipush (-1001), 3) := by decide +kernel
theorem dX4_setJump_19 : decode cX4_setJump 19 = .ok (.ireturn, 1) := by decide +kernel
theorem dX4_setJump_20 : decode cX4_setJump 20 = .ok (.aload_n 0, 1) := by decide +kernel
theorem dX4_setJump_21 : decode cX4_setJump 21 = .ok (.getfield 7, 3) := by decide +kernel
theorem dX4_setJump_24 : decode cX4_setJump 24 = .ok (.iload_n 1, 1) := by decide +kernel
theorem dX4_setJump_25 : decode cX4_setJump 25 = .ok (.invokestatic 34, 3) := by decide +kernel
theorem dX4_setJump_28 : decode cX4_setJump 28 = .ok (.iaload, 1) := by decide +kernel
theorem dX4_setJump_29 : decode cX4_setJump 29 = .ok (.istore_n 3, 1) := by decide +kernel
theorem dX4_setJump_30 : decode cX4_setJump 30 = .ok (.aload_n 0, 1) := by decide +kernel
theorem dX4_setJump_31 : decode cX4_setJump 31 = .ok (.iload_n 1, 1) := by decide +kernel
theorem dX4_setJump_32 : decode cX4_setJump 32 = .ok (.iconst 0, 1) := by decide +kernel
theorem dX4_setJump_33 : decode cX4_setJump 33 = .ok (.iload_n 2, 1) := by decide +kernel
theorem dX4_setJump_34 : decode cX4_setJump 34 = .ok (.iconst 0, 1) := by decide +kernel
theorem dX4_setJump_35 : decode cX4_setJump 35 = .ok (.iconst 0, 1) := by decide +kernel
theorem dX4_setJump_36 : decode cX4_setJump 36 = .ok (.invokevirtual 37, 3) := by decide +kernel
theorem dX4_setJump_39 : decode cX4_setJump 39 = .ok (.iload_n 3, 1) := by decide +kernel
theorem dX4_setJump_40 : decode cX4_setJump 40 = .ok (.ireturn, 1) := by decide +kernel
set_option maxRecDepth 20000 in
theorem ggX4_setBranch_X4_isBlock : GoodIn wsX4_setBranch wsX4_isBlock := goodIn_r _ [6, 1, 7, 8, 5, 9, 23, 24, 25, 26, 27, 28, 29] (by decide +kernel) (by decide +kernel)
set_option maxRecDepth 20000 in
theorem gX4_setBranch_X4_isBlock : GoodIn wsX4_setBranch (wsV RX4 56 RX4 yX4_isBlock wsX4_isBlock) := goodIn_app (goodIn_of _ (by decide +kernel)) ggX4_setBranch_X4_isBlock
set_option maxRecDepth 20000 in
theorem ggX4_setBranch_X4_isRegister : GoodIn wsX4_setBranch wsX4_isRegister := goodIn_r _ [12, 7, 8, 5, 9] (by decide +kernel) (by decide +kernel)
set_option maxRecDepth 20000 in
theorem gX4_setBranch_X4_isRegister : GoodIn wsX4_setBranch (va_wsS RX4 45 yX4_isRegister wsX4_isRegister) := goodIn_app (goodIn_of _ (by decide +kernel)) ggX4_setBranch_X4_isRegister
set_option maxRecDepth 20000 in
theorem ggX4_setBranch_X4_end : GoodIn wsX4_setBranch wsX4_end := goodIn_r _ [15, 16, 17, 5, 18] (by decide +kernel) (by decide +kernel)
set_option maxRecDepth 20000 in
theorem gX4_setBranch_X4_end : GoodIn wsX4_setBranch (va_wsS RX4 34 yX4_end wsX4_end) := goodIn_app (goodIn_of _ (by decide +kernel)) ggX4_setBranch_X4_end
set_option maxRecDepth 20000 in
theorem ggX4_setBranch_X4_terminate : GoodIn wsX4_setBranch wsX4_terminate := goodIn_r _ [22, 1, 13, 14, 5, 15, 16, 17, 18, 23, 24, 25, 26, 27, 28, 29] (by decide +kernel) (by decide +kernel)
set_option maxRecDepth 20000 in
theorem gX4_setBranch_X4_terminate : GoodIn wsX4_setBranch (wsV RX4 37 RX4 yX4_terminate wsX4_terminate) := goodIn_app (goodIn_of _ (by decide +kernel)) ggX4_setBranch_X4_terminate
theorem dX4_setBranch_0 : decode cX4_setBranch 0 = .ok (.aload_n 0, 1) := by decide +kernel
theorem dX4_setBranch_1 : decode cX4_setBranch 1 = .ok (.iload_n 1, 1) := by decide +kernel
theorem dX4_setBranch_2 : decode cX4_setBranch 2 = .ok (.invokevirtual 56, 3) := by decide +kernel
theorem dX4_setBranch_5 : decode cX4_setBranch 5 = .ok (.ifCond .eq 20, 3) := by decide +kernel
theorem dX4_setBranch_8 : decode cX4_setBranch 8 = .ok (.aload_n 0, 1) := by decide +kernel
theorem dX4_setBranch_9 : decode cX4_setBranch 9 = .ok (.iload_n 3, 1) := by decide +kernel
theorem dX4_setBranch_10 : decode cX4_setBranch 10 = .ok (.invokevirtual 56, 3) := by decide +kernel
theorem dX4_setBranch_13 : decode cX4_setBranch 13 = .ok (.ifCond .eq 12, 3) := by decide +kernel
theorem dX4_setBranch_16 : decode cX4_setBranch 16 = .ok (.aload_n 0, 1) := by decide +kernel
theorem dX4_setBranch_17 : decode cX4_setBranch 17 = .ok (.iload 4, 2) := by decide +kernel
theorem dX4_setBranch_19 : decode cX4_setBranch 19 = .ok (.invokevirtual 56, 3) := by decide +kernel
theorem dX4_setBranch_22 : decode cX4_setBranch 22 = .ok (.ifCond .ne 7, 3) := by decide +kernel
theorem dX4_setBranch_25 : decode cX4_setBranch 25 = .ok (.sipush (-1001), 3) := by decide +kernel
theorem dX4_setBranch_28 : decode cX4_setBranch 28 = .ok (.ireturn, 1) := by decide +kernel
theorem dX4_setBranch_29 : decode cX4_setBranch 29 = .ok (.iload_n 2, 1) := by decide +kernel
theorem dX4_setBranch_30 : decode cX4_setBranch 30 = .ok (.invokestatic 45, 3) := by decide +kernel
theorem dX4_setBranch_33 : decode cX4_setBranch 33 = .ok (.ifCond .ne 7, 3) := by decide +kernel
theorem dX4_setBranch_36 : decode cX4_setBranch 36 = .ok (.sipush (-1003), 3) := by decide +kernel
theorem dX4_setBranch_39 : decode cX4_setBranch 39 = .ok (.ireturn, 1) := by decide +kernel
theorem dX4_setBranch_40 : decode cX4_setBranch 40 = .ok (.aload_n 0, 1) := by decide +kernel
theorem dX4_setBranch_41 : decode cX4_setBranch 41 = .ok (.getfield 7, 3) := by decide +kernel
theorem dX4_setBranch_44 : decode cX4_setBranch 44 = .ok (.iload_n 1, 1) := by decide +kernel
theorem dX4_setBranch_45 : decode cX4_setBranch 45 = .ok (.invokestatic 34, 3) := by decide +kernel
theorem dX4_setBranch_48 : decode cX4_setBranch 48 = .ok (.iaload, 1) := by decide +kernel
theorem dX4_setBranch_49 : decode cX4_setBranch 49 = .ok (.istore 5, 2) := by decide +kernel
theorem dX4_setBranch_51 : decode cX4_setBranch 51 = .ok (.aload_n 0, 1) := by decide +kernel
theorem dX4_setBranch_52 : decode cX4_setBranch 52 = .ok (.iload_n 1, 1) := by decide +kernel
theorem dX4_setBranch_53 : decode cX4_setBranch 53 = .ok (.iconst 1, 1) := by decide +kernel
theorem dX4_setBranch_54 : decode cX4_setBranch 54 = .ok (.iload_n 2, 1) := by decide +kernel
theorem dX4_setBranch_55 : decode cX4_setBranch 55 = .ok (.iload_n 3, 1) := by decide +kernel
theorem dX4_setBranch_56 : decode cX4_setBranch 56 = .ok (.iload 4, 2) := by decide +kernel
theorem dX4_setBranch_58 : decode cX4_setBranch 58 = .ok (.invokevirtual 37, 3) := by decide +kernel
theorem dX4_setBranch_61 : decode cX4_setBranch 61 = .ok (.iload 5, 2) := by decide +kernel
theorem dX4_setBranch_63 : decode cX4_setBranch 63 = .ok (.ireturn, 1) := by decide +kernel
set_option maxRecDepth 20000 in
theorem ggX4_setReturn_X4_isBlock : GoodIn wsX4_setReturn wsX4_isBlock := goodIn_r _ [6, 1, 7, 8, 5, 9, 23, 24, 25, 26, 27, 28, 29] (by decide +kernel) (by decide +kernel)
set_option maxRecDepth 20000 in
theorem gX4_setReturn_X4_isBlock : GoodIn wsX4_setReturn (wsV RX4 56 RX4 yX4_isBlock wsX4_isBlock) := goodIn_app (goodIn_of _ (by decide +kernel)) ggX4_setReturn_X4_isBlock
set_option maxRecDepth 20000 in
theorem ggX4_setReturn_X4_isRegister : GoodIn wsX4_setReturn wsX4_isRegister := goodIn_r _ [12, 7, 8, 5, 9] (by decide +kernel) (by decide +kernel)
set_option maxRecDepth 20000 in
theorem gX4_setReturn_X4_isRegister : GoodIn wsX4_setReturn (va_wsS RX4 45 yX4_isRegister wsX4_isRegister) := goodIn_app (goodIn_of _ (by decide +kernel)) ggX4_setReturn_X4_isRegister
set_option maxRecDepth 20000 in
theorem ggX4_setReturn_X4_end : GoodIn wsX4_setReturn wsX4_end := goodIn_r _ [15, 16, 17, 5, 18] (by decide +kernel) (by decide +kernel)
set_option maxRecDepth 20000 in
theorem gX4_setReturn_X4_end : GoodIn wsX4_setReturn (va_wsS RX4 34 yX4_end wsX4_end) := goodIn_app (goodIn_of _ (by decide +kernel)) ggX4_setReturn_X4_end
set_option maxRecDepth 20000 in
theorem ggX4_setReturn_X4_terminate : GoodIn wsX4_setReturn wsX4_terminate := goodIn_r _ [22, 1, 13, 14, 5, 15, 16, 17, 18, 23, 24, 25, 26, 27, 28, 29] (by decide +kernel) (by decide +kernel)
set_option maxRecDepth 20000 in
theorem gX4_setReturn_X4_terminate : GoodIn wsX4_setReturn (wsV RX4 37 RX4 yX4_terminate wsX4_terminate) := goodIn_app (goodIn_of _ (by decide +kernel)) ggX4_setReturn_X4_terminate
theorem dX4_setReturn_0 : decode cX4_setReturn 0 = .ok (.aload_n 0, 1) := by decide +kernel
theorem dX4_setReturn_1 : decode cX4_setReturn 1 = .ok (.iload_n 1, 1) := by decide +kernel
theorem dX4_setReturn_2 : decode cX4_setReturn 2 = .ok (.invokevirtual 56, 3) := by decide +kernel
theorem dX4_setReturn_5 : decode cX4_setReturn 5 = .ok (.ifCond .ne 7, 3) := by decide +kernel
theorem dX4_setReturn_8 : decode cX4_setReturn 8 = .ok (.sipush (-1001), 3) := by decide +kernel
theorem dX4_setReturn_11 : decode cX4_setReturn 11 = .ok (.ireturn, 1) := by decide +kernel
theorem dX4_setReturn_12 : decode cX4_setReturn 12 = .ok (.iload_n 2, 1) := by decide +kernel
theorem dX4_setReturn_13 : decode cX4_setReturn 13 = .ok (.invokestatic 45, 3) := by decide +kernel
theorem dX4_setReturn_16 : decode cX4_setReturn 16 = .ok (.ifCond .ne 7, 3) := by decide +kernel
theorem dX4_setReturn_19 : decode cX4_setReturn 19 = .ok (.sipush (-1003), 3) := by decide +kernel
theorem dX4_setReturn_22 : decode cX4_setReturn 22 = .ok (.ireturn, 1) := by decide +kernel
theorem dX4_setReturn_23 : decode cX4_setReturn 23 = .ok (.aload_n 0, 1) := by decide +kernel
theorem dX4_setReturn_24 : decode cX4_setReturn 24 = .ok (.getfield 7, 3) := by decide +kernel
theorem dX4_setReturn_27 : decode cX4_setReturn 27 = .ok (.iload_n 1, 1) := by decide +kernel
theorem dX4_setReturn_28 : decode cX4_setReturn 28 = .ok (.invokestatic 34, 3) := by decide +kernel
theorem dX4_setReturn_31 : decode cX4_setReturn 31 = .ok (.iaload, 1) := by decide +kernel
theorem dX4_setReturn_32 : decode cX4_setReturn 32 = .ok (.istore_n 3, 1) := by decide +kernel
theorem dX4_setReturn_33 : decode cX4_setReturn 33 = .ok (.aload_n 0, 1) := by decide +kernel
theorem dX4_setReturn_34 : decode cX4_setReturn 34 = .ok (.iload_n 1, 1) := by decide +kernel
theorem dX4_setReturn_35 : decode cX4_setReturn 35 = .ok (.iconst 2, 1) := by decide +kernel
theorem dX4_setReturn_36 : decode cX4_setReturn 36 = .ok (.iload_n 2, 1) := by decide +kernel
theorem dX4_setReturn_37 : decode cX4_setReturn 37 = .ok (.iconst 0, 1) := by decide +kernel
theorem dX4_setReturn_38 : decode cX4_setReturn 38 = .ok (.iconst 0, 1) := by decide +kernel
theorem dX4_setReturn_39 : decode cX4_setReturn 39 = .ok (.invokevirtual 37, 3) := by decide +kernel
theorem dX4_setReturn_42 : decode cX4_setReturn 42 = .ok (.iload_n 3, 1) := by decide +kernel
theorem dX4_setReturn_43 : decode cX4_setReturn 43 = .ok (.ireturn, 1) := by decide +kernel
theorem dX4_blockCount_0 : decode cX4_blockCount 0 = .ok (.aload_n 0, 1) := by decide +kernel
theorem dX4_blockCount_1 : decode cX4_blockCount 1 = .ok (.getfield 7, 3) := by decide +kernel
theorem dX4_blockCount_4 : decode cX4_blockCount 4 = .ok (.iconst 0, 1) := by decide +kernel
theorem dX4_blockCount_5 : decode cX4_blockCount 5 = .ok (.iaload, 1) := by decide +kernel
theorem dX4_blockCount_6 : decode cX4_blockCount 6 = .ok (.ireturn, 1) := by decide +kernel
set_option maxRecDepth 20000 in
theorem ggX4_instructionCount_X4_isBlock : GoodIn wsX4_instructionCount wsX4_isBlock := goodIn_r _ [5, 6, 7, 8, 4, 9, 17, 18, 19, 20, 21, 22, 23] (by decide +kernel) (by decide +kernel)
set_option maxRecDepth 20000 in
theorem gX4_instructionCount_X4_isBlock : GoodIn wsX4_instructionCount (wsV RX4 56 RX4 yX4_isBlock wsX4_isBlock) := goodIn_app (goodIn_of _ (by decide +kernel)) ggX4_instructionCount_X4_isBlock
set_option maxRecDepth 20000 in
theorem ggX4_instructionCount_X4_many : GoodIn wsX4_instructionCount wsX4_many := goodIn_r _ [13, 6, 14, 15, 4, 16, 17, 18, 19, 20, 21, 22, 23] (by decide +kernel) (by decide +kernel)
set_option maxRecDepth 20000 in
theorem gX4_instructionCount_X4_many : GoodIn wsX4_instructionCount (wsV RX4 49 RX4 yX4_many wsX4_many) := goodIn_app (goodIn_of _ (by decide +kernel)) ggX4_instructionCount_X4_many
theorem dX4_instructionCount_0 : decode cX4_instructionCount 0 = .ok (.aload_n 0, 1) := by decide +kernel
theorem dX4_instructionCount_1 : decode cX4_instructionCount 1 = .ok (.iload_n 1, 1) := by decide +kernel
theorem dX4_instructionCount_2 : decode cX4_instructionCount 2 = .ok (.invokevirtual 56, 3) := by decide +kernel
theorem dX4_instructionCount_5 : decode cX4_instructionCount 5 = .ok (.ifCond .eq 11, 3) := by decide +kernel
theorem dX4_instructionCount_8 : decode cX4_instructionCount 8 = .ok (.aload_n 0, 1) := by decide +kernel
theorem dX4_instructionCount_9 : decode cX4_instructionCount 9 = .ok (.iload_n 1, 1) := by decide +kernel
theorem dX4_instructionCount_10 : decode cX4_instructionCount 10 = .ok (.invokevirtual 49, 3) := by decide +kernel
theorem dX4_instructionCount_13 : decode cX4_instructionCount 13 = .ok (.goto 6, 3) := by decide +kernel
theorem dX4_instructionCount_16 : decode cX4_instructionCount 16 = .ok (.sipush (-1001), 3) := by decide +kernel
theorem dX4_instructionCount_19 : decode cX4_instructionCount 19 = .ok (.ireturn, 1) := by decide +kernel
set_option maxRecDepth 20000 in
theorem ggX4_field_X4_isBlock : GoodIn wsX4_field wsX4_isBlock := goodIn_r _ [6, 1, 7, 8, 5, 9, 20, 21, 22, 23, 24, 25, 26] (by decide +kernel) (by decide +kernel)
set_option maxRecDepth 20000 in
theorem gX4_field_X4_isBlock : GoodIn wsX4_field (wsV RX4 56 RX4 yX4_isBlock wsX4_isBlock) := goodIn_app (goodIn_of _ (by decide +kernel)) ggX4_field_X4_isBlock
set_option maxRecDepth 20000 in
theorem ggX4_field_X4_many : GoodIn wsX4_field wsX4_many := goodIn_r _ [13, 1, 14, 15, 5, 16, 20, 21, 22, 23, 24, 25, 26] (by decide +kernel) (by decide +kernel)
set_option maxRecDepth 20000 in
theorem gX4_field_X4_many : GoodIn wsX4_field (wsV RX4 49 RX4 yX4_many wsX4_many) := goodIn_app (goodIn_of _ (by decide +kernel)) ggX4_field_X4_many
set_option maxRecDepth 20000 in
theorem ggX4_field_X4_in : GoodIn wsX4_field wsX4_in := goodIn_r _ [9] (by decide +kernel) (by decide +kernel)
set_option maxRecDepth 20000 in
theorem gX4_field_X4_in : GoodIn wsX4_field (va_wsS RX4 26 yX4_in wsX4_in) := goodIn_app (goodIn_of _ (by decide +kernel)) ggX4_field_X4_in
set_option maxRecDepth 20000 in
theorem ggX4_field_X4_at : GoodIn wsX4_field wsX4_at := goodIn_r _ [19, 14, 15, 5, 16] (by decide +kernel) (by decide +kernel)
set_option maxRecDepth 20000 in
theorem gX4_field_X4_at : GoodIn wsX4_field (va_wsS RX4 52 yX4_at wsX4_at) := goodIn_app (goodIn_of _ (by decide +kernel)) ggX4_field_X4_at
theorem dX4_field_0 : decode cX4_field 0 = .ok (.aload_n 0, 1) := by decide +kernel
theorem dX4_field_1 : decode cX4_field 1 = .ok (.iload_n 1, 1) := by decide +kernel
theorem dX4_field_2 : decode cX4_field 2 = .ok (.invokevirtual 56, 3) := by decide +kernel
theorem dX4_field_5 : decode cX4_field 5 = .ok (.ifCond .ne 7, 3) := by decide +kernel
theorem dX4_field_8 : decode cX4_field 8 = .ok (.sipush (-1001), 3) := by decide +kernel
theorem dX4_field_11 : decode cX4_field 11 = .ok (.ireturn, 1) := by decide +kernel
theorem dX4_field_12 : decode cX4_field 12 = .ok (.iload_n 2, 1) := by decide +kernel
theorem dX4_field_13 : decode cX4_field 13 = .ok (.iconst 0, 1) := by decide +kernel
theorem dX4_field_14 : decode cX4_field 14 = .ok (.aload_n 0, 1) := by decide +kernel
theorem dX4_field_15 : decode cX4_field 15 = .ok (.iload_n 1, 1) := by decide +kernel
theorem dX4_field_16 : decode cX4_field 16 = .ok (.invokevirtual 49, 3) := by decide +kernel
theorem dX4_field_19 : decode cX4_field 19 = .ok (.iconst 1, 1) := by decide +kernel
theorem dX4_field_20 : decode cX4_field 20 = .ok (.isub, 1) := by decide +kernel
theorem dX4_field_21 : decode cX4_field 21 = .ok (.invokestatic 26, 3) := by decide +kernel
theorem dX4_field_24 : decode cX4_field 24 = .ok (.ifCond .eq 18, 3) := by decide +kernel
theorem dX4_field_27 : decode cX4_field 27 = .ok (.aload_n 0, 1) := by decide +kernel
theorem dX4_field_28 : decode cX4_field 28 = .ok (.getfield 7, 3) := by decide +kernel
theorem dX4_field_31 : decode cX4_field 31 = .ok (.iload_n 1, 1) := by decide +kernel
theorem dX4_field_32 : decode cX4_field 32 = .ok (.iload_n 2, 1) := by decide +kernel
theorem dX4_field_33 : decode cX4_field 33 = .ok (.invokestatic 52, 3) := by decide +kernel
theorem dX4_field_36 : decode cX4_field 36 = .ok (.iload_n 3, 1) := by decide +kernel
theorem dX4_field_37 : decode cX4_field 37 = .ok (.iadd, 1) := by decide +kernel
theorem dX4_field_38 : decode cX4_field 38 = .ok (.iaload, 1) := by decide +kernel
theorem dX4_field_39 : decode cX4_field 39 = .ok (.goto 6, 3) := by decide +kernel
theorem dX4_field_42 : decode cX4_field 42 = .ok (.sipush (-1002), 3) := by decide +kernel
theorem dX4_field_45 : decode cX4_field 45 = .ok (.ireturn, 1) := by decide +kernel
set_option maxRecDepth 20000 in
theorem ggX4_opcode_X4_field : GoodIn wsX4_opcode wsX4_field := goodIn_r _ [5, 6, 7, 8, 9, 4, 10, 11, 12, 13, 14, 15, 16, 17, 18, 19, 20, 21, 22, 23, 24, 25, 26, 27, 28, 29, 30] (by decide +kernel) (by decide +kernel)
set_option maxRecDepth 20000 in
theorem gX4_opcode_X4_field : GoodIn wsX4_opcode (wsV RX4 67 RX4 yX4_field wsX4_field) := goodIn_app (goodIn_of _ (by decide +kernel)) ggX4_opcode_X4_field
theorem dX4_opcode_0 : decode cX4_opcode 0 = .ok (.aload_n 0, 1) := by decide +kernel
end
section
theorem dX4_opcode_1 : decode cX4_opcode 1 = .ok (.iload_n 1, 1) := by decide +kernel
theorem dX4_opcode_2 : decode cX4_opcode 2 = .ok (.iload_n 2, 1) := by decide +kernel
theorem dX4_opcode_3 : decode cX4_opcode 3 = .ok (.iconst 0, 1) := by decide +kernel
theorem dX4_opcode_4 : decode cX4_opcode 4 = .ok (.invokevirtual 67, 3) := by decide +kernel
theorem dX4_opcode_7 : decode cX4_opcode 7 = .ok (.ireturn, 1) := by decide +kernel
set_option maxRecDepth 20000 in
theorem ggX4_destination_X4_field : GoodIn wsX4_destination wsX4_field := goodIn_r _ [5, 6, 7, 8, 9, 4, 10, 11, 12, 13, 14, 15, 16, 17, 18, 19, 20, 21, 22, 23, 24, 25, 26, 27, 28, 29, 30] (by decide +kernel) (by decide +kernel)
set_option maxRecDepth 20000 in
theorem gX4_destination_X4_field : GoodIn wsX4_destination (wsV RX4 67 RX4 yX4_field wsX4_field) := goodIn_app (goodIn_of _ (by decide +kernel)) ggX4_destination_X4_field
theorem dX4_destination_0 : decode cX4_destination 0 = .ok (.aload_n 0, 1) := by decide +kernel
theorem dX4_destination_1 : decode cX4_destination 1 = .ok (.iload_n 1, 1) := by decide +kernel
theorem dX4_destination_2 : decode cX4_destination 2 = .ok (.iload_n 2, 1) := by decide +kernel
theorem dX4_destination_3 : decode cX4_destination 3 = .ok (.iconst 1, 1) := by decide +kernel
theorem dX4_destination_4 : decode cX4_destination 4 = .ok (.invokevirtual 67, 3) := by decide +kernel
theorem dX4_destination_7 : decode cX4_destination 7 = .ok (.ireturn, 1) := by decide +kernel
set_option maxRecDepth 20000 in
theorem ggX4_operandA_X4_field : GoodIn wsX4_operandA wsX4_field := goodIn_r _ [5, 6, 7, 8, 9, 4, 10, 11, 12, 13, 14, 15, 16, 17, 18, 19, 20, 21, 22, 23, 24, 25, 26, 27, 28, 29, 30] (by decide +kernel) (by decide +kernel)
set_option maxRecDepth 20000 in
theorem gX4_operandA_X4_field : GoodIn wsX4_operandA (wsV RX4 67 RX4 yX4_field wsX4_field) := goodIn_app (goodIn_of _ (by decide +kernel)) ggX4_operandA_X4_field
theorem dX4_operandA_0 : decode cX4_operandA 0 = .ok (.aload_n 0, 1) := by decide +kernel
theorem dX4_operandA_1 : decode cX4_operandA 1 = .ok (.iload_n 1, 1) := by decide +kernel
theorem dX4_operandA_2 : decode cX4_operandA 2 = .ok (.iload_n 2, 1) := by decide +kernel
theorem dX4_operandA_3 : decode cX4_operandA 3 = .ok (.iconst 2, 1) := by decide +kernel
theorem dX4_operandA_4 : decode cX4_operandA 4 = .ok (.invokevirtual 67, 3) := by decide +kernel
theorem dX4_operandA_7 : decode cX4_operandA 7 = .ok (.ireturn, 1) := by decide +kernel
set_option maxRecDepth 20000 in
theorem ggX4_operandB_X4_field : GoodIn wsX4_operandB wsX4_field := goodIn_r _ [5, 6, 7, 8, 9, 4, 10, 11, 12, 13, 14, 15, 16, 17, 18, 19, 20, 21, 22, 23, 24, 25, 26, 27, 28, 29, 30] (by decide +kernel) (by decide +kernel)
set_option maxRecDepth 20000 in
theorem gX4_operandB_X4_field : GoodIn wsX4_operandB (wsV RX4 67 RX4 yX4_field wsX4_field) := goodIn_app (goodIn_of _ (by decide +kernel)) ggX4_operandB_X4_field
theorem dX4_operandB_0 : decode cX4_operandB 0 = .ok (.aload_n 0, 1) := by decide +kernel
theorem dX4_operandB_1 : decode cX4_operandB 1 = .ok (.iload_n 1, 1) := by decide +kernel
theorem dX4_operandB_2 : decode cX4_operandB 2 = .ok (.iload_n 2, 1) := by decide +kernel
theorem dX4_operandB_3 : decode cX4_operandB 3 = .ok (.iconst 3, 1) := by decide +kernel
theorem dX4_operandB_4 : decode cX4_operandB 4 = .ok (.invokevirtual 67, 3) := by decide +kernel
theorem dX4_operandB_7 : decode cX4_operandB 7 = .ok (.ireturn, 1) := by decide +kernel
set_option maxRecDepth 20000 in
theorem ggX4_lines_X4_field : GoodIn wsX4_lines wsX4_field := goodIn_r _ [5, 6, 7, 8, 9, 4, 10, 11, 12, 13, 14, 15, 16, 17, 18, 19, 20, 21, 22, 23, 24, 25, 26, 27, 28, 29, 30] (by decide +kernel) (by decide +kernel)
set_option maxRecDepth 20000 in
theorem gX4_lines_X4_field : GoodIn wsX4_lines (wsV RX4 67 RX4 yX4_field wsX4_field) := goodIn_app (goodIn_of _ (by decide +kernel)) ggX4_lines_X4_field
theorem dX4_lines_0 : decode cX4_lines 0 = .ok (.aload_n 0, 1) := by decide +kernel
theorem dX4_lines_1 : decode cX4_lines 1 = .ok (.iload_n 1, 1) := by decide +kernel
theorem dX4_lines_2 : decode cX4_lines 2 = .ok (.iload_n 2, 1) := by decide +kernel
theorem dX4_lines_3 : decode cX4_lines 3 = .ok (.iconst 4, 1) := by decide +kernel
theorem dX4_lines_4 : decode cX4_lines 4 = .ok (.invokevirtual 67, 3) := by decide +kernel
theorem dX4_lines_7 : decode cX4_lines 7 = .ok (.ireturn, 1) := by decide +kernel
set_option maxRecDepth 20000 in
theorem ggX4_terminatorKind_X4_isBlock : GoodIn wsX4_terminatorKind wsX4_isBlock := goodIn_r _ [6, 1, 7, 8, 5, 9, 16, 17, 18, 19, 20, 21, 22] (by decide +kernel) (by decide +kernel)
set_option maxRecDepth 20000 in
theorem gX4_terminatorKind_X4_isBlock : GoodIn wsX4_terminatorKind (wsV RX4 56 RX4 yX4_isBlock wsX4_isBlock) := goodIn_app (goodIn_of _ (by decide +kernel)) ggX4_terminatorKind_X4_isBlock
set_option maxRecDepth 20000 in
theorem ggX4_terminatorKind_X4_end : GoodIn wsX4_terminatorKind wsX4_end := goodIn_r _ [12, 13, 14, 5, 15] (by decide +kernel) (by decide +kernel)
set_option maxRecDepth 20000 in
theorem gX4_terminatorKind_X4_end : GoodIn wsX4_terminatorKind (va_wsS RX4 34 yX4_end wsX4_end) := goodIn_app (goodIn_of _ (by decide +kernel)) ggX4_terminatorKind_X4_end
theorem dX4_terminatorKind_0 : decode cX4_terminatorKind 0 = .ok (.aload_n 0, 1) := by decide +kernel
theorem dX4_terminatorKind_1 : decode cX4_terminatorKind 1 = .ok (.iload_n 1, 1) := by decide +kernel
theorem dX4_terminatorKind_2 : decode cX4_terminatorKind 2 = .ok (.invokevirtual 56, 3) := by decide +kernel
theorem dX4_terminatorKind_5 : decode cX4_terminatorKind 5 = .ok (.ifCond .eq 15, 3) := by decide +kernel
theorem dX4_terminatorKind_8 : decode cX4_terminatorKind 8 = .ok (.aload_n 0, 1) := by decide +kernel
theorem dX4_terminatorKind_9 : decode cX4_terminatorKind 9 = .ok (.getfield 7, 3) := by decide +kernel
theorem dX4_terminatorKind_12 : decode cX4_terminatorKind 12 = .ok (.iload_n 1, 1) := by decide +kernel
theorem dX4_terminatorKind_13 : decode cX4_terminatorKind 13 = .ok (.invokestatic 34, 3) := by decide +kernel
theorem dX4_terminatorKind_16 : decode cX4_terminatorKind 16 = .ok (.iaload, 1) := by decide +kernel
theorem dX4_terminatorKind_17 : decode cX4_terminatorKind 17 = .ok (.goto 6, 3) := by decide +kernel
theorem dX4_terminatorKind_20 : decode cX4_terminatorKind 20 = .ok (.sipush (-1001), 3) := by decide +kernel
theorem dX4_terminatorKind_23 : decode cX4_terminatorKind 23 = .ok (.ireturn, 1) := by decide +kernel
set_option maxRecDepth 20000 in
theorem ggX4_terminatorOperand_X4_isBlock : GoodIn wsX4_terminatorOperand wsX4_isBlock := goodIn_r _ [6, 1, 7, 8, 5, 9, 16, 17, 18, 19, 20, 21, 22] (by decide +kernel) (by decide +kernel)
set_option maxRecDepth 20000 in
theorem gX4_terminatorOperand_X4_isBlock : GoodIn wsX4_terminatorOperand (wsV RX4 56 RX4 yX4_isBlock wsX4_isBlock) := goodIn_app (goodIn_of _ (by decide +kernel)) ggX4_terminatorOperand_X4_isBlock
set_option maxRecDepth 20000 in
theorem ggX4_terminatorOperand_X4_end : GoodIn wsX4_terminatorOperand wsX4_end := goodIn_r _ [12, 13, 14, 5, 15] (by decide +kernel) (by decide +kernel)
set_option maxRecDepth 20000 in
theorem gX4_terminatorOperand_X4_end : GoodIn wsX4_terminatorOperand (va_wsS RX4 34 yX4_end wsX4_end) := goodIn_app (goodIn_of _ (by decide +kernel)) ggX4_terminatorOperand_X4_end
set_option maxRecDepth 20000 in
theorem ggX4_terminatorOperand_X4_in : GoodIn wsX4_terminatorOperand wsX4_in := goodIn_r _ [9] (by decide +kernel) (by decide +kernel)
set_option maxRecDepth 20000 in
theorem gX4_terminatorOperand_X4_in : GoodIn wsX4_terminatorOperand (va_wsS RX4 26 yX4_in wsX4_in) := goodIn_app (goodIn_of _ (by decide +kernel)) ggX4_terminatorOperand_X4_in
theorem dX4_terminatorOperand_0 : decode cX4_terminatorOperand 0 = .ok (.aload_n 0, 1) := by decide +kernel
theorem dX4_terminatorOperand_1 : decode cX4_terminatorOperand 1 = .ok (.iload_n 1, 1) := by decide +kernel
theorem dX4_terminatorOperand_2 : decode cX4_terminatorOperand 2 = .ok (.invokevirtual 56, 3) := by decide +kernel
theorem dX4_terminatorOperand_5 : decode cX4_terminatorOperand 5 = .ok (.ifCond .ne 7, 3) := by decide +kernel
theorem dX4_terminatorOperand_8 : decode cX4_terminatorOperand 8 = .ok (.sipush (-1001), 3) := by decide +kernel
theorem dX4_terminatorOperand_11 : decode cX4_terminatorOperand 11 = .ok (.ireturn, 1) := by decide +kernel
theorem dX4_terminatorOperand_12 : decode cX4_terminatorOperand 12 = .ok (.aload_n 0, 1) := by decide +kernel
theorem dX4_terminatorOperand_13 : decode cX4_terminatorOperand 13 = .ok (.getfield 7, 3) := by decide +kernel
theorem dX4_terminatorOperand_16 : decode cX4_terminatorOperand 16 = .ok (.iload_n 1, 1) := by decide +kernel
theorem dX4_terminatorOperand_17 : decode cX4_terminatorOperand 17 = .ok (.invokestatic 34, 3) := by decide +kernel
theorem dX4_terminatorOperand_20 : decode cX4_terminatorOperand 20 = .ok (.iaload, 1) := by decide +kernel
theorem dX4_terminatorOperand_21 : decode cX4_terminatorOperand 21 = .ok (.iconst 1, 1) := by decide +kernel
theorem dX4_terminatorOperand_22 : decode cX4_terminatorOperand 22 = .ok (.if_icmp .ne 7, 3) := by decide +kernel
theorem dX4_terminatorOperand_25 : decode cX4_terminatorOperand 25 = .ok (.iconst 2, 1) := by decide +kernel
theorem dX4_terminatorOperand_26 : decode cX4_terminatorOperand 26 = .ok (.goto 4, 3) := by decide +kernel
theorem dX4_terminatorOperand_29 : decode cX4_terminatorOperand 29 = .ok (.iconst 0, 1) := by decide +kernel
theorem dX4_terminatorOperand_30 : decode cX4_terminatorOperand 30 = .ok (.istore_n 3, 1) := by decide +kernel
theorem dX4_terminatorOperand_31 : decode cX4_terminatorOperand 31 = .ok (.iload_n 2, 1) := by decide +kernel
theorem dX4_terminatorOperand_32 : decode cX4_terminatorOperand 32 = .ok (.iconst 0, 1) := by decide +kernel
theorem dX4_terminatorOperand_33 : decode cX4_terminatorOperand 33 = .ok (.iload_n 3, 1) := by decide +kernel
theorem dX4_terminatorOperand_34 : decode cX4_terminatorOperand 34 = .ok (.invokestatic 26, 3) := by decide +kernel
theorem dX4_terminatorOperand_37 : decode cX4_terminatorOperand 37 = .ok (.ifCond .eq 19, 3) := by decide +kernel
theorem dX4_terminatorOperand_40 : decode cX4_terminatorOperand 40 = .ok (.aload_n 0, 1) := by decide +kernel
theorem dX4_terminatorOperand_41 : decode cX4_terminatorOperand 41 = .ok (.getfield 7, 3) := by decide +kernel
theorem dX4_terminatorOperand_44 : decode cX4_terminatorOperand 44 = .ok (.iload_n 1, 1) := by decide +kernel
theorem dX4_terminatorOperand_45 : decode cX4_terminatorOperand 45 = .ok (.invokestatic 34, 3) := by decide +kernel
theorem dX4_terminatorOperand_48 : decode cX4_terminatorOperand 48 = .ok (.iconst 1, 1) := by decide +kernel
theorem dX4_terminatorOperand_49 : decode cX4_terminatorOperand 49 = .ok (.iadd, 1) := by decide +kernel
theorem dX4_terminatorOperand_50 : decode cX4_terminatorOperand 50 = .ok (.iload_n 2, 1) := by decide +kernel
theorem dX4_terminatorOperand_51 : decode cX4_terminatorOperand 51 = .ok (.iadd, 1) := by decide +kernel
theorem dX4_terminatorOperand_52 : decode cX4_terminatorOperand 52 = .ok (.iaload, 1) := by decide +kernel
theorem dX4_terminatorOperand_53 : decode cX4_terminatorOperand 53 = .ok (.goto 6, 3) := by decide +kernel
theorem dX4_terminatorOperand_56 : decode cX4_terminatorOperand 56 = .ok (.sipush (-1008), 3) := by decide +kernel
theorem dX4_terminatorOperand_59 : decode cX4_terminatorOperand 59 = .ok (.ireturn, 1) := by decide +kernel
set_option maxRecDepth 20000 in
theorem ggX4_tailHash_X4_isBlock : GoodIn wsX4_tailHash wsX4_isBlock := goodIn_r _ [7, 1, 8, 9, 6, 10, 24, 25, 26, 27, 28, 29, 30] (by decide +kernel) (by decide +kernel)
set_option maxRecDepth 20000 in
theorem gX4_tailHash_X4_isBlock : GoodIn wsX4_tailHash (wsV RX4 56 RX4 yX4_isBlock wsX4_isBlock) := goodIn_app (goodIn_of _ (by decide +kernel)) ggX4_tailHash_X4_isBlock
set_option maxRecDepth 20000 in
theorem ggX4_tailHash_X4_many : GoodIn wsX4_tailHash wsX4_many := goodIn_r _ [14, 1, 15, 16, 6, 17, 24, 25, 26, 27, 28, 29, 30] (by decide +kernel) (by decide +kernel)
set_option maxRecDepth 20000 in
theorem gX4_tailHash_X4_many : GoodIn wsX4_tailHash (wsV RX4 49 RX4 yX4_many wsX4_many) := goodIn_app (goodIn_of _ (by decide +kernel)) ggX4_tailHash_X4_many
set_option maxRecDepth 20000 in
theorem ggX4_tailHash_X4_in : GoodIn wsX4_tailHash wsX4_in := goodIn_r _ [10] (by decide +kernel) (by decide +kernel)
set_option maxRecDepth 20000 in
theorem gX4_tailHash_X4_in : GoodIn wsX4_tailHash (va_wsS RX4 26 yX4_in wsX4_in) := goodIn_app (goodIn_of _ (by decide +kernel)) ggX4_tailHash_X4_in
set_option maxRecDepth 20000 in
theorem ggX4_tailHash_X4_at : GoodIn wsX4_tailHash wsX4_at := goodIn_r _ [20, 15, 16, 6, 17] (by decide +kernel) (by decide +kernel)
set_option maxRecDepth 20000 in
theorem gX4_tailHash_X4_at : GoodIn wsX4_tailHash (va_wsS RX4 52 yX4_at wsX4_at) := goodIn_app (goodIn_of _ (by decide +kernel)) ggX4_tailHash_X4_at
set_option maxRecDepth 20000 in
theorem ggX4_tailHash_X4_end : GoodIn wsX4_tailHash wsX4_end := goodIn_r _ [23, 15, 16, 6, 17] (by decide +kernel) (by decide +kernel)
set_option maxRecDepth 20000 in
theorem gX4_tailHash_X4_end : GoodIn wsX4_tailHash (va_wsS RX4 34 yX4_end wsX4_end) := goodIn_app (goodIn_of _ (by decide +kernel)) ggX4_tailHash_X4_end
theorem dX4_tailHash_0 : decode cX4_tailHash 0 = .ok (.aload_n 0, 1) := by decide +kernel
theorem dX4_tailHash_1 : decode cX4_tailHash 1 = .ok (.iload_n 1, 1) := by decide +kernel
theorem dX4_tailHash_2 : decode cX4_tailHash 2 = .ok (.invokevirtual 56, 3) := by decide +kernel
theorem dX4_tailHash_5 : decode cX4_tailHash 5 = .ok (.ifCond .ne 7, 3) := by decide +kernel
theorem dX4_tailHash_8 : decode cX4_tailHash 8 = .ok (.sipush (-1001), 3) := by decide +kernel
theorem dX4_tailHash_11 : decode cX4_tailHash 11 = .ok (.ireturn, 1) := by decide +kernel
theorem dX4_tailHash_12 : decode cX4_tailHash 12 = .ok (.iload_n 2, 1) := by decide +kernel
theorem dX4_tailHash_13 : decode cX4_tailHash 13 = .ok (.iconst 0, 1) := by decide +kernel
theorem dX4_tailHash_14 : decode cX4_tailHash 14 = .ok (.aload_n 0, 1) := by decide +kernel
theorem dX4_tailHash_15 : decode cX4_tailHash 15 = .ok (.iload_n 1, 1) := by decide +kernel
theorem dX4_tailHash_16 : decode cX4_tailHash 16 = .ok (.invokevirtual 49, 3) := by decide +kernel
theorem dX4_tailHash_19 : decode cX4_tailHash 19 = .ok (.invokestatic 26, 3) := by decide +kernel
theorem dX4_tailHash_22 : decode cX4_tailHash 22 = .ok (.ifCond .ne 7, 3) := by decide +kernel
theorem dX4_tailHash_25 : decode cX4_tailHash 25 = .ok (.sipush (-1003), 3) := by decide +kernel
theorem dX4_tailHash_28 : decode cX4_tailHash 28 = .ok (.ireturn, 1) := by decide +kernel
theorem dX4_tailHash_29 : decode cX4_tailHash 29 = .ok (.bipush 17, 2) := by decide +kernel
theorem dX4_tailHash_31 : decode cX4_tailHash 31 = .ok (.istore_n 3, 1) := by decide +kernel
theorem dX4_tailHash_32 : decode cX4_tailHash 32 = .ok (.aload_n 0, 1) := by decide +kernel
theorem dX4_tailHash_33 : decode cX4_tailHash 33 = .ok (.iload_n 1, 1) := by decide +kernel
theorem dX4_tailHash_34 : decode cX4_tailHash 34 = .ok (.invokevirtual 49, 3) := by decide +kernel
theorem dX4_tailHash_37 : decode cX4_tailHash 37 = .ok (.iload_n 2, 1) := by decide +kernel
theorem dX4_tailHash_38 : decode cX4_tailHash 38 = .ok (.isub, 1) := by decide +kernel
theorem dX4_tailHash_39 : decode cX4_tailHash 39 = .ok (.istore 4, 2) := by decide +kernel
theorem dX4_tailHash_41 : decode cX4_tailHash 41 = .ok (.iload 4, 2) := by decide +kernel
theorem dX4_tailHash_43 : decode cX4_tailHash 43 = .ok (.aload_n 0, 1) := by decide +kernel
theorem dX4_tailHash_44 : decode cX4_tailHash 44 = .ok (.iload_n 1, 1) := by decide +kernel
theorem dX4_tailHash_45 : decode cX4_tailHash 45 = .ok (.invokevirtual 49, 3) := by decide +kernel
theorem dX4_tailHash_48 : decode cX4_tailHash 48 = .ok (.if_icmp .ge 44, 3) := by decide +kernel
theorem dX4_tailHash_51 : decode cX4_tailHash 51 = .ok (.iconst 0, 1) := by decide +kernel
theorem dX4_tailHash_52 : decode cX4_tailHash 52 = .ok (.istore 5, 2) := by decide +kernel
theorem dX4_tailHash_54 : decode cX4_tailHash 54 = .ok (.iload 5, 2) := by decide +kernel
theorem dX4_tailHash_56 : decode cX4_tailHash 56 = .ok (.iconst 4, 1) := by decide +kernel
theorem dX4_tailHash_57 : decode cX4_tailHash 57 = .ok (.if_icmp .ge 29, 3) := by decide +kernel
theorem dX4_tailHash_60 : decode cX4_tailHash 60 = .ok (.bipush 31, 2) := by decide +kernel
theorem dX4_tailHash_62 : decode cX4_tailHash 62 = .ok (.iload_n 3, 1) := by decide +kernel
theorem dX4_tailHash_63 : decode cX4_tailHash 63 = .ok (.imul, 1) := by decide +kernel
theorem dX4_tailHash_64 : decode cX4_tailHash 64 = .ok (.aload_n 0, 1) := by decide +kernel
theorem dX4_tailHash_65 : decode cX4_tailHash 65 = .ok (.getfield 7, 3) := by decide +kernel
theorem dX4_tailHash_68 : decode cX4_tailHash 68 = .ok (.iload_n 1, 1) := by decide +kernel
theorem dX4_tailHash_69 : decode cX4_tailHash 69 = .ok (.iload 4, 2) := by decide +kernel
theorem dX4_tailHash_71 : decode cX4_tailHash 71 = .ok (.invokestatic 52, 3) := by decide +kernel
theorem dX4_tailHash_74 : decode cX4_tailHash 74 = .ok (.iload 5, 2) := by decide +kernel
theorem dX4_tailHash_76 : decode cX4_tailHash 76 = .ok (.iadd, 1) := by decide +kernel
theorem dX4_tailHash_77 : decode cX4_tailHash 77 = .ok (.iaload, 1) := by decide +kernel
theorem dX4_tailHash_78 : decode cX4_tailHash 78 = .ok (.iadd, 1) := by decide +kernel
theorem dX4_tailHash_79 : decode cX4_tailHash 79 = .ok (.istore_n 3, 1) := by decide +kernel
theorem dX4_tailHash_80 : decode cX4_tailHash 80 = .ok (.iinc 5 1, 3) := by decide +kernel
theorem dX4_tailHash_83 : decode cX4_tailHash 83 = .ok (.goto (-29), 3) := by decide +kernel
theorem dX4_tailHash_86 : decode cX4_tailHash 86 = .ok (.iinc 4 1, 3) := by decide +kernel
theorem dX4_tailHash_89 : decode cX4_tailHash 89 = .ok (.goto (-48), 3) := by decide +kernel
theorem dX4_tailHash_92 : decode cX4_tailHash 92 = .ok (.iconst 0, 1) := by decide +kernel
theorem dX4_tailHash_93 : decode cX4_tailHash 93 = .ok (.istore 4, 2) := by decide +kernel
theorem dX4_tailHash_95 : decode cX4_tailHash 95 = .ok (.iload 4, 2) := by decide +kernel
theorem dX4_tailHash_97 : decode cX4_tailHash 97 = .ok (.iconst 4, 1) := by decide +kernel
theorem dX4_tailHash_98 : decode cX4_tailHash 98 = .ok (.if_icmp .ge 27, 3) := by decide +kernel
theorem dX4_tailHash_101 : decode cX4_tailHash 101 = .ok (.bipush 31, 2) := by decide +kernel
theorem dX4_tailHash_103 : decode cX4_tailHash 103 = .ok (.iload_n 3, 1) := by decide +kernel
theorem dX4_tailHash_104 : decode cX4_tailHash 104 = .ok (.imul, 1) := by decide +kernel
theorem dX4_tailHash_105 : decode cX4_tailHash 105 = .ok (.aload_n 0, 1) := by decide +kernel
theorem dX4_tailHash_106 : decode cX4_tailHash 106 = .ok (.getfield 7, 3) := by decide +kernel
theorem dX4_tailHash_109 : decode cX4_tailHash 109 = .ok (.iload_n 1, 1) := by decide +kernel
theorem dX4_tailHash_110 : decode cX4_tailHash 110 = .ok (.invokestatic 34, 3) := by decide +kernel
theorem dX4_tailHash_113 : decode cX4_tailHash 113 = .ok (.iload 4, 2) := by decide +kernel
theorem dX4_tailHash_115 : decode cX4_tailHash 115 = .ok (.iadd, 1) := by decide +kernel
theorem dX4_tailHash_116 : decode cX4_tailHash 116 = .ok (.iaload, 1) := by decide +kernel
theorem dX4_tailHash_117 : decode cX4_tailHash 117 = .ok (.iadd, 1) := by decide +kernel
theorem dX4_tailHash_118 : decode cX4_tailHash 118 = .ok (.istore_n 3, 1) := by decide +kernel
theorem dX4_tailHash_119 : decode cX4_tailHash 119 = .ok (.iinc 4 1, 3) := by decide +kernel
theorem dX4_tailHash_122 : decode cX4_tailHash 122 = .ok (.goto (-27), 3) := by decide +kernel
theorem dX4_tailHash_125 : decode cX4_tailHash 125 = .ok (.iload_n 3, 1) := by decide +kernel
theorem dX4_tailHash_126 : decode cX4_tailHash 126 = .ok (.ldc 71, 2) := by decide +kernel
theorem dX4_tailHash_128 : decode cX4_tailHash 128 = .ok (.iand, 1) := by decide +kernel
theorem dX4_tailHash_129 : decode cX4_tailHash 129 = .ok (.ireturn, 1) := by decide +kernel
set_option maxRecDepth 20000 in
theorem ggX4_sameEnds_X4_end : GoodIn wsX4_sameEnds wsX4_end := goodIn_r _ [5, 6, 7, 4, 8] (by decide +kernel) (by decide +kernel)
set_option maxRecDepth 20000 in
theorem gX4_sameEnds_X4_end : GoodIn wsX4_sameEnds (va_wsS RX4 34 yX4_end wsX4_end) := goodIn_app (goodIn_of _ (by decide +kernel)) ggX4_sameEnds_X4_end
theorem dX4_sameEnds_0 : decode cX4_sameEnds 0 = .ok (.iconst 1, 1) := by decide +kernel
theorem dX4_sameEnds_1 : decode cX4_sameEnds 1 = .ok (.istore_n 3, 1) := by decide +kernel
theorem dX4_sameEnds_2 : decode cX4_sameEnds 2 = .ok (.iconst 0, 1) := by decide +kernel
theorem dX4_sameEnds_3 : decode cX4_sameEnds 3 = .ok (.istore 4, 2) := by decide +kernel
theorem dX4_sameEnds_5 : decode cX4_sameEnds 5 = .ok (.iload 4, 2) := by decide +kernel
theorem dX4_sameEnds_7 : decode cX4_sameEnds 7 = .ok (.iconst 4, 1) := by decide +kernel
theorem dX4_sameEnds_8 : decode cX4_sameEnds 8 = .ok (.if_icmp .ge 46, 3) := by decide +kernel
theorem dX4_sameEnds_11 : decode cX4_sameEnds 11 = .ok (.iload_n 3, 1) := by decide +kernel
theorem dX4_sameEnds_12 : decode cX4_sameEnds 12 = .ok (.ifCond .eq 34, 3) := by decide +kernel
theorem dX4_sameEnds_15 : decode cX4_sameEnds 15 = .ok (.aload_n 0, 1) := by decide +kernel
theorem dX4_sameEnds_16 : decode cX4_sameEnds 16 = .ok (.getfield 7, 3) := by decide +kernel
theorem dX4_sameEnds_19 : decode cX4_sameEnds 19 = .ok (.iload_n 1, 1) := by decide +kernel
theorem dX4_sameEnds_20 : decode cX4_sameEnds 20 = .ok (.invokestatic 34, 3) := by decide +kernel
theorem dX4_sameEnds_23 : decode cX4_sameEnds 23 = .ok (.iload 4, 2) := by decide +kernel
theorem dX4_sameEnds_25 : decode cX4_sameEnds 25 = .ok (.iadd, 1) := by decide +kernel
theorem dX4_sameEnds_26 : decode cX4_sameEnds 26 = .ok (.iaload, 1) := by decide +kernel
theorem dX4_sameEnds_27 : decode cX4_sameEnds 27 = .ok (.aload_n 0, 1) := by decide +kernel
theorem dX4_sameEnds_28 : decode cX4_sameEnds 28 = .ok (.getfield 7, 3) := by decide +kernel
theorem dX4_sameEnds_31 : decode cX4_sameEnds 31 = .ok (.iload_n 2, 1) := by decide +kernel
theorem dX4_sameEnds_32 : decode cX4_sameEnds 32 = .ok (.invokestatic 34, 3) := by decide +kernel
theorem dX4_sameEnds_35 : decode cX4_sameEnds 35 = .ok (.iload 4, 2) := by decide +kernel
theorem dX4_sameEnds_37 : decode cX4_sameEnds 37 = .ok (.iadd, 1) := by decide +kernel
theorem dX4_sameEnds_38 : decode cX4_sameEnds 38 = .ok (.iaload, 1) := by decide +kernel
theorem dX4_sameEnds_39 : decode cX4_sameEnds 39 = .ok (.if_icmp .ne 7, 3) := by decide +kernel
theorem dX4_sameEnds_42 : decode cX4_sameEnds 42 = .ok (.iconst 1, 1) := by decide +kernel
theorem dX4_sameEnds_43 : decode cX4_sameEnds 43 = .ok (.goto 4, 3) := by decide +kernel
theorem dX4_sameEnds_46 : decode cX4_sameEnds 46 = .ok (.iconst 0, 1) := by decide +kernel
theorem dX4_sameEnds_47 : decode cX4_sameEnds 47 = .ok (.istore_n 3, 1) := by decide +kernel
theorem dX4_sameEnds_48 : decode cX4_sameEnds 48 = .ok (.iinc 4 1, 3) := by decide +kernel
theorem dX4_sameEnds_51 : decode cX4_sameEnds 51 = .ok (.goto (-46), 3) := by decide +kernel
theorem dX4_sameEnds_54 : decode cX4_sameEnds 54 = .ok (.iload_n 3, 1) := by decide +kernel
theorem dX4_sameEnds_55 : decode cX4_sameEnds 55 = .ok (.ireturn, 1) := by decide +kernel
set_option maxRecDepth 20000 in
theorem ggX4_sameFromEnd_X4_many : GoodIn wsX4_sameFromEnd wsX4_many := goodIn_r _ [6, 1, 7, 8, 5, 9, 13, 14, 15, 16, 17, 18, 19] (by decide +kernel) (by decide +kernel)
set_option maxRecDepth 20000 in
theorem gX4_sameFromEnd_X4_many : GoodIn wsX4_sameFromEnd (wsV RX4 49 RX4 yX4_many wsX4_many) := goodIn_app (goodIn_of _ (by decide +kernel)) ggX4_sameFromEnd_X4_many
set_option maxRecDepth 20000 in
theorem ggX4_sameFromEnd_X4_at : GoodIn wsX4_sameFromEnd wsX4_at := goodIn_r _ [12, 7, 8, 5, 9] (by decide +kernel) (by decide +kernel)
set_option maxRecDepth 20000 in
theorem gX4_sameFromEnd_X4_at : GoodIn wsX4_sameFromEnd (va_wsS RX4 52 yX4_at wsX4_at) := goodIn_app (goodIn_of _ (by decide +kernel)) ggX4_sameFromEnd_X4_at
theorem dX4_sameFromEnd_0 : decode cX4_sameFromEnd 0 = .ok (.iload_n 1, 1) := by decide +kernel
theorem dX4_sameFromEnd_1 : decode cX4_sameFromEnd 1 = .ok (.aload_n 0, 1) := by decide +kernel
theorem dX4_sameFromEnd_2 : decode cX4_sameFromEnd 2 = .ok (.iload_n 1, 1) := by decide +kernel
theorem dX4_sameFromEnd_3 : decode cX4_sameFromEnd 3 = .ok (.invokevirtual 49, 3) := by decide +kernel
theorem dX4_sameFromEnd_6 : decode cX4_sameFromEnd 6 = .ok (.iload_n 3, 1) := by decide +kernel
theorem dX4_sameFromEnd_7 : decode cX4_sameFromEnd 7 = .ok (.isub, 1) := by decide +kernel
theorem dX4_sameFromEnd_8 : decode cX4_sameFromEnd 8 = .ok (.invokestatic 52, 3) := by decide +kernel
theorem dX4_sameFromEnd_11 : decode cX4_sameFromEnd 11 = .ok (.istore 4, 2) := by decide +kernel
theorem dX4_sameFromEnd_13 : decode cX4_sameFromEnd 13 = .ok (.iload_n 2, 1) := by decide +kernel
theorem dX4_sameFromEnd_14 : decode cX4_sameFromEnd 14 = .ok (.aload_n 0, 1) := by decide +kernel
theorem dX4_sameFromEnd_15 : decode cX4_sameFromEnd 15 = .ok (.iload_n 2, 1) := by decide +kernel
theorem dX4_sameFromEnd_16 : decode cX4_sameFromEnd 16 = .ok (.invokevirtual 49, 3) := by decide +kernel
theorem dX4_sameFromEnd_19 : decode cX4_sameFromEnd 19 = .ok (.iload_n 3, 1) := by decide +kernel
theorem dX4_sameFromEnd_20 : decode cX4_sameFromEnd 20 = .ok (.isub, 1) := by decide +kernel
theorem dX4_sameFromEnd_21 : decode cX4_sameFromEnd 21 = .ok (.invokestatic 52, 3) := by decide +kernel
theorem dX4_sameFromEnd_24 : decode cX4_sameFromEnd 24 = .ok (.istore 5, 2) := by decide +kernel
theorem dX4_sameFromEnd_26 : decode cX4_sameFromEnd 26 = .ok (.iconst 1, 1) := by decide +kernel
theorem dX4_sameFromEnd_27 : decode cX4_sameFromEnd 27 = .ok (.istore 6, 2) := by decide +kernel
theorem dX4_sameFromEnd_29 : decode cX4_sameFromEnd 29 = .ok (.iconst 0, 1) := by decide +kernel
theorem dX4_sameFromEnd_30 : decode cX4_sameFromEnd 30 = .ok (.istore 7, 2) := by decide +kernel
theorem dX4_sameFromEnd_32 : decode cX4_sameFromEnd 32 = .ok (.iload 7, 2) := by decide +kernel
theorem dX4_sameFromEnd_34 : decode cX4_sameFromEnd 34 = .ok (.iconst 4, 1) := by decide +kernel
theorem dX4_sameFromEnd_35 : decode cX4_sameFromEnd 35 = .ok (.if_icmp .ge 44, 3) := by decide +kernel
theorem dX4_sameFromEnd_38 : decode cX4_sameFromEnd 38 = .ok (.iload 6, 2) := by decide +kernel
theorem dX4_sameFromEnd_40 : decode cX4_sameFromEnd 40 = .ok (.ifCond .eq 30, 3) := by decide +kernel
theorem dX4_sameFromEnd_43 : decode cX4_sameFromEnd 43 = .ok (.aload_n 0, 1) := by decide +kernel
theorem dX4_sameFromEnd_44 : decode cX4_sameFromEnd 44 = .ok (.getfield 7, 3) := by decide +kernel
theorem dX4_sameFromEnd_47 : decode cX4_sameFromEnd 47 = .ok (.iload 4, 2) := by decide +kernel
theorem dX4_sameFromEnd_49 : decode cX4_sameFromEnd 49 = .ok (.iload 7, 2) := by decide +kernel
theorem dX4_sameFromEnd_51 : decode cX4_sameFromEnd 51 = .ok (.iadd, 1) := by decide +kernel
theorem dX4_sameFromEnd_52 : decode cX4_sameFromEnd 52 = .ok (.iaload, 1) := by decide +kernel
theorem dX4_sameFromEnd_53 : decode cX4_sameFromEnd 53 = .ok (.aload_n 0, 1) := by decide +kernel
theorem dX4_sameFromEnd_54 : decode cX4_sameFromEnd 54 = .ok (.getfield 7, 3) := by decide +kernel
theorem dX4_sameFromEnd_57 : decode cX4_sameFromEnd 57 = .ok (.iload 5, 2) := by decide +kernel
theorem dX4_sameFromEnd_59 : decode cX4_sameFromEnd 59 = .ok (.iload 7, 2) := by decide +kernel
theorem dX4_sameFromEnd_61 : decode cX4_sameFromEnd 61 = .ok (.iadd, 1) := by decide +kernel
theorem dX4_sameFromEnd_62 : decode cX4_sameFromEnd 62 = .ok (.iaload, 1) := by decide +kernel
theorem dX4_sameFromEnd_63 : decode cX4_sameFromEnd 63 = .ok (.if_icmp .ne 7, 3) := by decide +kernel
theorem dX4_sameFromEnd_66 : decode cX4_sameFromEnd 66 = .ok (.iconst 1, 1) := by decide +kernel
theorem dX4_sameFromEnd_67 : decode cX4_sameFromEnd 67 = .ok (.goto 4, 3) := by decide +kernel
theorem dX4_sameFromEnd_70 : decode cX4_sameFromEnd 70 = .ok (.iconst 0, 1) := by decide +kernel
theorem dX4_sameFromEnd_71 : decode cX4_sameFromEnd 71 = .ok (.istore 6, 2) := by decide +kernel
theorem dX4_sameFromEnd_73 : decode cX4_sameFromEnd 73 = .ok (.iinc 7 1, 3) := by decide +kernel
theorem dX4_sameFromEnd_76 : decode cX4_sameFromEnd 76 = .ok (.goto (-44), 3) := by decide +kernel
theorem dX4_sameFromEnd_79 : decode cX4_sameFromEnd 79 = .ok (.iload 6, 2) := by decide +kernel
theorem dX4_sameFromEnd_81 : decode cX4_sameFromEnd 81 = .ok (.ireturn, 1) := by decide +kernel
set_option maxRecDepth 20000 in
theorem ggX4_tailOfTwo_X4_sameEnds : GoodIn wsX4_tailOfTwo wsX4_sameEnds := goodIn_r _ [5, 6, 7, 8, 4, 9, 10, 11, 12, 24, 25, 26, 27, 28, 29, 30] (by decide +kernel) (by decide +kernel)
set_option maxRecDepth 20000 in
theorem gX4_tailOfTwo_X4_sameEnds : GoodIn wsX4_tailOfTwo (wsV RX4 72 RX4 yX4_sameEnds wsX4_sameEnds) := goodIn_app (goodIn_of _ (by decide +kernel)) ggX4_tailOfTwo_X4_sameEnds
set_option maxRecDepth 20000 in
theorem ggX4_tailOfTwo_X4_many : GoodIn wsX4_tailOfTwo wsX4_many := goodIn_r _ [16, 6, 10, 11, 4, 12, 24, 25, 26, 27, 28, 29, 30] (by decide +kernel) (by decide +kernel)
set_option maxRecDepth 20000 in
theorem gX4_tailOfTwo_X4_many : GoodIn wsX4_tailOfTwo (wsV RX4 49 RX4 yX4_many wsX4_many) := goodIn_app (goodIn_of _ (by decide +kernel)) ggX4_tailOfTwo_X4_many
set_option maxRecDepth 20000 in
theorem ggX4_tailOfTwo_X4_sameFromEnd : GoodIn wsX4_tailOfTwo wsX4_sameFromEnd := goodIn_r _ [20, 6, 13, 14, 15, 4, 16, 10, 11, 12, 21, 22, 23, 24, 25, 26, 27, 28, 29, 30] (by decide +kernel) (by decide +kernel)
set_option maxRecDepth 20000 in
theorem gX4_tailOfTwo_X4_sameFromEnd : GoodIn wsX4_tailOfTwo (wsV RX4 76 RX4 yX4_sameFromEnd wsX4_sameFromEnd) := goodIn_app (goodIn_of _ (by decide +kernel)) ggX4_tailOfTwo_X4_sameFromEnd
theorem dX4_tailOfTwo_0 : decode cX4_tailOfTwo 0 = .ok (.aload_n 0, 1) := by decide +kernel
theorem dX4_tailOfTwo_1 : decode cX4_tailOfTwo 1 = .ok (.iload_n 1, 1) := by decide +kernel
theorem dX4_tailOfTwo_2 : decode cX4_tailOfTwo 2 = .ok (.iload_n 2, 1) := by decide +kernel
theorem dX4_tailOfTwo_3 : decode cX4_tailOfTwo 3 = .ok (.invokevirtual 72, 3) := by decide +kernel
theorem dX4_tailOfTwo_6 : decode cX4_tailOfTwo 6 = .ok (.ifCond .ne 7, 3) := by decide +kernel
theorem dX4_tailOfTwo_9 : decode cX4_tailOfTwo 9 = .ok (.sipush (-1005), 3) := by decide +kernel
theorem dX4_tailOfTwo_12 : decode cX4_tailOfTwo 12 = .ok (.ireturn, 1) := by decide +kernel
theorem dX4_tailOfTwo_13 : decode cX4_tailOfTwo 13 = .ok (.iconst 0, 1) := by decide +kernel
theorem dX4_tailOfTwo_14 : decode cX4_tailOfTwo 14 = .ok (.istore_n 3, 1) := by decide +kernel
theorem dX4_tailOfTwo_15 : decode cX4_tailOfTwo 15 = .ok (.iload_n 3, 1) := by decide +kernel
theorem dX4_tailOfTwo_16 : decode cX4_tailOfTwo 16 = .ok (.aload_n 0, 1) := by decide +kernel
theorem dX4_tailOfTwo_17 : decode cX4_tailOfTwo 17 = .ok (.iload_n 1, 1) := by decide +kernel
theorem dX4_tailOfTwo_18 : decode cX4_tailOfTwo 18 = .ok (.invokevirtual 49, 3) := by decide +kernel
theorem dX4_tailOfTwo_21 : decode cX4_tailOfTwo 21 = .ok (.if_icmp .ge 30, 3) := by decide +kernel
theorem dX4_tailOfTwo_24 : decode cX4_tailOfTwo 24 = .ok (.iload_n 3, 1) := by decide +kernel
theorem dX4_tailOfTwo_25 : decode cX4_tailOfTwo 25 = .ok (.aload_n 0, 1) := by decide +kernel
theorem dX4_tailOfTwo_26 : decode cX4_tailOfTwo 26 = .ok (.iload_n 2, 1) := by decide +kernel
theorem dX4_tailOfTwo_27 : decode cX4_tailOfTwo 27 = .ok (.invokevirtual 49, 3) := by decide +kernel
theorem dX4_tailOfTwo_30 : decode cX4_tailOfTwo 30 = .ok (.if_icmp .ge 21, 3) := by decide +kernel
theorem dX4_tailOfTwo_33 : decode cX4_tailOfTwo 33 = .ok (.aload_n 0, 1) := by decide +kernel
theorem dX4_tailOfTwo_34 : decode cX4_tailOfTwo 34 = .ok (.iload_n 1, 1) := by decide +kernel
theorem dX4_tailOfTwo_35 : decode cX4_tailOfTwo 35 = .ok (.iload_n 2, 1) := by decide +kernel
theorem dX4_tailOfTwo_36 : decode cX4_tailOfTwo 36 = .ok (.iload_n 3, 1) := by decide +kernel
theorem dX4_tailOfTwo_37 : decode cX4_tailOfTwo 37 = .ok (.iconst 1, 1) := by decide +kernel
theorem dX4_tailOfTwo_38 : decode cX4_tailOfTwo 38 = .ok (.iadd, 1) := by decide +kernel
theorem dX4_tailOfTwo_39 : decode cX4_tailOfTwo 39 = .ok (.invokevirtual 76, 3) := by decide +kernel
theorem dX4_tailOfTwo_42 : decode cX4_tailOfTwo 42 = .ok (.ifCond .eq 9, 3) := by decide +kernel
theorem dX4_tailOfTwo_45 : decode cX4_tailOfTwo 45 = .ok (.iinc 3 1, 3) := by decide +kernel
theorem dX4_tailOfTwo_48 : decode cX4_tailOfTwo 48 = .ok (.goto (-33), 3) := by decide +kernel
theorem dX4_tailOfTwo_51 : decode cX4_tailOfTwo 51 = .ok (.iload_n 3, 1) := by decide +kernel
theorem dX4_tailOfTwo_52 : decode cX4_tailOfTwo 52 = .ok (.ireturn, 1) := by decide +kernel
set_option maxRecDepth 20000 in
theorem ggX4_wrongPair_X4_isBlock : GoodIn wsX4_wrongPair wsX4_isBlock := goodIn_r _ [5, 6, 7, 8, 4, 9, 10, 11, 12, 13, 14, 15, 16] (by decide +kernel) (by decide +kernel)
set_option maxRecDepth 20000 in
theorem gX4_wrongPair_X4_isBlock : GoodIn wsX4_wrongPair (wsV RX4 56 RX4 yX4_isBlock wsX4_isBlock) := goodIn_app (goodIn_of _ (by decide +kernel)) ggX4_wrongPair_X4_isBlock
theorem dX4_wrongPair_0 : decode cX4_wrongPair 0 = .ok (.aload_n 0, 1) := by decide +kernel
theorem dX4_wrongPair_1 : decode cX4_wrongPair 1 = .ok (.iload_n 1, 1) := by decide +kernel
theorem dX4_wrongPair_2 : decode cX4_wrongPair 2 = .ok (.invokevirtual 56, 3) := by decide +kernel
theorem dX4_wrongPair_5 : decode cX4_wrongPair 5 = .ok (.ifCond .eq 11, 3) := by decide +kernel
theorem dX4_wrongPair_8 : decode cX4_wrongPair 8 = .ok (.aload_n 0, 1) := by decide +kernel
theorem dX4_wrongPair_9 : decode cX4_wrongPair 9 = .ok (.iload_n 2, 1) := by decide +kernel
theorem dX4_wrongPair_10 : decode cX4_wrongPair 10 = .ok (.invokevirtual 56, 3) := by decide +kernel
theorem dX4_wrongPair_13 : decode cX4_wrongPair 13 = .ok (.ifCond .ne 9, 3) := by decide +kernel
theorem dX4_wrongPair_16 : decode cX4_wrongPair 16 = .ok (.sipush (-1001), 3) := by decide +kernel
theorem dX4_wrongPair_19 : decode cX4_wrongPair 19 = .ok (.goto 15, 3) := by decide +kernel
theorem dX4_wrongPair_22 : decode cX4_wrongPair 22 = .ok (.iload_n 1, 1) := by decide +kernel
theorem dX4_wrongPair_23 : decode cX4_wrongPair 23 = .ok (.iload_n 2, 1) := by decide +kernel
theorem dX4_wrongPair_24 : decode cX4_wrongPair 24 = .ok (.if_icmp .ne 9, 3) := by decide +kernel
theorem dX4_wrongPair_27 : decode cX4_wrongPair 27 = .ok (.sipush (-1003), 3) := by decide +kernel
theorem dX4_wrongPair_30 : decode cX4_wrongPair 30 = .ok (.goto 4, 3) := by decide +kernel
theorem dX4_wrongPair_33 : decode cX4_wrongPair 33 = .ok (.iconst 0, 1) := by decide +kernel
theorem dX4_wrongPair_34 : decode cX4_wrongPair 34 = .ok (.ireturn, 1) := by decide +kernel
set_option maxRecDepth 20000 in
theorem ggX4_commonTail_X4_wrongPair : GoodIn wsX4_commonTail wsX4_wrongPair := goodIn_r _ [5, 6, 7, 8, 4, 9, 10, 11, 12, 13, 39, 40, 41, 42, 43, 44, 45] (by decide +kernel) (by decide +kernel)
set_option maxRecDepth 20000 in
theorem gX4_commonTail_X4_wrongPair : GoodIn wsX4_commonTail (wsV RX4 79 RX4 yX4_wrongPair wsX4_wrongPair) := goodIn_app (goodIn_of _ (by decide +kernel)) ggX4_commonTail_X4_wrongPair
set_option maxRecDepth 20000 in
theorem ggX4_commonTail_X4_tailOfTwo : GoodIn wsX4_commonTail wsX4_tailOfTwo := goodIn_r _ [17, 18, 19, 20, 4, 21, 10, 22, 23, 24, 25, 26, 27, 28, 29, 30, 31, 32, 33, 34, 35, 36, 37, 38, 39, 40, 41, 42, 43, 44, 45] (by decide +kernel) (by decide +kernel)
set_option maxRecDepth 20000 in
theorem gX4_commonTail_X4_tailOfTwo : GoodIn wsX4_commonTail (wsV RX4 82 RX4 yX4_tailOfTwo wsX4_tailOfTwo) := goodIn_app (goodIn_of _ (by decide +kernel)) ggX4_commonTail_X4_tailOfTwo
theorem dX4_commonTail_0 : decode cX4_commonTail 0 = .ok (.aload_n 0, 1) := by decide +kernel
theorem dX4_commonTail_1 : decode cX4_commonTail 1 = .ok (.iload_n 1, 1) := by decide +kernel
theorem dX4_commonTail_2 : decode cX4_commonTail 2 = .ok (.iload_n 2, 1) := by decide +kernel
theorem dX4_commonTail_3 : decode cX4_commonTail 3 = .ok (.invokevirtual 79, 3) := by decide +kernel
theorem dX4_commonTail_6 : decode cX4_commonTail 6 = .ok (.istore_n 3, 1) := by decide +kernel
theorem dX4_commonTail_7 : decode cX4_commonTail 7 = .ok (.iload_n 3, 1) := by decide +kernel
theorem dX4_commonTail_8 : decode cX4_commonTail 8 = .ok (.ifCond .eq 7, 3) := by decide +kernel
theorem dX4_commonTail_11 : decode cX4_commonTail 11 = .ok (.iload_n 3, 1) := by decide +kernel
theorem dX4_commonTail_12 : decode cX4_commonTail 12 = .ok (.goto 9, 3) := by decide +kernel
theorem dX4_commonTail_15 : decode cX4_commonTail 15 = .ok (.aload_n 0, 1) := by decide +kernel
theorem dX4_commonTail_16 : decode cX4_commonTail 16 = .ok (.iload_n 1, 1) := by decide +kernel
theorem dX4_commonTail_17 : decode cX4_commonTail 17 = .ok (.iload_n 2, 1) := by decide +kernel
theorem dX4_commonTail_18 : decode cX4_commonTail 18 = .ok (.invokevirtual 82, 3) := by decide +kernel
theorem dX4_commonTail_21 : decode cX4_commonTail 21 = .ok (.ireturn, 1) := by decide +kernel
set_option maxRecDepth 20000 in
theorem ggX4_uses7_X4_many : GoodIn wsX4_uses7 wsX4_many := goodIn_r _ [6, 1, 7, 8, 5, 9, 13, 14, 15, 16, 17, 18, 19] (by decide +kernel) (by decide +kernel)
set_option maxRecDepth 20000 in
theorem gX4_uses7_X4_many : GoodIn wsX4_uses7 (wsV RX4 49 RX4 yX4_many wsX4_many) := goodIn_app (goodIn_of _ (by decide +kernel)) ggX4_uses7_X4_many
set_option maxRecDepth 20000 in
theorem ggX4_uses7_X4_at : GoodIn wsX4_uses7 wsX4_at := goodIn_r _ [12, 7, 8, 5, 9] (by decide +kernel) (by decide +kernel)
set_option maxRecDepth 20000 in
theorem gX4_uses7_X4_at : GoodIn wsX4_uses7 (va_wsS RX4 52 yX4_at wsX4_at) := goodIn_app (goodIn_of _ (by decide +kernel)) ggX4_uses7_X4_at
theorem dX4_uses7_0 : decode cX4_uses7 0 = .ok (.iload_n 1, 1) := by decide +kernel
theorem dX4_uses7_1 : decode cX4_uses7 1 = .ok (.aload_n 0, 1) := by decide +kernel
theorem dX4_uses7_2 : decode cX4_uses7 2 = .ok (.iload_n 1, 1) := by decide +kernel
theorem dX4_uses7_3 : decode cX4_uses7 3 = .ok (.invokevirtual 49, 3) := by decide +kernel
theorem dX4_uses7_6 : decode cX4_uses7 6 = .ok (.iload_n 2, 1) := by decide +kernel
theorem dX4_uses7_7 : decode cX4_uses7 7 = .ok (.isub, 1) := by decide +kernel
theorem dX4_uses7_8 : decode cX4_uses7 8 = .ok (.invokestatic 52, 3) := by decide +kernel
theorem dX4_uses7_11 : decode cX4_uses7 11 = .ok (.istore_n 3, 1) := by decide +kernel
theorem dX4_uses7_12 : decode cX4_uses7 12 = .ok (.aload_n 0, 1) := by decide +kernel
theorem dX4_uses7_13 : decode cX4_uses7 13 = .ok (.getfield 7, 3) := by decide +kernel
theorem dX4_uses7_16 : decode cX4_uses7 16 = .ok (.iload_n 3, 1) := by decide +kernel
theorem dX4_uses7_17 : decode cX4_uses7 17 = .ok (.iaload, 1) := by decide +kernel
theorem dX4_uses7_18 : decode cX4_uses7 18 = .ok (.istore 4, 2) := by decide +kernel
theorem dX4_uses7_20 : decode cX4_uses7 20 = .ok (.iload 4, 2) := by decide +kernel
theorem dX4_uses7_22 : decode cX4_uses7 22 = .ok (.bipush 6, 2) := by decide +kernel
theorem dX4_uses7_24 : decode cX4_uses7 24 = .ok (.if_icmp .eq 20, 3) := by decide +kernel
theorem dX4_uses7_27 : decode cX4_uses7 27 = .ok (.aload_n 0, 1) := by decide +kernel
theorem dX4_uses7_28 : decode cX4_uses7 28 = .ok (.getfield 7, 3) := by decide +kernel
theorem dX4_uses7_31 : decode cX4_uses7 31 = .ok (.iload_n 3, 1) := by decide +kernel
theorem dX4_uses7_32 : decode cX4_uses7 32 = .ok (.iconst 1, 1) := by decide +kernel
theorem dX4_uses7_33 : decode cX4_uses7 33 = .ok (.iadd, 1) := by decide +kernel
theorem dX4_uses7_34 : decode cX4_uses7 34 = .ok (.iaload, 1) := by decide +kernel
theorem dX4_uses7_35 : decode cX4_uses7 35 = .ok (.bipush 7, 2) := by decide +kernel
theorem dX4_uses7_37 : decode cX4_uses7 37 = .ok (.if_icmp .ne 7, 3) := by decide +kernel
theorem dX4_uses7_40 : decode cX4_uses7 40 = .ok (.iconst 1, 1) := by decide +kernel
theorem dX4_uses7_41 : decode cX4_uses7 41 = .ok (.goto 4, 3) := by decide +kernel
theorem dX4_uses7_44 : decode cX4_uses7 44 = .ok (.iconst 0, 1) := by decide +kernel
theorem dX4_uses7_45 : decode cX4_uses7 45 = .ok (.istore 5, 2) := by decide +kernel
theorem dX4_uses7_47 : decode cX4_uses7 47 = .ok (.iload 4, 2) := by decide +kernel
theorem dX4_uses7_49 : decode cX4_uses7 49 = .ok (.ifCond .eq 20, 3) := by decide +kernel
theorem dX4_uses7_52 : decode cX4_uses7 52 = .ok (.aload_n 0, 1) := by decide +kernel
theorem dX4_uses7_53 : decode cX4_uses7 53 = .ok (.getfield 7, 3) := by decide +kernel
theorem dX4_uses7_56 : decode cX4_uses7 56 = .ok (.iload_n 3, 1) := by decide +kernel
theorem dX4_uses7_57 : decode cX4_uses7 57 = .ok (.iconst 2, 1) := by decide +kernel
theorem dX4_uses7_58 : decode cX4_uses7 58 = .ok (.iadd, 1) := by decide +kernel
theorem dX4_uses7_59 : decode cX4_uses7 59 = .ok (.iaload, 1) := by decide +kernel
theorem dX4_uses7_60 : decode cX4_uses7 60 = .ok (.bipush 7, 2) := by decide +kernel
theorem dX4_uses7_62 : decode cX4_uses7 62 = .ok (.if_icmp .ne 7, 3) := by decide +kernel
theorem dX4_uses7_65 : decode cX4_uses7 65 = .ok (.iconst 1, 1) := by decide +kernel
theorem dX4_uses7_66 : decode cX4_uses7 66 = .ok (.goto 4, 3) := by decide +kernel
theorem dX4_uses7_69 : decode cX4_uses7 69 = .ok (.iconst 0, 1) := by decide +kernel
theorem dX4_uses7_70 : decode cX4_uses7 70 = .ok (.istore 6, 2) := by decide +kernel
theorem dX4_uses7_72 : decode cX4_uses7 72 = .ok (.iload 4, 2) := by decide +kernel
theorem dX4_uses7_74 : decode cX4_uses7 74 = .ok (.iconst 2, 1) := by decide +kernel
theorem dX4_uses7_75 : decode cX4_uses7 75 = .ok (.if_icmp .lt 26, 3) := by decide +kernel
theorem dX4_uses7_78 : decode cX4_uses7 78 = .ok (.iload 4, 2) := by decide +kernel
theorem dX4_uses7_80 : decode cX4_uses7 80 = .ok (.iconst 5, 1) := by decide +kernel
theorem dX4_uses7_81 : decode cX4_uses7 81 = .ok (.if_icmp .gt 20, 3) := by decide +kernel
theorem dX4_uses7_84 : decode cX4_uses7 84 = .ok (.aload_n 0, 1) := by decide +kernel
theorem dX4_uses7_85 : decode cX4_uses7 85 = .ok (.getfield 7, 3) := by decide +kernel
theorem dX4_uses7_88 : decode cX4_uses7 88 = .ok (.iload_n 3, 1) := by decide +kernel
theorem dX4_uses7_89 : decode cX4_uses7 89 = .ok (.iconst 3, 1) := by decide +kernel
theorem dX4_uses7_90 : decode cX4_uses7 90 = .ok (.iadd, 1) := by decide +kernel
theorem dX4_uses7_91 : decode cX4_uses7 91 = .ok (.iaload, 1) := by decide +kernel
theorem dX4_uses7_92 : decode cX4_uses7 92 = .ok (.bipush 7, 2) := by decide +kernel
theorem dX4_uses7_94 : decode cX4_uses7 94 = .ok (.if_icmp .ne 7, 3) := by decide +kernel
theorem dX4_uses7_97 : decode cX4_uses7 97 = .ok (.iconst 1, 1) := by decide +kernel
theorem dX4_uses7_98 : decode cX4_uses7 98 = .ok (.goto 4, 3) := by decide +kernel
theorem dX4_uses7_101 : decode cX4_uses7 101 = .ok (.iconst 0, 1) := by decide +kernel
theorem dX4_uses7_102 : decode cX4_uses7 102 = .ok (.istore 7, 2) := by decide +kernel
theorem dX4_uses7_104 : decode cX4_uses7 104 = .ok (.iload 5, 2) := by decide +kernel
theorem dX4_uses7_106 : decode cX4_uses7 106 = .ok (.ifCond .ne 13, 3) := by decide +kernel
theorem dX4_uses7_109 : decode cX4_uses7 109 = .ok (.iload 6, 2) := by decide +kernel
theorem dX4_uses7_111 : decode cX4_uses7 111 = .ok (.ifCond .ne 8, 3) := by decide +kernel
theorem dX4_uses7_114 : decode cX4_uses7 114 = .ok (.iload 7, 2) := by decide +kernel
theorem dX4_uses7_116 : decode cX4_uses7 116 = .ok (.ifCond .eq 7, 3) := by decide +kernel
theorem dX4_uses7_119 : decode cX4_uses7 119 = .ok (.iconst 1, 1) := by decide +kernel
theorem dX4_uses7_120 : decode cX4_uses7 120 = .ok (.goto 4, 3) := by decide +kernel
theorem dX4_uses7_123 : decode cX4_uses7 123 = .ok (.iconst 0, 1) := by decide +kernel
theorem dX4_uses7_124 : decode cX4_uses7 124 = .ok (.ireturn, 1) := by decide +kernel
set_option maxRecDepth 20000 in
theorem ggX4_canDiffer_X4_many : GoodIn wsX4_canDiffer wsX4_many := goodIn_r _ [6, 1, 7, 8, 5, 9, 13, 14, 15, 16, 17, 18, 19] (by decide +kernel) (by decide +kernel)
set_option maxRecDepth 20000 in
theorem gX4_canDiffer_X4_many : GoodIn wsX4_canDiffer (wsV RX4 49 RX4 yX4_many wsX4_many) := goodIn_app (goodIn_of _ (by decide +kernel)) ggX4_canDiffer_X4_many
set_option maxRecDepth 20000 in
theorem ggX4_canDiffer_X4_at : GoodIn wsX4_canDiffer wsX4_at := goodIn_r _ [12, 7, 8, 5, 9] (by decide +kernel) (by decide +kernel)
set_option maxRecDepth 20000 in
theorem gX4_canDiffer_X4_at : GoodIn wsX4_canDiffer (va_wsS RX4 52 yX4_at wsX4_at) := goodIn_app (goodIn_of _ (by decide +kernel)) ggX4_canDiffer_X4_at
theorem dX4_canDiffer_0 : decode cX4_canDiffer 0 = .ok (.iload_n 1, 1) := by decide +kernel
theorem dX4_canDiffer_1 : decode cX4_canDiffer 1 = .ok (.aload_n 0, 1) := by decide +kernel
theorem dX4_canDiffer_2 : decode cX4_canDiffer 2 = .ok (.iload_n 1, 1) := by decide +kernel
theorem dX4_canDiffer_3 : decode cX4_canDiffer 3 = .ok (.invokevirtual 49, 3) := by decide +kernel
theorem dX4_canDiffer_6 : decode cX4_canDiffer 6 = .ok (.iload_n 3, 1) := by decide +kernel
theorem dX4_canDiffer_7 : decode cX4_canDiffer 7 = .ok (.isub, 1) := by decide +kernel
theorem dX4_canDiffer_8 : decode cX4_canDiffer 8 = .ok (.invokestatic 52, 3) := by decide +kernel
theorem dX4_canDiffer_11 : decode cX4_canDiffer 11 = .ok (.istore 4, 2) := by decide +kernel
theorem dX4_canDiffer_13 : decode cX4_canDiffer 13 = .ok (.iload_n 2, 1) := by decide +kernel
theorem dX4_canDiffer_14 : decode cX4_canDiffer 14 = .ok (.aload_n 0, 1) := by decide +kernel
theorem dX4_canDiffer_15 : decode cX4_canDiffer 15 = .ok (.iload_n 2, 1) := by decide +kernel
theorem dX4_canDiffer_16 : decode cX4_canDiffer 16 = .ok (.invokevirtual 49, 3) := by decide +kernel
theorem dX4_canDiffer_19 : decode cX4_canDiffer 19 = .ok (.iload_n 3, 1) := by decide +kernel
theorem dX4_canDiffer_20 : decode cX4_canDiffer 20 = .ok (.isub, 1) := by decide +kernel
theorem dX4_canDiffer_21 : decode cX4_canDiffer 21 = .ok (.invokestatic 52, 3) := by decide +kernel
theorem dX4_canDiffer_24 : decode cX4_canDiffer 24 = .ok (.istore 5, 2) := by decide +kernel
theorem dX4_canDiffer_26 : decode cX4_canDiffer 26 = .ok (.aload_n 0, 1) := by decide +kernel
theorem dX4_canDiffer_27 : decode cX4_canDiffer 27 = .ok (.getfield 7, 3) := by decide +kernel
theorem dX4_canDiffer_30 : decode cX4_canDiffer 30 = .ok (.iload 4, 2) := by decide +kernel
theorem dX4_canDiffer_32 : decode cX4_canDiffer 32 = .ok (.iaload, 1) := by decide +kernel
theorem dX4_canDiffer_33 : decode cX4_canDiffer 33 = .ok (.ifCond .ne 38, 3) := by decide +kernel
theorem dX4_canDiffer_36 : decode cX4_canDiffer 36 = .ok (.aload_n 0, 1) := by decide +kernel
theorem dX4_canDiffer_37 : decode cX4_canDiffer 37 = .ok (.getfield 7, 3) := by decide +kernel
theorem dX4_canDiffer_40 : decode cX4_canDiffer 40 = .ok (.iload 5, 2) := by decide +kernel
theorem dX4_canDiffer_42 : decode cX4_canDiffer 42 = .ok (.iaload, 1) := by decide +kernel
theorem dX4_canDiffer_43 : decode cX4_canDiffer 43 = .ok (.ifCond .ne 28, 3) := by decide +kernel
theorem dX4_canDiffer_46 : decode cX4_canDiffer 46 = .ok (.aload_n 0, 1) := by decide +kernel
theorem dX4_canDiffer_47 : decode cX4_canDiffer 47 = .ok (.getfield 7, 3) := by decide +kernel
theorem dX4_canDiffer_50 : decode cX4_canDiffer 50 = .ok (.iload 4, 2) := by decide +kernel
theorem dX4_canDiffer_52 : decode cX4_canDiffer 52 = .ok (.iconst 1, 1) := by decide +kernel
theorem dX4_canDiffer_53 : decode cX4_canDiffer 53 = .ok (.iadd, 1) := by decide +kernel
theorem dX4_canDiffer_54 : decode cX4_canDiffer 54 = .ok (.iaload, 1) := by decide +kernel
theorem dX4_canDiffer_55 : decode cX4_canDiffer 55 = .ok (.aload_n 0, 1) := by decide +kernel
theorem dX4_canDiffer_56 : decode cX4_canDiffer 56 = .ok (.getfield 7, 3) := by decide +kernel
theorem dX4_canDiffer_59 : decode cX4_canDiffer 59 = .ok (.iload 5, 2) := by decide +kernel
theorem dX4_canDiffer_61 : decode cX4_canDiffer 61 = .ok (.iconst 1, 1) := by decide +kernel
theorem dX4_canDiffer_62 : decode cX4_canDiffer 62 = .ok (.iadd, 1) := by decide +kernel
theorem dX4_canDiffer_63 : decode cX4_canDiffer 63 = .ok (.iaload, 1) := by decide +kernel
theorem dX4_canDiffer_64 : decode cX4_canDiffer 64 = .ok (.if_icmp .ne 7, 3) := by decide +kernel
theorem dX4_canDiffer_67 : decode cX4_canDiffer 67 = .ok (.iconst 1, 1) := by decide +kernel
theorem dX4_canDiffer_68 : decode cX4_canDiffer 68 = .ok (.goto 4, 3) := by decide +kernel
theorem dX4_canDiffer_71 : decode cX4_canDiffer 71 = .ok (.iconst 0, 1) := by decide +kernel
theorem dX4_canDiffer_72 : decode cX4_canDiffer 72 = .ok (.ireturn, 1) := by decide +kernel
set_option maxRecDepth 20000 in
theorem ggX4_parameterLength_X4_sameEnds : GoodIn wsX4_parameterLength wsX4_sameEnds := goodIn_r _ [7, 1, 8, 9, 6, 10, 11, 12, 13, 33, 34, 35, 36, 37, 38, 39] (by decide +kernel) (by decide +kernel)
set_option maxRecDepth 20000 in
theorem gX4_parameterLength_X4_sameEnds : GoodIn wsX4_parameterLength (wsV RX4 72 RX4 yX4_sameEnds wsX4_sameEnds) := goodIn_app (goodIn_of _ (by decide +kernel)) ggX4_parameterLength_X4_sameEnds
set_option maxRecDepth 20000 in
theorem ggX4_parameterLength_X4_end : GoodIn wsX4_parameterLength wsX4_end := goodIn_r _ [10, 11, 12, 6, 13] (by decide +kernel) (by decide +kernel)
set_option maxRecDepth 20000 in
theorem gX4_parameterLength_X4_end : GoodIn wsX4_parameterLength (va_wsS RX4 34 yX4_end wsX4_end) := goodIn_app (goodIn_of _ (by decide +kernel)) ggX4_parameterLength_X4_end
set_option maxRecDepth 20000 in
theorem ggX4_parameterLength_X4_many : GoodIn wsX4_parameterLength wsX4_many := goodIn_r _ [17, 1, 11, 12, 6, 13, 33, 34, 35, 36, 37, 38, 39] (by decide +kernel) (by decide +kernel)
set_option maxRecDepth 20000 in
theorem gX4_parameterLength_X4_many : GoodIn wsX4_parameterLength (wsV RX4 49 RX4 yX4_many wsX4_many) := goodIn_app (goodIn_of _ (by decide +kernel)) ggX4_parameterLength_X4_many
set_option maxRecDepth 20000 in
theorem ggX4_parameterLength_X4_uses7 : GoodIn wsX4_parameterLength wsX4_uses7 := goodIn_r _ [21, 1, 14, 15, 16, 6, 17, 11, 12, 13, 22, 23, 24, 33, 34, 35, 36, 37, 38, 39] (by decide +kernel) (by decide +kernel)
set_option maxRecDepth 20000 in
theorem gX4_parameterLength_X4_uses7 : GoodIn wsX4_parameterLength (wsV RX4 85 RX4 yX4_uses7 wsX4_uses7) := goodIn_app (goodIn_of _ (by decide +kernel)) ggX4_parameterLength_X4_uses7
set_option maxRecDepth 20000 in
theorem ggX4_parameterLength_X4_sameFromEnd : GoodIn wsX4_parameterLength wsX4_sameFromEnd := goodIn_r _ [28, 1, 14, 15, 16, 6, 17, 11, 12, 13, 22, 23, 24, 33, 34, 35, 36, 37, 38, 39] (by decide +kernel) (by decide +kernel)
set_option maxRecDepth 20000 in
theorem gX4_parameterLength_X4_sameFromEnd : GoodIn wsX4_parameterLength (wsV RX4 76 RX4 yX4_sameFromEnd wsX4_sameFromEnd) := goodIn_app (goodIn_of _ (by decide +kernel)) ggX4_parameterLength_X4_sameFromEnd
set_option maxRecDepth 20000 in
theorem ggX4_parameterLength_X4_canDiffer : GoodIn wsX4_parameterLength wsX4_canDiffer := goodIn_r _ [32, 1, 14, 15, 16, 6, 17, 11, 12, 13, 22, 23, 24, 33, 34, 35, 36, 37, 38, 39] (by decide +kernel) (by decide +kernel)
set_option maxRecDepth 20000 in
theorem gX4_parameterLength_X4_canDiffer : GoodIn wsX4_parameterLength (wsV RX4 92 RX4 yX4_canDiffer wsX4_canDiffer) := goodIn_app (goodIn_of _ (by decide +kernel)) ggX4_parameterLength_X4_canDiffer
theorem dX4_parameterLength_0 : decode cX4_parameterLength 0 = .ok (.aload_n 0, 1) := by decide +kernel
theorem dX4_parameterLength_1 : decode cX4_parameterLength 1 = .ok (.iload_n 1, 1) := by decide +kernel
theorem dX4_parameterLength_2 : decode cX4_parameterLength 2 = .ok (.iload_n 2, 1) := by decide +kernel
theorem dX4_parameterLength_3 : decode cX4_parameterLength 3 = .ok (.invokevirtual 72, 3) := by decide +kernel
theorem dX4_parameterLength_6 : decode cX4_parameterLength 6 = .ok (.ifCond .eq 16, 3) := by decide +kernel
theorem dX4_parameterLength_9 : decode cX4_parameterLength 9 = .ok (.aload_n 0, 1) := by decide +kernel
theorem dX4_parameterLength_10 : decode cX4_parameterLength 10 = .ok (.getfield 7, 3) := by decide +kernel
theorem dX4_parameterLength_13 : decode cX4_parameterLength 13 = .ok (.iload_n 1, 1) := by decide +kernel
theorem dX4_parameterLength_14 : decode cX4_parameterLength 14 = .ok (.invokestatic 34, 3) := by decide +kernel
theorem dX4_parameterLength_17 : decode cX4_parameterLength 17 = .ok (.iaload, 1) := by decide +kernel
theorem dX4_parameterLength_18 : decode cX4_parameterLength 18 = .ok (.iconst 2, 1) := by decide +kernel
theorem dX4_parameterLength_19 : decode cX4_parameterLength 19 = .ok (.if_icmp .eq 7, 3) := by decide +kernel
theorem dX4_parameterLength_22 : decode cX4_parameterLength 22 = .ok (.sipush (-1005), 3) := by decide +kernel
theorem dX4_parameterLength_25 : decode cX4_parameterLength 25 = .ok (.ireturn, 1) := by decide +kernel
theorem dX4_parameterLength_26 : decode cX4_parameterLength 26 = .ok (.sipush (-1005), 3) := by decide +kernel
theorem dX4_parameterLength_29 : decode cX4_parameterLength 29 = .ok (.istore_n 3, 1) := by decide +kernel
theorem dX4_parameterLength_30 : decode cX4_parameterLength 30 = .ok (.iconst 0, 1) := by decide +kernel
theorem dX4_parameterLength_31 : decode cX4_parameterLength 31 = .ok (.istore 4, 2) := by decide +kernel
theorem dX4_parameterLength_33 : decode cX4_parameterLength 33 = .ok (.iconst 1, 1) := by decide +kernel
theorem dX4_parameterLength_34 : decode cX4_parameterLength 34 = .ok (.istore 5, 2) := by decide +kernel
theorem dX4_parameterLength_36 : decode cX4_parameterLength 36 = .ok (.iconst 1, 1) := by decide +kernel
theorem dX4_parameterLength_37 : decode cX4_parameterLength 37 = .ok (.istore 6, 2) := by decide +kernel
theorem dX4_parameterLength_39 : decode cX4_parameterLength 39 = .ok (.iload 6, 2) := by decide +kernel
theorem dX4_parameterLength_41 : decode cX4_parameterLength 41 = .ok (.aload_n 0, 1) := by decide +kernel
theorem dX4_parameterLength_42 : decode cX4_parameterLength 42 = .ok (.iload_n 1, 1) := by decide +kernel
theorem dX4_parameterLength_43 : decode cX4_parameterLength 43 = .ok (.invokevirtual 49, 3) := by decide +kernel
theorem dX4_parameterLength_46 : decode cX4_parameterLength 46 = .ok (.if_icmp .gt 115, 3) := by decide +kernel
theorem dX4_parameterLength_49 : decode cX4_parameterLength 49 = .ok (.iload 6, 2) := by decide +kernel
theorem dX4_parameterLength_51 : decode cX4_parameterLength 51 = .ok (.aload_n 0, 1) := by decide +kernel
theorem dX4_parameterLength_52 : decode cX4_parameterLength 52 = .ok (.iload_n 2, 1) := by decide +kernel
theorem dX4_parameterLength_53 : decode cX4_parameterLength 53 = .ok (.invokevirtual 49, 3) := by decide +kernel
theorem dX4_parameterLength_56 : decode cX4_parameterLength 56 = .ok (.if_icmp .gt 105, 3) := by decide +kernel
theorem dX4_parameterLength_59 : decode cX4_parameterLength 59 = .ok (.iload 5, 2) := by decide +kernel
theorem dX4_parameterLength_61 : decode cX4_parameterLength 61 = .ok (.ifCond .eq 27, 3) := by decide +kernel
theorem dX4_parameterLength_64 : decode cX4_parameterLength 64 = .ok (.aload_n 0, 1) := by decide +kernel
theorem dX4_parameterLength_65 : decode cX4_parameterLength 65 = .ok (.iload_n 1, 1) := by decide +kernel
theorem dX4_parameterLength_66 : decode cX4_parameterLength 66 = .ok (.iload 6, 2) := by decide +kernel
theorem dX4_parameterLength_68 : decode cX4_parameterLength 68 = .ok (.invokevirtual 85, 3) := by decide +kernel
theorem dX4_parameterLength_71 : decode cX4_parameterLength 71 = .ok (.ifCond .ne 17, 3) := by decide +kernel
theorem dX4_parameterLength_74 : decode cX4_parameterLength 74 = .ok (.aload_n 0, 1) := by decide +kernel
theorem dX4_parameterLength_75 : decode cX4_parameterLength 75 = .ok (.iload_n 2, 1) := by decide +kernel
theorem dX4_parameterLength_76 : decode cX4_parameterLength 76 = .ok (.iload 6, 2) := by decide +kernel
theorem dX4_parameterLength_78 : decode cX4_parameterLength 78 = .ok (.invokevirtual 85, 3) := by decide +kernel
theorem dX4_parameterLength_81 : decode cX4_parameterLength 81 = .ok (.ifCond .ne 7, 3) := by decide +kernel
theorem dX4_parameterLength_84 : decode cX4_parameterLength 84 = .ok (.iconst 1, 1) := by decide +kernel
theorem dX4_parameterLength_85 : decode cX4_parameterLength 85 = .ok (.goto 4, 3) := by decide +kernel
theorem dX4_parameterLength_88 : decode cX4_parameterLength 88 = .ok (.iconst 0, 1) := by decide +kernel
theorem dX4_parameterLength_89 : decode cX4_parameterLength 89 = .ok (.istore 5, 2) := by decide +kernel
theorem dX4_parameterLength_91 : decode cX4_parameterLength 91 = .ok (.aload_n 0, 1) := by decide +kernel
theorem dX4_parameterLength_92 : decode cX4_parameterLength 92 = .ok (.iload_n 1, 1) := by decide +kernel
theorem dX4_parameterLength_93 : decode cX4_parameterLength 93 = .ok (.iload_n 2, 1) := by decide +kernel
theorem dX4_parameterLength_94 : decode cX4_parameterLength 94 = .ok (.iload 6, 2) := by decide +kernel
theorem dX4_parameterLength_96 : decode cX4_parameterLength 96 = .ok (.invokevirtual 76, 3) := by decide +kernel
theorem dX4_parameterLength_99 : decode cX4_parameterLength 99 = .ok (.ifCond .ne 25, 3) := by decide +kernel
theorem dX4_parameterLength_102 : decode cX4_parameterLength 102 = .ok (.iinc 4 1, 3) := by decide +kernel
theorem dX4_parameterLength_105 : decode cX4_parameterLength 105 = .ok (.aload_n 0, 1) := by decide +kernel
theorem dX4_parameterLength_106 : decode cX4_parameterLength 106 = .ok (.iload 4, 2) := by decide +kernel
theorem dX4_parameterLength_108 : decode cX4_parameterLength 108 = .ok (.iconst 1, 1) := by decide +kernel
theorem dX4_parameterLength_109 : decode cX4_parameterLength 109 = .ok (.if_icmp .ne 8, 3) := by decide +kernel
theorem dX4_parameterLength_112 : decode cX4_parameterLength 112 = .ok (.iload 6, 2) := by decide +kernel
theorem dX4_parameterLength_114 : decode cX4_parameterLength 114 = .ok (.goto 7, 3) := by decide +kernel
theorem dX4_parameterLength_117 : decode cX4_parameterLength 117 = .ok (.aload_n 0, 1) := by decide +kernel
theorem dX4_parameterLength_118 : decode cX4_parameterLength 118 = .ok (.getfield 88, 3) := by decide +kernel
theorem dX4_parameterLength_121 : decode cX4_parameterLength 121 = .ok (.putfield 88, 3) := by decide +kernel
theorem dX4_parameterLength_124 : decode cX4_parameterLength 124 = .ok (.iload 5, 2) := by decide +kernel
theorem dX4_parameterLength_126 : decode cX4_parameterLength 126 = .ok (.ifCond .eq 27, 3) := by decide +kernel
theorem dX4_parameterLength_129 : decode cX4_parameterLength 129 = .ok (.iload 4, 2) := by decide +kernel
theorem dX4_parameterLength_131 : decode cX4_parameterLength 131 = .ok (.iconst 1, 1) := by decide +kernel
theorem dX4_parameterLength_132 : decode cX4_parameterLength 132 = .ok (.if_icmp .ne 21, 3) := by decide +kernel
theorem dX4_parameterLength_135 : decode cX4_parameterLength 135 = .ok (.aload_n 0, 1) := by decide +kernel
theorem dX4_parameterLength_136 : decode cX4_parameterLength 136 = .ok (.iload_n 1, 1) := by decide +kernel
theorem dX4_parameterLength_137 : decode cX4_parameterLength 137 = .ok (.iload_n 2, 1) := by decide +kernel
theorem dX4_parameterLength_138 : decode cX4_parameterLength 138 = .ok (.aload_n 0, 1) := by decide +kernel
theorem dX4_parameterLength_139 : decode cX4_parameterLength 139 = .ok (.getfield 88, 3) := by decide +kernel
theorem dX4_parameterLength_142 : decode cX4_parameterLength 142 = .ok (.invokevirtual 92, 3) := by decide +kernel
theorem dX4_parameterLength_145 : decode cX4_parameterLength 145 = .ok (.ifCond .eq 8, 3) := by decide +kernel
theorem dX4_parameterLength_148 : decode cX4_parameterLength 148 = .ok (.iload 6, 2) := by decide +kernel
theorem dX4_parameterLength_150 : decode cX4_parameterLength 150 = .ok (.goto 4, 3) := by decide +kernel
theorem dX4_parameterLength_153 : decode cX4_parameterLength 153 = .ok (.iload_n 3, 1) := by decide +kernel
theorem dX4_parameterLength_154 : decode cX4_parameterLength 154 = .ok (.istore_n 3, 1) := by decide +kernel
theorem dX4_parameterLength_155 : decode cX4_parameterLength 155 = .ok (.iinc 6 1, 3) := by decide +kernel
theorem dX4_parameterLength_158 : decode cX4_parameterLength 158 = .ok (.goto (-119), 3) := by decide +kernel
theorem dX4_parameterLength_161 : decode cX4_parameterLength 161 = .ok (.iload_n 3, 1) := by decide +kernel
theorem dX4_parameterLength_162 : decode cX4_parameterLength 162 = .ok (.ireturn, 1) := by decide +kernel
set_option maxRecDepth 20000 in
theorem ggX4_parameterTail_X4_wrongPair : GoodIn wsX4_parameterTail wsX4_wrongPair := goodIn_r _ [5, 6, 7, 8, 4, 9, 10, 11, 12, 13, 48, 49, 50, 51, 52, 53, 54] (by decide +kernel) (by decide +kernel)
set_option maxRecDepth 20000 in
theorem gX4_parameterTail_X4_wrongPair : GoodIn wsX4_parameterTail (wsV RX4 79 RX4 yX4_wrongPair wsX4_wrongPair) := goodIn_app (goodIn_of _ (by decide +kernel)) ggX4_parameterTail_X4_wrongPair
set_option maxRecDepth 20000 in
theorem ggX4_parameterTail_X4_parameterLength : GoodIn wsX4_parameterTail wsX4_parameterLength := goodIn_r _ [17, 10, 18, 19, 20, 21, 4, 22, 23, 24, 25, 26, 27, 28, 29, 30, 31, 32, 33, 34, 35, 36, 37, 38, 39, 40, 41, 42, 43, 44, 45, 46, 47, 48, 49, 50, 51, 52, 53, 54] (by decide +kernel) (by decide +kernel)
set_option maxRecDepth 20000 in
theorem gX4_parameterTail_X4_parameterLength : GoodIn wsX4_parameterTail (wsV RX4 95 RX4 yX4_parameterLength wsX4_parameterLength) := goodIn_app (goodIn_of _ (by decide +kernel)) ggX4_parameterTail_X4_parameterLength
theorem dX4_parameterTail_0 : decode cX4_parameterTail 0 = .ok (.aload_n 0, 1) := by decide +kernel
theorem dX4_parameterTail_1 : decode cX4_parameterTail 1 = .ok (.iload_n 1, 1) := by decide +kernel
theorem dX4_parameterTail_2 : decode cX4_parameterTail 2 = .ok (.iload_n 2, 1) := by decide +kernel
theorem dX4_parameterTail_3 : decode cX4_parameterTail 3 = .ok (.invokevirtual 79, 3) := by decide +kernel
theorem dX4_parameterTail_6 : decode cX4_parameterTail 6 = .ok (.istore_n 3, 1) := by decide +kernel
theorem dX4_parameterTail_7 : decode cX4_parameterTail 7 = .ok (.iload_n 3, 1) := by decide +kernel
theorem dX4_parameterTail_8 : decode cX4_parameterTail 8 = .ok (.ifCond .eq 7, 3) := by decide +kernel
theorem dX4_parameterTail_11 : decode cX4_parameterTail 11 = .ok (.iload_n 3, 1) := by decide +kernel
theorem dX4_parameterTail_12 : decode cX4_parameterTail 12 = .ok (.goto 9, 3) := by decide +kernel
theorem dX4_parameterTail_15 : decode cX4_parameterTail 15 = .ok (.aload_n 0, 1) := by decide +kernel
theorem dX4_parameterTail_16 : decode cX4_parameterTail 16 = .ok (.iload_n 1, 1) := by decide +kernel
theorem dX4_parameterTail_17 : decode cX4_parameterTail 17 = .ok (.iload_n 2, 1) := by decide +kernel
theorem dX4_parameterTail_18 : decode cX4_parameterTail 18 = .ok (.invokevirtual 95, 3) := by decide +kernel
theorem dX4_parameterTail_21 : decode cX4_parameterTail 21 = .ok (.ireturn, 1) := by decide +kernel
set_option maxRecDepth 20000 in
theorem ggX4_setJumpCost_X4_in : GoodIn wsX4_setJumpCost wsX4_in := goodIn_r _ [5] (by decide +kernel) (by decide +kernel)
set_option maxRecDepth 20000 in
theorem gX4_setJumpCost_X4_in : GoodIn wsX4_setJumpCost (va_wsS RX4 26 yX4_in wsX4_in) := goodIn_app (goodIn_of _ (by decide +kernel)) ggX4_setJumpCost_X4_in
theorem dX4_setJumpCost_0 : decode cX4_setJumpCost 0 = .ok (.iload_n 1, 1) := by decide +kernel
theorem dX4_setJumpCost_1 : decode cX4_setJumpCost 1 = .ok (.iconst 0, 1) := by decide +kernel
theorem dX4_setJumpCost_2 : decode cX4_setJumpCost 2 = .ok (.iconst 5, 1) := by decide +kernel
theorem dX4_setJumpCost_3 : decode cX4_setJumpCost 3 = .ok (.invokestatic 26, 3) := by decide +kernel
theorem dX4_setJumpCost_6 : decode cX4_setJumpCost 6 = .ok (.ifCond .ne 7, 3) := by decide +kernel
theorem dX4_setJumpCost_9 : decode cX4_setJumpCost 9 = .ok (.sipush (-1003), 3) := by decide +kernel
theorem dX4_setJumpCost_12 : decode cX4_setJumpCost 12 = .ok (.ireturn, 1) := by decide +kernel
theorem dX4_setJumpCost_13 : decode cX4_setJumpCost 13 = .ok (.aload_n 0, 1) := by decide +kernel
theorem dX4_setJumpCost_14 : decode cX4_setJumpCost 14 = .ok (.getfield 7, 3) := by decide +kernel
theorem dX4_setJumpCost_17 : decode cX4_setJumpCost 17 = .ok (.iconst 1, 1) := by decide +kernel
theorem dX4_setJumpCost_18 : decode cX4_setJumpCost 18 = .ok (.iaload, 1) := by decide +kernel
theorem dX4_setJumpCost_19 : decode cX4_setJumpCost 19 = .ok (.istore_n 2, 1) := by decide +kernel
theorem dX4_setJumpCost_20 : decode cX4_setJumpCost 20 = .ok (.aload_n 0, 1) := by decide +kernel
theorem dX4_setJumpCost_21 : decode cX4_setJumpCost 21 = .ok (.getfield 7, 3) := by decide +kernel
theorem dX4_setJumpCost_24 : decode cX4_setJumpCost 24 = .ok (.iconst 1, 1) := by decide +kernel
theorem dX4_setJumpCost_25 : decode cX4_setJumpCost 25 = .ok (.iload_n 1, 1) := by decide +kernel
theorem dX4_setJumpCost_26 : decode cX4_setJumpCost 26 = .ok (.iastore, 1) := by decide +kernel
theorem dX4_setJumpCost_27 : decode cX4_setJumpCost 27 = .ok (.iload_n 2, 1) := by decide +kernel
theorem dX4_setJumpCost_28 : decode cX4_setJumpCost 28 = .ok (.ireturn, 1) := by decide +kernel
set_option maxRecDepth 20000 in
theorem ggX4_costOf_X4_end : GoodIn wsX4_costOf wsX4_end := goodIn_r _ [5, 6, 7, 4, 8] (by decide +kernel) (by decide +kernel)
set_option maxRecDepth 20000 in
theorem gX4_costOf_X4_end : GoodIn wsX4_costOf (va_wsS RX4 34 yX4_end wsX4_end) := goodIn_app (goodIn_of _ (by decide +kernel)) ggX4_costOf_X4_end
theorem dX4_costOf_0 : decode cX4_costOf 0 = .ok (.aload_n 0, 1) := by decide +kernel
theorem dX4_costOf_1 : decode cX4_costOf 1 = .ok (.getfield 7, 3) := by decide +kernel
theorem dX4_costOf_4 : decode cX4_costOf 4 = .ok (.iload_n 1, 1) := by decide +kernel
theorem dX4_costOf_5 : decode cX4_costOf 5 = .ok (.invokestatic 34, 3) := by decide +kernel
theorem dX4_costOf_8 : decode cX4_costOf 8 = .ok (.iaload, 1) := by decide +kernel
theorem dX4_costOf_9 : decode cX4_costOf 9 = .ok (.istore_n 2, 1) := by decide +kernel
theorem dX4_costOf_10 : decode cX4_costOf 10 = .ok (.iload_n 2, 1) := by decide +kernel
theorem dX4_costOf_11 : decode cX4_costOf 11 = .ok (.iconst 2, 1) := by decide +kernel
theorem dX4_costOf_12 : decode cX4_costOf 12 = .ok (.if_icmp .ne 7, 3) := by decide +kernel
theorem dX4_costOf_15 : decode cX4_costOf 15 = .ok (.iconst 1, 1) := by decide +kernel
theorem dX4_costOf_16 : decode cX4_costOf 16 = .ok (.goto 18, 3) := by decide +kernel
theorem dX4_costOf_19 : decode cX4_costOf 19 = .ok (.iload_n 2, 1) := by decide +kernel
theorem dX4_costOf_20 : decode cX4_costOf 20 = .ok (.iconst 1, 1) := by decide +kernel
theorem dX4_costOf_21 : decode cX4_costOf 21 = .ok (.if_icmp .ne 7, 3) := by decide +kernel
theorem dX4_costOf_24 : decode cX4_costOf 24 = .ok (.iconst 2, 1) := by decide +kernel
theorem dX4_costOf_25 : decode cX4_costOf 25 = .ok (.goto 9, 3) := by decide +kernel
theorem dX4_costOf_28 : decode cX4_costOf 28 = .ok (.aload_n 0, 1) := by decide +kernel
theorem dX4_costOf_29 : decode cX4_costOf 29 = .ok (.getfield 7, 3) := by decide +kernel
theorem dX4_costOf_32 : decode cX4_costOf 32 = .ok (.iconst 1, 1) := by decide +kernel
theorem dX4_costOf_33 : decode cX4_costOf 33 = .ok (.iaload, 1) := by decide +kernel
theorem dX4_costOf_34 : decode cX4_costOf 34 = .ok (.ireturn, 1) := by decide +kernel
set_option maxRecDepth 20000 in
theorem ggX4_codeSize_X4_many : GoodIn wsX4_codeSize wsX4_many := goodIn_r _ [6, 1, 7, 8, 5, 9, 17, 18, 19, 20, 21, 22, 23] (by decide +kernel) (by decide +kernel)
set_option maxRecDepth 20000 in
theorem gX4_codeSize_X4_many : GoodIn wsX4_codeSize (wsV RX4 49 RX4 yX4_many wsX4_many) := goodIn_app (goodIn_of _ (by decide +kernel)) ggX4_codeSize_X4_many
set_option maxRecDepth 20000 in
theorem ggX4_codeSize_X4_costOf : GoodIn wsX4_codeSize wsX4_costOf := goodIn_r _ [13, 1, 14, 15, 5, 16, 7, 8, 9, 17, 18, 19, 20, 21, 22, 23] (by decide +kernel) (by decide +kernel)
set_option maxRecDepth 20000 in
theorem gX4_codeSize_X4_costOf : GoodIn wsX4_codeSize (wsV RX4 98 RX4 yX4_costOf wsX4_costOf) := goodIn_app (goodIn_of _ (by decide +kernel)) ggX4_codeSize_X4_costOf
theorem dX4_codeSize_0 : decode cX4_codeSize 0 = .ok (.iconst 0, 1) := by decide +kernel
theorem dX4_codeSize_1 : decode cX4_codeSize 1 = .ok (.istore_n 1, 1) := by decide +kernel
theorem dX4_codeSize_2 : decode cX4_codeSize 2 = .ok (.iconst 0, 1) := by decide +kernel
theorem dX4_codeSize_3 : decode cX4_codeSize 3 = .ok (.istore_n 2, 1) := by decide +kernel
theorem dX4_codeSize_4 : decode cX4_codeSize 4 = .ok (.iload_n 2, 1) := by decide +kernel
theorem dX4_codeSize_5 : decode cX4_codeSize 5 = .ok (.aload_n 0, 1) := by decide +kernel
theorem dX4_codeSize_6 : decode cX4_codeSize 6 = .ok (.getfield 7, 3) := by decide +kernel
theorem dX4_codeSize_9 : decode cX4_codeSize 9 = .ok (.iconst 0, 1) := by decide +kernel
theorem dX4_codeSize_10 : decode cX4_codeSize 10 = .ok (.iaload, 1) := by decide +kernel
theorem dX4_codeSize_11 : decode cX4_codeSize 11 = .ok (.if_icmp .ge 23, 3) := by decide +kernel
theorem dX4_codeSize_14 : decode cX4_codeSize 14 = .ok (.iload_n 1, 1) := by decide +kernel
theorem dX4_codeSize_15 : decode cX4_codeSize 15 = .ok (.aload_n 0, 1) := by decide +kernel
theorem dX4_codeSize_16 : decode cX4_codeSize 16 = .ok (.iload_n 2, 1) := by decide +kernel
theorem dX4_codeSize_17 : decode cX4_codeSize 17 = .ok (.invokevirtual 49, 3) := by decide +kernel
theorem dX4_codeSize_20 : decode cX4_codeSize 20 = .ok (.aload_n 0, 1) := by decide +kernel
theorem dX4_codeSize_21 : decode cX4_codeSize 21 = .ok (.iload_n 2, 1) := by decide +kernel
theorem dX4_codeSize_22 : decode cX4_codeSize 22 = .ok (.invokevirtual 98, 3) := by decide +kernel
theorem dX4_codeSize_25 : decode cX4_codeSize 25 = .ok (.iadd, 1) := by decide +kernel
theorem dX4_codeSize_26 : decode cX4_codeSize 26 = .ok (.iadd, 1) := by decide +kernel
theorem dX4_codeSize_27 : decode cX4_codeSize 27 = .ok (.istore_n 1, 1) := by decide +kernel
theorem dX4_codeSize_28 : decode cX4_codeSize 28 = .ok (.iinc 2 1, 3) := by decide +kernel
theorem dX4_codeSize_31 : decode cX4_codeSize 31 = .ok (.goto (-27), 3) := by decide +kernel
theorem dX4_codeSize_34 : decode cX4_codeSize 34 = .ok (.iload_n 1, 1) := by decide +kernel
theorem dX4_codeSize_35 : decode cX4_codeSize 35 = .ok (.ireturn, 1) := by decide +kernel
theorem dX4_ones_0 : decode cX4_ones 0 = .ok (.iconst 0, 1) := by decide +kernel
theorem dX4_ones_1 : decode cX4_ones 1 = .ok (.istore_n 1, 1) := by decide +kernel
theorem dX4_ones_2 : decode cX4_ones 2 = .ok (.iconst 0, 1) := by decide +kernel
theorem dX4_ones_3 : decode cX4_ones 3 = .ok (.istore_n 2, 1) := by decide +kernel
theorem dX4_ones_4 : decode cX4_ones 4 = .ok (.iload_n 2, 1) := by decide +kernel
theorem dX4_ones_5 : decode cX4_ones 5 = .ok (.bipush 12, 2) := by decide +kernel
theorem dX4_ones_7 : decode cX4_ones 7 = .ok (.if_icmp .ge 17, 3) := by decide +kernel
theorem dX4_ones_10 : decode cX4_ones 10 = .ok (.iload_n 1, 1) := by decide +kernel
theorem dX4_ones_11 : decode cX4_ones 11 = .ok (.iload_n 0, 1) := by decide +kernel
theorem dX4_ones_12 : decode cX4_ones 12 = .ok (.iload_n 2, 1) := by decide +kernel
theorem dX4_ones_13 : decode cX4_ones 13 = .ok (.ishr, 1) := by decide +kernel
theorem dX4_ones_14 : decode cX4_ones 14 = .ok (.iconst 1, 1) := by decide +kernel
theorem dX4_ones_15 : decode cX4_ones 15 = .ok (.iand, 1) := by decide +kernel
theorem dX4_ones_16 : decode cX4_ones 16 = .ok (.iadd, 1) := by decide +kernel
theorem dX4_ones_17 : decode cX4_ones 17 = .ok (.istore_n 1, 1) := by decide +kernel
theorem dX4_ones_18 : decode cX4_ones 18 = .ok (.iinc 2 1, 3) := by decide +kernel
theorem dX4_ones_21 : decode cX4_ones 21 = .ok (.goto (-17), 3) := by decide +kernel
theorem dX4_ones_24 : decode cX4_ones 24 = .ok (.iload_n 1, 1) := by decide +kernel
theorem dX4_ones_25 : decode cX4_ones 25 = .ok (.ireturn, 1) := by decide +kernel
theorem dX4_lowest_0 : decode cX4_lowest 0 = .ok (.iconst 0, 1) := by decide +kernel
theorem dX4_lowest_1 : decode cX4_lowest 1 = .ok (.istore_n 1, 1) := by decide +kernel
theorem dX4_lowest_2 : decode cX4_lowest 2 = .ok (.iload_n 0, 1) := by decide +kernel
theorem dX4_lowest_3 : decode cX4_lowest 3 = .ok (.iload_n 1, 1) := by decide +kernel
theorem dX4_lowest_4 : decode cX4_lowest 4 = .ok (.ishr, 1) := by decide +kernel
theorem dX4_lowest_5 : decode cX4_lowest 5 = .ok (.iconst 1, 1) := by decide +kernel
theorem dX4_lowest_6 : decode cX4_lowest 6 = .ok (.iand, 1) := by decide +kernel
theorem dX4_lowest_7 : decode cX4_lowest 7 = .ok (.ifCond .ne 9, 3) := by decide +kernel
theorem dX4_lowest_10 : decode cX4_lowest 10 = .ok (.iinc 1 1, 3) := by decide +kernel
theorem dX4_lowest_13 : decode cX4_lowest 13 = .ok (.goto (-11), 3) := by decide +kernel
theorem dX4_lowest_16 : decode cX4_lowest 16 = .ok (.iload_n 1, 1) := by decide +kernel
theorem dX4_lowest_17 : decode cX4_lowest 17 = .ok (.ireturn, 1) := by decide +kernel
set_option maxRecDepth 20000 in
theorem ggX4_tailOf_X4_lowest : GoodIn wsX4_tailOf wsX4_lowest := goodIn_r _ [5] (by decide +kernel) (by decide +kernel)
set_option maxRecDepth 20000 in
theorem gX4_tailOf_X4_lowest : GoodIn wsX4_tailOf (va_wsS RX4 101 yX4_lowest wsX4_lowest) := goodIn_app (goodIn_of _ (by decide +kernel)) ggX4_tailOf_X4_lowest
set_option maxRecDepth 20000 in
theorem ggX4_tailOf_X4_tailOfTwo : GoodIn wsX4_tailOf wsX4_tailOfTwo := goodIn_r _ [9, 10, 11, 12, 4, 13, 1, 14, 15, 16, 17, 18, 19, 20, 21, 22, 23, 24, 25, 26, 27, 28, 29, 30, 31, 32, 33, 34, 35, 36, 37] (by decide +kernel) (by decide +kernel)
set_option maxRecDepth 20000 in
theorem gX4_tailOf_X4_tailOfTwo : GoodIn wsX4_tailOf (wsV RX4 82 RX4 yX4_tailOfTwo wsX4_tailOfTwo) := goodIn_app (goodIn_of _ (by decide +kernel)) ggX4_tailOf_X4_tailOfTwo
theorem dX4_tailOf_0 : decode cX4_tailOf 0 = .ok (.iload_n 1, 1) := by decide +kernel
theorem dX4_tailOf_1 : decode cX4_tailOf 1 = .ok (.invokestatic 101, 3) := by decide +kernel
theorem dX4_tailOf_4 : decode cX4_tailOf 4 = .ok (.istore_n 2, 1) := by decide +kernel
theorem dX4_tailOf_5 : decode cX4_tailOf 5 = .ok (.bipush 10, 2) := by decide +kernel
theorem dX4_tailOf_7 : decode cX4_tailOf 7 = .ok (.istore_n 3, 1) := by decide +kernel
theorem dX4_tailOf_8 : decode cX4_tailOf 8 = .ok (.iload_n 2, 1) := by decide +kernel
theorem dX4_tailOf_9 : decode cX4_tailOf 9 = .ok (.iconst 1, 1) := by decide +kernel
theorem dX4_tailOf_10 : decode cX4_tailOf 10 = .ok (.iadd, 1) := by decide +kernel
theorem dX4_tailOf_11 : decode cX4_tailOf 11 = .ok (.istore 4, 2) := by decide +kernel
theorem dX4_tailOf_13 : decode cX4_tailOf 13 = .ok (.iload 4, 2) := by decide +kernel
theorem dX4_tailOf_15 : decode cX4_tailOf 15 = .ok (.aload_n 0, 1) := by decide +kernel
theorem dX4_tailOf_16 : decode cX4_tailOf 16 = .ok (.getfield 7, 3) := by decide +kernel
theorem dX4_tailOf_19 : decode cX4_tailOf 19 = .ok (.iconst 0, 1) := by decide +kernel
theorem dX4_tailOf_20 : decode cX4_tailOf 20 = .ok (.iaload, 1) := by decide +kernel
theorem dX4_tailOf_21 : decode cX4_tailOf 21 = .ok (.if_icmp .ge 41, 3) := by decide +kernel
theorem dX4_tailOf_24 : decode cX4_tailOf 24 = .ok (.iload_n 1, 1) := by decide +kernel
theorem dX4_tailOf_25 : decode cX4_tailOf 25 = .ok (.iload 4, 2) := by decide +kernel
theorem dX4_tailOf_27 : decode cX4_tailOf 27 = .ok (.ishr, 1) := by decide +kernel
theorem dX4_tailOf_28 : decode cX4_tailOf 28 = .ok (.iconst 1, 1) := by decide +kernel
theorem dX4_tailOf_29 : decode cX4_tailOf 29 = .ok (.iand, 1) := by decide +kernel
theorem dX4_tailOf_30 : decode cX4_tailOf 30 = .ok (.iconst 1, 1) := by decide +kernel
theorem dX4_tailOf_31 : decode cX4_tailOf 31 = .ok (.if_icmp .ne 25, 3) := by decide +kernel
theorem dX4_tailOf_34 : decode cX4_tailOf 34 = .ok (.aload_n 0, 1) := by decide +kernel
theorem dX4_tailOf_35 : decode cX4_tailOf 35 = .ok (.iload_n 2, 1) := by decide +kernel
theorem dX4_tailOf_36 : decode cX4_tailOf 36 = .ok (.iload 4, 2) := by decide +kernel
theorem dX4_tailOf_38 : decode cX4_tailOf 38 = .ok (.invokevirtual 82, 3) := by decide +kernel
theorem dX4_tailOf_41 : decode cX4_tailOf 41 = .ok (.istore 5, 2) := by decide +kernel
theorem dX4_tailOf_43 : decode cX4_tailOf 43 = .ok (.iload 5, 2) := by decide +kernel
theorem dX4_tailOf_45 : decode cX4_tailOf 45 = .ok (.iload_n 3, 1) := by decide +kernel
theorem dX4_tailOf_46 : decode cX4_tailOf 46 = .ok (.if_icmp .ge 8, 3) := by decide +kernel
theorem dX4_tailOf_49 : decode cX4_tailOf 49 = .ok (.iload 5, 2) := by decide +kernel
theorem dX4_tailOf_51 : decode cX4_tailOf 51 = .ok (.goto 4, 3) := by decide +kernel
theorem dX4_tailOf_54 : decode cX4_tailOf 54 = .ok (.iload_n 3, 1) := by decide +kernel
theorem dX4_tailOf_55 : decode cX4_tailOf 55 = .ok (.istore_n 3, 1) := by decide +kernel
theorem dX4_tailOf_56 : decode cX4_tailOf 56 = .ok (.iinc 4 1, 3) := by decide +kernel
theorem dX4_tailOf_59 : decode cX4_tailOf 59 = .ok (.goto (-46), 3) := by decide +kernel
theorem dX4_tailOf_62 : decode cX4_tailOf 62 = .ok (.iload_n 3, 1) := by decide +kernel
theorem dX4_tailOf_63 : decode cX4_tailOf 63 = .ok (.ifCond .ge 9, 3) := by decide +kernel
theorem dX4_tailOf_66 : decode cX4_tailOf 66 = .ok (.sipush (-1005), 3) := by decide +kernel
theorem dX4_tailOf_69 : decode cX4_tailOf 69 = .ok (.goto 4, 3) := by decide +kernel
theorem dX4_tailOf_72 : decode cX4_tailOf 72 = .ok (.iload_n 3, 1) := by decide +kernel
theorem dX4_tailOf_73 : decode cX4_tailOf 73 = .ok (.ireturn, 1) := by decide +kernel
set_option maxRecDepth 20000 in
theorem ggX4_wrongSet_X4_ones : GoodIn wsX4_wrongSet wsX4_ones := goodIn_r _ [5] (by decide +kernel) (by decide +kernel)
set_option maxRecDepth 20000 in
theorem gX4_wrongSet_X4_ones : GoodIn wsX4_wrongSet (va_wsS RX4 104 yX4_ones wsX4_ones) := goodIn_app (goodIn_of _ (by decide +kernel)) ggX4_wrongSet_X4_ones
set_option maxRecDepth 20000 in
theorem ggX4_wrongSet_X4_tailOf : GoodIn wsX4_wrongSet wsX4_tailOf := goodIn_r _ [9, 1, 10, 11, 4, 12, 13, 14, 15, 16, 17, 18, 19, 20, 21, 22, 23, 24, 25, 26, 27, 28, 29, 30, 31, 32, 33, 34, 35, 36, 37, 38, 39, 40, 41, 42, 43, 44] (by decide +kernel) (by decide +kernel)
set_option maxRecDepth 20000 in
theorem gX4_wrongSet_X4_tailOf : GoodIn wsX4_wrongSet (wsV RX4 107 RX4 yX4_tailOf wsX4_tailOf) := goodIn_app (goodIn_of _ (by decide +kernel)) ggX4_wrongSet_X4_tailOf
theorem dX4_wrongSet_0 : decode cX4_wrongSet 0 = .ok (.iload_n 1, 1) := by decide +kernel
theorem dX4_wrongSet_1 : decode cX4_wrongSet 1 = .ok (.ifCond .lt 15, 3) := by decide +kernel
theorem dX4_wrongSet_4 : decode cX4_wrongSet 4 = .ok (.iload_n 1, 1) := by decide +kernel
theorem dX4_wrongSet_5 : decode cX4_wrongSet 5 = .ok (.iconst 1, 1) := by decide +kernel
theorem dX4_wrongSet_6 : decode cX4_wrongSet 6 = .ok (.aload_n 0, 1) := by decide +kernel
theorem dX4_wrongSet_7 : decode cX4_wrongSet 7 = .ok (.getfield 7, 3) := by decide +kernel
theorem dX4_wrongSet_10 : decode cX4_wrongSet 10 = .ok (.iconst 0, 1) := by decide +kernel
theorem dX4_wrongSet_11 : decode cX4_wrongSet 11 = .ok (.iaload, 1) := by decide +kernel
theorem dX4_wrongSet_12 : decode cX4_wrongSet 12 = .ok (.ishl, 1) := by decide +kernel
theorem dX4_wrongSet_13 : decode cX4_wrongSet 13 = .ok (.if_icmp .lt 7, 3) := by decide +kernel
theorem dX4_wrongSet_16 : decode cX4_wrongSet 16 = .ok (.sipush (-1001), 3) := by decide +kernel
theorem dX4_wrongSet_19 : decode cX4_wrongSet 19 = .ok (.ireturn, 1) := by decide +kernel
theorem dX4_wrongSet_20 : decode cX4_wrongSet 20 = .ok (.iload_n 1, 1) := by decide +kernel
theorem dX4_wrongSet_21 : decode cX4_wrongSet 21 = .ok (.invokestatic 104, 3) := by decide +kernel
theorem dX4_wrongSet_24 : decode cX4_wrongSet 24 = .ok (.iconst 2, 1) := by decide +kernel
theorem dX4_wrongSet_25 : decode cX4_wrongSet 25 = .ok (.if_icmp .ge 9, 3) := by decide +kernel
theorem dX4_wrongSet_28 : decode cX4_wrongSet 28 = .ok (.sipush (-1003), 3) := by decide +kernel
theorem dX4_wrongSet_31 : decode cX4_wrongSet 31 = .ok (.goto 18, 3) := by decide +kernel
theorem dX4_wrongSet_34 : decode cX4_wrongSet 34 = .ok (.aload_n 0, 1) := by decide +kernel
theorem dX4_wrongSet_35 : decode cX4_wrongSet 35 = .ok (.iload_n 1, 1) := by decide +kernel
theorem dX4_wrongSet_36 : decode cX4_wrongSet 36 = .ok (.invokevirtual 107, 3) := by decide +kernel
theorem dX4_wrongSet_39 : decode cX4_wrongSet 39 = .ok (.ifCond .ge 9, 3) := by decide +kernel
theorem dX4_wrongSet_42 : decode cX4_wrongSet 42 = .ok (.sipush (-1005), 3) := by decide +kernel
theorem dX4_wrongSet_45 : decode cX4_wrongSet 45 = .ok (.goto 4, 3) := by decide +kernel
theorem dX4_wrongSet_48 : decode cX4_wrongSet 48 = .ok (.iconst 0, 1) := by decide +kernel
theorem dX4_wrongSet_49 : decode cX4_wrongSet 49 = .ok (.ireturn, 1) := by decide +kernel
set_option maxRecDepth 20000 in
theorem ggX4_savingOf_X4_ones : GoodIn wsX4_savingOf wsX4_ones := goodIn_r _ [5] (by decide +kernel) (by decide +kernel)
set_option maxRecDepth 20000 in
theorem gX4_savingOf_X4_ones : GoodIn wsX4_savingOf (va_wsS RX4 104 yX4_ones wsX4_ones) := goodIn_app (goodIn_of _ (by decide +kernel)) ggX4_savingOf_X4_ones
set_option maxRecDepth 20000 in
theorem ggX4_savingOf_X4_tailOf : GoodIn wsX4_savingOf wsX4_tailOf := goodIn_r _ [9, 1, 10, 11, 4, 12, 13, 14, 15, 16, 17, 18, 19, 20, 21, 22, 23, 24, 25, 26, 27, 28, 29, 30, 31, 32, 33, 34, 35, 36, 37, 42, 43, 44, 45, 46, 47, 48] (by decide +kernel) (by decide +kernel)
set_option maxRecDepth 20000 in
theorem gX4_savingOf_X4_tailOf : GoodIn wsX4_savingOf (wsV RX4 107 RX4 yX4_tailOf wsX4_tailOf) := goodIn_app (goodIn_of _ (by decide +kernel)) ggX4_savingOf_X4_tailOf
set_option maxRecDepth 20000 in
theorem ggX4_savingOf_X4_lowest : GoodIn wsX4_savingOf wsX4_lowest := goodIn_r _ [12] (by decide +kernel) (by decide +kernel)
set_option maxRecDepth 20000 in
theorem gX4_savingOf_X4_lowest : GoodIn wsX4_savingOf (va_wsS RX4 101 yX4_lowest wsX4_lowest) := goodIn_app (goodIn_of _ (by decide +kernel)) ggX4_savingOf_X4_lowest
set_option maxRecDepth 20000 in
theorem ggX4_savingOf_X4_costOf : GoodIn wsX4_savingOf wsX4_costOf := goodIn_r _ [41, 1, 21, 22, 4, 23, 24, 25, 26, 42, 43, 44, 45, 46, 47, 48] (by decide +kernel) (by decide +kernel)
set_option maxRecDepth 20000 in
theorem gX4_savingOf_X4_costOf : GoodIn wsX4_savingOf (wsV RX4 98 RX4 yX4_costOf wsX4_costOf) := goodIn_app (goodIn_of _ (by decide +kernel)) ggX4_savingOf_X4_costOf
theorem dX4_savingOf_0 : decode cX4_savingOf 0 = .ok (.iload_n 1, 1) := by decide +kernel
theorem dX4_savingOf_1 : decode cX4_savingOf 1 = .ok (.invokestatic 104, 3) := by decide +kernel
theorem dX4_savingOf_4 : decode cX4_savingOf 4 = .ok (.istore_n 2, 1) := by decide +kernel
theorem dX4_savingOf_5 : decode cX4_savingOf 5 = .ok (.iload_n 2, 1) := by decide +kernel
theorem dX4_savingOf_6 : decode cX4_savingOf 6 = .ok (.iconst 1, 1) := by decide +kernel
theorem dX4_savingOf_7 : decode cX4_savingOf 7 = .ok (.isub, 1) := by decide +kernel
theorem dX4_savingOf_8 : decode cX4_savingOf 8 = .ok (.aload_n 0, 1) := by decide +kernel
theorem dX4_savingOf_9 : decode cX4_savingOf 9 = .ok (.iload_n 1, 1) := by decide +kernel
theorem dX4_savingOf_10 : decode cX4_savingOf 10 = .ok (.invokevirtual 107, 3) := by decide +kernel
theorem dX4_savingOf_13 : decode cX4_savingOf 13 = .ok (.aload_n 0, 1) := by decide +kernel
theorem dX4_savingOf_14 : decode cX4_savingOf 14 = .ok (.iload_n 1, 1) := by decide +kernel
theorem dX4_savingOf_15 : decode cX4_savingOf 15 = .ok (.invokestatic 101, 3) := by decide +kernel
theorem dX4_savingOf_18 : decode cX4_savingOf 18 = .ok (.invokevirtual 98, 3) := by decide +kernel
theorem dX4_savingOf_21 : decode cX4_savingOf 21 = .ok (.iadd, 1) := by decide +kernel
theorem dX4_savingOf_22 : decode cX4_savingOf 22 = .ok (.imul, 1) := by decide +kernel
theorem dX4_savingOf_23 : decode cX4_savingOf 23 = .ok (.iload_n 2, 1) := by decide +kernel
theorem dX4_savingOf_24 : decode cX4_savingOf 24 = .ok (.aload_n 0, 1) := by decide +kernel
theorem dX4_savingOf_25 : decode cX4_savingOf 25 = .ok (.getfield 7, 3) := by decide +kernel
theorem dX4_savingOf_28 : decode cX4_savingOf 28 = .ok (.iconst 1, 1) := by decide +kernel
theorem dX4_savingOf_29 : decode cX4_savingOf 29 = .ok (.iaload, 1) := by decide +kernel
theorem dX4_savingOf_30 : decode cX4_savingOf 30 = .ok (.imul, 1) := by decide +kernel
theorem dX4_savingOf_31 : decode cX4_savingOf 31 = .ok (.isub, 1) := by decide +kernel
theorem dX4_savingOf_32 : decode cX4_savingOf 32 = .ok (.ireturn, 1) := by decide +kernel
set_option maxRecDepth 20000 in
theorem ggX4_tailSaving_X4_wrongSet : GoodIn wsX4_tailSaving wsX4_wrongSet := goodIn_r _ [5, 6, 7, 8, 4, 9, 10, 11, 12, 13, 14, 15, 16, 17, 18, 19, 20, 21, 22, 23, 24, 25, 26, 27, 28, 29, 30, 31, 32, 33, 34, 35, 36, 37, 38, 39, 40, 41, 50, 51, 52, 53, 54, 55, 56] (by decide +kernel) (by decide +kernel)
set_option maxRecDepth 20000 in
theorem gX4_tailSaving_X4_wrongSet : GoodIn wsX4_tailSaving (wsV RX4 110 RX4 yX4_wrongSet wsX4_wrongSet) := goodIn_app (goodIn_of _ (by decide +kernel)) ggX4_tailSaving_X4_wrongSet
set_option maxRecDepth 20000 in
theorem ggX4_tailSaving_X4_savingOf : GoodIn wsX4_tailSaving wsX4_savingOf := goodIn_r _ [45, 6, 7, 8, 4, 9, 10, 11, 12, 13, 14, 15, 16, 17, 18, 19, 20, 21, 22, 23, 24, 25, 26, 27, 28, 29, 30, 31, 32, 33, 34, 35, 36, 37, 38, 39, 40, 41, 46, 47, 48, 49, 50, 51, 52, 53, 54, 55, 56] (by decide +kernel) (by decide +kernel)
set_option maxRecDepth 20000 in
theorem gX4_tailSaving_X4_savingOf : GoodIn wsX4_tailSaving (wsV RX4 113 RX4 yX4_savingOf wsX4_savingOf) := goodIn_app (goodIn_of _ (by decide +kernel)) ggX4_tailSaving_X4_savingOf
theorem dX4_tailSaving_0 : decode cX4_tailSaving 0 = .ok (.aload_n 0, 1) := by decide +kernel
theorem dX4_tailSaving_1 : decode cX4_tailSaving 1 = .ok (.iload_n 1, 1) := by decide +kernel
theorem dX4_tailSaving_2 : decode cX4_tailSaving 2 = .ok (.invokevirtual 110, 3) := by decide +kernel
theorem dX4_tailSaving_5 : decode cX4_tailSaving 5 = .ok (.istore_n 2, 1) := by decide +kernel
theorem dX4_tailSaving_6 : decode cX4_tailSaving 6 = .ok (.iload_n 2, 1) := by decide +kernel
theorem dX4_tailSaving_7 : decode cX4_tailSaving 7 = .ok (.ifCond .eq 7, 3) := by decide +kernel
theorem dX4_tailSaving_10 : decode cX4_tailSaving 10 = .ok (.iload_n 2, 1) := by decide +kernel
theorem dX4_tailSaving_11 : decode cX4_tailSaving 11 = .ok (.goto 8, 3) := by decide +kernel
theorem dX4_tailSaving_14 : decode cX4_tailSaving 14 = .ok (.aload_n 0, 1) := by decide +kernel
theorem dX4_tailSaving_15 : decode cX4_tailSaving 15 = .ok (.iload_n 1, 1) := by decide +kernel
theorem dX4_tailSaving_16 : decode cX4_tailSaving 16 = .ok (.invokevirtual 113, 3) := by decide +kernel
theorem dX4_tailSaving_19 : decode cX4_tailSaving 19 = .ok (.ireturn, 1) := by decide +kernel
set_option maxRecDepth 20000 in
theorem ggX4_findBest_X4_ones : GoodIn wsX4_findBest wsX4_ones := goodIn_r _ [5] (by decide +kernel) (by decide +kernel)
set_option maxRecDepth 20000 in
theorem gX4_findBest_X4_ones : GoodIn wsX4_findBest (va_wsS RX4 104 yX4_ones wsX4_ones) := goodIn_app (goodIn_of _ (by decide +kernel)) ggX4_findBest_X4_ones
set_option maxRecDepth 20000 in
theorem ggX4_findBest_X4_tailOf : GoodIn wsX4_findBest wsX4_tailOf := goodIn_r _ [9, 1, 10, 11, 4, 12, 13, 14, 15, 16, 17, 18, 19, 20, 21, 22, 23, 24, 25, 26, 27, 28, 29, 30, 31, 32, 33, 34, 35, 36, 37, 46, 47, 48, 49, 50, 51, 52] (by decide +kernel) (by decide +kernel)
set_option maxRecDepth 20000 in
theorem gX4_findBest_X4_tailOf : GoodIn wsX4_findBest (wsV RX4 107 RX4 yX4_tailOf wsX4_tailOf) := goodIn_app (goodIn_of _ (by decide +kernel)) ggX4_findBest_X4_tailOf
set_option maxRecDepth 20000 in
theorem ggX4_findBest_X4_savingOf : GoodIn wsX4_findBest wsX4_savingOf := goodIn_r _ [41, 1, 2, 3, 4, 5, 6, 7, 8, 9, 10, 11, 12, 13, 14, 15, 16, 17, 18, 19, 20, 21, 22, 23, 24, 25, 26, 27, 28, 29, 30, 31, 32, 33, 34, 35, 36, 37, 42, 43, 44, 45, 46, 47, 48, 49, 50, 51, 52] (by decide +kernel) (by decide +kernel)
set_option maxRecDepth 20000 in
theorem gX4_findBest_X4_savingOf : GoodIn wsX4_findBest (wsV RX4 113 RX4 yX4_savingOf wsX4_savingOf) := goodIn_app (goodIn_of _ (by decide +kernel)) ggX4_findBest_X4_savingOf
theorem dX4_findBest_0 : decode cX4_findBest 0 = .ok (.sipush (-1008), 3) := by decide +kernel
theorem dX4_findBest_3 : decode cX4_findBest 3 = .ok (.istore_n 1, 1) := by decide +kernel
theorem dX4_findBest_4 : decode cX4_findBest 4 = .ok (.iconst 0, 1) := by decide +kernel
theorem dX4_findBest_5 : decode cX4_findBest 5 = .ok (.istore_n 2, 1) := by decide +kernel
theorem dX4_findBest_6 : decode cX4_findBest 6 = .ok (.iconst 3, 1) := by decide +kernel
theorem dX4_findBest_7 : decode cX4_findBest 7 = .ok (.istore_n 3, 1) := by decide +kernel
theorem dX4_findBest_8 : decode cX4_findBest 8 = .ok (.iload_n 3, 1) := by decide +kernel
theorem dX4_findBest_9 : decode cX4_findBest 9 = .ok (.iconst 1, 1) := by decide +kernel
theorem dX4_findBest_10 : decode cX4_findBest 10 = .ok (.aload_n 0, 1) := by decide +kernel
theorem dX4_findBest_11 : decode cX4_findBest 11 = .ok (.getfield 7, 3) := by decide +kernel
theorem dX4_findBest_14 : decode cX4_findBest 14 = .ok (.iconst 0, 1) := by decide +kernel
theorem dX4_findBest_15 : decode cX4_findBest 15 = .ok (.iaload, 1) := by decide +kernel
theorem dX4_findBest_16 : decode cX4_findBest 16 = .ok (.ishl, 1) := by decide +kernel
theorem dX4_findBest_17 : decode cX4_findBest 17 = .ok (.if_icmp .ge 42, 3) := by decide +kernel
theorem dX4_findBest_20 : decode cX4_findBest 20 = .ok (.iload_n 3, 1) := by decide +kernel
theorem dX4_findBest_21 : decode cX4_findBest 21 = .ok (.invokestatic 104, 3) := by decide +kernel
theorem dX4_findBest_24 : decode cX4_findBest 24 = .ok (.iconst 1, 1) := by decide +kernel
theorem dX4_findBest_25 : decode cX4_findBest 25 = .ok (.if_icmp .le 28, 3) := by decide +kernel
theorem dX4_findBest_28 : decode cX4_findBest 28 = .ok (.aload_n 0, 1) := by decide +kernel
theorem dX4_findBest_29 : decode cX4_findBest 29 = .ok (.iload_n 3, 1) := by decide +kernel
theorem dX4_findBest_30 : decode cX4_findBest 30 = .ok (.invokevirtual 107, 3) := by decide +kernel
theorem dX4_findBest_33 : decode cX4_findBest 33 = .ok (.ifCond .lt 20, 3) := by decide +kernel
theorem dX4_findBest_36 : decode cX4_findBest 36 = .ok (.aload_n 0, 1) := by decide +kernel
theorem dX4_findBest_37 : decode cX4_findBest 37 = .ok (.iload_n 3, 1) := by decide +kernel
theorem dX4_findBest_38 : decode cX4_findBest 38 = .ok (.invokevirtual 113, 3) := by decide +kernel
theorem dX4_findBest_41 : decode cX4_findBest 41 = .ok (.iload_n 2, 1) := by decide +kernel
theorem dX4_findBest_42 : decode cX4_findBest 42 = .ok (.if_icmp .le 11, 3) := by decide +kernel
theorem dX4_findBest_45 : decode cX4_findBest 45 = .ok (.aload_n 0, 1) := by decide +kernel
theorem dX4_findBest_46 : decode cX4_findBest 46 = .ok (.iload_n 3, 1) := by decide +kernel
theorem dX4_findBest_47 : decode cX4_findBest 47 = .ok (.invokevirtual 113, 3) := by decide +kernel
theorem dX4_findBest_50 : decode cX4_findBest 50 = .ok (.istore_n 2, 1) := by decide +kernel
theorem dX4_findBest_51 : decode cX4_findBest 51 = .ok (.iload_n 3, 1) := by decide +kernel
theorem dX4_findBest_52 : decode cX4_findBest 52 = .ok (.istore_n 1, 1) := by decide +kernel
theorem dX4_findBest_53 : decode cX4_findBest 53 = .ok (.iinc 3 1, 3) := by decide +kernel
theorem dX4_findBest_56 : decode cX4_findBest 56 = .ok (.goto (-48), 3) := by decide +kernel
theorem dX4_findBest_59 : decode cX4_findBest 59 = .ok (.iload_n 1, 1) := by decide +kernel
theorem dX4_findBest_60 : decode cX4_findBest 60 = .ok (.ireturn, 1) := by decide +kernel
set_option maxRecDepth 20000 in
theorem ggX4_bestTail_X4_findBest : GoodIn wsX4_bestTail wsX4_findBest := goodIn_r _ [5, 6, 7, 8, 4, 9, 10, 11, 12, 13, 14, 15, 16, 17, 18, 19, 20, 21, 22, 23, 24, 25, 26, 27, 28, 29, 30, 31, 32, 33, 34, 35, 36, 37, 38, 39, 40, 41, 42, 43, 44, 45, 46, 47, 48, 49, 50, 51, 52, 53, 54, 55, 56] (by decide +kernel) (by decide +kernel)
set_option maxRecDepth 20000 in
theorem gX4_bestTail_X4_findBest : GoodIn wsX4_bestTail (wsV RX4 116 RX4 yX4_findBest wsX4_findBest) := goodIn_app (goodIn_of _ (by decide +kernel)) ggX4_bestTail_X4_findBest
theorem dX4_bestTail_0 : decode cX4_bestTail 0 = .ok (.aload_n 0, 1) := by decide +kernel
theorem dX4_bestTail_1 : decode cX4_bestTail 1 = .ok (.invokevirtual 116, 3) := by decide +kernel
theorem dX4_bestTail_4 : decode cX4_bestTail 4 = .ok (.ireturn, 1) := by decide +kernel
set_option maxRecDepth 20000 in
theorem ggX4_copyTail_X4_many : GoodIn wsX4_copyTail wsX4_many := goodIn_r _ [6, 1, 7, 8, 5, 9, 24, 25, 26, 27, 28, 29, 30] (by decide +kernel) (by decide +kernel)
set_option maxRecDepth 20000 in
theorem gX4_copyTail_X4_many : GoodIn wsX4_copyTail (wsV RX4 49 RX4 yX4_many wsX4_many) := goodIn_app (goodIn_of _ (by decide +kernel)) ggX4_copyTail_X4_many
set_option maxRecDepth 20000 in
theorem ggX4_copyTail_X4_at : GoodIn wsX4_copyTail wsX4_at := goodIn_r _ [12, 7, 8, 5, 9] (by decide +kernel) (by decide +kernel)
set_option maxRecDepth 20000 in
theorem gX4_copyTail_X4_at : GoodIn wsX4_copyTail (va_wsS RX4 52 yX4_at wsX4_at) := goodIn_app (goodIn_of _ (by decide +kernel)) ggX4_copyTail_X4_at
set_option maxRecDepth 20000 in
theorem ggX4_copyTail_X4_append : GoodIn wsX4_copyTail wsX4_append := goodIn_r _ [16, 1, 2, 3, 4, 5, 6, 7, 8, 9, 10, 11, 12, 24, 25, 26, 27, 28, 29, 30] (by decide +kernel) (by decide +kernel)
set_option maxRecDepth 20000 in
theorem gX4_copyTail_X4_append : GoodIn wsX4_copyTail (wsV RX4 63 RX4 yX4_append wsX4_append) := goodIn_app (goodIn_of _ (by decide +kernel)) ggX4_copyTail_X4_append
set_option maxRecDepth 20000 in
theorem ggX4_copyTail_X4_end : GoodIn wsX4_copyTail wsX4_end := goodIn_r _ [19, 7, 8, 5, 9] (by decide +kernel) (by decide +kernel)
set_option maxRecDepth 20000 in
theorem gX4_copyTail_X4_end : GoodIn wsX4_copyTail (va_wsS RX4 34 yX4_end wsX4_end) := goodIn_app (goodIn_of _ (by decide +kernel)) ggX4_copyTail_X4_end
set_option maxRecDepth 20000 in
theorem ggX4_copyTail_X4_terminate : GoodIn wsX4_copyTail wsX4_terminate := goodIn_r _ [23, 1, 17, 18, 5, 19, 7, 8, 9, 24, 25, 26, 27, 28, 29, 30] (by decide +kernel) (by decide +kernel)
set_option maxRecDepth 20000 in
theorem gX4_copyTail_X4_terminate : GoodIn wsX4_copyTail (wsV RX4 37 RX4 yX4_terminate wsX4_terminate) := goodIn_app (goodIn_of _ (by decide +kernel)) ggX4_copyTail_X4_terminate
theorem dX4_copyTail_0 : decode cX4_copyTail 0 = .ok (.aload_n 0, 1) := by decide +kernel
theorem dX4_copyTail_1 : decode cX4_copyTail 1 = .ok (.iload_n 1, 1) := by decide +kernel
theorem dX4_copyTail_2 : decode cX4_copyTail 2 = .ok (.invokevirtual 49, 3) := by decide +kernel
theorem dX4_copyTail_5 : decode cX4_copyTail 5 = .ok (.iload_n 3, 1) := by decide +kernel
theorem dX4_copyTail_6 : decode cX4_copyTail 6 = .ok (.isub, 1) := by decide +kernel
theorem dX4_copyTail_7 : decode cX4_copyTail 7 = .ok (.istore 4, 2) := by decide +kernel
theorem dX4_copyTail_9 : decode cX4_copyTail 9 = .ok (.iload 4, 2) := by decide +kernel
theorem dX4_copyTail_11 : decode cX4_copyTail 11 = .ok (.aload_n 0, 1) := by decide +kernel
theorem dX4_copyTail_12 : decode cX4_copyTail 12 = .ok (.iload_n 1, 1) := by decide +kernel
theorem dX4_copyTail_13 : decode cX4_copyTail 13 = .ok (.invokevirtual 49, 3) := by decide +kernel
theorem dX4_copyTail_16 : decode cX4_copyTail 16 = .ok (.if_icmp .ge 65, 3) := by decide +kernel
theorem dX4_copyTail_19 : decode cX4_copyTail 19 = .ok (.iload_n 1, 1) := by decide +kernel
theorem dX4_copyTail_20 : decode cX4_copyTail 20 = .ok (.iload 4, 2) := by decide +kernel
theorem dX4_copyTail_22 : decode cX4_copyTail 22 = .ok (.invokestatic 52, 3) := by decide +kernel
theorem dX4_copyTail_25 : decode cX4_copyTail 25 = .ok (.istore 5, 2) := by decide +kernel
theorem dX4_copyTail_27 : decode cX4_copyTail 27 = .ok (.aload_n 0, 1) := by decide +kernel
theorem dX4_copyTail_28 : decode cX4_copyTail 28 = .ok (.iload_n 2, 1) := by decide +kernel
theorem dX4_copyTail_29 : decode cX4_copyTail 29 = .ok (.aload_n 0, 1) := by decide +kernel
theorem dX4_copyTail_30 : decode cX4_copyTail 30 = .ok (.getfield 7, 3) := by decide +kernel
theorem dX4_copyTail_33 : decode cX4_copyTail 33 = .ok (.iload 5, 2) := by decide +kernel
theorem dX4_copyTail_35 : decode cX4_copyTail 35 = .ok (.iaload, 1) := by decide +kernel
theorem dX4_copyTail_36 : decode cX4_copyTail 36 = .ok (.aload_n 0, 1) := by decide +kernel
theorem dX4_copyTail_37 : decode cX4_copyTail 37 = .ok (.getfield 7, 3) := by decide +kernel
theorem dX4_copyTail_40 : decode cX4_copyTail 40 = .ok (.iload 5, 2) := by decide +kernel
theorem dX4_copyTail_42 : decode cX4_copyTail 42 = .ok (.iconst 1, 1) := by decide +kernel
theorem dX4_copyTail_43 : decode cX4_copyTail 43 = .ok (.iadd, 1) := by decide +kernel
theorem dX4_copyTail_44 : decode cX4_copyTail 44 = .ok (.iaload, 1) := by decide +kernel
theorem dX4_copyTail_45 : decode cX4_copyTail 45 = .ok (.aload_n 0, 1) := by decide +kernel
theorem dX4_copyTail_46 : decode cX4_copyTail 46 = .ok (.getfield 7, 3) := by decide +kernel
theorem dX4_copyTail_49 : decode cX4_copyTail 49 = .ok (.iload 5, 2) := by decide +kernel
theorem dX4_copyTail_51 : decode cX4_copyTail 51 = .ok (.iconst 2, 1) := by decide +kernel
theorem dX4_copyTail_52 : decode cX4_copyTail 52 = .ok (.iadd, 1) := by decide +kernel
theorem dX4_copyTail_53 : decode cX4_copyTail 53 = .ok (.iaload, 1) := by decide +kernel
theorem dX4_copyTail_54 : decode cX4_copyTail 54 = .ok (.aload_n 0, 1) := by decide +kernel
theorem dX4_copyTail_55 : decode cX4_copyTail 55 = .ok (.getfield 7, 3) := by decide +kernel
theorem dX4_copyTail_58 : decode cX4_copyTail 58 = .ok (.iload 5, 2) := by decide +kernel
theorem dX4_copyTail_60 : decode cX4_copyTail 60 = .ok (.iconst 3, 1) := by decide +kernel
theorem dX4_copyTail_61 : decode cX4_copyTail 61 = .ok (.iadd, 1) := by decide +kernel
theorem dX4_copyTail_62 : decode cX4_copyTail 62 = .ok (.iaload, 1) := by decide +kernel
theorem dX4_copyTail_63 : decode cX4_copyTail 63 = .ok (.aload_n 0, 1) := by decide +kernel
theorem dX4_copyTail_64 : decode cX4_copyTail 64 = .ok (.getfield 7, 3) := by decide +kernel
theorem dX4_copyTail_67 : decode cX4_copyTail 67 = .ok (.iload 5, 2) := by decide +kernel
theorem dX4_copyTail_69 : decode cX4_copyTail 69 = .ok (.iconst 4, 1) := by decide +kernel
theorem dX4_copyTail_70 : decode cX4_copyTail 70 = .ok (.iadd, 1) := by decide +kernel
theorem dX4_copyTail_71 : decode cX4_copyTail 71 = .ok (.iaload, 1) := by decide +kernel
theorem dX4_copyTail_72 : decode cX4_copyTail 72 = .ok (.invokevirtual 63, 3) := by decide +kernel
theorem dX4_copyTail_75 : decode cX4_copyTail 75 = .ok (.iinc 4 1, 3) := by decide +kernel
end
section
theorem dX4_copyTail_78 : decode cX4_copyTail 78 = .ok (.goto (-69), 3) := by decide +kernel
theorem dX4_copyTail_81 : decode cX4_copyTail 81 = .ok (.aload_n 0, 1) := by decide +kernel
theorem dX4_copyTail_82 : decode cX4_copyTail 82 = .ok (.iload_n 2, 1) := by decide +kernel
theorem dX4_copyTail_83 : decode cX4_copyTail 83 = .ok (.aload_n 0, 1) := by decide +kernel
theorem dX4_copyTail_84 : decode cX4_copyTail 84 = .ok (.getfield 7, 3) := by decide +kernel
theorem dX4_copyTail_87 : decode cX4_copyTail 87 = .ok (.iload_n 1, 1) := by decide +kernel
theorem dX4_copyTail_88 : decode cX4_copyTail 88 = .ok (.invokestatic 34, 3) := by decide +kernel
theorem dX4_copyTail_91 : decode cX4_copyTail 91 = .ok (.iaload, 1) := by decide +kernel
theorem dX4_copyTail_92 : decode cX4_copyTail 92 = .ok (.aload_n 0, 1) := by decide +kernel
theorem dX4_copyTail_93 : decode cX4_copyTail 93 = .ok (.getfield 7, 3) := by decide +kernel
theorem dX4_copyTail_96 : decode cX4_copyTail 96 = .ok (.iload_n 1, 1) := by decide +kernel
theorem dX4_copyTail_97 : decode cX4_copyTail 97 = .ok (.invokestatic 34, 3) := by decide +kernel
theorem dX4_copyTail_100 : decode cX4_copyTail 100 = .ok (.iconst 1, 1) := by decide +kernel
theorem dX4_copyTail_101 : decode cX4_copyTail 101 = .ok (.iadd, 1) := by decide +kernel
theorem dX4_copyTail_102 : decode cX4_copyTail 102 = .ok (.iaload, 1) := by decide +kernel
theorem dX4_copyTail_103 : decode cX4_copyTail 103 = .ok (.aload_n 0, 1) := by decide +kernel
theorem dX4_copyTail_104 : decode cX4_copyTail 104 = .ok (.getfield 7, 3) := by decide +kernel
theorem dX4_copyTail_107 : decode cX4_copyTail 107 = .ok (.iload_n 1, 1) := by decide +kernel
theorem dX4_copyTail_108 : decode cX4_copyTail 108 = .ok (.invokestatic 34, 3) := by decide +kernel
theorem dX4_copyTail_111 : decode cX4_copyTail 111 = .ok (.iconst 2, 1) := by decide +kernel
theorem dX4_copyTail_112 : decode cX4_copyTail 112 = .ok (.iadd, 1) := by decide +kernel
theorem dX4_copyTail_113 : decode cX4_copyTail 113 = .ok (.iaload, 1) := by decide +kernel
theorem dX4_copyTail_114 : decode cX4_copyTail 114 = .ok (.aload_n 0, 1) := by decide +kernel
theorem dX4_copyTail_115 : decode cX4_copyTail 115 = .ok (.getfield 7, 3) := by decide +kernel
theorem dX4_copyTail_118 : decode cX4_copyTail 118 = .ok (.iload_n 1, 1) := by decide +kernel
theorem dX4_copyTail_119 : decode cX4_copyTail 119 = .ok (.invokestatic 34, 3) := by decide +kernel
theorem dX4_copyTail_122 : decode cX4_copyTail 122 = .ok (.iconst 3, 1) := by decide +kernel
theorem dX4_copyTail_123 : decode cX4_copyTail 123 = .ok (.iadd, 1) := by decide +kernel
theorem dX4_copyTail_124 : decode cX4_copyTail 124 = .ok (.iaload, 1) := by decide +kernel
theorem dX4_copyTail_125 : decode cX4_copyTail 125 = .ok (.invokevirtual 37, 3) := by decide +kernel
theorem dX4_copyTail_128 : decode cX4_copyTail 128 = .ok (.return_, 1) := by decide +kernel
set_option maxRecDepth 20000 in
theorem ggX4_uniteLines_X4_at : GoodIn wsX4_uniteLines wsX4_at := goodIn_r _ [5, 6, 7, 4, 8] (by decide +kernel) (by decide +kernel)
set_option maxRecDepth 20000 in
theorem gX4_uniteLines_X4_at : GoodIn wsX4_uniteLines (va_wsS RX4 52 yX4_at wsX4_at) := goodIn_app (goodIn_of _ (by decide +kernel)) ggX4_uniteLines_X4_at
set_option maxRecDepth 20000 in
theorem ggX4_uniteLines_X4_many : GoodIn wsX4_uniteLines wsX4_many := goodIn_r _ [12, 1, 6, 7, 4, 8, 13, 14, 15, 16, 17, 18, 19] (by decide +kernel) (by decide +kernel)
set_option maxRecDepth 20000 in
theorem gX4_uniteLines_X4_many : GoodIn wsX4_uniteLines (wsV RX4 49 RX4 yX4_many wsX4_many) := goodIn_app (goodIn_of _ (by decide +kernel)) ggX4_uniteLines_X4_many
theorem dX4_uniteLines_0 : decode cX4_uniteLines 0 = .ok (.iconst 0, 1) := by decide +kernel
theorem dX4_uniteLines_1 : decode cX4_uniteLines 1 = .ok (.istore 4, 2) := by decide +kernel
theorem dX4_uniteLines_3 : decode cX4_uniteLines 3 = .ok (.iload 4, 2) := by decide +kernel
theorem dX4_uniteLines_5 : decode cX4_uniteLines 5 = .ok (.iload_n 3, 1) := by decide +kernel
theorem dX4_uniteLines_6 : decode cX4_uniteLines 6 = .ok (.if_icmp .ge 46, 3) := by decide +kernel
theorem dX4_uniteLines_9 : decode cX4_uniteLines 9 = .ok (.aload_n 0, 1) := by decide +kernel
theorem dX4_uniteLines_10 : decode cX4_uniteLines 10 = .ok (.getfield 7, 3) := by decide +kernel
theorem dX4_uniteLines_13 : decode cX4_uniteLines 13 = .ok (.iload_n 2, 1) := by decide +kernel
theorem dX4_uniteLines_14 : decode cX4_uniteLines 14 = .ok (.iload 4, 2) := by decide +kernel
theorem dX4_uniteLines_16 : decode cX4_uniteLines 16 = .ok (.invokestatic 52, 3) := by decide +kernel
theorem dX4_uniteLines_19 : decode cX4_uniteLines 19 = .ok (.iconst 4, 1) := by decide +kernel
theorem dX4_uniteLines_20 : decode cX4_uniteLines 20 = .ok (.iadd, 1) := by decide +kernel
theorem dX4_uniteLines_21 : decode cX4_uniteLines 21 = .ok (.dup2, 1) := by decide +kernel
theorem dX4_uniteLines_22 : decode cX4_uniteLines 22 = .ok (.iaload, 1) := by decide +kernel
theorem dX4_uniteLines_23 : decode cX4_uniteLines 23 = .ok (.aload_n 0, 1) := by decide +kernel
theorem dX4_uniteLines_24 : decode cX4_uniteLines 24 = .ok (.getfield 7, 3) := by decide +kernel
theorem dX4_uniteLines_27 : decode cX4_uniteLines 27 = .ok (.iload_n 1, 1) := by decide +kernel
theorem dX4_uniteLines_28 : decode cX4_uniteLines 28 = .ok (.aload_n 0, 1) := by decide +kernel
theorem dX4_uniteLines_29 : decode cX4_uniteLines 29 = .ok (.iload_n 1, 1) := by decide +kernel
theorem dX4_uniteLines_30 : decode cX4_uniteLines 30 = .ok (.invokevirtual 49, 3) := by decide +kernel
theorem dX4_uniteLines_33 : decode cX4_uniteLines 33 = .ok (.iload_n 3, 1) := by decide +kernel
theorem dX4_uniteLines_34 : decode cX4_uniteLines 34 = .ok (.isub, 1) := by decide +kernel
theorem dX4_uniteLines_35 : decode cX4_uniteLines 35 = .ok (.iload 4, 2) := by decide +kernel
theorem dX4_uniteLines_37 : decode cX4_uniteLines 37 = .ok (.iadd, 1) := by decide +kernel
theorem dX4_uniteLines_38 : decode cX4_uniteLines 38 = .ok (.invokestatic 52, 3) := by decide +kernel
theorem dX4_uniteLines_41 : decode cX4_uniteLines 41 = .ok (.iconst 4, 1) := by decide +kernel
theorem dX4_uniteLines_42 : decode cX4_uniteLines 42 = .ok (.iadd, 1) := by decide +kernel
theorem dX4_uniteLines_43 : decode cX4_uniteLines 43 = .ok (.iaload, 1) := by decide +kernel
theorem dX4_uniteLines_44 : decode cX4_uniteLines 44 = .ok (.ior, 1) := by decide +kernel
theorem dX4_uniteLines_45 : decode cX4_uniteLines 45 = .ok (.iastore, 1) := by decide +kernel
theorem dX4_uniteLines_46 : decode cX4_uniteLines 46 = .ok (.iinc 4 1, 3) := by decide +kernel
theorem dX4_uniteLines_49 : decode cX4_uniteLines 49 = .ok (.goto (-46), 3) := by decide +kernel
theorem dX4_uniteLines_52 : decode cX4_uniteLines 52 = .ok (.return_, 1) := by decide +kernel
set_option maxRecDepth 20000 in
theorem ggX4_cutTail_X4_many : GoodIn wsX4_cutTail wsX4_many := goodIn_r _ [6, 1, 7, 8, 5, 9, 20, 21, 22, 23, 24, 25, 26] (by decide +kernel) (by decide +kernel)
set_option maxRecDepth 20000 in
theorem gX4_cutTail_X4_many : GoodIn wsX4_cutTail (wsV RX4 49 RX4 yX4_many wsX4_many) := goodIn_app (goodIn_of _ (by decide +kernel)) ggX4_cutTail_X4_many
set_option maxRecDepth 20000 in
theorem ggX4_cutTail_X4_at : GoodIn wsX4_cutTail wsX4_at := goodIn_r _ [12, 7, 8, 5, 9] (by decide +kernel) (by decide +kernel)
set_option maxRecDepth 20000 in
theorem gX4_cutTail_X4_at : GoodIn wsX4_cutTail (va_wsS RX4 52 yX4_at wsX4_at) := goodIn_app (goodIn_of _ (by decide +kernel)) ggX4_cutTail_X4_at
set_option maxRecDepth 20000 in
theorem ggX4_cutTail_X4_end : GoodIn wsX4_cutTail wsX4_end := goodIn_r _ [15, 7, 8, 5, 9] (by decide +kernel) (by decide +kernel)
set_option maxRecDepth 20000 in
theorem gX4_cutTail_X4_end : GoodIn wsX4_cutTail (va_wsS RX4 34 yX4_end wsX4_end) := goodIn_app (goodIn_of _ (by decide +kernel)) ggX4_cutTail_X4_end
set_option maxRecDepth 20000 in
theorem ggX4_cutTail_X4_base : GoodIn wsX4_cutTail wsX4_base := goodIn_r _ [9] (by decide +kernel) (by decide +kernel)
set_option maxRecDepth 20000 in
theorem gX4_cutTail_X4_base : GoodIn wsX4_cutTail (va_wsS RX4 30 yX4_base wsX4_base) := goodIn_app (goodIn_of _ (by decide +kernel)) ggX4_cutTail_X4_base
set_option maxRecDepth 20000 in
theorem ggX4_cutTail_X4_terminate : GoodIn wsX4_cutTail wsX4_terminate := goodIn_r _ [19, 1, 13, 14, 5, 15, 7, 8, 9, 20, 21, 22, 23, 24, 25, 26] (by decide +kernel) (by decide +kernel)
set_option maxRecDepth 20000 in
theorem gX4_cutTail_X4_terminate : GoodIn wsX4_cutTail (wsV RX4 37 RX4 yX4_terminate wsX4_terminate) := goodIn_app (goodIn_of _ (by decide +kernel)) ggX4_cutTail_X4_terminate
theorem dX4_cutTail_0 : decode cX4_cutTail 0 = .ok (.iload_n 1, 1) := by decide +kernel
theorem dX4_cutTail_1 : decode cX4_cutTail 1 = .ok (.aload_n 0, 1) := by decide +kernel
theorem dX4_cutTail_2 : decode cX4_cutTail 2 = .ok (.iload_n 1, 1) := by decide +kernel
theorem dX4_cutTail_3 : decode cX4_cutTail 3 = .ok (.invokevirtual 49, 3) := by decide +kernel
theorem dX4_cutTail_6 : decode cX4_cutTail 6 = .ok (.iload_n 2, 1) := by decide +kernel
theorem dX4_cutTail_7 : decode cX4_cutTail 7 = .ok (.isub, 1) := by decide +kernel
theorem dX4_cutTail_8 : decode cX4_cutTail 8 = .ok (.invokestatic 52, 3) := by decide +kernel
theorem dX4_cutTail_11 : decode cX4_cutTail 11 = .ok (.istore 4, 2) := by decide +kernel
theorem dX4_cutTail_13 : decode cX4_cutTail 13 = .ok (.iload 4, 2) := by decide +kernel
theorem dX4_cutTail_15 : decode cX4_cutTail 15 = .ok (.iload_n 1, 1) := by decide +kernel
theorem dX4_cutTail_16 : decode cX4_cutTail 16 = .ok (.invokestatic 34, 3) := by decide +kernel
theorem dX4_cutTail_19 : decode cX4_cutTail 19 = .ok (.if_icmp .ge 17, 3) := by decide +kernel
theorem dX4_cutTail_22 : decode cX4_cutTail 22 = .ok (.aload_n 0, 1) := by decide +kernel
theorem dX4_cutTail_23 : decode cX4_cutTail 23 = .ok (.getfield 7, 3) := by decide +kernel
theorem dX4_cutTail_26 : decode cX4_cutTail 26 = .ok (.iload 4, 2) := by decide +kernel
theorem dX4_cutTail_28 : decode cX4_cutTail 28 = .ok (.iconst 0, 1) := by decide +kernel
theorem dX4_cutTail_29 : decode cX4_cutTail 29 = .ok (.iastore, 1) := by decide +kernel
theorem dX4_cutTail_30 : decode cX4_cutTail 30 = .ok (.iinc 4 1, 3) := by decide +kernel
theorem dX4_cutTail_33 : decode cX4_cutTail 33 = .ok (.goto (-20), 3) := by decide +kernel
theorem dX4_cutTail_36 : decode cX4_cutTail 36 = .ok (.aload_n 0, 1) := by decide +kernel
theorem dX4_cutTail_37 : decode cX4_cutTail 37 = .ok (.getfield 7, 3) := by decide +kernel
theorem dX4_cutTail_40 : decode cX4_cutTail 40 = .ok (.iload_n 1, 1) := by decide +kernel
theorem dX4_cutTail_41 : decode cX4_cutTail 41 = .ok (.invokestatic 30, 3) := by decide +kernel
theorem dX4_cutTail_44 : decode cX4_cutTail 44 = .ok (.dup2, 1) := by decide +kernel
theorem dX4_cutTail_45 : decode cX4_cutTail 45 = .ok (.iaload, 1) := by decide +kernel
theorem dX4_cutTail_46 : decode cX4_cutTail 46 = .ok (.iload_n 2, 1) := by decide +kernel
theorem dX4_cutTail_47 : decode cX4_cutTail 47 = .ok (.isub, 1) := by decide +kernel
theorem dX4_cutTail_48 : decode cX4_cutTail 48 = .ok (.iastore, 1) := by decide +kernel
theorem dX4_cutTail_49 : decode cX4_cutTail 49 = .ok (.aload_n 0, 1) := by decide +kernel
theorem dX4_cutTail_50 : decode cX4_cutTail 50 = .ok (.iload_n 1, 1) := by decide +kernel
theorem dX4_cutTail_51 : decode cX4_cutTail 51 = .ok (.iconst 0, 1) := by decide +kernel
theorem dX4_cutTail_52 : decode cX4_cutTail 52 = .ok (.iload_n 3, 1) := by decide +kernel
theorem dX4_cutTail_53 : decode cX4_cutTail 53 = .ok (.iconst 0, 1) := by decide +kernel
theorem dX4_cutTail_54 : decode cX4_cutTail 54 = .ok (.iconst 0, 1) := by decide +kernel
theorem dX4_cutTail_55 : decode cX4_cutTail 55 = .ok (.invokevirtual 37, 3) := by decide +kernel
theorem dX4_cutTail_58 : decode cX4_cutTail 58 = .ok (.return_, 1) := by decide +kernel
set_option maxRecDepth 20000 in
theorem ggX4_mergeSet_X4_tailOf : GoodIn wsX4_mergeSet wsX4_tailOf := goodIn_r _ [6, 1, 7, 8, 5, 9, 10, 11, 12, 13, 14, 15, 16, 17, 18, 19, 20, 21, 22, 23, 24, 25, 26, 27, 28, 29, 30, 31, 32, 33, 34, 59, 60, 61, 62, 63, 64, 65] (by decide +kernel) (by decide +kernel)
set_option maxRecDepth 20000 in
theorem gX4_mergeSet_X4_tailOf : GoodIn wsX4_mergeSet (wsV RX4 107 RX4 yX4_tailOf wsX4_tailOf) := goodIn_app (goodIn_of _ (by decide +kernel)) ggX4_mergeSet_X4_tailOf
set_option maxRecDepth 20000 in
theorem ggX4_mergeSet_X4_newBlock : GoodIn wsX4_mergeSet wsX4_newBlock := goodIn_r _ [38, 1, 21, 22, 5, 23, 39, 40, 41, 42, 18, 19, 20, 59, 60, 61, 62, 63, 64, 65] (by decide +kernel) (by decide +kernel)
set_option maxRecDepth 20000 in
theorem gX4_mergeSet_X4_newBlock : GoodIn wsX4_mergeSet (wsV RX4 41 RX4 yX4_newBlock wsX4_newBlock) := goodIn_app (goodIn_of _ (by decide +kernel)) ggX4_mergeSet_X4_newBlock
set_option maxRecDepth 20000 in
theorem ggX4_mergeSet_X4_lowest : GoodIn wsX4_mergeSet wsX4_lowest := goodIn_r _ [9] (by decide +kernel) (by decide +kernel)
set_option maxRecDepth 20000 in
theorem gX4_mergeSet_X4_lowest : GoodIn wsX4_mergeSet (va_wsS RX4 101 yX4_lowest wsX4_lowest) := goodIn_app (goodIn_of _ (by decide +kernel)) ggX4_mergeSet_X4_lowest
set_option maxRecDepth 20000 in
theorem ggX4_mergeSet_X4_copyTail : GoodIn wsX4_mergeSet wsX4_copyTail := goodIn_r _ [46, 1, 24, 25, 26, 5, 27, 21, 22, 23, 32, 33, 34, 47, 48, 49, 50, 18, 19, 20, 39, 40, 41, 42, 59, 60, 61, 62, 63, 64, 65] (by decide +kernel) (by decide +kernel)
set_option maxRecDepth 20000 in
theorem gX4_mergeSet_X4_copyTail : GoodIn wsX4_mergeSet (wsV RX4 119 RX4 yX4_copyTail wsX4_copyTail) := goodIn_app (goodIn_of _ (by decide +kernel)) ggX4_mergeSet_X4_copyTail
set_option maxRecDepth 20000 in
theorem ggX4_mergeSet_X4_uniteLines : GoodIn wsX4_mergeSet wsX4_uniteLines := goodIn_r _ [54, 1, 32, 33, 5, 34, 21, 22, 23, 24, 25, 26, 27, 59, 60, 61, 62, 63, 64, 65] (by decide +kernel) (by decide +kernel)
set_option maxRecDepth 20000 in
theorem gX4_mergeSet_X4_uniteLines : GoodIn wsX4_mergeSet (wsV RX4 123 RX4 yX4_uniteLines wsX4_uniteLines) := goodIn_app (goodIn_of _ (by decide +kernel)) ggX4_mergeSet_X4_uniteLines
set_option maxRecDepth 20000 in
theorem ggX4_mergeSet_X4_cutTail : GoodIn wsX4_mergeSet wsX4_cutTail := goodIn_r _ [58, 1, 24, 25, 26, 5, 27, 21, 22, 23, 32, 33, 34, 18, 19, 20, 39, 40, 41, 42, 59, 60, 61, 62, 63, 64, 65] (by decide +kernel) (by decide +kernel)
set_option maxRecDepth 20000 in
theorem gX4_mergeSet_X4_cutTail : GoodIn wsX4_mergeSet (wsV RX4 126 RX4 yX4_cutTail wsX4_cutTail) := goodIn_app (goodIn_of _ (by decide +kernel)) ggX4_mergeSet_X4_cutTail
theorem dX4_mergeSet_0 : decode cX4_mergeSet 0 = .ok (.aload_n 0, 1) := by decide +kernel
theorem dX4_mergeSet_1 : decode cX4_mergeSet 1 = .ok (.iload_n 1, 1) := by decide +kernel
theorem dX4_mergeSet_2 : decode cX4_mergeSet 2 = .ok (.invokevirtual 107, 3) := by decide +kernel
theorem dX4_mergeSet_5 : decode cX4_mergeSet 5 = .ok (.istore_n 2, 1) := by decide +kernel
theorem dX4_mergeSet_6 : decode cX4_mergeSet 6 = .ok (.aload_n 0, 1) := by decide +kernel
theorem dX4_mergeSet_7 : decode cX4_mergeSet 7 = .ok (.getfield 7, 3) := by decide +kernel
theorem dX4_mergeSet_10 : decode cX4_mergeSet 10 = .ok (.iconst 0, 1) := by decide +kernel
theorem dX4_mergeSet_11 : decode cX4_mergeSet 11 = .ok (.iaload, 1) := by decide +kernel
theorem dX4_mergeSet_12 : decode cX4_mergeSet 12 = .ok (.iconst 1, 1) := by decide +kernel
theorem dX4_mergeSet_13 : decode cX4_mergeSet 13 = .ok (.isub, 1) := by decide +kernel
theorem dX4_mergeSet_14 : decode cX4_mergeSet 14 = .ok (.istore_n 3, 1) := by decide +kernel
theorem dX4_mergeSet_15 : decode cX4_mergeSet 15 = .ok (.aload_n 0, 1) := by decide +kernel
theorem dX4_mergeSet_16 : decode cX4_mergeSet 16 = .ok (.invokevirtual 41, 3) := by decide +kernel
theorem dX4_mergeSet_19 : decode cX4_mergeSet 19 = .ok (.istore 4, 2) := by decide +kernel
theorem dX4_mergeSet_21 : decode cX4_mergeSet 21 = .ok (.aload_n 0, 1) := by decide +kernel
theorem dX4_mergeSet_22 : decode cX4_mergeSet 22 = .ok (.iload_n 1, 1) := by decide +kernel
theorem dX4_mergeSet_23 : decode cX4_mergeSet 23 = .ok (.invokestatic 101, 3) := by decide +kernel
theorem dX4_mergeSet_26 : decode cX4_mergeSet 26 = .ok (.iload 4, 2) := by decide +kernel
theorem dX4_mergeSet_28 : decode cX4_mergeSet 28 = .ok (.iload_n 2, 1) := by decide +kernel
theorem dX4_mergeSet_29 : decode cX4_mergeSet 29 = .ok (.invokevirtual 119, 3) := by decide +kernel
theorem dX4_mergeSet_32 : decode cX4_mergeSet 32 = .ok (.iconst 0, 1) := by decide +kernel
theorem dX4_mergeSet_33 : decode cX4_mergeSet 33 = .ok (.istore 5, 2) := by decide +kernel
theorem dX4_mergeSet_35 : decode cX4_mergeSet 35 = .ok (.iload 5, 2) := by decide +kernel
theorem dX4_mergeSet_37 : decode cX4_mergeSet 37 = .ok (.iload_n 3, 1) := by decide +kernel
theorem dX4_mergeSet_38 : decode cX4_mergeSet 38 = .ok (.if_icmp .gt 37, 3) := by decide +kernel
theorem dX4_mergeSet_41 : decode cX4_mergeSet 41 = .ok (.iload_n 1, 1) := by decide +kernel
theorem dX4_mergeSet_42 : decode cX4_mergeSet 42 = .ok (.iload 5, 2) := by decide +kernel
theorem dX4_mergeSet_44 : decode cX4_mergeSet 44 = .ok (.ishr, 1) := by decide +kernel
theorem dX4_mergeSet_45 : decode cX4_mergeSet 45 = .ok (.iconst 1, 1) := by decide +kernel
theorem dX4_mergeSet_46 : decode cX4_mergeSet 46 = .ok (.iand, 1) := by decide +kernel
theorem dX4_mergeSet_47 : decode cX4_mergeSet 47 = .ok (.iconst 1, 1) := by decide +kernel
theorem dX4_mergeSet_48 : decode cX4_mergeSet 48 = .ok (.if_icmp .ne 21, 3) := by decide +kernel
theorem dX4_mergeSet_51 : decode cX4_mergeSet 51 = .ok (.aload_n 0, 1) := by decide +kernel
theorem dX4_mergeSet_52 : decode cX4_mergeSet 52 = .ok (.iload 5, 2) := by decide +kernel
theorem dX4_mergeSet_54 : decode cX4_mergeSet 54 = .ok (.iload 4, 2) := by decide +kernel
theorem dX4_mergeSet_56 : decode cX4_mergeSet 56 = .ok (.iload_n 2, 1) := by decide +kernel
theorem dX4_mergeSet_57 : decode cX4_mergeSet 57 = .ok (.invokevirtual 123, 3) := by decide +kernel
theorem dX4_mergeSet_60 : decode cX4_mergeSet 60 = .ok (.aload_n 0, 1) := by decide +kernel
theorem dX4_mergeSet_61 : decode cX4_mergeSet 61 = .ok (.iload 5, 2) := by decide +kernel
theorem dX4_mergeSet_63 : decode cX4_mergeSet 63 = .ok (.iload_n 2, 1) := by decide +kernel
theorem dX4_mergeSet_64 : decode cX4_mergeSet 64 = .ok (.iload 4, 2) := by decide +kernel
theorem dX4_mergeSet_66 : decode cX4_mergeSet 66 = .ok (.invokevirtual 126, 3) := by decide +kernel
theorem dX4_mergeSet_69 : decode cX4_mergeSet 69 = .ok (.iinc 5 1, 3) := by decide +kernel
theorem dX4_mergeSet_72 : decode cX4_mergeSet 72 = .ok (.goto (-37), 3) := by decide +kernel
theorem dX4_mergeSet_75 : decode cX4_mergeSet 75 = .ok (.iload 4, 2) := by decide +kernel
theorem dX4_mergeSet_77 : decode cX4_mergeSet 77 = .ok (.ireturn, 1) := by decide +kernel
set_option maxRecDepth 20000 in
theorem ggX4_mergeTail_X4_wrongSet : GoodIn wsX4_mergeTail wsX4_wrongSet := goodIn_r _ [6, 1, 7, 8, 5, 9, 10, 11, 12, 13, 14, 15, 16, 17, 18, 19, 20, 21, 22, 23, 24, 25, 26, 27, 28, 29, 30, 31, 32, 33, 34, 35, 36, 37, 38, 39, 40, 41, 78, 79, 80, 81, 82, 83, 84] (by decide +kernel) (by decide +kernel)
set_option maxRecDepth 20000 in
theorem gX4_mergeTail_X4_wrongSet : GoodIn wsX4_mergeTail (wsV RX4 110 RX4 yX4_wrongSet wsX4_wrongSet) := goodIn_app (goodIn_of _ (by decide +kernel)) ggX4_mergeTail_X4_wrongSet
set_option maxRecDepth 20000 in
theorem ggX4_mergeTail_X4_savingOf : GoodIn wsX4_mergeTail wsX4_savingOf := goodIn_r _ [45, 1, 7, 8, 5, 9, 10, 11, 12, 13, 14, 15, 16, 17, 18, 19, 20, 21, 22, 23, 24, 25, 26, 27, 28, 29, 30, 31, 32, 33, 34, 35, 36, 37, 38, 39, 40, 41, 46, 47, 48, 49, 78, 79, 80, 81, 82, 83, 84] (by decide +kernel) (by decide +kernel)
set_option maxRecDepth 20000 in
theorem gX4_mergeTail_X4_savingOf : GoodIn wsX4_mergeTail (wsV RX4 113 RX4 yX4_savingOf wsX4_savingOf) := goodIn_app (goodIn_of _ (by decide +kernel)) ggX4_mergeTail_X4_savingOf
set_option maxRecDepth 20000 in
theorem ggX4_mergeTail_X4_mergeSet : GoodIn wsX4_mergeTail wsX4_mergeSet := goodIn_r _ [53, 1, 10, 11, 12, 5, 13, 14, 15, 16, 17, 18, 19, 20, 21, 22, 23, 24, 25, 26, 27, 28, 29, 30, 31, 32, 33, 34, 35, 36, 37, 38, 39, 40, 41, 54, 55, 56, 57, 58, 59, 60, 61, 62, 63, 64, 65, 66, 67, 68, 69, 70, 71, 72, 73, 74, 75, 76, 77, 78, 79, 80, 81, 82, 83, 84] (by decide +kernel) (by decide +kernel)
set_option maxRecDepth 20000 in
theorem gX4_mergeTail_X4_mergeSet : GoodIn wsX4_mergeTail (wsV RX4 129 RX4 yX4_mergeSet wsX4_mergeSet) := goodIn_app (goodIn_of _ (by decide +kernel)) ggX4_mergeTail_X4_mergeSet
theorem dX4_mergeTail_0 : decode cX4_mergeTail 0 = .ok (.aload_n 0, 1) := by decide +kernel
theorem dX4_mergeTail_1 : decode cX4_mergeTail 1 = .ok (.iload_n 1, 1) := by decide +kernel
theorem dX4_mergeTail_2 : decode cX4_mergeTail 2 = .ok (.invokevirtual 110, 3) := by decide +kernel
theorem dX4_mergeTail_5 : decode cX4_mergeTail 5 = .ok (.istore_n 2, 1) := by decide +kernel
theorem dX4_mergeTail_6 : decode cX4_mergeTail 6 = .ok (.iload_n 2, 1) := by decide +kernel
theorem dX4_mergeTail_7 : decode cX4_mergeTail 7 = .ok (.ifCond .eq 5, 3) := by decide +kernel
theorem dX4_mergeTail_10 : decode cX4_mergeTail 10 = .ok (.iload_n 2, 1) := by decide +kernel
theorem dX4_mergeTail_11 : decode cX4_mergeTail 11 = .ok (.ireturn, 1) := by decide +kernel
theorem dX4_mergeTail_12 : decode cX4_mergeTail 12 = .ok (.aload_n 0, 1) := by decide +kernel
theorem dX4_mergeTail_13 : decode cX4_mergeTail 13 = .ok (.iload_n 1, 1) := by decide +kernel
theorem dX4_mergeTail_14 : decode cX4_mergeTail 14 = .ok (.invokevirtual 113, 3) := by decide +kernel
theorem dX4_mergeTail_17 : decode cX4_mergeTail 17 = .ok (.ifCond .gt 7, 3) := by decide +kernel
theorem dX4_mergeTail_20 : decode cX4_mergeTail 20 = .ok (.sipush (-1006), 3) := by decide +kernel
theorem dX4_mergeTail_23 : decode cX4_mergeTail 23 = .ok (.ireturn, 1) := by decide +kernel
theorem dX4_mergeTail_24 : decode cX4_mergeTail 24 = .ok (.aload_n 0, 1) := by decide +kernel
theorem dX4_mergeTail_25 : decode cX4_mergeTail 25 = .ok (.getfield 7, 3) := by decide +kernel
theorem dX4_mergeTail_28 : decode cX4_mergeTail 28 = .ok (.iconst 0, 1) := by decide +kernel
theorem dX4_mergeTail_29 : decode cX4_mergeTail 29 = .ok (.iaload, 1) := by decide +kernel
theorem dX4_mergeTail_30 : decode cX4_mergeTail 30 = .ok (.bipush 12, 2) := by decide +kernel
theorem dX4_mergeTail_32 : decode cX4_mergeTail 32 = .ok (.if_icmp .ne 9, 3) := by decide +kernel
theorem dX4_mergeTail_35 : decode cX4_mergeTail 35 = .ok (.sipush (-1004), 3) := by decide +kernel
theorem dX4_mergeTail_38 : decode cX4_mergeTail 38 = .ok (.goto 8, 3) := by decide +kernel
theorem dX4_mergeTail_41 : decode cX4_mergeTail 41 = .ok (.aload_n 0, 1) := by decide +kernel
theorem dX4_mergeTail_42 : decode cX4_mergeTail 42 = .ok (.iload_n 1, 1) := by decide +kernel
theorem dX4_mergeTail_43 : decode cX4_mergeTail 43 = .ok (.invokevirtual 129, 3) := by decide +kernel
theorem dX4_mergeTail_46 : decode cX4_mergeTail 46 = .ok (.ireturn, 1) := by decide +kernel
set_option maxRecDepth 20000 in
theorem ggX4_parameterSaving_X4_wrongPair : GoodIn wsX4_parameterSaving wsX4_wrongPair := goodIn_r _ [6, 7, 8, 9, 5, 10, 1, 11, 12, 13, 52, 53, 54, 55, 56, 57, 58] (by decide +kernel) (by decide +kernel)
set_option maxRecDepth 20000 in
theorem gX4_parameterSaving_X4_wrongPair : GoodIn wsX4_parameterSaving (wsV RX4 79 RX4 yX4_wrongPair wsX4_wrongPair) := goodIn_app (goodIn_of _ (by decide +kernel)) ggX4_parameterSaving_X4_wrongPair
set_option maxRecDepth 20000 in
theorem ggX4_parameterSaving_X4_parameterLength : GoodIn wsX4_parameterSaving wsX4_parameterLength := goodIn_r _ [17, 1, 18, 19, 20, 21, 5, 22, 23, 24, 25, 26, 27, 28, 29, 30, 31, 32, 33, 34, 35, 36, 37, 38, 39, 40, 41, 42, 43, 44, 45, 46, 47, 52, 53, 54, 55, 56, 57, 58] (by decide +kernel) (by decide +kernel)
set_option maxRecDepth 20000 in
theorem gX4_parameterSaving_X4_parameterLength : GoodIn wsX4_parameterSaving (wsV RX4 95 RX4 yX4_parameterLength wsX4_parameterLength) := goodIn_app (goodIn_of _ (by decide +kernel)) ggX4_parameterSaving_X4_parameterLength
set_option maxRecDepth 20000 in
theorem ggX4_parameterSaving_X4_costOf : GoodIn wsX4_parameterSaving wsX4_costOf := goodIn_r _ [51, 1, 23, 24, 5, 25, 26, 27, 28, 52, 53, 54, 55, 56, 57, 58] (by decide +kernel) (by decide +kernel)
set_option maxRecDepth 20000 in
theorem gX4_parameterSaving_X4_costOf : GoodIn wsX4_parameterSaving (wsV RX4 98 RX4 yX4_costOf wsX4_costOf) := goodIn_app (goodIn_of _ (by decide +kernel)) ggX4_parameterSaving_X4_costOf
theorem dX4_parameterSaving_0 : decode cX4_parameterSaving 0 = .ok (.aload_n 0, 1) := by decide +kernel
theorem dX4_parameterSaving_1 : decode cX4_parameterSaving 1 = .ok (.iload_n 1, 1) := by decide +kernel
theorem dX4_parameterSaving_2 : decode cX4_parameterSaving 2 = .ok (.iload_n 2, 1) := by decide +kernel
theorem dX4_parameterSaving_3 : decode cX4_parameterSaving 3 = .ok (.invokevirtual 79, 3) := by decide +kernel
theorem dX4_parameterSaving_6 : decode cX4_parameterSaving 6 = .ok (.istore_n 3, 1) := by decide +kernel
theorem dX4_parameterSaving_7 : decode cX4_parameterSaving 7 = .ok (.iload_n 3, 1) := by decide +kernel
theorem dX4_parameterSaving_8 : decode cX4_parameterSaving 8 = .ok (.ifCond .eq 5, 3) := by decide +kernel
theorem dX4_parameterSaving_11 : decode cX4_parameterSaving 11 = .ok (.iload_n 3, 1) := by decide +kernel
theorem dX4_parameterSaving_12 : decode cX4_parameterSaving 12 = .ok (.ireturn, 1) := by decide +kernel
theorem dX4_parameterSaving_13 : decode cX4_parameterSaving 13 = .ok (.aload_n 0, 1) := by decide +kernel
theorem dX4_parameterSaving_14 : decode cX4_parameterSaving 14 = .ok (.iload_n 1, 1) := by decide +kernel
theorem dX4_parameterSaving_15 : decode cX4_parameterSaving 15 = .ok (.iload_n 2, 1) := by decide +kernel
theorem dX4_parameterSaving_16 : decode cX4_parameterSaving 16 = .ok (.invokevirtual 95, 3) := by decide +kernel
theorem dX4_parameterSaving_19 : decode cX4_parameterSaving 19 = .ok (.istore 4, 2) := by decide +kernel
theorem dX4_parameterSaving_21 : decode cX4_parameterSaving 21 = .ok (.iload 4, 2) := by decide +kernel
theorem dX4_parameterSaving_23 : decode cX4_parameterSaving 23 = .ok (.ifCond .ge 9, 3) := by decide +kernel
theorem dX4_parameterSaving_26 : decode cX4_parameterSaving 26 = .ok (.sipush (-1005), 3) := by decide +kernel
theorem dX4_parameterSaving_29 : decode cX4_parameterSaving 29 = .ok (.goto 22, 3) := by decide +kernel
theorem dX4_parameterSaving_32 : decode cX4_parameterSaving 32 = .ok (.iload 4, 2) := by decide +kernel
theorem dX4_parameterSaving_34 : decode cX4_parameterSaving 34 = .ok (.aload_n 0, 1) := by decide +kernel
theorem dX4_parameterSaving_35 : decode cX4_parameterSaving 35 = .ok (.iload_n 1, 1) := by decide +kernel
theorem dX4_parameterSaving_36 : decode cX4_parameterSaving 36 = .ok (.invokevirtual 98, 3) := by decide +kernel
theorem dX4_parameterSaving_39 : decode cX4_parameterSaving 39 = .ok (.iadd, 1) := by decide +kernel
theorem dX4_parameterSaving_40 : decode cX4_parameterSaving 40 = .ok (.iconst 2, 1) := by decide +kernel
theorem dX4_parameterSaving_41 : decode cX4_parameterSaving 41 = .ok (.aload_n 0, 1) := by decide +kernel
theorem dX4_parameterSaving_42 : decode cX4_parameterSaving 42 = .ok (.getfield 7, 3) := by decide +kernel
theorem dX4_parameterSaving_45 : decode cX4_parameterSaving 45 = .ok (.iconst 1, 1) := by decide +kernel
theorem dX4_parameterSaving_46 : decode cX4_parameterSaving 46 = .ok (.iaload, 1) := by decide +kernel
theorem dX4_parameterSaving_47 : decode cX4_parameterSaving 47 = .ok (.imul, 1) := by decide +kernel
theorem dX4_parameterSaving_48 : decode cX4_parameterSaving 48 = .ok (.isub, 1) := by decide +kernel
theorem dX4_parameterSaving_49 : decode cX4_parameterSaving 49 = .ok (.iconst 2, 1) := by decide +kernel
theorem dX4_parameterSaving_50 : decode cX4_parameterSaving 50 = .ok (.isub, 1) := by decide +kernel
theorem dX4_parameterSaving_51 : decode cX4_parameterSaving 51 = .ok (.ireturn, 1) := by decide +kernel
set_option maxRecDepth 20000 in
theorem ggX4_passParameter_X4_many : GoodIn wsX4_passParameter wsX4_many := goodIn_r _ [6, 1, 7, 8, 5, 9, 28, 29, 30, 31, 32, 33, 34] (by decide +kernel) (by decide +kernel)
set_option maxRecDepth 20000 in
theorem gX4_passParameter_X4_many : GoodIn wsX4_passParameter (wsV RX4 49 RX4 yX4_many wsX4_many) := goodIn_app (goodIn_of _ (by decide +kernel)) ggX4_passParameter_X4_many
set_option maxRecDepth 20000 in
theorem ggX4_passParameter_X4_at : GoodIn wsX4_passParameter wsX4_at := goodIn_r _ [12, 7, 8, 5, 9] (by decide +kernel) (by decide +kernel)
set_option maxRecDepth 20000 in
theorem gX4_passParameter_X4_at : GoodIn wsX4_passParameter (va_wsS RX4 52 yX4_at wsX4_at) := goodIn_app (goodIn_of _ (by decide +kernel)) ggX4_passParameter_X4_at
set_option maxRecDepth 20000 in
theorem ggX4_passParameter_X4_cutTail : GoodIn wsX4_passParameter wsX4_cutTail := goodIn_r _ [16, 1, 2, 3, 4, 5, 6, 7, 8, 9, 10, 11, 12, 17, 18, 19, 20, 21, 22, 23, 28, 29, 30, 31, 32, 33, 34] (by decide +kernel) (by decide +kernel)
set_option maxRecDepth 20000 in
theorem gX4_passParameter_X4_cutTail : GoodIn wsX4_passParameter (wsV RX4 126 RX4 yX4_cutTail wsX4_cutTail) := goodIn_app (goodIn_of _ (by decide +kernel)) ggX4_passParameter_X4_cutTail
set_option maxRecDepth 20000 in
theorem ggX4_passParameter_X4_append : GoodIn wsX4_passParameter wsX4_append := goodIn_r _ [27, 1, 2, 3, 4, 5, 6, 7, 8, 9, 10, 11, 12, 28, 29, 30, 31, 32, 33, 34] (by decide +kernel) (by decide +kernel)
set_option maxRecDepth 20000 in
theorem gX4_passParameter_X4_append : GoodIn wsX4_passParameter (wsV RX4 63 RX4 yX4_append wsX4_append) := goodIn_app (goodIn_of _ (by decide +kernel)) ggX4_passParameter_X4_append
theorem dX4_passParameter_0 : decode cX4_passParameter 0 = .ok (.iload_n 1, 1) := by decide +kernel
theorem dX4_passParameter_1 : decode cX4_passParameter 1 = .ok (.aload_n 0, 1) := by decide +kernel
theorem dX4_passParameter_2 : decode cX4_passParameter 2 = .ok (.iload_n 1, 1) := by decide +kernel
theorem dX4_passParameter_3 : decode cX4_passParameter 3 = .ok (.invokevirtual 49, 3) := by decide +kernel
theorem dX4_passParameter_6 : decode cX4_passParameter 6 = .ok (.iload_n 3, 1) := by decide +kernel
theorem dX4_passParameter_7 : decode cX4_passParameter 7 = .ok (.isub, 1) := by decide +kernel
theorem dX4_passParameter_8 : decode cX4_passParameter 8 = .ok (.invokestatic 52, 3) := by decide +kernel
theorem dX4_passParameter_11 : decode cX4_passParameter 11 = .ok (.istore 5, 2) := by decide +kernel
theorem dX4_passParameter_13 : decode cX4_passParameter 13 = .ok (.aload_n 0, 1) := by decide +kernel
theorem dX4_passParameter_14 : decode cX4_passParameter 14 = .ok (.getfield 7, 3) := by decide +kernel
theorem dX4_passParameter_17 : decode cX4_passParameter 17 = .ok (.iload 5, 2) := by decide +kernel
theorem dX4_passParameter_19 : decode cX4_passParameter 19 = .ok (.iconst 2, 1) := by decide +kernel
theorem dX4_passParameter_20 : decode cX4_passParameter 20 = .ok (.iadd, 1) := by decide +kernel
theorem dX4_passParameter_21 : decode cX4_passParameter 21 = .ok (.iaload, 1) := by decide +kernel
theorem dX4_passParameter_22 : decode cX4_passParameter 22 = .ok (.istore 6, 2) := by decide +kernel
theorem dX4_passParameter_24 : decode cX4_passParameter 24 = .ok (.aload_n 0, 1) := by decide +kernel
theorem dX4_passParameter_25 : decode cX4_passParameter 25 = .ok (.getfield 7, 3) := by decide +kernel
theorem dX4_passParameter_28 : decode cX4_passParameter 28 = .ok (.iload 5, 2) := by decide +kernel
theorem dX4_passParameter_30 : decode cX4_passParameter 30 = .ok (.iconst 4, 1) := by decide +kernel
theorem dX4_passParameter_31 : decode cX4_passParameter 31 = .ok (.iadd, 1) := by decide +kernel
theorem dX4_passParameter_32 : decode cX4_passParameter 32 = .ok (.iaload, 1) := by decide +kernel
theorem dX4_passParameter_33 : decode cX4_passParameter 33 = .ok (.istore 7, 2) := by decide +kernel
theorem dX4_passParameter_35 : decode cX4_passParameter 35 = .ok (.aload_n 0, 1) := by decide +kernel
theorem dX4_passParameter_36 : decode cX4_passParameter 36 = .ok (.iload_n 1, 1) := by decide +kernel
theorem dX4_passParameter_37 : decode cX4_passParameter 37 = .ok (.iload_n 2, 1) := by decide +kernel
theorem dX4_passParameter_38 : decode cX4_passParameter 38 = .ok (.iload 4, 2) := by decide +kernel
theorem dX4_passParameter_40 : decode cX4_passParameter 40 = .ok (.invokevirtual 126, 3) := by decide +kernel
theorem dX4_passParameter_43 : decode cX4_passParameter 43 = .ok (.aload_n 0, 1) := by decide +kernel
theorem dX4_passParameter_44 : decode cX4_passParameter 44 = .ok (.iload_n 1, 1) := by decide +kernel
theorem dX4_passParameter_45 : decode cX4_passParameter 45 = .ok (.iconst 0, 1) := by decide +kernel
theorem dX4_passParameter_46 : decode cX4_passParameter 46 = .ok (.bipush 7, 2) := by decide +kernel
theorem dX4_passParameter_48 : decode cX4_passParameter 48 = .ok (.iload 6, 2) := by decide +kernel
theorem dX4_passParameter_50 : decode cX4_passParameter 50 = .ok (.iconst 0, 1) := by decide +kernel
theorem dX4_passParameter_51 : decode cX4_passParameter 51 = .ok (.iload 7, 2) := by decide +kernel
theorem dX4_passParameter_53 : decode cX4_passParameter 53 = .ok (.invokevirtual 63, 3) := by decide +kernel
theorem dX4_passParameter_56 : decode cX4_passParameter 56 = .ok (.return_, 1) := by decide +kernel
set_option maxRecDepth 20000 in
theorem ggX4_mergeWithParameter_X4_wrongPair : GoodIn wsX4_mergeWithParameter wsX4_wrongPair := goodIn_r _ [7, 8, 9, 10, 6, 11, 1, 12, 13, 14, 76, 77, 78, 79, 80, 81, 82] (by decide +kernel) (by decide +kernel)
set_option maxRecDepth 20000 in
theorem gX4_mergeWithParameter_X4_wrongPair : GoodIn wsX4_mergeWithParameter (wsV RX4 79 RX4 yX4_wrongPair wsX4_wrongPair) := goodIn_app (goodIn_of _ (by decide +kernel)) ggX4_mergeWithParameter_X4_wrongPair
set_option maxRecDepth 20000 in
theorem ggX4_mergeWithParameter_X4_parameterLength : GoodIn wsX4_mergeWithParameter wsX4_parameterLength := goodIn_r _ [18, 1, 2, 19, 20, 21, 6, 22, 23, 24, 25, 26, 27, 28, 29, 30, 31, 32, 33, 34, 35, 36, 37, 38, 39, 40, 41, 42, 43, 44, 45, 46, 47, 76, 77, 78, 79, 80, 81, 82] (by decide +kernel) (by decide +kernel)
set_option maxRecDepth 20000 in
theorem gX4_mergeWithParameter_X4_parameterLength : GoodIn wsX4_mergeWithParameter (wsV RX4 95 RX4 yX4_parameterLength wsX4_parameterLength) := goodIn_app (goodIn_of _ (by decide +kernel)) ggX4_mergeWithParameter_X4_parameterLength
set_option maxRecDepth 20000 in
theorem ggX4_mergeWithParameter_X4_newBlock : GoodIn wsX4_mergeWithParameter wsX4_newBlock := goodIn_r _ [51, 1, 26, 27, 6, 28, 52, 53, 54, 55, 23, 24, 25, 76, 77, 78, 79, 80, 81, 82] (by decide +kernel) (by decide +kernel)
set_option maxRecDepth 20000 in
theorem gX4_mergeWithParameter_X4_newBlock : GoodIn wsX4_mergeWithParameter (wsV RX4 41 RX4 yX4_newBlock wsX4_newBlock) := goodIn_app (goodIn_of _ (by decide +kernel)) ggX4_mergeWithParameter_X4_newBlock
set_option maxRecDepth 20000 in
theorem ggX4_mergeWithParameter_X4_copyTail : GoodIn wsX4_mergeWithParameter wsX4_copyTail := goodIn_r _ [59, 1, 29, 30, 31, 6, 32, 26, 27, 28, 37, 38, 39, 60, 61, 62, 63, 23, 24, 25, 52, 53, 54, 55, 76, 77, 78, 79, 80, 81, 82] (by decide +kernel) (by decide +kernel)
set_option maxRecDepth 20000 in
theorem gX4_mergeWithParameter_X4_copyTail : GoodIn wsX4_mergeWithParameter (wsV RX4 119 RX4 yX4_copyTail wsX4_copyTail) := goodIn_app (goodIn_of _ (by decide +kernel)) ggX4_mergeWithParameter_X4_copyTail
set_option maxRecDepth 20000 in
theorem ggX4_mergeWithParameter_X4_uniteLines : GoodIn wsX4_mergeWithParameter wsX4_uniteLines := goodIn_r _ [67, 1, 37, 38, 6, 39, 26, 27, 28, 29, 30, 31, 32, 76, 77, 78, 79, 80, 81, 82] (by decide +kernel) (by decide +kernel)
set_option maxRecDepth 20000 in
theorem gX4_mergeWithParameter_X4_uniteLines : GoodIn wsX4_mergeWithParameter (wsV RX4 123 RX4 yX4_uniteLines wsX4_uniteLines) := goodIn_app (goodIn_of _ (by decide +kernel)) ggX4_mergeWithParameter_X4_uniteLines
set_option maxRecDepth 20000 in
theorem ggX4_mergeWithParameter_X4_at : GoodIn wsX4_mergeWithParameter wsX4_at := goodIn_r _ [39, 26, 27, 6, 28] (by decide +kernel) (by decide +kernel)
set_option maxRecDepth 20000 in
theorem gX4_mergeWithParameter_X4_at : GoodIn wsX4_mergeWithParameter (va_wsS RX4 52 yX4_at wsX4_at) := goodIn_app (goodIn_of _ (by decide +kernel)) ggX4_mergeWithParameter_X4_at
set_option maxRecDepth 20000 in
theorem ggX4_mergeWithParameter_X4_passParameter : GoodIn wsX4_mergeWithParameter wsX4_passParameter := goodIn_r _ [71, 1, 29, 30, 31, 6, 32, 26, 27, 28, 37, 38, 39, 72, 73, 74, 75, 23, 24, 25, 52, 53, 54, 55, 60, 61, 62, 63, 76, 77, 78, 79, 80, 81, 82] (by decide +kernel) (by decide +kernel)
set_option maxRecDepth 20000 in
theorem gX4_mergeWithParameter_X4_passParameter : GoodIn wsX4_mergeWithParameter (wsV RX4 132 RX4 yX4_passParameter wsX4_passParameter) := goodIn_app (goodIn_of _ (by decide +kernel)) ggX4_mergeWithParameter_X4_passParameter
theorem dX4_mergeWithParameter_0 : decode cX4_mergeWithParameter 0 = .ok (.aload_n 0, 1) := by decide +kernel
theorem dX4_mergeWithParameter_1 : decode cX4_mergeWithParameter 1 = .ok (.iload_n 1, 1) := by decide +kernel
theorem dX4_mergeWithParameter_2 : decode cX4_mergeWithParameter 2 = .ok (.iload_n 2, 1) := by decide +kernel
theorem dX4_mergeWithParameter_3 : decode cX4_mergeWithParameter 3 = .ok (.invokevirtual 79, 3) := by decide +kernel
theorem dX4_mergeWithParameter_6 : decode cX4_mergeWithParameter 6 = .ok (.istore_n 3, 1) := by decide +kernel
theorem dX4_mergeWithParameter_7 : decode cX4_mergeWithParameter 7 = .ok (.iload_n 3, 1) := by decide +kernel
theorem dX4_mergeWithParameter_8 : decode cX4_mergeWithParameter 8 = .ok (.ifCond .eq 5, 3) := by decide +kernel
theorem dX4_mergeWithParameter_11 : decode cX4_mergeWithParameter 11 = .ok (.iload_n 3, 1) := by decide +kernel
theorem dX4_mergeWithParameter_12 : decode cX4_mergeWithParameter 12 = .ok (.ireturn, 1) := by decide +kernel
theorem dX4_mergeWithParameter_13 : decode cX4_mergeWithParameter 13 = .ok (.aload_n 0, 1) := by decide +kernel
theorem dX4_mergeWithParameter_14 : decode cX4_mergeWithParameter 14 = .ok (.iload_n 1, 1) := by decide +kernel
theorem dX4_mergeWithParameter_15 : decode cX4_mergeWithParameter 15 = .ok (.iload_n 2, 1) := by decide +kernel
theorem dX4_mergeWithParameter_16 : decode cX4_mergeWithParameter 16 = .ok (.invokevirtual 95, 3) := by decide +kernel
theorem dX4_mergeWithParameter_19 : decode cX4_mergeWithParameter 19 = .ok (.istore 4, 2) := by decide +kernel
theorem dX4_mergeWithParameter_21 : decode cX4_mergeWithParameter 21 = .ok (.iload 4, 2) := by decide +kernel
theorem dX4_mergeWithParameter_23 : decode cX4_mergeWithParameter 23 = .ok (.ifCond .ge 7, 3) := by decide +kernel
theorem dX4_mergeWithParameter_26 : decode cX4_mergeWithParameter 26 = .ok (.sipush (-1005), 3) := by decide +kernel
theorem dX4_mergeWithParameter_29 : decode cX4_mergeWithParameter 29 = .ok (.ireturn, 1) := by decide +kernel
theorem dX4_mergeWithParameter_30 : decode cX4_mergeWithParameter 30 = .ok (.aload_n 0, 1) := by decide +kernel
theorem dX4_mergeWithParameter_31 : decode cX4_mergeWithParameter 31 = .ok (.getfield 7, 3) := by decide +kernel
theorem dX4_mergeWithParameter_34 : decode cX4_mergeWithParameter 34 = .ok (.iconst 0, 1) := by decide +kernel
theorem dX4_mergeWithParameter_35 : decode cX4_mergeWithParameter 35 = .ok (.iaload, 1) := by decide +kernel
theorem dX4_mergeWithParameter_36 : decode cX4_mergeWithParameter 36 = .ok (.bipush 12, 2) := by decide +kernel
theorem dX4_mergeWithParameter_38 : decode cX4_mergeWithParameter 38 = .ok (.if_icmp .ne 7, 3) := by decide +kernel
theorem dX4_mergeWithParameter_41 : decode cX4_mergeWithParameter 41 = .ok (.sipush (-1004), 3) := by decide +kernel
theorem dX4_mergeWithParameter_44 : decode cX4_mergeWithParameter 44 = .ok (.ireturn, 1) := by decide +kernel
theorem dX4_mergeWithParameter_45 : decode cX4_mergeWithParameter 45 = .ok (.aload_n 0, 1) := by decide +kernel
theorem dX4_mergeWithParameter_46 : decode cX4_mergeWithParameter 46 = .ok (.getfield 88, 3) := by decide +kernel
theorem dX4_mergeWithParameter_49 : decode cX4_mergeWithParameter 49 = .ok (.istore 5, 2) := by decide +kernel
theorem dX4_mergeWithParameter_51 : decode cX4_mergeWithParameter 51 = .ok (.aload_n 0, 1) := by decide +kernel
theorem dX4_mergeWithParameter_52 : decode cX4_mergeWithParameter 52 = .ok (.invokevirtual 41, 3) := by decide +kernel
theorem dX4_mergeWithParameter_55 : decode cX4_mergeWithParameter 55 = .ok (.istore 6, 2) := by decide +kernel
theorem dX4_mergeWithParameter_57 : decode cX4_mergeWithParameter 57 = .ok (.aload_n 0, 1) := by decide +kernel
theorem dX4_mergeWithParameter_58 : decode cX4_mergeWithParameter 58 = .ok (.iload_n 1, 1) := by decide +kernel
theorem dX4_mergeWithParameter_59 : decode cX4_mergeWithParameter 59 = .ok (.iload 6, 2) := by decide +kernel
theorem dX4_mergeWithParameter_61 : decode cX4_mergeWithParameter 61 = .ok (.iload 4, 2) := by decide +kernel
theorem dX4_mergeWithParameter_63 : decode cX4_mergeWithParameter 63 = .ok (.invokevirtual 119, 3) := by decide +kernel
theorem dX4_mergeWithParameter_66 : decode cX4_mergeWithParameter 66 = .ok (.aload_n 0, 1) := by decide +kernel
theorem dX4_mergeWithParameter_67 : decode cX4_mergeWithParameter 67 = .ok (.iload_n 2, 1) := by decide +kernel
theorem dX4_mergeWithParameter_68 : decode cX4_mergeWithParameter 68 = .ok (.iload 6, 2) := by decide +kernel
theorem dX4_mergeWithParameter_70 : decode cX4_mergeWithParameter 70 = .ok (.iload 4, 2) := by decide +kernel
theorem dX4_mergeWithParameter_72 : decode cX4_mergeWithParameter 72 = .ok (.invokevirtual 123, 3) := by decide +kernel
theorem dX4_mergeWithParameter_75 : decode cX4_mergeWithParameter 75 = .ok (.iload 6, 2) := by decide +kernel
theorem dX4_mergeWithParameter_77 : decode cX4_mergeWithParameter 77 = .ok (.iload 4, 2) := by decide +kernel
theorem dX4_mergeWithParameter_79 : decode cX4_mergeWithParameter 79 = .ok (.iload 5, 2) := by decide +kernel
theorem dX4_mergeWithParameter_81 : decode cX4_mergeWithParameter 81 = .ok (.isub, 1) := by decide +kernel
theorem dX4_mergeWithParameter_82 : decode cX4_mergeWithParameter 82 = .ok (.invokestatic 52, 3) := by decide +kernel
theorem dX4_mergeWithParameter_85 : decode cX4_mergeWithParameter 85 = .ok (.istore 7, 2) := by decide +kernel
theorem dX4_mergeWithParameter_87 : decode cX4_mergeWithParameter 87 = .ok (.aload_n 0, 1) := by decide +kernel
theorem dX4_mergeWithParameter_88 : decode cX4_mergeWithParameter 88 = .ok (.getfield 7, 3) := by decide +kernel
theorem dX4_mergeWithParameter_91 : decode cX4_mergeWithParameter 91 = .ok (.iload 7, 2) := by decide +kernel
theorem dX4_mergeWithParameter_93 : decode cX4_mergeWithParameter 93 = .ok (.iconst 1, 1) := by decide +kernel
theorem dX4_mergeWithParameter_94 : decode cX4_mergeWithParameter 94 = .ok (.iastore, 1) := by decide +kernel
theorem dX4_mergeWithParameter_95 : decode cX4_mergeWithParameter 95 = .ok (.aload_n 0, 1) := by decide +kernel
theorem dX4_mergeWithParameter_96 : decode cX4_mergeWithParameter 96 = .ok (.getfield 7, 3) := by decide +kernel
theorem dX4_mergeWithParameter_99 : decode cX4_mergeWithParameter 99 = .ok (.iload 7, 2) := by decide +kernel
theorem dX4_mergeWithParameter_101 : decode cX4_mergeWithParameter 101 = .ok (.iconst 2, 1) := by decide +kernel
theorem dX4_mergeWithParameter_102 : decode cX4_mergeWithParameter 102 = .ok (.iadd, 1) := by decide +kernel
theorem dX4_mergeWithParameter_103 : decode cX4_mergeWithParameter 103 = .ok (.bipush 7, 2) := by decide +kernel
theorem dX4_mergeWithParameter_105 : decode cX4_mergeWithParameter 105 = .ok (.iastore, 1) := by decide +kernel
theorem dX4_mergeWithParameter_106 : decode cX4_mergeWithParameter 106 = .ok (.aload_n 0, 1) := by decide +kernel
theorem dX4_mergeWithParameter_107 : decode cX4_mergeWithParameter 107 = .ok (.getfield 7, 3) := by decide +kernel
theorem dX4_mergeWithParameter_110 : decode cX4_mergeWithParameter 110 = .ok (.iload 7, 2) := by decide +kernel
theorem dX4_mergeWithParameter_112 : decode cX4_mergeWithParameter 112 = .ok (.iconst 3, 1) := by decide +kernel
theorem dX4_mergeWithParameter_113 : decode cX4_mergeWithParameter 113 = .ok (.iadd, 1) := by decide +kernel
theorem dX4_mergeWithParameter_114 : decode cX4_mergeWithParameter 114 = .ok (.iconst 0, 1) := by decide +kernel
theorem dX4_mergeWithParameter_115 : decode cX4_mergeWithParameter 115 = .ok (.iastore, 1) := by decide +kernel
theorem dX4_mergeWithParameter_116 : decode cX4_mergeWithParameter 116 = .ok (.aload_n 0, 1) := by decide +kernel
theorem dX4_mergeWithParameter_117 : decode cX4_mergeWithParameter 117 = .ok (.iload_n 1, 1) := by decide +kernel
theorem dX4_mergeWithParameter_118 : decode cX4_mergeWithParameter 118 = .ok (.iload 4, 2) := by decide +kernel
theorem dX4_mergeWithParameter_120 : decode cX4_mergeWithParameter 120 = .ok (.iload 5, 2) := by decide +kernel
theorem dX4_mergeWithParameter_122 : decode cX4_mergeWithParameter 122 = .ok (.iload 6, 2) := by decide +kernel
theorem dX4_mergeWithParameter_124 : decode cX4_mergeWithParameter 124 = .ok (.invokevirtual 132, 3) := by decide +kernel
theorem dX4_mergeWithParameter_127 : decode cX4_mergeWithParameter 127 = .ok (.aload_n 0, 1) := by decide +kernel
theorem dX4_mergeWithParameter_128 : decode cX4_mergeWithParameter 128 = .ok (.iload_n 2, 1) := by decide +kernel
theorem dX4_mergeWithParameter_129 : decode cX4_mergeWithParameter 129 = .ok (.iload 4, 2) := by decide +kernel
theorem dX4_mergeWithParameter_131 : decode cX4_mergeWithParameter 131 = .ok (.iload 5, 2) := by decide +kernel
theorem dX4_mergeWithParameter_133 : decode cX4_mergeWithParameter 133 = .ok (.iload 6, 2) := by decide +kernel
theorem dX4_mergeWithParameter_135 : decode cX4_mergeWithParameter 135 = .ok (.invokevirtual 132, 3) := by decide +kernel
theorem dX4_mergeWithParameter_138 : decode cX4_mergeWithParameter 138 = .ok (.iload 6, 2) := by decide +kernel
theorem dX4_mergeWithParameter_140 : decode cX4_mergeWithParameter 140 = .ok (.ireturn, 1) := by decide +kernel
set_option maxRecDepth 20000 in
theorem ggX4_mergeAll_X4_findBest : GoodIn wsX4_mergeAll wsX4_findBest := goodIn_r _ [6, 1, 7, 8, 5, 9, 10, 11, 12, 13, 14, 15, 16, 17, 18, 19, 20, 21, 22, 23, 24, 25, 26, 27, 28, 29, 30, 31, 32, 33, 34, 35, 36, 37, 38, 39, 40, 41, 42, 43, 44, 45, 46, 47, 48, 49, 78, 79, 80, 81, 82, 83, 84] (by decide +kernel) (by decide +kernel)
set_option maxRecDepth 20000 in
theorem gX4_mergeAll_X4_findBest : GoodIn wsX4_mergeAll (wsV RX4 116 RX4 yX4_findBest wsX4_findBest) := goodIn_app (goodIn_of _ (by decide +kernel)) ggX4_mergeAll_X4_findBest
set_option maxRecDepth 20000 in
theorem ggX4_mergeAll_X4_mergeSet : GoodIn wsX4_mergeAll wsX4_mergeSet := goodIn_r _ [53, 1, 10, 11, 12, 5, 13, 14, 15, 16, 17, 18, 19, 20, 21, 22, 23, 24, 25, 26, 27, 28, 29, 30, 31, 32, 33, 34, 35, 36, 37, 38, 39, 40, 41, 54, 55, 56, 57, 58, 59, 60, 61, 62, 63, 64, 65, 66, 67, 68, 69, 70, 71, 72, 73, 74, 75, 76, 77, 78, 79, 80, 81, 82, 83, 84] (by decide +kernel) (by decide +kernel)
set_option maxRecDepth 20000 in
theorem gX4_mergeAll_X4_mergeSet : GoodIn wsX4_mergeAll (wsV RX4 129 RX4 yX4_mergeSet wsX4_mergeSet) := goodIn_app (goodIn_of _ (by decide +kernel)) ggX4_mergeAll_X4_mergeSet
theorem dX4_mergeAll_0 : decode cX4_mergeAll 0 = .ok (.iconst 0, 1) := by decide +kernel
theorem dX4_mergeAll_1 : decode cX4_mergeAll 1 = .ok (.istore_n 1, 1) := by decide +kernel
theorem dX4_mergeAll_2 : decode cX4_mergeAll 2 = .ok (.aload_n 0, 1) := by decide +kernel
theorem dX4_mergeAll_3 : decode cX4_mergeAll 3 = .ok (.invokevirtual 116, 3) := by decide +kernel
theorem dX4_mergeAll_6 : decode cX4_mergeAll 6 = .ok (.istore_n 2, 1) := by decide +kernel
theorem dX4_mergeAll_7 : decode cX4_mergeAll 7 = .ok (.iload_n 2, 1) := by decide +kernel
theorem dX4_mergeAll_8 : decode cX4_mergeAll 8 = .ok (.ifCond .lt 31, 3) := by decide +kernel
theorem dX4_mergeAll_11 : decode cX4_mergeAll 11 = .ok (.aload_n 0, 1) := by decide +kernel
theorem dX4_mergeAll_12 : decode cX4_mergeAll 12 = .ok (.getfield 7, 3) := by decide +kernel
theorem dX4_mergeAll_15 : decode cX4_mergeAll 15 = .ok (.iconst 0, 1) := by decide +kernel
theorem dX4_mergeAll_16 : decode cX4_mergeAll 16 = .ok (.iaload, 1) := by decide +kernel
theorem dX4_mergeAll_17 : decode cX4_mergeAll 17 = .ok (.bipush 12, 2) := by decide +kernel
theorem dX4_mergeAll_19 : decode cX4_mergeAll 19 = .ok (.if_icmp .ge 20, 3) := by decide +kernel
theorem dX4_mergeAll_22 : decode cX4_mergeAll 22 = .ok (.aload_n 0, 1) := by decide +kernel
theorem dX4_mergeAll_23 : decode cX4_mergeAll 23 = .ok (.iload_n 2, 1) := by decide +kernel
theorem dX4_mergeAll_24 : decode cX4_mergeAll 24 = .ok (.invokevirtual 129, 3) := by decide +kernel
theorem dX4_mergeAll_27 : decode cX4_mergeAll 27 = .ok (.pop, 1) := by decide +kernel
theorem dX4_mergeAll_28 : decode cX4_mergeAll 28 = .ok (.iinc 1 1, 3) := by decide +kernel
theorem dX4_mergeAll_31 : decode cX4_mergeAll 31 = .ok (.aload_n 0, 1) := by decide +kernel
theorem dX4_mergeAll_32 : decode cX4_mergeAll 32 = .ok (.invokevirtual 116, 3) := by decide +kernel
theorem dX4_mergeAll_35 : decode cX4_mergeAll 35 = .ok (.istore_n 2, 1) := by decide +kernel
theorem dX4_mergeAll_36 : decode cX4_mergeAll 36 = .ok (.goto (-29), 3) := by decide +kernel
theorem dX4_mergeAll_39 : decode cX4_mergeAll 39 = .ok (.iload_n 1, 1) := by decide +kernel
theorem dX4_mergeAll_40 : decode cX4_mergeAll 40 = .ok (.ireturn, 1) := by decide +kernel
set_option maxRecDepth 20000 in
theorem ggX4_setRegister_X4_isRegister : GoodIn wsX4_setRegister wsX4_isRegister := goodIn_r _ [5, 6, 7, 4, 8] (by decide +kernel) (by decide +kernel)
set_option maxRecDepth 20000 in
theorem gX4_setRegister_X4_isRegister : GoodIn wsX4_setRegister (va_wsS RX4 45 yX4_isRegister wsX4_isRegister) := goodIn_app (goodIn_of _ (by decide +kernel)) ggX4_setRegister_X4_isRegister
theorem dX4_setRegister_0 : decode cX4_setRegister 0 = .ok (.iload_n 1, 1) := by decide +kernel
theorem dX4_setRegister_1 : decode cX4_setRegister 1 = .ok (.invokestatic 45, 3) := by decide +kernel
theorem dX4_setRegister_4 : decode cX4_setRegister 4 = .ok (.ifCond .ne 7, 3) := by decide +kernel
theorem dX4_setRegister_7 : decode cX4_setRegister 7 = .ok (.sipush (-1003), 3) := by decide +kernel
theorem dX4_setRegister_10 : decode cX4_setRegister 10 = .ok (.ireturn, 1) := by decide +kernel
theorem dX4_setRegister_11 : decode cX4_setRegister 11 = .ok (.aload_n 0, 1) := by decide +kernel
theorem dX4_setRegister_12 : decode cX4_setRegister 12 = .ok (.getfield 7, 3) := by decide +kernel
theorem dX4_setRegister_15 : decode cX4_setRegister 15 = .ok (.iconst 2, 1) := by decide +kernel
theorem dX4_setRegister_16 : decode cX4_setRegister 16 = .ok (.iload_n 1, 1) := by decide +kernel
theorem dX4_setRegister_17 : decode cX4_setRegister 17 = .ok (.iadd, 1) := by decide +kernel
theorem dX4_setRegister_18 : decode cX4_setRegister 18 = .ok (.iload_n 2, 1) := by decide +kernel
theorem dX4_setRegister_19 : decode cX4_setRegister 19 = .ok (.iastore, 1) := by decide +kernel
theorem dX4_setRegister_20 : decode cX4_setRegister 20 = .ok (.iconst 1, 1) := by decide +kernel
theorem dX4_setRegister_21 : decode cX4_setRegister 21 = .ok (.ireturn, 1) := by decide +kernel
theorem dX4_execute_0 : decode cX4_execute 0 = .ok (.aload_n 0, 1) := by decide +kernel
theorem dX4_execute_1 : decode cX4_execute 1 = .ok (.getfield 7, 3) := by decide +kernel
theorem dX4_execute_4 : decode cX4_execute 4 = .ok (.iload_n 1, 1) := by decide +kernel
theorem dX4_execute_5 : decode cX4_execute 5 = .ok (.iconst 1, 1) := by decide +kernel
theorem dX4_execute_6 : decode cX4_execute 6 = .ok (.iadd, 1) := by decide +kernel
theorem dX4_execute_7 : decode cX4_execute 7 = .ok (.iaload, 1) := by decide +kernel
theorem dX4_execute_8 : decode cX4_execute 8 = .ok (.istore_n 2, 1) := by decide +kernel
theorem dX4_execute_9 : decode cX4_execute 9 = .ok (.aload_n 0, 1) := by decide +kernel
theorem dX4_execute_10 : decode cX4_execute 10 = .ok (.getfield 7, 3) := by decide +kernel
theorem dX4_execute_13 : decode cX4_execute 13 = .ok (.iload_n 1, 1) := by decide +kernel
theorem dX4_execute_14 : decode cX4_execute 14 = .ok (.iconst 2, 1) := by decide +kernel
theorem dX4_execute_15 : decode cX4_execute 15 = .ok (.iadd, 1) := by decide +kernel
theorem dX4_execute_16 : decode cX4_execute 16 = .ok (.iaload, 1) := by decide +kernel
theorem dX4_execute_17 : decode cX4_execute 17 = .ok (.istore_n 3, 1) := by decide +kernel
theorem dX4_execute_18 : decode cX4_execute 18 = .ok (.aload_n 0, 1) := by decide +kernel
theorem dX4_execute_19 : decode cX4_execute 19 = .ok (.getfield 7, 3) := by decide +kernel
theorem dX4_execute_22 : decode cX4_execute 22 = .ok (.iload_n 1, 1) := by decide +kernel
theorem dX4_execute_23 : decode cX4_execute 23 = .ok (.iconst 3, 1) := by decide +kernel
theorem dX4_execute_24 : decode cX4_execute 24 = .ok (.iadd, 1) := by decide +kernel
theorem dX4_execute_25 : decode cX4_execute 25 = .ok (.iaload, 1) := by decide +kernel
theorem dX4_execute_26 : decode cX4_execute 26 = .ok (.istore 4, 2) := by decide +kernel
theorem dX4_execute_28 : decode cX4_execute 28 = .ok (.aload_n 0, 1) := by decide +kernel
theorem dX4_execute_29 : decode cX4_execute 29 = .ok (.getfield 7, 3) := by decide +kernel
theorem dX4_execute_32 : decode cX4_execute 32 = .ok (.iload_n 1, 1) := by decide +kernel
theorem dX4_execute_33 : decode cX4_execute 33 = .ok (.iaload, 1) := by decide +kernel
theorem dX4_execute_34 : decode cX4_execute 34 = .ok (.tableswitch 162 0 5 #[38, 48, 63, 86, 109, 132], 38) := by decide +kernel
theorem dX4_execute_72 : decode cX4_execute 72 = .ok (.aload_n 0, 1) := by decide +kernel
theorem dX4_execute_73 : decode cX4_execute 73 = .ok (.getfield 20, 3) := by decide +kernel
theorem dX4_execute_76 : decode cX4_execute 76 = .ok (.iload_n 2, 1) := by decide +kernel
theorem dX4_execute_77 : decode cX4_execute 77 = .ok (.iload_n 3, 1) := by decide +kernel
theorem dX4_execute_78 : decode cX4_execute 78 = .ok (.iastore, 1) := by decide +kernel
theorem dX4_execute_79 : decode cX4_execute 79 = .ok (.goto 142, 3) := by decide +kernel
theorem dX4_execute_82 : decode cX4_execute 82 = .ok (.aload_n 0, 1) := by decide +kernel
theorem dX4_execute_83 : decode cX4_execute 83 = .ok (.getfield 20, 3) := by decide +kernel
theorem dX4_execute_86 : decode cX4_execute 86 = .ok (.iload_n 2, 1) := by decide +kernel
theorem dX4_execute_87 : decode cX4_execute 87 = .ok (.aload_n 0, 1) := by decide +kernel
theorem dX4_execute_88 : decode cX4_execute 88 = .ok (.getfield 20, 3) := by decide +kernel
theorem dX4_execute_91 : decode cX4_execute 91 = .ok (.iload_n 3, 1) := by decide +kernel
theorem dX4_execute_92 : decode cX4_execute 92 = .ok (.iaload, 1) := by decide +kernel
theorem dX4_execute_93 : decode cX4_execute 93 = .ok (.iastore, 1) := by decide +kernel
theorem dX4_execute_94 : decode cX4_execute 94 = .ok (.goto 127, 3) := by decide +kernel
theorem dX4_execute_97 : decode cX4_execute 97 = .ok (.aload_n 0, 1) := by decide +kernel
theorem dX4_execute_98 : decode cX4_execute 98 = .ok (.getfield 20, 3) := by decide +kernel
theorem dX4_execute_101 : decode cX4_execute 101 = .ok (.iload_n 2, 1) := by decide +kernel
theorem dX4_execute_102 : decode cX4_execute 102 = .ok (.aload_n 0, 1) := by decide +kernel
theorem dX4_execute_103 : decode cX4_execute 103 = .ok (.getfield 20, 3) := by decide +kernel
theorem dX4_execute_106 : decode cX4_execute 106 = .ok (.iload_n 3, 1) := by decide +kernel
theorem dX4_execute_107 : decode cX4_execute 107 = .ok (.iaload, 1) := by decide +kernel
theorem dX4_execute_108 : decode cX4_execute 108 = .ok (.aload_n 0, 1) := by decide +kernel
theorem dX4_execute_109 : decode cX4_execute 109 = .ok (.getfield 20, 3) := by decide +kernel
theorem dX4_execute_112 : decode cX4_execute 112 = .ok (.iload 4, 2) := by decide +kernel
theorem dX4_execute_114 : decode cX4_execute 114 = .ok (.iaload, 1) := by decide +kernel
theorem dX4_execute_115 : decode cX4_execute 115 = .ok (.iadd, 1) := by decide +kernel
theorem dX4_execute_116 : decode cX4_execute 116 = .ok (.iastore, 1) := by decide +kernel
theorem dX4_execute_117 : decode cX4_execute 117 = .ok (.goto 104, 3) := by decide +kernel
theorem dX4_execute_120 : decode cX4_execute 120 = .ok (.aload_n 0, 1) := by decide +kernel
theorem dX4_execute_121 : decode cX4_execute 121 = .ok (.getfield 20, 3) := by decide +kernel
theorem dX4_execute_124 : decode cX4_execute 124 = .ok (.iload_n 2, 1) := by decide +kernel
theorem dX4_execute_125 : decode cX4_execute 125 = .ok (.aload_n 0, 1) := by decide +kernel
theorem dX4_execute_126 : decode cX4_execute 126 = .ok (.getfield 20, 3) := by decide +kernel
theorem dX4_execute_129 : decode cX4_execute 129 = .ok (.iload_n 3, 1) := by decide +kernel
theorem dX4_execute_130 : decode cX4_execute 130 = .ok (.iaload, 1) := by decide +kernel
theorem dX4_execute_131 : decode cX4_execute 131 = .ok (.aload_n 0, 1) := by decide +kernel
theorem dX4_execute_132 : decode cX4_execute 132 = .ok (.getfield 20, 3) := by decide +kernel
theorem dX4_execute_135 : decode cX4_execute 135 = .ok (.iload 4, 2) := by decide +kernel
theorem dX4_execute_137 : decode cX4_execute 137 = .ok (.iaload, 1) := by decide +kernel
theorem dX4_execute_138 : decode cX4_execute 138 = .ok (.isub, 1) := by decide +kernel
theorem dX4_execute_139 : decode cX4_execute 139 = .ok (.iastore, 1) := by decide +kernel
theorem dX4_execute_140 : decode cX4_execute 140 = .ok (.goto 81, 3) := by decide +kernel
theorem dX4_execute_143 : decode cX4_execute 143 = .ok (.aload_n 0, 1) := by decide +kernel
theorem dX4_execute_144 : decode cX4_execute 144 = .ok (.getfield 20, 3) := by decide +kernel
theorem dX4_execute_147 : decode cX4_execute 147 = .ok (.iload_n 2, 1) := by decide +kernel
theorem dX4_execute_148 : decode cX4_execute 148 = .ok (.aload_n 0, 1) := by decide +kernel
theorem dX4_execute_149 : decode cX4_execute 149 = .ok (.getfield 20, 3) := by decide +kernel
theorem dX4_execute_152 : decode cX4_execute 152 = .ok (.iload_n 3, 1) := by decide +kernel
theorem dX4_execute_153 : decode cX4_execute 153 = .ok (.iaload, 1) := by decide +kernel
theorem dX4_execute_154 : decode cX4_execute 154 = .ok (.aload_n 0, 1) := by decide +kernel
theorem dX4_execute_155 : decode cX4_execute 155 = .ok (.getfield 20, 3) := by decide +kernel
theorem dX4_execute_158 : decode cX4_execute 158 = .ok (.iload 4, 2) := by decide +kernel
theorem dX4_execute_160 : decode cX4_execute 160 = .ok (.iaload, 1) := by decide +kernel
theorem dX4_execute_161 : decode cX4_execute 161 = .ok (.imul, 1) := by decide +kernel
theorem dX4_execute_162 : decode cX4_execute 162 = .ok (.iastore, 1) := by decide +kernel
theorem dX4_execute_163 : decode cX4_execute 163 = .ok (.goto 58, 3) := by decide +kernel
theorem dX4_execute_166 : decode cX4_execute 166 = .ok (.aload_n 0, 1) := by decide +kernel
theorem dX4_execute_167 : decode cX4_execute 167 = .ok (.getfield 20, 3) := by decide +kernel
theorem dX4_execute_170 : decode cX4_execute 170 = .ok (.iload_n 2, 1) := by decide +kernel
theorem dX4_execute_171 : decode cX4_execute 171 = .ok (.aload_n 0, 1) := by decide +kernel
theorem dX4_execute_172 : decode cX4_execute 172 = .ok (.getfield 20, 3) := by decide +kernel
theorem dX4_execute_175 : decode cX4_execute 175 = .ok (.iload_n 3, 1) := by decide +kernel
theorem dX4_execute_176 : decode cX4_execute 176 = .ok (.iaload, 1) := by decide +kernel
theorem dX4_execute_177 : decode cX4_execute 177 = .ok (.aload_n 0, 1) := by decide +kernel
theorem dX4_execute_178 : decode cX4_execute 178 = .ok (.getfield 20, 3) := by decide +kernel
theorem dX4_execute_181 : decode cX4_execute 181 = .ok (.iload 4, 2) := by decide +kernel
theorem dX4_execute_183 : decode cX4_execute 183 = .ok (.iaload, 1) := by decide +kernel
theorem dX4_execute_184 : decode cX4_execute 184 = .ok (.if_icmp .ge 7, 3) := by decide +kernel
theorem dX4_execute_187 : decode cX4_execute 187 = .ok (.iconst 1, 1) := by decide +kernel
theorem dX4_execute_188 : decode cX4_execute 188 = .ok (.goto 4, 3) := by decide +kernel
theorem dX4_execute_191 : decode cX4_execute 191 = .ok (.iconst 0, 1) := by decide +kernel
theorem dX4_execute_192 : decode cX4_execute 192 = .ok (.iastore, 1) := by decide +kernel
theorem dX4_execute_193 : decode cX4_execute 193 = .ok (.goto 28, 3) := by decide +kernel
theorem dX4_execute_196 : decode cX4_execute 196 = .ok (.aload_n 0, 1) := by decide +kernel
theorem dX4_execute_197 : decode cX4_execute 197 = .ok (.getfield 23, 3) := by decide +kernel
theorem dX4_execute_200 : decode cX4_execute 200 = .ok (.aload_n 0, 1) := by decide +kernel
theorem dX4_execute_201 : decode cX4_execute 201 = .ok (.getfield 136, 3) := by decide +kernel
theorem dX4_execute_204 : decode cX4_execute 204 = .ok (.aload_n 0, 1) := by decide +kernel
theorem dX4_execute_205 : decode cX4_execute 205 = .ok (.getfield 20, 3) := by decide +kernel
theorem dX4_execute_208 : decode cX4_execute 208 = .ok (.iload_n 3, 1) := by decide +kernel
theorem dX4_execute_209 : decode cX4_execute 209 = .ok (.iaload, 1) := by decide +kernel
theorem dX4_execute_210 : decode cX4_execute 210 = .ok (.iastore, 1) := by decide +kernel
theorem dX4_execute_211 : decode cX4_execute 211 = .ok (.aload_n 0, 1) := by decide +kernel
theorem dX4_execute_212 : decode cX4_execute 212 = .ok (.dup, 1) := by decide +kernel
theorem dX4_execute_213 : decode cX4_execute 213 = .ok (.getfield 136, 3) := by decide +kernel
theorem dX4_execute_216 : decode cX4_execute 216 = .ok (.iconst 1, 1) := by decide +kernel
theorem dX4_execute_217 : decode cX4_execute 217 = .ok (.iadd, 1) := by decide +kernel
theorem dX4_execute_218 : decode cX4_execute 218 = .ok (.putfield 136, 3) := by decide +kernel
theorem dX4_execute_221 : decode cX4_execute 221 = .ok (.return_, 1) := by decide +kernel
set_option maxRecDepth 20000 in
theorem ggX4_nextOf_X4_end : GoodIn wsX4_nextOf wsX4_end := goodIn_r _ [6, 7, 8, 5, 9] (by decide +kernel) (by decide +kernel)
set_option maxRecDepth 20000 in
theorem gX4_nextOf_X4_end : GoodIn wsX4_nextOf (va_wsS RX4 34 yX4_end wsX4_end) := goodIn_app (goodIn_of _ (by decide +kernel)) ggX4_nextOf_X4_end
theorem dX4_nextOf_0 : decode cX4_nextOf 0 = .ok (.iload_n 1, 1) := by decide +kernel
theorem dX4_nextOf_1 : decode cX4_nextOf 1 = .ok (.invokestatic 34, 3) := by decide +kernel
theorem dX4_nextOf_4 : decode cX4_nextOf 4 = .ok (.istore_n 2, 1) := by decide +kernel
theorem dX4_nextOf_5 : decode cX4_nextOf 5 = .ok (.aload_n 0, 1) := by decide +kernel
theorem dX4_nextOf_6 : decode cX4_nextOf 6 = .ok (.getfield 7, 3) := by decide +kernel
theorem dX4_nextOf_9 : decode cX4_nextOf 9 = .ok (.iload_n 2, 1) := by decide +kernel
theorem dX4_nextOf_10 : decode cX4_nextOf 10 = .ok (.iaload, 1) := by decide +kernel
theorem dX4_nextOf_11 : decode cX4_nextOf 11 = .ok (.lookupswitch 70 #[(0, 25), (1, 34)], 25) := by decide +kernel
theorem dX4_nextOf_36 : decode cX4_nextOf 36 = .ok (.aload_n 0, 1) := by decide +kernel
theorem dX4_nextOf_37 : decode cX4_nextOf 37 = .ok (.getfield 7, 3) := by decide +kernel
theorem dX4_nextOf_40 : decode cX4_nextOf 40 = .ok (.iload_n 2, 1) := by decide +kernel
theorem dX4_nextOf_41 : decode cX4_nextOf 41 = .ok (.iconst 1, 1) := by decide +kernel
theorem dX4_nextOf_42 : decode cX4_nextOf 42 = .ok (.iadd, 1) := by decide +kernel
theorem dX4_nextOf_43 : decode cX4_nextOf 43 = .ok (.iaload, 1) := by decide +kernel
theorem dX4_nextOf_44 : decode cX4_nextOf 44 = .ok (.ireturn, 1) := by decide +kernel
theorem dX4_nextOf_45 : decode cX4_nextOf 45 = .ok (.aload_n 0, 1) := by decide +kernel
theorem dX4_nextOf_46 : decode cX4_nextOf 46 = .ok (.getfield 20, 3) := by decide +kernel
theorem dX4_nextOf_49 : decode cX4_nextOf 49 = .ok (.aload_n 0, 1) := by decide +kernel
theorem dX4_nextOf_50 : decode cX4_nextOf 50 = .ok (.getfield 7, 3) := by decide +kernel
theorem dX4_nextOf_53 : decode cX4_nextOf 53 = .ok (.iload_n 2, 1) := by decide +kernel
theorem dX4_nextOf_54 : decode cX4_nextOf 54 = .ok (.iconst 1, 1) := by decide +kernel
theorem dX4_nextOf_55 : decode cX4_nextOf 55 = .ok (.iadd, 1) := by decide +kernel
theorem dX4_nextOf_56 : decode cX4_nextOf 56 = .ok (.iaload, 1) := by decide +kernel
theorem dX4_nextOf_57 : decode cX4_nextOf 57 = .ok (.iaload, 1) := by decide +kernel
theorem dX4_nextOf_58 : decode cX4_nextOf 58 = .ok (.ifCond .eq 14, 3) := by decide +kernel
theorem dX4_nextOf_61 : decode cX4_nextOf 61 = .ok (.aload_n 0, 1) := by decide +kernel
theorem dX4_nextOf_62 : decode cX4_nextOf 62 = .ok (.getfield 7, 3) := by decide +kernel
theorem dX4_nextOf_65 : decode cX4_nextOf 65 = .ok (.iload_n 2, 1) := by decide +kernel
theorem dX4_nextOf_66 : decode cX4_nextOf 66 = .ok (.iconst 2, 1) := by decide +kernel
theorem dX4_nextOf_67 : decode cX4_nextOf 67 = .ok (.iadd, 1) := by decide +kernel
theorem dX4_nextOf_68 : decode cX4_nextOf 68 = .ok (.iaload, 1) := by decide +kernel
theorem dX4_nextOf_69 : decode cX4_nextOf 69 = .ok (.goto 11, 3) := by decide +kernel
theorem dX4_nextOf_72 : decode cX4_nextOf 72 = .ok (.aload_n 0, 1) := by decide +kernel
theorem dX4_nextOf_73 : decode cX4_nextOf 73 = .ok (.getfield 7, 3) := by decide +kernel
theorem dX4_nextOf_76 : decode cX4_nextOf 76 = .ok (.iload_n 2, 1) := by decide +kernel
theorem dX4_nextOf_77 : decode cX4_nextOf 77 = .ok (.iconst 3, 1) := by decide +kernel
theorem dX4_nextOf_78 : decode cX4_nextOf 78 = .ok (.iadd, 1) := by decide +kernel
theorem dX4_nextOf_79 : decode cX4_nextOf 79 = .ok (.iaload, 1) := by decide +kernel
theorem dX4_nextOf_80 : decode cX4_nextOf 80 = .ok (.ireturn, 1) := by decide +kernel
theorem dX4_nextOf_81 : decode cX4_nextOf 81 = .ok (.sipush (-1008), 3) := by decide +kernel
theorem dX4_nextOf_84 : decode cX4_nextOf 84 = .ok (.ireturn, 1) := by decide +kernel
set_option maxRecDepth 20000 in
theorem ggX4_run_X4_in : GoodIn wsX4_run wsX4_in := goodIn_r _ [7] (by decide +kernel) (by decide +kernel)
set_option maxRecDepth 20000 in
theorem gX4_run_X4_in : GoodIn wsX4_run (va_wsS RX4 26 yX4_in wsX4_in) := goodIn_app (goodIn_of _ (by decide +kernel)) ggX4_run_X4_in
set_option maxRecDepth 20000 in
theorem ggX4_run_X4_many : GoodIn wsX4_run wsX4_many := goodIn_r _ [11, 1, 12, 13, 6, 14, 30, 31, 32, 33, 34, 35, 36] (by decide +kernel) (by decide +kernel)
set_option maxRecDepth 20000 in
theorem gX4_run_X4_many : GoodIn wsX4_run (wsV RX4 49 RX4 yX4_many wsX4_many) := goodIn_app (goodIn_of _ (by decide +kernel)) ggX4_run_X4_many
set_option maxRecDepth 20000 in
theorem ggX4_run_X4_at : GoodIn wsX4_run wsX4_at := goodIn_r _ [17, 12, 13, 6, 14] (by decide +kernel) (by decide +kernel)
set_option maxRecDepth 20000 in
theorem gX4_run_X4_at : GoodIn wsX4_run (va_wsS RX4 52 yX4_at wsX4_at) := goodIn_app (goodIn_of _ (by decide +kernel)) ggX4_run_X4_at
set_option maxRecDepth 20000 in
theorem ggX4_run_X4_execute : GoodIn wsX4_run wsX4_execute := goodIn_r _ [21, 1, 2, 22, 3, 30, 31, 32, 33, 34, 35, 36] (by decide +kernel) (by decide +kernel)
set_option maxRecDepth 20000 in
theorem gX4_run_X4_execute : GoodIn wsX4_run (wsV RX4 139 RX4 yX4_execute wsX4_execute) := goodIn_app (goodIn_of _ (by decide +kernel)) ggX4_run_X4_execute
set_option maxRecDepth 20000 in
theorem ggX4_run_X4_nextOf : GoodIn wsX4_run wsX4_nextOf := goodIn_r _ [26, 1, 2, 27, 28, 6, 29, 12, 13, 14, 30, 31, 32, 33, 34, 35, 36] (by decide +kernel) (by decide +kernel)
set_option maxRecDepth 20000 in
theorem gX4_run_X4_nextOf : GoodIn wsX4_run (wsV RX4 143 RX4 yX4_nextOf wsX4_nextOf) := goodIn_app (goodIn_of _ (by decide +kernel)) ggX4_run_X4_nextOf
theorem dX4_run_0 : decode cX4_run 0 = .ok (.iload_n 1, 1) := by decide +kernel
theorem dX4_run_1 : decode cX4_run 1 = .ok (.iconst 1, 1) := by decide +kernel
theorem dX4_run_2 : decode cX4_run 2 = .ok (.sipush 1000, 3) := by decide +kernel
theorem dX4_run_5 : decode cX4_run 5 = .ok (.invokestatic 26, 3) := by decide +kernel
theorem dX4_run_8 : decode cX4_run 8 = .ok (.ifCond .ne 7, 3) := by decide +kernel
theorem dX4_run_11 : decode cX4_run 11 = .ok (.sipush (-1003), 3) := by decide +kernel
theorem dX4_run_14 : decode cX4_run 14 = .ok (.ireturn, 1) := by decide +kernel
theorem dX4_run_15 : decode cX4_run 15 = .ok (.aload_n 0, 1) := by decide +kernel
theorem dX4_run_16 : decode cX4_run 16 = .ok (.getfield 7, 3) := by decide +kernel
theorem dX4_run_19 : decode cX4_run 19 = .ok (.iconst 0, 1) := by decide +kernel
theorem dX4_run_20 : decode cX4_run 20 = .ok (.iaload, 1) := by decide +kernel
theorem dX4_run_21 : decode cX4_run 21 = .ok (.ifCond .ne 7, 3) := by decide +kernel
theorem dX4_run_24 : decode cX4_run 24 = .ok (.sipush (-1001), 3) := by decide +kernel
theorem dX4_run_27 : decode cX4_run 27 = .ok (.ireturn, 1) := by decide +kernel
theorem dX4_run_28 : decode cX4_run 28 = .ok (.iconst 0, 1) := by decide +kernel
theorem dX4_run_29 : decode cX4_run 29 = .ok (.istore_n 2, 1) := by decide +kernel
theorem dX4_run_30 : decode cX4_run 30 = .ok (.iload_n 2, 1) := by decide +kernel
theorem dX4_run_31 : decode cX4_run 31 = .ok (.bipush 8, 2) := by decide +kernel
theorem dX4_run_33 : decode cX4_run 33 = .ok (.if_icmp .ge 33, 3) := by decide +kernel
theorem dX4_run_36 : decode cX4_run 36 = .ok (.aload_n 0, 1) := by decide +kernel
theorem dX4_run_37 : decode cX4_run 37 = .ok (.getfield 20, 3) := by decide +kernel
theorem dX4_run_40 : decode cX4_run 40 = .ok (.iload_n 2, 1) := by decide +kernel
theorem dX4_run_41 : decode cX4_run 41 = .ok (.iload_n 2, 1) := by decide +kernel
theorem dX4_run_42 : decode cX4_run 42 = .ok (.bipush 7, 2) := by decide +kernel
theorem dX4_run_44 : decode cX4_run 44 = .ok (.if_icmp .ge 14, 3) := by decide +kernel
theorem dX4_run_47 : decode cX4_run 47 = .ok (.aload_n 0, 1) := by decide +kernel
theorem dX4_run_48 : decode cX4_run 48 = .ok (.getfield 7, 3) := by decide +kernel
theorem dX4_run_51 : decode cX4_run 51 = .ok (.iconst 2, 1) := by decide +kernel
theorem dX4_run_52 : decode cX4_run 52 = .ok (.iload_n 2, 1) := by decide +kernel
theorem dX4_run_53 : decode cX4_run 53 = .ok (.iadd, 1) := by decide +kernel
theorem dX4_run_54 : decode cX4_run 54 = .ok (.iaload, 1) := by decide +kernel
theorem dX4_run_55 : decode cX4_run 55 = .ok (.goto 4, 3) := by decide +kernel
theorem dX4_run_58 : decode cX4_run 58 = .ok (.iconst 0, 1) := by decide +kernel
theorem dX4_run_59 : decode cX4_run 59 = .ok (.iastore, 1) := by decide +kernel
theorem dX4_run_60 : decode cX4_run 60 = .ok (.iinc 2 1, 3) := by decide +kernel
theorem dX4_run_63 : decode cX4_run 63 = .ok (.goto (-33), 3) := by decide +kernel
theorem dX4_run_66 : decode cX4_run 66 = .ok (.aload_n 0, 1) := by decide +kernel
theorem dX4_run_67 : decode cX4_run 67 = .ok (.iconst 0, 1) := by decide +kernel
theorem dX4_run_68 : decode cX4_run 68 = .ok (.putfield 136, 3) := by decide +kernel
theorem dX4_run_71 : decode cX4_run 71 = .ok (.iconst 0, 1) := by decide +kernel
theorem dX4_run_72 : decode cX4_run 72 = .ok (.istore_n 2, 1) := by decide +kernel
theorem dX4_run_73 : decode cX4_run 73 = .ok (.iconst 0, 1) := by decide +kernel
theorem dX4_run_74 : decode cX4_run 74 = .ok (.istore_n 3, 1) := by decide +kernel
theorem dX4_run_75 : decode cX4_run 75 = .ok (.iconst 1, 1) := by decide +kernel
theorem dX4_run_76 : decode cX4_run 76 = .ok (.istore 4, 2) := by decide +kernel
theorem dX4_run_78 : decode cX4_run 78 = .ok (.iload 4, 2) := by decide +kernel
theorem dX4_run_80 : decode cX4_run 80 = .ok (.iload_n 1, 1) := by decide +kernel
theorem dX4_run_81 : decode cX4_run 81 = .ok (.if_icmp .gt 48, 3) := by decide +kernel
theorem dX4_run_84 : decode cX4_run 84 = .ok (.iload_n 3, 1) := by decide +kernel
theorem dX4_run_85 : decode cX4_run 85 = .ok (.aload_n 0, 1) := by decide +kernel
theorem dX4_run_86 : decode cX4_run 86 = .ok (.iload_n 2, 1) := by decide +kernel
theorem dX4_run_87 : decode cX4_run 87 = .ok (.invokevirtual 49, 3) := by decide +kernel
theorem dX4_run_90 : decode cX4_run 90 = .ok (.if_icmp .ge 18, 3) := by decide +kernel
theorem dX4_run_93 : decode cX4_run 93 = .ok (.aload_n 0, 1) := by decide +kernel
theorem dX4_run_94 : decode cX4_run 94 = .ok (.iload_n 2, 1) := by decide +kernel
theorem dX4_run_95 : decode cX4_run 95 = .ok (.iload_n 3, 1) := by decide +kernel
theorem dX4_run_96 : decode cX4_run 96 = .ok (.invokestatic 52, 3) := by decide +kernel
theorem dX4_run_99 : decode cX4_run 99 = .ok (.invokevirtual 139, 3) := by decide +kernel
theorem dX4_run_102 : decode cX4_run 102 = .ok (.iinc 3 1, 3) := by decide +kernel
theorem dX4_run_105 : decode cX4_run 105 = .ok (.goto 18, 3) := by decide +kernel
theorem dX4_run_108 : decode cX4_run 108 = .ok (.aload_n 0, 1) := by decide +kernel
theorem dX4_run_109 : decode cX4_run 109 = .ok (.iload_n 2, 1) := by decide +kernel
theorem dX4_run_110 : decode cX4_run 110 = .ok (.invokevirtual 143, 3) := by decide +kernel
theorem dX4_run_113 : decode cX4_run 113 = .ok (.istore_n 2, 1) := by decide +kernel
theorem dX4_run_114 : decode cX4_run 114 = .ok (.iconst 0, 1) := by decide +kernel
theorem dX4_run_115 : decode cX4_run 115 = .ok (.istore_n 3, 1) := by decide +kernel
theorem dX4_run_116 : decode cX4_run 116 = .ok (.iload_n 2, 1) := by decide +kernel
theorem dX4_run_117 : decode cX4_run 117 = .ok (.ifCond .ge 6, 3) := by decide +kernel
theorem dX4_run_120 : decode cX4_run 120 = .ok (.iload 4, 2) := by decide +kernel
theorem dX4_run_122 : decode cX4_run 122 = .ok (.ireturn, 1) := by decide +kernel
theorem dX4_run_123 : decode cX4_run 123 = .ok (.iinc 4 1, 3) := by decide +kernel
theorem dX4_run_126 : decode cX4_run 126 = .ok (.goto (-48), 3) := by decide +kernel
theorem dX4_run_129 : decode cX4_run 129 = .ok (.sipush (-1007), 3) := by decide +kernel
theorem dX4_run_132 : decode cX4_run 132 = .ok (.ireturn, 1) := by decide +kernel
theorem dX4_traceLength_0 : decode cX4_traceLength 0 = .ok (.aload_n 0, 1) := by decide +kernel
theorem dX4_traceLength_1 : decode cX4_traceLength 1 = .ok (.getfield 136, 3) := by decide +kernel
theorem dX4_traceLength_4 : decode cX4_traceLength 4 = .ok (.ireturn, 1) := by decide +kernel
set_option maxRecDepth 20000 in
theorem ggX4_trace_X4_in : GoodIn wsX4_trace wsX4_in := goodIn_r _ [6] (by decide +kernel) (by decide +kernel)
set_option maxRecDepth 20000 in
theorem gX4_trace_X4_in : GoodIn wsX4_trace (va_wsS RX4 26 yX4_in wsX4_in) := goodIn_app (goodIn_of _ (by decide +kernel)) ggX4_trace_X4_in
theorem dX4_trace_0 : decode cX4_trace 0 = .ok (.iload_n 1, 1) := by decide +kernel
theorem dX4_trace_1 : decode cX4_trace 1 = .ok (.iconst 0, 1) := by decide +kernel
theorem dX4_trace_2 : decode cX4_trace 2 = .ok (.aload_n 0, 1) := by decide +kernel
theorem dX4_trace_3 : decode cX4_trace 3 = .ok (.getfield 136, 3) := by decide +kernel
theorem dX4_trace_6 : decode cX4_trace 6 = .ok (.iconst 1, 1) := by decide +kernel
theorem dX4_trace_7 : decode cX4_trace 7 = .ok (.isub, 1) := by decide +kernel
theorem dX4_trace_8 : decode cX4_trace 8 = .ok (.invokestatic 26, 3) := by decide +kernel
theorem dX4_trace_11 : decode cX4_trace 11 = .ok (.ifCond .eq 12, 3) := by decide +kernel
theorem dX4_trace_14 : decode cX4_trace 14 = .ok (.aload_n 0, 1) := by decide +kernel
theorem dX4_trace_15 : decode cX4_trace 15 = .ok (.getfield 23, 3) := by decide +kernel
theorem dX4_trace_18 : decode cX4_trace 18 = .ok (.iload_n 1, 1) := by decide +kernel
theorem dX4_trace_19 : decode cX4_trace 19 = .ok (.iaload, 1) := by decide +kernel
theorem dX4_trace_20 : decode cX4_trace 20 = .ok (.goto 4, 3) := by decide +kernel
theorem dX4_trace_23 : decode cX4_trace 23 = .ok (.iconst 0, 1) := by decide +kernel
theorem dX4_trace_24 : decode cX4_trace 24 = .ok (.ireturn, 1) := by decide +kernel
set_option maxRecDepth 20000 in
theorem ggX4_register_X4_in : GoodIn wsX4_register wsX4_in := goodIn_r _ [5] (by decide +kernel) (by decide +kernel)
set_option maxRecDepth 20000 in
theorem gX4_register_X4_in : GoodIn wsX4_register (va_wsS RX4 26 yX4_in wsX4_in) := goodIn_app (goodIn_of _ (by decide +kernel)) ggX4_register_X4_in
theorem dX4_register_0 : decode cX4_register 0 = .ok (.iload_n 1, 1) := by decide +kernel
theorem dX4_register_1 : decode cX4_register 1 = .ok (.iconst 0, 1) := by decide +kernel
theorem dX4_register_2 : decode cX4_register 2 = .ok (.bipush 7, 2) := by decide +kernel
theorem dX4_register_4 : decode cX4_register 4 = .ok (.invokestatic 26, 3) := by decide +kernel
theorem dX4_register_7 : decode cX4_register 7 = .ok (.ifCond .eq 12, 3) := by decide +kernel
theorem dX4_register_10 : decode cX4_register 10 = .ok (.aload_n 0, 1) := by decide +kernel
theorem dX4_register_11 : decode cX4_register 11 = .ok (.getfield 20, 3) := by decide +kernel
theorem dX4_register_14 : decode cX4_register 14 = .ok (.iload_n 1, 1) := by decide +kernel
theorem dX4_register_15 : decode cX4_register 15 = .ok (.iaload, 1) := by decide +kernel
theorem dX4_register_16 : decode cX4_register 16 = .ok (.goto 4, 3) := by decide +kernel
theorem dX4_register_19 : decode cX4_register 19 = .ok (.iconst 0, 1) := by decide +kernel
theorem dX4_register_20 : decode cX4_register 20 = .ok (.ireturn, 1) := by decide +kernel
set_option maxRecDepth 20000 in
theorem ggX4_save_X4_in : GoodIn wsX4_save wsX4_in := goodIn_r _ [7] (by decide +kernel) (by decide +kernel)
set_option maxRecDepth 20000 in
theorem gX4_save_X4_in : GoodIn wsX4_save (va_wsS RX4 26 yX4_in wsX4_in) := goodIn_app (goodIn_of _ (by decide +kernel)) ggX4_save_X4_in
theorem dX4_save_0 : decode cX4_save 0 = .ok (.iload_n 1, 1) := by decide +kernel
theorem dX4_save_1 : decode cX4_save 1 = .ok (.iconst 0, 1) := by decide +kernel
theorem dX4_save_2 : decode cX4_save 2 = .ok (.iconst 1, 1) := by decide +kernel
theorem dX4_save_3 : decode cX4_save 3 = .ok (.invokestatic 26, 3) := by decide +kernel
theorem dX4_save_6 : decode cX4_save 6 = .ok (.ifCond .ne 7, 3) := by decide +kernel
theorem dX4_save_9 : decode cX4_save 9 = .ok (.sipush (-1003), 3) := by decide +kernel
theorem dX4_save_12 : decode cX4_save 12 = .ok (.ireturn, 1) := by decide +kernel
theorem dX4_save_13 : decode cX4_save 13 = .ok (.iconst 0, 1) := by decide +kernel
theorem dX4_save_14 : decode cX4_save 14 = .ok (.istore_n 2, 1) := by decide +kernel
theorem dX4_save_15 : decode cX4_save 15 = .ok (.iload_n 2, 1) := by decide +kernel
theorem dX4_save_16 : decode cX4_save 16 = .ok (.sipush 670, 3) := by decide +kernel
theorem dX4_save_19 : decode cX4_save 19 = .ok (.if_icmp .ge 27, 3) := by decide +kernel
theorem dX4_save_22 : decode cX4_save 22 = .ok (.aload_n 0, 1) := by decide +kernel
theorem dX4_save_23 : decode cX4_save 23 = .ok (.getfield 13, 3) := by decide +kernel
theorem dX4_save_26 : decode cX4_save 26 = .ok (.sipush 670, 3) := by decide +kernel
theorem dX4_save_29 : decode cX4_save 29 = .ok (.iload_n 1, 1) := by decide +kernel
theorem dX4_save_30 : decode cX4_save 30 = .ok (.imul, 1) := by decide +kernel
theorem dX4_save_31 : decode cX4_save 31 = .ok (.iload_n 2, 1) := by decide +kernel
theorem dX4_save_32 : decode cX4_save 32 = .ok (.iadd, 1) := by decide +kernel
theorem dX4_save_33 : decode cX4_save 33 = .ok (.aload_n 0, 1) := by decide +kernel
theorem dX4_save_34 : decode cX4_save 34 = .ok (.getfield 7, 3) := by decide +kernel
theorem dX4_save_37 : decode cX4_save 37 = .ok (.iload_n 2, 1) := by decide +kernel
theorem dX4_save_38 : decode cX4_save 38 = .ok (.iaload, 1) := by decide +kernel
theorem dX4_save_39 : decode cX4_save 39 = .ok (.iastore, 1) := by decide +kernel
theorem dX4_save_40 : decode cX4_save 40 = .ok (.iinc 2 1, 3) := by decide +kernel
theorem dX4_save_43 : decode cX4_save 43 = .ok (.goto (-28), 3) := by decide +kernel
theorem dX4_save_46 : decode cX4_save 46 = .ok (.aload_n 0, 1) := by decide +kernel
theorem dX4_save_47 : decode cX4_save 47 = .ok (.getfield 16, 3) := by decide +kernel
theorem dX4_save_50 : decode cX4_save 50 = .ok (.iload_n 1, 1) := by decide +kernel
theorem dX4_save_51 : decode cX4_save 51 = .ok (.iconst 1, 1) := by decide +kernel
theorem dX4_save_52 : decode cX4_save 52 = .ok (.bastore, 1) := by decide +kernel
theorem dX4_save_53 : decode cX4_save 53 = .ok (.iconst 1, 1) := by decide +kernel
theorem dX4_save_54 : decode cX4_save 54 = .ok (.ireturn, 1) := by decide +kernel
set_option maxRecDepth 20000 in
theorem ggX4_restore_X4_in : GoodIn wsX4_restore wsX4_in := goodIn_r _ [7] (by decide +kernel) (by decide +kernel)
set_option maxRecDepth 20000 in
theorem gX4_restore_X4_in : GoodIn wsX4_restore (va_wsS RX4 26 yX4_in wsX4_in) := goodIn_app (goodIn_of _ (by decide +kernel)) ggX4_restore_X4_in
theorem dX4_restore_0 : decode cX4_restore 0 = .ok (.iload_n 1, 1) := by decide +kernel
theorem dX4_restore_1 : decode cX4_restore 1 = .ok (.iconst 0, 1) := by decide +kernel
theorem dX4_restore_2 : decode cX4_restore 2 = .ok (.iconst 1, 1) := by decide +kernel
theorem dX4_restore_3 : decode cX4_restore 3 = .ok (.invokestatic 26, 3) := by decide +kernel
theorem dX4_restore_6 : decode cX4_restore 6 = .ok (.ifCond .ne 7, 3) := by decide +kernel
theorem dX4_restore_9 : decode cX4_restore 9 = .ok (.sipush (-1003), 3) := by decide +kernel
theorem dX4_restore_12 : decode cX4_restore 12 = .ok (.ireturn, 1) := by decide +kernel
theorem dX4_restore_13 : decode cX4_restore 13 = .ok (.aload_n 0, 1) := by decide +kernel
theorem dX4_restore_14 : decode cX4_restore 14 = .ok (.getfield 16, 3) := by decide +kernel
theorem dX4_restore_17 : decode cX4_restore 17 = .ok (.iload_n 1, 1) := by decide +kernel
theorem dX4_restore_18 : decode cX4_restore 18 = .ok (.baload, 1) := by decide +kernel
theorem dX4_restore_19 : decode cX4_restore 19 = .ok (.ifCond .ne 7, 3) := by decide +kernel
theorem dX4_restore_22 : decode cX4_restore 22 = .ok (.sipush (-1009), 3) := by decide +kernel
theorem dX4_restore_25 : decode cX4_restore 25 = .ok (.ireturn, 1) := by decide +kernel
theorem dX4_restore_26 : decode cX4_restore 26 = .ok (.iconst 0, 1) := by decide +kernel
theorem dX4_restore_27 : decode cX4_restore 27 = .ok (.istore_n 2, 1) := by decide +kernel
theorem dX4_restore_28 : decode cX4_restore 28 = .ok (.iload_n 2, 1) := by decide +kernel
theorem dX4_restore_29 : decode cX4_restore 29 = .ok (.sipush 670, 3) := by decide +kernel
theorem dX4_restore_32 : decode cX4_restore 32 = .ok (.if_icmp .ge 27, 3) := by decide +kernel
theorem dX4_restore_35 : decode cX4_restore 35 = .ok (.aload_n 0, 1) := by decide +kernel
theorem dX4_restore_36 : decode cX4_restore 36 = .ok (.getfield 7, 3) := by decide +kernel
theorem dX4_restore_39 : decode cX4_restore 39 = .ok (.iload_n 2, 1) := by decide +kernel
theorem dX4_restore_40 : decode cX4_restore 40 = .ok (.aload_n 0, 1) := by decide +kernel
theorem dX4_restore_41 : decode cX4_restore 41 = .ok (.getfield 13, 3) := by decide +kernel
theorem dX4_restore_44 : decode cX4_restore 44 = .ok (.sipush 670, 3) := by decide +kernel
theorem dX4_restore_47 : decode cX4_restore 47 = .ok (.iload_n 1, 1) := by decide +kernel
theorem dX4_restore_48 : decode cX4_restore 48 = .ok (.imul, 1) := by decide +kernel
theorem dX4_restore_49 : decode cX4_restore 49 = .ok (.iload_n 2, 1) := by decide +kernel
theorem dX4_restore_50 : decode cX4_restore 50 = .ok (.iadd, 1) := by decide +kernel
theorem dX4_restore_51 : decode cX4_restore 51 = .ok (.iaload, 1) := by decide +kernel
theorem dX4_restore_52 : decode cX4_restore 52 = .ok (.iastore, 1) := by decide +kernel
theorem dX4_restore_53 : decode cX4_restore 53 = .ok (.iinc 2 1, 3) := by decide +kernel
theorem dX4_restore_56 : decode cX4_restore 56 = .ok (.goto (-28), 3) := by decide +kernel
theorem dX4_restore_59 : decode cX4_restore 59 = .ok (.iconst 1, 1) := by decide +kernel
theorem dX4_restore_60 : decode cX4_restore 60 = .ok (.ireturn, 1) := by decide +kernel
theorem dJ6_bitCount_0f7a4_0 : decode cJ6_bitCount_0f7a4 0 = .ok (.iload_n 0, 1) := by decide +kernel
theorem dJ6_bitCount_0f7a4_1 : decode cJ6_bitCount_0f7a4 1 = .ok (.iload_n 0, 1) := by decide +kernel
theorem dJ6_bitCount_0f7a4_2 : decode cJ6_bitCount_0f7a4 2 = .ok (.iconst 1, 1) := by decide +kernel
theorem dJ6_bitCount_0f7a4_3 : decode cJ6_bitCount_0f7a4 3 = .ok (.iushr, 1) := by decide +kernel
theorem dJ6_bitCount_0f7a4_4 : decode cJ6_bitCount_0f7a4 4 = .ok (.ldc_w 265, 3) := by decide +kernel
theorem dJ6_bitCount_0f7a4_7 : decode cJ6_bitCount_0f7a4 7 = .ok (.iand, 1) := by decide +kernel
theorem dJ6_bitCount_0f7a4_8 : decode cJ6_bitCount_0f7a4 8 = .ok (.isub, 1) := by decide +kernel
theorem dJ6_bitCount_0f7a4_9 : decode cJ6_bitCount_0f7a4 9 = .ok (.istore_n 0, 1) := by decide +kernel
theorem dJ6_bitCount_0f7a4_10 : decode cJ6_bitCount_0f7a4 10 = .ok (.iload_n 0, 1) := by decide +kernel
theorem dJ6_bitCount_0f7a4_11 : decode cJ6_bitCount_0f7a4 11 = .ok (.ldc_w 266, 3) := by decide +kernel
theorem dJ6_bitCount_0f7a4_14 : decode cJ6_bitCount_0f7a4 14 = .ok (.iand, 1) := by decide +kernel
theorem dJ6_bitCount_0f7a4_15 : decode cJ6_bitCount_0f7a4 15 = .ok (.iload_n 0, 1) := by decide +kernel
theorem dJ6_bitCount_0f7a4_16 : decode cJ6_bitCount_0f7a4 16 = .ok (.iconst 2, 1) := by decide +kernel
theorem dJ6_bitCount_0f7a4_17 : decode cJ6_bitCount_0f7a4 17 = .ok (.iushr, 1) := by decide +kernel
theorem dJ6_bitCount_0f7a4_18 : decode cJ6_bitCount_0f7a4 18 = .ok (.ldc_w 266, 3) := by decide +kernel
theorem dJ6_bitCount_0f7a4_21 : decode cJ6_bitCount_0f7a4 21 = .ok (.iand, 1) := by decide +kernel
theorem dJ6_bitCount_0f7a4_22 : decode cJ6_bitCount_0f7a4 22 = .ok (.iadd, 1) := by decide +kernel
theorem dJ6_bitCount_0f7a4_23 : decode cJ6_bitCount_0f7a4 23 = .ok (.istore_n 0, 1) := by decide +kernel
theorem dJ6_bitCount_0f7a4_24 : decode cJ6_bitCount_0f7a4 24 = .ok (.iload_n 0, 1) := by decide +kernel
theorem dJ6_bitCount_0f7a4_25 : decode cJ6_bitCount_0f7a4 25 = .ok (.iload_n 0, 1) := by decide +kernel
theorem dJ6_bitCount_0f7a4_26 : decode cJ6_bitCount_0f7a4 26 = .ok (.iconst 4, 1) := by decide +kernel
theorem dJ6_bitCount_0f7a4_27 : decode cJ6_bitCount_0f7a4 27 = .ok (.iushr, 1) := by decide +kernel
theorem dJ6_bitCount_0f7a4_28 : decode cJ6_bitCount_0f7a4 28 = .ok (.iadd, 1) := by decide +kernel
theorem dJ6_bitCount_0f7a4_29 : decode cJ6_bitCount_0f7a4 29 = .ok (.ldc_w 267, 3) := by decide +kernel
theorem dJ6_bitCount_0f7a4_32 : decode cJ6_bitCount_0f7a4 32 = .ok (.iand, 1) := by decide +kernel
theorem dJ6_bitCount_0f7a4_33 : decode cJ6_bitCount_0f7a4 33 = .ok (.istore_n 0, 1) := by decide +kernel
theorem dJ6_bitCount_0f7a4_34 : decode cJ6_bitCount_0f7a4 34 = .ok (.iload_n 0, 1) := by decide +kernel
theorem dJ6_bitCount_0f7a4_35 : decode cJ6_bitCount_0f7a4 35 = .ok (.iload_n 0, 1) := by decide +kernel
theorem dJ6_bitCount_0f7a4_36 : decode cJ6_bitCount_0f7a4 36 = .ok (.bipush 8, 2) := by decide +kernel
theorem dJ6_bitCount_0f7a4_38 : decode cJ6_bitCount_0f7a4 38 = .ok (.iushr, 1) := by decide +kernel
theorem dJ6_bitCount_0f7a4_39 : decode cJ6_bitCount_0f7a4 39 = .ok (.iadd, 1) := by decide +kernel
theorem dJ6_bitCount_0f7a4_40 : decode cJ6_bitCount_0f7a4 40 = .ok (.istore_n 0, 1) := by decide +kernel
theorem dJ6_bitCount_0f7a4_41 : decode cJ6_bitCount_0f7a4 41 = .ok (.iload_n 0, 1) := by decide +kernel
theorem dJ6_bitCount_0f7a4_42 : decode cJ6_bitCount_0f7a4 42 = .ok (.iload_n 0, 1) := by decide +kernel
theorem dJ6_bitCount_0f7a4_43 : decode cJ6_bitCount_0f7a4 43 = .ok (.bipush 16, 2) := by decide +kernel
theorem dJ6_bitCount_0f7a4_45 : decode cJ6_bitCount_0f7a4 45 = .ok (.iushr, 1) := by decide +kernel
theorem dJ6_bitCount_0f7a4_46 : decode cJ6_bitCount_0f7a4 46 = .ok (.iadd, 1) := by decide +kernel
theorem dJ6_bitCount_0f7a4_47 : decode cJ6_bitCount_0f7a4 47 = .ok (.istore_n 0, 1) := by decide +kernel
theorem dJ6_bitCount_0f7a4_48 : decode cJ6_bitCount_0f7a4 48 = .ok (.iload_n 0, 1) := by decide +kernel
theorem dJ6_bitCount_0f7a4_49 : decode cJ6_bitCount_0f7a4 49 = .ok (.bipush 63, 2) := by decide +kernel
theorem dJ6_bitCount_0f7a4_51 : decode cJ6_bitCount_0f7a4 51 = .ok (.iand, 1) := by decide +kernel
theorem dJ6_bitCount_0f7a4_52 : decode cJ6_bitCount_0f7a4 52 = .ok (.ireturn, 1) := by decide +kernel
theorem dJ9_min_7cf53_0 : decode cJ9_min_7cf53 0 = .ok (.iload_n 0, 1) := by decide +kernel
theorem dJ9_min_7cf53_1 : decode cJ9_min_7cf53 1 = .ok (.iload_n 1, 1) := by decide +kernel
theorem dJ9_min_7cf53_2 : decode cJ9_min_7cf53 2 = .ok (.if_icmp .gt 7, 3) := by decide +kernel
theorem dJ9_min_7cf53_5 : decode cJ9_min_7cf53 5 = .ok (.iload_n 0, 1) := by decide +kernel
theorem dJ9_min_7cf53_6 : decode cJ9_min_7cf53 6 = .ok (.goto 4, 3) := by decide +kernel
theorem dJ9_min_7cf53_9 : decode cJ9_min_7cf53 9 = .ok (.iload_n 1, 1) := by decide +kernel
theorem dJ9_min_7cf53_10 : decode cJ9_min_7cf53 10 = .ok (.ireturn, 1) := by decide +kernel
set_option maxRecDepth 20000 in
theorem ggL_law_X3_init : GoodIn wsL_law wsX3_init := goodIn_r _ [8, 9, 10, 11, 12, 13, 14, 15, 16, 17, 18, 19, 20, 21, 22, 23, 24, 25, 26, 27, 28, 29, 30, 31, 32, 33, 34, 35, 36, 37, 38, 39, 40, 41, 42, 43, 44, 45, 46, 47, 48, 49, 50, 51, 618, 619, 620, 621, 622, 607, 608, 609, 610, 623, 624, 625, 626, 627, 628, 629, 630, 631, 632, 633] (by decide +kernel) (by decide +kernel)
set_option maxRecDepth 20000 in
theorem gL_law_X3_init : GoodIn wsL_law (wsX3_init) := ggL_law_X3_init
set_option maxRecDepth 20000 in
theorem ggL_law_X4_init : GoodIn wsL_law wsX4_init := goodIn_r _ [54, 55, 10, 11, 32, 56, 57, 17, 58, 59, 60, 611, 612, 613, 614, 615, 616, 617] (by decide +kernel) (by decide +kernel)
set_option maxRecDepth 20000 in
theorem gL_law_X4_init : GoodIn wsL_law (wsX4_init) := ggL_law_X4_init
set_option maxRecDepth 20000 in
theorem ggL_law_X3_addBlock : GoodIn wsL_law wsX3_addBlock := goodIn_r _ [64, 15, 65, 14, 66, 67, 30, 27, 68, 29, 69, 70, 43, 71, 72, 73, 74, 44, 45, 607, 608, 609, 610, 618, 619, 620, 621, 622, 626, 627, 628, 629, 630, 631, 632, 633] (by decide +kernel) (by decide +kernel)
set_option maxRecDepth 20000 in
theorem gL_law_X3_addBlock : GoodIn wsL_law (wsV RL 13 RX3 yX3_addBlock wsX3_addBlock) := goodIn_app (goodIn_of _ (by decide +kernel)) ggL_law_X3_addBlock
set_option maxRecDepth 20000 in
theorem ggL_law_X4_addBlock : GoodIn wsL_law wsX4_addBlock := goodIn_r _ [78, 56, 79, 80, 81, 5, 82, 83, 84, 85, 86, 87, 88, 89, 90, 91, 92, 611, 612, 613, 614, 615, 616, 617] (by decide +kernel) (by decide +kernel)
set_option maxRecDepth 20000 in
theorem gL_law_X4_addBlock : GoodIn wsL_law (wsV RL 17 RX4 yX4_addBlock wsX4_addBlock) := goodIn_app (goodIn_of _ (by decide +kernel)) ggL_law_X4_addBlock
set_option maxRecDepth 20000 in
theorem ggL_law_X3_addInstruction : GoodIn wsL_law wsX3_addInstruction := goodIn_r _ [96, 15, 97, 14, 98, 99, 30, 100, 101, 2, 102, 103, 104, 105, 106, 29, 107, 108, 43, 38, 39, 40, 41, 42, 607, 608, 609, 610, 618, 619, 620, 621, 622, 626, 627, 628, 629, 630, 631, 632, 633] (by decide +kernel) (by decide +kernel)
set_option maxRecDepth 20000 in
theorem gL_law_X3_addInstruction : GoodIn wsL_law (wsV RL 18 RX3 yX3_addInstruction wsX3_addInstruction) := goodIn_app (goodIn_of _ (by decide +kernel)) ggL_law_X3_addInstruction
set_option maxRecDepth 20000 in
theorem ggL_law_X4_addInstruction : GoodIn wsL_law wsX4_addInstruction := goodIn_r _ [112, 113, 114, 115, 5, 116, 56, 117, 118, 119, 120, 121, 122, 123, 124, 125, 126, 127, 128, 129, 83, 84, 85, 130, 131, 132, 133, 134, 135, 136, 611, 612, 613, 614, 615, 616, 617] (by decide +kernel) (by decide +kernel)
set_option maxRecDepth 20000 in
theorem gL_law_X4_addInstruction : GoodIn wsL_law (wsV RL 22 RX4 yX4_addInstruction wsX4_addInstruction) := goodIn_app (goodIn_of _ (by decide +kernel)) ggL_law_X4_addInstruction
set_option maxRecDepth 20000 in
theorem ggL_law_X3_setJump : GoodIn wsL_law wsX3_setJump := goodIn_r _ [140, 15, 97, 14, 98, 99, 30, 72, 29, 73, 74, 44, 45, 607, 608, 609, 610, 618, 619, 620, 621, 622, 626, 627, 628, 629, 630, 631, 632, 633] (by decide +kernel) (by decide +kernel)
set_option maxRecDepth 20000 in
theorem gL_law_X3_setJump : GoodIn wsL_law (wsV RL 23 RX3 yX3_setJump wsX3_setJump) := goodIn_app (goodIn_of _ (by decide +kernel)) ggL_law_X3_setJump
set_option maxRecDepth 20000 in
theorem ggL_law_X4_setJump : GoodIn wsL_law wsX4_setJump := goodIn_r _ [144, 56, 113, 114, 115, 5, 116, 117, 118, 119, 90, 91, 92, 83, 84, 85, 86, 87, 88, 89, 611, 612, 613, 614, 615, 616, 617] (by decide +kernel) (by decide +kernel)
set_option maxRecDepth 20000 in
theorem gL_law_X4_setJump : GoodIn wsL_law (wsV RL 27 RX4 yX4_setJump wsX4_setJump) := goodIn_app (goodIn_of _ (by decide +kernel)) ggL_law_X4_setJump
set_option maxRecDepth 20000 in
theorem ggL_law_X3_setBranch : GoodIn wsL_law wsX3_setBranch := goodIn_r _ [148, 15, 97, 14, 98, 99, 30, 103, 104, 2, 105, 72, 29, 73, 74, 44, 45, 607, 608, 609, 610, 618, 619, 620, 621, 622, 626, 627, 628, 629, 630, 631, 632, 633] (by decide +kernel) (by decide +kernel)
set_option maxRecDepth 20000 in
theorem gL_law_X3_setBranch : GoodIn wsL_law (wsV RL 28 RX3 yX3_setBranch wsX3_setBranch) := goodIn_app (goodIn_of _ (by decide +kernel)) ggL_law_X3_setBranch
set_option maxRecDepth 20000 in
theorem ggL_law_X4_setBranch : GoodIn wsL_law wsX4_setBranch := goodIn_r _ [152, 56, 113, 114, 115, 5, 116, 117, 118, 119, 123, 124, 125, 90, 91, 92, 83, 84, 85, 86, 87, 88, 89, 611, 612, 613, 614, 615, 616, 617] (by decide +kernel) (by decide +kernel)
set_option maxRecDepth 20000 in
theorem gL_law_X4_setBranch : GoodIn wsL_law (wsV RL 32 RX4 yX4_setBranch wsX4_setBranch) := goodIn_app (goodIn_of _ (by decide +kernel)) ggL_law_X4_setBranch
set_option maxRecDepth 20000 in
theorem ggL_law_X3_setReturn : GoodIn wsL_law wsX3_setReturn := goodIn_r _ [156, 15, 97, 14, 98, 99, 30, 103, 104, 2, 105, 72, 29, 73, 74, 44, 45, 607, 608, 609, 610, 618, 619, 620, 621, 622, 626, 627, 628, 629, 630, 631, 632, 633] (by decide +kernel) (by decide +kernel)
set_option maxRecDepth 20000 in
theorem gL_law_X3_setReturn : GoodIn wsL_law (wsV RL 33 RX3 yX3_setReturn wsX3_setReturn) := goodIn_app (goodIn_of _ (by decide +kernel)) ggL_law_X3_setReturn
set_option maxRecDepth 20000 in
theorem ggL_law_X4_setReturn : GoodIn wsL_law wsX4_setReturn := goodIn_r _ [160, 56, 113, 114, 115, 5, 116, 117, 118, 119, 123, 124, 125, 90, 91, 92, 83, 84, 85, 86, 87, 88, 89, 611, 612, 613, 614, 615, 616, 617] (by decide +kernel) (by decide +kernel)
set_option maxRecDepth 20000 in
theorem gL_law_X4_setReturn : GoodIn wsL_law (wsV RL 36 RX4 yX4_setReturn wsX4_setReturn) := goodIn_app (goodIn_of _ (by decide +kernel)) ggL_law_X4_setReturn
set_option maxRecDepth 20000 in
theorem ggL_law_X3_blockCount : GoodIn wsL_law wsX3_blockCount := goodIn_r _ [164, 15, 607, 608, 609, 610, 618, 619, 620, 621, 622] (by decide +kernel) (by decide +kernel)
set_option maxRecDepth 20000 in
theorem gL_law_X3_blockCount : GoodIn wsL_law (wsV RL 37 RX3 yX3_blockCount wsX3_blockCount) := goodIn_app (goodIn_of _ (by decide +kernel)) ggL_law_X3_blockCount
set_option maxRecDepth 20000 in
theorem ggL_law_X4_blockCount : GoodIn wsL_law wsX4_blockCount := goodIn_r _ [168, 56, 611, 612, 613, 614, 615, 616, 617] (by decide +kernel) (by decide +kernel)
set_option maxRecDepth 20000 in
theorem gL_law_X4_blockCount : GoodIn wsL_law (wsV RL 40 RX4 yX4_blockCount wsX4_blockCount) := goodIn_app (goodIn_of _ (by decide +kernel)) ggL_law_X4_blockCount
set_option maxRecDepth 20000 in
theorem ggL_law_X3_instructionCount : GoodIn wsL_law wsX3_instructionCount := goodIn_r _ [172, 15, 97, 14, 98, 99, 30, 607, 608, 609, 610, 618, 619, 620, 621, 622, 626, 627, 628, 629, 630, 631, 632, 633] (by decide +kernel) (by decide +kernel)
set_option maxRecDepth 20000 in
theorem gL_law_X3_instructionCount : GoodIn wsL_law (wsV RL 41 RX3 yX3_instructionCount wsX3_instructionCount) := goodIn_app (goodIn_of _ (by decide +kernel)) ggL_law_X3_instructionCount
set_option maxRecDepth 20000 in
theorem ggL_law_X4_instructionCount : GoodIn wsL_law wsX4_instructionCount := goodIn_r _ [176, 113, 114, 115, 5, 116, 56, 117, 118, 119, 126, 127, 128, 129, 83, 84, 85, 611, 612, 613, 614, 615, 616, 617] (by decide +kernel) (by decide +kernel)
set_option maxRecDepth 20000 in
theorem gL_law_X4_instructionCount : GoodIn wsL_law (wsV RL 45 RX4 yX4_instructionCount wsX4_instructionCount) := goodIn_app (goodIn_of _ (by decide +kernel)) ggL_law_X4_instructionCount
set_option maxRecDepth 20000 in
theorem ggL_law_X3_opcode : GoodIn wsL_law wsX3_opcode := goodIn_r _ [180, 15, 181, 182, 183, 2, 184, 97, 14, 98, 99, 30, 607, 608, 609, 610, 618, 619, 620, 621, 622, 626, 627, 628, 629, 630, 631, 632, 633] (by decide +kernel) (by decide +kernel)
set_option maxRecDepth 20000 in
theorem gL_law_X3_opcode : GoodIn wsL_law (wsV RL 46 RX3 yX3_opcode wsX3_opcode) := goodIn_app (goodIn_of _ (by decide +kernel)) ggL_law_X3_opcode
set_option maxRecDepth 20000 in
theorem ggL_law_X4_opcode : GoodIn wsL_law wsX4_opcode := goodIn_r _ [188, 189, 190, 191, 5, 192, 56, 113, 114, 115, 116, 117, 118, 119, 126, 127, 128, 129, 83, 84, 85, 134, 135, 136, 611, 612, 613, 614, 615, 616, 617] (by decide +kernel) (by decide +kernel)
set_option maxRecDepth 20000 in
theorem gL_law_X4_opcode : GoodIn wsL_law (wsV RL 49 RX4 yX4_opcode wsX4_opcode) := goodIn_app (goodIn_of _ (by decide +kernel)) ggL_law_X4_opcode
set_option maxRecDepth 20000 in
theorem ggL_law_X3_destination : GoodIn wsL_law wsX3_destination := goodIn_r _ [196, 15, 181, 182, 183, 2, 184, 97, 14, 98, 99, 30, 607, 608, 609, 610, 618, 619, 620, 621, 622, 626, 627, 628, 629, 630, 631, 632, 633] (by decide +kernel) (by decide +kernel)
set_option maxRecDepth 20000 in
theorem gL_law_X3_destination : GoodIn wsL_law (wsV RL 50 RX3 yX3_destination wsX3_destination) := goodIn_app (goodIn_of _ (by decide +kernel)) ggL_law_X3_destination
set_option maxRecDepth 20000 in
theorem ggL_law_X4_destination : GoodIn wsL_law wsX4_destination := goodIn_r _ [200, 189, 190, 191, 5, 192, 56, 113, 114, 115, 116, 117, 118, 119, 126, 127, 128, 129, 83, 84, 85, 134, 135, 136, 611, 612, 613, 614, 615, 616, 617] (by decide +kernel) (by decide +kernel)
set_option maxRecDepth 20000 in
theorem gL_law_X4_destination : GoodIn wsL_law (wsV RL 53 RX4 yX4_destination wsX4_destination) := goodIn_app (goodIn_of _ (by decide +kernel)) ggL_law_X4_destination
set_option maxRecDepth 20000 in
theorem ggL_law_X3_operandA : GoodIn wsL_law wsX3_operandA := goodIn_r _ [204, 15, 181, 182, 183, 2, 184, 97, 14, 98, 99, 30, 607, 608, 609, 610, 618, 619, 620, 621, 622, 626, 627, 628, 629, 630, 631, 632, 633] (by decide +kernel) (by decide +kernel)
set_option maxRecDepth 20000 in
theorem gL_law_X3_operandA : GoodIn wsL_law (wsV RL 54 RX3 yX3_operandA wsX3_operandA) := goodIn_app (goodIn_of _ (by decide +kernel)) ggL_law_X3_operandA
set_option maxRecDepth 20000 in
theorem ggL_law_X4_operandA : GoodIn wsL_law wsX4_operandA := goodIn_r _ [208, 189, 190, 191, 5, 192, 56, 113, 114, 115, 116, 117, 118, 119, 126, 127, 128, 129, 83, 84, 85, 134, 135, 136, 611, 612, 613, 614, 615, 616, 617] (by decide +kernel) (by decide +kernel)
set_option maxRecDepth 20000 in
theorem gL_law_X4_operandA : GoodIn wsL_law (wsV RL 57 RX4 yX4_operandA wsX4_operandA) := goodIn_app (goodIn_of _ (by decide +kernel)) ggL_law_X4_operandA
set_option maxRecDepth 20000 in
theorem ggL_law_X3_operandB : GoodIn wsL_law wsX3_operandB := goodIn_r _ [212, 15, 181, 182, 183, 2, 184, 97, 14, 98, 99, 30, 607, 608, 609, 610, 618, 619, 620, 621, 622, 626, 627, 628, 629, 630, 631, 632, 633] (by decide +kernel) (by decide +kernel)
set_option maxRecDepth 20000 in
theorem gL_law_X3_operandB : GoodIn wsL_law (wsV RL 58 RX3 yX3_operandB wsX3_operandB) := goodIn_app (goodIn_of _ (by decide +kernel)) ggL_law_X3_operandB
set_option maxRecDepth 20000 in
theorem ggL_law_X4_operandB : GoodIn wsL_law wsX4_operandB := goodIn_r _ [216, 189, 190, 191, 5, 192, 56, 113, 114, 115, 116, 117, 118, 119, 126, 127, 128, 129, 83, 84, 85, 134, 135, 136, 611, 612, 613, 614, 615, 616, 617] (by decide +kernel) (by decide +kernel)
set_option maxRecDepth 20000 in
theorem gL_law_X4_operandB : GoodIn wsL_law (wsV RL 61 RX4 yX4_operandB wsX4_operandB) := goodIn_app (goodIn_of _ (by decide +kernel)) ggL_law_X4_operandB
set_option maxRecDepth 20000 in
theorem ggL_law_X3_lines : GoodIn wsL_law wsX3_lines := goodIn_r _ [220, 15, 181, 182, 183, 2, 184, 97, 14, 98, 99, 30, 607, 608, 609, 610, 618, 619, 620, 621, 622, 626, 627, 628, 629, 630, 631, 632, 633] (by decide +kernel) (by decide +kernel)
set_option maxRecDepth 20000 in
theorem gL_law_X3_lines : GoodIn wsL_law (wsV RL 62 RX3 yX3_lines wsX3_lines) := goodIn_app (goodIn_of _ (by decide +kernel)) ggL_law_X3_lines
set_option maxRecDepth 20000 in
theorem ggL_law_X4_lines : GoodIn wsL_law wsX4_lines := goodIn_r _ [224, 189, 190, 191, 5, 192, 56, 113, 114, 115, 116, 117, 118, 119, 126, 127, 128, 129, 83, 84, 85, 134, 135, 136, 611, 612, 613, 614, 615, 616, 617] (by decide +kernel) (by decide +kernel)
set_option maxRecDepth 20000 in
theorem gL_law_X4_lines : GoodIn wsL_law (wsV RL 65 RX4 yX4_lines wsX4_lines) := goodIn_app (goodIn_of _ (by decide +kernel)) ggL_law_X4_lines
set_option maxRecDepth 20000 in
theorem ggL_law_X3_terminatorKind : GoodIn wsL_law wsX3_terminatorKind := goodIn_r _ [228, 15, 97, 14, 98, 99, 30, 607, 608, 609, 610, 618, 619, 620, 621, 622, 626, 627, 628, 629, 630, 631, 632, 633] (by decide +kernel) (by decide +kernel)
set_option maxRecDepth 20000 in
theorem gL_law_X3_terminatorKind : GoodIn wsL_law (wsV RL 66 RX3 yX3_terminatorKind wsX3_terminatorKind) := goodIn_app (goodIn_of _ (by decide +kernel)) ggL_law_X3_terminatorKind
set_option maxRecDepth 20000 in
theorem ggL_law_X4_terminatorKind : GoodIn wsL_law wsX4_terminatorKind := goodIn_r _ [232, 56, 113, 114, 115, 5, 116, 117, 118, 119, 90, 91, 92, 83, 84, 85, 611, 612, 613, 614, 615, 616, 617] (by decide +kernel) (by decide +kernel)
set_option maxRecDepth 20000 in
theorem gL_law_X4_terminatorKind : GoodIn wsL_law (wsV RL 69 RX4 yX4_terminatorKind wsX4_terminatorKind) := goodIn_app (goodIn_of _ (by decide +kernel)) ggL_law_X4_terminatorKind
set_option maxRecDepth 20000 in
theorem ggL_law_X3_terminatorOperand : GoodIn wsL_law wsX3_terminatorOperand := goodIn_r _ [236, 15, 97, 14, 98, 99, 30, 607, 608, 609, 610, 618, 619, 620, 621, 622, 626, 627, 628, 629, 630, 631, 632, 633] (by decide +kernel) (by decide +kernel)
set_option maxRecDepth 20000 in
theorem gL_law_X3_terminatorOperand : GoodIn wsL_law (wsV RL 70 RX3 yX3_terminatorOperand wsX3_terminatorOperand) := goodIn_app (goodIn_of _ (by decide +kernel)) ggL_law_X3_terminatorOperand
set_option maxRecDepth 20000 in
theorem ggL_law_X4_terminatorOperand : GoodIn wsL_law wsX4_terminatorOperand := goodIn_r _ [240, 56, 113, 114, 115, 5, 116, 117, 118, 119, 90, 91, 92, 83, 84, 85, 611, 612, 613, 614, 615, 616, 617] (by decide +kernel) (by decide +kernel)
set_option maxRecDepth 20000 in
theorem gL_law_X4_terminatorOperand : GoodIn wsL_law (wsV RL 73 RX4 yX4_terminatorOperand wsX4_terminatorOperand) := goodIn_app (goodIn_of _ (by decide +kernel)) ggL_law_X4_terminatorOperand
set_option maxRecDepth 20000 in
theorem ggL_law_X3_tailHash : GoodIn wsL_law wsX3_tailHash := goodIn_r _ [244, 15, 97, 14, 98, 99, 30, 245, 29, 246, 247, 43, 38, 39, 40, 41, 44, 45, 248, 607, 608, 609, 610, 618, 619, 620, 621, 622, 626, 627, 628, 629, 630, 631, 632, 633] (by decide +kernel) (by decide +kernel)
set_option maxRecDepth 20000 in
theorem gL_law_X3_tailHash : GoodIn wsL_law (wsV RL 74 RX3 yX3_tailHash wsX3_tailHash) := goodIn_app (goodIn_of _ (by decide +kernel)) ggL_law_X3_tailHash
set_option maxRecDepth 20000 in
theorem ggL_law_X4_tailHash : GoodIn wsL_law wsX4_tailHash := goodIn_r _ [252, 56, 253, 113, 114, 115, 5, 116, 117, 118, 119, 126, 127, 128, 129, 83, 84, 85, 134, 135, 136, 90, 91, 92, 611, 612, 613, 614, 615, 616, 617] (by decide +kernel) (by decide +kernel)
set_option maxRecDepth 20000 in
theorem gL_law_X4_tailHash : GoodIn wsL_law (wsV RL 77 RX4 yX4_tailHash wsX4_tailHash) := goodIn_app (goodIn_of _ (by decide +kernel)) ggL_law_X4_tailHash
set_option maxRecDepth 20000 in
theorem ggL_law_X3_commonTail : GoodIn wsL_law wsX3_commonTail := goodIn_r _ [257, 15, 258, 259, 260, 2, 261, 97, 14, 98, 99, 30, 262, 29, 263, 264, 43, 265, 266, 267, 268, 269, 270, 271, 272, 44, 45, 273, 274, 275, 276, 38, 39, 40, 41, 607, 608, 609, 610, 618, 619, 620, 621, 622, 626, 627, 628, 629, 630, 631, 632, 633] (by decide +kernel) (by decide +kernel)
set_option maxRecDepth 20000 in
theorem gL_law_X3_commonTail : GoodIn wsL_law (wsV RL 78 RX3 yX3_commonTail wsX3_commonTail) := goodIn_app (goodIn_of _ (by decide +kernel)) ggL_law_X3_commonTail
set_option maxRecDepth 20000 in
theorem ggL_law_X4_commonTail : GoodIn wsL_law wsX4_commonTail := goodIn_r _ [280, 281, 282, 283, 5, 284, 113, 114, 115, 116, 56, 117, 118, 119, 285, 286, 287, 288, 289, 290, 291, 292, 90, 91, 92, 83, 84, 85, 126, 127, 128, 129, 293, 294, 295, 296, 134, 135, 136, 611, 612, 613, 614, 615, 616, 617] (by decide +kernel) (by decide +kernel)
set_option maxRecDepth 20000 in
theorem gL_law_X4_commonTail : GoodIn wsL_law (wsV RL 81 RX4 yX4_commonTail wsX4_commonTail) := goodIn_app (goodIn_of _ (by decide +kernel)) ggL_law_X4_commonTail
set_option maxRecDepth 20000 in
theorem ggL_law_X3_parameterTail : GoodIn wsL_law wsX3_parameterTail := goodIn_r _ [300, 15, 258, 259, 260, 2, 261, 97, 14, 98, 99, 30, 301, 29, 302, 303, 44, 43, 265, 266, 267, 268, 269, 270, 271, 272, 45, 304, 305, 306, 307, 308, 309, 310, 311, 39, 41, 40, 38, 273, 274, 275, 276, 312, 313, 314, 315, 607, 608, 609, 610, 618, 619, 620, 621, 622, 626, 627, 628, 629, 630, 631, 632, 633] (by decide +kernel) (by decide +kernel)
set_option maxRecDepth 20000 in
theorem gL_law_X3_parameterTail : GoodIn wsL_law (wsV RL 82 RX3 yX3_parameterTail wsX3_parameterTail) := goodIn_app (goodIn_of _ (by decide +kernel)) ggL_law_X3_parameterTail
set_option maxRecDepth 20000 in
theorem ggL_law_X4_parameterTail : GoodIn wsL_law wsX4_parameterTail := goodIn_r _ [319, 281, 282, 283, 5, 284, 113, 114, 115, 116, 56, 117, 118, 119, 320, 321, 322, 323, 324, 289, 290, 291, 292, 90, 91, 92, 83, 84, 85, 126, 127, 128, 129, 325, 326, 327, 328, 134, 135, 136, 293, 294, 295, 296, 329, 330, 331, 332, 611, 612, 613, 614, 615, 616, 617] (by decide +kernel) (by decide +kernel)
set_option maxRecDepth 20000 in
theorem gL_law_X4_parameterTail : GoodIn wsL_law (wsV RL 85 RX4 yX4_parameterTail wsX4_parameterTail) := goodIn_app (goodIn_of _ (by decide +kernel)) ggL_law_X4_parameterTail
set_option maxRecDepth 20000 in
theorem ggL_law_X3_setJumpCost : GoodIn wsL_law wsX3_setJumpCost := goodIn_r _ [336, 15, 607, 608, 609, 610, 618, 619, 620, 621, 622] (by decide +kernel) (by decide +kernel)
set_option maxRecDepth 20000 in
theorem gL_law_X3_setJumpCost : GoodIn wsL_law (wsV RL 86 RX3 yX3_setJumpCost wsX3_setJumpCost) := goodIn_app (goodIn_of _ (by decide +kernel)) ggL_law_X3_setJumpCost
set_option maxRecDepth 20000 in
theorem ggL_law_X4_setJumpCost : GoodIn wsL_law wsX4_setJumpCost := goodIn_r _ [340, 56, 117, 118, 5, 119, 611, 612, 613, 614, 615, 616, 617] (by decide +kernel) (by decide +kernel)
set_option maxRecDepth 20000 in
theorem gL_law_X4_setJumpCost : GoodIn wsL_law (wsV RL 89 RX4 yX4_setJumpCost wsX4_setJumpCost) := goodIn_app (goodIn_of _ (by decide +kernel)) ggL_law_X4_setJumpCost
end
section
set_option maxRecDepth 20000 in
theorem ggL_law_X3_codeSize : GoodIn wsL_law wsX3_codeSize := goodIn_r _ [344, 15, 345, 14, 346, 347, 30, 27, 348, 349, 350, 351, 31, 607, 608, 609, 610, 618, 619, 620, 621, 622, 626, 627, 628, 629, 630, 631, 632, 633] (by decide +kernel) (by decide +kernel)
set_option maxRecDepth 20000 in
theorem gL_law_X3_codeSize : GoodIn wsL_law (wsV RL 90 RX3 yX3_codeSize wsX3_codeSize) := goodIn_app (goodIn_of _ (by decide +kernel)) ggL_law_X3_codeSize
set_option maxRecDepth 20000 in
theorem ggL_law_X4_codeSize : GoodIn wsL_law wsX4_codeSize := goodIn_r _ [355, 56, 126, 127, 128, 5, 129, 83, 84, 85, 356, 357, 358, 359, 90, 91, 92, 611, 612, 613, 614, 615, 616, 617] (by decide +kernel) (by decide +kernel)
set_option maxRecDepth 20000 in
theorem gL_law_X4_codeSize : GoodIn wsL_law (wsV RL 93 RX4 yX4_codeSize wsX4_codeSize) := goodIn_app (goodIn_of _ (by decide +kernel)) ggL_law_X4_codeSize
set_option maxRecDepth 20000 in
theorem ggL_law_X3_tailSaving : GoodIn wsL_law wsX3_tailSaving := goodIn_r _ [363, 15, 364, 365, 366, 2, 367, 368, 369, 370, 371, 372, 373, 374, 375, 14, 376, 377, 30, 27, 378, 266, 267, 268, 379, 380, 381, 262, 29, 263, 264, 43, 265, 269, 270, 271, 272, 44, 45, 273, 274, 275, 276, 38, 39, 40, 41, 382, 383, 384, 385, 348, 349, 350, 351, 31, 386, 387, 388, 389, 607, 608, 609, 610, 618, 619, 620, 621, 622, 626, 627, 628, 629, 630, 631, 632, 633] (by decide +kernel) (by decide +kernel)
set_option maxRecDepth 20000 in
theorem gL_law_X3_tailSaving : GoodIn wsL_law (wsV RL 94 RX3 yX3_tailSaving wsX3_tailSaving) := goodIn_app (goodIn_of _ (by decide +kernel)) ggL_law_X3_tailSaving
set_option maxRecDepth 20000 in
theorem ggL_law_X4_tailSaving : GoodIn wsL_law wsX4_tailSaving := goodIn_r _ [393, 394, 395, 396, 5, 397, 56, 398, 399, 400, 401, 402, 403, 404, 405, 406, 407, 285, 286, 287, 288, 289, 290, 291, 292, 90, 91, 92, 83, 84, 85, 126, 127, 128, 129, 293, 294, 295, 296, 134, 135, 136, 408, 409, 410, 411, 356, 357, 358, 359, 611, 612, 613, 614, 615, 616, 617] (by decide +kernel) (by decide +kernel)
set_option maxRecDepth 20000 in
theorem gL_law_X4_tailSaving : GoodIn wsL_law (wsV RL 97 RX4 yX4_tailSaving wsX4_tailSaving) := goodIn_app (goodIn_of _ (by decide +kernel)) ggL_law_X4_tailSaving
set_option maxRecDepth 20000 in
theorem ggL_law_X3_bestTail : GoodIn wsL_law wsX3_bestTail := goodIn_r _ [415, 15, 416, 14, 417, 418, 30, 27, 419, 420, 421, 422, 34, 262, 29, 263, 264, 43, 265, 266, 267, 268, 269, 270, 271, 272, 44, 45, 273, 274, 275, 276, 38, 39, 40, 41, 348, 349, 350, 351, 31, 423, 424, 425, 426, 385, 369, 370, 371, 372, 373, 374, 386, 387, 388, 389, 607, 608, 609, 610, 618, 619, 620, 621, 622, 626, 627, 628, 629, 630, 631, 632, 633] (by decide +kernel) (by decide +kernel)
set_option maxRecDepth 20000 in
theorem gL_law_X3_bestTail : GoodIn wsL_law (wsV RL 98 RX3 yX3_bestTail wsX3_bestTail) := goodIn_app (goodIn_of _ (by decide +kernel)) ggL_law_X3_bestTail
set_option maxRecDepth 20000 in
theorem ggL_law_X4_bestTail : GoodIn wsL_law wsX4_bestTail := goodIn_r _ [430, 431, 432, 433, 5, 434, 56, 398, 399, 400, 401, 402, 403, 404, 405, 406, 407, 285, 286, 287, 288, 289, 290, 291, 292, 90, 91, 92, 83, 84, 85, 126, 127, 128, 129, 293, 294, 295, 296, 134, 135, 136, 408, 409, 410, 411, 356, 357, 358, 359, 611, 612, 613, 614, 615, 616, 617] (by decide +kernel) (by decide +kernel)
set_option maxRecDepth 20000 in
theorem gL_law_X4_bestTail : GoodIn wsL_law (wsV RL 101 RX4 yX4_bestTail wsX4_bestTail) := goodIn_app (goodIn_of _ (by decide +kernel)) ggL_law_X4_bestTail
set_option maxRecDepth 20000 in
theorem ggL_law_X3_mergeTail : GoodIn wsL_law wsX3_mergeTail := goodIn_r _ [438, 15, 364, 365, 366, 2, 367, 368, 369, 370, 371, 372, 373, 374, 375, 14, 376, 377, 30, 27, 378, 266, 267, 268, 379, 380, 381, 262, 29, 263, 264, 43, 265, 269, 270, 271, 272, 44, 45, 273, 274, 275, 276, 38, 39, 40, 41, 382, 383, 384, 385, 348, 349, 350, 351, 31, 386, 387, 388, 389, 439, 440, 441, 442, 65, 66, 67, 68, 69, 70, 71, 72, 73, 74, 443, 444, 445, 42, 446, 447, 448, 449, 106, 107, 108, 450, 451, 452, 607, 608, 609, 610, 618, 619, 620, 621, 622, 626, 627, 628, 629, 630, 631, 632, 633] (by decide +kernel) (by decide +kernel)
set_option maxRecDepth 20000 in
theorem gL_law_X3_mergeTail : GoodIn wsL_law (wsV RL 102 RX3 yX3_mergeTail wsX3_mergeTail) := goodIn_app (goodIn_of _ (by decide +kernel)) ggL_law_X3_mergeTail
set_option maxRecDepth 20000 in
theorem ggL_law_X4_mergeTail : GoodIn wsL_law wsX4_mergeTail := goodIn_r _ [456, 56, 394, 395, 396, 5, 397, 398, 399, 400, 401, 402, 403, 404, 405, 406, 407, 285, 286, 287, 288, 289, 290, 291, 292, 90, 91, 92, 83, 84, 85, 126, 127, 128, 129, 293, 294, 295, 296, 134, 135, 136, 408, 409, 410, 411, 356, 357, 358, 359, 457, 458, 459, 460, 79, 80, 81, 82, 86, 87, 88, 89, 461, 462, 463, 464, 130, 131, 132, 133, 465, 466, 467, 468, 469, 470, 471, 472, 611, 612, 613, 614, 615, 616, 617] (by decide +kernel) (by decide +kernel)
set_option maxRecDepth 20000 in
theorem gL_law_X4_mergeTail : GoodIn wsL_law (wsV RL 105 RX4 yX4_mergeTail wsX4_mergeTail) := goodIn_app (goodIn_of _ (by decide +kernel)) ggL_law_X4_mergeTail
set_option maxRecDepth 20000 in
theorem ggL_law_X3_parameterSaving : GoodIn wsL_law wsX3_parameterSaving := goodIn_r _ [476, 15, 477, 298, 299, 2, 300, 258, 259, 260, 261, 97, 14, 98, 99, 30, 301, 29, 302, 303, 44, 43, 265, 266, 267, 268, 269, 270, 271, 272, 45, 304, 305, 306, 307, 308, 309, 310, 311, 39, 41, 40, 38, 273, 274, 275, 276, 312, 313, 314, 315, 478, 479, 480, 31, 348, 349, 350, 351, 27, 607, 608, 609, 610, 618, 619, 620, 621, 622, 626, 627, 628, 629, 630, 631, 632, 633] (by decide +kernel) (by decide +kernel)
set_option maxRecDepth 20000 in
theorem gL_law_X3_parameterSaving : GoodIn wsL_law (wsV RL 106 RX3 yX3_parameterSaving wsX3_parameterSaving) := goodIn_app (goodIn_of _ (by decide +kernel)) ggL_law_X3_parameterSaving
set_option maxRecDepth 20000 in
theorem ggL_law_X4_parameterSaving : GoodIn wsL_law wsX4_parameterSaving := goodIn_r _ [484, 56, 281, 282, 283, 5, 284, 113, 114, 115, 116, 117, 118, 119, 320, 321, 322, 323, 324, 289, 290, 291, 292, 90, 91, 92, 83, 84, 85, 126, 127, 128, 129, 325, 326, 327, 328, 134, 135, 136, 293, 294, 295, 296, 329, 330, 331, 332, 356, 357, 358, 359, 611, 612, 613, 614, 615, 616, 617] (by decide +kernel) (by decide +kernel)
set_option maxRecDepth 20000 in
theorem gL_law_X4_parameterSaving : GoodIn wsL_law (wsV RL 109 RX4 yX4_parameterSaving wsX4_parameterSaving) := goodIn_app (goodIn_of _ (by decide +kernel)) ggL_law_X4_parameterSaving
set_option maxRecDepth 20000 in
theorem ggL_law_X3_mergeWithParameter : GoodIn wsL_law wsX3_mergeWithParameter := goodIn_r _ [488, 15, 477, 298, 299, 2, 300, 258, 259, 260, 261, 97, 14, 98, 99, 30, 301, 29, 302, 303, 44, 43, 265, 266, 267, 268, 269, 270, 271, 272, 45, 304, 305, 306, 307, 308, 309, 310, 311, 39, 41, 40, 38, 273, 274, 275, 276, 312, 313, 314, 315, 489, 490, 491, 27, 442, 65, 66, 67, 68, 69, 70, 71, 72, 73, 74, 446, 447, 448, 42, 449, 106, 107, 108, 443, 444, 445, 492, 493, 494, 495, 496, 497, 498, 450, 451, 452, 607, 608, 609, 610, 618, 619, 620, 621, 622, 626, 627, 628, 629, 630, 631, 632, 633] (by decide +kernel) (by decide +kernel)
set_option maxRecDepth 20000 in
theorem gL_law_X3_mergeWithParameter : GoodIn wsL_law (wsV RL 110 RX3 yX3_mergeWithParameter wsX3_mergeWithParameter) := goodIn_app (goodIn_of _ (by decide +kernel)) ggL_law_X3_mergeWithParameter
set_option maxRecDepth 20000 in
theorem ggL_law_X4_mergeWithParameter : GoodIn wsL_law wsX4_mergeWithParameter := goodIn_r _ [502, 56, 324, 281, 282, 283, 5, 284, 113, 114, 115, 116, 117, 118, 119, 320, 321, 322, 323, 289, 290, 291, 292, 90, 91, 92, 83, 84, 85, 126, 127, 128, 129, 325, 326, 327, 328, 134, 135, 136, 293, 294, 295, 296, 329, 330, 331, 332, 79, 80, 81, 82, 86, 87, 88, 89, 461, 462, 463, 464, 130, 131, 132, 133, 465, 466, 467, 468, 503, 504, 505, 506, 469, 470, 471, 472, 611, 612, 613, 614, 615, 616, 617] (by decide +kernel) (by decide +kernel)
set_option maxRecDepth 20000 in
theorem gL_law_X4_mergeWithParameter : GoodIn wsL_law (wsV RL 113 RX4 yX4_mergeWithParameter wsX4_mergeWithParameter) := goodIn_app (goodIn_of _ (by decide +kernel)) ggL_law_X4_mergeWithParameter
set_option maxRecDepth 20000 in
theorem ggL_law_X3_mergeAll : GoodIn wsL_law wsX3_mergeAll := goodIn_r _ [510, 15, 416, 14, 417, 418, 30, 27, 419, 420, 421, 422, 34, 262, 29, 263, 264, 43, 265, 266, 267, 268, 269, 270, 271, 272, 44, 45, 273, 274, 275, 276, 38, 39, 40, 41, 348, 349, 350, 351, 31, 423, 424, 425, 426, 385, 369, 370, 371, 372, 373, 374, 386, 387, 388, 389, 375, 376, 377, 378, 379, 380, 381, 439, 440, 441, 442, 65, 66, 67, 68, 69, 70, 71, 72, 73, 74, 443, 444, 445, 42, 446, 447, 448, 449, 106, 107, 108, 450, 451, 452, 607, 608, 609, 610, 618, 619, 620, 621, 622, 626, 627, 628, 629, 630, 631, 632, 633] (by decide +kernel) (by decide +kernel)
set_option maxRecDepth 20000 in
theorem gL_law_X3_mergeAll : GoodIn wsL_law (wsV RL 114 RX3 yX3_mergeAll wsX3_mergeAll) := goodIn_app (goodIn_of _ (by decide +kernel)) ggL_law_X3_mergeAll
set_option maxRecDepth 20000 in
theorem ggL_law_X4_mergeAll : GoodIn wsL_law wsX4_mergeAll := goodIn_r _ [514, 56, 431, 432, 433, 5, 434, 398, 399, 400, 401, 402, 403, 404, 405, 406, 407, 285, 286, 287, 288, 289, 290, 291, 292, 90, 91, 92, 83, 84, 85, 126, 127, 128, 129, 293, 294, 295, 296, 134, 135, 136, 408, 409, 410, 411, 356, 357, 358, 359, 457, 458, 459, 460, 79, 80, 81, 82, 86, 87, 88, 89, 461, 462, 463, 464, 130, 131, 132, 133, 465, 466, 467, 468, 469, 470, 471, 472, 611, 612, 613, 614, 615, 616, 617] (by decide +kernel) (by decide +kernel)
set_option maxRecDepth 20000 in
theorem gL_law_X4_mergeAll : GoodIn wsL_law (wsV RL 117 RX4 yX4_mergeAll wsX4_mergeAll) := goodIn_app (goodIn_of _ (by decide +kernel)) ggL_law_X4_mergeAll
set_option maxRecDepth 20000 in
theorem ggL_law_X3_setRegister : GoodIn wsL_law wsX3_setRegister := goodIn_r _ [518, 15, 103, 104, 2, 105, 607, 608, 609, 610, 618, 619, 620, 621, 622] (by decide +kernel) (by decide +kernel)
set_option maxRecDepth 20000 in
theorem gL_law_X3_setRegister : GoodIn wsL_law (wsV RL 118 RX3 yX3_setRegister wsX3_setRegister) := goodIn_app (goodIn_of _ (by decide +kernel)) ggL_law_X3_setRegister
set_option maxRecDepth 20000 in
theorem ggL_law_X4_setRegister : GoodIn wsL_law wsX4_setRegister := goodIn_r _ [522, 56, 123, 124, 5, 125, 117, 118, 119, 611, 612, 613, 614, 615, 616, 617] (by decide +kernel) (by decide +kernel)
set_option maxRecDepth 20000 in
theorem gL_law_X4_setRegister : GoodIn wsL_law (wsV RL 121 RX4 yX4_setRegister wsX4_setRegister) := goodIn_app (goodIn_of _ (by decide +kernel)) ggL_law_X4_setRegister
set_option maxRecDepth 20000 in
theorem ggL_law_X3_run : GoodIn wsL_law wsX3_run := goodIn_r _ [526, 15, 22, 527, 21, 528, 529, 49, 530, 531, 532, 533, 51, 534, 535, 536, 537, 538, 539, 540, 541, 50, 542, 543, 544, 545, 607, 608, 609, 610, 618, 619, 620, 621, 622, 623, 624, 625, 626, 627, 628, 629, 630, 631, 632, 633] (by decide +kernel) (by decide +kernel)
set_option maxRecDepth 20000 in
theorem gL_law_X3_run : GoodIn wsL_law (wsV RL 122 RX3 yX3_run wsX3_run) := goodIn_app (goodIn_of _ (by decide +kernel)) ggL_law_X3_run
set_option maxRecDepth 20000 in
theorem ggL_law_X4_run : GoodIn wsL_law wsX4_run := goodIn_r _ [549, 56, 59, 550, 117, 118, 5, 119, 126, 127, 128, 129, 83, 84, 85, 134, 135, 136, 551, 552, 553, 554, 60, 555, 556, 557, 558, 90, 91, 92, 611, 612, 613, 614, 615, 616, 617] (by decide +kernel) (by decide +kernel)
set_option maxRecDepth 20000 in
theorem gL_law_X4_run : GoodIn wsL_law (wsV RL 125 RX4 yX4_run wsX4_run) := goodIn_app (goodIn_of _ (by decide +kernel)) ggL_law_X4_run
set_option maxRecDepth 20000 in
theorem ggL_law_X3_traceLength : GoodIn wsL_law wsX3_traceLength := goodIn_r _ [562, 22, 607, 608, 609, 610, 623, 624, 625] (by decide +kernel) (by decide +kernel)
set_option maxRecDepth 20000 in
theorem gL_law_X3_traceLength : GoodIn wsL_law (wsV RL 126 RX3 yX3_traceLength wsX3_traceLength) := goodIn_app (goodIn_of _ (by decide +kernel)) ggL_law_X3_traceLength
set_option maxRecDepth 20000 in
theorem ggL_law_X4_traceLength : GoodIn wsL_law wsX4_traceLength := goodIn_r _ [566, 550, 611, 612, 613, 614, 615, 616, 617] (by decide +kernel) (by decide +kernel)
set_option maxRecDepth 20000 in
theorem gL_law_X4_traceLength : GoodIn wsL_law (wsV RL 129 RX4 yX4_traceLength wsX4_traceLength) := goodIn_app (goodIn_of _ (by decide +kernel)) ggL_law_X4_traceLength
set_option maxRecDepth 20000 in
theorem ggL_law_X3_trace : GoodIn wsL_law wsX3_trace := goodIn_r _ [570, 22, 607, 608, 609, 610, 623, 624, 625] (by decide +kernel) (by decide +kernel)
set_option maxRecDepth 20000 in
theorem gL_law_X3_trace : GoodIn wsL_law (wsV RL 130 RX3 yX3_trace wsX3_trace) := goodIn_app (goodIn_of _ (by decide +kernel)) ggL_law_X3_trace
set_option maxRecDepth 20000 in
theorem ggL_law_X4_trace : GoodIn wsL_law wsX4_trace := goodIn_r _ [574, 550, 60, 117, 118, 5, 119, 611, 612, 613, 614, 615, 616, 617] (by decide +kernel) (by decide +kernel)
set_option maxRecDepth 20000 in
theorem gL_law_X4_trace : GoodIn wsL_law (wsV RL 133 RX4 yX4_trace wsX4_trace) := goodIn_app (goodIn_of _ (by decide +kernel)) ggL_law_X4_trace
set_option maxRecDepth 20000 in
theorem ggL_law_X3_register : GoodIn wsL_law wsX3_register := goodIn_r _ [578, 22, 607, 608, 609, 610, 623, 624, 625] (by decide +kernel) (by decide +kernel)
set_option maxRecDepth 20000 in
theorem gL_law_X3_register : GoodIn wsL_law (wsV RL 134 RX3 yX3_register wsX3_register) := goodIn_app (goodIn_of _ (by decide +kernel)) ggL_law_X3_register
set_option maxRecDepth 20000 in
theorem ggL_law_X4_register : GoodIn wsL_law wsX4_register := goodIn_r _ [582, 59, 117, 118, 5, 119, 611, 612, 613, 614, 615, 616, 617] (by decide +kernel) (by decide +kernel)
set_option maxRecDepth 20000 in
theorem gL_law_X4_register : GoodIn wsL_law (wsV RL 137 RX4 yX4_register wsX4_register) := goodIn_app (goodIn_of _ (by decide +kernel)) ggL_law_X4_register
set_option maxRecDepth 20000 in
theorem ggL_law_X3_save : GoodIn wsL_law wsX3_save := goodIn_r _ [586, 16, 15, 18, 587, 14, 588, 589, 30, 27, 31, 33, 590, 531, 532, 533, 591, 29, 592, 593, 43, 594, 446, 447, 448, 38, 39, 40, 41, 42, 44, 45, 449, 106, 107, 108, 71, 72, 73, 74, 607, 608, 609, 610, 618, 619, 620, 621, 622, 626, 627, 628, 629, 630, 631, 632, 633] (by decide +kernel) (by decide +kernel)
set_option maxRecDepth 20000 in
theorem gL_law_X3_save : GoodIn wsL_law (wsV RL 138 RX3 yX3_save wsX3_save) := goodIn_app (goodIn_of _ (by decide +kernel)) ggL_law_X3_save
set_option maxRecDepth 20000 in
theorem ggL_law_X4_save : GoodIn wsL_law wsX4_save := goodIn_r _ [598, 57, 56, 58, 117, 118, 5, 119, 611, 612, 613, 614, 615, 616, 617] (by decide +kernel) (by decide +kernel)
set_option maxRecDepth 20000 in
theorem gL_law_X4_save : GoodIn wsL_law (wsV RL 141 RX4 yX4_save wsX4_save) := goodIn_app (goodIn_of _ (by decide +kernel)) ggL_law_X4_save
set_option maxRecDepth 20000 in
theorem ggL_law_X3_restore : GoodIn wsL_law wsX3_restore := goodIn_r _ [602, 18, 15, 16, 587, 14, 588, 589, 30, 27, 31, 33, 590, 531, 532, 533, 591, 29, 592, 593, 43, 594, 446, 447, 448, 38, 39, 40, 41, 42, 44, 45, 449, 106, 107, 108, 71, 72, 73, 74, 607, 608, 609, 610, 618, 619, 620, 621, 622, 626, 627, 628, 629, 630, 631, 632, 633] (by decide +kernel) (by decide +kernel)
set_option maxRecDepth 20000 in
theorem gL_law_X3_restore : GoodIn wsL_law (wsV RL 142 RX3 yX3_restore wsX3_restore) := goodIn_app (goodIn_of _ (by decide +kernel)) ggL_law_X3_restore
set_option maxRecDepth 20000 in
theorem ggL_law_X4_restore : GoodIn wsL_law wsX4_restore := goodIn_r _ [606, 58, 56, 57, 117, 118, 5, 119, 611, 612, 613, 614, 615, 616, 617] (by decide +kernel) (by decide +kernel)
set_option maxRecDepth 20000 in
theorem gL_law_X4_restore : GoodIn wsL_law (wsV RL 145 RX4 yX4_restore wsX4_restore) := goodIn_app (goodIn_of _ (by decide +kernel)) ggL_law_X4_restore
theorem dL_law_0 : decode cL_law 0 = .ok (.new 7, 3) := by decide +kernel
theorem dL_law_3 : decode cL_law 3 = .ok (.dup, 1) := by decide +kernel
theorem dL_law_4 : decode cL_law 4 = .ok (.invokespecial 9, 3) := by decide +kernel
theorem dL_law_7 : decode cL_law 7 = .ok (.astore_n 1, 1) := by decide +kernel
theorem dL_law_8 : decode cL_law 8 = .ok (.new 10, 3) := by decide +kernel
theorem dL_law_11 : decode cL_law 11 = .ok (.dup, 1) := by decide +kernel
theorem dL_law_12 : decode cL_law 12 = .ok (.invokespecial 12, 3) := by decide +kernel
theorem dL_law_15 : decode cL_law 15 = .ok (.astore_n 2, 1) := by decide +kernel
theorem dL_law_16 : decode cL_law 16 = .ok (.iconst 0, 1) := by decide +kernel
theorem dL_law_17 : decode cL_law 17 = .ok (.istore_n 3, 1) := by decide +kernel
theorem dL_law_18 : decode cL_law 18 = .ok (.iload_n 3, 1) := by decide +kernel
theorem dL_law_19 : decode cL_law 19 = .ok (.aload_n 0, 1) := by decide +kernel
theorem dL_law_20 : decode cL_law 20 = .ok (.arraylength, 1) := by decide +kernel
theorem dL_law_21 : decode cL_law 21 = .ok (.bipush 7, 2) := by decide +kernel
theorem dL_law_23 : decode cL_law 23 = .ok (.isub, 1) := by decide +kernel
theorem dL_law_24 : decode cL_law 24 = .ok (.if_icmp .gt 1056, 3) := by decide +kernel
theorem dL_law_27 : decode cL_law 27 = .ok (.aload_n 0, 1) := by decide +kernel
theorem dL_law_28 : decode cL_law 28 = .ok (.iload_n 3, 1) := by decide +kernel
theorem dL_law_29 : decode cL_law 29 = .ok (.iaload, 1) := by decide +kernel
theorem dL_law_30 : decode cL_law 30 = .ok (.bipush 31, 2) := by decide +kernel
theorem dL_law_32 : decode cL_law 32 = .ok (.iand, 1) := by decide +kernel
theorem dL_law_33 : decode cL_law 33 = .ok (.tableswitch 1041 0 31 #[143, 156, 231, 264, 317, 350, 363, 386, 419, 452, 485, 518, 551, 574, 607, 640, 673, 706, 729, 742, 765, 778, 801, 834, 867, 880, 913, 936, 949, 972, 995, 1018], 143) := by decide +kernel
theorem dL_law_176 : decode cL_law 176 = .ok (.aload_n 1, 1) := by decide +kernel
theorem dL_law_177 : decode cL_law 177 = .ok (.invokevirtual 13, 3) := by decide +kernel
theorem dL_law_180 : decode cL_law 180 = .ok (.aload_n 2, 1) := by decide +kernel
theorem dL_law_181 : decode cL_law 181 = .ok (.invokevirtual 17, 3) := by decide +kernel
theorem dL_law_184 : decode cL_law 184 = .ok (.if_icmp .eq 890, 3) := by decide +kernel
theorem dL_law_187 : decode cL_law 187 = .ok (.iconst 0, 1) := by decide +kernel
theorem dL_law_188 : decode cL_law 188 = .ok (.ireturn, 1) := by decide +kernel
theorem dL_law_189 : decode cL_law 189 = .ok (.aload_n 1, 1) := by decide +kernel
theorem dL_law_190 : decode cL_law 190 = .ok (.aload_n 0, 1) := by decide +kernel
theorem dL_law_191 : decode cL_law 191 = .ok (.iload_n 3, 1) := by decide +kernel
theorem dL_law_192 : decode cL_law 192 = .ok (.iconst 1, 1) := by decide +kernel
theorem dL_law_193 : decode cL_law 193 = .ok (.iadd, 1) := by decide +kernel
theorem dL_law_194 : decode cL_law 194 = .ok (.iaload, 1) := by decide +kernel
theorem dL_law_195 : decode cL_law 195 = .ok (.aload_n 0, 1) := by decide +kernel
theorem dL_law_196 : decode cL_law 196 = .ok (.iload_n 3, 1) := by decide +kernel
theorem dL_law_197 : decode cL_law 197 = .ok (.iconst 2, 1) := by decide +kernel
theorem dL_law_198 : decode cL_law 198 = .ok (.iadd, 1) := by decide +kernel
theorem dL_law_199 : decode cL_law 199 = .ok (.iaload, 1) := by decide +kernel
theorem dL_law_200 : decode cL_law 200 = .ok (.aload_n 0, 1) := by decide +kernel
theorem dL_law_201 : decode cL_law 201 = .ok (.iload_n 3, 1) := by decide +kernel
theorem dL_law_202 : decode cL_law 202 = .ok (.iconst 3, 1) := by decide +kernel
theorem dL_law_203 : decode cL_law 203 = .ok (.iadd, 1) := by decide +kernel
theorem dL_law_204 : decode cL_law 204 = .ok (.iaload, 1) := by decide +kernel
theorem dL_law_205 : decode cL_law 205 = .ok (.aload_n 0, 1) := by decide +kernel
theorem dL_law_206 : decode cL_law 206 = .ok (.iload_n 3, 1) := by decide +kernel
theorem dL_law_207 : decode cL_law 207 = .ok (.iconst 4, 1) := by decide +kernel
theorem dL_law_208 : decode cL_law 208 = .ok (.iadd, 1) := by decide +kernel
theorem dL_law_209 : decode cL_law 209 = .ok (.iaload, 1) := by decide +kernel
theorem dL_law_210 : decode cL_law 210 = .ok (.aload_n 0, 1) := by decide +kernel
theorem dL_law_211 : decode cL_law 211 = .ok (.iload_n 3, 1) := by decide +kernel
theorem dL_law_212 : decode cL_law 212 = .ok (.iconst 5, 1) := by decide +kernel
theorem dL_law_213 : decode cL_law 213 = .ok (.iadd, 1) := by decide +kernel
theorem dL_law_214 : decode cL_law 214 = .ok (.iaload, 1) := by decide +kernel
theorem dL_law_215 : decode cL_law 215 = .ok (.aload_n 0, 1) := by decide +kernel
theorem dL_law_216 : decode cL_law 216 = .ok (.iload_n 3, 1) := by decide +kernel
theorem dL_law_217 : decode cL_law 217 = .ok (.bipush 6, 2) := by decide +kernel
theorem dL_law_219 : decode cL_law 219 = .ok (.iadd, 1) := by decide +kernel
theorem dL_law_220 : decode cL_law 220 = .ok (.iaload, 1) := by decide +kernel
theorem dL_law_221 : decode cL_law 221 = .ok (.invokevirtual 18, 3) := by decide +kernel
theorem dL_law_224 : decode cL_law 224 = .ok (.aload_n 2, 1) := by decide +kernel
theorem dL_law_225 : decode cL_law 225 = .ok (.aload_n 0, 1) := by decide +kernel
theorem dL_law_226 : decode cL_law 226 = .ok (.iload_n 3, 1) := by decide +kernel
theorem dL_law_227 : decode cL_law 227 = .ok (.iconst 1, 1) := by decide +kernel
theorem dL_law_228 : decode cL_law 228 = .ok (.iadd, 1) := by decide +kernel
theorem dL_law_229 : decode cL_law 229 = .ok (.iaload, 1) := by decide +kernel
theorem dL_law_230 : decode cL_law 230 = .ok (.aload_n 0, 1) := by decide +kernel
theorem dL_law_231 : decode cL_law 231 = .ok (.iload_n 3, 1) := by decide +kernel
theorem dL_law_232 : decode cL_law 232 = .ok (.iconst 2, 1) := by decide +kernel
theorem dL_law_233 : decode cL_law 233 = .ok (.iadd, 1) := by decide +kernel
theorem dL_law_234 : decode cL_law 234 = .ok (.iaload, 1) := by decide +kernel
theorem dL_law_235 : decode cL_law 235 = .ok (.aload_n 0, 1) := by decide +kernel
theorem dL_law_236 : decode cL_law 236 = .ok (.iload_n 3, 1) := by decide +kernel
theorem dL_law_237 : decode cL_law 237 = .ok (.iconst 3, 1) := by decide +kernel
theorem dL_law_238 : decode cL_law 238 = .ok (.iadd, 1) := by decide +kernel
theorem dL_law_239 : decode cL_law 239 = .ok (.iaload, 1) := by decide +kernel
theorem dL_law_240 : decode cL_law 240 = .ok (.aload_n 0, 1) := by decide +kernel
theorem dL_law_241 : decode cL_law 241 = .ok (.iload_n 3, 1) := by decide +kernel
theorem dL_law_242 : decode cL_law 242 = .ok (.iconst 4, 1) := by decide +kernel
theorem dL_law_243 : decode cL_law 243 = .ok (.iadd, 1) := by decide +kernel
theorem dL_law_244 : decode cL_law 244 = .ok (.iaload, 1) := by decide +kernel
theorem dL_law_245 : decode cL_law 245 = .ok (.aload_n 0, 1) := by decide +kernel
theorem dL_law_246 : decode cL_law 246 = .ok (.iload_n 3, 1) := by decide +kernel
theorem dL_law_247 : decode cL_law 247 = .ok (.iconst 5, 1) := by decide +kernel
theorem dL_law_248 : decode cL_law 248 = .ok (.iadd, 1) := by decide +kernel
theorem dL_law_249 : decode cL_law 249 = .ok (.iaload, 1) := by decide +kernel
theorem dL_law_250 : decode cL_law 250 = .ok (.aload_n 0, 1) := by decide +kernel
theorem dL_law_251 : decode cL_law 251 = .ok (.iload_n 3, 1) := by decide +kernel
theorem dL_law_252 : decode cL_law 252 = .ok (.bipush 6, 2) := by decide +kernel
theorem dL_law_254 : decode cL_law 254 = .ok (.iadd, 1) := by decide +kernel
theorem dL_law_255 : decode cL_law 255 = .ok (.iaload, 1) := by decide +kernel
theorem dL_law_256 : decode cL_law 256 = .ok (.invokevirtual 22, 3) := by decide +kernel
theorem dL_law_259 : decode cL_law 259 = .ok (.if_icmp .eq 815, 3) := by decide +kernel
theorem dL_law_262 : decode cL_law 262 = .ok (.iconst 0, 1) := by decide +kernel
theorem dL_law_263 : decode cL_law 263 = .ok (.ireturn, 1) := by decide +kernel
theorem dL_law_264 : decode cL_law 264 = .ok (.aload_n 1, 1) := by decide +kernel
theorem dL_law_265 : decode cL_law 265 = .ok (.aload_n 0, 1) := by decide +kernel
theorem dL_law_266 : decode cL_law 266 = .ok (.iload_n 3, 1) := by decide +kernel
theorem dL_law_267 : decode cL_law 267 = .ok (.iconst 1, 1) := by decide +kernel
theorem dL_law_268 : decode cL_law 268 = .ok (.iadd, 1) := by decide +kernel
theorem dL_law_269 : decode cL_law 269 = .ok (.iaload, 1) := by decide +kernel
theorem dL_law_270 : decode cL_law 270 = .ok (.aload_n 0, 1) := by decide +kernel
theorem dL_law_271 : decode cL_law 271 = .ok (.iload_n 3, 1) := by decide +kernel
theorem dL_law_272 : decode cL_law 272 = .ok (.iconst 2, 1) := by decide +kernel
theorem dL_law_273 : decode cL_law 273 = .ok (.iadd, 1) := by decide +kernel
theorem dL_law_274 : decode cL_law 274 = .ok (.iaload, 1) := by decide +kernel
theorem dL_law_275 : decode cL_law 275 = .ok (.invokevirtual 23, 3) := by decide +kernel
theorem dL_law_278 : decode cL_law 278 = .ok (.aload_n 2, 1) := by decide +kernel
theorem dL_law_279 : decode cL_law 279 = .ok (.aload_n 0, 1) := by decide +kernel
theorem dL_law_280 : decode cL_law 280 = .ok (.iload_n 3, 1) := by decide +kernel
theorem dL_law_281 : decode cL_law 281 = .ok (.iconst 1, 1) := by decide +kernel
theorem dL_law_282 : decode cL_law 282 = .ok (.iadd, 1) := by decide +kernel
theorem dL_law_283 : decode cL_law 283 = .ok (.iaload, 1) := by decide +kernel
theorem dL_law_284 : decode cL_law 284 = .ok (.aload_n 0, 1) := by decide +kernel
theorem dL_law_285 : decode cL_law 285 = .ok (.iload_n 3, 1) := by decide +kernel
theorem dL_law_286 : decode cL_law 286 = .ok (.iconst 2, 1) := by decide +kernel
theorem dL_law_287 : decode cL_law 287 = .ok (.iadd, 1) := by decide +kernel
theorem dL_law_288 : decode cL_law 288 = .ok (.iaload, 1) := by decide +kernel
theorem dL_law_289 : decode cL_law 289 = .ok (.invokevirtual 27, 3) := by decide +kernel
theorem dL_law_292 : decode cL_law 292 = .ok (.if_icmp .eq 782, 3) := by decide +kernel
theorem dL_law_295 : decode cL_law 295 = .ok (.iconst 0, 1) := by decide +kernel
theorem dL_law_296 : decode cL_law 296 = .ok (.ireturn, 1) := by decide +kernel
theorem dL_law_297 : decode cL_law 297 = .ok (.aload_n 1, 1) := by decide +kernel
theorem dL_law_298 : decode cL_law 298 = .ok (.aload_n 0, 1) := by decide +kernel
theorem dL_law_299 : decode cL_law 299 = .ok (.iload_n 3, 1) := by decide +kernel
theorem dL_law_300 : decode cL_law 300 = .ok (.iconst 1, 1) := by decide +kernel
theorem dL_law_301 : decode cL_law 301 = .ok (.iadd, 1) := by decide +kernel
theorem dL_law_302 : decode cL_law 302 = .ok (.iaload, 1) := by decide +kernel
theorem dL_law_303 : decode cL_law 303 = .ok (.aload_n 0, 1) := by decide +kernel
theorem dL_law_304 : decode cL_law 304 = .ok (.iload_n 3, 1) := by decide +kernel
theorem dL_law_305 : decode cL_law 305 = .ok (.iconst 2, 1) := by decide +kernel
theorem dL_law_306 : decode cL_law 306 = .ok (.iadd, 1) := by decide +kernel
theorem dL_law_307 : decode cL_law 307 = .ok (.iaload, 1) := by decide +kernel
theorem dL_law_308 : decode cL_law 308 = .ok (.aload_n 0, 1) := by decide +kernel
theorem dL_law_309 : decode cL_law 309 = .ok (.iload_n 3, 1) := by decide +kernel
theorem dL_law_310 : decode cL_law 310 = .ok (.iconst 3, 1) := by decide +kernel
theorem dL_law_311 : decode cL_law 311 = .ok (.iadd, 1) := by decide +kernel
theorem dL_law_312 : decode cL_law 312 = .ok (.iaload, 1) := by decide +kernel
theorem dL_law_313 : decode cL_law 313 = .ok (.aload_n 0, 1) := by decide +kernel
theorem dL_law_314 : decode cL_law 314 = .ok (.iload_n 3, 1) := by decide +kernel
theorem dL_law_315 : decode cL_law 315 = .ok (.iconst 4, 1) := by decide +kernel
theorem dL_law_316 : decode cL_law 316 = .ok (.iadd, 1) := by decide +kernel
theorem dL_law_317 : decode cL_law 317 = .ok (.iaload, 1) := by decide +kernel
theorem dL_law_318 : decode cL_law 318 = .ok (.invokevirtual 28, 3) := by decide +kernel
theorem dL_law_321 : decode cL_law 321 = .ok (.aload_n 2, 1) := by decide +kernel
theorem dL_law_322 : decode cL_law 322 = .ok (.aload_n 0, 1) := by decide +kernel
theorem dL_law_323 : decode cL_law 323 = .ok (.iload_n 3, 1) := by decide +kernel
theorem dL_law_324 : decode cL_law 324 = .ok (.iconst 1, 1) := by decide +kernel
theorem dL_law_325 : decode cL_law 325 = .ok (.iadd, 1) := by decide +kernel
theorem dL_law_326 : decode cL_law 326 = .ok (.iaload, 1) := by decide +kernel
theorem dL_law_327 : decode cL_law 327 = .ok (.aload_n 0, 1) := by decide +kernel
theorem dL_law_328 : decode cL_law 328 = .ok (.iload_n 3, 1) := by decide +kernel
theorem dL_law_329 : decode cL_law 329 = .ok (.iconst 2, 1) := by decide +kernel
theorem dL_law_330 : decode cL_law 330 = .ok (.iadd, 1) := by decide +kernel
theorem dL_law_331 : decode cL_law 331 = .ok (.iaload, 1) := by decide +kernel
theorem dL_law_332 : decode cL_law 332 = .ok (.aload_n 0, 1) := by decide +kernel
theorem dL_law_333 : decode cL_law 333 = .ok (.iload_n 3, 1) := by decide +kernel
theorem dL_law_334 : decode cL_law 334 = .ok (.iconst 3, 1) := by decide +kernel
theorem dL_law_335 : decode cL_law 335 = .ok (.iadd, 1) := by decide +kernel
theorem dL_law_336 : decode cL_law 336 = .ok (.iaload, 1) := by decide +kernel
theorem dL_law_337 : decode cL_law 337 = .ok (.aload_n 0, 1) := by decide +kernel
theorem dL_law_338 : decode cL_law 338 = .ok (.iload_n 3, 1) := by decide +kernel
theorem dL_law_339 : decode cL_law 339 = .ok (.iconst 4, 1) := by decide +kernel
theorem dL_law_340 : decode cL_law 340 = .ok (.iadd, 1) := by decide +kernel
theorem dL_law_341 : decode cL_law 341 = .ok (.iaload, 1) := by decide +kernel
theorem dL_law_342 : decode cL_law 342 = .ok (.invokevirtual 32, 3) := by decide +kernel
theorem dL_law_345 : decode cL_law 345 = .ok (.if_icmp .eq 729, 3) := by decide +kernel
theorem dL_law_348 : decode cL_law 348 = .ok (.iconst 0, 1) := by decide +kernel
theorem dL_law_349 : decode cL_law 349 = .ok (.ireturn, 1) := by decide +kernel
theorem dL_law_350 : decode cL_law 350 = .ok (.aload_n 1, 1) := by decide +kernel
theorem dL_law_351 : decode cL_law 351 = .ok (.aload_n 0, 1) := by decide +kernel
theorem dL_law_352 : decode cL_law 352 = .ok (.iload_n 3, 1) := by decide +kernel
theorem dL_law_353 : decode cL_law 353 = .ok (.iconst 1, 1) := by decide +kernel
theorem dL_law_354 : decode cL_law 354 = .ok (.iadd, 1) := by decide +kernel
theorem dL_law_355 : decode cL_law 355 = .ok (.iaload, 1) := by decide +kernel
theorem dL_law_356 : decode cL_law 356 = .ok (.aload_n 0, 1) := by decide +kernel
theorem dL_law_357 : decode cL_law 357 = .ok (.iload_n 3, 1) := by decide +kernel
theorem dL_law_358 : decode cL_law 358 = .ok (.iconst 2, 1) := by decide +kernel
theorem dL_law_359 : decode cL_law 359 = .ok (.iadd, 1) := by decide +kernel
theorem dL_law_360 : decode cL_law 360 = .ok (.iaload, 1) := by decide +kernel
theorem dL_law_361 : decode cL_law 361 = .ok (.invokevirtual 33, 3) := by decide +kernel
theorem dL_law_364 : decode cL_law 364 = .ok (.aload_n 2, 1) := by decide +kernel
theorem dL_law_365 : decode cL_law 365 = .ok (.aload_n 0, 1) := by decide +kernel
theorem dL_law_366 : decode cL_law 366 = .ok (.iload_n 3, 1) := by decide +kernel
theorem dL_law_367 : decode cL_law 367 = .ok (.iconst 1, 1) := by decide +kernel
theorem dL_law_368 : decode cL_law 368 = .ok (.iadd, 1) := by decide +kernel
theorem dL_law_369 : decode cL_law 369 = .ok (.iaload, 1) := by decide +kernel
theorem dL_law_370 : decode cL_law 370 = .ok (.aload_n 0, 1) := by decide +kernel
theorem dL_law_371 : decode cL_law 371 = .ok (.iload_n 3, 1) := by decide +kernel
theorem dL_law_372 : decode cL_law 372 = .ok (.iconst 2, 1) := by decide +kernel
theorem dL_law_373 : decode cL_law 373 = .ok (.iadd, 1) := by decide +kernel
theorem dL_law_374 : decode cL_law 374 = .ok (.iaload, 1) := by decide +kernel
theorem dL_law_375 : decode cL_law 375 = .ok (.invokevirtual 36, 3) := by decide +kernel
theorem dL_law_378 : decode cL_law 378 = .ok (.if_icmp .eq 696, 3) := by decide +kernel
theorem dL_law_381 : decode cL_law 381 = .ok (.iconst 0, 1) := by decide +kernel
theorem dL_law_382 : decode cL_law 382 = .ok (.ireturn, 1) := by decide +kernel
theorem dL_law_383 : decode cL_law 383 = .ok (.aload_n 1, 1) := by decide +kernel
theorem dL_law_384 : decode cL_law 384 = .ok (.invokevirtual 37, 3) := by decide +kernel
theorem dL_law_387 : decode cL_law 387 = .ok (.aload_n 2, 1) := by decide +kernel
theorem dL_law_388 : decode cL_law 388 = .ok (.invokevirtual 40, 3) := by decide +kernel
theorem dL_law_391 : decode cL_law 391 = .ok (.if_icmp .eq 683, 3) := by decide +kernel
theorem dL_law_394 : decode cL_law 394 = .ok (.iconst 0, 1) := by decide +kernel
theorem dL_law_395 : decode cL_law 395 = .ok (.ireturn, 1) := by decide +kernel
theorem dL_law_396 : decode cL_law 396 = .ok (.aload_n 1, 1) := by decide +kernel
theorem dL_law_397 : decode cL_law 397 = .ok (.aload_n 0, 1) := by decide +kernel
theorem dL_law_398 : decode cL_law 398 = .ok (.iload_n 3, 1) := by decide +kernel
theorem dL_law_399 : decode cL_law 399 = .ok (.iconst 1, 1) := by decide +kernel
theorem dL_law_400 : decode cL_law 400 = .ok (.iadd, 1) := by decide +kernel
theorem dL_law_401 : decode cL_law 401 = .ok (.iaload, 1) := by decide +kernel
theorem dL_law_402 : decode cL_law 402 = .ok (.invokevirtual 41, 3) := by decide +kernel
theorem dL_law_405 : decode cL_law 405 = .ok (.aload_n 2, 1) := by decide +kernel
theorem dL_law_406 : decode cL_law 406 = .ok (.aload_n 0, 1) := by decide +kernel
theorem dL_law_407 : decode cL_law 407 = .ok (.iload_n 3, 1) := by decide +kernel
theorem dL_law_408 : decode cL_law 408 = .ok (.iconst 1, 1) := by decide +kernel
theorem dL_law_409 : decode cL_law 409 = .ok (.iadd, 1) := by decide +kernel
theorem dL_law_410 : decode cL_law 410 = .ok (.iaload, 1) := by decide +kernel
theorem dL_law_411 : decode cL_law 411 = .ok (.invokevirtual 45, 3) := by decide +kernel
theorem dL_law_414 : decode cL_law 414 = .ok (.if_icmp .eq 660, 3) := by decide +kernel
theorem dL_law_417 : decode cL_law 417 = .ok (.iconst 0, 1) := by decide +kernel
theorem dL_law_418 : decode cL_law 418 = .ok (.ireturn, 1) := by decide +kernel
theorem dL_law_419 : decode cL_law 419 = .ok (.aload_n 1, 1) := by decide +kernel
theorem dL_law_420 : decode cL_law 420 = .ok (.aload_n 0, 1) := by decide +kernel
theorem dL_law_421 : decode cL_law 421 = .ok (.iload_n 3, 1) := by decide +kernel
theorem dL_law_422 : decode cL_law 422 = .ok (.iconst 1, 1) := by decide +kernel
theorem dL_law_423 : decode cL_law 423 = .ok (.iadd, 1) := by decide +kernel
theorem dL_law_424 : decode cL_law 424 = .ok (.iaload, 1) := by decide +kernel
theorem dL_law_425 : decode cL_law 425 = .ok (.aload_n 0, 1) := by decide +kernel
theorem dL_law_426 : decode cL_law 426 = .ok (.iload_n 3, 1) := by decide +kernel
theorem dL_law_427 : decode cL_law 427 = .ok (.iconst 2, 1) := by decide +kernel
theorem dL_law_428 : decode cL_law 428 = .ok (.iadd, 1) := by decide +kernel
theorem dL_law_429 : decode cL_law 429 = .ok (.iaload, 1) := by decide +kernel
theorem dL_law_430 : decode cL_law 430 = .ok (.invokevirtual 46, 3) := by decide +kernel
theorem dL_law_433 : decode cL_law 433 = .ok (.aload_n 2, 1) := by decide +kernel
theorem dL_law_434 : decode cL_law 434 = .ok (.aload_n 0, 1) := by decide +kernel
theorem dL_law_435 : decode cL_law 435 = .ok (.iload_n 3, 1) := by decide +kernel
theorem dL_law_436 : decode cL_law 436 = .ok (.iconst 1, 1) := by decide +kernel
theorem dL_law_437 : decode cL_law 437 = .ok (.iadd, 1) := by decide +kernel
theorem dL_law_438 : decode cL_law 438 = .ok (.iaload, 1) := by decide +kernel
theorem dL_law_439 : decode cL_law 439 = .ok (.aload_n 0, 1) := by decide +kernel
theorem dL_law_440 : decode cL_law 440 = .ok (.iload_n 3, 1) := by decide +kernel
theorem dL_law_441 : decode cL_law 441 = .ok (.iconst 2, 1) := by decide +kernel
theorem dL_law_442 : decode cL_law 442 = .ok (.iadd, 1) := by decide +kernel
theorem dL_law_443 : decode cL_law 443 = .ok (.iaload, 1) := by decide +kernel
theorem dL_law_444 : decode cL_law 444 = .ok (.invokevirtual 49, 3) := by decide +kernel
theorem dL_law_447 : decode cL_law 447 = .ok (.if_icmp .eq 627, 3) := by decide +kernel
theorem dL_law_450 : decode cL_law 450 = .ok (.iconst 0, 1) := by decide +kernel
theorem dL_law_451 : decode cL_law 451 = .ok (.ireturn, 1) := by decide +kernel
theorem dL_law_452 : decode cL_law 452 = .ok (.aload_n 1, 1) := by decide +kernel
theorem dL_law_453 : decode cL_law 453 = .ok (.aload_n 0, 1) := by decide +kernel
theorem dL_law_454 : decode cL_law 454 = .ok (.iload_n 3, 1) := by decide +kernel
theorem dL_law_455 : decode cL_law 455 = .ok (.iconst 1, 1) := by decide +kernel
theorem dL_law_456 : decode cL_law 456 = .ok (.iadd, 1) := by decide +kernel
theorem dL_law_457 : decode cL_law 457 = .ok (.iaload, 1) := by decide +kernel
theorem dL_law_458 : decode cL_law 458 = .ok (.aload_n 0, 1) := by decide +kernel
theorem dL_law_459 : decode cL_law 459 = .ok (.iload_n 3, 1) := by decide +kernel
theorem dL_law_460 : decode cL_law 460 = .ok (.iconst 2, 1) := by decide +kernel
theorem dL_law_461 : decode cL_law 461 = .ok (.iadd, 1) := by decide +kernel
theorem dL_law_462 : decode cL_law 462 = .ok (.iaload, 1) := by decide +kernel
theorem dL_law_463 : decode cL_law 463 = .ok (.invokevirtual 50, 3) := by decide +kernel
theorem dL_law_466 : decode cL_law 466 = .ok (.aload_n 2, 1) := by decide +kernel
theorem dL_law_467 : decode cL_law 467 = .ok (.aload_n 0, 1) := by decide +kernel
theorem dL_law_468 : decode cL_law 468 = .ok (.iload_n 3, 1) := by decide +kernel
theorem dL_law_469 : decode cL_law 469 = .ok (.iconst 1, 1) := by decide +kernel
theorem dL_law_470 : decode cL_law 470 = .ok (.iadd, 1) := by decide +kernel
theorem dL_law_471 : decode cL_law 471 = .ok (.iaload, 1) := by decide +kernel
theorem dL_law_472 : decode cL_law 472 = .ok (.aload_n 0, 1) := by decide +kernel
theorem dL_law_473 : decode cL_law 473 = .ok (.iload_n 3, 1) := by decide +kernel
theorem dL_law_474 : decode cL_law 474 = .ok (.iconst 2, 1) := by decide +kernel
theorem dL_law_475 : decode cL_law 475 = .ok (.iadd, 1) := by decide +kernel
theorem dL_law_476 : decode cL_law 476 = .ok (.iaload, 1) := by decide +kernel
theorem dL_law_477 : decode cL_law 477 = .ok (.invokevirtual 53, 3) := by decide +kernel
theorem dL_law_480 : decode cL_law 480 = .ok (.if_icmp .eq 594, 3) := by decide +kernel
theorem dL_law_483 : decode cL_law 483 = .ok (.iconst 0, 1) := by decide +kernel
theorem dL_law_484 : decode cL_law 484 = .ok (.ireturn, 1) := by decide +kernel
theorem dL_law_485 : decode cL_law 485 = .ok (.aload_n 1, 1) := by decide +kernel
theorem dL_law_486 : decode cL_law 486 = .ok (.aload_n 0, 1) := by decide +kernel
theorem dL_law_487 : decode cL_law 487 = .ok (.iload_n 3, 1) := by decide +kernel
theorem dL_law_488 : decode cL_law 488 = .ok (.iconst 1, 1) := by decide +kernel
theorem dL_law_489 : decode cL_law 489 = .ok (.iadd, 1) := by decide +kernel
theorem dL_law_490 : decode cL_law 490 = .ok (.iaload, 1) := by decide +kernel
theorem dL_law_491 : decode cL_law 491 = .ok (.aload_n 0, 1) := by decide +kernel
theorem dL_law_492 : decode cL_law 492 = .ok (.iload_n 3, 1) := by decide +kernel
theorem dL_law_493 : decode cL_law 493 = .ok (.iconst 2, 1) := by decide +kernel
theorem dL_law_494 : decode cL_law 494 = .ok (.iadd, 1) := by decide +kernel
theorem dL_law_495 : decode cL_law 495 = .ok (.iaload, 1) := by decide +kernel
theorem dL_law_496 : decode cL_law 496 = .ok (.invokevirtual 54, 3) := by decide +kernel
theorem dL_law_499 : decode cL_law 499 = .ok (.aload_n 2, 1) := by decide +kernel
theorem dL_law_500 : decode cL_law 500 = .ok (.aload_n 0, 1) := by decide +kernel
theorem dL_law_501 : decode cL_law 501 = .ok (.iload_n 3, 1) := by decide +kernel
theorem dL_law_502 : decode cL_law 502 = .ok (.iconst 1, 1) := by decide +kernel
theorem dL_law_503 : decode cL_law 503 = .ok (.iadd, 1) := by decide +kernel
theorem dL_law_504 : decode cL_law 504 = .ok (.iaload, 1) := by decide +kernel
theorem dL_law_505 : decode cL_law 505 = .ok (.aload_n 0, 1) := by decide +kernel
theorem dL_law_506 : decode cL_law 506 = .ok (.iload_n 3, 1) := by decide +kernel
theorem dL_law_507 : decode cL_law 507 = .ok (.iconst 2, 1) := by decide +kernel
theorem dL_law_508 : decode cL_law 508 = .ok (.iadd, 1) := by decide +kernel
theorem dL_law_509 : decode cL_law 509 = .ok (.iaload, 1) := by decide +kernel
theorem dL_law_510 : decode cL_law 510 = .ok (.invokevirtual 57, 3) := by decide +kernel
theorem dL_law_513 : decode cL_law 513 = .ok (.if_icmp .eq 561, 3) := by decide +kernel
theorem dL_law_516 : decode cL_law 516 = .ok (.iconst 0, 1) := by decide +kernel
theorem dL_law_517 : decode cL_law 517 = .ok (.ireturn, 1) := by decide +kernel
theorem dL_law_518 : decode cL_law 518 = .ok (.aload_n 1, 1) := by decide +kernel
theorem dL_law_519 : decode cL_law 519 = .ok (.aload_n 0, 1) := by decide +kernel
theorem dL_law_520 : decode cL_law 520 = .ok (.iload_n 3, 1) := by decide +kernel
theorem dL_law_521 : decode cL_law 521 = .ok (.iconst 1, 1) := by decide +kernel
theorem dL_law_522 : decode cL_law 522 = .ok (.iadd, 1) := by decide +kernel
theorem dL_law_523 : decode cL_law 523 = .ok (.iaload, 1) := by decide +kernel
theorem dL_law_524 : decode cL_law 524 = .ok (.aload_n 0, 1) := by decide +kernel
theorem dL_law_525 : decode cL_law 525 = .ok (.iload_n 3, 1) := by decide +kernel
theorem dL_law_526 : decode cL_law 526 = .ok (.iconst 2, 1) := by decide +kernel
theorem dL_law_527 : decode cL_law 527 = .ok (.iadd, 1) := by decide +kernel
theorem dL_law_528 : decode cL_law 528 = .ok (.iaload, 1) := by decide +kernel
theorem dL_law_529 : decode cL_law 529 = .ok (.invokevirtual 58, 3) := by decide +kernel
theorem dL_law_532 : decode cL_law 532 = .ok (.aload_n 2, 1) := by decide +kernel
theorem dL_law_533 : decode cL_law 533 = .ok (.aload_n 0, 1) := by decide +kernel
theorem dL_law_534 : decode cL_law 534 = .ok (.iload_n 3, 1) := by decide +kernel
theorem dL_law_535 : decode cL_law 535 = .ok (.iconst 1, 1) := by decide +kernel
theorem dL_law_536 : decode cL_law 536 = .ok (.iadd, 1) := by decide +kernel
theorem dL_law_537 : decode cL_law 537 = .ok (.iaload, 1) := by decide +kernel
theorem dL_law_538 : decode cL_law 538 = .ok (.aload_n 0, 1) := by decide +kernel
theorem dL_law_539 : decode cL_law 539 = .ok (.iload_n 3, 1) := by decide +kernel
theorem dL_law_540 : decode cL_law 540 = .ok (.iconst 2, 1) := by decide +kernel
theorem dL_law_541 : decode cL_law 541 = .ok (.iadd, 1) := by decide +kernel
theorem dL_law_542 : decode cL_law 542 = .ok (.iaload, 1) := by decide +kernel
theorem dL_law_543 : decode cL_law 543 = .ok (.invokevirtual 61, 3) := by decide +kernel
theorem dL_law_546 : decode cL_law 546 = .ok (.if_icmp .eq 528, 3) := by decide +kernel
theorem dL_law_549 : decode cL_law 549 = .ok (.iconst 0, 1) := by decide +kernel
theorem dL_law_550 : decode cL_law 550 = .ok (.ireturn, 1) := by decide +kernel
theorem dL_law_551 : decode cL_law 551 = .ok (.aload_n 1, 1) := by decide +kernel
theorem dL_law_552 : decode cL_law 552 = .ok (.aload_n 0, 1) := by decide +kernel
theorem dL_law_553 : decode cL_law 553 = .ok (.iload_n 3, 1) := by decide +kernel
theorem dL_law_554 : decode cL_law 554 = .ok (.iconst 1, 1) := by decide +kernel
theorem dL_law_555 : decode cL_law 555 = .ok (.iadd, 1) := by decide +kernel
theorem dL_law_556 : decode cL_law 556 = .ok (.iaload, 1) := by decide +kernel
theorem dL_law_557 : decode cL_law 557 = .ok (.aload_n 0, 1) := by decide +kernel
theorem dL_law_558 : decode cL_law 558 = .ok (.iload_n 3, 1) := by decide +kernel
theorem dL_law_559 : decode cL_law 559 = .ok (.iconst 2, 1) := by decide +kernel
theorem dL_law_560 : decode cL_law 560 = .ok (.iadd, 1) := by decide +kernel
theorem dL_law_561 : decode cL_law 561 = .ok (.iaload, 1) := by decide +kernel
theorem dL_law_562 : decode cL_law 562 = .ok (.invokevirtual 62, 3) := by decide +kernel
theorem dL_law_565 : decode cL_law 565 = .ok (.aload_n 2, 1) := by decide +kernel
theorem dL_law_566 : decode cL_law 566 = .ok (.aload_n 0, 1) := by decide +kernel
theorem dL_law_567 : decode cL_law 567 = .ok (.iload_n 3, 1) := by decide +kernel
theorem dL_law_568 : decode cL_law 568 = .ok (.iconst 1, 1) := by decide +kernel
theorem dL_law_569 : decode cL_law 569 = .ok (.iadd, 1) := by decide +kernel
theorem dL_law_570 : decode cL_law 570 = .ok (.iaload, 1) := by decide +kernel
theorem dL_law_571 : decode cL_law 571 = .ok (.aload_n 0, 1) := by decide +kernel
theorem dL_law_572 : decode cL_law 572 = .ok (.iload_n 3, 1) := by decide +kernel
theorem dL_law_573 : decode cL_law 573 = .ok (.iconst 2, 1) := by decide +kernel
theorem dL_law_574 : decode cL_law 574 = .ok (.iadd, 1) := by decide +kernel
theorem dL_law_575 : decode cL_law 575 = .ok (.iaload, 1) := by decide +kernel
theorem dL_law_576 : decode cL_law 576 = .ok (.invokevirtual 65, 3) := by decide +kernel
theorem dL_law_579 : decode cL_law 579 = .ok (.if_icmp .eq 495, 3) := by decide +kernel
theorem dL_law_582 : decode cL_law 582 = .ok (.iconst 0, 1) := by decide +kernel
theorem dL_law_583 : decode cL_law 583 = .ok (.ireturn, 1) := by decide +kernel
theorem dL_law_584 : decode cL_law 584 = .ok (.aload_n 1, 1) := by decide +kernel
theorem dL_law_585 : decode cL_law 585 = .ok (.aload_n 0, 1) := by decide +kernel
theorem dL_law_586 : decode cL_law 586 = .ok (.iload_n 3, 1) := by decide +kernel
theorem dL_law_587 : decode cL_law 587 = .ok (.iconst 1, 1) := by decide +kernel
theorem dL_law_588 : decode cL_law 588 = .ok (.iadd, 1) := by decide +kernel
theorem dL_law_589 : decode cL_law 589 = .ok (.iaload, 1) := by decide +kernel
theorem dL_law_590 : decode cL_law 590 = .ok (.invokevirtual 66, 3) := by decide +kernel
theorem dL_law_593 : decode cL_law 593 = .ok (.aload_n 2, 1) := by decide +kernel
theorem dL_law_594 : decode cL_law 594 = .ok (.aload_n 0, 1) := by decide +kernel
theorem dL_law_595 : decode cL_law 595 = .ok (.iload_n 3, 1) := by decide +kernel
theorem dL_law_596 : decode cL_law 596 = .ok (.iconst 1, 1) := by decide +kernel
theorem dL_law_597 : decode cL_law 597 = .ok (.iadd, 1) := by decide +kernel
theorem dL_law_598 : decode cL_law 598 = .ok (.iaload, 1) := by decide +kernel
theorem dL_law_599 : decode cL_law 599 = .ok (.invokevirtual 69, 3) := by decide +kernel
theorem dL_law_602 : decode cL_law 602 = .ok (.if_icmp .eq 472, 3) := by decide +kernel
theorem dL_law_605 : decode cL_law 605 = .ok (.iconst 0, 1) := by decide +kernel
theorem dL_law_606 : decode cL_law 606 = .ok (.ireturn, 1) := by decide +kernel
theorem dL_law_607 : decode cL_law 607 = .ok (.aload_n 1, 1) := by decide +kernel
theorem dL_law_608 : decode cL_law 608 = .ok (.aload_n 0, 1) := by decide +kernel
theorem dL_law_609 : decode cL_law 609 = .ok (.iload_n 3, 1) := by decide +kernel
theorem dL_law_610 : decode cL_law 610 = .ok (.iconst 1, 1) := by decide +kernel
theorem dL_law_611 : decode cL_law 611 = .ok (.iadd, 1) := by decide +kernel
theorem dL_law_612 : decode cL_law 612 = .ok (.iaload, 1) := by decide +kernel
theorem dL_law_613 : decode cL_law 613 = .ok (.aload_n 0, 1) := by decide +kernel
theorem dL_law_614 : decode cL_law 614 = .ok (.iload_n 3, 1) := by decide +kernel
theorem dL_law_615 : decode cL_law 615 = .ok (.iconst 2, 1) := by decide +kernel
theorem dL_law_616 : decode cL_law 616 = .ok (.iadd, 1) := by decide +kernel
theorem dL_law_617 : decode cL_law 617 = .ok (.iaload, 1) := by decide +kernel
theorem dL_law_618 : decode cL_law 618 = .ok (.invokevirtual 70, 3) := by decide +kernel
theorem dL_law_621 : decode cL_law 621 = .ok (.aload_n 2, 1) := by decide +kernel
theorem dL_law_622 : decode cL_law 622 = .ok (.aload_n 0, 1) := by decide +kernel
theorem dL_law_623 : decode cL_law 623 = .ok (.iload_n 3, 1) := by decide +kernel
theorem dL_law_624 : decode cL_law 624 = .ok (.iconst 1, 1) := by decide +kernel
theorem dL_law_625 : decode cL_law 625 = .ok (.iadd, 1) := by decide +kernel
theorem dL_law_626 : decode cL_law 626 = .ok (.iaload, 1) := by decide +kernel
theorem dL_law_627 : decode cL_law 627 = .ok (.aload_n 0, 1) := by decide +kernel
theorem dL_law_628 : decode cL_law 628 = .ok (.iload_n 3, 1) := by decide +kernel
theorem dL_law_629 : decode cL_law 629 = .ok (.iconst 2, 1) := by decide +kernel
theorem dL_law_630 : decode cL_law 630 = .ok (.iadd, 1) := by decide +kernel
theorem dL_law_631 : decode cL_law 631 = .ok (.iaload, 1) := by decide +kernel
theorem dL_law_632 : decode cL_law 632 = .ok (.invokevirtual 73, 3) := by decide +kernel
theorem dL_law_635 : decode cL_law 635 = .ok (.if_icmp .eq 439, 3) := by decide +kernel
theorem dL_law_638 : decode cL_law 638 = .ok (.iconst 0, 1) := by decide +kernel
theorem dL_law_639 : decode cL_law 639 = .ok (.ireturn, 1) := by decide +kernel
theorem dL_law_640 : decode cL_law 640 = .ok (.aload_n 1, 1) := by decide +kernel
theorem dL_law_641 : decode cL_law 641 = .ok (.aload_n 0, 1) := by decide +kernel
theorem dL_law_642 : decode cL_law 642 = .ok (.iload_n 3, 1) := by decide +kernel
theorem dL_law_643 : decode cL_law 643 = .ok (.iconst 1, 1) := by decide +kernel
theorem dL_law_644 : decode cL_law 644 = .ok (.iadd, 1) := by decide +kernel
theorem dL_law_645 : decode cL_law 645 = .ok (.iaload, 1) := by decide +kernel
theorem dL_law_646 : decode cL_law 646 = .ok (.aload_n 0, 1) := by decide +kernel
theorem dL_law_647 : decode cL_law 647 = .ok (.iload_n 3, 1) := by decide +kernel
theorem dL_law_648 : decode cL_law 648 = .ok (.iconst 2, 1) := by decide +kernel
theorem dL_law_649 : decode cL_law 649 = .ok (.iadd, 1) := by decide +kernel
theorem dL_law_650 : decode cL_law 650 = .ok (.iaload, 1) := by decide +kernel
theorem dL_law_651 : decode cL_law 651 = .ok (.invokevirtual 74, 3) := by decide +kernel
theorem dL_law_654 : decode cL_law 654 = .ok (.aload_n 2, 1) := by decide +kernel
theorem dL_law_655 : decode cL_law 655 = .ok (.aload_n 0, 1) := by decide +kernel
theorem dL_law_656 : decode cL_law 656 = .ok (.iload_n 3, 1) := by decide +kernel
theorem dL_law_657 : decode cL_law 657 = .ok (.iconst 1, 1) := by decide +kernel
theorem dL_law_658 : decode cL_law 658 = .ok (.iadd, 1) := by decide +kernel
theorem dL_law_659 : decode cL_law 659 = .ok (.iaload, 1) := by decide +kernel
theorem dL_law_660 : decode cL_law 660 = .ok (.aload_n 0, 1) := by decide +kernel
theorem dL_law_661 : decode cL_law 661 = .ok (.iload_n 3, 1) := by decide +kernel
theorem dL_law_662 : decode cL_law 662 = .ok (.iconst 2, 1) := by decide +kernel
theorem dL_law_663 : decode cL_law 663 = .ok (.iadd, 1) := by decide +kernel
theorem dL_law_664 : decode cL_law 664 = .ok (.iaload, 1) := by decide +kernel
theorem dL_law_665 : decode cL_law 665 = .ok (.invokevirtual 77, 3) := by decide +kernel
theorem dL_law_668 : decode cL_law 668 = .ok (.if_icmp .eq 406, 3) := by decide +kernel
theorem dL_law_671 : decode cL_law 671 = .ok (.iconst 0, 1) := by decide +kernel
theorem dL_law_672 : decode cL_law 672 = .ok (.ireturn, 1) := by decide +kernel
theorem dL_law_673 : decode cL_law 673 = .ok (.aload_n 1, 1) := by decide +kernel
theorem dL_law_674 : decode cL_law 674 = .ok (.aload_n 0, 1) := by decide +kernel
theorem dL_law_675 : decode cL_law 675 = .ok (.iload_n 3, 1) := by decide +kernel
theorem dL_law_676 : decode cL_law 676 = .ok (.iconst 1, 1) := by decide +kernel
theorem dL_law_677 : decode cL_law 677 = .ok (.iadd, 1) := by decide +kernel
theorem dL_law_678 : decode cL_law 678 = .ok (.iaload, 1) := by decide +kernel
theorem dL_law_679 : decode cL_law 679 = .ok (.aload_n 0, 1) := by decide +kernel
theorem dL_law_680 : decode cL_law 680 = .ok (.iload_n 3, 1) := by decide +kernel
theorem dL_law_681 : decode cL_law 681 = .ok (.iconst 2, 1) := by decide +kernel
theorem dL_law_682 : decode cL_law 682 = .ok (.iadd, 1) := by decide +kernel
theorem dL_law_683 : decode cL_law 683 = .ok (.iaload, 1) := by decide +kernel
theorem dL_law_684 : decode cL_law 684 = .ok (.invokevirtual 78, 3) := by decide +kernel
theorem dL_law_687 : decode cL_law 687 = .ok (.aload_n 2, 1) := by decide +kernel
theorem dL_law_688 : decode cL_law 688 = .ok (.aload_n 0, 1) := by decide +kernel
theorem dL_law_689 : decode cL_law 689 = .ok (.iload_n 3, 1) := by decide +kernel
theorem dL_law_690 : decode cL_law 690 = .ok (.iconst 1, 1) := by decide +kernel
theorem dL_law_691 : decode cL_law 691 = .ok (.iadd, 1) := by decide +kernel
theorem dL_law_692 : decode cL_law 692 = .ok (.iaload, 1) := by decide +kernel
theorem dL_law_693 : decode cL_law 693 = .ok (.aload_n 0, 1) := by decide +kernel
theorem dL_law_694 : decode cL_law 694 = .ok (.iload_n 3, 1) := by decide +kernel
theorem dL_law_695 : decode cL_law 695 = .ok (.iconst 2, 1) := by decide +kernel
theorem dL_law_696 : decode cL_law 696 = .ok (.iadd, 1) := by decide +kernel
theorem dL_law_697 : decode cL_law 697 = .ok (.iaload, 1) := by decide +kernel
theorem dL_law_698 : decode cL_law 698 = .ok (.invokevirtual 81, 3) := by decide +kernel
theorem dL_law_701 : decode cL_law 701 = .ok (.if_icmp .eq 373, 3) := by decide +kernel
theorem dL_law_704 : decode cL_law 704 = .ok (.iconst 0, 1) := by decide +kernel
theorem dL_law_705 : decode cL_law 705 = .ok (.ireturn, 1) := by decide +kernel
theorem dL_law_706 : decode cL_law 706 = .ok (.aload_n 1, 1) := by decide +kernel
theorem dL_law_707 : decode cL_law 707 = .ok (.aload_n 0, 1) := by decide +kernel
theorem dL_law_708 : decode cL_law 708 = .ok (.iload_n 3, 1) := by decide +kernel
theorem dL_law_709 : decode cL_law 709 = .ok (.iconst 1, 1) := by decide +kernel
theorem dL_law_710 : decode cL_law 710 = .ok (.iadd, 1) := by decide +kernel
theorem dL_law_711 : decode cL_law 711 = .ok (.iaload, 1) := by decide +kernel
theorem dL_law_712 : decode cL_law 712 = .ok (.aload_n 0, 1) := by decide +kernel
theorem dL_law_713 : decode cL_law 713 = .ok (.iload_n 3, 1) := by decide +kernel
theorem dL_law_714 : decode cL_law 714 = .ok (.iconst 2, 1) := by decide +kernel
theorem dL_law_715 : decode cL_law 715 = .ok (.iadd, 1) := by decide +kernel
theorem dL_law_716 : decode cL_law 716 = .ok (.iaload, 1) := by decide +kernel
theorem dL_law_717 : decode cL_law 717 = .ok (.invokevirtual 82, 3) := by decide +kernel
theorem dL_law_720 : decode cL_law 720 = .ok (.aload_n 2, 1) := by decide +kernel
theorem dL_law_721 : decode cL_law 721 = .ok (.aload_n 0, 1) := by decide +kernel
theorem dL_law_722 : decode cL_law 722 = .ok (.iload_n 3, 1) := by decide +kernel
theorem dL_law_723 : decode cL_law 723 = .ok (.iconst 1, 1) := by decide +kernel
theorem dL_law_724 : decode cL_law 724 = .ok (.iadd, 1) := by decide +kernel
theorem dL_law_725 : decode cL_law 725 = .ok (.iaload, 1) := by decide +kernel
theorem dL_law_726 : decode cL_law 726 = .ok (.aload_n 0, 1) := by decide +kernel
theorem dL_law_727 : decode cL_law 727 = .ok (.iload_n 3, 1) := by decide +kernel
theorem dL_law_728 : decode cL_law 728 = .ok (.iconst 2, 1) := by decide +kernel
theorem dL_law_729 : decode cL_law 729 = .ok (.iadd, 1) := by decide +kernel
theorem dL_law_730 : decode cL_law 730 = .ok (.iaload, 1) := by decide +kernel
theorem dL_law_731 : decode cL_law 731 = .ok (.invokevirtual 85, 3) := by decide +kernel
theorem dL_law_734 : decode cL_law 734 = .ok (.if_icmp .eq 340, 3) := by decide +kernel
theorem dL_law_737 : decode cL_law 737 = .ok (.iconst 0, 1) := by decide +kernel
theorem dL_law_738 : decode cL_law 738 = .ok (.ireturn, 1) := by decide +kernel
theorem dL_law_739 : decode cL_law 739 = .ok (.aload_n 1, 1) := by decide +kernel
theorem dL_law_740 : decode cL_law 740 = .ok (.aload_n 0, 1) := by decide +kernel
theorem dL_law_741 : decode cL_law 741 = .ok (.iload_n 3, 1) := by decide +kernel
theorem dL_law_742 : decode cL_law 742 = .ok (.iconst 1, 1) := by decide +kernel
theorem dL_law_743 : decode cL_law 743 = .ok (.iadd, 1) := by decide +kernel
theorem dL_law_744 : decode cL_law 744 = .ok (.iaload, 1) := by decide +kernel
theorem dL_law_745 : decode cL_law 745 = .ok (.invokevirtual 86, 3) := by decide +kernel
theorem dL_law_748 : decode cL_law 748 = .ok (.aload_n 2, 1) := by decide +kernel
theorem dL_law_749 : decode cL_law 749 = .ok (.aload_n 0, 1) := by decide +kernel
theorem dL_law_750 : decode cL_law 750 = .ok (.iload_n 3, 1) := by decide +kernel
theorem dL_law_751 : decode cL_law 751 = .ok (.iconst 1, 1) := by decide +kernel
theorem dL_law_752 : decode cL_law 752 = .ok (.iadd, 1) := by decide +kernel
theorem dL_law_753 : decode cL_law 753 = .ok (.iaload, 1) := by decide +kernel
theorem dL_law_754 : decode cL_law 754 = .ok (.invokevirtual 89, 3) := by decide +kernel
theorem dL_law_757 : decode cL_law 757 = .ok (.if_icmp .eq 317, 3) := by decide +kernel
theorem dL_law_760 : decode cL_law 760 = .ok (.iconst 0, 1) := by decide +kernel
theorem dL_law_761 : decode cL_law 761 = .ok (.ireturn, 1) := by decide +kernel
theorem dL_law_762 : decode cL_law 762 = .ok (.aload_n 1, 1) := by decide +kernel
theorem dL_law_763 : decode cL_law 763 = .ok (.invokevirtual 90, 3) := by decide +kernel
theorem dL_law_766 : decode cL_law 766 = .ok (.aload_n 2, 1) := by decide +kernel
theorem dL_law_767 : decode cL_law 767 = .ok (.invokevirtual 93, 3) := by decide +kernel
theorem dL_law_770 : decode cL_law 770 = .ok (.if_icmp .eq 304, 3) := by decide +kernel
theorem dL_law_773 : decode cL_law 773 = .ok (.iconst 0, 1) := by decide +kernel
theorem dL_law_774 : decode cL_law 774 = .ok (.ireturn, 1) := by decide +kernel
theorem dL_law_775 : decode cL_law 775 = .ok (.aload_n 1, 1) := by decide +kernel
theorem dL_law_776 : decode cL_law 776 = .ok (.aload_n 0, 1) := by decide +kernel
theorem dL_law_777 : decode cL_law 777 = .ok (.iload_n 3, 1) := by decide +kernel
theorem dL_law_778 : decode cL_law 778 = .ok (.iconst 1, 1) := by decide +kernel
theorem dL_law_779 : decode cL_law 779 = .ok (.iadd, 1) := by decide +kernel
theorem dL_law_780 : decode cL_law 780 = .ok (.iaload, 1) := by decide +kernel
theorem dL_law_781 : decode cL_law 781 = .ok (.invokevirtual 94, 3) := by decide +kernel
theorem dL_law_784 : decode cL_law 784 = .ok (.aload_n 2, 1) := by decide +kernel
theorem dL_law_785 : decode cL_law 785 = .ok (.aload_n 0, 1) := by decide +kernel
theorem dL_law_786 : decode cL_law 786 = .ok (.iload_n 3, 1) := by decide +kernel
theorem dL_law_787 : decode cL_law 787 = .ok (.iconst 1, 1) := by decide +kernel
theorem dL_law_788 : decode cL_law 788 = .ok (.iadd, 1) := by decide +kernel
theorem dL_law_789 : decode cL_law 789 = .ok (.iaload, 1) := by decide +kernel
theorem dL_law_790 : decode cL_law 790 = .ok (.invokevirtual 97, 3) := by decide +kernel
theorem dL_law_793 : decode cL_law 793 = .ok (.if_icmp .eq 281, 3) := by decide +kernel
theorem dL_law_796 : decode cL_law 796 = .ok (.iconst 0, 1) := by decide +kernel
theorem dL_law_797 : decode cL_law 797 = .ok (.ireturn, 1) := by decide +kernel
theorem dL_law_798 : decode cL_law 798 = .ok (.aload_n 1, 1) := by decide +kernel
theorem dL_law_799 : decode cL_law 799 = .ok (.invokevirtual 98, 3) := by decide +kernel
theorem dL_law_802 : decode cL_law 802 = .ok (.aload_n 2, 1) := by decide +kernel
theorem dL_law_803 : decode cL_law 803 = .ok (.invokevirtual 101, 3) := by decide +kernel
theorem dL_law_806 : decode cL_law 806 = .ok (.if_icmp .eq 268, 3) := by decide +kernel
theorem dL_law_809 : decode cL_law 809 = .ok (.iconst 0, 1) := by decide +kernel
theorem dL_law_810 : decode cL_law 810 = .ok (.ireturn, 1) := by decide +kernel
theorem dL_law_811 : decode cL_law 811 = .ok (.aload_n 1, 1) := by decide +kernel
theorem dL_law_812 : decode cL_law 812 = .ok (.aload_n 0, 1) := by decide +kernel
theorem dL_law_813 : decode cL_law 813 = .ok (.iload_n 3, 1) := by decide +kernel
theorem dL_law_814 : decode cL_law 814 = .ok (.iconst 1, 1) := by decide +kernel
theorem dL_law_815 : decode cL_law 815 = .ok (.iadd, 1) := by decide +kernel
theorem dL_law_816 : decode cL_law 816 = .ok (.iaload, 1) := by decide +kernel
theorem dL_law_817 : decode cL_law 817 = .ok (.invokevirtual 102, 3) := by decide +kernel
theorem dL_law_820 : decode cL_law 820 = .ok (.aload_n 2, 1) := by decide +kernel
theorem dL_law_821 : decode cL_law 821 = .ok (.aload_n 0, 1) := by decide +kernel
theorem dL_law_822 : decode cL_law 822 = .ok (.iload_n 3, 1) := by decide +kernel
theorem dL_law_823 : decode cL_law 823 = .ok (.iconst 1, 1) := by decide +kernel
theorem dL_law_824 : decode cL_law 824 = .ok (.iadd, 1) := by decide +kernel
theorem dL_law_825 : decode cL_law 825 = .ok (.iaload, 1) := by decide +kernel
theorem dL_law_826 : decode cL_law 826 = .ok (.invokevirtual 105, 3) := by decide +kernel
theorem dL_law_829 : decode cL_law 829 = .ok (.if_icmp .eq 245, 3) := by decide +kernel
theorem dL_law_832 : decode cL_law 832 = .ok (.iconst 0, 1) := by decide +kernel
theorem dL_law_833 : decode cL_law 833 = .ok (.ireturn, 1) := by decide +kernel
theorem dL_law_834 : decode cL_law 834 = .ok (.aload_n 1, 1) := by decide +kernel
theorem dL_law_835 : decode cL_law 835 = .ok (.aload_n 0, 1) := by decide +kernel
theorem dL_law_836 : decode cL_law 836 = .ok (.iload_n 3, 1) := by decide +kernel
theorem dL_law_837 : decode cL_law 837 = .ok (.iconst 1, 1) := by decide +kernel
theorem dL_law_838 : decode cL_law 838 = .ok (.iadd, 1) := by decide +kernel
theorem dL_law_839 : decode cL_law 839 = .ok (.iaload, 1) := by decide +kernel
theorem dL_law_840 : decode cL_law 840 = .ok (.aload_n 0, 1) := by decide +kernel
theorem dL_law_841 : decode cL_law 841 = .ok (.iload_n 3, 1) := by decide +kernel
theorem dL_law_842 : decode cL_law 842 = .ok (.iconst 2, 1) := by decide +kernel
theorem dL_law_843 : decode cL_law 843 = .ok (.iadd, 1) := by decide +kernel
theorem dL_law_844 : decode cL_law 844 = .ok (.iaload, 1) := by decide +kernel
theorem dL_law_845 : decode cL_law 845 = .ok (.invokevirtual 106, 3) := by decide +kernel
theorem dL_law_848 : decode cL_law 848 = .ok (.aload_n 2, 1) := by decide +kernel
theorem dL_law_849 : decode cL_law 849 = .ok (.aload_n 0, 1) := by decide +kernel
theorem dL_law_850 : decode cL_law 850 = .ok (.iload_n 3, 1) := by decide +kernel
theorem dL_law_851 : decode cL_law 851 = .ok (.iconst 1, 1) := by decide +kernel
theorem dL_law_852 : decode cL_law 852 = .ok (.iadd, 1) := by decide +kernel
theorem dL_law_853 : decode cL_law 853 = .ok (.iaload, 1) := by decide +kernel
theorem dL_law_854 : decode cL_law 854 = .ok (.aload_n 0, 1) := by decide +kernel
theorem dL_law_855 : decode cL_law 855 = .ok (.iload_n 3, 1) := by decide +kernel
theorem dL_law_856 : decode cL_law 856 = .ok (.iconst 2, 1) := by decide +kernel
theorem dL_law_857 : decode cL_law 857 = .ok (.iadd, 1) := by decide +kernel
theorem dL_law_858 : decode cL_law 858 = .ok (.iaload, 1) := by decide +kernel
theorem dL_law_859 : decode cL_law 859 = .ok (.invokevirtual 109, 3) := by decide +kernel
theorem dL_law_862 : decode cL_law 862 = .ok (.if_icmp .eq 212, 3) := by decide +kernel
theorem dL_law_865 : decode cL_law 865 = .ok (.iconst 0, 1) := by decide +kernel
theorem dL_law_866 : decode cL_law 866 = .ok (.ireturn, 1) := by decide +kernel
theorem dL_law_867 : decode cL_law 867 = .ok (.aload_n 1, 1) := by decide +kernel
theorem dL_law_868 : decode cL_law 868 = .ok (.aload_n 0, 1) := by decide +kernel
theorem dL_law_869 : decode cL_law 869 = .ok (.iload_n 3, 1) := by decide +kernel
theorem dL_law_870 : decode cL_law 870 = .ok (.iconst 1, 1) := by decide +kernel
theorem dL_law_871 : decode cL_law 871 = .ok (.iadd, 1) := by decide +kernel
theorem dL_law_872 : decode cL_law 872 = .ok (.iaload, 1) := by decide +kernel
theorem dL_law_873 : decode cL_law 873 = .ok (.aload_n 0, 1) := by decide +kernel
theorem dL_law_874 : decode cL_law 874 = .ok (.iload_n 3, 1) := by decide +kernel
theorem dL_law_875 : decode cL_law 875 = .ok (.iconst 2, 1) := by decide +kernel
theorem dL_law_876 : decode cL_law 876 = .ok (.iadd, 1) := by decide +kernel
theorem dL_law_877 : decode cL_law 877 = .ok (.iaload, 1) := by decide +kernel
theorem dL_law_878 : decode cL_law 878 = .ok (.invokevirtual 110, 3) := by decide +kernel
theorem dL_law_881 : decode cL_law 881 = .ok (.aload_n 2, 1) := by decide +kernel
theorem dL_law_882 : decode cL_law 882 = .ok (.aload_n 0, 1) := by decide +kernel
theorem dL_law_883 : decode cL_law 883 = .ok (.iload_n 3, 1) := by decide +kernel
theorem dL_law_884 : decode cL_law 884 = .ok (.iconst 1, 1) := by decide +kernel
theorem dL_law_885 : decode cL_law 885 = .ok (.iadd, 1) := by decide +kernel
theorem dL_law_886 : decode cL_law 886 = .ok (.iaload, 1) := by decide +kernel
theorem dL_law_887 : decode cL_law 887 = .ok (.aload_n 0, 1) := by decide +kernel
theorem dL_law_888 : decode cL_law 888 = .ok (.iload_n 3, 1) := by decide +kernel
theorem dL_law_889 : decode cL_law 889 = .ok (.iconst 2, 1) := by decide +kernel
theorem dL_law_890 : decode cL_law 890 = .ok (.iadd, 1) := by decide +kernel
theorem dL_law_891 : decode cL_law 891 = .ok (.iaload, 1) := by decide +kernel
theorem dL_law_892 : decode cL_law 892 = .ok (.invokevirtual 113, 3) := by decide +kernel
theorem dL_law_895 : decode cL_law 895 = .ok (.if_icmp .eq 179, 3) := by decide +kernel
theorem dL_law_898 : decode cL_law 898 = .ok (.iconst 0, 1) := by decide +kernel
theorem dL_law_899 : decode cL_law 899 = .ok (.ireturn, 1) := by decide +kernel
theorem dL_law_900 : decode cL_law 900 = .ok (.aload_n 1, 1) := by decide +kernel
theorem dL_law_901 : decode cL_law 901 = .ok (.invokevirtual 114, 3) := by decide +kernel
theorem dL_law_904 : decode cL_law 904 = .ok (.aload_n 2, 1) := by decide +kernel
theorem dL_law_905 : decode cL_law 905 = .ok (.invokevirtual 117, 3) := by decide +kernel
theorem dL_law_908 : decode cL_law 908 = .ok (.if_icmp .eq 166, 3) := by decide +kernel
theorem dL_law_911 : decode cL_law 911 = .ok (.iconst 0, 1) := by decide +kernel
theorem dL_law_912 : decode cL_law 912 = .ok (.ireturn, 1) := by decide +kernel
theorem dL_law_913 : decode cL_law 913 = .ok (.aload_n 1, 1) := by decide +kernel
theorem dL_law_914 : decode cL_law 914 = .ok (.aload_n 0, 1) := by decide +kernel
theorem dL_law_915 : decode cL_law 915 = .ok (.iload_n 3, 1) := by decide +kernel
theorem dL_law_916 : decode cL_law 916 = .ok (.iconst 1, 1) := by decide +kernel
theorem dL_law_917 : decode cL_law 917 = .ok (.iadd, 1) := by decide +kernel
theorem dL_law_918 : decode cL_law 918 = .ok (.iaload, 1) := by decide +kernel
theorem dL_law_919 : decode cL_law 919 = .ok (.aload_n 0, 1) := by decide +kernel
theorem dL_law_920 : decode cL_law 920 = .ok (.iload_n 3, 1) := by decide +kernel
theorem dL_law_921 : decode cL_law 921 = .ok (.iconst 2, 1) := by decide +kernel
theorem dL_law_922 : decode cL_law 922 = .ok (.iadd, 1) := by decide +kernel
theorem dL_law_923 : decode cL_law 923 = .ok (.iaload, 1) := by decide +kernel
theorem dL_law_924 : decode cL_law 924 = .ok (.invokevirtual 118, 3) := by decide +kernel
theorem dL_law_927 : decode cL_law 927 = .ok (.aload_n 2, 1) := by decide +kernel
theorem dL_law_928 : decode cL_law 928 = .ok (.aload_n 0, 1) := by decide +kernel
theorem dL_law_929 : decode cL_law 929 = .ok (.iload_n 3, 1) := by decide +kernel
theorem dL_law_930 : decode cL_law 930 = .ok (.iconst 1, 1) := by decide +kernel
theorem dL_law_931 : decode cL_law 931 = .ok (.iadd, 1) := by decide +kernel
theorem dL_law_932 : decode cL_law 932 = .ok (.iaload, 1) := by decide +kernel
theorem dL_law_933 : decode cL_law 933 = .ok (.aload_n 0, 1) := by decide +kernel
theorem dL_law_934 : decode cL_law 934 = .ok (.iload_n 3, 1) := by decide +kernel
theorem dL_law_935 : decode cL_law 935 = .ok (.iconst 2, 1) := by decide +kernel
theorem dL_law_936 : decode cL_law 936 = .ok (.iadd, 1) := by decide +kernel
theorem dL_law_937 : decode cL_law 937 = .ok (.iaload, 1) := by decide +kernel
theorem dL_law_938 : decode cL_law 938 = .ok (.invokevirtual 121, 3) := by decide +kernel
theorem dL_law_941 : decode cL_law 941 = .ok (.if_icmp .eq 133, 3) := by decide +kernel
theorem dL_law_944 : decode cL_law 944 = .ok (.iconst 0, 1) := by decide +kernel
theorem dL_law_945 : decode cL_law 945 = .ok (.ireturn, 1) := by decide +kernel
theorem dL_law_946 : decode cL_law 946 = .ok (.aload_n 1, 1) := by decide +kernel
theorem dL_law_947 : decode cL_law 947 = .ok (.aload_n 0, 1) := by decide +kernel
theorem dL_law_948 : decode cL_law 948 = .ok (.iload_n 3, 1) := by decide +kernel
theorem dL_law_949 : decode cL_law 949 = .ok (.iconst 1, 1) := by decide +kernel
theorem dL_law_950 : decode cL_law 950 = .ok (.iadd, 1) := by decide +kernel
theorem dL_law_951 : decode cL_law 951 = .ok (.iaload, 1) := by decide +kernel
theorem dL_law_952 : decode cL_law 952 = .ok (.invokevirtual 122, 3) := by decide +kernel
theorem dL_law_955 : decode cL_law 955 = .ok (.aload_n 2, 1) := by decide +kernel
theorem dL_law_956 : decode cL_law 956 = .ok (.aload_n 0, 1) := by decide +kernel
theorem dL_law_957 : decode cL_law 957 = .ok (.iload_n 3, 1) := by decide +kernel
theorem dL_law_958 : decode cL_law 958 = .ok (.iconst 1, 1) := by decide +kernel
theorem dL_law_959 : decode cL_law 959 = .ok (.iadd, 1) := by decide +kernel
theorem dL_law_960 : decode cL_law 960 = .ok (.iaload, 1) := by decide +kernel
theorem dL_law_961 : decode cL_law 961 = .ok (.invokevirtual 125, 3) := by decide +kernel
theorem dL_law_964 : decode cL_law 964 = .ok (.if_icmp .eq 110, 3) := by decide +kernel
theorem dL_law_967 : decode cL_law 967 = .ok (.iconst 0, 1) := by decide +kernel
theorem dL_law_968 : decode cL_law 968 = .ok (.ireturn, 1) := by decide +kernel
theorem dL_law_969 : decode cL_law 969 = .ok (.aload_n 1, 1) := by decide +kernel
theorem dL_law_970 : decode cL_law 970 = .ok (.invokevirtual 126, 3) := by decide +kernel
theorem dL_law_973 : decode cL_law 973 = .ok (.aload_n 2, 1) := by decide +kernel
theorem dL_law_974 : decode cL_law 974 = .ok (.invokevirtual 129, 3) := by decide +kernel
theorem dL_law_977 : decode cL_law 977 = .ok (.if_icmp .eq 97, 3) := by decide +kernel
theorem dL_law_980 : decode cL_law 980 = .ok (.iconst 0, 1) := by decide +kernel
theorem dL_law_981 : decode cL_law 981 = .ok (.ireturn, 1) := by decide +kernel
theorem dL_law_982 : decode cL_law 982 = .ok (.aload_n 1, 1) := by decide +kernel
theorem dL_law_983 : decode cL_law 983 = .ok (.aload_n 0, 1) := by decide +kernel
theorem dL_law_984 : decode cL_law 984 = .ok (.iload_n 3, 1) := by decide +kernel
theorem dL_law_985 : decode cL_law 985 = .ok (.iconst 1, 1) := by decide +kernel
theorem dL_law_986 : decode cL_law 986 = .ok (.iadd, 1) := by decide +kernel
theorem dL_law_987 : decode cL_law 987 = .ok (.iaload, 1) := by decide +kernel
theorem dL_law_988 : decode cL_law 988 = .ok (.invokevirtual 130, 3) := by decide +kernel
theorem dL_law_991 : decode cL_law 991 = .ok (.aload_n 2, 1) := by decide +kernel
theorem dL_law_992 : decode cL_law 992 = .ok (.aload_n 0, 1) := by decide +kernel
theorem dL_law_993 : decode cL_law 993 = .ok (.iload_n 3, 1) := by decide +kernel
theorem dL_law_994 : decode cL_law 994 = .ok (.iconst 1, 1) := by decide +kernel
theorem dL_law_995 : decode cL_law 995 = .ok (.iadd, 1) := by decide +kernel
theorem dL_law_996 : decode cL_law 996 = .ok (.iaload, 1) := by decide +kernel
theorem dL_law_997 : decode cL_law 997 = .ok (.invokevirtual 133, 3) := by decide +kernel
theorem dL_law_1000 : decode cL_law 1000 = .ok (.if_icmp .eq 74, 3) := by decide +kernel
theorem dL_law_1003 : decode cL_law 1003 = .ok (.iconst 0, 1) := by decide +kernel
theorem dL_law_1004 : decode cL_law 1004 = .ok (.ireturn, 1) := by decide +kernel
theorem dL_law_1005 : decode cL_law 1005 = .ok (.aload_n 1, 1) := by decide +kernel
theorem dL_law_1006 : decode cL_law 1006 = .ok (.aload_n 0, 1) := by decide +kernel
theorem dL_law_1007 : decode cL_law 1007 = .ok (.iload_n 3, 1) := by decide +kernel
theorem dL_law_1008 : decode cL_law 1008 = .ok (.iconst 1, 1) := by decide +kernel
theorem dL_law_1009 : decode cL_law 1009 = .ok (.iadd, 1) := by decide +kernel
theorem dL_law_1010 : decode cL_law 1010 = .ok (.iaload, 1) := by decide +kernel
theorem dL_law_1011 : decode cL_law 1011 = .ok (.invokevirtual 134, 3) := by decide +kernel
theorem dL_law_1014 : decode cL_law 1014 = .ok (.aload_n 2, 1) := by decide +kernel
theorem dL_law_1015 : decode cL_law 1015 = .ok (.aload_n 0, 1) := by decide +kernel
theorem dL_law_1016 : decode cL_law 1016 = .ok (.iload_n 3, 1) := by decide +kernel
theorem dL_law_1017 : decode cL_law 1017 = .ok (.iconst 1, 1) := by decide +kernel
theorem dL_law_1018 : decode cL_law 1018 = .ok (.iadd, 1) := by decide +kernel
theorem dL_law_1019 : decode cL_law 1019 = .ok (.iaload, 1) := by decide +kernel
theorem dL_law_1020 : decode cL_law 1020 = .ok (.invokevirtual 137, 3) := by decide +kernel
theorem dL_law_1023 : decode cL_law 1023 = .ok (.if_icmp .eq 51, 3) := by decide +kernel
theorem dL_law_1026 : decode cL_law 1026 = .ok (.iconst 0, 1) := by decide +kernel
theorem dL_law_1027 : decode cL_law 1027 = .ok (.ireturn, 1) := by decide +kernel
theorem dL_law_1028 : decode cL_law 1028 = .ok (.aload_n 1, 1) := by decide +kernel
theorem dL_law_1029 : decode cL_law 1029 = .ok (.aload_n 0, 1) := by decide +kernel
theorem dL_law_1030 : decode cL_law 1030 = .ok (.iload_n 3, 1) := by decide +kernel
theorem dL_law_1031 : decode cL_law 1031 = .ok (.iconst 1, 1) := by decide +kernel
theorem dL_law_1032 : decode cL_law 1032 = .ok (.iadd, 1) := by decide +kernel
theorem dL_law_1033 : decode cL_law 1033 = .ok (.iaload, 1) := by decide +kernel
theorem dL_law_1034 : decode cL_law 1034 = .ok (.invokevirtual 138, 3) := by decide +kernel
theorem dL_law_1037 : decode cL_law 1037 = .ok (.aload_n 2, 1) := by decide +kernel
theorem dL_law_1038 : decode cL_law 1038 = .ok (.aload_n 0, 1) := by decide +kernel
theorem dL_law_1039 : decode cL_law 1039 = .ok (.iload_n 3, 1) := by decide +kernel
theorem dL_law_1040 : decode cL_law 1040 = .ok (.iconst 1, 1) := by decide +kernel
theorem dL_law_1041 : decode cL_law 1041 = .ok (.iadd, 1) := by decide +kernel
theorem dL_law_1042 : decode cL_law 1042 = .ok (.iaload, 1) := by decide +kernel
theorem dL_law_1043 : decode cL_law 1043 = .ok (.invokevirtual 141, 3) := by decide +kernel
theorem dL_law_1046 : decode cL_law 1046 = .ok (.if_icmp .eq 28, 3) := by decide +kernel
theorem dL_law_1049 : decode cL_law 1049 = .ok (.iconst 0, 1) := by decide +kernel
theorem dL_law_1050 : decode cL_law 1050 = .ok (.ireturn, 1) := by decide +kernel
theorem dL_law_1051 : decode cL_law 1051 = .ok (.aload_n 1, 1) := by decide +kernel
theorem dL_law_1052 : decode cL_law 1052 = .ok (.aload_n 0, 1) := by decide +kernel
theorem dL_law_1053 : decode cL_law 1053 = .ok (.iload_n 3, 1) := by decide +kernel
theorem dL_law_1054 : decode cL_law 1054 = .ok (.iconst 1, 1) := by decide +kernel
theorem dL_law_1055 : decode cL_law 1055 = .ok (.iadd, 1) := by decide +kernel
theorem dL_law_1056 : decode cL_law 1056 = .ok (.iaload, 1) := by decide +kernel
theorem dL_law_1057 : decode cL_law 1057 = .ok (.invokevirtual 142, 3) := by decide +kernel
theorem dL_law_1060 : decode cL_law 1060 = .ok (.aload_n 2, 1) := by decide +kernel
theorem dL_law_1061 : decode cL_law 1061 = .ok (.aload_n 0, 1) := by decide +kernel
theorem dL_law_1062 : decode cL_law 1062 = .ok (.iload_n 3, 1) := by decide +kernel
theorem dL_law_1063 : decode cL_law 1063 = .ok (.iconst 1, 1) := by decide +kernel
theorem dL_law_1064 : decode cL_law 1064 = .ok (.iadd, 1) := by decide +kernel
theorem dL_law_1065 : decode cL_law 1065 = .ok (.iaload, 1) := by decide +kernel
theorem dL_law_1066 : decode cL_law 1066 = .ok (.invokevirtual 145, 3) := by decide +kernel
theorem dL_law_1069 : decode cL_law 1069 = .ok (.if_icmp .eq 5, 3) := by decide +kernel
theorem dL_law_1072 : decode cL_law 1072 = .ok (.iconst 0, 1) := by decide +kernel
theorem dL_law_1073 : decode cL_law 1073 = .ok (.ireturn, 1) := by decide +kernel
theorem dL_law_1074 : decode cL_law 1074 = .ok (.iinc 3 7, 3) := by decide +kernel
theorem dL_law_1077 : decode cL_law 1077 = .ok (.goto (-1059), 3) := by decide +kernel
theorem dL_law_1080 : decode cL_law 1080 = .ok (.iconst 1, 1) := by decide +kernel
theorem dL_law_1081 : decode cL_law 1081 = .ok (.ireturn, 1) := by decide +kernel
end
section
/-! The world: one fixed layout of 276 cells, their numbers a function of two arguments; locals as a list. -/
abbrev VV : Type := Nat → Nat → Int32
abbrev GG : Type := (Nat → Nat) × va_G × (ClassId × ClassId × ClassId × ClassId) × (Nat → Prop)
abbrev TE : Type := Program × Launch × Env × Room × State × MethodId × Array Value × List Frame × Method × Code × Nat × Nat × (State → Prop)
def celP (G : GG) (p o : Nat) (w : Nat → Int32) : va_E :=
  if o = 0 then .inr (2, [.ref (G.1 (p + 1)), .int (w 1), .int (w 2), .ref (G.1 (p + 86)), .ref (G.1 (p + 87))])
  else if o = 1 then .inl (G.2.2.1.2.2.1, 12, .inr (.inr (.inr (.inr (fun b => some (G.1 (p + 2 + 7 * b)))))))
  else if o = 86 then .inl (G.2.2.1.1, 8, .inl w)
  else if o = 87 then .inl (G.2.2.1.1, 12, .inl w)
  else if (o - 2) % 7 = 0 then .inr (0, [.ref (G.1 (p + o + 1)), .ref (G.1 (p + o + 2)), .ref (G.1 (p + o + 3)), .ref (G.1 (p + o + 4)), .ref (G.1 (p + o + 5)), .int (w 5), .int (w 6), .ref (G.1 (p + o + 6))])
  else if (o - 2) % 7 = 6 then .inl (G.2.2.1.1, 3, .inl w)
  else .inl (G.2.2.1.1, 10, .inl w)
def cel (G : GG) (k : Nat) (w : Nat → Int32) : va_E :=
  if k = 0 then .inr (3, [.ref (G.1 1), .ref (G.1 89), .ref (G.1 266), .ref (G.1 267)])
  else if k < 89 then celP G 1 (k - 1) w
  else if k = 89 then .inl (G.2.2.1.2.2.2, 2, .inr (.inr (.inr (.inr (fun i => some (G.1 (90 + 88 * i)))))))
  else if k < 178 then celP G 90 (k - 90) w
  else if k < 266 then celP G 178 (k - 178) w
  else if k = 266 then .inl (G.2.2.1.2.1, 2, .inl w)
  else if k = 267 then .inr (1, [.ref (G.1 268), .ref (G.1 269), .int (w 2)])
  else if k = 268 then .inl (G.2.2.1.1, 8, .inl w)
  else if k = 269 then .inl (G.2.2.1.1, 1000, .inl w)
  else if k = 270 then .inr (4, [.ref (G.1 271), .ref (G.1 272), .ref (G.1 273), .int (w 3), .ref (G.1 274), .ref (G.1 275), .int (w 6)])
  else if k = 271 then .inl (G.2.2.1.1, 670, .inl w)
  else if k = 272 then .inl (G.2.2.1.1, 1340, .inl w)
  else if k = 273 then .inl (G.2.2.1.2.1, 2, .inl w)
  else if k = 274 then .inl (G.2.2.1.1, 8, .inl w)
  else .inl (G.2.2.1.1, 1000, .inl w)
def wl (G : GG) (v : VV) : va_W := (List.range 276).map fun k => (G.1 k, cel G k (v k))
def tysG (G : GG) : List (ClassId × FieldType) := [(G.2.2.1.1, .int), (G.2.2.1.2.1, .boolean), (G.2.2.1.2.2.1, .object RX0), (G.2.2.1.2.2.2, .object RX2)]
def Gok (G : GG) : Prop := (∀ i j, i < 276 → j < 276 → G.1 i = G.1 j → i = j) ∧ ∀ k, k < 276 → G.2.2.2 (G.1 k)
def isPr (p : Nat) : Prop := p = 1 ∨ p = 90 ∨ p = 178
def isBk (k : Nat) : Prop := ∃ p b, isPr p ∧ b < 12 ∧ k = p + 2 + 7 * b
theorem wl_get {G : GG} {v : VV} {k : Nat} (h : k < 276) : (wl G v)[k]? = some (G.1 k, cel G k (v k)) := by
  simp [wl, h]
theorem wl_set {G : GG} {v : VV} {k : Nat} {w : Nat → Int32} {e : va_E} (h : k < 276) (he : cel G k w = e) : (wl G v).set k (G.1 k, e) = wl G (va_up v k w) := by
  apply List.ext_getElem?
  intro j
  by_cases hj : j = k
  · subst hj
    rw [List.getElem?_set_self (by simp [wl, h]), wl_get h, va_up_self, he]
  · rw [List.getElem?_set_ne (Ne.symm hj)]
    simp only [wl, List.getElem?_map]
    cases hb : (List.range 276)[j]? with
    | none => simp only [Option.map_none]
    | some b =>
      have hbj : b = j := by
        obtain ⟨h1, h2⟩ := List.getElem?_eq_some_iff.mp hb
        simpa using h2.symm
      subst hbj
      simp [va_up, hj]
theorem wl_D {G : GG} (hG : Gok G) (v : VV) : va_D G.2.2.2 (wl G v) := by
  have key : ∀ (k : Nat) (q : Nat × va_E), (wl G v)[k]? = some q → k < 276 ∧ q = (G.1 k, cel G k (v k)) := by
    intro k q hk
    have hl : k < 276 := by
      have := (List.getElem?_eq_some_iff.mp hk).1
      simpa [wl] using this
    rw [wl_get hl] at hk
    exact ⟨hl, (Option.some.inj hk).symm⟩
  refine ⟨fun i j x y hi hj hxy => ?_, fun k q hk => ?_⟩
  · obtain ⟨a1, rfl⟩ := key i x hi
    obtain ⟨a2, rfl⟩ := key j y hj
    exact hG.1 i j a1 a2 hxy
  · obtain ⟨a1, rfl⟩ := key k q hk
    exact hG.2 k a1
/-! which cell is what -/
abbrev fsB (G : GG) (k : Nat) (w : Nat → Int32) : List Value := [.ref (G.1 (k + 1)), .ref (G.1 (k + 2)), .ref (G.1 (k + 3)), .ref (G.1 (k + 4)), .ref (G.1 (k + 5)), .int (w 5), .int (w 6), .ref (G.1 (k + 6))]
abbrev fsP (G : GG) (p : Nat) (w : Nat → Int32) : List Value := [.ref (G.1 (p + 1)), .int (w 1), .int (w 2), .ref (G.1 (p + 86)), .ref (G.1 (p + 87))]
abbrev fsT (G : GG) : List Value := [.ref (G.1 1), .ref (G.1 89), .ref (G.1 266), .ref (G.1 267)]
abbrev fsM (G : GG) (w : Nat → Int32) : List Value := [.ref (G.1 268), .ref (G.1 269), .int (w 2)]
abbrev fsR (G : GG) (w : Nat → Int32) : List Value := [.ref (G.1 271), .ref (G.1 272), .ref (G.1 273), .int (w 3), .ref (G.1 274), .ref (G.1 275), .int (w 6)]
theorem cel_in {G : GG} {p o : Nat} {w : Nat → Int32} (hp : isPr p) (ho : o < 88) : cel G (p + o) w = celP G p o w := by
  rcases hp with rfl | rfl | rfl
  · rw [cel, if_neg (by omega), if_pos (by omega), Nat.add_sub_cancel_left]
  · rw [cel, if_neg (by omega), if_neg (by omega), if_neg (by omega), if_pos (by omega), Nat.add_sub_cancel_left]
  · rw [cel, if_neg (by omega), if_neg (by omega), if_neg (by omega), if_neg (by omega), if_pos (by omega), Nat.add_sub_cancel_left]
theorem celB {G : GG} {k : Nat} (hk : isBk k) (w : Nat → Int32) : cel G k w = .inr (0, fsB G k w) := by
  obtain ⟨p, b, hp, hb, rfl⟩ := hk
  rw [Nat.add_assoc p 2, cel_in hp (by omega), celP, if_neg (by omega), if_neg (by omega), if_neg (by omega), if_neg (by omega), if_pos (by omega)]
theorem celBa {G : GG} {k c : Nat} (hk : isBk k) (hc : c < 5) (w : Nat → Int32) : cel G (k + (1 + c)) w = .inl (G.2.2.1.1, 10, .inl w) := by
  obtain ⟨p, b, hp, hb, rfl⟩ := hk
  rw [show p + 2 + 7 * b + (1 + c) = p + (2 + 7 * b + (1 + c)) by omega, cel_in hp (by omega), celP, if_neg (by omega), if_neg (by omega), if_neg (by omega), if_neg (by omega), if_neg (by omega), if_neg (by omega)]
theorem celBt {G : GG} {k : Nat} (hk : isBk k) (w : Nat → Int32) : cel G (k + 6) w = .inl (G.2.2.1.1, 3, .inl w) := by
  obtain ⟨p, b, hp, hb, rfl⟩ := hk
  rw [show p + 2 + 7 * b + 6 = p + (2 + 7 * b + 6) by omega, cel_in hp (by omega), celP, if_neg (by omega), if_neg (by omega), if_neg (by omega), if_neg (by omega), if_neg (by omega), if_pos (by omega)]
theorem celPo {G : GG} {p : Nat} (hp : isPr p) (w : Nat → Int32) : cel G p w = .inr (2, fsP G p w) := by
  have := cel_in (G := G) (o := 0) (w := w) hp (by omega)
  rw [Nat.add_zero] at this
  rw [this, celP, if_pos rfl]
theorem celPb {G : GG} {p : Nat} (hp : isPr p) (w : Nat → Int32) : cel G (p + 1) w = .inl (G.2.2.1.2.2.1, 12, .inr (.inr (.inr (.inr (fun b => some (G.1 (p + 2 + 7 * b))))))) := by
  rw [cel_in hp (by omega), celP, if_neg (by omega), if_pos rfl]
theorem celPi {G : GG} {p : Nat} (hp : isPr p) (w : Nat → Int32) : cel G (p + 86) w = .inl (G.2.2.1.1, 8, .inl w) := by
  rw [cel_in hp (by omega), celP, if_neg (by omega), if_neg (by omega), if_pos rfl]
theorem celPs {G : GG} {p : Nat} (hp : isPr p) (w : Nat → Int32) : cel G (p + 87) w = .inl (G.2.2.1.1, 12, .inl w) := by
  rw [cel_in hp (by omega), celP, if_neg (by omega), if_neg (by omega), if_neg (by omega), if_pos rfl]
theorem isPr_lt {p : Nat} (hp : isPr p) : p + 87 < 266 := by rcases hp with rfl | rfl | rfl <;> omega
theorem isBk_lt {k : Nat} (hk : isBk k) : k + 6 < 276 := by
  obtain ⟨p, b, hp, hb, rfl⟩ := hk
  have := isPr_lt hp
  omega
theorem isBk_of {p b : Nat} (hp : isPr p) (hb : b < 12) : isBk (p + 2 + 7 * b) := ⟨p, b, hp, hb, rfl⟩
theorem isPr_1 : isPr 1 := Or.inl rfl
theorem isPr_s {i : Nat} (h : i < 2) : isPr (90 + 88 * i) := by
  have : i = 0 ∨ i = 1 := by omega
  rcases this with rfl | rfl
  · exact Or.inr (Or.inl rfl)
  · exact Or.inr (Or.inr rfl)
/-- an int array of n places, a boolean one, an object of a class -/
def iA (k n : Nat) : Prop := (k < 276 ∧ n < 2000) ∧ ∀ (G : GG) (w : Nat → Int32), cel G k w = .inl (G.2.2.1.1, n, .inl w)
def zA (k n : Nat) : Prop := (k < 276 ∧ n < 2000) ∧ ∀ (G : GG) (w : Nat → Int32), cel G k w = .inl (G.2.2.1.2.1, n, .inl w)
def Ob (ci k : Nat) : Prop := k < 276 ∧ ∀ (G : GG) (w : Nat → Int32), ∃ fs, cel G k w = .inr (ci, fs)
theorem iA_b1 {k : Nat} (h : isBk k) : iA (k + 1) 10 := ⟨⟨by have := isBk_lt h; omega, by omega⟩, fun G w => celBa (c := 0) h (by omega) w⟩
theorem iA_b2 {k : Nat} (h : isBk k) : iA (k + 2) 10 := ⟨⟨by have := isBk_lt h; omega, by omega⟩, fun G w => celBa (c := 1) h (by omega) w⟩
theorem iA_b3 {k : Nat} (h : isBk k) : iA (k + 3) 10 := ⟨⟨by have := isBk_lt h; omega, by omega⟩, fun G w => celBa (c := 2) h (by omega) w⟩
theorem iA_b4 {k : Nat} (h : isBk k) : iA (k + 4) 10 := ⟨⟨by have := isBk_lt h; omega, by omega⟩, fun G w => celBa (c := 3) h (by omega) w⟩
theorem iA_b5 {k : Nat} (h : isBk k) : iA (k + 5) 10 := ⟨⟨by have := isBk_lt h; omega, by omega⟩, fun G w => celBa (c := 4) h (by omega) w⟩
theorem iA_b6 {k : Nat} (h : isBk k) : iA (k + 6) 3 := ⟨⟨by have := isBk_lt h; omega, by omega⟩, fun G w => celBt h w⟩
theorem iA_p86 {p : Nat} (h : isPr p) : iA (p + 86) 8 := ⟨⟨by have := isPr_lt h; omega, by omega⟩, fun G w => celPi h w⟩
theorem iA_p87 {p : Nat} (h : isPr p) : iA (p + 87) 12 := ⟨⟨by have := isPr_lt h; omega, by omega⟩, fun G w => celPs h w⟩
theorem iA_268 : iA 268 8 := ⟨⟨by omega, by omega⟩, fun G w => rfl⟩
theorem iA_269 : iA 269 1000 := ⟨⟨by omega, by omega⟩, fun G w => rfl⟩
theorem iA_271 : iA 271 670 := ⟨⟨by omega, by omega⟩, fun G w => rfl⟩
theorem iA_272 : iA 272 1340 := ⟨⟨by omega, by omega⟩, fun G w => rfl⟩
theorem iA_274 : iA 274 8 := ⟨⟨by omega, by omega⟩, fun G w => rfl⟩
theorem iA_275 : iA 275 1000 := ⟨⟨by omega, by omega⟩, fun G w => rfl⟩
theorem zA_266 : zA 266 2 := ⟨⟨by omega, by omega⟩, fun G w => rfl⟩
theorem zA_273 : zA 273 2 := ⟨⟨by omega, by omega⟩, fun G w => rfl⟩
theorem ob_b {k : Nat} (h : isBk k) : Ob 0 k := ⟨by have := isBk_lt h; omega, fun G w => ⟨_, celB h w⟩⟩
theorem ob_p {p : Nat} (h : isPr p) : Ob 2 p := ⟨by have := isPr_lt h; omega, fun G w => ⟨_, celPo h w⟩⟩
theorem ob_0 : Ob 3 0 := ⟨by omega, fun G w => ⟨_, rfl⟩⟩
theorem ob_267 : Ob 1 267 := ⟨by omega, fun G w => ⟨_, rfl⟩⟩
theorem ob_270 : Ob 4 270 := ⟨by omega, fun G w => ⟨_, rfl⟩⟩
/-! the words on private members of nest mates, as tables_1 has them -/
def nestF : List (String × Nat × String × String × String × String) := [(RX1, 65, RX0, "opcodes", "[I", "TailMerger"), (RX3, 69, RX0, "opcodes", "[I", "TailMerger"), (RX1, 56, RX0, "destinations", "[I", "TailMerger"), (RX3, 73, RX0, "destinations", "[I", "TailMerger"), (RX1, 59, RX0, "operandsA", "[I", "TailMerger"), (RX3, 76, RX0, "operandsA", "[I", "TailMerger"), (RX1, 62, RX0, "operandsB", "[I", "TailMerger"), (RX3, 79, RX0, "operandsB", "[I", "TailMerger"), (RX3, 82, RX0, "lineSets", "[I", "TailMerger"), (RX1, 37, RX0, "count", "I", "TailMerger"), (RX2, 45, RX0, "count", "I", "TailMerger"), (RX3, 64, RX0, "count", "I", "TailMerger"), (RX1, 46, RX0, "kind", "I", "TailMerger"), (RX2, 50, RX0, "kind", "I", "TailMerger"), (RX3, 85, RX0, "kind", "I", "TailMerger"), (RX1, 53, RX0, "terminatorOperands", "[I", "TailMerger"), (RX3, 88, RX0, "terminatorOperands", "[I", "TailMerger"), (RX1, 33, RX2, "blocks", "[LTailMerger$Block;", "TailMerger"), (RX3, 43, RX2, "blocks", "[LTailMerger$Block;", "TailMerger"), (RX3, 60, RX2, "count", "I", "TailMerger"), (RX3, 105, RX2, "jumpCost", "I", "TailMerger"), (RX1, 22, RX2, "initialValues", "[I", "TailMerger"), (RX3, 141, RX2, "initialValues", "[I", "TailMerger"), (RX3, 154, RX1, "values", "[I", "TailMerger"), (RX3, 151, RX1, "emitted", "[I", "TailMerger"), (RX3, 148, RX1, "emittedCount", "I", "TailMerger")]
def nestM : List (String × Nat × MethodName × String) := [(RX3, 9, yX2_init, "TailMerger"), (RX2, 17, yX0_init, "TailMerger"), (RX3, 26, yX1_init, "TailMerger"), (RX3, 31, yX2_appendBlock, "TailMerger"), (RX2, 32, yX0_clear, "TailMerger"), (RX3, 35, yX2_has, "TailMerger"), (RX3, 47, yX0_append, "TailMerger"), (RX3, 56, yX0_terminate, "TailMerger"), (RX3, 91, yX0_hashOfTail, "TailMerger"), (RX3, 98, yX0_tailSharedWith, "TailMerger"), (RX3, 102, yX0_parameterTailWith, "TailMerger"), (RX3, 108, yX2_size, "TailMerger"), (RX3, 122, yX2_tailOfSet, "TailMerger"), (RX2, 57, yX0_tailSharedWith, "TailMerger"), (RX3, 114, yX2_savingOfSet, "TailMerger"), (RX3, 125, yX2_bestSet, "TailMerger"), (RX3, 128, yX2_mergeSet, "TailMerger"), (RX2, 87, yX0_uniteLines, "TailMerger"), (RX2, 91, yX0_appendTail, "TailMerger"), (RX2, 94, yX0_replaceTailByJump, "TailMerger"), (RX3, 134, yX2_savingWithParameter, "TailMerger"), (RX3, 137, yX2_mergePair, "TailMerger"), (RX2, 98, yX0_isEqualAt, "TailMerger"), (RX2, 102, yX0_takeParameterAt, "TailMerger"), (RX2, 105, yX0_replaceTailByParameter, "TailMerger"), (RX3, 144, yX1_execute, "TailMerger"), (RX3, 157, yX2_copyFrom, "TailMerger"), (RX2, 35, yX0_copyFrom, "TailMerger")]
/-! locals as a list: known values of one slot each -/
def gl : List (Option Value) → Nat → Option Value
  | [], _ => none
  | a :: _, 0 => a
  | _ :: l, n + 1 => gl l n
def sl : List (Option Value) → Nat → Value → List (Option Value)
  | [], _, _ => []
  | _ :: l, 0, x => some x :: l
  | a :: l, n + 1, x => a :: sl l n x
theorem sl_len (L : List (Option Value)) : ∀ (i : Nat) (x : Value), (sl L i x).length = L.length := by
  induction L with
  | nil => intro i x; rfl
  | cons a l ih =>
    intro i x
    cases i with
    | zero => rfl
    | succ i => simp [sl, ih]
theorem gl_lt (L : List (Option Value)) : ∀ (j : Nat) (y : Value), gl L j = some y → j < L.length := by
  induction L with
  | nil => intro j y h; cases h
  | cons a l ih =>
    intro j y h
    cases j with
    | zero => simp
    | succ j => have := ih j y h; simp; omega
theorem gl_sl (L : List (Option Value)) : ∀ (i j : Nat) (x y : Value), gl (sl L i x) j = some y → (j = i ∧ y = x) ∨ (j ≠ i ∧ gl L j = some y) := by
  induction L with
  | nil => intro i j x y h; cases h
  | cons a l ih =>
    intro i j x y h
    cases i with
    | zero =>
      cases j with
      | zero => exact Or.inl ⟨rfl, (Option.some.inj h).symm⟩
      | succ j => exact Or.inr ⟨by omega, h⟩
    | succ i =>
      cases j with
      | zero => exact Or.inr ⟨by omega, h⟩
      | succ j =>
        rcases ih i j x y h with ⟨h1, h2⟩ | ⟨h1, h2⟩
        · exact Or.inl ⟨by omega, h2⟩
        · exact Or.inr ⟨by omega, h2⟩
def lk_l (L : List (Option Value)) : List (Nat × Value) := (List.range L.length).filterMap (fun j => (gl L j).map (fun x => (j, x)))
theorem lk_mem {L : List (Option Value)} {j : Nat} {x : Value} : (j, x) ∈ lk_l L ↔ gl L j = some x := by
  unfold lk_l
  rw [List.mem_filterMap]
  constructor
  · rintro ⟨i, -, hi⟩
    cases hg : gl L i with
    | none => rw [hg] at hi; cases hi
    | some y =>
      rw [hg] at hi
      have := Option.some.inj hi
      have h1 : i = j := congrArg Prod.fst this
      have h2 : y = x := congrArg Prod.snd this
      rw [← h1, ← h2]
      exact hg
  · intro h
    exact ⟨j, List.mem_range.mpr (gl_lt L j x h), by rw [h]; rfl⟩
def lk_ok (ls : Array Slot) (L : List (Option Value)) : Prop := ls.size = L.length ∧ lv_wf ls ∧ ∀ (i : Nat) (x : Value), gl L i = some x → ls[i]? = some (.val x) ∧ x.category = 1
theorem lk_to {ls : Array Slot} {L : List (Option Value)} (h : lk_ok ls L) : lv_has ls L.length (lk_l L) :=
  ⟨h.1, h.2.1, fun q hq => (h.2.2 q.1 q.2 (lk_mem.mp hq)).1⟩
theorem lk_st {ls ls' : Array Slot} {L : List (Option Value)} {i : Nat} {v : Value} (h : lk_ok ls L) (hc : v.category = 1) (h' : lv_has ls' L.length ((i, v) :: (lk_l L).filter (fun q => !(q.1 == i) && !(q.1 + 1 == i && q.2.category == 2)))) : lk_ok ls' (sl L i v) := by
  refine ⟨by rw [sl_len]; exact h'.1, h'.2.1, fun j x hx => ?_⟩
  rcases gl_sl L i j v x hx with ⟨h1, h2⟩ | ⟨h1, h2⟩
  · subst h1; subst h2
    exact ⟨h'.2.2 (j, x) List.mem_cons_self, hc⟩
  · have hcx := (h.2.2 j x h2).2
    refine ⟨h'.2.2 (j, x) (List.mem_cons_of_mem _ (List.mem_filter.mpr ⟨lk_mem.mpr h2, ?_⟩)), hcx⟩
    simp [h1, hcx]
/-! nest words -/
def NW (U : State) : Prop := (∀ q ∈ nestF, va_Nw (.fieldLinkNest q.1 q.2.1 q.2.2.1 q.2.2.2.1 q.2.2.2.2.1 q.2.2.2.2.2) U) ∧ ∀ q ∈ nestM, va_Nw (.methodLinkNest q.1 q.2.1 q.2.2.1 q.2.2.2) U
theorem NW.warm {s U : State} (hW : s.WarmedH U.vm) (h : NW s) : NW U := ⟨fun q hq => (h.1 q hq).warmF hW, fun q hq => (h.2 q hq).warmM hW⟩
theorem NW.same {s U : State} (hv : s.vm = U.vm) (h : NW s) : NW U := ⟨fun q hq => (h.1 q hq).same rfl hv, fun q hq => (h.2 q hq).same rfl hv⟩
/-! the judgement over the layout -/
def Wv (E : TE) (G : GG) (v : VV) (pc : Nat) (L : List (Option Value)) (st : List Value) : Prop :=
  match E with
  | (p, l, e, R, s, m, args, below, meth, c, cells, slots, Q) => ∀ (H : Heap) (locs : List Loc) (ls : Array Slot), va_P G.2.1 vwCl (wl G v) H → va_S G.2.2.2 s.heap H locs → lk_ok ls L → W p l e R s m args below meth c H locs cells slots Q (F0 m pc ls st)
def Cx (E : TE) (G : GG) (cc : ByteArray) (own : String) (nL : Nat) (Ts : List Cond) (fr lo : Nat) : Prop :=
  match E with
  | (p, _, _, R, s, m, args, _, _, c, cells, slots, _) => p.tables.exec = Jvm.exec ∧ c.code = cc ∧ c.maxLocals = nL ∧ s.vm.findClass own = some m.cls ∧ (∀ w ∈ Ts, w.before args s = true) ∧ va_K G.2.1 vwCl (tysG G) s ∧ Gok G ∧ NW s ∧ cells ≤ R.cells ∧ slots ≤ R.slots ∧ R.frames = fr ∧ R.locals = lo
/-- a word that holds at the method's start -/
def Wo (E : TE) (w : Cond) : Prop :=
  match E with
  | (_, _, _, _, s, _, args, _, _, _, _, _, _) => w.before args s = true
def lnk (E : TE) (own : String) (idx : Nat) (q : String × String × String × Bool) : Prop := Wo E (.fieldLink own idx q.1 q.2.1 q.2.2.1) ∨ ∃ host, Wo E (.fieldLinkNest own idx q.1 q.2.1 q.2.2.1 host)
section RW
variable {E : TE} {G : GG} {v : VV} {pc q t : Nat} {L L' : List (Option Value)} {st : List Value} {cc : ByteArray} {own : String} {nL fr lo : Nat} {Ts : List Cond}
theorem Cx.wo (hC : Cx E G cc own nL Ts fr lo) (w : Cond) (hw : w ∈ Ts) : Wo E w := by
  obtain ⟨p, l, e, R, s, m, args, below, meth, c, cells, slots, Q⟩ := E
  exact hC.2.2.2.2.1 w hw
theorem Cx.nf (hC : Cx E G cc own nL Ts fr lo) (i : Nat) {a b n d h : String} {k : Nat} {f : Bool} (hq : nestF[i]? = some (a, k, b, n, d, h)) : lnk E a k (b, n, d, f) := by
  obtain ⟨p, l, e, R, s, m, args, below, meth, c, cells, slots, Q⟩ := E
  exact Or.inr ⟨h, va_Nw.use rfl (hC.2.2.2.2.2.2.2.1.1 _ (List.mem_of_getElem? hq))⟩
theorem Cx.fl (hC : Cx E G cc own nL Ts fr lo) {a b n d : String} {k : Nat} {f : Bool} (hw : Cond.fieldLink a k b n d ∈ Ts) : lnk E a k (b, n, d, f) := Or.inl (hC.wo _ hw)
theorem r_iconst (hC : Cx E G cc own nL Ts fr lo) {n : Int} {x : Int32} (hd : decode cc pc = .ok (.iconst n, 1)) (hx : Int32.ofInt n = x) (hq : pc + 1 = q) (kk : Wv E G v q L (.int x :: st)) : Wv E G v pc L st := by
  obtain ⟨p, l, e, R, s, m, args, below, meth, c, cells, slots, Q⟩ := E
  subst hq
  obtain ⟨h1, h2, -⟩ := hC
  intro H locs ls hP hS hl
  exact lv_iconst h1 h2 hd hx (kk H locs ls hP hS hl)
theorem r_bipush (hC : Cx E G cc own nL Ts fr lo) {n : Int} {x : Int32} (hd : decode cc pc = .ok (.bipush n, 2)) (hx : (Int8.ofInt n).toInt32 = x) (hq : pc + 2 = q) (kk : Wv E G v q L (.int x :: st)) : Wv E G v pc L st := by
  obtain ⟨p, l, e, R, s, m, args, below, meth, c, cells, slots, Q⟩ := E
  subst hq
  obtain ⟨h1, h2, -⟩ := hC
  intro H locs ls hP hS hl
  exact lv_bipush h1 h2 hd hx (kk H locs ls hP hS hl)
theorem r_sipush (hC : Cx E G cc own nL Ts fr lo) {n : Int} {x : Int32} (hd : decode cc pc = .ok (.sipush n, 3)) (hx : (Int16.ofInt n).toInt32 = x) (hq : pc + 3 = q) (kk : Wv E G v q L (.int x :: st)) : Wv E G v pc L st := by
  obtain ⟨p, l, e, R, s, m, args, below, meth, c, cells, slots, Q⟩ := E
  subst hq
  obtain ⟨h1, h2, -⟩ := hC
  intro H locs ls hP hS hl
  exact lv_sipush h1 h2 hd hx (kk H locs ls hP hS hl)
theorem r_ldc (hC : Cx E G cc own nL Ts fr lo) {i : Nat} {x : Int32} (hw : Cond.constant own i x ∈ Ts) (hd : decode cc pc = .ok (.ldc i, 2)) (hq : pc + 2 = q) (kk : Wv E G v q L (.int x :: st)) : Wv E G v pc L st := by
  obtain ⟨p, l, e, R, s, m, args, below, meth, c, cells, slots, Q⟩ := E
  subst hq
  obtain ⟨h1, h2, -, h4, h5, -⟩ := hC
  intro H locs ls hP hS hl
  exact lv_ldc h1 h2 h4 (h5 _ hw) hd (kk H locs ls hP hS hl)
theorem r_ldcw (hC : Cx E G cc own nL Ts fr lo) {i : Nat} {x : Int32} (hw : Cond.constant own i x ∈ Ts) (hd : decode cc pc = .ok (.ldc_w i, 3)) (hq : pc + 3 = q) (kk : Wv E G v q L (.int x :: st)) : Wv E G v pc L st := by
  obtain ⟨p, l, e, R, s, m, args, below, meth, c, cells, slots, Q⟩ := E
  subst hq
  obtain ⟨h1, h2, -, h4, h5, -⟩ := hC
  intro H locs ls hP hS hl
  exact lv_ldcw h1 h2 h4 (h5 _ hw) hd (kk H locs ls hP hS hl)
theorem r_iload_n (hC : Cx E G cc own nL Ts fr lo) {k : Fin 4} {x : Int32} (hd : decode cc pc = .ok (.iload_n k, 1)) (hx : gl L k = some (.int x)) (hq : pc + 1 = q) (kk : Wv E G v q L (.int x :: st)) : Wv E G v pc L st := by
  obtain ⟨p, l, e, R, s, m, args, below, meth, c, cells, slots, Q⟩ := E
  subst hq
  obtain ⟨h1, h2, -⟩ := hC
  intro H locs ls hP hS hl
  exact lv_iload_n h1 h2 hd rfl (hl.2.2 _ _ hx).1 (kk H locs ls hP hS hl)
theorem r_iload (hC : Cx E G cc own nL Ts fr lo) {k : Nat} {x : Int32} (hd : decode cc pc = .ok (.iload k, 2)) (hx : gl L k = some (.int x)) (hq : pc + 2 = q) (kk : Wv E G v q L (.int x :: st)) : Wv E G v pc L st := by
  obtain ⟨p, l, e, R, s, m, args, below, meth, c, cells, slots, Q⟩ := E
  subst hq
  obtain ⟨h1, h2, -⟩ := hC
  intro H locs ls hP hS hl
  exact lv_iload h1 h2 hd (hl.2.2 _ _ hx).1 (kk H locs ls hP hS hl)
theorem r_aload_n (hC : Cx E G cc own nL Ts fr lo) {k : Fin 4} {x : Nat} (hd : decode cc pc = .ok (.aload_n k, 1)) (hx : gl L k = some (.ref x)) (hq : pc + 1 = q) (kk : Wv E G v q L (.ref x :: st)) : Wv E G v pc L st := by
  obtain ⟨p, l, e, R, s, m, args, below, meth, c, cells, slots, Q⟩ := E
  subst hq
  obtain ⟨h1, h2, -⟩ := hC
  intro H locs ls hP hS hl
  exact lv_aload_n h1 h2 hd rfl (hl.2.2 _ _ hx).1 (kk H locs ls hP hS hl)
theorem r_istore_n (hC : Cx E G cc own nL Ts fr lo) {k : Fin 4} {x : Int32} (hd : decode cc pc = .ok (.istore_n k, 1)) (hk : (k : Nat) < L.length) (hL : sl L k (.int x) = L') (hq : pc + 1 = q) (kk : Wv E G v q L' st) : Wv E G v pc L (.int x :: st) := by
  obtain ⟨p, l, e, R, s, m, args, below, meth, c, cells, slots, Q⟩ := E
  subst hq; subst hL
  obtain ⟨h1, h2, -⟩ := hC
  intro H locs ls hP hS hl
  exact lv_istore_n h1 h2 hd rfl (lk_to hl) hk rfl (fun ls' h' => kk H locs ls' hP hS (lk_st hl rfl h'))
theorem r_istore (hC : Cx E G cc own nL Ts fr lo) {k : Nat} {x : Int32} (hd : decode cc pc = .ok (.istore k, 2)) (hk : k < L.length) (hL : sl L k (.int x) = L') (hq : pc + 2 = q) (kk : Wv E G v q L' st) : Wv E G v pc L (.int x :: st) := by
  obtain ⟨p, l, e, R, s, m, args, below, meth, c, cells, slots, Q⟩ := E
  subst hq; subst hL
  obtain ⟨h1, h2, -⟩ := hC
  intro H locs ls hP hS hl
  exact lv_istore h1 h2 hd (lk_to hl) hk rfl (fun ls' h' => kk H locs ls' hP hS (lk_st hl rfl h'))
theorem r_astore_n (hC : Cx E G cc own nL Ts fr lo) {k : Fin 4} {x : Nat} (hd : decode cc pc = .ok (.astore_n k, 1)) (hk : (k : Nat) < L.length) (hL : sl L k (.ref x) = L') (hq : pc + 1 = q) (kk : Wv E G v q L' st) : Wv E G v pc L (.ref x :: st) := by
  obtain ⟨p, l, e, R, s, m, args, below, meth, c, cells, slots, Q⟩ := E
  subst hq; subst hL
  obtain ⟨h1, h2, -⟩ := hC
  intro H locs ls hP hS hl
  exact lv_astore_n h1 h2 hd rfl (lk_to hl) hk rfl (fun ls' h' => kk H locs ls' hP hS (lk_st hl rfl h'))
theorem r_iinc (hC : Cx E G cc own nL Ts fr lo) {k : Nat} {n : Int} {x y : Int32} (hd : decode cc pc = .ok (.iinc k n, 3)) (hx : gl L k = some (.int x)) (hy : x + Int32.ofInt n = y) (hL : sl L k (.int y) = L') (hq : pc + 3 = q) (kk : Wv E G v q L' st) : Wv E G v pc L st := by
  obtain ⟨p, l, e, R, s, m, args, below, meth, c, cells, slots, Q⟩ := E
  subst hq; subst hL
  obtain ⟨h1, h2, -⟩ := hC
  intro H locs ls hP hS hl
  obtain ⟨i, hi⟩ := List.getElem?_of_mem (lk_mem.mpr hx)
  exact lv_iinc h1 h2 hd (lk_to hl) hi hy (gl_lt _ _ _ hx) rfl (fun ls' h' => kk H locs ls' hP hS (lk_st hl rfl h'))
theorem r_iadd (hC : Cx E G cc own nL Ts fr lo) {x y : Int32} (hd : decode cc pc = .ok (.iadd, 1)) (hq : pc + 1 = q) (kk : Wv E G v q L (.int (x + y) :: st)) : Wv E G v pc L (.int y :: .int x :: st) := by
  obtain ⟨p, l, e, R, s, m, args, below, meth, c, cells, slots, Q⟩ := E
  subst hq
  obtain ⟨h1, h2, -⟩ := hC
  intro H locs ls hP hS hl
  exact lv_iadd h1 h2 hd (kk H locs ls hP hS hl)
theorem r_isub (hC : Cx E G cc own nL Ts fr lo) {x y : Int32} (hd : decode cc pc = .ok (.isub, 1)) (hq : pc + 1 = q) (kk : Wv E G v q L (.int (x - y) :: st)) : Wv E G v pc L (.int y :: .int x :: st) := by
  obtain ⟨p, l, e, R, s, m, args, below, meth, c, cells, slots, Q⟩ := E
  subst hq
  obtain ⟨h1, h2, -⟩ := hC
  intro H locs ls hP hS hl
  exact lv_isub h1 h2 hd (kk H locs ls hP hS hl)
theorem r_imul (hC : Cx E G cc own nL Ts fr lo) {x y : Int32} (hd : decode cc pc = .ok (.imul, 1)) (hq : pc + 1 = q) (kk : Wv E G v q L (.int (x * y) :: st)) : Wv E G v pc L (.int y :: .int x :: st) := by
  obtain ⟨p, l, e, R, s, m, args, below, meth, c, cells, slots, Q⟩ := E
  subst hq
  obtain ⟨h1, h2, -⟩ := hC
  intro H locs ls hP hS hl
  exact lv_imul h1 h2 hd (kk H locs ls hP hS hl)
theorem r_iand (hC : Cx E G cc own nL Ts fr lo) {x y : Int32} (hd : decode cc pc = .ok (.iand, 1)) (hq : pc + 1 = q) (kk : Wv E G v q L (.int (x &&& y) :: st)) : Wv E G v pc L (.int y :: .int x :: st) := by
  obtain ⟨p, l, e, R, s, m, args, below, meth, c, cells, slots, Q⟩ := E
  subst hq
  obtain ⟨h1, h2, -⟩ := hC
  intro H locs ls hP hS hl
  exact lv_iand h1 h2 hd (kk H locs ls hP hS hl)
theorem r_ior (hC : Cx E G cc own nL Ts fr lo) {x y : Int32} (hd : decode cc pc = .ok (.ior, 1)) (hq : pc + 1 = q) (kk : Wv E G v q L (.int (x ||| y) :: st)) : Wv E G v pc L (.int y :: .int x :: st) := by
  obtain ⟨p, l, e, R, s, m, args, below, meth, c, cells, slots, Q⟩ := E
  subst hq
  obtain ⟨h1, h2, -⟩ := hC
  intro H locs ls hP hS hl
  exact lv_ior h1 h2 hd (kk H locs ls hP hS hl)
theorem r_ishl (hC : Cx E G cc own nL Ts fr lo) {x y : Int32} (hd : decode cc pc = .ok (.ishl, 1)) (hq : pc + 1 = q) (kk : Wv E G v q L (.int (x <<< (y &&& 31)) :: st)) : Wv E G v pc L (.int y :: .int x :: st) := by
  obtain ⟨p, l, e, R, s, m, args, below, meth, c, cells, slots, Q⟩ := E
  subst hq
  obtain ⟨h1, h2, -⟩ := hC
  intro H locs ls hP hS hl
  exact lv_ishl h1 h2 hd (kk H locs ls hP hS hl)
theorem r_ishr (hC : Cx E G cc own nL Ts fr lo) {x y : Int32} (hd : decode cc pc = .ok (.ishr, 1)) (hq : pc + 1 = q) (kk : Wv E G v q L (.int (x >>> (y &&& 31)) :: st)) : Wv E G v pc L (.int y :: .int x :: st) := by
  obtain ⟨p, l, e, R, s, m, args, below, meth, c, cells, slots, Q⟩ := E
  subst hq
  obtain ⟨h1, h2, -⟩ := hC
  intro H locs ls hP hS hl
  exact lv_ishr h1 h2 hd (kk H locs ls hP hS hl)
theorem r_iushr (hC : Cx E G cc own nL Ts fr lo) {x y : Int32} (hd : decode cc pc = .ok (.iushr, 1)) (hq : pc + 1 = q) (kk : Wv E G v q L (.int (x.toUInt32 >>> (y.toUInt32 &&& Int32.toUInt32 31)).toInt32 :: st)) : Wv E G v pc L (.int y :: .int x :: st) := by
  obtain ⟨p, l, e, R, s, m, args, below, meth, c, cells, slots, Q⟩ := E
  subst hq
  obtain ⟨h1, h2, -⟩ := hC
  intro H locs ls hP hS hl
  exact lv_iushr h1 h2 hd rfl (kk H locs ls hP hS hl)
theorem r_dup (hC : Cx E G cc own nL Ts fr lo) {x : Value} (hx : x.category = 1) (hd : decode cc pc = .ok (.dup, 1)) (hq : pc + 1 = q) (kk : Wv E G v q L (x :: x :: st)) : Wv E G v pc L (x :: st) := by
  obtain ⟨p, l, e, R, s, m, args, below, meth, c, cells, slots, Q⟩ := E
  subst hq
  obtain ⟨h1, h2, -⟩ := hC
  intro H locs ls hP hS hl
  exact lv_dup h1 h2 hd hx (kk H locs ls hP hS hl)
theorem r_dup2 (hC : Cx E G cc own nL Ts fr lo) {x y : Value} (hx : x.category = 1) (hy : y.category = 1) (hd : decode cc pc = .ok (.dup2, 1)) (hq : pc + 1 = q) (kk : Wv E G v q L (x :: y :: x :: y :: st)) : Wv E G v pc L (x :: y :: st) := by
  obtain ⟨p, l, e, R, s, m, args, below, meth, c, cells, slots, Q⟩ := E
  subst hq
  obtain ⟨h1, h2, -⟩ := hC
  intro H locs ls hP hS hl
  exact lv_dup2_11 h1 h2 hd hx hy (kk H locs ls hP hS hl)
theorem r_pop (hC : Cx E G cc own nL Ts fr lo) {x : Value} (hx : x.category = 1) (hd : decode cc pc = .ok (.pop, 1)) (hq : pc + 1 = q) (kk : Wv E G v q L st) : Wv E G v pc L (x :: st) := by
  obtain ⟨p, l, e, R, s, m, args, below, meth, c, cells, slots, Q⟩ := E
  subst hq
  obtain ⟨h1, h2, -⟩ := hC
  intro H locs ls hP hS hl
  exact lv_pop h1 h2 hd hx (kk H locs ls hP hS hl)
theorem r_if_eq (hC : Cx E G cc own nL Ts fr lo) {x : Int32} {off : Int} (hd : decode cc pc = .ok (.ifCond .eq off, 3)) (ht : (pc : Int) + off = (t : Int)) (hq : pc + 3 = q) (kt : x = 0 → Wv E G v t L st) (kf : ¬ x = 0 → Wv E G v q L st) : Wv E G v pc L (.int x :: st) := by
  obtain ⟨p, l, e, R, s, m, args, below, meth, c, cells, slots, Q⟩ := E
  subst hq
  obtain ⟨h1, h2, -⟩ := hC
  intro H locs ls hP hS hl
  exact lv_if_eq h1 h2 hd ht (fun h => kt h H locs ls hP hS hl) (fun h => kf h H locs ls hP hS hl)
theorem r_icmp_eq (hC : Cx E G cc own nL Ts fr lo) {x y : Int32} {off : Int} (hd : decode cc pc = .ok (.if_icmp .eq off, 3)) (ht : (pc : Int) + off = (t : Int)) (hq : pc + 3 = q) (kt : x = y → Wv E G v t L st) (kf : ¬ x = y → Wv E G v q L st) : Wv E G v pc L (.int y :: .int x :: st) := by
  obtain ⟨p, l, e, R, s, m, args, below, meth, c, cells, slots, Q⟩ := E
  subst hq
  obtain ⟨h1, h2, -⟩ := hC
  intro H locs ls hP hS hl
  exact lv_icmp_eq h1 h2 hd ht (fun h => kt h H locs ls hP hS hl) (fun h => kf h H locs ls hP hS hl)
theorem r_if_ne (hC : Cx E G cc own nL Ts fr lo) {x : Int32} {off : Int} (hd : decode cc pc = .ok (.ifCond .ne off, 3)) (ht : (pc : Int) + off = (t : Int)) (hq : pc + 3 = q) (kt : ¬ x = 0 → Wv E G v t L st) (kf : x = 0 → Wv E G v q L st) : Wv E G v pc L (.int x :: st) := by
  obtain ⟨p, l, e, R, s, m, args, below, meth, c, cells, slots, Q⟩ := E
  subst hq
  obtain ⟨h1, h2, -⟩ := hC
  intro H locs ls hP hS hl
  exact lv_if_ne h1 h2 hd ht (fun h => kt h H locs ls hP hS hl) (fun h => kf h H locs ls hP hS hl)
theorem r_icmp_ne (hC : Cx E G cc own nL Ts fr lo) {x y : Int32} {off : Int} (hd : decode cc pc = .ok (.if_icmp .ne off, 3)) (ht : (pc : Int) + off = (t : Int)) (hq : pc + 3 = q) (kt : ¬ x = y → Wv E G v t L st) (kf : x = y → Wv E G v q L st) : Wv E G v pc L (.int y :: .int x :: st) := by
  obtain ⟨p, l, e, R, s, m, args, below, meth, c, cells, slots, Q⟩ := E
  subst hq
  obtain ⟨h1, h2, -⟩ := hC
  intro H locs ls hP hS hl
  exact lv_icmp_ne h1 h2 hd ht (fun h => kt h H locs ls hP hS hl) (fun h => kf h H locs ls hP hS hl)
theorem r_if_lt (hC : Cx E G cc own nL Ts fr lo) {x : Int32} {off : Int} (hd : decode cc pc = .ok (.ifCond .lt off, 3)) (ht : (pc : Int) + off = (t : Int)) (hq : pc + 3 = q) (kt : x < 0 → Wv E G v t L st) (kf : ¬ x < 0 → Wv E G v q L st) : Wv E G v pc L (.int x :: st) := by
  obtain ⟨p, l, e, R, s, m, args, below, meth, c, cells, slots, Q⟩ := E
  subst hq
  obtain ⟨h1, h2, -⟩ := hC
  intro H locs ls hP hS hl
  exact lv_if_lt h1 h2 hd ht (fun h => kt h H locs ls hP hS hl) (fun h => kf h H locs ls hP hS hl)
theorem r_icmp_lt (hC : Cx E G cc own nL Ts fr lo) {x y : Int32} {off : Int} (hd : decode cc pc = .ok (.if_icmp .lt off, 3)) (ht : (pc : Int) + off = (t : Int)) (hq : pc + 3 = q) (kt : x < y → Wv E G v t L st) (kf : ¬ x < y → Wv E G v q L st) : Wv E G v pc L (.int y :: .int x :: st) := by
  obtain ⟨p, l, e, R, s, m, args, below, meth, c, cells, slots, Q⟩ := E
  subst hq
  obtain ⟨h1, h2, -⟩ := hC
  intro H locs ls hP hS hl
  exact lv_icmp_lt h1 h2 hd ht (fun h => kt h H locs ls hP hS hl) (fun h => kf h H locs ls hP hS hl)
theorem r_if_ge (hC : Cx E G cc own nL Ts fr lo) {x : Int32} {off : Int} (hd : decode cc pc = .ok (.ifCond .ge off, 3)) (ht : (pc : Int) + off = (t : Int)) (hq : pc + 3 = q) (kt : 0 ≤ x → Wv E G v t L st) (kf : ¬ 0 ≤ x → Wv E G v q L st) : Wv E G v pc L (.int x :: st) := by
  obtain ⟨p, l, e, R, s, m, args, below, meth, c, cells, slots, Q⟩ := E
  subst hq
  obtain ⟨h1, h2, -⟩ := hC
  intro H locs ls hP hS hl
  exact lv_if_ge h1 h2 hd ht (fun h => kt h H locs ls hP hS hl) (fun h => kf h H locs ls hP hS hl)
theorem r_icmp_ge (hC : Cx E G cc own nL Ts fr lo) {x y : Int32} {off : Int} (hd : decode cc pc = .ok (.if_icmp .ge off, 3)) (ht : (pc : Int) + off = (t : Int)) (hq : pc + 3 = q) (kt : y ≤ x → Wv E G v t L st) (kf : ¬ y ≤ x → Wv E G v q L st) : Wv E G v pc L (.int y :: .int x :: st) := by
  obtain ⟨p, l, e, R, s, m, args, below, meth, c, cells, slots, Q⟩ := E
  subst hq
  obtain ⟨h1, h2, -⟩ := hC
  intro H locs ls hP hS hl
  exact lv_icmp_ge h1 h2 hd ht (fun h => kt h H locs ls hP hS hl) (fun h => kf h H locs ls hP hS hl)
theorem r_if_gt (hC : Cx E G cc own nL Ts fr lo) {x : Int32} {off : Int} (hd : decode cc pc = .ok (.ifCond .gt off, 3)) (ht : (pc : Int) + off = (t : Int)) (hq : pc + 3 = q) (kt : 0 < x → Wv E G v t L st) (kf : ¬ 0 < x → Wv E G v q L st) : Wv E G v pc L (.int x :: st) := by
  obtain ⟨p, l, e, R, s, m, args, below, meth, c, cells, slots, Q⟩ := E
  subst hq
  obtain ⟨h1, h2, -⟩ := hC
  intro H locs ls hP hS hl
  exact lv_if_gt h1 h2 hd ht (fun h => kt h H locs ls hP hS hl) (fun h => kf h H locs ls hP hS hl)
theorem r_icmp_gt (hC : Cx E G cc own nL Ts fr lo) {x y : Int32} {off : Int} (hd : decode cc pc = .ok (.if_icmp .gt off, 3)) (ht : (pc : Int) + off = (t : Int)) (hq : pc + 3 = q) (kt : y < x → Wv E G v t L st) (kf : ¬ y < x → Wv E G v q L st) : Wv E G v pc L (.int y :: .int x :: st) := by
  obtain ⟨p, l, e, R, s, m, args, below, meth, c, cells, slots, Q⟩ := E
  subst hq
  obtain ⟨h1, h2, -⟩ := hC
  intro H locs ls hP hS hl
  exact lv_icmp_gt h1 h2 hd ht (fun h => kt h H locs ls hP hS hl) (fun h => kf h H locs ls hP hS hl)
theorem r_if_le (hC : Cx E G cc own nL Ts fr lo) {x : Int32} {off : Int} (hd : decode cc pc = .ok (.ifCond .le off, 3)) (ht : (pc : Int) + off = (t : Int)) (hq : pc + 3 = q) (kt : x ≤ 0 → Wv E G v t L st) (kf : ¬ x ≤ 0 → Wv E G v q L st) : Wv E G v pc L (.int x :: st) := by
  obtain ⟨p, l, e, R, s, m, args, below, meth, c, cells, slots, Q⟩ := E
  subst hq
  obtain ⟨h1, h2, -⟩ := hC
  intro H locs ls hP hS hl
  exact lv_if_le h1 h2 hd ht (fun h => kt h H locs ls hP hS hl) (fun h => kf h H locs ls hP hS hl)
theorem r_icmp_le (hC : Cx E G cc own nL Ts fr lo) {x y : Int32} {off : Int} (hd : decode cc pc = .ok (.if_icmp .le off, 3)) (ht : (pc : Int) + off = (t : Int)) (hq : pc + 3 = q) (kt : x ≤ y → Wv E G v t L st) (kf : ¬ x ≤ y → Wv E G v q L st) : Wv E G v pc L (.int y :: .int x :: st) := by
  obtain ⟨p, l, e, R, s, m, args, below, meth, c, cells, slots, Q⟩ := E
  subst hq
  obtain ⟨h1, h2, -⟩ := hC
  intro H locs ls hP hS hl
  exact lv_icmp_le h1 h2 hd ht (fun h => kt h H locs ls hP hS hl) (fun h => kf h H locs ls hP hS hl)
theorem r_goto (hC : Cx E G cc own nL Ts fr lo) {off : Int} (hd : decode cc pc = .ok (.goto off, 3)) (ht : (pc : Int) + off = (t : Int)) (kk : Wv E G v t L st) : Wv E G v pc L st := by
  obtain ⟨p, l, e, R, s, m, args, below, meth, c, cells, slots, Q⟩ := E
  obtain ⟨h1, h2, -⟩ := hC
  intro H locs ls hP hS hl
  exact lv_goto h1 h2 hd ht (kk H locs ls hP hS hl)
theorem r_lookup (hC : Cx E G cc own nL Ts fr lo) {dflt off : Int} {ps : Array (Int × Int)} {len : Nat} {x : Int32} (hd : decode cc pc = .ok (.lookupswitch dflt ps, len)) (hp : (ps.toList.zip (ps.toList.drop 1)).all (fun (a, next) => a.1 < next.1) = true) (ho : Op.lookupswitch.offset ps.toList dflt x.toInt = off) (ht : (pc : Int) + off = (t : Int)) (kk : Wv E G v t L st) : Wv E G v pc L (.int x :: st) := by
  obtain ⟨p, l, e, R, s, m, args, below, meth, c, cells, slots, Q⟩ := E
  obtain ⟨h1, h2, -⟩ := hC
  intro H locs ls hP hS hl
  exact lv_lookup h1 h2 hd hp ho ht (kk H locs ls hP hS hl)
theorem r_tableOut (hC : Cx E G cc own nL Ts fr lo) {dflt lo1 hi1 : Int} {offs : Array Int} {len : Nat} {x : Int32} (hd : decode cc pc = .ok (.tableswitch dflt lo1 hi1 offs, len)) (h : x.toInt < lo1 ∨ hi1 < x.toInt) (ht : (pc : Int) + dflt = (t : Int)) (kk : Wv E G v t L st) : Wv E G v pc L (.int x :: st) := by
  obtain ⟨p, l, e, R, s, m, args, below, meth, c, cells, slots, Q⟩ := E
  obtain ⟨h1, h2, -⟩ := hC
  intro H locs ls hP hS hl
  exact lv_tableOut h1 h2 hd h ht (kk H locs ls hP hS hl)
theorem r_tableIn (hC : Cx E G cc own nL Ts fr lo) {dflt lo1 hi1 off : Int} {offs : Array Int} {len : Nat} {x : Int32} (hd : decode cc pc = .ok (.tableswitch dflt lo1 hi1 offs, len)) (g1 : ¬ x.toInt < lo1) (g2 : ¬ hi1 < x.toInt) (ho : offs[(x.toInt - lo1).toNat]? = some off) (ht : (pc : Int) + off = (t : Int)) (kk : Wv E G v t L st) : Wv E G v pc L (.int x :: st) := by
  obtain ⟨p, l, e, R, s, m, args, below, meth, c, cells, slots, Q⟩ := E
  obtain ⟨h1, h2, -⟩ := hC
  intro H locs ls hP hS hl
  exact lv_tableIn h1 h2 hd g1 g2 ho ht (kk H locs ls hP hS hl)
theorem r_get (hC : Cx E G cc own nL Ts fr lo) {k ci N idx : Nat} {C : String} {T : u_T} {fs : List Value} {x : Value} (j : Nat) (hk : k < 276) (hcel : cel G k (v k) = .inr (ci, fs)) (hcl : vwCl[ci]? = some (C, T, N)) (hj : j < N) (hin : ∀ w ∈ u_ws C T N, w ∈ Ts) (hl : lnk E own idx (T j)) (hx : fs[j]? = some x) (hd : decode cc pc = .ok (.getfield idx, 3)) (hq : pc + 3 = q) (kk : Wv E G v q L (x :: st)) : Wv E G v pc L (.ref (G.1 k) :: st) := by
  obtain ⟨p, l, e, R, s, m, args, below, meth, c, cells, slots, Q⟩ := E
  subst hq
  obtain ⟨h1, h2, h3, h4, h5, h6, -⟩ := hC
  intro H locs ls hP hS hls
  have he : (wl G v)[k]? = some (G.1 k, .inr (ci, fs)) := by rw [wl_get hk, hcel]
  rcases hl with hl | ⟨host, hl⟩
  · exact va_get (D := G.2.1) h1 h2 h5 hin h4 h6 hP k he hcl j hj hl (fun _ h9 => h9) hx hd (kk H locs ls hP hS hls)
  · exact va_getN (D := G.2.1) h1 h2 h5 hin h4 h6 hP k he hcl j hj hl (fun _ h9 => h9) hx hd (kk H locs ls hP hS hls)
theorem r_put (hC : Cx E G cc own nL Ts fr lo) {k ci N idx : Nat} {C : String} {T : u_T} {fs : List Value} {w' : Nat → Int32} {x : Int32} (j : Nat) (hk : k < 276) (hcel : cel G k (v k) = .inr (ci, fs)) (hcel' : cel G k w' = .inr (ci, fs.set j (.int x))) (hcl : vwCl[ci]? = some (C, T, N)) (hj : j < N) (hin : ∀ w ∈ u_ws C T N, w ∈ Ts) (ty : Nat → FieldType) (hty : ∀ k, k < N → parseFieldDescriptor (T k).2.2.1 = some (ty k)) (hnm : ∀ a, a < N → ∀ b, b < N → a ≠ b → (T a).2.1 ≠ (T b).2.1) (hfin : (T j).2.2.2 = false) (hpd : parseFieldDescriptor (T j).2.2.1 = some .int) (hlen : j < fs.length) (hl : lnk E own idx (T j)) (hd : decode cc pc = .ok (.putfield idx, 3)) (hq : pc + 3 = q) (kk : Wv E G (va_up v k w') q L st) : Wv E G v pc L (.int x :: .ref (G.1 k) :: st) := by
  obtain ⟨p, l, e, R, s, m, args, below, meth, c, cells, slots, Q⟩ := E
  subst hq
  obtain ⟨h1, h2, h3, h4, h5, h6, h7, -⟩ := hC
  intro H locs ls hP hS hls
  have he : (wl G v)[k]? = some (G.1 k, .inr (ci, fs)) := by rw [wl_get hk, hcel]
  have hset : (wl G v).set k (G.1 k, .inr (ci, fs.set j (.int x))) = wl G (va_up v k w') := wl_set hk hcel'
  rcases hl with hl | ⟨host, hl⟩
  · refine va_put (D := G.2.1) (ty := .int) h1 h2 h5 hin ty hty hnm h4 h6 hP (wl_D h7 v) hS k he hcl j hj hl (fun _ h9 => h9) hfin hpd rfl rfl hlen hd (fun H1 locs1 hP1 _ hS1 => ?_)
    rw [hset] at hP1
    exact kk H1 locs1 ls hP1 hS1 hls
  · refine va_putN (D := G.2.1) (ty := .int) h1 h2 h5 hin ty hty hnm h4 h6 hP (wl_D h7 v) hS k he hcl j hj hl (fun _ h9 => h9) hfin hpd rfl rfl hlen hd (fun H1 locs1 hP1 _ hS1 => ?_)
    rw [hset] at hP1
    exact kk H1 locs1 ls hP1 hS1 hls
/-! by class: X0 Block, X1 Machine, X2 Program, X3 TailMerger, X4 TailMergerModel -/
theorem g_X0 (hC : Cx E G cc own nL Ts fr lo) {k idx : Nat} {x : Value} (j : Nat) (hin : ∀ w ∈ wsX00, w ∈ Ts) (hl : lnk E own idx (TX0 j)) (hj : j < 8) (hd : decode cc pc = .ok (.getfield idx, 3)) (hk : isBk k) (hx : (fsB G k (v k))[j]? = some x) (hq : pc + 3 = q) (kk : Wv E G v q L (x :: st)) : Wv E G v pc L (.ref (G.1 k) :: st) := r_get hC j (ob_b hk).1 (celB hk _) rfl hj hin hl hx hd hq kk
theorem g_X2 (hC : Cx E G cc own nL Ts fr lo) {k idx : Nat} {x : Value} (j : Nat) (hin : ∀ w ∈ wsX20, w ∈ Ts) (hl : lnk E own idx (TX2 j)) (hj : j < 5) (hd : decode cc pc = .ok (.getfield idx, 3)) (hk : isPr k) (hx : (fsP G k (v k))[j]? = some x) (hq : pc + 3 = q) (kk : Wv E G v q L (x :: st)) : Wv E G v pc L (.ref (G.1 k) :: st) := r_get hC j (ob_p hk).1 (celPo hk _) rfl hj hin hl hx hd hq kk
theorem g_X1 (hC : Cx E G cc own nL Ts fr lo) {idx : Nat} {x : Value} (j : Nat) (hin : ∀ w ∈ wsX10, w ∈ Ts) (hl : lnk E own idx (TX1 j)) (hj : j < 3) (hd : decode cc pc = .ok (.getfield idx, 3)) (hx : (fsM G (v 267))[j]? = some x) (hq : pc + 3 = q) (kk : Wv E G v q L (x :: st)) : Wv E G v pc L (.ref (G.1 267) :: st) := r_get hC j ob_267.1 rfl rfl hj hin hl hx hd hq kk
theorem g_X3 (hC : Cx E G cc own nL Ts fr lo) {idx : Nat} {x : Value} (j : Nat) (hin : ∀ w ∈ wsX30, w ∈ Ts) (hl : lnk E own idx (TX3 j)) (hj : j < 4) (hd : decode cc pc = .ok (.getfield idx, 3)) (hx : (fsT G)[j]? = some x) (hq : pc + 3 = q) (kk : Wv E G v q L (x :: st)) : Wv E G v pc L (.ref (G.1 0) :: st) := r_get hC j ob_0.1 rfl rfl hj hin hl hx hd hq kk
theorem g_X4 (hC : Cx E G cc own nL Ts fr lo) {idx : Nat} {x : Value} (j : Nat) (hin : ∀ w ∈ wsX40, w ∈ Ts) (hl : lnk E own idx (TX4 j)) (hj : j < 7) (hd : decode cc pc = .ok (.getfield idx, 3)) (hx : (fsR G (v 270))[j]? = some x) (hq : pc + 3 = q) (kk : Wv E G v q L (x :: st)) : Wv E G v pc L (.ref (G.1 270) :: st) := r_get hC j ob_270.1 rfl rfl hj hin hl hx hd hq kk
theorem p_X0_5 (hC : Cx E G cc own nL Ts fr lo) {k idx : Nat} {x : Int32} (hin : ∀ w ∈ wsX00, w ∈ Ts) (hl : lnk E own idx (TX0 5)) (hd : decode cc pc = .ok (.putfield idx, 3)) (hk : isBk k) (hq : pc + 3 = q) (kk : Wv E G (va_up v k (upd (v k) 5 x)) q L st) : Wv E G v pc L (.int x :: .ref (G.1 k) :: st) := r_put hC 5 (ob_b hk).1 (celB hk _) (by rw [celB hk]; rfl) rfl (by decide) hin tyX0 tyX0_ok nmX0 rfl (by decide +kernel) (Nat.le_of_ble_eq_true rfl) hl hd hq kk
theorem p_X0_6 (hC : Cx E G cc own nL Ts fr lo) {k idx : Nat} {x : Int32} (hin : ∀ w ∈ wsX00, w ∈ Ts) (hl : lnk E own idx (TX0 6)) (hd : decode cc pc = .ok (.putfield idx, 3)) (hk : isBk k) (hq : pc + 3 = q) (kk : Wv E G (va_up v k (upd (v k) 6 x)) q L st) : Wv E G v pc L (.int x :: .ref (G.1 k) :: st) := r_put hC 6 (ob_b hk).1 (celB hk _) (by rw [celB hk]; rfl) rfl (by decide) hin tyX0 tyX0_ok nmX0 rfl (by decide +kernel) (Nat.le_of_ble_eq_true rfl) hl hd hq kk
theorem p_X2_1 (hC : Cx E G cc own nL Ts fr lo) {k idx : Nat} {x : Int32} (hin : ∀ w ∈ wsX20, w ∈ Ts) (hl : lnk E own idx (TX2 1)) (hd : decode cc pc = .ok (.putfield idx, 3)) (hk : isPr k) (hq : pc + 3 = q) (kk : Wv E G (va_up v k (upd (v k) 1 x)) q L st) : Wv E G v pc L (.int x :: .ref (G.1 k) :: st) := r_put hC 1 (ob_p hk).1 (celPo hk _) (by rw [celPo hk]; rfl) rfl (by decide) hin tyX2 tyX2_ok nmX2 rfl (by decide +kernel) (Nat.le_of_ble_eq_true rfl) hl hd hq kk
theorem p_X2_2 (hC : Cx E G cc own nL Ts fr lo) {k idx : Nat} {x : Int32} (hin : ∀ w ∈ wsX20, w ∈ Ts) (hl : lnk E own idx (TX2 2)) (hd : decode cc pc = .ok (.putfield idx, 3)) (hk : isPr k) (hq : pc + 3 = q) (kk : Wv E G (va_up v k (upd (v k) 2 x)) q L st) : Wv E G v pc L (.int x :: .ref (G.1 k) :: st) := r_put hC 2 (ob_p hk).1 (celPo hk _) (by rw [celPo hk]; rfl) rfl (by decide) hin tyX2 tyX2_ok nmX2 rfl (by decide +kernel) (Nat.le_of_ble_eq_true rfl) hl hd hq kk
theorem p_X1_2 (hC : Cx E G cc own nL Ts fr lo) {idx : Nat} {x : Int32} (hin : ∀ w ∈ wsX10, w ∈ Ts) (hl : lnk E own idx (TX1 2)) (hd : decode cc pc = .ok (.putfield idx, 3)) (hq : pc + 3 = q) (kk : Wv E G (va_up v 267 (upd (v 267) 2 x)) q L st) : Wv E G v pc L (.int x :: .ref (G.1 267) :: st) := r_put hC 2 ob_267.1 rfl rfl rfl (by decide) hin tyX1 tyX1_ok nmX1 rfl (by decide +kernel) (Nat.le_of_ble_eq_true rfl) hl hd hq kk
theorem p_X4_3 (hC : Cx E G cc own nL Ts fr lo) {idx : Nat} {x : Int32} (hin : ∀ w ∈ wsX40, w ∈ Ts) (hl : lnk E own idx (TX4 3)) (hd : decode cc pc = .ok (.putfield idx, 3)) (hq : pc + 3 = q) (kk : Wv E G (va_up v 270 (upd (v 270) 3 x)) q L st) : Wv E G v pc L (.int x :: .ref (G.1 270) :: st) := r_put hC 3 ob_270.1 rfl rfl rfl (by decide) hin tyX4 tyX4_ok nmX4 rfl (by decide +kernel) (Nat.le_of_ble_eq_true rfl) hl hd hq kk
theorem p_X4_6 (hC : Cx E G cc own nL Ts fr lo) {idx : Nat} {x : Int32} (hin : ∀ w ∈ wsX40, w ∈ Ts) (hl : lnk E own idx (TX4 6)) (hd : decode cc pc = .ok (.putfield idx, 3)) (hq : pc + 3 = q) (kk : Wv E G (va_up v 270 (upd (v 270) 6 x)) q L st) : Wv E G v pc L (.int x :: .ref (G.1 270) :: st) := r_put hC 6 ob_270.1 rfl rfl rfl (by decide) hin tyX4 tyX4_ok nmX4 rfl (by decide +kernel) (Nat.le_of_ble_eq_true rfl) hl hd hq kk
theorem r_iaload (hC : Cx E G cc own nL Ts fr lo) {k n : Nat} {i : Int32} (hd : decode cc pc = .ok (.iaload, 1)) (hA : iA k n) (hi : vp_in i n) (hq : pc + 1 = q) (kk : Wv E G v q L (.int (v k i.toNatClampNeg) :: st)) : Wv E G v pc L (.int i :: .ref (G.1 k) :: st) := by
  obtain ⟨p, l, e, R, s, m, args, below, meth, c, cells, slots, Q⟩ := E
  subst hq
  obtain ⟨h1, h2, h3, h4, h5, h6, -⟩ := hC
  intro H locs ls hP hS hls
  exact va_iald (D := G.2.1) h1 h2 h6 hP k 0 (by rw [wl_get hA.1.1, hA.2]) rfl hi hd (kk H locs ls hP hS hls)
theorem r_iastore (hC : Cx E G cc own nL Ts fr lo) {k n : Nat} {i x : Int32} (hd : decode cc pc = .ok (.iastore, 1)) (hA : iA k n) (hi : vp_in i n) (hq : pc + 1 = q) (kk : Wv E G (va_up v k (upd (v k) i.toNatClampNeg x)) q L st) : Wv E G v pc L (.int x :: .int i :: .ref (G.1 k) :: st) := by
  obtain ⟨p, l, e, R, s, m, args, below, meth, c, cells, slots, Q⟩ := E
  subst hq
  obtain ⟨h1, h2, h3, h4, h5, h6, h7, -⟩ := hC
  intro H locs ls hP hS hls
  refine va_iast (D := G.2.1) h1 h2 h6 hP (wl_D h7 v) hS k 0 (by rw [wl_get hA.1.1, hA.2]) rfl hi hd (fun H1 locs1 hP1 _ hS1 => ?_)
  rw [wl_set hA.1.1 (hA.2 G _)] at hP1
  exact kk H1 locs1 ls hP1 hS1 hls
theorem r_zaload (hC : Cx E G cc own nL Ts fr lo) {k n : Nat} {i : Int32} (hd : decode cc pc = .ok (.baload, 1)) (hA : zA k n) (hi : vp_in i n) (hq : pc + 1 = q) (kk : Wv E G v q L (.int (v k i.toNatClampNeg) :: st)) : Wv E G v pc L (.int i :: .ref (G.1 k) :: st) := by
  obtain ⟨p, l, e, R, s, m, args, below, meth, c, cells, slots, Q⟩ := E
  subst hq
  obtain ⟨h1, h2, h3, h4, h5, h6, -⟩ := hC
  intro H locs ls hP hS hls
  exact va_zald (D := G.2.1) h1 h2 h6 hP k 1 (by rw [wl_get hA.1.1, hA.2]) rfl hi hd (kk H locs ls hP hS hls)
theorem r_zastore (hC : Cx E G cc own nL Ts fr lo) {k n : Nat} {i x : Int32} (hd : decode cc pc = .ok (.bastore, 1)) (hA : zA k n) (hi : vp_in i n) (hq : pc + 1 = q) (kk : Wv E G (va_up v k (upd (v k) i.toNatClampNeg (vp_nar .boolean x))) q L st) : Wv E G v pc L (.int x :: .int i :: .ref (G.1 k) :: st) := by
  obtain ⟨p, l, e, R, s, m, args, below, meth, c, cells, slots, Q⟩ := E
  subst hq
  obtain ⟨h1, h2, h3, h4, h5, h6, h7, -⟩ := hC
  intro H locs ls hP hS hls
  refine va_zast (D := G.2.1) h1 h2 h6 hP (wl_D h7 v) hS k 1 (by rw [wl_get hA.1.1, hA.2]) rfl hi hd (fun H1 locs1 hP1 _ hS1 => ?_)
  rw [wl_set hA.1.1 (hA.2 G _)] at hP1
  exact kk H1 locs1 ls hP1 hS1 hls
theorem r_aloadB (hC : Cx E G cc own nL Ts fr lo) {k : Nat} {i : Int32} (hd : decode cc pc = .ok (.aaload, 1)) (hk : isPr k) (hi : vp_in i 12) (hq : pc + 1 = q) (kk : Wv E G v q L (.ref (G.1 (k + 2 + 7 * i.toNatClampNeg)) :: st)) : Wv E G v pc L (.int i :: .ref (G.1 (k + 1)) :: st) := by
  obtain ⟨p, l, e, R, s, m, args, below, meth, c, cells, slots, Q⟩ := E
  subst hq
  obtain ⟨h1, h2, h3, h4, h5, h6, -⟩ := hC
  intro H locs ls hP hS hls
  have hk1 : k + 1 < 276 := by have := isPr_lt hk; omega
  exact va_aldq (D := G.2.1) (C := RX0) (f := fun b => some (G.1 (k + 2 + 7 * b))) h1 h2 h6 hP (k + 1) 2 (by rw [wl_get hk1, celPb hk]) rfl hi hd (kk H locs ls hP hS hls)
theorem r_aloadP (hC : Cx E G cc own nL Ts fr lo) {i : Int32} (hd : decode cc pc = .ok (.aaload, 1)) (hi : vp_in i 2) (hq : pc + 1 = q) (kk : Wv E G v q L (.ref (G.1 (90 + 88 * i.toNatClampNeg)) :: st)) : Wv E G v pc L (.int i :: .ref (G.1 89) :: st) := by
  obtain ⟨p, l, e, R, s, m, args, below, meth, c, cells, slots, Q⟩ := E
  subst hq
  obtain ⟨h1, h2, h3, h4, h5, h6, -⟩ := hC
  intro H locs ls hP hS hls
  exact va_aldq (D := G.2.1) (C := RX2) (f := fun i => some (G.1 (90 + 88 * i))) h1 h2 h6 hP 89 3 (by rw [wl_get (by decide)]; rfl) rfl hi hd (kk H locs ls hP hS hls)
theorem r_min (hC : Cx E G cc own nL Ts fr lo) {idx : Nat} {x y : Int32} (hw1 : Cond.methodLink own idx Lib.Math.min.name ∈ Ts) (hw2 : Cond.static Lib.Math.min.name ∈ Ts) (hw3 : Cond.initialized "java/lang/Math" ∈ Ts) (hw4 : Cond.code Lib.Math.min.name Lib.Math.min.code 2 (some .int) ∈ Ts) (hL : L.length = nL) (hf : 1 ≤ fr) (hlo : (st.map fun v => v.category).sum + 13 ≤ lo) (hd : decode cc pc = .ok (.invokestatic idx, 3)) (hq : pc + 3 = q) (kk : Wv E G v q L (.int (if y < x then y else x) :: st)) : Wv E G v pc L (.int y :: .int x :: st) := by
  obtain ⟨p, l, e, R, s, m, args, below, meth, c, cells, slots, Q⟩ := E
  subst hq
  obtain ⟨h1, h2, h3, h4, h5, h6, h7, h8, h9, h10, h11, h12⟩ := hC
  intro H locs ls hP hS hls
  exact va_mmin h1 h2 (by rw [h3, hls.1, hL]) h4 (h5 _ hw1) (h5 _ hw2) (h5 _ hw3) (h5 _ hw4) (by rw [h11]; exact hf) (by rw [h12]; exact hlo) h9 h10 hd (kk H locs ls hP hS hls)
theorem r_copy (hC : Cx E G cc own nL Ts fr lo) {idx k0 k1 n0 n1 : Nat} {sp dp n : Int32} (hw1 : Cond.methodLink own idx arraycopyName ∈ Ts) (hw2 : Cond.native arraycopyName ∈ Ts) (hw3 : Cond.static arraycopyName ∈ Ts) (hw4 : Cond.initialized "java/lang/System" ∈ Ts) (hL : L.length = nL) (hf : 1 ≤ fr) (hlo : (st.map fun v => v.category).sum + (nativeFrameWords "java/lang/System" "arraycopy" 5 + 11) ≤ lo) (hA0 : iA k0 n0) (hA1 : iA k1 n1) (g1 : ¬ sp < 0) (g2 : ¬ dp < 0) (g3 : ¬ n < 0) (g4 : sp.toNatClampNeg + n.toNatClampNeg ≤ n0) (g5 : dp.toNatClampNeg + n.toNatClampNeg ≤ n1) (hd : decode cc pc = .ok (.invokestatic idx, 3)) (hq : pc + 3 = q) (kk : Wv E G (va_up v k1 (va_cpy (v k0) (v k1) sp.toNatClampNeg dp.toNatClampNeg n.toNatClampNeg)) q L st) : Wv E G v pc L (.int n :: .int dp :: .ref (G.1 k1) :: .int sp :: .ref (G.1 k0) :: st) := by
  obtain ⟨p, l, e, R, s, m, args, below, meth, c, cells, slots, Q⟩ := E
  subst hq
  obtain ⟨h1, h2, h3, h4, h5, h6, h7, h8, h9, h10, h11, h12⟩ := hC
  intro H locs ls hP hS hls
  refine va_copyi (D := G.2.1) h1 h2 (by rw [h3, hls.1, hL]) h4 (h5 _ hw1) (h5 _ hw2) (h5 _ hw3) (h5 _ hw4) h6 hP (wl_D h7 v) hS k0 k1 0 0 (ty := .int) (by rw [wl_get hA0.1.1, hA0.2]) (by rw [wl_get hA1.1.1, hA1.2]) rfl rfl rfl g1 g2 g3 g4 g5 (fun i _ => rfl) (by rw [h11]; exact hf) (by rw [h12]; exact hlo) hd (fun H1 locs1 hP1 _ hS1 => ?_)
  rw [wl_set hA1.1.1 (hA1.2 G _)] at hP1
  exact kk H1 locs1 ls hP1 hS1 hls
end RW
/-! contracts over the layout -/
def Wd (G : GG) (v : VV) (U : State) : Prop := va_P G.2.1 vwCl (wl G v) U.heap ∧ va_K G.2.1 vwCl (tysG G) U ∧ Gok G ∧ NW U
theorem Wd.calling {G : GG} {v : VV} {U : State} (g : JFrame) (mk : MethodId) (a : Array Value) (h : Wd G v U) : Wd G v (U.calling g mk a) :=
  ⟨h.1, va_K.moved (u := U) (U := U.calling g mk a) (Vm.Alike.refl U.vm) h.2.1, h.2.2.1, h.2.2.2.same rfl⟩
abbrev rmOf (fr lo : Nat) : Room := { frames := fr, cells := 0, slots := 0, locals := lo }
def MtI (l : Launch) (G : GG) (y : MethodName) (ws : List Cond) (fr lo : Nat) (as : List Value) (v : VV) (post : Int32 → VV → Prop) : Prop := Met l y ws (rmOf fr lo) (va_Pc as (Wd G v)) (va_Qi post (Wd G) G.2.2.2) 0 0 G.2.2.2
def MtV (l : Launch) (G : GG) (y : MethodName) (ws : List Cond) (fr lo : Nat) (as : List Value) (v : VV) (post : VV → Prop) : Prop := Met l y ws (rmOf fr lo) (va_Pc as (Wd G v)) (va_Qv post (Wd G) G.2.2.2) 0 0 G.2.2.2
def RtI (E : TE) (G : GG) (cc : ByteArray) (post : Int32 → VV → Prop) : Prop := ∀ (v' : VV) (pc : Nat) (L : List (Option Value)) (r : Int32), decode cc pc = .ok (.ireturn, 1) → post r v' → Wv E G v' pc L [.int r]
def RtV (E : TE) (G : GG) (cc : ByteArray) (post : VV → Prop) : Prop := ∀ (v' : VV) (pc : Nat) (L : List (Option Value)), decode cc pc = .ok (.return_, 1) → post v' → Wv E G v' pc L []
/-- all of the arguments take one slot -/
theorem lk_args : ∀ (as : List Value) (i : Nat), (∀ x ∈ as, x.category = 1) → ∀ (j : Nat) (x : Value), as[j]? = some x → (i + j, x) ∈ lv_args i as
  | [], i, _, j, x, h => by simp at h
  | a :: as, i, hc, j, x, h => by
    cases j with
    | zero =>
      rw [List.getElem?_cons_zero] at h
      cases h
      exact List.mem_cons_self
    | succ j =>
      rw [List.getElem?_cons_succ] at h
      have h1 := lk_args as (i + 1) (fun x hx => hc x (List.mem_cons_of_mem _ hx)) j x h
      have h2 : a.category = 1 := hc a List.mem_cons_self
      refine List.mem_cons_of_mem _ ?_
      show (i + (j + 1), x) ∈ lv_args (if a.category = 2 then i + 2 else i + 1) as
      rw [h2, show i + (j + 1) = i + 1 + j by omega]
      exact h1
theorem gl_at : ∀ (L : List (Option Value)) (i : Nat) (x : Value), gl L i = some x → L[i]? = some (some x)
  | [], i, x, h => by cases h
  | a :: L, 0, x, h => by rw [List.getElem?_cons_zero]; exact congrArg some h
  | a :: L, i + 1, x, h => by rw [List.getElem?_cons_succ]; exact gl_at L i x h
theorem lk_entry {as : List Value} {nL : Nat} {L : List (Option Value)} {ls : Array Slot} (hc : ∀ x ∈ as, x.category = 1) (hL : L = as.map some ++ List.replicate (nL - as.length) none) (hn : as.length ≤ nL) (h : lv_has ls nL (lv_args 0 as)) : lk_ok ls L := by
  subst hL
  refine ⟨by rw [h.1]; simp; omega, h.2.1, fun i x hx => ?_⟩
  have h1 := gl_at _ i x hx
  have h2 : as[i]? = some x := by
    by_cases hi : i < as.length
    · rw [List.getElem?_append_left (by simpa using hi), List.getElem?_map] at h1
      cases ha : as[i]? with
      | none => rw [ha] at h1; cases h1
      | some y => rw [ha] at h1; exact congrArg some (Option.some.inj (Option.some.inj h1))
    · rw [List.getElem?_append_right (by simpa using hi)] at h1
      obtain ⟨hz, he⟩ := List.getElem?_eq_some_iff.mp h1
      simp at he
  have h3 := lk_args as 0 hc i x h2
  rw [Nat.zero_add] at h3
  exact ⟨h.2.2 _ h3, hc x (List.mem_of_getElem? h2)⟩
theorem lg_len1 {as : List Value} (hc : ∀ x ∈ as, x.category = 1) : (lg_sl as).length = as.length := by
  induction as with
  | nil => rfl
  | cons a as ih =>
    have h1 := ih (fun x hx => hc x (List.mem_cons_of_mem _ hx))
    have h2 : a.category = 1 := hc a List.mem_cons_self
    simp only [lg_sl, List.flatMap_cons, h2] at h1 ⊢
    simp [h1]
theorem mt_int {l : Launch} {G : GG} {y : MethodName} {ws ws' : List Cond} {fr lo nL : Nat} {as : List Value} {v : VV} {post : Int32 → VV → Prop} {cc : ByteArray} {ty : FieldType} {L0 : List (Option Value)} {own : String} (hty : ty = .int ∨ (ty = .boolean ∧ ∀ r v', post r v' → r = 0 ∨ r = 1)) (hy : plainName y.cls = true) (hw : ws = Cond.code y cc nL (some ty) :: ws') (hc : ∀ x ∈ as, x.category = 1) (hn : as.length ≤ nL) (hL : L0 = as.map some ++ List.replicate (nL - as.length) none) (hown : y.cls = own) (body : ∀ E : TE, Cx E G cc own nL ws fr lo → RtI E G cc post → Wv E G v 0 L0 []) : MtI l G y ws fr lo as v post := by
  refine Met.ofW (cc := cc) (maxL := nL) (ret := some ty) hy hw ?_
  intro p e s m args below meth c s₁ B hml hv
  obtain ⟨rfl, hP, hK, hG, hN⟩ := hv
  have hts := atoms_spec (ws := ws) B.pre
  have hfc : s.vm.findClass own = some m.cls := by rw [← hown]; exact findClass_of_methodNamed B.named
  have hr := B.returns
  have hC : Cx (p, l, e, (headSpec ws (rmOf fr lo)).room, s, m, as.toArray, below, meth, c, 0, 0, MQ below (va_Qi post (Wd G) G.2.2.2) as.toArray s 0 0 G.2.2.2) G cc own nL ws fr lo := ⟨B.exec, B.bytes, hml, hfc, hts, hK, hG, hN, Nat.zero_le _, Nat.zero_le _, rfl, rfl⟩
  have hR : RtI (p, l, e, (headSpec ws (rmOf fr lo)).room, s, m, as.toArray, below, meth, c, 0, 0, MQ below (va_Qi post (Wd G) G.2.2.2) as.toArray s 0 0 G.2.2.2) G cc post := by
    intro v' pc L r hd hpost H locs ls hP' hS hls
    have hq : ∀ t : State, t.heap = H → s.WarmedH t.vm → va_Qi post (Wd G) G.2.2.2 as.toArray s (.returned (some (.int r))) t := fun t ht hW => ⟨⟨r, v', rfl, hpost, by rw [ht]; exact hP', va_K.moved hW.alike hK, hG, hN.warm hW⟩, hS.F ht⟩
    rcases hty with h | ⟨h, hz⟩
    · rw [h] at hr
      exact W.iret (v := r) B.exec B.bytes hr hq hS.2.2 hd B.notSynchronized
    · exact W.zret (v := r) B.exec B.bytes hr (by rw [h]; rcases hz r v' hpost with h | h <;> rw [h] <;> rfl) hq hS.2.2 hd B.notSynchronized
  have hl := lv_entry as (n := nL) (by rw [lg_len1 hc]; exact hn)
  rw [lg_entry_eq]
  exact body _ hC hR s.heap [] _ hP va_S.rf (lk_entry hc hL hn hl)
theorem mt_void {l : Launch} {G : GG} {y : MethodName} {ws ws' : List Cond} {fr lo nL : Nat} {as : List Value} {v : VV} {post : VV → Prop} {cc : ByteArray} {L0 : List (Option Value)} {own : String} (hy : plainName y.cls = true) (hw : ws = Cond.code y cc nL none :: ws') (hc : ∀ x ∈ as, x.category = 1) (hn : as.length ≤ nL) (hL : L0 = as.map some ++ List.replicate (nL - as.length) none) (hown : y.cls = own) (body : ∀ E : TE, Cx E G cc own nL ws fr lo → RtV E G cc post → Wv E G v 0 L0 []) : MtV l G y ws fr lo as v post := by
  refine Met.ofW (cc := cc) (maxL := nL) (ret := none) hy hw ?_
  intro p e s m args below meth c s₁ B hml hv
  obtain ⟨rfl, hP, hK, hG, hN⟩ := hv
  have hts := atoms_spec (ws := ws) B.pre
  have hfc : s.vm.findClass own = some m.cls := by rw [← hown]; exact findClass_of_methodNamed B.named
  have hr := B.returns
  have hC : Cx (p, l, e, (headSpec ws (rmOf fr lo)).room, s, m, as.toArray, below, meth, c, 0, 0, MQ below (va_Qv post (Wd G) G.2.2.2) as.toArray s 0 0 G.2.2.2) G cc own nL ws fr lo := ⟨B.exec, B.bytes, hml, hfc, hts, hK, hG, hN, Nat.zero_le _, Nat.zero_le _, rfl, rfl⟩
  have hR : RtV (p, l, e, (headSpec ws (rmOf fr lo)).room, s, m, as.toArray, below, meth, c, 0, 0, MQ below (va_Qv post (Wd G) G.2.2.2) as.toArray s 0 0 G.2.2.2) G cc post := by
    intro v' pc L hd hpost H locs ls hP' hS hls
    have hq : ∀ t : State, t.heap = H → s.WarmedH t.vm → va_Qv post (Wd G) G.2.2.2 as.toArray s (.returned none) t := fun t ht hW => ⟨⟨v', rfl, hpost, by rw [ht]; exact hP', va_K.moved hW.alike hK, hG, hN.warm hW⟩, hS.F ht⟩
    exact W.vret B.exec B.bytes hr hq hS.2.2 hd B.notSynchronized
  have hl := lv_entry as (n := nL) (by rw [lg_len1 hc]; exact hn)
  rw [lg_entry_eq]
  exact body _ hC hR s.heap [] _ hP va_S.rf (lk_entry hc hL hn hl)
section RC
variable {E : TE} {G : GG} {v : VV} {pc q : Nat} {L : List (Option Value)} {st stk : List Value} {cc : ByteArray} {own : String} {nL fr lo : Nat} {Ts : List Cond}
variable {y : MethodName} {ws ws' : List Cond} {bytes : ByteArray} {maxL : Nat} {ret : Option FieldType} {fr' lo' idx n k ci : Nat} {C : String} {T : u_T} {N : Nat} {As : List Value}
theorem r_cVI (hC : Cx E G cc own nL Ts fr lo) {post : Int32 → VV → Prop} (hM : ∀ l, MtI l G y ws fr' lo' (.ref (G.1 k) :: As) v post) (hg : GoodIn Ts (wsV own idx C y ws)) (hw : ws = Cond.code y bytes maxL ret :: ws') (hd1 : y.cls = C ∧ y.cls ≠ "java/lang/invoke/MethodHandle" ∧ y.cls ≠ "java/lang/invoke/VarHandle" ∧ (parseMethodDescriptor y.desc).map (fun d => d.parameters.length) = some n) (hr : fr' + 1 ≤ fr ∧ 8 + (maxL + 11) + lo' ≤ lo) (hob : Ob ci k) (hcl : vwCl[ci]? = some (C, T, N)) (hn : As.length = n) (hL : L.length = nL) (hst : stk = As.reverse ++ .ref (G.1 k) :: st) (hcat : (st.map fun v => v.category).sum ≤ 8) (hd : decode cc pc = .ok (.invokevirtual idx, 3)) (hq : pc + 3 = q) (kk : ∀ (r : Int32) (v' : VV), post r v' → Wv E G v' q L (.int r :: st)) : Wv E G v pc L stk := by
  obtain ⟨p, l, e, R, s, m, args, below, meth, c, cells, slots, Q⟩ := E
  subst hq; subst hst
  obtain ⟨h1, h2, h3, h4, h5, h6, h7, h8, h9, h10, h11, h12⟩ := hC
  intro H locs ls hP hS hls
  obtain ⟨fs, hfs⟩ := hob.2 G (v k)
  have he : (wl G v)[k]? = some (G.1 k, .inr (ci, fs)) := by rw [wl_get hob.1, hfs]
  refine va_calli (va_runV (As := As) (rest := st) ⟨h1, h2, h3, h4, h5⟩ (hM l) (cwV n h5 hg hw rfl rfl hd1 ⟨by rw [h11]; exact hr.1, by rw [h12]; exact hr.2⟩) ⟨fun a U g mk qq => ⟨qq.1, qq.2.calling g mk a⟩, va_recv h6 hP hcl he, fun U hU hW => ⟨rfl, ⟨by rw [hU]; exact hP, va_K.moved hW.alike h6, h7, h8.warm hW⟩⟩⟩ rfl hn (hls.1.trans hL) rfl (lv_room hcat) hd ⟨h9, h10⟩) hS (fun q _ h => h) (fun q h => h) (fun r u t H1 locs1 ht hvm hpost hB hz hk hS1 => ?_)
  have hP1 := hB.1
  rw [ht] at hP1
  exact kk r u hpost H1 locs1 ls hP1 hS1 hls
theorem r_cNI (hC : Cx E G cc own nL Ts fr lo) {post : Int32 → VV → Prop} {host : String} (hM : ∀ l, MtI l G y ws fr' lo' (.ref (G.1 k) :: As) v post) (hg : GoodIn Ts ws) (hw : ws = Cond.code y bytes maxL ret :: ws') (i : Nat) (hnest : nestM[i]? = some (own, idx, y, host)) (hw1 : Cond.initialized y.cls ∈ Ts) (hw2 : Cond.instanceMethod y ∈ Ts) (hw3 : Cond.selects C y y ∈ Ts) (hd1 : y.cls ≠ "java/lang/invoke/MethodHandle" ∧ y.cls ≠ "java/lang/invoke/VarHandle" ∧ (parseMethodDescriptor y.desc).map (fun d => d.parameters.length) = some n) (hr : fr' + 1 ≤ fr ∧ 8 + (maxL + 11) + lo' ≤ lo) (hob : Ob ci k) (hcl : vwCl[ci]? = some (C, T, N)) (hn : As.length = n) (hL : L.length = nL) (hst : stk = As.reverse ++ .ref (G.1 k) :: st) (hcat : (st.map fun v => v.category).sum ≤ 8) (hd : decode cc pc = .ok (.invokevirtual idx, 3)) (hq : pc + 3 = q) (kk : ∀ (r : Int32) (v' : VV), post r v' → Wv E G v' q L (.int r :: st)) : Wv E G v pc L stk := by
  obtain ⟨p, l, e, R, s, m, args, below, meth, c, cells, slots, Q⟩ := E
  subst hq; subst hst
  obtain ⟨h1, h2, h3, h4, h5, h6, h7, h8, h9, h10, h11, h12⟩ := hC
  intro H locs ls hP hS hls
  obtain ⟨fs, hfs⟩ := hob.2 G (v k)
  have he : (wl G v)[k]? = some (G.1 k, .inr (ci, fs)) := by rw [wl_get hob.1, hfs]
  refine va_calli (va_runVN (As := As) (rest := st) ⟨h1, h2, h3, h4, h5⟩ (hM l) ⟨va_cnB n h5 hg hw rfl rfl (h8.2 _ (List.mem_of_getElem? hnest)) (h5 _ hw1) hd1 ⟨by rw [h11]; exact hr.1, by rw [h12]; exact hr.2⟩, h5 _ hw2, h5 _ hw3⟩ ⟨fun a U g mk qq => ⟨qq.1, qq.2.calling g mk a⟩, va_recv h6 hP hcl he, fun U hU hW => ⟨rfl, ⟨by rw [hU]; exact hP, va_K.moved hW.alike h6, h7, h8.warm hW⟩⟩⟩ rfl hn (hls.1.trans hL) rfl (lv_room hcat) hd ⟨h9, h10⟩) hS (fun q _ h => h) (fun q h => h) (fun r u t H1 locs1 ht hvm hpost hB hz hk hS1 => ?_)
  have hP1 := hB.1
  rw [ht] at hP1
  exact kk r u hpost H1 locs1 ls hP1 hS1 hls
theorem r_cSI (hC : Cx E G cc own nL Ts fr lo) {post : Int32 → VV → Prop} (hM : ∀ l, MtI l G y ws fr' lo' (As) v post) (hg : GoodIn Ts (wsS own idx y ws)) (hw : ws = Cond.code y bytes maxL ret :: ws') (hd1 : y.cls = own ∧ y.cls ≠ "java/lang/invoke/MethodHandle" ∧ y.cls ≠ "java/lang/invoke/VarHandle" ∧ (parseMethodDescriptor y.desc).map (fun d => d.parameters.length) = some n) (hr : fr' + 1 ≤ fr ∧ 8 + (maxL + 11) + lo' ≤ lo) (hn : As.length = n) (hL : L.length = nL) (hst : stk = As.reverse ++ st) (hcat : (st.map fun v => v.category).sum ≤ 8) (hd : decode cc pc = .ok (.invokestatic idx, 3)) (hq : pc + 3 = q) (kk : ∀ (r : Int32) (v' : VV), post r v' → Wv E G v' q L (.int r :: st)) : Wv E G v pc L stk := by
  obtain ⟨p, l, e, R, s, m, args, below, meth, c, cells, slots, Q⟩ := E
  subst hq; subst hst
  obtain ⟨h1, h2, h3, h4, h5, h6, h7, h8, h9, h10, h11, h12⟩ := hC
  intro H locs ls hP hS hls
  refine va_calli (va_runS (As := As) (rest := st) ⟨h1, h2, h3, h4, h5⟩ (hM l) (cwS n h5 hg hw rfl rfl hd1 ⟨by rw [h11]; exact hr.1, by rw [h12]; exact hr.2⟩) ⟨fun a U g mk qq => ⟨qq.1, qq.2.calling g mk a⟩, fun U hU hW => ⟨rfl, ⟨by rw [hU]; exact hP, va_K.moved hW.alike h6, h7, h8.warm hW⟩⟩⟩ rfl hn (hls.1.trans hL) rfl (lv_room hcat) hd ⟨h9, h10⟩) hS (fun q _ h => h) (fun q h => h) (fun r u t H1 locs1 ht hvm hpost hB hz hk hS1 => ?_)
  have hP1 := hB.1
  rw [ht] at hP1
  exact kk r u hpost H1 locs1 ls hP1 hS1 hls
theorem r_cXI (hC : Cx E G cc own nL Ts fr lo) {post : Int32 → VV → Prop} (hM : ∀ l, MtI l G y ws fr' lo' (As) v post) (hg : GoodIn Ts (va_wsS own idx y ws)) (hw : ws = Cond.code y bytes maxL ret :: ws') (hd1 : y.cls ≠ "java/lang/invoke/MethodHandle" ∧ y.cls ≠ "java/lang/invoke/VarHandle" ∧ (parseMethodDescriptor y.desc).map (fun d => d.parameters.length) = some n) (hr : fr' + 1 ≤ fr ∧ 8 + (maxL + 11) + lo' ≤ lo) (hn : As.length = n) (hL : L.length = nL) (hst : stk = As.reverse ++ st) (hcat : (st.map fun v => v.category).sum ≤ 8) (hd : decode cc pc = .ok (.invokestatic idx, 3)) (hq : pc + 3 = q) (kk : ∀ (r : Int32) (v' : VV), post r v' → Wv E G v' q L (.int r :: st)) : Wv E G v pc L stk := by
  obtain ⟨p, l, e, R, s, m, args, below, meth, c, cells, slots, Q⟩ := E
  subst hq; subst hst
  obtain ⟨h1, h2, h3, h4, h5, h6, h7, h8, h9, h10, h11, h12⟩ := hC
  intro H locs ls hP hS hls
  refine va_calli (va_runS (As := As) (rest := st) ⟨h1, h2, h3, h4, h5⟩ (hM l) (va_cwS n h5 hg hw rfl rfl hd1 ⟨by rw [h11]; exact hr.1, by rw [h12]; exact hr.2⟩) ⟨fun a U g mk qq => ⟨qq.1, qq.2.calling g mk a⟩, fun U hU hW => ⟨rfl, ⟨by rw [hU]; exact hP, va_K.moved hW.alike h6, h7, h8.warm hW⟩⟩⟩ rfl hn (hls.1.trans hL) rfl (lv_room hcat) hd ⟨h9, h10⟩) hS (fun q _ h => h) (fun q h => h) (fun r u t H1 locs1 ht hvm hpost hB hz hk hS1 => ?_)
  have hP1 := hB.1
  rw [ht] at hP1
  exact kk r u hpost H1 locs1 ls hP1 hS1 hls
theorem r_cVV (hC : Cx E G cc own nL Ts fr lo) {post : VV → Prop} (hM : ∀ l, MtV l G y ws fr' lo' (.ref (G.1 k) :: As) v post) (hg : GoodIn Ts (wsV own idx C y ws)) (hw : ws = Cond.code y bytes maxL ret :: ws') (hd1 : y.cls = C ∧ y.cls ≠ "java/lang/invoke/MethodHandle" ∧ y.cls ≠ "java/lang/invoke/VarHandle" ∧ (parseMethodDescriptor y.desc).map (fun d => d.parameters.length) = some n) (hr : fr' + 1 ≤ fr ∧ 8 + (maxL + 11) + lo' ≤ lo) (hob : Ob ci k) (hcl : vwCl[ci]? = some (C, T, N)) (hn : As.length = n) (hL : L.length = nL) (hst : stk = As.reverse ++ .ref (G.1 k) :: st) (hcat : (st.map fun v => v.category).sum ≤ 8) (hd : decode cc pc = .ok (.invokevirtual idx, 3)) (hq : pc + 3 = q) (kk : ∀ (v' : VV), post v' → Wv E G v' q L st) : Wv E G v pc L stk := by
  obtain ⟨p, l, e, R, s, m, args, below, meth, c, cells, slots, Q⟩ := E
  subst hq; subst hst
  obtain ⟨h1, h2, h3, h4, h5, h6, h7, h8, h9, h10, h11, h12⟩ := hC
  intro H locs ls hP hS hls
  obtain ⟨fs, hfs⟩ := hob.2 G (v k)
  have he : (wl G v)[k]? = some (G.1 k, .inr (ci, fs)) := by rw [wl_get hob.1, hfs]
  refine va_callv (va_runV (As := As) (rest := st) ⟨h1, h2, h3, h4, h5⟩ (hM l) (cwV n h5 hg hw rfl rfl hd1 ⟨by rw [h11]; exact hr.1, by rw [h12]; exact hr.2⟩) ⟨fun a U g mk qq => ⟨qq.1, qq.2.calling g mk a⟩, va_recv h6 hP hcl he, fun U hU hW => ⟨rfl, ⟨by rw [hU]; exact hP, va_K.moved hW.alike h6, h7, h8.warm hW⟩⟩⟩ rfl hn (hls.1.trans hL) rfl (lv_room hcat) hd ⟨h9, h10⟩) hS (fun q _ h => h) (fun q h => h) (fun u t H1 locs1 ht hvm hpost hB hz hk hS1 => ?_)
  have hP1 := hB.1
  rw [ht] at hP1
  exact kk u hpost H1 locs1 ls hP1 hS1 hls
theorem r_cNV (hC : Cx E G cc own nL Ts fr lo) {post : VV → Prop} {host : String} (hM : ∀ l, MtV l G y ws fr' lo' (.ref (G.1 k) :: As) v post) (hg : GoodIn Ts ws) (hw : ws = Cond.code y bytes maxL ret :: ws') (i : Nat) (hnest : nestM[i]? = some (own, idx, y, host)) (hw1 : Cond.initialized y.cls ∈ Ts) (hw2 : Cond.instanceMethod y ∈ Ts) (hw3 : Cond.selects C y y ∈ Ts) (hd1 : y.cls ≠ "java/lang/invoke/MethodHandle" ∧ y.cls ≠ "java/lang/invoke/VarHandle" ∧ (parseMethodDescriptor y.desc).map (fun d => d.parameters.length) = some n) (hr : fr' + 1 ≤ fr ∧ 8 + (maxL + 11) + lo' ≤ lo) (hob : Ob ci k) (hcl : vwCl[ci]? = some (C, T, N)) (hn : As.length = n) (hL : L.length = nL) (hst : stk = As.reverse ++ .ref (G.1 k) :: st) (hcat : (st.map fun v => v.category).sum ≤ 8) (hd : decode cc pc = .ok (.invokevirtual idx, 3)) (hq : pc + 3 = q) (kk : ∀ (v' : VV), post v' → Wv E G v' q L st) : Wv E G v pc L stk := by
  obtain ⟨p, l, e, R, s, m, args, below, meth, c, cells, slots, Q⟩ := E
  subst hq; subst hst
  obtain ⟨h1, h2, h3, h4, h5, h6, h7, h8, h9, h10, h11, h12⟩ := hC
  intro H locs ls hP hS hls
  obtain ⟨fs, hfs⟩ := hob.2 G (v k)
  have he : (wl G v)[k]? = some (G.1 k, .inr (ci, fs)) := by rw [wl_get hob.1, hfs]
  refine va_callv (va_runVN (As := As) (rest := st) ⟨h1, h2, h3, h4, h5⟩ (hM l) ⟨va_cnB n h5 hg hw rfl rfl (h8.2 _ (List.mem_of_getElem? hnest)) (h5 _ hw1) hd1 ⟨by rw [h11]; exact hr.1, by rw [h12]; exact hr.2⟩, h5 _ hw2, h5 _ hw3⟩ ⟨fun a U g mk qq => ⟨qq.1, qq.2.calling g mk a⟩, va_recv h6 hP hcl he, fun U hU hW => ⟨rfl, ⟨by rw [hU]; exact hP, va_K.moved hW.alike h6, h7, h8.warm hW⟩⟩⟩ rfl hn (hls.1.trans hL) rfl (lv_room hcat) hd ⟨h9, h10⟩) hS (fun q _ h => h) (fun q h => h) (fun u t H1 locs1 ht hvm hpost hB hz hk hS1 => ?_)
  have hP1 := hB.1
  rw [ht] at hP1
  exact kk u hpost H1 locs1 ls hP1 hS1 hls
theorem r_cSV (hC : Cx E G cc own nL Ts fr lo) {post : VV → Prop} (hM : ∀ l, MtV l G y ws fr' lo' (As) v post) (hg : GoodIn Ts (wsS own idx y ws)) (hw : ws = Cond.code y bytes maxL ret :: ws') (hd1 : y.cls = own ∧ y.cls ≠ "java/lang/invoke/MethodHandle" ∧ y.cls ≠ "java/lang/invoke/VarHandle" ∧ (parseMethodDescriptor y.desc).map (fun d => d.parameters.length) = some n) (hr : fr' + 1 ≤ fr ∧ 8 + (maxL + 11) + lo' ≤ lo) (hn : As.length = n) (hL : L.length = nL) (hst : stk = As.reverse ++ st) (hcat : (st.map fun v => v.category).sum ≤ 8) (hd : decode cc pc = .ok (.invokestatic idx, 3)) (hq : pc + 3 = q) (kk : ∀ (v' : VV), post v' → Wv E G v' q L st) : Wv E G v pc L stk := by
  obtain ⟨p, l, e, R, s, m, args, below, meth, c, cells, slots, Q⟩ := E
  subst hq; subst hst
  obtain ⟨h1, h2, h3, h4, h5, h6, h7, h8, h9, h10, h11, h12⟩ := hC
  intro H locs ls hP hS hls
  refine va_callv (va_runS (As := As) (rest := st) ⟨h1, h2, h3, h4, h5⟩ (hM l) (cwS n h5 hg hw rfl rfl hd1 ⟨by rw [h11]; exact hr.1, by rw [h12]; exact hr.2⟩) ⟨fun a U g mk qq => ⟨qq.1, qq.2.calling g mk a⟩, fun U hU hW => ⟨rfl, ⟨by rw [hU]; exact hP, va_K.moved hW.alike h6, h7, h8.warm hW⟩⟩⟩ rfl hn (hls.1.trans hL) rfl (lv_room hcat) hd ⟨h9, h10⟩) hS (fun q _ h => h) (fun q h => h) (fun u t H1 locs1 ht hvm hpost hB hz hk hS1 => ?_)
  have hP1 := hB.1
  rw [ht] at hP1
  exact kk u hpost H1 locs1 ls hP1 hS1 hls
theorem r_cXV (hC : Cx E G cc own nL Ts fr lo) {post : VV → Prop} (hM : ∀ l, MtV l G y ws fr' lo' (As) v post) (hg : GoodIn Ts (va_wsS own idx y ws)) (hw : ws = Cond.code y bytes maxL ret :: ws') (hd1 : y.cls ≠ "java/lang/invoke/MethodHandle" ∧ y.cls ≠ "java/lang/invoke/VarHandle" ∧ (parseMethodDescriptor y.desc).map (fun d => d.parameters.length) = some n) (hr : fr' + 1 ≤ fr ∧ 8 + (maxL + 11) + lo' ≤ lo) (hn : As.length = n) (hL : L.length = nL) (hst : stk = As.reverse ++ st) (hcat : (st.map fun v => v.category).sum ≤ 8) (hd : decode cc pc = .ok (.invokestatic idx, 3)) (hq : pc + 3 = q) (kk : ∀ (v' : VV), post v' → Wv E G v' q L st) : Wv E G v pc L stk := by
  obtain ⟨p, l, e, R, s, m, args, below, meth, c, cells, slots, Q⟩ := E
  subst hq; subst hst
  obtain ⟨h1, h2, h3, h4, h5, h6, h7, h8, h9, h10, h11, h12⟩ := hC
  intro H locs ls hP hS hls
  refine va_callv (va_runS (As := As) (rest := st) ⟨h1, h2, h3, h4, h5⟩ (hM l) (va_cwS n h5 hg hw rfl rfl hd1 ⟨by rw [h11]; exact hr.1, by rw [h12]; exact hr.2⟩) ⟨fun a U g mk qq => ⟨qq.1, qq.2.calling g mk a⟩, fun U hU hW => ⟨rfl, ⟨by rw [hU]; exact hP, va_K.moved hW.alike h6, h7, h8.warm hW⟩⟩⟩ rfl hn (hls.1.trans hL) rfl (lv_room hcat) hd ⟨h9, h10⟩) hS (fun q _ h => h) (fun q h => h) (fun u t H1 locs1 ht hvm hpost hB hz hk hS1 => ?_)
  have hP1 := hB.1
  rw [ht] at hP1
  exact kk u hpost H1 locs1 ls hP1 hS1 hls
end RC
section RN
variable {E : TE} {G : GG} {v : VV} {pc q t : Nat} {L L' : List (Option Value)} {st : List Value} {cc : ByteArray} {own : String} {nL fr lo : Nat} {Ts : List Cond}
theorem r_top {x y : Int32} (h : x = y) (kk : Wv E G v pc L (.int y :: st)) : Wv E G v pc L (.int x :: st) := h ▸ kk
theorem r_iaN (hC : Cx E G cc own nL Ts fr lo) {k n i : Nat} {x : Int32} (hd : decode cc pc = .ok (.iaload, 1)) (hA : iA k n) (hx : x = nI i) (hi : i < n) (hq : pc + 1 = q) (kk : Wv E G v q L (.int (v k i) :: st)) : Wv E G v pc L (.int x :: .ref (G.1 k) :: st) := by
  subst hx
  have hn : n < 2 ^ 31 := by have := hA.1.2; omega
  refine r_iaload hC hd hA (vp_in_nI hi hn) hq ?_
  rw [nI_clamp (by omega)]
  exact kk
theorem r_isN (hC : Cx E G cc own nL Ts fr lo) {k n i : Nat} {x y : Int32} (hd : decode cc pc = .ok (.iastore, 1)) (hA : iA k n) (hx : x = nI i) (hi : i < n) (hq : pc + 1 = q) (kk : Wv E G (va_up v k (upd (v k) i y)) q L st) : Wv E G v pc L (.int y :: .int x :: .ref (G.1 k) :: st) := by
  subst hx
  have hn : n < 2 ^ 31 := by have := hA.1.2; omega
  refine r_iastore hC hd hA (vp_in_nI hi hn) hq ?_
  rw [nI_clamp (by omega)]
  exact kk
theorem r_zaN (hC : Cx E G cc own nL Ts fr lo) {k n i : Nat} {x : Int32} (hd : decode cc pc = .ok (.baload, 1)) (hA : zA k n) (hx : x = nI i) (hi : i < n) (hq : pc + 1 = q) (kk : Wv E G v q L (.int (v k i) :: st)) : Wv E G v pc L (.int x :: .ref (G.1 k) :: st) := by
  subst hx
  have hn : n < 2 ^ 31 := by have := hA.1.2; omega
  refine r_zaload hC hd hA (vp_in_nI hi hn) hq ?_
  rw [nI_clamp (by omega)]
  exact kk
theorem r_zsN (hC : Cx E G cc own nL Ts fr lo) {k n i : Nat} {x y : Int32} (hd : decode cc pc = .ok (.bastore, 1)) (hA : zA k n) (hx : x = nI i) (hi : i < n) (hq : pc + 1 = q) (kk : Wv E G (va_up v k (upd (v k) i (vp_nar .boolean y))) q L st) : Wv E G v pc L (.int y :: .int x :: .ref (G.1 k) :: st) := by
  subst hx
  have hn : n < 2 ^ 31 := by have := hA.1.2; omega
  refine r_zastore hC hd hA (vp_in_nI hi hn) hq ?_
  rw [nI_clamp (by omega)]
  exact kk
theorem r_aBN (hC : Cx E G cc own nL Ts fr lo) {k i : Nat} {x : Int32} (hd : decode cc pc = .ok (.aaload, 1)) (hk : isPr k) (hx : x = nI i) (hi : i < 12) (hq : pc + 1 = q) (kk : Wv E G v q L (.ref (G.1 (k + 2 + 7 * i)) :: st)) : Wv E G v pc L (.int x :: .ref (G.1 (k + 1)) :: st) := by
  subst hx
  refine r_aloadB hC hd hk (vp_in_nI hi (by omega)) hq ?_
  rw [nI_clamp (by omega)]
  exact kk
theorem r_aPN (hC : Cx E G cc own nL Ts fr lo) {i : Nat} {x : Int32} (hd : decode cc pc = .ok (.aaload, 1)) (hx : x = nI i) (hi : i < 2) (hq : pc + 1 = q) (kk : Wv E G v q L (.ref (G.1 (90 + 88 * i)) :: st)) : Wv E G v pc L (.int x :: .ref (G.1 89) :: st) := by
  subst hx
  refine r_aloadP hC hd (vp_in_nI hi (by omega)) hq ?_
  rw [nI_clamp (by omega)]
  exact kk
theorem r_iaddN (hC : Cx E G cc own nL Ts fr lo) {a b : Nat} {x y : Int32} (hd : decode cc pc = .ok (.iadd, 1)) (hx : x = nI a) (hy : y = nI b) (hq : pc + 1 = q) (kk : Wv E G v q L (.int (nI (a + b)) :: st)) : Wv E G v pc L (.int y :: .int x :: st) := by
  subst hx; subst hy
  refine r_iadd hC hd hq ?_
  rw [nI_add]
  exact kk
theorem r_imulN (hC : Cx E G cc own nL Ts fr lo) {a b : Nat} {x y : Int32} (hd : decode cc pc = .ok (.imul, 1)) (hx : x = nI a) (hy : y = nI b) (hq : pc + 1 = q) (kk : Wv E G v q L (.int (nI (a * b)) :: st)) : Wv E G v pc L (.int y :: .int x :: st) := by
  subst hx; subst hy
  refine r_imul hC hd hq ?_
  rw [pk_mul]
  exact kk
theorem r_isubN (hC : Cx E G cc own nL Ts fr lo) {a b : Nat} {x y : Int32} (hd : decode cc pc = .ok (.isub, 1)) (hx : x = nI a) (hy : y = nI b) (h : b ≤ a) (hq : pc + 1 = q) (kk : Wv E G v q L (.int (nI (a - b)) :: st)) : Wv E G v pc L (.int y :: .int x :: st) := by
  subst hx; subst hy
  refine r_isub hC hd hq ?_
  rw [pk_sub h]
  exact kk
theorem r_iincN (hC : Cx E G cc own nL Ts fr lo) {k a c : Nat} {n : Int} {x : Int32} (hd : decode cc pc = .ok (.iinc k n, 3)) (hx : gl L k = some (.int x)) (hxa : x = nI a) (hc : Int32.ofInt n = nI c) (hL : sl L k (.int (nI (a + c))) = L') (hq : pc + 3 = q) (kk : Wv E G v q L' st) : Wv E G v pc L st :=
  r_iinc hC hd hx (by rw [hxa, hc, nI_add]) hL hq kk
theorem r_if_eqB (hC : Cx E G cc own nL Ts fr lo) {c : Prop} [Decidable c] {off : Int} (hd : decode cc pc = .ok (.ifCond .eq off, 3)) (ht : (pc : Int) + off = (t : Int)) (hq : pc + 3 = q) (kt : ¬ c → Wv E G v t L st) (kf : c → Wv E G v q L st) : Wv E G v pc L (.int (if c then 1 else 0) :: st) := by
  refine r_if_eq hC hd ht hq (fun h => kt (fun hc => ?_)) (fun h => kf ?_)
  · rw [if_pos hc] at h; exact absurd h (by decide)
  · by_cases hc : c
    · exact hc
    · rw [if_neg hc] at h; exact absurd rfl h
theorem r_if_neB (hC : Cx E G cc own nL Ts fr lo) {c : Prop} [Decidable c] {off : Int} (hd : decode cc pc = .ok (.ifCond .ne off, 3)) (ht : (pc : Int) + off = (t : Int)) (hq : pc + 3 = q) (kt : c → Wv E G v t L st) (kf : ¬ c → Wv E G v q L st) : Wv E G v pc L (.int (if c then 1 else 0) :: st) := by
  refine r_if_ne hC hd ht hq (fun h => kt ?_) (fun h => kf (fun hc => ?_))
  · by_cases hc : c
    · exact hc
    · rw [if_neg hc] at h; exact absurd rfl h
  · rw [if_pos hc] at h; exact absurd h (by decide)

theorem r_icmp_eqN (hC : Cx E G cc own nL Ts fr lo) {a b : Nat} {x y : Int32} {off : Int} (hd : decode cc pc = .ok (.if_icmp .eq off, 3)) (hx : x = nI a) (hy : y = nI b) (ha : a < 2 ^ 31) (hb : b < 2 ^ 31) (ht : (pc : Int) + off = (t : Int)) (hq : pc + 3 = q) (kt : a = b → Wv E G v t L st) (kf : ¬ a = b → Wv E G v q L st) : Wv E G v pc L (.int y :: .int x :: st) := by
  subst hx; subst hy
  exact r_icmp_eq hC hd ht hq (fun h => kt ((nI_eq ha hb).mp h)) (fun h => kf (fun e => h ((nI_eq ha hb).mpr e)))

theorem r_icmp_ltN (hC : Cx E G cc own nL Ts fr lo) {a b : Nat} {x y : Int32} {off : Int} (hd : decode cc pc = .ok (.if_icmp .lt off, 3)) (hx : x = nI a) (hy : y = nI b) (ha : a < 2 ^ 31) (hb : b < 2 ^ 31) (ht : (pc : Int) + off = (t : Int)) (hq : pc + 3 = q) (kt : a < b → Wv E G v t L st) (kf : b ≤ a → Wv E G v q L st) : Wv E G v pc L (.int y :: .int x :: st) := by
  subst hx; subst hy
  exact r_icmp_lt hC hd ht hq (fun h => kt ((nI_ltI ha hb).mp h)) (fun h => kf (by have := mt (nI_ltI ha hb).mpr h; omega))

theorem r_icmp_leN (hC : Cx E G cc own nL Ts fr lo) {a b : Nat} {x y : Int32} {off : Int} (hd : decode cc pc = .ok (.if_icmp .le off, 3)) (hx : x = nI a) (hy : y = nI b) (ha : a < 2 ^ 31) (hb : b < 2 ^ 31) (ht : (pc : Int) + off = (t : Int)) (hq : pc + 3 = q) (kt : a ≤ b → Wv E G v t L st) (kf : b < a → Wv E G v q L st) : Wv E G v pc L (.int y :: .int x :: st) := by
  subst hx; subst hy
  exact r_icmp_le hC hd ht hq (fun h => kt ((nI_leI ha hb).mp h)) (fun h => kf (by have := mt (nI_leI ha hb).mpr h; omega))

theorem r_icmp_geN (hC : Cx E G cc own nL Ts fr lo) {a b : Nat} {x y : Int32} {off : Int} (hd : decode cc pc = .ok (.if_icmp .ge off, 3)) (hx : x = nI a) (hy : y = nI b) (ha : a < 2 ^ 31) (hb : b < 2 ^ 31) (ht : (pc : Int) + off = (t : Int)) (hq : pc + 3 = q) (kt : b ≤ a → Wv E G v t L st) (kf : a < b → Wv E G v q L st) : Wv E G v pc L (.int y :: .int x :: st) := by
  subst hx; subst hy
  exact r_icmp_ge hC hd ht hq (fun h => kt ((nI_leI hb ha).mp h)) (fun h => kf (by have := mt (nI_leI hb ha).mpr h; omega))

theorem r_icmp_gtN (hC : Cx E G cc own nL Ts fr lo) {a b : Nat} {x y : Int32} {off : Int} (hd : decode cc pc = .ok (.if_icmp .gt off, 3)) (hx : x = nI a) (hy : y = nI b) (ha : a < 2 ^ 31) (hb : b < 2 ^ 31) (ht : (pc : Int) + off = (t : Int)) (hq : pc + 3 = q) (kt : b < a → Wv E G v t L st) (kf : a ≤ b → Wv E G v q L st) : Wv E G v pc L (.int y :: .int x :: st) := by
  subst hx; subst hy
  exact r_icmp_gt hC hd ht hq (fun h => kt ((nI_ltI hb ha).mp h)) (fun h => kf (by have := mt (nI_ltI hb ha).mpr h; omega))

theorem r_icmp_neN (hC : Cx E G cc own nL Ts fr lo) {a b : Nat} {x y : Int32} {off : Int} (hd : decode cc pc = .ok (.if_icmp .ne off, 3)) (hx : x = nI a) (hy : y = nI b) (ha : a < 2 ^ 31) (hb : b < 2 ^ 31) (ht : (pc : Int) + off = (t : Int)) (hq : pc + 3 = q) (kt : ¬ a = b → Wv E G v t L st) (kf : a = b → Wv E G v q L st) : Wv E G v pc L (.int y :: .int x :: st) := by
  subst hx; subst hy
  exact r_icmp_ne hC hd ht hq (fun h => kt (fun e => h ((nI_eq ha hb).mpr e))) (fun h => kf ((nI_eq ha hb).mp h))

theorem r_tsw5 (hC : Cx E G cc own nL Ts fr lo) {x : Int32} {d o0 o1 o2 o3 o4 o5 : Int} {len td t0 t1 t2 t3 t4 t5 : Nat} (hd : decode cc pc = .ok (.tableswitch d 0 5 #[o0, o1, o2, o3, o4, o5], len)) (gd : (pc : Int) + d = (td : Int)) (g0 : (pc : Int) + o0 = (t0 : Int)) (g1 : (pc : Int) + o1 = (t1 : Int)) (g2 : (pc : Int) + o2 = (t2 : Int)) (g3 : (pc : Int) + o3 = (t3 : Int)) (g4 : (pc : Int) + o4 = (t4 : Int)) (g5 : (pc : Int) + o5 = (t5 : Int)) (kd : (x.toInt < 0 ∨ 5 < x.toInt) → Wv E G v td L st) (k0 : x = 0 → Wv E G v t0 L st) (k1 : x = 1 → Wv E G v t1 L st) (k2 : x = 2 → Wv E G v t2 L st) (k3 : x = 3 → Wv E G v t3 L st) (k4 : x = 4 → Wv E G v t4 L st) (k5 : x = 5 → Wv E G v t5 L st) : Wv E G v pc L (.int x :: st) := by
  by_cases h : x.toInt < 0 ∨ 5 < x.toInt
  · exact r_tableOut hC hd h gd (kd h)
  · obtain ⟨j, hj, rfl⟩ := nI_of2 (x := x) (M := 5) (n := 5) rfl (by rw [Int32.lt_iff_toInt_lt]; simp; omega) (by rw [Int32.le_iff_toInt_le]; have : ((5 : Int32).toInt) = 5 := rfl; omega)
    have hj2 : j = 0 ∨ j = 1 ∨ j = 2 ∨ j = 3 ∨ j = 4 ∨ j = 5 := by omega
    rcases hj2 with rfl | rfl | rfl | rfl | rfl | rfl
    · exact r_tableIn hC hd (by decide) (by decide) rfl g0 (k0 rfl)
    · exact r_tableIn hC hd (by decide) (by decide) rfl g1 (k1 rfl)
    · exact r_tableIn hC hd (by decide) (by decide) rfl g2 (k2 rfl)
    · exact r_tableIn hC hd (by decide) (by decide) rfl g3 (k3 rfl)
    · exact r_tableIn hC hd (by decide) (by decide) rfl g4 (k4 rfl)
    · exact r_tableIn hC hd (by decide) (by decide) rfl g5 (k5 rfl)

theorem r_tsw6 (hC : Cx E G cc own nL Ts fr lo) {x : Int32} {d o0 o1 o2 o3 o4 o5 o6 : Int} {len td t0 t1 t2 t3 t4 t5 t6 : Nat} (hd : decode cc pc = .ok (.tableswitch d 0 6 #[o0, o1, o2, o3, o4, o5, o6], len)) (gd : (pc : Int) + d = (td : Int)) (g0 : (pc : Int) + o0 = (t0 : Int)) (g1 : (pc : Int) + o1 = (t1 : Int)) (g2 : (pc : Int) + o2 = (t2 : Int)) (g3 : (pc : Int) + o3 = (t3 : Int)) (g4 : (pc : Int) + o4 = (t4 : Int)) (g5 : (pc : Int) + o5 = (t5 : Int)) (g6 : (pc : Int) + o6 = (t6 : Int)) (kd : (x.toInt < 0 ∨ 6 < x.toInt) → Wv E G v td L st) (k0 : x = 0 → Wv E G v t0 L st) (k1 : x = 1 → Wv E G v t1 L st) (k2 : x = 2 → Wv E G v t2 L st) (k3 : x = 3 → Wv E G v t3 L st) (k4 : x = 4 → Wv E G v t4 L st) (k5 : x = 5 → Wv E G v t5 L st) (k6 : x = 6 → Wv E G v t6 L st) : Wv E G v pc L (.int x :: st) := by
  by_cases h : x.toInt < 0 ∨ 6 < x.toInt
  · exact r_tableOut hC hd h gd (kd h)
  · obtain ⟨j, hj, rfl⟩ := nI_of2 (x := x) (M := 6) (n := 6) rfl (by rw [Int32.lt_iff_toInt_lt]; simp; omega) (by rw [Int32.le_iff_toInt_le]; have : ((6 : Int32).toInt) = 6 := rfl; omega)
    have hj2 : j = 0 ∨ j = 1 ∨ j = 2 ∨ j = 3 ∨ j = 4 ∨ j = 5 ∨ j = 6 := by omega
    rcases hj2 with rfl | rfl | rfl | rfl | rfl | rfl | rfl
    · exact r_tableIn hC hd (by decide) (by decide) rfl g0 (k0 rfl)
    · exact r_tableIn hC hd (by decide) (by decide) rfl g1 (k1 rfl)
    · exact r_tableIn hC hd (by decide) (by decide) rfl g2 (k2 rfl)
    · exact r_tableIn hC hd (by decide) (by decide) rfl g3 (k3 rfl)
    · exact r_tableIn hC hd (by decide) (by decide) rfl g4 (k4 rfl)
    · exact r_tableIn hC hd (by decide) (by decide) rfl g5 (k5 rfl)
    · exact r_tableIn hC hd (by decide) (by decide) rfl g6 (k6 rfl)

theorem r_tsw31 (hC : Cx E G cc own nL Ts fr lo) {x : Int32} {d o0 o1 o2 o3 o4 o5 o6 o7 o8 o9 o10 o11 o12 o13 o14 o15 o16 o17 o18 o19 o20 o21 o22 o23 o24 o25 o26 o27 o28 o29 o30 o31 : Int} {len td t0 t1 t2 t3 t4 t5 t6 t7 t8 t9 t10 t11 t12 t13 t14 t15 t16 t17 t18 t19 t20 t21 t22 t23 t24 t25 t26 t27 t28 t29 t30 t31 : Nat} (hd : decode cc pc = .ok (.tableswitch d 0 31 #[o0, o1, o2, o3, o4, o5, o6, o7, o8, o9, o10, o11, o12, o13, o14, o15, o16, o17, o18, o19, o20, o21, o22, o23, o24, o25, o26, o27, o28, o29, o30, o31], len)) (gd : (pc : Int) + d = (td : Int)) (g0 : (pc : Int) + o0 = (t0 : Int)) (g1 : (pc : Int) + o1 = (t1 : Int)) (g2 : (pc : Int) + o2 = (t2 : Int)) (g3 : (pc : Int) + o3 = (t3 : Int)) (g4 : (pc : Int) + o4 = (t4 : Int)) (g5 : (pc : Int) + o5 = (t5 : Int)) (g6 : (pc : Int) + o6 = (t6 : Int)) (g7 : (pc : Int) + o7 = (t7 : Int)) (g8 : (pc : Int) + o8 = (t8 : Int)) (g9 : (pc : Int) + o9 = (t9 : Int)) (g10 : (pc : Int) + o10 = (t10 : Int)) (g11 : (pc : Int) + o11 = (t11 : Int)) (g12 : (pc : Int) + o12 = (t12 : Int)) (g13 : (pc : Int) + o13 = (t13 : Int)) (g14 : (pc : Int) + o14 = (t14 : Int)) (g15 : (pc : Int) + o15 = (t15 : Int)) (g16 : (pc : Int) + o16 = (t16 : Int)) (g17 : (pc : Int) + o17 = (t17 : Int)) (g18 : (pc : Int) + o18 = (t18 : Int)) (g19 : (pc : Int) + o19 = (t19 : Int)) (g20 : (pc : Int) + o20 = (t20 : Int)) (g21 : (pc : Int) + o21 = (t21 : Int)) (g22 : (pc : Int) + o22 = (t22 : Int)) (g23 : (pc : Int) + o23 = (t23 : Int)) (g24 : (pc : Int) + o24 = (t24 : Int)) (g25 : (pc : Int) + o25 = (t25 : Int)) (g26 : (pc : Int) + o26 = (t26 : Int)) (g27 : (pc : Int) + o27 = (t27 : Int)) (g28 : (pc : Int) + o28 = (t28 : Int)) (g29 : (pc : Int) + o29 = (t29 : Int)) (g30 : (pc : Int) + o30 = (t30 : Int)) (g31 : (pc : Int) + o31 = (t31 : Int)) (kd : (x.toInt < 0 ∨ 31 < x.toInt) → Wv E G v td L st) (k0 : x = 0 → Wv E G v t0 L st) (k1 : x = 1 → Wv E G v t1 L st) (k2 : x = 2 → Wv E G v t2 L st) (k3 : x = 3 → Wv E G v t3 L st) (k4 : x = 4 → Wv E G v t4 L st) (k5 : x = 5 → Wv E G v t5 L st) (k6 : x = 6 → Wv E G v t6 L st) (k7 : x = 7 → Wv E G v t7 L st) (k8 : x = 8 → Wv E G v t8 L st) (k9 : x = 9 → Wv E G v t9 L st) (k10 : x = 10 → Wv E G v t10 L st) (k11 : x = 11 → Wv E G v t11 L st) (k12 : x = 12 → Wv E G v t12 L st) (k13 : x = 13 → Wv E G v t13 L st) (k14 : x = 14 → Wv E G v t14 L st) (k15 : x = 15 → Wv E G v t15 L st) (k16 : x = 16 → Wv E G v t16 L st) (k17 : x = 17 → Wv E G v t17 L st) (k18 : x = 18 → Wv E G v t18 L st) (k19 : x = 19 → Wv E G v t19 L st) (k20 : x = 20 → Wv E G v t20 L st) (k21 : x = 21 → Wv E G v t21 L st) (k22 : x = 22 → Wv E G v t22 L st) (k23 : x = 23 → Wv E G v t23 L st) (k24 : x = 24 → Wv E G v t24 L st) (k25 : x = 25 → Wv E G v t25 L st) (k26 : x = 26 → Wv E G v t26 L st) (k27 : x = 27 → Wv E G v t27 L st) (k28 : x = 28 → Wv E G v t28 L st) (k29 : x = 29 → Wv E G v t29 L st) (k30 : x = 30 → Wv E G v t30 L st) (k31 : x = 31 → Wv E G v t31 L st) : Wv E G v pc L (.int x :: st) := by
  by_cases h : x.toInt < 0 ∨ 31 < x.toInt
  · exact r_tableOut hC hd h gd (kd h)
  · obtain ⟨j, hj, rfl⟩ := nI_of2 (x := x) (M := 31) (n := 31) rfl (by rw [Int32.lt_iff_toInt_lt]; simp; omega) (by rw [Int32.le_iff_toInt_le]; have : ((31 : Int32).toInt) = 31 := rfl; omega)
    have hj2 : j = 0 ∨ j = 1 ∨ j = 2 ∨ j = 3 ∨ j = 4 ∨ j = 5 ∨ j = 6 ∨ j = 7 ∨ j = 8 ∨ j = 9 ∨ j = 10 ∨ j = 11 ∨ j = 12 ∨ j = 13 ∨ j = 14 ∨ j = 15 ∨ j = 16 ∨ j = 17 ∨ j = 18 ∨ j = 19 ∨ j = 20 ∨ j = 21 ∨ j = 22 ∨ j = 23 ∨ j = 24 ∨ j = 25 ∨ j = 26 ∨ j = 27 ∨ j = 28 ∨ j = 29 ∨ j = 30 ∨ j = 31 := by omega
    rcases hj2 with rfl | rfl | rfl | rfl | rfl | rfl | rfl | rfl | rfl | rfl | rfl | rfl | rfl | rfl | rfl | rfl | rfl | rfl | rfl | rfl | rfl | rfl | rfl | rfl | rfl | rfl | rfl | rfl | rfl | rfl | rfl | rfl
    · exact r_tableIn hC hd (by decide) (by decide) rfl g0 (k0 rfl)
    · exact r_tableIn hC hd (by decide) (by decide) rfl g1 (k1 rfl)
    · exact r_tableIn hC hd (by decide) (by decide) rfl g2 (k2 rfl)
    · exact r_tableIn hC hd (by decide) (by decide) rfl g3 (k3 rfl)
    · exact r_tableIn hC hd (by decide) (by decide) rfl g4 (k4 rfl)
    · exact r_tableIn hC hd (by decide) (by decide) rfl g5 (k5 rfl)
    · exact r_tableIn hC hd (by decide) (by decide) rfl g6 (k6 rfl)
    · exact r_tableIn hC hd (by decide) (by decide) rfl g7 (k7 rfl)
    · exact r_tableIn hC hd (by decide) (by decide) rfl g8 (k8 rfl)
    · exact r_tableIn hC hd (by decide) (by decide) rfl g9 (k9 rfl)
    · exact r_tableIn hC hd (by decide) (by decide) rfl g10 (k10 rfl)
    · exact r_tableIn hC hd (by decide) (by decide) rfl g11 (k11 rfl)
    · exact r_tableIn hC hd (by decide) (by decide) rfl g12 (k12 rfl)
    · exact r_tableIn hC hd (by decide) (by decide) rfl g13 (k13 rfl)
    · exact r_tableIn hC hd (by decide) (by decide) rfl g14 (k14 rfl)
    · exact r_tableIn hC hd (by decide) (by decide) rfl g15 (k15 rfl)
    · exact r_tableIn hC hd (by decide) (by decide) rfl g16 (k16 rfl)
    · exact r_tableIn hC hd (by decide) (by decide) rfl g17 (k17 rfl)
    · exact r_tableIn hC hd (by decide) (by decide) rfl g18 (k18 rfl)
    · exact r_tableIn hC hd (by decide) (by decide) rfl g19 (k19 rfl)
    · exact r_tableIn hC hd (by decide) (by decide) rfl g20 (k20 rfl)
    · exact r_tableIn hC hd (by decide) (by decide) rfl g21 (k21 rfl)
    · exact r_tableIn hC hd (by decide) (by decide) rfl g22 (k22 rfl)
    · exact r_tableIn hC hd (by decide) (by decide) rfl g23 (k23 rfl)
    · exact r_tableIn hC hd (by decide) (by decide) rfl g24 (k24 rfl)
    · exact r_tableIn hC hd (by decide) (by decide) rfl g25 (k25 rfl)
    · exact r_tableIn hC hd (by decide) (by decide) rfl g26 (k26 rfl)
    · exact r_tableIn hC hd (by decide) (by decide) rfl g27 (k27 rfl)
    · exact r_tableIn hC hd (by decide) (by decide) rfl g28 (k28 rfl)
    · exact r_tableIn hC hd (by decide) (by decide) rfl g29 (k29 rfl)
    · exact r_tableIn hC hd (by decide) (by decide) rfl g30 (k30 rfl)
    · exact r_tableIn hC hd (by decide) (by decide) rfl g31 (k31 rfl)

theorem r_lsw (hC : Cx E G cc own nL Ts fr lo) {x : Int32} {d o0 o1 : Int} {len td t0 t1 : Nat} (hd : decode cc pc = .ok (.lookupswitch d #[(0, o0), (1, o1)], len)) (gd : (pc : Int) + d = (td : Int)) (g0 : (pc : Int) + o0 = (t0 : Int)) (g1 : (pc : Int) + o1 = (t1 : Int)) (kd : (¬ x = 0 ∧ ¬ x = 1) → Wv E G v td L st) (k0 : x = 0 → Wv E G v t0 L st) (k1 : x = 1 → Wv E G v t1 L st) : Wv E G v pc L (.int x :: st) := by
  by_cases h0 : x = 0
  · subst h0
    exact r_lookup hC hd (by rfl) (off := o0) (by simp [Op.lookupswitch.offset]) g0 (k0 rfl)
  · by_cases h1 : x = 1
    · subst h1
      exact r_lookup hC hd (by rfl) (off := o1) (by simp [Op.lookupswitch.offset]) g1 (k1 rfl)
    · have e0 : ¬ x.toInt = 0 := fun h => h0 (Int32.toInt_inj.mp h)
      have e1 : ¬ x.toInt = 1 := fun h => h1 (Int32.toInt_inj.mp h)
      exact r_lookup hC hd (by rfl) (off := d) (by simp [Op.lookupswitch.offset, e0, e1, Ne.symm e0, Ne.symm e1, eq_comm]) gd (kd ⟨h0, h1⟩)
end RN
end
section
abbrev u2 (v : VV) (k j : Nat) (x : Int32) : VV := va_up v k (upd (v k) j x)
theorem ite01 (c : Prop) [Decidable c] : (if c then (1 : Int32) else 0) = 0 ∨ (if c then (1 : Int32) else 0) = 1 := by
  by_cases h : c
  · rw [if_pos h]; exact Or.inr rfl
  · rw [if_neg h]; exact Or.inl rfl
/-- a block's terminator is set -/
def tm (v : VV) (k : Nat) (a b c d : Int32) : VV := u2 (u2 (u2 (u2 v k 6 a) (k + 6) 0 b) (k + 6) 1 c) (k + 6) 2 d
/-- an instruction is put at place n -/
def ap (v : VV) (k n : Nat) (o d a b l : Int32) : VV := u2 (u2 (u2 (u2 (u2 (u2 v (k + 1) n o) (k + 2) n d) (k + 3) n a) (k + 4) n b) (k + 5) n l) k 5 (nI (n + 1))
theorem isBk_sep {k k2 : Nat} (h : isBk k) (h2 : isBk k2) (hn : k ≠ k2) : k + 6 < k2 ∨ k2 + 6 < k := by
  obtain ⟨p, b, hp, hb, rfl⟩ := h
  obtain ⟨p2, b2, hp2, hb2, rfl⟩ := h2
  unfold isPr at hp hp2
  omega
theorem ap_far {v : VV} {k n q : Nat} {o d a b l : Int32} (h : k + 6 < q ∨ q < k) : ap v k n o d a b l q = v q := by
  unfold ap u2
  rw [va_up_ne _ _ (by omega), va_up_ne _ _ (by omega), va_up_ne _ _ (by omega), va_up_ne _ _ (by omega), va_up_ne _ _ (by omega), va_up_ne _ _ (by omega)]
theorem tm_far {v : VV} {k q : Nat} {a b c d : Int32} (h : k + 6 < q ∨ q < k) : tm v k a b c d q = v q := by
  unfold tm u2
  rw [va_up_ne _ _ (by omega), va_up_ne _ _ (by omega), va_up_ne _ _ (by omega), va_up_ne _ _ (by omega)]
theorem ap_cnt {v : VV} {k n : Nat} {o d a b l : Int32} : ap v k n o d a b l k 5 = nI (n + 1) := by simp [ap, va_up, upd]

set_option maxRecDepth 100000 in
set_option maxHeartbeats 4000000 in
theorem b_X0_terminate {E : TE} {G : GG} {v : VV} {k : Nat} {a b c d : Int32} (hC : Cx E G cX0_terminate RX0 6 wsX0_terminate 0 0) (hR : RtI E G cX0_terminate (fun r v' => r = v k 6 ∧ v' = tm v k a b c d)) (hk : isBk k) : Wv E G v 0 [some (.ref (G.1 k)), some (.int a), some (.int b), some (.int c), some (.int d), none] [] := by
  have i_X0 : ∀ w ∈ wsX00, w ∈ wsX0_terminate := by decide +kernel
  have l_31 : lnk E RX0 31 (TX0 6) := hC.fl (by decide +kernel)
  have l_34 : lnk E RX0 34 (TX0 7) := hC.fl (by decide +kernel)
  refine r_aload_n hC (q := 1) dX0_terminate_0 rfl rfl ?_
  refine g_X0 hC 6 i_X0 l_31 (by decide) (q := 4) dX0_terminate_1 hk rfl rfl ?_
  refine r_istore hC (q := 6) (L' := [_, _, _, _, _, _]) dX0_terminate_4 (Nat.le_of_ble_eq_true rfl) rfl rfl ?_
  refine r_aload_n hC (q := 7) dX0_terminate_6 rfl rfl ?_
  refine r_iload_n hC (q := 8) dX0_terminate_7 rfl rfl ?_
  refine p_X0_6 hC i_X0 l_31 (q := 11) dX0_terminate_8 hk rfl ?_
  refine r_aload_n hC (q := 12) dX0_terminate_11 rfl rfl ?_
  refine g_X0 hC 7 i_X0 l_34 (by decide) (q := 15) dX0_terminate_12 hk rfl rfl ?_
  refine r_iconst hC (x := 0) (q := 16) dX0_terminate_15 (by decide) rfl ?_
  refine r_iload_n hC (q := 17) dX0_terminate_16 rfl rfl ?_
  refine r_isN hC (q := 18) (i := 0) dX0_terminate_17 (iA_b6 hk) rfl (by omega) rfl ?_
  refine r_aload_n hC (q := 19) dX0_terminate_18 rfl rfl ?_
  refine g_X0 hC 7 i_X0 l_34 (by decide) (q := 22) dX0_terminate_19 hk rfl rfl ?_
  refine r_iconst hC (x := 1) (q := 23) dX0_terminate_22 (by decide) rfl ?_
  refine r_iload_n hC (q := 24) dX0_terminate_23 rfl rfl ?_
  refine r_isN hC (q := 25) (i := 1) dX0_terminate_24 (iA_b6 hk) rfl (by omega) rfl ?_
  refine r_aload_n hC (q := 26) dX0_terminate_25 rfl rfl ?_
  refine g_X0 hC 7 i_X0 l_34 (by decide) (q := 29) dX0_terminate_26 hk rfl rfl ?_
  refine r_iconst hC (x := 2) (q := 30) dX0_terminate_29 (by decide) rfl ?_
  refine r_iload hC (q := 32) dX0_terminate_30 rfl rfl ?_
  refine r_isN hC (q := 33) (i := 2) dX0_terminate_32 (iA_b6 hk) rfl (by omega) rfl ?_
  refine r_iload hC (q := 35) dX0_terminate_33 rfl rfl ?_
  exact hR _ _ _ _ dX0_terminate_35 ⟨rfl, rfl⟩
theorem c_X0_terminate (l : Launch) {G : GG} {v : VV} {k : Nat} {a b c d : Int32} (hk : isBk k) : MtI l G yX0_terminate wsX0_terminate 0 0 [.ref (G.1 k), .int a, .int b, .int c, .int d] v (fun r v' => r = v k 6 ∧ v' = tm v k a b c d) := mt_int (Or.inl rfl) (by decide) rfl (by simp [Value.category]) (Nat.le_of_ble_eq_true rfl) rfl rfl (fun E hC hR => b_X0_terminate hC hR hk)

set_option maxRecDepth 100000 in
set_option maxHeartbeats 4000000 in
theorem b_X0_clear {E : TE} {G : GG} {v : VV} {k : Nat}  (hC : Cx E G cX0_clear RX0 1 wsX0_clear 1 25) (hR : RtV E G cX0_clear (fun v' => v' = tm (u2 v k 5 0) k 2 0 0 0)) (hk : isBk k) : Wv E G v 0 [some (.ref (G.1 k))] [] := by
  have i_X0 : ∀ w ∈ wsX00, w ∈ wsX0_clear := by decide +kernel
  have l_27 : lnk E RX0 27 (TX0 5) := hC.fl (by decide +kernel)
  refine r_aload_n hC (q := 1) dX0_clear_0 rfl rfl ?_
  refine r_iconst hC (x := 0) (q := 2) dX0_clear_1 (by decide) rfl ?_
  refine p_X0_5 hC i_X0 l_27 (q := 5) dX0_clear_2 hk rfl ?_
  refine r_aload_n hC (q := 6) dX0_clear_5 rfl rfl ?_
  refine r_iconst hC (x := 2) (q := 7) dX0_clear_6 (by decide) rfl ?_
  refine r_iconst hC (x := 0) (q := 8) dX0_clear_7 (by decide) rfl ?_
  refine r_iconst hC (x := 0) (q := 9) dX0_clear_8 (by decide) rfl ?_
  refine r_iconst hC (x := 0) (q := 10) dX0_clear_9 (by decide) rfl ?_
  refine r_cVI hC (q := 13) (n := 4) (As := [_, _, _, _]) (fun l => c_X0_terminate l hk) gX0_clear_X0_terminate rfl (by decide +kernel) ⟨by decide, by decide⟩ (ob_b hk) rfl rfl rfl rfl (Nat.le_of_ble_eq_true rfl) dX0_clear_10 rfl ?_
  rintro _ _ ⟨rfl, rfl⟩
  refine r_pop hC (q := 14) rfl dX0_clear_13 rfl ?_
  exact hR _ _ _ dX0_clear_14 rfl
theorem c_X0_clear (l : Launch) {G : GG} {v : VV} {k : Nat}  (hk : isBk k) : MtV l G yX0_clear wsX0_clear 1 25 [.ref (G.1 k)] v (fun v' => v' = tm (u2 v k 5 0) k 2 0 0 0) := mt_void (by decide) rfl (by simp [Value.category]) (Nat.le_of_ble_eq_true rfl) rfl rfl (fun E hC hR => b_X0_clear hC hR hk)

set_option maxRecDepth 100000 in
set_option maxHeartbeats 4000000 in
theorem b_X0_append {E : TE} {G : GG} {v : VV} {k : Nat} {n : Nat} {o d a b e : Int32} (hC : Cx E G cX0_append RX0 7 wsX0_append 0 0) (hR : RtI E G cX0_append (fun r v' => r = nI n ∧ v' = ap v k n o d a b e)) (hk : isBk k) (hn : v k 5 = nI n) (h10 : n < 10) : Wv E G v 0 [some (.ref (G.1 k)), some (.int o), some (.int d), some (.int a), some (.int b), some (.int e), none] [] := by
  have i_X0 : ∀ w ∈ wsX00, w ∈ wsX0_append := by decide +kernel
  have l_9 : lnk E RX0 9 (TX0 0) := hC.fl (by decide +kernel)
  have l_15 : lnk E RX0 15 (TX0 1) := hC.fl (by decide +kernel)
  have l_18 : lnk E RX0 18 (TX0 2) := hC.fl (by decide +kernel)
  have l_21 : lnk E RX0 21 (TX0 3) := hC.fl (by decide +kernel)
  have l_24 : lnk E RX0 24 (TX0 4) := hC.fl (by decide +kernel)
  have l_27 : lnk E RX0 27 (TX0 5) := hC.fl (by decide +kernel)
  refine r_aload_n hC (q := 1) dX0_append_0 rfl rfl ?_
  refine g_X0 hC 5 i_X0 l_27 (by decide) (q := 4) dX0_append_1 hk rfl rfl ?_
  refine r_top (y := nI n) hn ?_
  refine r_bipush hC (x := 10) (q := 6) dX0_append_4 (by decide) rfl ?_
  refine r_icmp_ltN hC (q := 9) (t := 13) (b := 10) dX0_append_6 rfl rfl (by omega) (by omega) (by decide) rfl (fun h6 => ?_) (fun h6 => ?_)
  · skip
    refine r_aload_n hC (q := 14) dX0_append_13 rfl rfl ?_
    refine g_X0 hC 5 i_X0 l_27 (by decide) (q := 17) dX0_append_14 hk rfl rfl ?_
    refine r_top (y := nI n) hn ?_
    refine r_istore hC (q := 19) (L' := [_, _, _, _, _, _, _]) dX0_append_17 (Nat.le_of_ble_eq_true rfl) rfl rfl ?_
    refine r_aload_n hC (q := 20) dX0_append_19 rfl rfl ?_
    refine g_X0 hC 0 i_X0 l_9 (by decide) (q := 23) dX0_append_20 hk rfl rfl ?_
    refine r_iload hC (q := 25) dX0_append_23 rfl rfl ?_
    refine r_iload_n hC (q := 26) dX0_append_25 rfl rfl ?_
    refine r_isN hC (q := 27) dX0_append_26 (iA_b1 hk) rfl (by omega) rfl ?_
    refine r_aload_n hC (q := 28) dX0_append_27 rfl rfl ?_
    refine g_X0 hC 1 i_X0 l_15 (by decide) (q := 31) dX0_append_28 hk rfl rfl ?_
    refine r_iload hC (q := 33) dX0_append_31 rfl rfl ?_
    refine r_iload_n hC (q := 34) dX0_append_33 rfl rfl ?_
    refine r_isN hC (q := 35) dX0_append_34 (iA_b2 hk) rfl (by omega) rfl ?_
    refine r_aload_n hC (q := 36) dX0_append_35 rfl rfl ?_
    refine g_X0 hC 2 i_X0 l_18 (by decide) (q := 39) dX0_append_36 hk rfl rfl ?_
    refine r_iload hC (q := 41) dX0_append_39 rfl rfl ?_
    refine r_iload_n hC (q := 42) dX0_append_41 rfl rfl ?_
    refine r_isN hC (q := 43) dX0_append_42 (iA_b3 hk) rfl (by omega) rfl ?_
    refine r_aload_n hC (q := 44) dX0_append_43 rfl rfl ?_
    refine g_X0 hC 3 i_X0 l_21 (by decide) (q := 47) dX0_append_44 hk rfl rfl ?_
    refine r_iload hC (q := 49) dX0_append_47 rfl rfl ?_
    refine r_iload hC (q := 51) dX0_append_49 rfl rfl ?_
    refine r_isN hC (q := 52) dX0_append_51 (iA_b4 hk) rfl (by omega) rfl ?_
    refine r_aload_n hC (q := 53) dX0_append_52 rfl rfl ?_
    refine g_X0 hC 4 i_X0 l_24 (by decide) (q := 56) dX0_append_53 hk rfl rfl ?_
    refine r_iload hC (q := 58) dX0_append_56 rfl rfl ?_
    refine r_iload hC (q := 60) dX0_append_58 rfl rfl ?_
    refine r_isN hC (q := 61) dX0_append_60 (iA_b5 hk) rfl (by omega) rfl ?_
    refine r_aload_n hC (q := 62) dX0_append_61 rfl rfl ?_
    refine r_dup hC (q := 63) rfl dX0_append_62 rfl ?_
    refine g_X0 hC 5 i_X0 l_27 (by decide) (q := 66) dX0_append_63 hk rfl rfl ?_
    refine r_top (y := nI n) (by simp [va_up, hn]) ?_
    refine r_iconst hC (x := 1) (q := 67) dX0_append_66 (by decide) rfl ?_
    refine r_iaddN hC (q := 68) (b := 1) dX0_append_67 rfl rfl rfl ?_
    refine p_X0_5 hC i_X0 l_27 (q := 71) dX0_append_68 hk rfl ?_
    refine r_iload hC (q := 73) dX0_append_71 rfl rfl ?_
    exact hR _ _ _ _ dX0_append_73 ⟨rfl, rfl⟩
  · skip
    omega
theorem c_X0_append (l : Launch) {G : GG} {v : VV} {k : Nat} {n : Nat} {o d a b e : Int32} (hk : isBk k) (hn : v k 5 = nI n) (h10 : n < 10) : MtI l G yX0_append wsX0_append 0 0 [.ref (G.1 k), .int o, .int d, .int a, .int b, .int e] v (fun r v' => r = nI n ∧ v' = ap v k n o d a b e) := mt_int (Or.inl rfl) (by decide) rfl (by simp [Value.category]) (Nat.le_of_ble_eq_true rfl) rfl rfl (fun E hC hR => b_X0_append hC hR hk hn h10)

set_option maxRecDepth 100000 in
set_option maxHeartbeats 4000000 in
theorem b_X0_appendF {E : TE} {G : GG} {v : VV} {k : Nat} {o d a b e : Int32} (hC : Cx E G cX0_append RX0 7 wsX0_append 0 0) (hR : RtI E G cX0_append (fun r v' => r = -1004 ∧ v = v')) (hk : isBk k) (hn : v k 5 = nI 10) : Wv E G v 0 [some (.ref (G.1 k)), some (.int o), some (.int d), some (.int a), some (.int b), some (.int e), none] [] := by
  have i_X0 : ∀ w ∈ wsX00, w ∈ wsX0_append := by decide +kernel
  have l_27 : lnk E RX0 27 (TX0 5) := hC.fl (by decide +kernel)
  refine r_aload_n hC (q := 1) dX0_append_0 rfl rfl ?_
  refine g_X0 hC 5 i_X0 l_27 (by decide) (q := 4) dX0_append_1 hk rfl rfl ?_
  refine r_top (y := nI 10) hn ?_
  refine r_bipush hC (x := 10) (q := 6) dX0_append_4 (by decide) rfl ?_
  refine r_icmp_ltN hC (q := 9) (t := 13) (b := 10) dX0_append_6 rfl rfl (by omega) (by omega) (by decide) rfl (fun h6 => ?_) (fun h6 => ?_)
  · skip
    omega
  · skip
    refine r_sipush hC (x := (-1004)) (q := 12) dX0_append_9 (by decide) rfl ?_
    exact hR _ _ _ _ dX0_append_12 ⟨rfl, rfl⟩
theorem c_X0_appendF (l : Launch) {G : GG} {v : VV} {k : Nat} {o d a b e : Int32} (hk : isBk k) (hn : v k 5 = nI 10) : MtI l G yX0_append wsX0_append 0 0 [.ref (G.1 k), .int o, .int d, .int a, .int b, .int e] v (fun r v' => r = -1004 ∧ v = v') := mt_int (Or.inl rfl) (by decide) rfl (by simp [Value.category]) (Nat.le_of_ble_eq_true rfl) rfl rfl (fun E hC hR => b_X0_appendF hC hR hk hn)

def apL (k k2 : Nat) : Nat → Nat → Nat → VV → VV
  | 0, _, _, v => v
  | f + 1, n, i, v => apL k k2 f (n + 1) (i + 1) (ap v k n (v (k2 + 1) i) (v (k2 + 2) i) (v (k2 + 3) i) (v (k2 + 4) i) (v (k2 + 5) i))
def apE (v : VV) (k k2 : Nat) : VV := tm v k (v k2 6) (v (k2 + 6) 0) (v (k2 + 6) 1) (v (k2 + 6) 2)
/-- the last m of the n2 instructions of k2 come behind the n of k, with the terminator -/
def apT (v : VV) (k k2 n n2 m : Nat) : VV := apE (apL k k2 m n (n2 - m) v) k k2

set_option maxRecDepth 100000 in
set_option maxHeartbeats 4000000 in
theorem lp_X0_appendTail {E : TE} {G : GG} {k k2 n2 : Nat} {x : Int32} {post : VV → Prop} (hC : Cx E G cX0_appendTail RX0 4 wsX0_appendTail 1 26) (hR : RtV E G cX0_appendTail post) (hk : isBk k) (hk2 : isBk k2) (hne : k ≠ k2) (h2 : n2 ≤ 10) : ∀ (f n i : Nat) (v : VV), i + f = n2 → n + f ≤ 10 → v k2 5 = nI n2 → v k 5 = nI n → post (apE (apL k k2 f n i v) k k2) → Wv E G v 7 [some (.ref (G.1 k)), some (.ref (G.1 k2)), some (.int x), some (.int (nI i))] [] := by
  have hs := isBk_sep hk hk2 hne
  intro f
  induction f with
  | zero =>
    intro n i v hif hnf hn2 hn hpost
    have i_X0 : ∀ w ∈ wsX00, w ∈ wsX0_appendTail := by decide +kernel
    have l_27 : lnk E RX0 27 (TX0 5) := hC.fl (by decide +kernel)
    have l_31 : lnk E RX0 31 (TX0 6) := hC.fl (by decide +kernel)
    have l_34 : lnk E RX0 34 (TX0 7) := hC.fl (by decide +kernel)
    refine r_iload_n hC (q := 8) dX0_appendTail_7 rfl rfl ?_
    refine r_aload_n hC (q := 9) dX0_appendTail_8 rfl rfl ?_
    refine g_X0 hC 5 i_X0 l_27 (by decide) (q := 12) dX0_appendTail_9 hk2 rfl rfl ?_
    refine r_top (y := nI n2) hn2 ?_
    refine r_icmp_geN hC (q := 15) (t := 56) dX0_appendTail_12 rfl rfl (by omega) (by omega) (by decide) rfl (fun h12 => ?_) (fun h12 => ?_)
    · skip
      refine r_aload_n hC (q := 57) dX0_appendTail_56 rfl rfl ?_
      refine r_aload_n hC (q := 58) dX0_appendTail_57 rfl rfl ?_
      refine g_X0 hC 6 i_X0 l_31 (by decide) (q := 61) dX0_appendTail_58 hk2 rfl rfl ?_
      refine r_aload_n hC (q := 62) dX0_appendTail_61 rfl rfl ?_
      refine g_X0 hC 7 i_X0 l_34 (by decide) (q := 65) dX0_appendTail_62 hk2 rfl rfl ?_
      refine r_iconst hC (x := 0) (q := 66) dX0_appendTail_65 (by decide) rfl ?_
      refine r_iaN hC (q := 67) (i := 0) dX0_appendTail_66 (iA_b6 hk2) rfl (by omega) rfl ?_
      refine r_aload_n hC (q := 68) dX0_appendTail_67 rfl rfl ?_
      refine g_X0 hC 7 i_X0 l_34 (by decide) (q := 71) dX0_appendTail_68 hk2 rfl rfl ?_
      refine r_iconst hC (x := 1) (q := 72) dX0_appendTail_71 (by decide) rfl ?_
      refine r_iaN hC (q := 73) (i := 1) dX0_appendTail_72 (iA_b6 hk2) rfl (by omega) rfl ?_
      refine r_aload_n hC (q := 74) dX0_appendTail_73 rfl rfl ?_
      refine g_X0 hC 7 i_X0 l_34 (by decide) (q := 77) dX0_appendTail_74 hk2 rfl rfl ?_
      refine r_iconst hC (x := 2) (q := 78) dX0_appendTail_77 (by decide) rfl ?_
      refine r_iaN hC (q := 79) (i := 2) dX0_appendTail_78 (iA_b6 hk2) rfl (by omega) rfl ?_
      refine r_cVI hC (q := 82) (n := 4) (As := [_, _, _, _]) (fun l => c_X0_terminate l hk) gX0_appendTail_X0_terminate rfl (by decide +kernel) ⟨by decide, by decide⟩ (ob_b hk) rfl rfl rfl rfl (Nat.le_of_ble_eq_true rfl) dX0_appendTail_79 rfl ?_
      rintro _ _ ⟨rfl, rfl⟩
      refine r_pop hC (q := 83) rfl dX0_appendTail_82 rfl ?_
      exact hR _ _ _ dX0_appendTail_83 hpost
    · skip
      omega
  | succ f ih =>
    intro n i v hif hnf hn2 hn hpost
    have i_X0 : ∀ w ∈ wsX00, w ∈ wsX0_appendTail := by decide +kernel
    have l_9 : lnk E RX0 9 (TX0 0) := hC.fl (by decide +kernel)
    have l_15 : lnk E RX0 15 (TX0 1) := hC.fl (by decide +kernel)
    have l_18 : lnk E RX0 18 (TX0 2) := hC.fl (by decide +kernel)
    have l_21 : lnk E RX0 21 (TX0 3) := hC.fl (by decide +kernel)
    have l_24 : lnk E RX0 24 (TX0 4) := hC.fl (by decide +kernel)
    have l_27 : lnk E RX0 27 (TX0 5) := hC.fl (by decide +kernel)
    refine r_iload_n hC (q := 8) dX0_appendTail_7 rfl rfl ?_
    refine r_aload_n hC (q := 9) dX0_appendTail_8 rfl rfl ?_
    refine g_X0 hC 5 i_X0 l_27 (by decide) (q := 12) dX0_appendTail_9 hk2 rfl rfl ?_
    refine r_top (y := nI n2) hn2 ?_
    refine r_icmp_geN hC (q := 15) (t := 56) dX0_appendTail_12 rfl rfl (by omega) (by omega) (by decide) rfl (fun h12 => ?_) (fun h12 => ?_)
    · skip
      omega
    · skip
      refine r_aload_n hC (q := 16) dX0_appendTail_15 rfl rfl ?_
      refine r_aload_n hC (q := 17) dX0_appendTail_16 rfl rfl ?_
      refine g_X0 hC 0 i_X0 l_9 (by decide) (q := 20) dX0_appendTail_17 hk2 rfl rfl ?_
      refine r_iload_n hC (q := 21) dX0_appendTail_20 rfl rfl ?_
      refine r_iaN hC (q := 22) dX0_appendTail_21 (iA_b1 hk2) rfl (by omega) rfl ?_
      refine r_aload_n hC (q := 23) dX0_appendTail_22 rfl rfl ?_
      refine g_X0 hC 1 i_X0 l_15 (by decide) (q := 26) dX0_appendTail_23 hk2 rfl rfl ?_
      refine r_iload_n hC (q := 27) dX0_appendTail_26 rfl rfl ?_
      refine r_iaN hC (q := 28) dX0_appendTail_27 (iA_b2 hk2) rfl (by omega) rfl ?_
      refine r_aload_n hC (q := 29) dX0_appendTail_28 rfl rfl ?_
      refine g_X0 hC 2 i_X0 l_18 (by decide) (q := 32) dX0_appendTail_29 hk2 rfl rfl ?_
      refine r_iload_n hC (q := 33) dX0_appendTail_32 rfl rfl ?_
      refine r_iaN hC (q := 34) dX0_appendTail_33 (iA_b3 hk2) rfl (by omega) rfl ?_
      refine r_aload_n hC (q := 35) dX0_appendTail_34 rfl rfl ?_
      refine g_X0 hC 3 i_X0 l_21 (by decide) (q := 38) dX0_appendTail_35 hk2 rfl rfl ?_
      refine r_iload_n hC (q := 39) dX0_appendTail_38 rfl rfl ?_
      refine r_iaN hC (q := 40) dX0_appendTail_39 (iA_b4 hk2) rfl (by omega) rfl ?_
      refine r_aload_n hC (q := 41) dX0_appendTail_40 rfl rfl ?_
      refine g_X0 hC 4 i_X0 l_24 (by decide) (q := 44) dX0_appendTail_41 hk2 rfl rfl ?_
      refine r_iload_n hC (q := 45) dX0_appendTail_44 rfl rfl ?_
      refine r_iaN hC (q := 46) dX0_appendTail_45 (iA_b5 hk2) rfl (by omega) rfl ?_
      refine r_cVI hC (q := 49) (n := 5) (As := [_, _, _, _, _]) (fun l => c_X0_append l hk hn (by omega)) gX0_appendTail_X0_append rfl (by decide +kernel) ⟨by decide, by decide⟩ (ob_b hk) rfl rfl rfl rfl (Nat.le_of_ble_eq_true rfl) dX0_appendTail_46 rfl ?_
      rintro _ _ ⟨rfl, rfl⟩
      refine r_pop hC (q := 50) rfl dX0_appendTail_49 rfl ?_
      refine r_iincN hC (q := 53) (L' := [_, _, _, _]) (c := 1) dX0_appendTail_50 rfl rfl rfl rfl rfl ?_
      refine r_goto hC (t := 7) dX0_appendTail_53 (by decide) ?_
      exact ih (n + 1) (i + 1) _ (by omega) (by omega) (by rw [ap_far (by omega)]; exact hn2) ap_cnt hpost

set_option maxRecDepth 100000 in
set_option maxHeartbeats 4000000 in
theorem b_X0_appendTail {E : TE} {G : GG} {v : VV} {k : Nat} {k2 n n2 m : Nat} (hC : Cx E G cX0_appendTail RX0 4 wsX0_appendTail 1 26) (hR : RtV E G cX0_appendTail (fun v' => v' = apT v k k2 n n2 m)) (hk : isBk k) (hk2 : isBk k2) (hne : k ≠ k2) (hn : v k 5 = nI n) (hn2 : v k2 5 = nI n2) (h2 : n2 ≤ 10) (hm : m ≤ n2) (hnm : n + m ≤ 10) : Wv E G v 0 [some (.ref (G.1 k)), some (.ref (G.1 k2)), some (.int (nI m)), none] [] := by
  have i_X0 : ∀ w ∈ wsX00, w ∈ wsX0_appendTail := by decide +kernel
  have l_27 : lnk E RX0 27 (TX0 5) := hC.fl (by decide +kernel)
  refine r_aload_n hC (q := 1) dX0_appendTail_0 rfl rfl ?_
  refine g_X0 hC 5 i_X0 l_27 (by decide) (q := 4) dX0_appendTail_1 hk2 rfl rfl ?_
  refine r_top (y := nI n2) hn2 ?_
  refine r_iload_n hC (q := 5) dX0_appendTail_4 rfl rfl ?_
  refine r_isubN hC (q := 6) dX0_appendTail_5 rfl rfl (by omega) rfl ?_
  refine r_istore_n hC (q := 7) (L' := [_, _, _, _]) dX0_appendTail_6 (Nat.le_of_ble_eq_true rfl) rfl rfl ?_
  exact lp_X0_appendTail hC hR hk hk2 hne h2 m n (n2 - m) v (by omega) hnm hn2 hn rfl
theorem c_X0_appendTail (l : Launch) {G : GG} {v : VV} {k : Nat} {k2 n n2 m : Nat} (hk : isBk k) (hk2 : isBk k2) (hne : k ≠ k2) (hn : v k 5 = nI n) (hn2 : v k2 5 = nI n2) (h2 : n2 ≤ 10) (hm : m ≤ n2) (hnm : n + m ≤ 10) : MtV l G yX0_appendTail wsX0_appendTail 1 26 [.ref (G.1 k), .ref (G.1 k2), .int (nI m)] v (fun v' => v' = apT v k k2 n n2 m) := mt_void (by decide) rfl (by simp [Value.category]) (Nat.le_of_ble_eq_true rfl) rfl rfl (fun E hC hR => b_X0_appendTail hC hR hk hk2 hne hn hn2 h2 hm hnm)

set_option maxRecDepth 100000 in
set_option maxHeartbeats 4000000 in
theorem b_X0_copyFrom {E : TE} {G : GG} {v : VV} {k : Nat} {k2 n2 : Nat} (hC : Cx E G cX0_copyFrom RX0 2 wsX0_copyFrom 2 49) (hR : RtV E G cX0_copyFrom (fun v' => v' = apT (u2 v k 5 0) k k2 0 n2 n2)) (hk : isBk k) (hk2 : isBk k2) (hne : k ≠ k2) (hn2 : v k2 5 = nI n2) (h2 : n2 ≤ 10) : Wv E G v 0 [some (.ref (G.1 k)), some (.ref (G.1 k2))] [] := by
  have i_X0 : ∀ w ∈ wsX00, w ∈ wsX0_copyFrom := by decide +kernel
  have l_27 : lnk E RX0 27 (TX0 5) := hC.fl (by decide +kernel)
  refine r_aload_n hC (q := 1) dX0_copyFrom_0 rfl rfl ?_
  refine r_iconst hC (x := 0) (q := 2) dX0_copyFrom_1 (by decide) rfl ?_
  refine p_X0_5 hC i_X0 l_27 (q := 5) dX0_copyFrom_2 hk rfl ?_
  refine r_aload_n hC (q := 6) dX0_copyFrom_5 rfl rfl ?_
  refine r_aload_n hC (q := 7) dX0_copyFrom_6 rfl rfl ?_
  refine r_aload_n hC (q := 8) dX0_copyFrom_7 rfl rfl ?_
  refine g_X0 hC 5 i_X0 l_27 (by decide) (q := 11) dX0_copyFrom_8 hk2 rfl rfl ?_
  refine r_top (y := nI n2) (by rw [va_up_ne _ _ hne.symm]; exact hn2) ?_
  refine r_cVV hC (q := 14) (n := 2) (As := [_, _]) (fun l => c_X0_appendTail l hk hk2 hne (n := 0) (n2 := n2) (by simp [va_up, upd]; rfl) (by rw [va_up_ne _ _ hne.symm]; exact hn2) h2 (Nat.le_refl _) (by omega)) gX0_copyFrom_X0_appendTail rfl (by decide +kernel) ⟨by decide, by decide⟩ (ob_b hk) rfl rfl rfl rfl (Nat.le_of_ble_eq_true rfl) dX0_copyFrom_11 rfl ?_
  rintro _ rfl
  exact hR _ _ _ dX0_copyFrom_14 rfl
theorem c_X0_copyFrom (l : Launch) {G : GG} {v : VV} {k : Nat} {k2 n2 : Nat} (hk : isBk k) (hk2 : isBk k2) (hne : k ≠ k2) (hn2 : v k2 5 = nI n2) (h2 : n2 ≤ 10) : MtV l G yX0_copyFrom wsX0_copyFrom 2 49 [.ref (G.1 k), .ref (G.1 k2)] v (fun v' => v' = apT (u2 v k 5 0) k k2 0 n2 n2) := mt_void (by decide) rfl (by simp [Value.category]) (Nat.le_of_ble_eq_true rfl) rfl rfl (fun E hC hR => b_X0_copyFrom hC hR hk hk2 hne hn2 h2)

def unF (k k2 n n2 : Nat) : Nat → Nat → VV → VV
  | 0, _, v => v
  | f + 1, b, v => unF k k2 n n2 f (b + 1) (u2 v (k + 5) (n - b) (v (k + 5) (n - b) ||| v (k2 + 5) (n2 - b)))

set_option maxRecDepth 100000 in
set_option maxHeartbeats 4000000 in
theorem lp_X0_uniteLines {E : TE} {G : GG} {k k2 n n2 m : Nat} {post : VV → Prop} (hC : Cx E G cX0_uniteLines RX0 4 wsX0_uniteLines 0 0) (hR : RtV E G cX0_uniteLines post) (hk : isBk k) (hk2 : isBk k2) (hne : k ≠ k2) (h1 : n ≤ 10) (h2 : n2 ≤ 10) (hm1 : m ≤ n) (hm2 : m ≤ n2) : ∀ (f b : Nat) (v : VV), b + f = m + 1 → 1 ≤ b → v k 5 = nI n → v k2 5 = nI n2 → post (unF k k2 n n2 f b v) → Wv E G v 2 [some (.ref (G.1 k)), some (.ref (G.1 k2)), some (.int (nI m)), some (.int (nI b))] [] := by
  have hs := isBk_sep hk hk2 hne
  intro f
  induction f with
  | zero =>
    intro b v hbf hb1 hn hn2 hpost
    refine r_iload_n hC (q := 3) dX0_uniteLines_2 rfl rfl ?_
    refine r_iload_n hC (q := 4) dX0_uniteLines_3 rfl rfl ?_
    refine r_icmp_gtN hC (q := 7) (t := 38) dX0_uniteLines_4 rfl rfl (by omega) (by omega) (by decide) rfl (fun h4 => ?_) (fun h4 => ?_)
    · skip
      exact hR _ _ _ dX0_uniteLines_38 hpost
    · skip
      omega
  | succ f ih =>
    intro b v hbf hb1 hn hn2 hpost
    have i_X0 : ∀ w ∈ wsX00, w ∈ wsX0_uniteLines := by decide +kernel
    have l_24 : lnk E RX0 24 (TX0 4) := hC.fl (by decide +kernel)
    have l_27 : lnk E RX0 27 (TX0 5) := hC.fl (by decide +kernel)
    refine r_iload_n hC (q := 3) dX0_uniteLines_2 rfl rfl ?_
    refine r_iload_n hC (q := 4) dX0_uniteLines_3 rfl rfl ?_
    refine r_icmp_gtN hC (q := 7) (t := 38) dX0_uniteLines_4 rfl rfl (by omega) (by omega) (by decide) rfl (fun h4 => ?_) (fun h4 => ?_)
    · skip
      omega
    · skip
      refine r_aload_n hC (q := 8) dX0_uniteLines_7 rfl rfl ?_
      refine g_X0 hC 4 i_X0 l_24 (by decide) (q := 11) dX0_uniteLines_8 hk rfl rfl ?_
      refine r_aload_n hC (q := 12) dX0_uniteLines_11 rfl rfl ?_
      refine g_X0 hC 5 i_X0 l_27 (by decide) (q := 15) dX0_uniteLines_12 hk rfl rfl ?_
      refine r_top (y := nI n) hn ?_
      refine r_iload_n hC (q := 16) dX0_uniteLines_15 rfl rfl ?_
      refine r_isubN hC (q := 17) dX0_uniteLines_16 rfl rfl (by omega) rfl ?_
      refine r_dup2 hC (q := 18) rfl rfl dX0_uniteLines_17 rfl ?_
      refine r_iaN hC (q := 19) dX0_uniteLines_18 (iA_b5 hk) rfl (by omega) rfl ?_
      refine r_aload_n hC (q := 20) dX0_uniteLines_19 rfl rfl ?_
      refine g_X0 hC 4 i_X0 l_24 (by decide) (q := 23) dX0_uniteLines_20 hk2 rfl rfl ?_
      refine r_aload_n hC (q := 24) dX0_uniteLines_23 rfl rfl ?_
      refine g_X0 hC 5 i_X0 l_27 (by decide) (q := 27) dX0_uniteLines_24 hk2 rfl rfl ?_
      refine r_top (y := nI n2) hn2 ?_
      refine r_iload_n hC (q := 28) dX0_uniteLines_27 rfl rfl ?_
      refine r_isubN hC (q := 29) dX0_uniteLines_28 rfl rfl (by omega) rfl ?_
      refine r_iaN hC (q := 30) dX0_uniteLines_29 (iA_b5 hk2) rfl (by omega) rfl ?_
      refine r_ior hC (q := 31) dX0_uniteLines_30 rfl ?_
      refine r_isN hC (q := 32) dX0_uniteLines_31 (iA_b5 hk) rfl (by omega) rfl ?_
      refine r_iincN hC (q := 35) (L' := [_, _, _, _]) (c := 1) dX0_uniteLines_32 rfl rfl rfl rfl rfl ?_
      refine r_goto hC (t := 2) dX0_uniteLines_35 (by decide) ?_
      exact ih (b + 1) _ (by omega) (by omega) (by rw [va_up_ne _ _ (by omega)]; exact hn) (by rw [va_up_ne _ _ (by omega)]; exact hn2) hpost

set_option maxRecDepth 100000 in
set_option maxHeartbeats 4000000 in
theorem b_X0_uniteLines {E : TE} {G : GG} {v : VV} {k : Nat} {k2 n n2 m : Nat} (hC : Cx E G cX0_uniteLines RX0 4 wsX0_uniteLines 0 0) (hR : RtV E G cX0_uniteLines (fun v' => v' = unF k k2 n n2 m 1 v)) (hk : isBk k) (hk2 : isBk k2) (hne : k ≠ k2) (hn : v k 5 = nI n) (hn2 : v k2 5 = nI n2) (h1 : n ≤ 10) (h2 : n2 ≤ 10) (hm1 : m ≤ n) (hm2 : m ≤ n2) : Wv E G v 0 [some (.ref (G.1 k)), some (.ref (G.1 k2)), some (.int (nI m)), none] [] := by
  refine r_iconst hC (x := 1) (q := 1) dX0_uniteLines_0 (by decide) rfl ?_
  refine r_istore_n hC (q := 2) (L' := [_, _, _, _]) dX0_uniteLines_1 (Nat.le_of_ble_eq_true rfl) rfl rfl ?_
  exact lp_X0_uniteLines hC hR hk hk2 hne h1 h2 hm1 hm2 m 1 v (by omega) (by omega) hn hn2 rfl
theorem c_X0_uniteLines (l : Launch) {G : GG} {v : VV} {k : Nat} {k2 n n2 m : Nat} (hk : isBk k) (hk2 : isBk k2) (hne : k ≠ k2) (hn : v k 5 = nI n) (hn2 : v k2 5 = nI n2) (h1 : n ≤ 10) (h2 : n2 ≤ 10) (hm1 : m ≤ n) (hm2 : m ≤ n2) : MtV l G yX0_uniteLines wsX0_uniteLines 0 0 [.ref (G.1 k), .ref (G.1 k2), .int (nI m)] v (fun v' => v' = unF k k2 n n2 m 1 v) := mt_void (by decide) rfl (by simp [Value.category]) (Nat.le_of_ble_eq_true rfl) rfl rfl (fun E hC hR => b_X0_uniteLines hC hR hk hk2 hne hn hn2 h1 h2 hm1 hm2)

def rpJ (v : VV) (k n m : Nat) (t : Int32) : VV := tm (u2 v k 5 (nI (n - m))) k 0 t 0 0
def rpP (v : VV) (k n m b : Nat) (t : Int32) : VV := ap (rpJ v k n m t) k (n - m) 0 7 (v (k + 3) (n - b)) 0 (v (k + 5) (n - b))
def tkP (v : VV) (k n b : Nat) : VV := u2 (u2 v (k + 1) (n - b) 1) (k + 3) (n - b) 7

set_option maxRecDepth 100000 in
set_option maxHeartbeats 4000000 in
theorem b_X0_replaceTailByJump {E : TE} {G : GG} {v : VV} {k : Nat} {n m : Nat} {t : Int32} (hC : Cx E G cX0_replaceTailByJump RX0 3 wsX0_replaceTailByJump 1 25) (hR : RtV E G cX0_replaceTailByJump (fun v' => v' = rpJ v k n m t)) (hk : isBk k) (hn : v k 5 = nI n) (hm : m ≤ n) : Wv E G v 0 [some (.ref (G.1 k)), some (.int (nI m)), some (.int t)] [] := by
  have i_X0 : ∀ w ∈ wsX00, w ∈ wsX0_replaceTailByJump := by decide +kernel
  have l_27 : lnk E RX0 27 (TX0 5) := hC.fl (by decide +kernel)
  refine r_aload_n hC (q := 1) dX0_replaceTailByJump_0 rfl rfl ?_
  refine r_dup hC (q := 2) rfl dX0_replaceTailByJump_1 rfl ?_
  refine g_X0 hC 5 i_X0 l_27 (by decide) (q := 5) dX0_replaceTailByJump_2 hk rfl rfl ?_
  refine r_top (y := nI n) hn ?_
  refine r_iload_n hC (q := 6) dX0_replaceTailByJump_5 rfl rfl ?_
  refine r_isubN hC (q := 7) dX0_replaceTailByJump_6 rfl rfl (by omega) rfl ?_
  refine p_X0_5 hC i_X0 l_27 (q := 10) dX0_replaceTailByJump_7 hk rfl ?_
  refine r_aload_n hC (q := 11) dX0_replaceTailByJump_10 rfl rfl ?_
  refine r_iconst hC (x := 0) (q := 12) dX0_replaceTailByJump_11 (by decide) rfl ?_
  refine r_iload_n hC (q := 13) dX0_replaceTailByJump_12 rfl rfl ?_
  refine r_iconst hC (x := 0) (q := 14) dX0_replaceTailByJump_13 (by decide) rfl ?_
  refine r_iconst hC (x := 0) (q := 15) dX0_replaceTailByJump_14 (by decide) rfl ?_
  refine r_cVI hC (q := 18) (n := 4) (As := [_, _, _, _]) (fun l => c_X0_terminate l hk) gX0_replaceTailByJump_X0_terminate rfl (by decide +kernel) ⟨by decide, by decide⟩ (ob_b hk) rfl rfl rfl rfl (Nat.le_of_ble_eq_true rfl) dX0_replaceTailByJump_15 rfl ?_
  rintro _ _ ⟨rfl, rfl⟩
  refine r_pop hC (q := 19) rfl dX0_replaceTailByJump_18 rfl ?_
  exact hR _ _ _ dX0_replaceTailByJump_19 rfl
theorem c_X0_replaceTailByJump (l : Launch) {G : GG} {v : VV} {k : Nat} {n m : Nat} {t : Int32} (hk : isBk k) (hn : v k 5 = nI n) (hm : m ≤ n) : MtV l G yX0_replaceTailByJump wsX0_replaceTailByJump 1 25 [.ref (G.1 k), .int (nI m), .int t] v (fun v' => v' = rpJ v k n m t) := mt_void (by decide) rfl (by simp [Value.category]) (Nat.le_of_ble_eq_true rfl) rfl rfl (fun E hC hR => b_X0_replaceTailByJump hC hR hk hn hm)

set_option maxRecDepth 100000 in
set_option maxHeartbeats 4000000 in
theorem b_X0_replaceTailByParameter {E : TE} {G : GG} {v : VV} {k : Nat} {n m b : Nat} {t : Int32} (hC : Cx E G cX0_replaceTailByParameter RX0 6 wsX0_replaceTailByParameter 2 47) (hR : RtV E G cX0_replaceTailByParameter (fun v' => v' = rpP v k n m b t)) (hk : isBk k) (hn : v k 5 = nI n) (h1 : n ≤ 10) (hm : m ≤ n) (hb : b ≤ m) (hb1 : 1 ≤ b) : Wv E G v 0 [some (.ref (G.1 k)), some (.int (nI m)), some (.int (nI b)), some (.int t), none, none] [] := by
  have i_X0 : ∀ w ∈ wsX00, w ∈ wsX0_replaceTailByParameter := by decide +kernel
  have l_18 : lnk E RX0 18 (TX0 2) := hC.fl (by decide +kernel)
  have l_24 : lnk E RX0 24 (TX0 4) := hC.fl (by decide +kernel)
  have l_27 : lnk E RX0 27 (TX0 5) := hC.fl (by decide +kernel)
  refine r_aload_n hC (q := 1) dX0_replaceTailByParameter_0 rfl rfl ?_
  refine g_X0 hC 2 i_X0 l_18 (by decide) (q := 4) dX0_replaceTailByParameter_1 hk rfl rfl ?_
  refine r_aload_n hC (q := 5) dX0_replaceTailByParameter_4 rfl rfl ?_
  refine g_X0 hC 5 i_X0 l_27 (by decide) (q := 8) dX0_replaceTailByParameter_5 hk rfl rfl ?_
  refine r_top (y := nI n) hn ?_
  refine r_iload_n hC (q := 9) dX0_replaceTailByParameter_8 rfl rfl ?_
  refine r_isubN hC (q := 10) dX0_replaceTailByParameter_9 rfl rfl (by omega) rfl ?_
  refine r_iaN hC (q := 11) dX0_replaceTailByParameter_10 (iA_b3 hk) rfl (by omega) rfl ?_
  refine r_istore hC (q := 13) (L' := [_, _, _, _, _, _]) dX0_replaceTailByParameter_11 (Nat.le_of_ble_eq_true rfl) rfl rfl ?_
  refine r_aload_n hC (q := 14) dX0_replaceTailByParameter_13 rfl rfl ?_
  refine g_X0 hC 4 i_X0 l_24 (by decide) (q := 17) dX0_replaceTailByParameter_14 hk rfl rfl ?_
  refine r_aload_n hC (q := 18) dX0_replaceTailByParameter_17 rfl rfl ?_
  refine g_X0 hC 5 i_X0 l_27 (by decide) (q := 21) dX0_replaceTailByParameter_18 hk rfl rfl ?_
  refine r_top (y := nI n) hn ?_
  refine r_iload_n hC (q := 22) dX0_replaceTailByParameter_21 rfl rfl ?_
  refine r_isubN hC (q := 23) dX0_replaceTailByParameter_22 rfl rfl (by omega) rfl ?_
  refine r_iaN hC (q := 24) dX0_replaceTailByParameter_23 (iA_b5 hk) rfl (by omega) rfl ?_
  refine r_istore hC (q := 26) (L' := [_, _, _, _, _, _]) dX0_replaceTailByParameter_24 (Nat.le_of_ble_eq_true rfl) rfl rfl ?_
  refine r_aload_n hC (q := 27) dX0_replaceTailByParameter_26 rfl rfl ?_
  refine r_iload_n hC (q := 28) dX0_replaceTailByParameter_27 rfl rfl ?_
  refine r_iload_n hC (q := 29) dX0_replaceTailByParameter_28 rfl rfl ?_
  refine r_cVV hC (q := 32) (n := 2) (As := [_, _]) (fun l => c_X0_replaceTailByJump l hk hn hm) gX0_replaceTailByParameter_X0_replaceTailByJump rfl (by decide +kernel) ⟨by decide, by decide⟩ (ob_b hk) rfl rfl rfl rfl (Nat.le_of_ble_eq_true rfl) dX0_replaceTailByParameter_29 rfl ?_
  rintro _ rfl
  refine r_aload_n hC (q := 33) dX0_replaceTailByParameter_32 rfl rfl ?_
  refine r_iconst hC (x := 0) (q := 34) dX0_replaceTailByParameter_33 (by decide) rfl ?_
  refine r_bipush hC (x := 7) (q := 36) dX0_replaceTailByParameter_34 (by decide) rfl ?_
  refine r_iload hC (q := 38) dX0_replaceTailByParameter_36 rfl rfl ?_
  refine r_iconst hC (x := 0) (q := 39) dX0_replaceTailByParameter_38 (by decide) rfl ?_
  refine r_iload hC (q := 41) dX0_replaceTailByParameter_39 rfl rfl ?_
  refine r_cVI hC (q := 44) (n := 5) (As := [_, _, _, _, _]) (fun l => c_X0_append l hk (n := n - m) (by simp [rpJ, tm, va_up, upd]) (by omega)) gX0_replaceTailByParameter_X0_append rfl (by decide +kernel) ⟨by decide, by decide⟩ (ob_b hk) rfl rfl rfl rfl (Nat.le_of_ble_eq_true rfl) dX0_replaceTailByParameter_41 rfl ?_
  rintro _ _ ⟨rfl, rfl⟩
  refine r_pop hC (q := 45) rfl dX0_replaceTailByParameter_44 rfl ?_
  exact hR _ _ _ dX0_replaceTailByParameter_45 rfl
theorem c_X0_replaceTailByParameter (l : Launch) {G : GG} {v : VV} {k : Nat} {n m b : Nat} {t : Int32} (hk : isBk k) (hn : v k 5 = nI n) (h1 : n ≤ 10) (hm : m ≤ n) (hb : b ≤ m) (hb1 : 1 ≤ b) : MtV l G yX0_replaceTailByParameter wsX0_replaceTailByParameter 2 47 [.ref (G.1 k), .int (nI m), .int (nI b), .int t] v (fun v' => v' = rpP v k n m b t) := mt_void (by decide) rfl (by simp [Value.category]) (Nat.le_of_ble_eq_true rfl) rfl rfl (fun E hC hR => b_X0_replaceTailByParameter hC hR hk hn h1 hm hb hb1)

set_option maxRecDepth 100000 in
set_option maxHeartbeats 4000000 in
theorem b_X0_takeParameterAt {E : TE} {G : GG} {v : VV} {k : Nat} {n b : Nat} (hC : Cx E G cX0_takeParameterAt RX0 2 wsX0_takeParameterAt 0 0) (hR : RtV E G cX0_takeParameterAt (fun v' => v' = tkP v k n b)) (hk : isBk k) (hn : v k 5 = nI n) (h1 : n ≤ 10) (hb : b ≤ n) (hb1 : 1 ≤ b) : Wv E G v 0 [some (.ref (G.1 k)), some (.int (nI b))] [] := by
  have i_X0 : ∀ w ∈ wsX00, w ∈ wsX0_takeParameterAt := by decide +kernel
  have l_9 : lnk E RX0 9 (TX0 0) := hC.fl (by decide +kernel)
  have l_18 : lnk E RX0 18 (TX0 2) := hC.fl (by decide +kernel)
  have l_27 : lnk E RX0 27 (TX0 5) := hC.fl (by decide +kernel)
  refine r_aload_n hC (q := 1) dX0_takeParameterAt_0 rfl rfl ?_
  refine g_X0 hC 0 i_X0 l_9 (by decide) (q := 4) dX0_takeParameterAt_1 hk rfl rfl ?_
  refine r_aload_n hC (q := 5) dX0_takeParameterAt_4 rfl rfl ?_
  refine g_X0 hC 5 i_X0 l_27 (by decide) (q := 8) dX0_takeParameterAt_5 hk rfl rfl ?_
  refine r_top (y := nI n) hn ?_
  refine r_iload_n hC (q := 9) dX0_takeParameterAt_8 rfl rfl ?_
  refine r_isubN hC (q := 10) dX0_takeParameterAt_9 rfl rfl (by omega) rfl ?_
  refine r_iconst hC (x := 1) (q := 11) dX0_takeParameterAt_10 (by decide) rfl ?_
  refine r_isN hC (q := 12) dX0_takeParameterAt_11 (iA_b1 hk) rfl (by omega) rfl ?_
  refine r_aload_n hC (q := 13) dX0_takeParameterAt_12 rfl rfl ?_
  refine g_X0 hC 2 i_X0 l_18 (by decide) (q := 16) dX0_takeParameterAt_13 hk rfl rfl ?_
  refine r_aload_n hC (q := 17) dX0_takeParameterAt_16 rfl rfl ?_
  refine g_X0 hC 5 i_X0 l_27 (by decide) (q := 20) dX0_takeParameterAt_17 hk rfl rfl ?_
  refine r_top (y := nI n) (by rw [va_up_ne _ _ (by omega)]; exact hn) ?_
  refine r_iload_n hC (q := 21) dX0_takeParameterAt_20 rfl rfl ?_
  refine r_isubN hC (q := 22) dX0_takeParameterAt_21 rfl rfl (by omega) rfl ?_
  refine r_bipush hC (x := 7) (q := 24) dX0_takeParameterAt_22 (by decide) rfl ?_
  refine r_isN hC (q := 25) dX0_takeParameterAt_24 (iA_b3 hk) rfl (by omega) rfl ?_
  exact hR _ _ _ dX0_takeParameterAt_25 rfl
theorem c_X0_takeParameterAt (l : Launch) {G : GG} {v : VV} {k : Nat} {n b : Nat} (hk : isBk k) (hn : v k 5 = nI n) (h1 : n ≤ 10) (hb : b ≤ n) (hb1 : 1 ≤ b) : MtV l G yX0_takeParameterAt wsX0_takeParameterAt 0 0 [.ref (G.1 k), .int (nI b)] v (fun v' => v' = tkP v k n b) := mt_void (by decide) rfl (by simp [Value.category]) (Nat.le_of_ble_eq_true rfl) rfl rfl (fun E hC hR => b_X0_takeParameterAt hC hR hk hn h1 hb hb1)
end
section
/-! a block as it is read: number of instructions, their fields (0 opcode, 1 d, 2 a, 3 b, 4 lines), the terminator (kind and operands) -/
abbrev Bv : Type := Nat × (Nat → Nat → Int32) × (Nat → Int32)
def bw (v : VV) (k n : Nat) : Bv := (n, fun c i => v (k + (1 + c)) i, fun j => if j = 0 then v k 6 else v (k + 6) (j - 1))
def eqA (x y : Bv) (b : Nat) : Prop := x.2.1 0 (x.1 - b) = y.2.1 0 (y.1 - b) ∧ x.2.1 1 (x.1 - b) = y.2.1 1 (y.1 - b) ∧ x.2.1 2 (x.1 - b) = y.2.1 2 (y.1 - b) ∧ x.2.1 3 (x.1 - b) = y.2.1 3 (y.1 - b)
def eqT (x y : Bv) : Prop := x.2.2 0 = y.2.2 0 ∧ x.2.2 1 = y.2.2 1 ∧ x.2.2 2 = y.2.2 2 ∧ x.2.2 3 = y.2.2 3
def sct (x y : Bv) (b : Nat) : Prop := x.2.1 0 (x.1 - b) = 0 ∧ y.2.1 0 (y.1 - b) = 0 ∧ x.2.1 1 (x.1 - b) = y.2.1 1 (y.1 - b)
def us7 (x : Bv) (b : Nat) : Prop := x.2.1 1 (x.1 - b) = 7 ∨ x.2.1 3 (x.1 - b) = 7 ∨ (x.2.1 2 (x.1 - b) = 7 ∧ ¬ x.2.1 0 (x.1 - b) = 0)
def eqAd (x y : Bv) (b : Nat) : Decidable (eqA x y b) := by unfold eqA; exact inferInstance
def eqTd (x y : Bv) : Decidable (eqT x y) := by unfold eqT; exact inferInstance
def sctd (x y : Bv) (b : Nat) : Decidable (sct x y b) := by unfold sct; exact inferInstance
def us7d (x : Bv) (b : Nat) : Decidable (us7 x b) := by unfold us7; exact inferInstance
/-- the same as numbers -/
def eqAb (x y : Bv) (b : Nat) : Bool := @decide (eqA x y b) (eqAd x y b)
def eqTb (x y : Bv) : Bool := @decide (eqT x y) (eqTd x y)
def sctb (x y : Bv) (b : Nat) : Bool := @decide (sct x y b) (sctd x y b)
def us7b (x : Bv) (b : Nat) : Bool := @decide (us7 x b) (us7d x b)
theorem eqAb_iff {x y : Bv} {b : Nat} : eqAb x y b = true ↔ eqA x y b := @decide_eq_true_iff _ (eqAd x y b)
theorem eqTb_iff {x y : Bv} : eqTb x y = true ↔ eqT x y := @decide_eq_true_iff _ (eqTd x y)
theorem sctb_iff {x y : Bv} {b : Nat} : sctb x y b = true ↔ sct x y b := @decide_eq_true_iff _ (sctd x y b)
theorem us7b_iff {x : Bv} {b : Nat} : us7b x b = true ↔ us7 x b := @decide_eq_true_iff _ (us7d x b)
/-- a boolean as an int -/
abbrev bI (c : Bool) : Int32 := if c = true then 1 else 0
theorem bI_t {c : Bool} {p : Prop} (h : c = true ↔ p) (hp : p) : (1 : Int32) = bI c := by rw [bI, if_pos (h.mpr hp)]
theorem bI_f {c : Bool} {p : Prop} (h : c = true ↔ p) (hp : ¬ p) : (0 : Int32) = bI c := by rw [bI, if_neg (fun e => hp (h.mp e))]

set_option maxRecDepth 100000 in
set_option maxHeartbeats 4000000 in
theorem b_X0_hasTerminatorOf {E : TE} {G : GG} {v : VV} {k : Nat} {k2 n n2 : Nat} (hC : Cx E G cX0_hasTerminatorOf RX0 2 wsX0_hasTerminatorOf 0 0) (hR : RtI E G cX0_hasTerminatorOf (fun r v' => r = bI (eqTb (bw v k n) (bw v k2 n2)) ∧ v = v')) (hk : isBk k) (hk2 : isBk k2) : Wv E G v 0 [some (.ref (G.1 k)), some (.ref (G.1 k2))] [] := by
  have i_X0 : ∀ w ∈ wsX00, w ∈ wsX0_hasTerminatorOf := by decide +kernel
  have l_31 : lnk E RX0 31 (TX0 6) := hC.fl (by decide +kernel)
  have l_34 : lnk E RX0 34 (TX0 7) := hC.fl (by decide +kernel)
  refine r_aload_n hC (q := 1) dX0_hasTerminatorOf_0 rfl rfl ?_
  refine g_X0 hC 6 i_X0 l_31 (by decide) (q := 4) dX0_hasTerminatorOf_1 hk rfl rfl ?_
  refine r_aload_n hC (q := 5) dX0_hasTerminatorOf_4 rfl rfl ?_
  refine g_X0 hC 6 i_X0 l_31 (by decide) (q := 8) dX0_hasTerminatorOf_5 hk2 rfl rfl ?_
  refine r_icmp_ne hC (q := 11) (t := 60) dX0_hasTerminatorOf_8 (by decide) rfl (fun h8 => ?_) (fun h8 => ?_)
  · skip
    refine r_iconst hC (x := 0) (q := 61) dX0_hasTerminatorOf_60 (by decide) rfl ?_
    exact hR _ _ _ _ dX0_hasTerminatorOf_61 ⟨by first | exact bI_t eqTb_iff (by simp [eqT, bw, h8]) | exact bI_f eqTb_iff (by simp [eqT, bw, h8]), rfl⟩
  · skip
    refine r_aload_n hC (q := 12) dX0_hasTerminatorOf_11 rfl rfl ?_
    refine g_X0 hC 7 i_X0 l_34 (by decide) (q := 15) dX0_hasTerminatorOf_12 hk rfl rfl ?_
    refine r_iconst hC (x := 0) (q := 16) dX0_hasTerminatorOf_15 (by decide) rfl ?_
    refine r_iaN hC (q := 17) (i := 0) dX0_hasTerminatorOf_16 (iA_b6 hk) rfl (by omega) rfl ?_
    refine r_aload_n hC (q := 18) dX0_hasTerminatorOf_17 rfl rfl ?_
    refine g_X0 hC 7 i_X0 l_34 (by decide) (q := 21) dX0_hasTerminatorOf_18 hk2 rfl rfl ?_
    refine r_iconst hC (x := 0) (q := 22) dX0_hasTerminatorOf_21 (by decide) rfl ?_
    refine r_iaN hC (q := 23) (i := 0) dX0_hasTerminatorOf_22 (iA_b6 hk2) rfl (by omega) rfl ?_
    refine r_icmp_ne hC (q := 26) (t := 60) dX0_hasTerminatorOf_23 (by decide) rfl (fun h23 => ?_) (fun h23 => ?_)
    · skip
      refine r_iconst hC (x := 0) (q := 61) dX0_hasTerminatorOf_60 (by decide) rfl ?_
      exact hR _ _ _ _ dX0_hasTerminatorOf_61 ⟨by first | exact bI_t eqTb_iff (by simp [eqT, bw, h8, h23]) | exact bI_f eqTb_iff (by simp [eqT, bw, h8, h23]), rfl⟩
    · skip
      refine r_aload_n hC (q := 27) dX0_hasTerminatorOf_26 rfl rfl ?_
      refine g_X0 hC 7 i_X0 l_34 (by decide) (q := 30) dX0_hasTerminatorOf_27 hk rfl rfl ?_
      refine r_iconst hC (x := 1) (q := 31) dX0_hasTerminatorOf_30 (by decide) rfl ?_
      refine r_iaN hC (q := 32) (i := 1) dX0_hasTerminatorOf_31 (iA_b6 hk) rfl (by omega) rfl ?_
      refine r_aload_n hC (q := 33) dX0_hasTerminatorOf_32 rfl rfl ?_
      refine g_X0 hC 7 i_X0 l_34 (by decide) (q := 36) dX0_hasTerminatorOf_33 hk2 rfl rfl ?_
      refine r_iconst hC (x := 1) (q := 37) dX0_hasTerminatorOf_36 (by decide) rfl ?_
      refine r_iaN hC (q := 38) (i := 1) dX0_hasTerminatorOf_37 (iA_b6 hk2) rfl (by omega) rfl ?_
      refine r_icmp_ne hC (q := 41) (t := 60) dX0_hasTerminatorOf_38 (by decide) rfl (fun h38 => ?_) (fun h38 => ?_)
      · skip
        refine r_iconst hC (x := 0) (q := 61) dX0_hasTerminatorOf_60 (by decide) rfl ?_
        exact hR _ _ _ _ dX0_hasTerminatorOf_61 ⟨by first | exact bI_t eqTb_iff (by simp [eqT, bw, h8, h23, h38]) | exact bI_f eqTb_iff (by simp [eqT, bw, h8, h23, h38]), rfl⟩
      · skip
        refine r_aload_n hC (q := 42) dX0_hasTerminatorOf_41 rfl rfl ?_
        refine g_X0 hC 7 i_X0 l_34 (by decide) (q := 45) dX0_hasTerminatorOf_42 hk rfl rfl ?_
        refine r_iconst hC (x := 2) (q := 46) dX0_hasTerminatorOf_45 (by decide) rfl ?_
        refine r_iaN hC (q := 47) (i := 2) dX0_hasTerminatorOf_46 (iA_b6 hk) rfl (by omega) rfl ?_
        refine r_aload_n hC (q := 48) dX0_hasTerminatorOf_47 rfl rfl ?_
        refine g_X0 hC 7 i_X0 l_34 (by decide) (q := 51) dX0_hasTerminatorOf_48 hk2 rfl rfl ?_
        refine r_iconst hC (x := 2) (q := 52) dX0_hasTerminatorOf_51 (by decide) rfl ?_
        refine r_iaN hC (q := 53) (i := 2) dX0_hasTerminatorOf_52 (iA_b6 hk2) rfl (by omega) rfl ?_
        refine r_icmp_ne hC (q := 56) (t := 60) dX0_hasTerminatorOf_53 (by decide) rfl (fun h53 => ?_) (fun h53 => ?_)
        · skip
          refine r_iconst hC (x := 0) (q := 61) dX0_hasTerminatorOf_60 (by decide) rfl ?_
          exact hR _ _ _ _ dX0_hasTerminatorOf_61 ⟨by first | exact bI_t eqTb_iff (by simp [eqT, bw, h8, h23, h38, h53]) | exact bI_f eqTb_iff (by simp [eqT, bw, h8, h23, h38, h53]), rfl⟩
        · skip
          refine r_iconst hC (x := 1) (q := 57) dX0_hasTerminatorOf_56 (by decide) rfl ?_
          refine r_goto hC (t := 61) dX0_hasTerminatorOf_57 (by decide) ?_
          exact hR _ _ _ _ dX0_hasTerminatorOf_61 ⟨by first | exact bI_t eqTb_iff (by simp [eqT, bw, h8, h23, h38, h53]) | exact bI_f eqTb_iff (by simp [eqT, bw, h8, h23, h38, h53]), rfl⟩
theorem c_X0_hasTerminatorOf (l : Launch) {G : GG} {v : VV} {k : Nat} {k2 n n2 : Nat} (hk : isBk k) (hk2 : isBk k2) : MtI l G yX0_hasTerminatorOf wsX0_hasTerminatorOf 0 0 [.ref (G.1 k), .ref (G.1 k2)] v (fun r v' => r = bI (eqTb (bw v k n) (bw v k2 n2)) ∧ v = v') := mt_int (Or.inr ⟨rfl, fun r v' h => by rw [h.1]; exact ite01 _⟩) (by decide) rfl (by simp [Value.category]) (Nat.le_of_ble_eq_true rfl) rfl rfl (fun E hC hR => b_X0_hasTerminatorOf hC hR hk hk2)

set_option maxRecDepth 100000 in
set_option maxHeartbeats 4000000 in
theorem b_X0_isEqualAt {E : TE} {G : GG} {v : VV} {k : Nat} {k2 n n2 b : Nat} (hC : Cx E G cX0_isEqualAt RX0 5 wsX0_isEqualAt 0 0) (hR : RtI E G cX0_isEqualAt (fun r v' => r = bI (eqAb (bw v k n) (bw v k2 n2) b) ∧ v = v')) (hk : isBk k) (hk2 : isBk k2) (hn : v k 5 = nI n) (hn2 : v k2 5 = nI n2) (h1 : n ≤ 10) (h2 : n2 ≤ 10) (hb1 : 1 ≤ b) (hbn : b ≤ n) (hbn2 : b ≤ n2) : Wv E G v 0 [some (.ref (G.1 k)), some (.ref (G.1 k2)), some (.int (nI b)), none, none] [] := by
  have i_X0 : ∀ w ∈ wsX00, w ∈ wsX0_isEqualAt := by decide +kernel
  have l_9 : lnk E RX0 9 (TX0 0) := hC.fl (by decide +kernel)
  have l_15 : lnk E RX0 15 (TX0 1) := hC.fl (by decide +kernel)
  have l_18 : lnk E RX0 18 (TX0 2) := hC.fl (by decide +kernel)
  have l_21 : lnk E RX0 21 (TX0 3) := hC.fl (by decide +kernel)
  have l_27 : lnk E RX0 27 (TX0 5) := hC.fl (by decide +kernel)
  refine r_aload_n hC (q := 1) dX0_isEqualAt_0 rfl rfl ?_
  refine g_X0 hC 5 i_X0 l_27 (by decide) (q := 4) dX0_isEqualAt_1 hk rfl rfl ?_
  refine r_top (y := nI n) hn ?_
  refine r_iload_n hC (q := 5) dX0_isEqualAt_4 rfl rfl ?_
  refine r_isubN hC (q := 6) dX0_isEqualAt_5 rfl rfl (by omega) rfl ?_
  refine r_istore_n hC (q := 7) (L' := [_, _, _, _, _]) dX0_isEqualAt_6 (Nat.le_of_ble_eq_true rfl) rfl rfl ?_
  refine r_aload_n hC (q := 8) dX0_isEqualAt_7 rfl rfl ?_
  refine g_X0 hC 5 i_X0 l_27 (by decide) (q := 11) dX0_isEqualAt_8 hk2 rfl rfl ?_
  refine r_top (y := nI n2) hn2 ?_
  refine r_iload_n hC (q := 12) dX0_isEqualAt_11 rfl rfl ?_
  refine r_isubN hC (q := 13) dX0_isEqualAt_12 rfl rfl (by omega) rfl ?_
  refine r_istore hC (q := 15) (L' := [_, _, _, _, _]) dX0_isEqualAt_13 (Nat.le_of_ble_eq_true rfl) rfl rfl ?_
  refine r_aload_n hC (q := 16) dX0_isEqualAt_15 rfl rfl ?_
  refine g_X0 hC 0 i_X0 l_9 (by decide) (q := 19) dX0_isEqualAt_16 hk rfl rfl ?_
  refine r_iload_n hC (q := 20) dX0_isEqualAt_19 rfl rfl ?_
  refine r_iaN hC (q := 21) dX0_isEqualAt_20 (iA_b1 hk) rfl (by omega) rfl ?_
  refine r_aload_n hC (q := 22) dX0_isEqualAt_21 rfl rfl ?_
  refine g_X0 hC 0 i_X0 l_9 (by decide) (q := 25) dX0_isEqualAt_22 hk2 rfl rfl ?_
  refine r_iload hC (q := 27) dX0_isEqualAt_25 rfl rfl ?_
  refine r_iaN hC (q := 28) dX0_isEqualAt_27 (iA_b1 hk2) rfl (by omega) rfl ?_
  refine r_icmp_ne hC (q := 31) (t := 83) dX0_isEqualAt_28 (by decide) rfl (fun h28 => ?_) (fun h28 => ?_)
  · skip
    refine r_iconst hC (x := 0) (q := 84) dX0_isEqualAt_83 (by decide) rfl ?_
    exact hR _ _ _ _ dX0_isEqualAt_84 ⟨by first | exact bI_t eqAb_iff (by simp [eqA, bw, h28]) | exact bI_f eqAb_iff (by simp [eqA, bw, h28]), rfl⟩
  · skip
    refine r_aload_n hC (q := 32) dX0_isEqualAt_31 rfl rfl ?_
    refine g_X0 hC 1 i_X0 l_15 (by decide) (q := 35) dX0_isEqualAt_32 hk rfl rfl ?_
    refine r_iload_n hC (q := 36) dX0_isEqualAt_35 rfl rfl ?_
    refine r_iaN hC (q := 37) dX0_isEqualAt_36 (iA_b2 hk) rfl (by omega) rfl ?_
    refine r_aload_n hC (q := 38) dX0_isEqualAt_37 rfl rfl ?_
    refine g_X0 hC 1 i_X0 l_15 (by decide) (q := 41) dX0_isEqualAt_38 hk2 rfl rfl ?_
    refine r_iload hC (q := 43) dX0_isEqualAt_41 rfl rfl ?_
    refine r_iaN hC (q := 44) dX0_isEqualAt_43 (iA_b2 hk2) rfl (by omega) rfl ?_
    refine r_icmp_ne hC (q := 47) (t := 83) dX0_isEqualAt_44 (by decide) rfl (fun h44 => ?_) (fun h44 => ?_)
    · skip
      refine r_iconst hC (x := 0) (q := 84) dX0_isEqualAt_83 (by decide) rfl ?_
      exact hR _ _ _ _ dX0_isEqualAt_84 ⟨by first | exact bI_t eqAb_iff (by simp [eqA, bw, h28, h44]) | exact bI_f eqAb_iff (by simp [eqA, bw, h28, h44]), rfl⟩
    · skip
      refine r_aload_n hC (q := 48) dX0_isEqualAt_47 rfl rfl ?_
      refine g_X0 hC 2 i_X0 l_18 (by decide) (q := 51) dX0_isEqualAt_48 hk rfl rfl ?_
      refine r_iload_n hC (q := 52) dX0_isEqualAt_51 rfl rfl ?_
      refine r_iaN hC (q := 53) dX0_isEqualAt_52 (iA_b3 hk) rfl (by omega) rfl ?_
      refine r_aload_n hC (q := 54) dX0_isEqualAt_53 rfl rfl ?_
      refine g_X0 hC 2 i_X0 l_18 (by decide) (q := 57) dX0_isEqualAt_54 hk2 rfl rfl ?_
      refine r_iload hC (q := 59) dX0_isEqualAt_57 rfl rfl ?_
      refine r_iaN hC (q := 60) dX0_isEqualAt_59 (iA_b3 hk2) rfl (by omega) rfl ?_
      refine r_icmp_ne hC (q := 63) (t := 83) dX0_isEqualAt_60 (by decide) rfl (fun h60 => ?_) (fun h60 => ?_)
      · skip
        refine r_iconst hC (x := 0) (q := 84) dX0_isEqualAt_83 (by decide) rfl ?_
        exact hR _ _ _ _ dX0_isEqualAt_84 ⟨by first | exact bI_t eqAb_iff (by simp [eqA, bw, h28, h44, h60]) | exact bI_f eqAb_iff (by simp [eqA, bw, h28, h44, h60]), rfl⟩
      · skip
        refine r_aload_n hC (q := 64) dX0_isEqualAt_63 rfl rfl ?_
        refine g_X0 hC 3 i_X0 l_21 (by decide) (q := 67) dX0_isEqualAt_64 hk rfl rfl ?_
        refine r_iload_n hC (q := 68) dX0_isEqualAt_67 rfl rfl ?_
        refine r_iaN hC (q := 69) dX0_isEqualAt_68 (iA_b4 hk) rfl (by omega) rfl ?_
        refine r_aload_n hC (q := 70) dX0_isEqualAt_69 rfl rfl ?_
        refine g_X0 hC 3 i_X0 l_21 (by decide) (q := 73) dX0_isEqualAt_70 hk2 rfl rfl ?_
        refine r_iload hC (q := 75) dX0_isEqualAt_73 rfl rfl ?_
        refine r_iaN hC (q := 76) dX0_isEqualAt_75 (iA_b4 hk2) rfl (by omega) rfl ?_
        refine r_icmp_ne hC (q := 79) (t := 83) dX0_isEqualAt_76 (by decide) rfl (fun h76 => ?_) (fun h76 => ?_)
        · skip
          refine r_iconst hC (x := 0) (q := 84) dX0_isEqualAt_83 (by decide) rfl ?_
          exact hR _ _ _ _ dX0_isEqualAt_84 ⟨by first | exact bI_t eqAb_iff (by simp [eqA, bw, h28, h44, h60, h76]) | exact bI_f eqAb_iff (by simp [eqA, bw, h28, h44, h60, h76]), rfl⟩
        · skip
          refine r_iconst hC (x := 1) (q := 80) dX0_isEqualAt_79 (by decide) rfl ?_
          refine r_goto hC (t := 84) dX0_isEqualAt_80 (by decide) ?_
          exact hR _ _ _ _ dX0_isEqualAt_84 ⟨by first | exact bI_t eqAb_iff (by simp [eqA, bw, h28, h44, h60, h76]) | exact bI_f eqAb_iff (by simp [eqA, bw, h28, h44, h60, h76]), rfl⟩
theorem c_X0_isEqualAt (l : Launch) {G : GG} {v : VV} {k : Nat} {k2 n n2 b : Nat} (hk : isBk k) (hk2 : isBk k2) (hn : v k 5 = nI n) (hn2 : v k2 5 = nI n2) (h1 : n ≤ 10) (h2 : n2 ≤ 10) (hb1 : 1 ≤ b) (hbn : b ≤ n) (hbn2 : b ≤ n2) : MtI l G yX0_isEqualAt wsX0_isEqualAt 0 0 [.ref (G.1 k), .ref (G.1 k2), .int (nI b)] v (fun r v' => r = bI (eqAb (bw v k n) (bw v k2 n2) b) ∧ v = v') := mt_int (Or.inr ⟨rfl, fun r v' h => by rw [h.1]; exact ite01 _⟩) (by decide) rfl (by simp [Value.category]) (Nat.le_of_ble_eq_true rfl) rfl rfl (fun E hC hR => b_X0_isEqualAt hC hR hk hk2 hn hn2 h1 h2 hb1 hbn hbn2)

set_option maxRecDepth 100000 in
set_option maxHeartbeats 4000000 in
theorem b_X0_isSameConstTargetAt {E : TE} {G : GG} {v : VV} {k : Nat} {k2 n n2 b : Nat} (hC : Cx E G cX0_isSameConstTargetAt RX0 5 wsX0_isSameConstTargetAt 0 0) (hR : RtI E G cX0_isSameConstTargetAt (fun r v' => r = bI (sctb (bw v k n) (bw v k2 n2) b) ∧ v = v')) (hk : isBk k) (hk2 : isBk k2) (hn : v k 5 = nI n) (hn2 : v k2 5 = nI n2) (h1 : n ≤ 10) (h2 : n2 ≤ 10) (hb1 : 1 ≤ b) (hbn : b ≤ n) (hbn2 : b ≤ n2) : Wv E G v 0 [some (.ref (G.1 k)), some (.ref (G.1 k2)), some (.int (nI b)), none, none] [] := by
  have i_X0 : ∀ w ∈ wsX00, w ∈ wsX0_isSameConstTargetAt := by decide +kernel
  have l_9 : lnk E RX0 9 (TX0 0) := hC.fl (by decide +kernel)
  have l_15 : lnk E RX0 15 (TX0 1) := hC.fl (by decide +kernel)
  have l_27 : lnk E RX0 27 (TX0 5) := hC.fl (by decide +kernel)
  refine r_aload_n hC (q := 1) dX0_isSameConstTargetAt_0 rfl rfl ?_
  refine g_X0 hC 5 i_X0 l_27 (by decide) (q := 4) dX0_isSameConstTargetAt_1 hk rfl rfl ?_
  refine r_top (y := nI n) hn ?_
  refine r_iload_n hC (q := 5) dX0_isSameConstTargetAt_4 rfl rfl ?_
  refine r_isubN hC (q := 6) dX0_isSameConstTargetAt_5 rfl rfl (by omega) rfl ?_
  refine r_istore_n hC (q := 7) (L' := [_, _, _, _, _]) dX0_isSameConstTargetAt_6 (Nat.le_of_ble_eq_true rfl) rfl rfl ?_
  refine r_aload_n hC (q := 8) dX0_isSameConstTargetAt_7 rfl rfl ?_
  refine g_X0 hC 5 i_X0 l_27 (by decide) (q := 11) dX0_isSameConstTargetAt_8 hk2 rfl rfl ?_
  refine r_top (y := nI n2) hn2 ?_
  refine r_iload_n hC (q := 12) dX0_isSameConstTargetAt_11 rfl rfl ?_
  refine r_isubN hC (q := 13) dX0_isSameConstTargetAt_12 rfl rfl (by omega) rfl ?_
  refine r_istore hC (q := 15) (L' := [_, _, _, _, _]) dX0_isSameConstTargetAt_13 (Nat.le_of_ble_eq_true rfl) rfl rfl ?_
  refine r_aload_n hC (q := 16) dX0_isSameConstTargetAt_15 rfl rfl ?_
  refine g_X0 hC 0 i_X0 l_9 (by decide) (q := 19) dX0_isSameConstTargetAt_16 hk rfl rfl ?_
  refine r_iload_n hC (q := 20) dX0_isSameConstTargetAt_19 rfl rfl ?_
  refine r_iaN hC (q := 21) dX0_isSameConstTargetAt_20 (iA_b1 hk) rfl (by omega) rfl ?_
  refine r_if_ne hC (q := 24) (t := 54) dX0_isSameConstTargetAt_21 (by decide) rfl (fun h21 => ?_) (fun h21 => ?_)
  · skip
    refine r_iconst hC (x := 0) (q := 55) dX0_isSameConstTargetAt_54 (by decide) rfl ?_
    exact hR _ _ _ _ dX0_isSameConstTargetAt_55 ⟨by first | exact bI_t sctb_iff (by simp [sct, bw, h21]) | exact bI_f sctb_iff (by simp [sct, bw, h21]), rfl⟩
  · skip
    refine r_aload_n hC (q := 25) dX0_isSameConstTargetAt_24 rfl rfl ?_
    refine g_X0 hC 0 i_X0 l_9 (by decide) (q := 28) dX0_isSameConstTargetAt_25 hk2 rfl rfl ?_
    refine r_iload hC (q := 30) dX0_isSameConstTargetAt_28 rfl rfl ?_
    refine r_iaN hC (q := 31) dX0_isSameConstTargetAt_30 (iA_b1 hk2) rfl (by omega) rfl ?_
    refine r_if_ne hC (q := 34) (t := 54) dX0_isSameConstTargetAt_31 (by decide) rfl (fun h31 => ?_) (fun h31 => ?_)
    · skip
      refine r_iconst hC (x := 0) (q := 55) dX0_isSameConstTargetAt_54 (by decide) rfl ?_
      exact hR _ _ _ _ dX0_isSameConstTargetAt_55 ⟨by first | exact bI_t sctb_iff (by simp [sct, bw, h21, h31]) | exact bI_f sctb_iff (by simp [sct, bw, h21, h31]), rfl⟩
    · skip
      refine r_aload_n hC (q := 35) dX0_isSameConstTargetAt_34 rfl rfl ?_
      refine g_X0 hC 1 i_X0 l_15 (by decide) (q := 38) dX0_isSameConstTargetAt_35 hk rfl rfl ?_
      refine r_iload_n hC (q := 39) dX0_isSameConstTargetAt_38 rfl rfl ?_
      refine r_iaN hC (q := 40) dX0_isSameConstTargetAt_39 (iA_b2 hk) rfl (by omega) rfl ?_
      refine r_aload_n hC (q := 41) dX0_isSameConstTargetAt_40 rfl rfl ?_
      refine g_X0 hC 1 i_X0 l_15 (by decide) (q := 44) dX0_isSameConstTargetAt_41 hk2 rfl rfl ?_
      refine r_iload hC (q := 46) dX0_isSameConstTargetAt_44 rfl rfl ?_
      refine r_iaN hC (q := 47) dX0_isSameConstTargetAt_46 (iA_b2 hk2) rfl (by omega) rfl ?_
      refine r_icmp_ne hC (q := 50) (t := 54) dX0_isSameConstTargetAt_47 (by decide) rfl (fun h47 => ?_) (fun h47 => ?_)
      · skip
        refine r_iconst hC (x := 0) (q := 55) dX0_isSameConstTargetAt_54 (by decide) rfl ?_
        exact hR _ _ _ _ dX0_isSameConstTargetAt_55 ⟨by first | exact bI_t sctb_iff (by simp [sct, bw, h21, h31, h47]) | exact bI_f sctb_iff (by simp [sct, bw, h21, h31, h47]), rfl⟩
      · skip
        refine r_iconst hC (x := 1) (q := 51) dX0_isSameConstTargetAt_50 (by decide) rfl ?_
        refine r_goto hC (t := 55) dX0_isSameConstTargetAt_51 (by decide) ?_
        exact hR _ _ _ _ dX0_isSameConstTargetAt_55 ⟨by first | exact bI_t sctb_iff (by simp [sct, bw, h21, h31, h47]) | exact bI_f sctb_iff (by simp [sct, bw, h21, h31, h47]), rfl⟩
theorem c_X0_isSameConstTargetAt (l : Launch) {G : GG} {v : VV} {k : Nat} {k2 n n2 b : Nat} (hk : isBk k) (hk2 : isBk k2) (hn : v k 5 = nI n) (hn2 : v k2 5 = nI n2) (h1 : n ≤ 10) (h2 : n2 ≤ 10) (hb1 : 1 ≤ b) (hbn : b ≤ n) (hbn2 : b ≤ n2) : MtI l G yX0_isSameConstTargetAt wsX0_isSameConstTargetAt 0 0 [.ref (G.1 k), .ref (G.1 k2), .int (nI b)] v (fun r v' => r = bI (sctb (bw v k n) (bw v k2 n2) b) ∧ v = v') := mt_int (Or.inr ⟨rfl, fun r v' h => by rw [h.1]; exact ite01 _⟩) (by decide) rfl (by simp [Value.category]) (Nat.le_of_ble_eq_true rfl) rfl rfl (fun E hC hR => b_X0_isSameConstTargetAt hC hR hk hk2 hn hn2 h1 h2 hb1 hbn hbn2)

set_option maxRecDepth 100000 in
set_option maxHeartbeats 4000000 in
theorem b_X0_usesParameterAt {E : TE} {G : GG} {v : VV} {k : Nat} {n b : Nat} (hC : Cx E G cX0_usesParameterAt RX0 3 wsX0_usesParameterAt 0 0) (hR : RtI E G cX0_usesParameterAt (fun r v' => r = bI (us7b (bw v k n) b) ∧ v = v')) (hk : isBk k) (hn : v k 5 = nI n) (h1 : n ≤ 10) (hb1 : 1 ≤ b) (hbn : b ≤ n) : Wv E G v 0 [some (.ref (G.1 k)), some (.int (nI b)), none] [] := by
  have i_X0 : ∀ w ∈ wsX00, w ∈ wsX0_usesParameterAt := by decide +kernel
  have l_9 : lnk E RX0 9 (TX0 0) := hC.fl (by decide +kernel)
  have l_15 : lnk E RX0 15 (TX0 1) := hC.fl (by decide +kernel)
  have l_18 : lnk E RX0 18 (TX0 2) := hC.fl (by decide +kernel)
  have l_21 : lnk E RX0 21 (TX0 3) := hC.fl (by decide +kernel)
  have l_27 : lnk E RX0 27 (TX0 5) := hC.fl (by decide +kernel)
  refine r_aload_n hC (q := 1) dX0_usesParameterAt_0 rfl rfl ?_
  refine g_X0 hC 5 i_X0 l_27 (by decide) (q := 4) dX0_usesParameterAt_1 hk rfl rfl ?_
  refine r_top (y := nI n) hn ?_
  refine r_iload_n hC (q := 5) dX0_usesParameterAt_4 rfl rfl ?_
  refine r_isubN hC (q := 6) dX0_usesParameterAt_5 rfl rfl (by omega) rfl ?_
  refine r_istore_n hC (q := 7) (L' := [_, _, _]) dX0_usesParameterAt_6 (Nat.le_of_ble_eq_true rfl) rfl rfl ?_
  refine r_aload_n hC (q := 8) dX0_usesParameterAt_7 rfl rfl ?_
  refine g_X0 hC 1 i_X0 l_15 (by decide) (q := 11) dX0_usesParameterAt_8 hk rfl rfl ?_
  refine r_iload_n hC (q := 12) dX0_usesParameterAt_11 rfl rfl ?_
  refine r_iaN hC (q := 13) dX0_usesParameterAt_12 (iA_b2 hk) rfl (by omega) rfl ?_
  refine r_bipush hC (x := 7) (q := 15) dX0_usesParameterAt_13 (by decide) rfl ?_
  refine r_icmp_eq hC (q := 18) (t := 49) dX0_usesParameterAt_15 (by decide) rfl (fun h15 => ?_) (fun h15 => ?_)
  · skip
    refine r_iconst hC (x := 1) (q := 50) dX0_usesParameterAt_49 (by decide) rfl ?_
    refine r_goto hC (t := 54) dX0_usesParameterAt_50 (by decide) ?_
    exact hR _ _ _ _ dX0_usesParameterAt_54 ⟨by first | exact bI_t us7b_iff (by simp [us7, bw, h15]) | exact bI_f us7b_iff (by simp [us7, bw, h15]), rfl⟩
  · skip
    refine r_aload_n hC (q := 19) dX0_usesParameterAt_18 rfl rfl ?_
    refine g_X0 hC 3 i_X0 l_21 (by decide) (q := 22) dX0_usesParameterAt_19 hk rfl rfl ?_
    refine r_iload_n hC (q := 23) dX0_usesParameterAt_22 rfl rfl ?_
    refine r_iaN hC (q := 24) dX0_usesParameterAt_23 (iA_b4 hk) rfl (by omega) rfl ?_
    refine r_bipush hC (x := 7) (q := 26) dX0_usesParameterAt_24 (by decide) rfl ?_
    refine r_icmp_eq hC (q := 29) (t := 49) dX0_usesParameterAt_26 (by decide) rfl (fun h26 => ?_) (fun h26 => ?_)
    · skip
      refine r_iconst hC (x := 1) (q := 50) dX0_usesParameterAt_49 (by decide) rfl ?_
      refine r_goto hC (t := 54) dX0_usesParameterAt_50 (by decide) ?_
      exact hR _ _ _ _ dX0_usesParameterAt_54 ⟨by first | exact bI_t us7b_iff (by simp [us7, bw, h15, h26]) | exact bI_f us7b_iff (by simp [us7, bw, h15, h26]), rfl⟩
    · skip
      refine r_aload_n hC (q := 30) dX0_usesParameterAt_29 rfl rfl ?_
      refine g_X0 hC 2 i_X0 l_18 (by decide) (q := 33) dX0_usesParameterAt_30 hk rfl rfl ?_
      refine r_iload_n hC (q := 34) dX0_usesParameterAt_33 rfl rfl ?_
      refine r_iaN hC (q := 35) dX0_usesParameterAt_34 (iA_b3 hk) rfl (by omega) rfl ?_
      refine r_bipush hC (x := 7) (q := 37) dX0_usesParameterAt_35 (by decide) rfl ?_
      refine r_icmp_ne hC (q := 40) (t := 53) dX0_usesParameterAt_37 (by decide) rfl (fun h37 => ?_) (fun h37 => ?_)
      · skip
        refine r_iconst hC (x := 0) (q := 54) dX0_usesParameterAt_53 (by decide) rfl ?_
        exact hR _ _ _ _ dX0_usesParameterAt_54 ⟨by first | exact bI_t us7b_iff (by simp [us7, bw, h15, h26, h37]) | exact bI_f us7b_iff (by simp [us7, bw, h15, h26, h37]), rfl⟩
      · skip
        refine r_aload_n hC (q := 41) dX0_usesParameterAt_40 rfl rfl ?_
        refine g_X0 hC 0 i_X0 l_9 (by decide) (q := 44) dX0_usesParameterAt_41 hk rfl rfl ?_
        refine r_iload_n hC (q := 45) dX0_usesParameterAt_44 rfl rfl ?_
        refine r_iaN hC (q := 46) dX0_usesParameterAt_45 (iA_b1 hk) rfl (by omega) rfl ?_
        refine r_if_eq hC (q := 49) (t := 53) dX0_usesParameterAt_46 (by decide) rfl (fun h46 => ?_) (fun h46 => ?_)
        · skip
          refine r_iconst hC (x := 0) (q := 54) dX0_usesParameterAt_53 (by decide) rfl ?_
          exact hR _ _ _ _ dX0_usesParameterAt_54 ⟨by first | exact bI_t us7b_iff (by simp [us7, bw, h15, h26, h37, h46]) | exact bI_f us7b_iff (by simp [us7, bw, h15, h26, h37, h46]), rfl⟩
        · skip
          refine r_iconst hC (x := 1) (q := 50) dX0_usesParameterAt_49 (by decide) rfl ?_
          refine r_goto hC (t := 54) dX0_usesParameterAt_50 (by decide) ?_
          exact hR _ _ _ _ dX0_usesParameterAt_54 ⟨by first | exact bI_t us7b_iff (by simp [us7, bw, h15, h26, h37, h46]) | exact bI_f us7b_iff (by simp [us7, bw, h15, h26, h37, h46]), rfl⟩
theorem c_X0_usesParameterAt (l : Launch) {G : GG} {v : VV} {k : Nat} {n b : Nat} (hk : isBk k) (hn : v k 5 = nI n) (h1 : n ≤ 10) (hb1 : 1 ≤ b) (hbn : b ≤ n) : MtI l G yX0_usesParameterAt wsX0_usesParameterAt 0 0 [.ref (G.1 k), .int (nI b)] v (fun r v' => r = bI (us7b (bw v k n) b) ∧ v = v') := mt_int (Or.inr ⟨rfl, fun r v' h => by rw [h.1]; exact ite01 _⟩) (by decide) rfl (by simp [Value.category]) (Nat.le_of_ble_eq_true rfl) rfl rfl (fun E hC hR => b_X0_usesParameterAt hC hR hk hn h1 hb1 hbn)

def pfit (x y : Bv) (b : Nat) (df : Bool) : Bool := !(us7b x b) && !(us7b y b) && (eqAb x y b || (!df && sctb x y b))

set_option maxRecDepth 100000 in
set_option maxHeartbeats 4000000 in
theorem b_X0_fitsParameterTail {E : TE} {G : GG} {v : VV} {k : Nat} {k2 n n2 b : Nat} {z : Int32} {df : Bool} (hC : Cx E G cX0_fitsParameterTail RX0 4 wsX0_fitsParameterTail 1 24) (hR : RtI E G cX0_fitsParameterTail (fun r v' => r = bI (pfit (bw v k n) (bw v k2 n2) b df) ∧ v = v')) (hk : isBk k) (hk2 : isBk k2) (hn : v k 5 = nI n) (hn2 : v k2 5 = nI n2) (h1 : n ≤ 10) (h2 : n2 ≤ 10) (hb1 : 1 ≤ b) (hbn : b ≤ n) (hbn2 : b ≤ n2) (hz : z = bI df) : Wv E G v 0 [some (.ref (G.1 k)), some (.ref (G.1 k2)), some (.int (nI b)), some (.int z)] [] := by
  refine r_aload_n hC (q := 1) dX0_fitsParameterTail_0 rfl rfl ?_
  refine r_iload_n hC (q := 2) dX0_fitsParameterTail_1 rfl rfl ?_
  refine r_cVI hC (q := 5) (n := 1) (As := [_]) (fun l => c_X0_usesParameterAt l (n := n) hk hn h1 hb1 hbn) gX0_fitsParameterTail_X0_usesParameterAt rfl (by decide +kernel) ⟨by decide, by decide⟩ (ob_b hk) rfl rfl rfl rfl (Nat.le_of_ble_eq_true rfl) dX0_fitsParameterTail_2 rfl ?_
  rintro _ _ ⟨rfl, rfl⟩
  refine r_if_neB hC (q := 8) (t := 16) dX0_fitsParameterTail_5 (by decide) rfl (fun h5 => ?_) (fun h5 => ?_)
  · skip
    refine r_iconst hC (x := 0) (q := 17) dX0_fitsParameterTail_16 (by decide) rfl ?_
    exact hR _ _ _ _ dX0_fitsParameterTail_17 ⟨by simp [pfit, bI, h5, *], rfl⟩
  · skip
    refine r_aload_n hC (q := 9) dX0_fitsParameterTail_8 rfl rfl ?_
    refine r_iload_n hC (q := 10) dX0_fitsParameterTail_9 rfl rfl ?_
    refine r_cVI hC (q := 13) (n := 1) (As := [_]) (fun l => c_X0_usesParameterAt l (n := n2) hk2 hn2 h2 hb1 hbn2) gX0_fitsParameterTail_X0_usesParameterAt rfl (by decide +kernel) ⟨by decide, by decide⟩ (ob_b hk2) rfl rfl rfl rfl (Nat.le_of_ble_eq_true rfl) dX0_fitsParameterTail_10 rfl ?_
    rintro _ _ ⟨rfl, rfl⟩
    refine r_if_eqB hC (q := 16) (t := 18) dX0_fitsParameterTail_13 (by decide) rfl (fun h13 => ?_) (fun h13 => ?_)
    · skip
      refine r_aload_n hC (q := 19) dX0_fitsParameterTail_18 rfl rfl ?_
      refine r_aload_n hC (q := 20) dX0_fitsParameterTail_19 rfl rfl ?_
      refine r_iload_n hC (q := 21) dX0_fitsParameterTail_20 rfl rfl ?_
      refine r_cVI hC (q := 24) (n := 2) (As := [_, _]) (fun l => c_X0_isEqualAt l (n := n) (n2 := n2) hk hk2 hn hn2 h1 h2 hb1 hbn hbn2) gX0_fitsParameterTail_X0_isEqualAt rfl (by decide +kernel) ⟨by decide, by decide⟩ (ob_b hk) rfl rfl rfl rfl (Nat.le_of_ble_eq_true rfl) dX0_fitsParameterTail_21 rfl ?_
      rintro _ _ ⟨rfl, rfl⟩
      refine r_if_neB hC (q := 27) (t := 40) dX0_fitsParameterTail_24 (by decide) rfl (fun h24 => ?_) (fun h24 => ?_)
      · skip
        refine r_iconst hC (x := 1) (q := 41) dX0_fitsParameterTail_40 (by decide) rfl ?_
        refine r_goto hC (t := 45) dX0_fitsParameterTail_41 (by decide) ?_
        exact hR _ _ _ _ dX0_fitsParameterTail_45 ⟨by simp [pfit, bI, h5, h13, h24, *], rfl⟩
      · skip
        refine r_iload_n hC (q := 28) dX0_fitsParameterTail_27 rfl rfl ?_
        refine r_if_ne hC (q := 31) (t := 44) dX0_fitsParameterTail_28 (by decide) rfl (fun h28 => ?_) (fun h28 => ?_)
        · have hdf : df = true := by cases df <;> simp [hz] at h28 ⊢
          refine r_iconst hC (x := 0) (q := 45) dX0_fitsParameterTail_44 (by decide) rfl ?_
          exact hR _ _ _ _ dX0_fitsParameterTail_45 ⟨by simp [pfit, bI, h5, h13, h24, h28, *], rfl⟩
        · have hdf : df = false := by cases df <;> simp [hz] at h28 ⊢
          refine r_aload_n hC (q := 32) dX0_fitsParameterTail_31 rfl rfl ?_
          refine r_aload_n hC (q := 33) dX0_fitsParameterTail_32 rfl rfl ?_
          refine r_iload_n hC (q := 34) dX0_fitsParameterTail_33 rfl rfl ?_
          refine r_cVI hC (q := 37) (n := 2) (As := [_, _]) (fun l => c_X0_isSameConstTargetAt l (n := n) (n2 := n2) hk hk2 hn hn2 h1 h2 hb1 hbn hbn2) gX0_fitsParameterTail_X0_isSameConstTargetAt rfl (by decide +kernel) ⟨by decide, by decide⟩ (ob_b hk) rfl rfl rfl rfl (Nat.le_of_ble_eq_true rfl) dX0_fitsParameterTail_34 rfl ?_
          rintro _ _ ⟨rfl, rfl⟩
          refine r_if_eqB hC (q := 40) (t := 44) dX0_fitsParameterTail_37 (by decide) rfl (fun h37 => ?_) (fun h37 => ?_)
          · skip
            refine r_iconst hC (x := 0) (q := 45) dX0_fitsParameterTail_44 (by decide) rfl ?_
            exact hR _ _ _ _ dX0_fitsParameterTail_45 ⟨by simp [pfit, bI, h5, h13, h24, h28, h37, *], rfl⟩
          · skip
            refine r_iconst hC (x := 1) (q := 41) dX0_fitsParameterTail_40 (by decide) rfl ?_
            refine r_goto hC (t := 45) dX0_fitsParameterTail_41 (by decide) ?_
            exact hR _ _ _ _ dX0_fitsParameterTail_45 ⟨by simp [pfit, bI, h5, h13, h24, h28, h37, *], rfl⟩
    · skip
      refine r_iconst hC (x := 0) (q := 17) dX0_fitsParameterTail_16 (by decide) rfl ?_
      exact hR _ _ _ _ dX0_fitsParameterTail_17 ⟨by simp [pfit, bI, h5, h13, *], rfl⟩
theorem c_X0_fitsParameterTail (l : Launch) {G : GG} {v : VV} {k : Nat} {k2 n n2 b : Nat} {z : Int32} {df : Bool} (hk : isBk k) (hk2 : isBk k2) (hn : v k 5 = nI n) (hn2 : v k2 5 = nI n2) (h1 : n ≤ 10) (h2 : n2 ≤ 10) (hb1 : 1 ≤ b) (hbn : b ≤ n) (hbn2 : b ≤ n2) (hz : z = bI df) : MtI l G yX0_fitsParameterTail wsX0_fitsParameterTail 1 24 [.ref (G.1 k), .ref (G.1 k2), .int (nI b), .int z] v (fun r v' => r = bI (pfit (bw v k n) (bw v k2 n2) b df) ∧ v = v') := mt_int (Or.inr ⟨rfl, fun r v' h => by rw [h.1]; exact ite01 _⟩) (by decide) rfl (by simp [Value.category]) (Nat.le_of_ble_eq_true rfl) rfl rfl (fun E hC hR => b_X0_fitsParameterTail hC hR hk hk2 hn hn2 h1 h2 hb1 hbn hbn2 hz)

/-- how far two blocks agree from their ends, at most f further than t -/
def tlF (x y : Bv) : Nat → Nat → Nat
  | 0, t => t
  | f + 1, t => if eqAb x y (t + 1) = true then tlF x y f (t + 1) else t
def tl (x y : Bv) : Int32 := if eqTb x y = true then nI (tlF x y (min x.1 y.1) 0) else -1005
theorem min_nI {a b : Nat} (ha : a < 2 ^ 31) (hb : b < 2 ^ 31) : (if nI b < nI a then nI b else nI a) = nI (min a b) := by
  by_cases h : b < a
  · rw [if_pos ((nI_ltI hb ha).mpr h), Nat.min_eq_right (by omega)]
  · rw [if_neg (fun e => h ((nI_ltI hb ha).mp e)), Nat.min_eq_left (by omega)]

set_option maxRecDepth 100000 in
set_option maxHeartbeats 4000000 in
theorem lp_X0_tailSharedWith {E : TE} {G : GG} {v : VV} {k k2 n n2 m : Nat} {post : Int32 → VV → Prop} (hC : Cx E G cX0_tailSharedWith RX0 4 wsX0_tailSharedWith 1 24) (hR : RtI E G cX0_tailSharedWith post) (hk : isBk k) (hk2 : isBk k2) (hn : v k 5 = nI n) (hn2 : v k2 5 = nI n2) (h1 : n ≤ 10) (h2 : n2 ≤ 10) (hm1 : m ≤ n) (hm2 : m ≤ n2) : ∀ (f t : Nat), t + f = m → post (nI (tlF (bw v k n) (bw v k2 n2) f t)) v → Wv E G v 26 [some (.ref (G.1 k)), some (.ref (G.1 k2)), some (.int (nI m)), some (.int (nI t))] [] := by
  intro f
  induction f with
  | zero =>
    intro t htf hpost
    refine r_iload_n hC (q := 27) dX0_tailSharedWith_26 rfl rfl ?_
    refine r_iload_n hC (q := 28) dX0_tailSharedWith_27 rfl rfl ?_
    refine r_icmp_geN hC (q := 31) (t := 48) dX0_tailSharedWith_28 rfl rfl (by omega) (by omega) (by decide) rfl (fun h28 => ?_) (fun h28 => ?_)
    · skip
      refine r_iload_n hC (q := 49) dX0_tailSharedWith_48 rfl rfl ?_
      exact hR _ _ _ _ dX0_tailSharedWith_49 hpost
    · skip
      omega
  | succ f ih =>
    intro t htf hpost
    refine r_iload_n hC (q := 27) dX0_tailSharedWith_26 rfl rfl ?_
    refine r_iload_n hC (q := 28) dX0_tailSharedWith_27 rfl rfl ?_
    refine r_icmp_geN hC (q := 31) (t := 48) dX0_tailSharedWith_28 rfl rfl (by omega) (by omega) (by decide) rfl (fun h28 => ?_) (fun h28 => ?_)
    · skip
      omega
    · skip
      refine r_aload_n hC (q := 32) dX0_tailSharedWith_31 rfl rfl ?_
      refine r_aload_n hC (q := 33) dX0_tailSharedWith_32 rfl rfl ?_
      refine r_iload_n hC (q := 34) dX0_tailSharedWith_33 rfl rfl ?_
      refine r_iconst hC (x := 1) (q := 35) dX0_tailSharedWith_34 (by decide) rfl ?_
      refine r_iaddN hC (q := 36) (b := 1) dX0_tailSharedWith_35 rfl rfl rfl ?_
      refine r_cVI hC (q := 39) (n := 2) (As := [_, _]) (fun l => c_X0_isEqualAt l (n := n) (n2 := n2) (b := t + 1) hk hk2 hn hn2 h1 h2 (by omega) (by omega) (by omega)) gX0_tailSharedWith_X0_isEqualAt rfl (by decide +kernel) ⟨by decide, by decide⟩ (ob_b hk) rfl rfl rfl rfl (Nat.le_of_ble_eq_true rfl) dX0_tailSharedWith_36 rfl ?_
      rintro _ _ ⟨rfl, rfl⟩
      refine r_if_eqB hC (q := 42) (t := 48) dX0_tailSharedWith_39 (by decide) rfl (fun h39 => ?_) (fun h39 => ?_)
      · skip
        refine r_iload_n hC (q := 49) dX0_tailSharedWith_48 rfl rfl ?_
        exact hR _ _ _ _ dX0_tailSharedWith_49 (by rw [tlF, if_neg h39] at hpost; exact hpost)
      · skip
        refine r_iincN hC (q := 45) (L' := [_, _, _, _]) (c := 1) dX0_tailSharedWith_42 rfl rfl rfl rfl rfl ?_
        refine r_goto hC (t := 26) dX0_tailSharedWith_45 (by decide) ?_
        exact ih (t + 1) (by omega) (by rw [tlF, if_pos h39] at hpost; exact hpost)

set_option maxRecDepth 100000 in
set_option maxHeartbeats 4000000 in
theorem b_X0_tailSharedWith {E : TE} {G : GG} {v : VV} {k : Nat} {k2 n n2 : Nat} (hC : Cx E G cX0_tailSharedWith RX0 4 wsX0_tailSharedWith 1 24) (hR : RtI E G cX0_tailSharedWith (fun r v' => r = tl (bw v k n) (bw v k2 n2) ∧ v = v')) (hk : isBk k) (hk2 : isBk k2) (hn : v k 5 = nI n) (hn2 : v k2 5 = nI n2) (h1 : n ≤ 10) (h2 : n2 ≤ 10) : Wv E G v 0 [some (.ref (G.1 k)), some (.ref (G.1 k2)), none, none] [] := by
  have i_X0 : ∀ w ∈ wsX00, w ∈ wsX0_tailSharedWith := by decide +kernel
  have l_27 : lnk E RX0 27 (TX0 5) := hC.fl (by decide +kernel)
  refine r_aload_n hC (q := 1) dX0_tailSharedWith_0 rfl rfl ?_
  refine r_aload_n hC (q := 2) dX0_tailSharedWith_1 rfl rfl ?_
  refine r_cVI hC (q := 5) (n := 1) (As := [_]) (fun l => c_X0_hasTerminatorOf l (n := n) (n2 := n2) hk hk2) gX0_tailSharedWith_X0_hasTerminatorOf rfl (by decide +kernel) ⟨by decide, by decide⟩ (ob_b hk) rfl rfl rfl rfl (Nat.le_of_ble_eq_true rfl) dX0_tailSharedWith_2 rfl ?_
  rintro _ _ ⟨rfl, rfl⟩
  refine r_if_neB hC (q := 8) (t := 12) dX0_tailSharedWith_5 (by decide) rfl (fun h5 => ?_) (fun h5 => ?_)
  · skip
    refine r_aload_n hC (q := 13) dX0_tailSharedWith_12 rfl rfl ?_
    refine g_X0 hC 5 i_X0 l_27 (by decide) (q := 16) dX0_tailSharedWith_13 hk rfl rfl ?_
    refine r_top (y := nI n) hn ?_
    refine r_aload_n hC (q := 17) dX0_tailSharedWith_16 rfl rfl ?_
    refine g_X0 hC 5 i_X0 l_27 (by decide) (q := 20) dX0_tailSharedWith_17 hk2 rfl rfl ?_
    refine r_top (y := nI n2) hn2 ?_
    refine r_min hC (q := 23) (by decide +kernel) (by decide +kernel) (by decide +kernel) (by decide +kernel) rfl (by decide) (Nat.le_of_ble_eq_true rfl) dX0_tailSharedWith_20 rfl ?_
    refine r_top (y := nI (min n n2)) (min_nI (by omega) (by omega)) ?_
    refine r_istore_n hC (q := 24) (L' := [_, _, _, _]) dX0_tailSharedWith_23 (Nat.le_of_ble_eq_true rfl) rfl rfl ?_
    refine r_iconst hC (x := 0) (q := 25) dX0_tailSharedWith_24 (by decide) rfl ?_
    refine r_istore_n hC (q := 26) (L' := [_, _, _, _]) dX0_tailSharedWith_25 (Nat.le_of_ble_eq_true rfl) rfl rfl ?_
    exact lp_X0_tailSharedWith (m := min n n2) hC hR hk hk2 hn hn2 h1 h2 (Nat.min_le_left _ _) (Nat.min_le_right _ _) (min n n2) 0 (by omega) ⟨by rw [tl, if_pos h5]; rfl, rfl⟩
  · skip
    refine r_sipush hC (x := (-1005)) (q := 11) dX0_tailSharedWith_8 (by decide) rfl ?_
    exact hR _ _ _ _ dX0_tailSharedWith_11 ⟨by rw [tl, if_neg h5], rfl⟩
theorem c_X0_tailSharedWith (l : Launch) {G : GG} {v : VV} {k : Nat} {k2 n n2 : Nat} (hk : isBk k) (hk2 : isBk k2) (hn : v k 5 = nI n) (hn2 : v k2 5 = nI n2) (h1 : n ≤ 10) (h2 : n2 ≤ 10) : MtI l G yX0_tailSharedWith wsX0_tailSharedWith 1 24 [.ref (G.1 k), .ref (G.1 k2)] v (fun r v' => r = tl (bw v k n) (bw v k2 n2) ∧ v = v') := mt_int (Or.inl rfl) (by decide) rfl (by simp [Value.category]) (Nat.le_of_ble_eq_true rfl) rfl rfl (fun E hC hR => b_X0_tailSharedWith hC hR hk hk2 hn hn2 h1 h2)

def ptF (x y : Bv) : Nat → Nat → Bool → Nat × Bool
  | 0, t, df => (t, df)
  | f + 1, t, df => if pfit x y (t + 1) df = true then ptF x y f (t + 1) (df || !(eqAb x y (t + 1))) else (t, df)
def pt (x y : Bv) : Int32 := if x.2.2 0 = 2 ∧ eqTb x y = true then (if (ptF x y (min x.1 y.1) 0 false).2 = true then nI (ptF x y (min x.1 y.1) 0 false).1 else -1005) else -1005
def ptR (q : Nat × Bool) : Int32 := if q.2 = true then nI q.1 else -1005

set_option maxRecDepth 100000 in
set_option maxHeartbeats 4000000 in
theorem lp_X0_parameterTailWith {E : TE} {G : GG} {v : VV} {k k2 n n2 m : Nat} {post : Int32 → VV → Prop} (hC : Cx E G cX0_parameterTailWith RX0 5 wsX0_parameterTailWith 2 47) (hR : RtI E G cX0_parameterTailWith post) (hk : isBk k) (hk2 : isBk k2) (hn : v k 5 = nI n) (hn2 : v k2 5 = nI n2) (h1 : n ≤ 10) (h2 : n2 ≤ 10) (hm1 : m ≤ n) (hm2 : m ≤ n2) : ∀ (f t : Nat) (df : Bool) (z : Int32), z = bI df → t + f = m → post (ptR (ptF (bw v k n) (bw v k2 n2) f t df)) v → Wv E G v 37 [some (.ref (G.1 k)), some (.ref (G.1 k2)), some (.int (nI m)), some (.int (nI t)), some (.int z)] [] := by
  have hend : ∀ (t : Nat) (df : Bool) (z : Int32), z = bI df → post (ptR (t, df)) v → Wv E G v 82 [some (.ref (G.1 k)), some (.ref (G.1 k2)), some (.int (nI m)), some (.int (nI t)), some (.int z)] [] := by
    intro t df z hz hpost
    refine r_iload hC (q := 84) dX0_parameterTailWith_82 rfl rfl ?_
    refine r_if_eq hC (q := 87) (t := 91) dX0_parameterTailWith_84 (by decide) rfl (fun h84 => ?_) (fun h84 => ?_)
    · have hdf : df = false := by cases df <;> simp [hz] at h84 ⊢
      refine r_sipush hC (x := (-1005)) (q := 94) dX0_parameterTailWith_91 (by decide) rfl ?_
      exact hR _ _ _ _ dX0_parameterTailWith_94 (by rw [ptR, hdf] at hpost; exact hpost)
    · have hdf : df = true := by cases df <;> simp [hz] at h84 ⊢
      refine r_iload_n hC (q := 88) dX0_parameterTailWith_87 rfl rfl ?_
      refine r_goto hC (t := 94) dX0_parameterTailWith_88 (by decide) ?_
      exact hR _ _ _ _ dX0_parameterTailWith_94 (by rw [ptR, hdf] at hpost; exact hpost)
  intro f
  induction f with
  | zero =>
    intro t df z hz htf hpost
    refine r_iload_n hC (q := 38) dX0_parameterTailWith_37 rfl rfl ?_
    refine r_iload_n hC (q := 39) dX0_parameterTailWith_38 rfl rfl ?_
    refine r_icmp_geN hC (q := 42) (t := 82) dX0_parameterTailWith_39 rfl rfl (by omega) (by omega) (by decide) rfl (fun h39 => ?_) (fun h39 => ?_)
    · skip
      exact hend t df z hz hpost
    · skip
      omega
  | succ f ih =>
    intro t df z hz htf hpost
    refine r_iload_n hC (q := 38) dX0_parameterTailWith_37 rfl rfl ?_
    refine r_iload_n hC (q := 39) dX0_parameterTailWith_38 rfl rfl ?_
    refine r_icmp_geN hC (q := 42) (t := 82) dX0_parameterTailWith_39 rfl rfl (by omega) (by omega) (by decide) rfl (fun h39 => ?_) (fun h39 => ?_)
    · skip
      omega
    · skip
      refine r_aload_n hC (q := 43) dX0_parameterTailWith_42 rfl rfl ?_
      refine r_aload_n hC (q := 44) dX0_parameterTailWith_43 rfl rfl ?_
      refine r_iload_n hC (q := 45) dX0_parameterTailWith_44 rfl rfl ?_
      refine r_iconst hC (x := 1) (q := 46) dX0_parameterTailWith_45 (by decide) rfl ?_
      refine r_iaddN hC (q := 47) (b := 1) dX0_parameterTailWith_46 rfl rfl rfl ?_
      refine r_iload hC (q := 49) dX0_parameterTailWith_47 rfl rfl ?_
      refine r_cVI hC (q := 52) (n := 3) (As := [_, _, _]) (fun l => c_X0_fitsParameterTail l (n := n) (n2 := n2) (b := t + 1) (df := df) hk hk2 hn hn2 h1 h2 (by omega) (by omega) (by omega) hz) gX0_parameterTailWith_X0_fitsParameterTail rfl (by decide +kernel) ⟨by decide, by decide⟩ (ob_b hk) rfl rfl rfl rfl (Nat.le_of_ble_eq_true rfl) dX0_parameterTailWith_49 rfl ?_
      rintro _ _ ⟨rfl, rfl⟩
      refine r_if_eqB hC (q := 55) (t := 82) dX0_parameterTailWith_52 (by decide) rfl (fun h52 => ?_) (fun h52 => ?_)
      · skip
        exact hend t df z hz (by rw [ptF, if_neg h52] at hpost; exact hpost)
      · skip
        refine r_iincN hC (q := 58) (L' := [_, _, _, _, _]) (c := 1) dX0_parameterTailWith_55 rfl rfl rfl rfl rfl ?_
        refine r_iload hC (q := 60) dX0_parameterTailWith_58 rfl rfl ?_
        refine r_if_ne hC (q := 63) (t := 72) dX0_parameterTailWith_60 (by decide) rfl (fun h60 => ?_) (fun h60 => ?_)
        · have hdf : df = true := by cases df <;> simp [hz] at h60 ⊢
          refine r_iconst hC (x := 1) (q := 73) dX0_parameterTailWith_72 (by decide) rfl ?_
          refine r_goto hC (t := 77) dX0_parameterTailWith_73 (by decide) ?_
          refine r_istore hC (q := 79) (L' := [_, _, _, _, _]) dX0_parameterTailWith_77 (Nat.le_of_ble_eq_true rfl) rfl rfl ?_
          refine r_goto hC (t := 37) dX0_parameterTailWith_79 (by decide) ?_
          exact ih (t + 1) (df || !(eqAb (bw v k n) (bw v k2 n2) (t + 1))) _ (by simp [bI, hdf, h39, h52, h60]) (by omega) (by rw [ptF, if_pos h52] at hpost; exact hpost)
        · have hdf : df = false := by cases df <;> simp [hz] at h60 ⊢
          refine r_aload_n hC (q := 64) dX0_parameterTailWith_63 rfl rfl ?_
          refine r_aload_n hC (q := 65) dX0_parameterTailWith_64 rfl rfl ?_
          refine r_iload_n hC (q := 66) dX0_parameterTailWith_65 rfl rfl ?_
          refine r_cVI hC (q := 69) (n := 2) (As := [_, _]) (fun l => c_X0_isEqualAt l (n := n) (n2 := n2) (b := t + 1) hk hk2 hn hn2 h1 h2 (by omega) (by omega) (by omega)) gX0_parameterTailWith_X0_isEqualAt rfl (by decide +kernel) ⟨by decide, by decide⟩ (ob_b hk) rfl rfl rfl rfl (Nat.le_of_ble_eq_true rfl) dX0_parameterTailWith_66 rfl ?_
          rintro _ _ ⟨rfl, rfl⟩
          refine r_if_neB hC (q := 72) (t := 76) dX0_parameterTailWith_69 (by decide) rfl (fun h69 => ?_) (fun h69 => ?_)
          · skip
            refine r_iconst hC (x := 0) (q := 77) dX0_parameterTailWith_76 (by decide) rfl ?_
            refine r_istore hC (q := 79) (L' := [_, _, _, _, _]) dX0_parameterTailWith_77 (Nat.le_of_ble_eq_true rfl) rfl rfl ?_
            refine r_goto hC (t := 37) dX0_parameterTailWith_79 (by decide) ?_
            exact ih (t + 1) (df || !(eqAb (bw v k n) (bw v k2 n2) (t + 1))) _ (by simp [bI, hdf, h39, h52, h60, h69]) (by omega) (by rw [ptF, if_pos h52] at hpost; exact hpost)
          · skip
            refine r_iconst hC (x := 1) (q := 73) dX0_parameterTailWith_72 (by decide) rfl ?_
            refine r_goto hC (t := 77) dX0_parameterTailWith_73 (by decide) ?_
            refine r_istore hC (q := 79) (L' := [_, _, _, _, _]) dX0_parameterTailWith_77 (Nat.le_of_ble_eq_true rfl) rfl rfl ?_
            refine r_goto hC (t := 37) dX0_parameterTailWith_79 (by decide) ?_
            exact ih (t + 1) (df || !(eqAb (bw v k n) (bw v k2 n2) (t + 1))) _ (by simp [bI, hdf, h39, h52, h60, h69]) (by omega) (by rw [ptF, if_pos h52] at hpost; exact hpost)

set_option maxRecDepth 100000 in
set_option maxHeartbeats 4000000 in
theorem b_X0_parameterTailWith {E : TE} {G : GG} {v : VV} {k : Nat} {k2 n n2 : Nat} (hC : Cx E G cX0_parameterTailWith RX0 5 wsX0_parameterTailWith 2 47) (hR : RtI E G cX0_parameterTailWith (fun r v' => r = pt (bw v k n) (bw v k2 n2) ∧ v = v')) (hk : isBk k) (hk2 : isBk k2) (hn : v k 5 = nI n) (hn2 : v k2 5 = nI n2) (h1 : n ≤ 10) (h2 : n2 ≤ 10) : Wv E G v 0 [some (.ref (G.1 k)), some (.ref (G.1 k2)), none, none, none] [] := by
  have i_X0 : ∀ w ∈ wsX00, w ∈ wsX0_parameterTailWith := by decide +kernel
  have l_27 : lnk E RX0 27 (TX0 5) := hC.fl (by decide +kernel)
  have l_31 : lnk E RX0 31 (TX0 6) := hC.fl (by decide +kernel)
  refine r_aload_n hC (q := 1) dX0_parameterTailWith_0 rfl rfl ?_
  refine g_X0 hC 6 i_X0 l_31 (by decide) (q := 4) dX0_parameterTailWith_1 hk rfl rfl ?_
  refine r_iconst hC (x := 2) (q := 5) dX0_parameterTailWith_4 (by decide) rfl ?_
  refine r_icmp_ne hC (q := 8) (t := 16) dX0_parameterTailWith_5 (by decide) rfl (fun h5 => ?_) (fun h5 => ?_)
  · skip
    refine r_sipush hC (x := (-1005)) (q := 19) dX0_parameterTailWith_16 (by decide) rfl ?_
    exact hR _ _ _ _ dX0_parameterTailWith_19 ⟨by first | rw [pt, if_neg (fun e => h5 e.1)] | rw [pt, if_neg (fun e => h13 e.2)], rfl⟩
  · skip
    refine r_aload_n hC (q := 9) dX0_parameterTailWith_8 rfl rfl ?_
    refine r_aload_n hC (q := 10) dX0_parameterTailWith_9 rfl rfl ?_
    refine r_cVI hC (q := 13) (n := 1) (As := [_]) (fun l => c_X0_hasTerminatorOf l (n := n) (n2 := n2) hk hk2) gX0_parameterTailWith_X0_hasTerminatorOf rfl (by decide +kernel) ⟨by decide, by decide⟩ (ob_b hk) rfl rfl rfl rfl (Nat.le_of_ble_eq_true rfl) dX0_parameterTailWith_10 rfl ?_
    rintro _ _ ⟨rfl, rfl⟩
    refine r_if_neB hC (q := 16) (t := 20) dX0_parameterTailWith_13 (by decide) rfl (fun h13 => ?_) (fun h13 => ?_)
    · skip
      refine r_aload_n hC (q := 21) dX0_parameterTailWith_20 rfl rfl ?_
      refine g_X0 hC 5 i_X0 l_27 (by decide) (q := 24) dX0_parameterTailWith_21 hk rfl rfl ?_
      refine r_top (y := nI n) hn ?_
      refine r_aload_n hC (q := 25) dX0_parameterTailWith_24 rfl rfl ?_
      refine g_X0 hC 5 i_X0 l_27 (by decide) (q := 28) dX0_parameterTailWith_25 hk2 rfl rfl ?_
      refine r_top (y := nI n2) hn2 ?_
      refine r_min hC (q := 31) (by decide +kernel) (by decide +kernel) (by decide +kernel) (by decide +kernel) rfl (by decide) (Nat.le_of_ble_eq_true rfl) dX0_parameterTailWith_28 rfl ?_
      refine r_top (y := nI (min n n2)) (min_nI (by omega) (by omega)) ?_
      refine r_istore_n hC (q := 32) (L' := [_, _, _, _, _]) dX0_parameterTailWith_31 (Nat.le_of_ble_eq_true rfl) rfl rfl ?_
      refine r_iconst hC (x := 0) (q := 33) dX0_parameterTailWith_32 (by decide) rfl ?_
      refine r_istore_n hC (q := 34) (L' := [_, _, _, _, _]) dX0_parameterTailWith_33 (Nat.le_of_ble_eq_true rfl) rfl rfl ?_
      refine r_iconst hC (x := 0) (q := 35) dX0_parameterTailWith_34 (by decide) rfl ?_
      refine r_istore hC (q := 37) (L' := [_, _, _, _, _]) dX0_parameterTailWith_35 (Nat.le_of_ble_eq_true rfl) rfl rfl ?_
      exact lp_X0_parameterTailWith (m := min n n2) hC hR hk hk2 hn hn2 h1 h2 (Nat.min_le_left _ _) (Nat.min_le_right _ _) (min n n2) 0 false 0 rfl (by omega) ⟨by rw [pt, if_pos ⟨h5, h13⟩]; rfl, rfl⟩
    · skip
      refine r_sipush hC (x := (-1005)) (q := 19) dX0_parameterTailWith_16 (by decide) rfl ?_
      exact hR _ _ _ _ dX0_parameterTailWith_19 ⟨by first | rw [pt, if_neg (fun e => h5 e.1)] | rw [pt, if_neg (fun e => h13 e.2)], rfl⟩
theorem c_X0_parameterTailWith (l : Launch) {G : GG} {v : VV} {k : Nat} {k2 n n2 : Nat} (hk : isBk k) (hk2 : isBk k2) (hn : v k 5 = nI n) (hn2 : v k2 5 = nI n2) (h1 : n ≤ 10) (h2 : n2 ≤ 10) : MtI l G yX0_parameterTailWith wsX0_parameterTailWith 2 47 [.ref (G.1 k), .ref (G.1 k2)] v (fun r v' => r = pt (bw v k n) (bw v k2 n2) ∧ v = v') := mt_int (Or.inl rfl) (by decide) rfl (by simp [Value.category]) (Nat.le_of_ble_eq_true rfl) rfl rfl (fun E hC hR => b_X0_parameterTailWith hC hR hk hk2 hn hn2 h1 h2)

def hsI (x : Bv) : Nat → Nat → Int32 → Int32
  | 0, _, h => h
  | f + 1, i, h => hsI x f (i + 1) (31 * (31 * (31 * (31 * h + x.2.1 0 i) + x.2.1 1 i) + x.2.1 2 i) + x.2.1 3 i)
def hsT (x : Bv) (h : Int32) : Int32 := 31 * (31 * (31 * (31 * h + x.2.2 0) + x.2.2 1) + x.2.2 2) + x.2.2 3
def hsh (x : Bv) (m : Nat) : Int32 := hsT x (hsI x m (x.1 - m) 17) &&& 2147483647
def hsO (v : VV) (k : Nat) : Nat → Nat → Int32 → Int32
  | 0, _, h => h
  | f + 1, j, h => hsO v k f (j + 1) (31 * h + v (k + 6) j)

set_option maxRecDepth 100000 in
set_option maxHeartbeats 4000000 in
theorem lp2_X0_hashOfTail {E : TE} {G : GG} {v : VV} {k : Nat} {x : Int32} {post : Int32 → VV → Prop} (hC : Cx E G cX0_hashOfTail RX0 4 wsX0_hashOfTail 0 0) (hR : RtI E G cX0_hashOfTail post) (hk : isBk k) : ∀ (f i : Nat) (h : Int32), i + f = 3 → post (hsO v k f i h &&& 2147483647) v → Wv E G v 84 [some (.ref (G.1 k)), some (.int x), some (.int h), some (.int (nI i))] [] := by
  intro f
  induction f with
  | zero =>
    intro i h hif hpost
    refine r_iload_n hC (q := 85) dX0_hashOfTail_84 rfl rfl ?_
    refine r_iconst hC (x := 3) (q := 86) dX0_hashOfTail_85 (by decide) rfl ?_
    refine r_icmp_geN hC (q := 89) (t := 107) (b := 3) dX0_hashOfTail_86 rfl rfl (by omega) (by omega) (by decide) rfl (fun h86 => ?_) (fun h86 => ?_)
    · skip
      refine r_iload_n hC (q := 108) dX0_hashOfTail_107 rfl rfl ?_
      refine r_ldc hC (x := 2147483647) (q := 110) (by decide +kernel) dX0_hashOfTail_108 rfl ?_
      refine r_iand hC (q := 111) dX0_hashOfTail_110 rfl ?_
      exact hR _ _ _ _ dX0_hashOfTail_111 hpost
    · skip
      omega
  | succ f ih =>
    intro i h hif hpost
    have i_X0 : ∀ w ∈ wsX00, w ∈ wsX0_hashOfTail := by decide +kernel
    have l_34 : lnk E RX0 34 (TX0 7) := hC.fl (by decide +kernel)
    refine r_iload_n hC (q := 85) dX0_hashOfTail_84 rfl rfl ?_
    refine r_iconst hC (x := 3) (q := 86) dX0_hashOfTail_85 (by decide) rfl ?_
    refine r_icmp_geN hC (q := 89) (t := 107) (b := 3) dX0_hashOfTail_86 rfl rfl (by omega) (by omega) (by decide) rfl (fun h86 => ?_) (fun h86 => ?_)
    · skip
      omega
    · skip
      refine r_bipush hC (x := 31) (q := 91) dX0_hashOfTail_89 (by decide) rfl ?_
      refine r_iload_n hC (q := 92) dX0_hashOfTail_91 rfl rfl ?_
      refine r_imul hC (q := 93) dX0_hashOfTail_92 rfl ?_
      refine r_aload_n hC (q := 94) dX0_hashOfTail_93 rfl rfl ?_
      refine g_X0 hC 7 i_X0 l_34 (by decide) (q := 97) dX0_hashOfTail_94 hk rfl rfl ?_
      refine r_iload_n hC (q := 98) dX0_hashOfTail_97 rfl rfl ?_
      refine r_iaN hC (q := 99) dX0_hashOfTail_98 (iA_b6 hk) rfl (by omega) rfl ?_
      refine r_iadd hC (q := 100) dX0_hashOfTail_99 rfl ?_
      refine r_istore_n hC (q := 101) (L' := [_, _, _, _]) dX0_hashOfTail_100 (Nat.le_of_ble_eq_true rfl) rfl rfl ?_
      refine r_iincN hC (q := 104) (L' := [_, _, _, _]) (c := 1) dX0_hashOfTail_101 rfl rfl rfl rfl rfl ?_
      refine r_goto hC (t := 84) dX0_hashOfTail_104 (by decide) ?_
      exact ih (i + 1) _ (by omega) hpost

set_option maxRecDepth 100000 in
set_option maxHeartbeats 4000000 in
theorem lp_X0_hashOfTail {E : TE} {G : GG} {v : VV} {k n : Nat} {x : Int32} {post : Int32 → VV → Prop} (hC : Cx E G cX0_hashOfTail RX0 4 wsX0_hashOfTail 0 0) (hR : RtI E G cX0_hashOfTail post) (hk : isBk k) (hn : v k 5 = nI n) (h1 : n ≤ 10) : ∀ (f i : Nat) (h : Int32), i + f = n → post (hsT (bw v k n) (hsI (bw v k n) f i h) &&& 2147483647) v → Wv E G v 10 [some (.ref (G.1 k)), some (.int x), some (.int h), some (.int (nI i))] [] := by
  intro f
  induction f with
  | zero =>
    intro i h hif hpost
    have i_X0 : ∀ w ∈ wsX00, w ∈ wsX0_hashOfTail := by decide +kernel
    have l_27 : lnk E RX0 27 (TX0 5) := hC.fl (by decide +kernel)
    have l_31 : lnk E RX0 31 (TX0 6) := hC.fl (by decide +kernel)
    refine r_iload_n hC (q := 11) dX0_hashOfTail_10 rfl rfl ?_
    refine r_aload_n hC (q := 12) dX0_hashOfTail_11 rfl rfl ?_
    refine g_X0 hC 5 i_X0 l_27 (by decide) (q := 15) dX0_hashOfTail_12 hk rfl rfl ?_
    refine r_top (y := nI n) hn ?_
    refine r_icmp_geN hC (q := 18) (t := 72) dX0_hashOfTail_15 rfl rfl (by omega) (by omega) (by decide) rfl (fun h15 => ?_) (fun h15 => ?_)
    · skip
      refine r_bipush hC (x := 31) (q := 74) dX0_hashOfTail_72 (by decide) rfl ?_
      refine r_iload_n hC (q := 75) dX0_hashOfTail_74 rfl rfl ?_
      refine r_imul hC (q := 76) dX0_hashOfTail_75 rfl ?_
      refine r_aload_n hC (q := 77) dX0_hashOfTail_76 rfl rfl ?_
      refine g_X0 hC 6 i_X0 l_31 (by decide) (q := 80) dX0_hashOfTail_77 hk rfl rfl ?_
      refine r_iadd hC (q := 81) dX0_hashOfTail_80 rfl ?_
      refine r_istore_n hC (q := 82) (L' := [_, _, _, _]) dX0_hashOfTail_81 (Nat.le_of_ble_eq_true rfl) rfl rfl ?_
      refine r_iconst hC (x := 0) (q := 83) dX0_hashOfTail_82 (by decide) rfl ?_
      refine r_istore_n hC (q := 84) (L' := [_, _, _, _]) dX0_hashOfTail_83 (Nat.le_of_ble_eq_true rfl) rfl rfl ?_
      exact lp2_X0_hashOfTail hC hR hk 3 0 _ rfl hpost
    · skip
      omega
  | succ f ih =>
    intro i h hif hpost
    have i_X0 : ∀ w ∈ wsX00, w ∈ wsX0_hashOfTail := by decide +kernel
    have l_9 : lnk E RX0 9 (TX0 0) := hC.fl (by decide +kernel)
    have l_15 : lnk E RX0 15 (TX0 1) := hC.fl (by decide +kernel)
    have l_18 : lnk E RX0 18 (TX0 2) := hC.fl (by decide +kernel)
    have l_21 : lnk E RX0 21 (TX0 3) := hC.fl (by decide +kernel)
    have l_27 : lnk E RX0 27 (TX0 5) := hC.fl (by decide +kernel)
    refine r_iload_n hC (q := 11) dX0_hashOfTail_10 rfl rfl ?_
    refine r_aload_n hC (q := 12) dX0_hashOfTail_11 rfl rfl ?_
    refine g_X0 hC 5 i_X0 l_27 (by decide) (q := 15) dX0_hashOfTail_12 hk rfl rfl ?_
    refine r_top (y := nI n) hn ?_
    refine r_icmp_geN hC (q := 18) (t := 72) dX0_hashOfTail_15 rfl rfl (by omega) (by omega) (by decide) rfl (fun h15 => ?_) (fun h15 => ?_)
    · skip
      omega
    · skip
      refine r_bipush hC (x := 31) (q := 20) dX0_hashOfTail_18 (by decide) rfl ?_
      refine r_iload_n hC (q := 21) dX0_hashOfTail_20 rfl rfl ?_
      refine r_imul hC (q := 22) dX0_hashOfTail_21 rfl ?_
      refine r_aload_n hC (q := 23) dX0_hashOfTail_22 rfl rfl ?_
      refine g_X0 hC 0 i_X0 l_9 (by decide) (q := 26) dX0_hashOfTail_23 hk rfl rfl ?_
      refine r_iload_n hC (q := 27) dX0_hashOfTail_26 rfl rfl ?_
      refine r_iaN hC (q := 28) dX0_hashOfTail_27 (iA_b1 hk) rfl (by omega) rfl ?_
      refine r_iadd hC (q := 29) dX0_hashOfTail_28 rfl ?_
      refine r_istore_n hC (q := 30) (L' := [_, _, _, _]) dX0_hashOfTail_29 (Nat.le_of_ble_eq_true rfl) rfl rfl ?_
      refine r_bipush hC (x := 31) (q := 32) dX0_hashOfTail_30 (by decide) rfl ?_
      refine r_iload_n hC (q := 33) dX0_hashOfTail_32 rfl rfl ?_
      refine r_imul hC (q := 34) dX0_hashOfTail_33 rfl ?_
      refine r_aload_n hC (q := 35) dX0_hashOfTail_34 rfl rfl ?_
      refine g_X0 hC 1 i_X0 l_15 (by decide) (q := 38) dX0_hashOfTail_35 hk rfl rfl ?_
      refine r_iload_n hC (q := 39) dX0_hashOfTail_38 rfl rfl ?_
      refine r_iaN hC (q := 40) dX0_hashOfTail_39 (iA_b2 hk) rfl (by omega) rfl ?_
      refine r_iadd hC (q := 41) dX0_hashOfTail_40 rfl ?_
      refine r_istore_n hC (q := 42) (L' := [_, _, _, _]) dX0_hashOfTail_41 (Nat.le_of_ble_eq_true rfl) rfl rfl ?_
      refine r_bipush hC (x := 31) (q := 44) dX0_hashOfTail_42 (by decide) rfl ?_
      refine r_iload_n hC (q := 45) dX0_hashOfTail_44 rfl rfl ?_
      refine r_imul hC (q := 46) dX0_hashOfTail_45 rfl ?_
      refine r_aload_n hC (q := 47) dX0_hashOfTail_46 rfl rfl ?_
      refine g_X0 hC 2 i_X0 l_18 (by decide) (q := 50) dX0_hashOfTail_47 hk rfl rfl ?_
      refine r_iload_n hC (q := 51) dX0_hashOfTail_50 rfl rfl ?_
      refine r_iaN hC (q := 52) dX0_hashOfTail_51 (iA_b3 hk) rfl (by omega) rfl ?_
      refine r_iadd hC (q := 53) dX0_hashOfTail_52 rfl ?_
      refine r_istore_n hC (q := 54) (L' := [_, _, _, _]) dX0_hashOfTail_53 (Nat.le_of_ble_eq_true rfl) rfl rfl ?_
      refine r_bipush hC (x := 31) (q := 56) dX0_hashOfTail_54 (by decide) rfl ?_
      refine r_iload_n hC (q := 57) dX0_hashOfTail_56 rfl rfl ?_
      refine r_imul hC (q := 58) dX0_hashOfTail_57 rfl ?_
      refine r_aload_n hC (q := 59) dX0_hashOfTail_58 rfl rfl ?_
      refine g_X0 hC 3 i_X0 l_21 (by decide) (q := 62) dX0_hashOfTail_59 hk rfl rfl ?_
      refine r_iload_n hC (q := 63) dX0_hashOfTail_62 rfl rfl ?_
      refine r_iaN hC (q := 64) dX0_hashOfTail_63 (iA_b4 hk) rfl (by omega) rfl ?_
      refine r_iadd hC (q := 65) dX0_hashOfTail_64 rfl ?_
      refine r_istore_n hC (q := 66) (L' := [_, _, _, _]) dX0_hashOfTail_65 (Nat.le_of_ble_eq_true rfl) rfl rfl ?_
      refine r_iincN hC (q := 69) (L' := [_, _, _, _]) (c := 1) dX0_hashOfTail_66 rfl rfl rfl rfl rfl ?_
      refine r_goto hC (t := 10) dX0_hashOfTail_69 (by decide) ?_
      exact ih (i + 1) _ (by omega) hpost

set_option maxRecDepth 100000 in
set_option maxHeartbeats 4000000 in
theorem b_X0_hashOfTail {E : TE} {G : GG} {v : VV} {k : Nat} {n m : Nat} (hC : Cx E G cX0_hashOfTail RX0 4 wsX0_hashOfTail 0 0) (hR : RtI E G cX0_hashOfTail (fun r v' => r = hsh (bw v k n) m ∧ v = v')) (hk : isBk k) (hn : v k 5 = nI n) (h1 : n ≤ 10) (hm : m ≤ n) : Wv E G v 0 [some (.ref (G.1 k)), some (.int (nI m)), none, none] [] := by
  have i_X0 : ∀ w ∈ wsX00, w ∈ wsX0_hashOfTail := by decide +kernel
  have l_27 : lnk E RX0 27 (TX0 5) := hC.fl (by decide +kernel)
  refine r_bipush hC (x := 17) (q := 2) dX0_hashOfTail_0 (by decide) rfl ?_
  refine r_istore_n hC (q := 3) (L' := [_, _, _, _]) dX0_hashOfTail_2 (Nat.le_of_ble_eq_true rfl) rfl rfl ?_
  refine r_aload_n hC (q := 4) dX0_hashOfTail_3 rfl rfl ?_
  refine g_X0 hC 5 i_X0 l_27 (by decide) (q := 7) dX0_hashOfTail_4 hk rfl rfl ?_
  refine r_top (y := nI n) hn ?_
  refine r_iload_n hC (q := 8) dX0_hashOfTail_7 rfl rfl ?_
  refine r_isubN hC (q := 9) dX0_hashOfTail_8 rfl rfl (by omega) rfl ?_
  refine r_istore_n hC (q := 10) (L' := [_, _, _, _]) dX0_hashOfTail_9 (Nat.le_of_ble_eq_true rfl) rfl rfl ?_
  exact lp_X0_hashOfTail hC hR hk hn h1 m (n - m) 17 (by omega) ⟨rfl, rfl⟩
theorem c_X0_hashOfTail (l : Launch) {G : GG} {v : VV} {k : Nat} {n m : Nat} (hk : isBk k) (hn : v k 5 = nI n) (h1 : n ≤ 10) (hm : m ≤ n) : MtI l G yX0_hashOfTail wsX0_hashOfTail 0 0 [.ref (G.1 k), .int (nI m)] v (fun r v' => r = hsh (bw v k n) m ∧ v = v') := mt_int (Or.inl rfl) (by decide) rfl (by simp [Value.category]) (Nat.le_of_ble_eq_true rfl) rfl rfl (fun E hC hR => b_X0_hashOfTail hC hR hk hn h1 hm)
end
