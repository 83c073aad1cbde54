-- ===== PART A: goes FIRST, ahead of the names: the tables' words, and 'selects' of the private methods out of them =====
/-- a private method of a class that the tables say can be made, by its rows of tables_1 -/
def lw_okq (q : MethodName × Nat) : Prop := (q.1.cls ≠ "java/lang/invoke/MethodHandle" ∧ q.1.cls ≠ "java/lang/invoke/VarHandle") ∧ Cond.instantiable q.1.cls q.2 ∈ tables_1 ∧ Cond.privateMethod q.1 ∈ tables_1 ∧ Cond.instanceMethod q.1 ∈ tables_1
theorem lw_p0 : lw_okq (⟨"LeastCost$Problem", "addTerm", "(II)Z"⟩, 9) := ⟨⟨by decide +kernel, by decide +kernel⟩, List.mem_of_getElem? (i := 17) (by decide +kernel), List.mem_of_getElem? (i := 212) (by decide +kernel), List.mem_of_getElem? (i := 213) (by decide +kernel)⟩
theorem lw_p1 : lw_okq (⟨"LeastCost$Problem", "makeConstraint", "(I)I"⟩, 9) := ⟨⟨by decide +kernel, by decide +kernel⟩, List.mem_of_getElem? (i := 17) (by decide +kernel), List.mem_of_getElem? (i := 225) (by decide +kernel), List.mem_of_getElem? (i := 226) (by decide +kernel)⟩
theorem lw_p2 : lw_okq (⟨"LeastCost$Search", "advance", "(I)I"⟩, 11) := ⟨⟨by decide +kernel, by decide +kernel⟩, List.mem_of_getElem? (i := 68) (by decide +kernel), List.mem_of_getElem? (i := 233) (by decide +kernel), List.mem_of_getElem? (i := 234) (by decide +kernel)⟩
theorem lw_p3 : lw_okq (⟨"LeastCost$Search", "step", "()V"⟩, 11) := ⟨⟨by decide +kernel, by decide +kernel⟩, List.mem_of_getElem? (i := 68) (by decide +kernel), List.mem_of_getElem? (i := 237) (by decide +kernel), List.mem_of_getElem? (i := 238) (by decide +kernel)⟩
theorem lw_p4 : lw_okq (⟨"LeastCost$Problem", "isBroken", "(LLeastCost$Setting;I)Z"⟩, 9) := ⟨⟨by decide +kernel, by decide +kernel⟩, List.mem_of_getElem? (i := 17) (by decide +kernel), List.mem_of_getElem? (i := 245) (by decide +kernel), List.mem_of_getElem? (i := 246) (by decide +kernel)⟩
theorem lw_p5 : lw_okq (⟨"LeastCost$Problem", "slackOf", "(ILLeastCost$Setting;)I"⟩, 9) := ⟨⟨by decide +kernel, by decide +kernel⟩, List.mem_of_getElem? (i := 17) (by decide +kernel), List.mem_of_getElem? (i := 249) (by decide +kernel), List.mem_of_getElem? (i := 250) (by decide +kernel)⟩
theorem lw_p6 : lw_okq (⟨"LeastCost$Problem", "limitSlack", "(LLeastCost$Setting;I)I"⟩, 9) := ⟨⟨by decide +kernel, by decide +kernel⟩, List.mem_of_getElem? (i := 17) (by decide +kernel), List.mem_of_getElem? (i := 253) (by decide +kernel), List.mem_of_getElem? (i := 254) (by decide +kernel)⟩
theorem lw_p7 : lw_okq (⟨"LeastCost$Problem", "costOf", "(I)I"⟩, 9) := ⟨⟨by decide +kernel, by decide +kernel⟩, List.mem_of_getElem? (i := 17) (by decide +kernel), List.mem_of_getElem? (i := 257) (by decide +kernel), List.mem_of_getElem? (i := 258) (by decide +kernel)⟩
theorem lw_p8 : lw_okq (⟨"LeastCost$Search", "goBack", "()V"⟩, 11) := ⟨⟨by decide +kernel, by decide +kernel⟩, List.mem_of_getElem? (i := 68) (by decide +kernel), List.mem_of_getElem? (i := 261) (by decide +kernel), List.mem_of_getElem? (i := 262) (by decide +kernel)⟩
theorem lw_p9 : lw_okq (⟨"LeastCost$Search", "writes", "(I)Z"⟩, 11) := ⟨⟨by decide +kernel, by decide +kernel⟩, List.mem_of_getElem? (i := 68) (by decide +kernel), List.mem_of_getElem? (i := 265) (by decide +kernel), List.mem_of_getElem? (i := 266) (by decide +kernel)⟩
theorem lw_p10 : lw_okq (⟨"LeastCost$Log", "append", "(I)Z"⟩, 2) := ⟨⟨by decide +kernel, by decide +kernel⟩, List.mem_of_getElem? (i := 53) (by decide +kernel), List.mem_of_getElem? (i := 269) (by decide +kernel), List.mem_of_getElem? (i := 270) (by decide +kernel)⟩
theorem lw_p11 : lw_okq (⟨"LeastCost$Search", "finish", "()V"⟩, 11) := ⟨⟨by decide +kernel, by decide +kernel⟩, List.mem_of_getElem? (i := 68) (by decide +kernel), List.mem_of_getElem? (i := 273) (by decide +kernel), List.mem_of_getElem? (i := 274) (by decide +kernel)⟩
theorem lw_p12 : lw_okq (⟨"LeastCost$Setting", "become", "(II)V"⟩, 2) := ⟨⟨by decide +kernel, by decide +kernel⟩, List.mem_of_getElem? (i := 74) (by decide +kernel), List.mem_of_getElem? (i := 277) (by decide +kernel), List.mem_of_getElem? (i := 278) (by decide +kernel)⟩
theorem lw_p13 : lw_okq (⟨"LeastCost$Setting", "makeTrue", "(I)V"⟩, 2) := ⟨⟨by decide +kernel, by decide +kernel⟩, List.mem_of_getElem? (i := 74) (by decide +kernel), List.mem_of_getElem? (i := 281) (by decide +kernel), List.mem_of_getElem? (i := 282) (by decide +kernel)⟩
theorem lw_p14 : lw_okq (⟨"LeastCost$Problem", "forcedLiteral", "(LLeastCost$Setting;I)I"⟩, 9) := ⟨⟨by decide +kernel, by decide +kernel⟩, List.mem_of_getElem? (i := 17) (by decide +kernel), List.mem_of_getElem? (i := 287) (by decide +kernel), List.mem_of_getElem? (i := 288) (by decide +kernel)⟩
theorem lw_p15 : lw_okq (⟨"LeastCost$Problem", "forcedBy", "(ILLeastCost$Setting;)I"⟩, 9) := ⟨⟨by decide +kernel, by decide +kernel⟩, List.mem_of_getElem? (i := 17) (by decide +kernel), List.mem_of_getElem? (i := 291) (by decide +kernel), List.mem_of_getElem? (i := 292) (by decide +kernel)⟩
def lw_privs_1 : List (MethodName × Nat) := [(⟨"LeastCost$Problem", "addTerm", "(II)Z"⟩, 9), (⟨"LeastCost$Problem", "makeConstraint", "(I)I"⟩, 9), (⟨"LeastCost$Search", "advance", "(I)I"⟩, 11), (⟨"LeastCost$Search", "step", "()V"⟩, 11), (⟨"LeastCost$Problem", "isBroken", "(LLeastCost$Setting;I)Z"⟩, 9), (⟨"LeastCost$Problem", "slackOf", "(ILLeastCost$Setting;)I"⟩, 9), (⟨"LeastCost$Problem", "limitSlack", "(LLeastCost$Setting;I)I"⟩, 9), (⟨"LeastCost$Problem", "costOf", "(I)I"⟩, 9), (⟨"LeastCost$Search", "goBack", "()V"⟩, 11), (⟨"LeastCost$Search", "writes", "(I)Z"⟩, 11), (⟨"LeastCost$Log", "append", "(I)Z"⟩, 2), (⟨"LeastCost$Search", "finish", "()V"⟩, 11), (⟨"LeastCost$Setting", "become", "(II)V"⟩, 2), (⟨"LeastCost$Setting", "makeTrue", "(I)V"⟩, 2), (⟨"LeastCost$Problem", "forcedLiteral", "(LLeastCost$Setting;I)I"⟩, 9), (⟨"LeastCost$Problem", "forcedBy", "(ILLeastCost$Setting;)I"⟩, 9)]
theorem lw_r1 : ∀ q ∈ lw_privs_1, lw_okq q := List.forall_mem_cons.mpr ⟨lw_p0, List.forall_mem_cons.mpr ⟨lw_p1, List.forall_mem_cons.mpr ⟨lw_p2, List.forall_mem_cons.mpr ⟨lw_p3, List.forall_mem_cons.mpr ⟨lw_p4, List.forall_mem_cons.mpr ⟨lw_p5, List.forall_mem_cons.mpr ⟨lw_p6, List.forall_mem_cons.mpr ⟨lw_p7, List.forall_mem_cons.mpr ⟨lw_p8, List.forall_mem_cons.mpr ⟨lw_p9, List.forall_mem_cons.mpr ⟨lw_p10, List.forall_mem_cons.mpr ⟨lw_p11, List.forall_mem_cons.mpr ⟨lw_p12, List.forall_mem_cons.mpr ⟨lw_p13, List.forall_mem_cons.mpr ⟨lw_p14, List.forall_mem_cons.mpr ⟨lw_p15, fun _ h => absurd h List.not_mem_nil⟩⟩⟩⟩⟩⟩⟩⟩⟩⟩⟩⟩⟩⟩⟩⟩
theorem lw_p16 : lw_okq (⟨"LeastCost$Problem", "forcedByLimit", "(LLeastCost$Setting;I)I"⟩, 9) := ⟨⟨by decide +kernel, by decide +kernel⟩, List.mem_of_getElem? (i := 17) (by decide +kernel), List.mem_of_getElem? (i := 295) (by decide +kernel), List.mem_of_getElem? (i := 296) (by decide +kernel)⟩
theorem lw_p17 : lw_okq (⟨"LeastCost$Setting", "leastNotSet", "()I"⟩, 2) := ⟨⟨by decide +kernel, by decide +kernel⟩, List.mem_of_getElem? (i := 74) (by decide +kernel), List.mem_of_getElem? (i := 299) (by decide +kernel), List.mem_of_getElem? (i := 300) (by decide +kernel)⟩
theorem lw_p18 : lw_okq (⟨"LeastCost$Search", "choose", "(I)V"⟩, 11) := ⟨⟨by decide +kernel, by decide +kernel⟩, List.mem_of_getElem? (i := 68) (by decide +kernel), List.mem_of_getElem? (i := 303) (by decide +kernel), List.mem_of_getElem? (i := 304) (by decide +kernel)⟩
theorem lw_p19 : lw_okq (⟨"LeastCost$Search", "keepBest", "()V"⟩, 11) := ⟨⟨by decide +kernel, by decide +kernel⟩, List.mem_of_getElem? (i := 68) (by decide +kernel), List.mem_of_getElem? (i := 307) (by decide +kernel), List.mem_of_getElem? (i := 308) (by decide +kernel)⟩
theorem lw_p20 : lw_okq (⟨"LeastCost$Search", "isDone", "()Z"⟩, 11) := ⟨⟨by decide +kernel, by decide +kernel⟩, List.mem_of_getElem? (i := 68) (by decide +kernel), List.mem_of_getElem? (i := 316) (by decide +kernel), List.mem_of_getElem? (i := 317) (by decide +kernel)⟩
theorem lw_p21 : lw_okq (⟨"LeastCost$Log", "wordAt", "(I)I"⟩, 2) := ⟨⟨by decide +kernel, by decide +kernel⟩, List.mem_of_getElem? (i := 53) (by decide +kernel), List.mem_of_getElem? (i := 333) (by decide +kernel), List.mem_of_getElem? (i := 334) (by decide +kernel)⟩
theorem lw_p22 : lw_okq (⟨"LeastCost$Log", "has", "(I)Z"⟩, 2) := ⟨⟨by decide +kernel, by decide +kernel⟩, List.mem_of_getElem? (i := 53) (by decide +kernel), List.mem_of_getElem? (i := 337) (by decide +kernel), List.mem_of_getElem? (i := 338) (by decide +kernel)⟩
theorem lw_p23 : lw_okq (⟨"LeastCost$Log", "replace", "(II)Z"⟩, 2) := ⟨⟨by decide +kernel, by decide +kernel⟩, List.mem_of_getElem? (i := 53) (by decide +kernel), List.mem_of_getElem? (i := 345) (by decide +kernel), List.mem_of_getElem? (i := 346) (by decide +kernel)⟩
theorem lw_p24 : lw_okq (⟨"LeastCost$Checker", "beginAnew", "()V"⟩, 13) := ⟨⟨by decide +kernel, by decide +kernel⟩, List.mem_of_getElem? (i := 130) (by decide +kernel), List.mem_of_getElem? (i := 350) (by decide +kernel), List.mem_of_getElem? (i := 351) (by decide +kernel)⟩
theorem lw_p25 : lw_okq (⟨"LeastCost$Log", "shorten", "(I)Z"⟩, 2) := ⟨⟨by decide +kernel, by decide +kernel⟩, List.mem_of_getElem? (i := 53) (by decide +kernel), List.mem_of_getElem? (i := 358) (by decide +kernel), List.mem_of_getElem? (i := 359) (by decide +kernel)⟩
theorem lw_p26 : lw_okq (⟨"LeastCost$Checker", "readOn", "(I)I"⟩, 13) := ⟨⟨by decide +kernel, by decide +kernel⟩, List.mem_of_getElem? (i := 130) (by decide +kernel), List.mem_of_getElem? (i := 367) (by decide +kernel), List.mem_of_getElem? (i := 368) (by decide +kernel)⟩
theorem lw_p27 : lw_okq (⟨"LeastCost$Checker", "begin", "()V"⟩, 13) := ⟨⟨by decide +kernel, by decide +kernel⟩, List.mem_of_getElem? (i := 130) (by decide +kernel), List.mem_of_getElem? (i := 371) (by decide +kernel), List.mem_of_getElem? (i := 372) (by decide +kernel)⟩
theorem lw_p28 : lw_okq (⟨"LeastCost$Checker", "claimHolds", "()Z"⟩, 13) := ⟨⟨by decide +kernel, by decide +kernel⟩, List.mem_of_getElem? (i := 130) (by decide +kernel), List.mem_of_getElem? (i := 375) (by decide +kernel), List.mem_of_getElem? (i := 376) (by decide +kernel)⟩
theorem lw_p29 : lw_okq (⟨"LeastCost$Checker", "claim", "()I"⟩, 13) := ⟨⟨by decide +kernel, by decide +kernel⟩, List.mem_of_getElem? (i := 130) (by decide +kernel), List.mem_of_getElem? (i := 379) (by decide +kernel), List.mem_of_getElem? (i := 380) (by decide +kernel)⟩
theorem lw_p30 : lw_okq (⟨"LeastCost$Checker", "enterTree", "(IIZ)V"⟩, 13) := ⟨⟨by decide +kernel, by decide +kernel⟩, List.mem_of_getElem? (i := 130) (by decide +kernel), List.mem_of_getElem? (i := 390) (by decide +kernel), List.mem_of_getElem? (i := 391) (by decide +kernel)⟩
theorem lw_p31 : lw_okq (⟨"LeastCost$Checker", "setWhatIsForced", "()V"⟩, 13) := ⟨⟨by decide +kernel, by decide +kernel⟩, List.mem_of_getElem? (i := 130) (by decide +kernel), List.mem_of_getElem? (i := 394) (by decide +kernel), List.mem_of_getElem? (i := 395) (by decide +kernel)⟩
def lw_privs_2 : List (MethodName × Nat) := [(⟨"LeastCost$Problem", "forcedByLimit", "(LLeastCost$Setting;I)I"⟩, 9), (⟨"LeastCost$Setting", "leastNotSet", "()I"⟩, 2), (⟨"LeastCost$Search", "choose", "(I)V"⟩, 11), (⟨"LeastCost$Search", "keepBest", "()V"⟩, 11), (⟨"LeastCost$Search", "isDone", "()Z"⟩, 11), (⟨"LeastCost$Log", "wordAt", "(I)I"⟩, 2), (⟨"LeastCost$Log", "has", "(I)Z"⟩, 2), (⟨"LeastCost$Log", "replace", "(II)Z"⟩, 2), (⟨"LeastCost$Checker", "beginAnew", "()V"⟩, 13), (⟨"LeastCost$Log", "shorten", "(I)Z"⟩, 2), (⟨"LeastCost$Checker", "readOn", "(I)I"⟩, 13), (⟨"LeastCost$Checker", "begin", "()V"⟩, 13), (⟨"LeastCost$Checker", "claimHolds", "()Z"⟩, 13), (⟨"LeastCost$Checker", "claim", "()I"⟩, 13), (⟨"LeastCost$Checker", "enterTree", "(IIZ)V"⟩, 13), (⟨"LeastCost$Checker", "setWhatIsForced", "()V"⟩, 13)]
theorem lw_r2 : ∀ q ∈ lw_privs_2, lw_okq q := List.forall_mem_cons.mpr ⟨lw_p16, List.forall_mem_cons.mpr ⟨lw_p17, List.forall_mem_cons.mpr ⟨lw_p18, List.forall_mem_cons.mpr ⟨lw_p19, List.forall_mem_cons.mpr ⟨lw_p20, List.forall_mem_cons.mpr ⟨lw_p21, List.forall_mem_cons.mpr ⟨lw_p22, List.forall_mem_cons.mpr ⟨lw_p23, List.forall_mem_cons.mpr ⟨lw_p24, List.forall_mem_cons.mpr ⟨lw_p25, List.forall_mem_cons.mpr ⟨lw_p26, List.forall_mem_cons.mpr ⟨lw_p27, List.forall_mem_cons.mpr ⟨lw_p28, List.forall_mem_cons.mpr ⟨lw_p29, List.forall_mem_cons.mpr ⟨lw_p30, List.forall_mem_cons.mpr ⟨lw_p31, fun _ h => absurd h List.not_mem_nil⟩⟩⟩⟩⟩⟩⟩⟩⟩⟩⟩⟩⟩⟩⟩⟩
theorem lw_p32 : lw_okq (⟨"LeastCost$Checker", "readWord", "()V"⟩, 13) := ⟨⟨by decide +kernel, by decide +kernel⟩, List.mem_of_getElem? (i := 130) (by decide +kernel), List.mem_of_getElem? (i := 400) (by decide +kernel), List.mem_of_getElem? (i := 401) (by decide +kernel)⟩
theorem lw_p33 : lw_okq (⟨"LeastCost$Checker", "closeTree", "()V"⟩, 13) := ⟨⟨by decide +kernel, by decide +kernel⟩, List.mem_of_getElem? (i := 130) (by decide +kernel), List.mem_of_getElem? (i := 404) (by decide +kernel), List.mem_of_getElem? (i := 405) (by decide +kernel)⟩
theorem lw_p34 : lw_okq (⟨"LeastCost$Checker", "splitTree", "(I)V"⟩, 13) := ⟨⟨by decide +kernel, by decide +kernel⟩, List.mem_of_getElem? (i := 130) (by decide +kernel), List.mem_of_getElem? (i := 409) (by decide +kernel), List.mem_of_getElem? (i := 410) (by decide +kernel)⟩
theorem lw_p35 : lw_okq (⟨"LeastCostModel", "step", "()V"⟩, 30) := ⟨⟨by decide +kernel, by decide +kernel⟩, List.mem_of_getElem? (i := 418) (by decide +kernel), List.mem_of_getElem? (i := 534) (by decide +kernel), List.mem_of_getElem? (i := 535) (by decide +kernel)⟩
theorem lw_p36 : lw_okq (⟨"LeastCostModel", "isBroken", "(ZI)Z"⟩, 30) := ⟨⟨by decide +kernel, by decide +kernel⟩, List.mem_of_getElem? (i := 418) (by decide +kernel), List.mem_of_getElem? (i := 538) (by decide +kernel), List.mem_of_getElem? (i := 539) (by decide +kernel)⟩
theorem lw_p37 : lw_okq (⟨"LeastCostModel", "cost", "()I"⟩, 30) := ⟨⟨by decide +kernel, by decide +kernel⟩, List.mem_of_getElem? (i := 418) (by decide +kernel), List.mem_of_getElem? (i := 542) (by decide +kernel), List.mem_of_getElem? (i := 543) (by decide +kernel)⟩
theorem lw_p38 : lw_okq (⟨"LeastCostModel", "isSet", "(I)Z"⟩, 30) := ⟨⟨by decide +kernel, by decide +kernel⟩, List.mem_of_getElem? (i := 418) (by decide +kernel), List.mem_of_getElem? (i := 546) (by decide +kernel), List.mem_of_getElem? (i := 547) (by decide +kernel)⟩
theorem lw_p39 : lw_okq (⟨"LeastCostModel", "isOne", "(I)Z"⟩, 30) := ⟨⟨by decide +kernel, by decide +kernel⟩, List.mem_of_getElem? (i := 418) (by decide +kernel), List.mem_of_getElem? (i := 550) (by decide +kernel), List.mem_of_getElem? (i := 551) (by decide +kernel)⟩
theorem lw_p40 : lw_okq (⟨"LeastCostModel", "slack", "(I)I"⟩, 30) := ⟨⟨by decide +kernel, by decide +kernel⟩, List.mem_of_getElem? (i := 418) (by decide +kernel), List.mem_of_getElem? (i := 554) (by decide +kernel), List.mem_of_getElem? (i := 555) (by decide +kernel)⟩
theorem lw_p41 : lw_okq (⟨"LeastCostModel", "isFalse", "(I)Z"⟩, 30) := ⟨⟨by decide +kernel, by decide +kernel⟩, List.mem_of_getElem? (i := 418) (by decide +kernel), List.mem_of_getElem? (i := 558) (by decide +kernel), List.mem_of_getElem? (i := 559) (by decide +kernel)⟩
theorem lw_p42 : lw_okq (⟨"LeastCostModel", "goBack", "()V"⟩, 30) := ⟨⟨by decide +kernel, by decide +kernel⟩, List.mem_of_getElem? (i := 418) (by decide +kernel), List.mem_of_getElem? (i := 562) (by decide +kernel), List.mem_of_getElem? (i := 563) (by decide +kernel)⟩
theorem lw_p43 : lw_okq (⟨"LeastCostModel", "write", "(I)Z"⟩, 30) := ⟨⟨by decide +kernel, by decide +kernel⟩, List.mem_of_getElem? (i := 418) (by decide +kernel), List.mem_of_getElem? (i := 566) (by decide +kernel), List.mem_of_getElem? (i := 567) (by decide +kernel)⟩
theorem lw_p44 : lw_okq (⟨"LeastCostModel", "lay", "(IZZ)V"⟩, 30) := ⟨⟨by decide +kernel, by decide +kernel⟩, List.mem_of_getElem? (i := 418) (by decide +kernel), List.mem_of_getElem? (i := 570) (by decide +kernel), List.mem_of_getElem? (i := 571) (by decide +kernel)⟩
theorem lw_p45 : lw_okq (⟨"LeastCostModel", "put", "(IZ)V"⟩, 30) := ⟨⟨by decide +kernel, by decide +kernel⟩, List.mem_of_getElem? (i := 418) (by decide +kernel), List.mem_of_getElem? (i := 574) (by decide +kernel), List.mem_of_getElem? (i := 575) (by decide +kernel)⟩
theorem lw_p46 : lw_okq (⟨"LeastCostModel", "forced", "(ZI)I"⟩, 30) := ⟨⟨by decide +kernel, by decide +kernel⟩, List.mem_of_getElem? (i := 418) (by decide +kernel), List.mem_of_getElem? (i := 578) (by decide +kernel), List.mem_of_getElem? (i := 579) (by decide +kernel)⟩
theorem lw_p47 : lw_okq (⟨"LeastCostModel", "anew", "()V"⟩, 30) := ⟨⟨by decide +kernel, by decide +kernel⟩, List.mem_of_getElem? (i := 418) (by decide +kernel), List.mem_of_getElem? (i := 602) (by decide +kernel), List.mem_of_getElem? (i := 603) (by decide +kernel)⟩
def lw_privs_3 : List (MethodName × Nat) := [(⟨"LeastCost$Checker", "readWord", "()V"⟩, 13), (⟨"LeastCost$Checker", "closeTree", "()V"⟩, 13), (⟨"LeastCost$Checker", "splitTree", "(I)V"⟩, 13), (⟨"LeastCostModel", "step", "()V"⟩, 30), (⟨"LeastCostModel", "isBroken", "(ZI)Z"⟩, 30), (⟨"LeastCostModel", "cost", "()I"⟩, 30), (⟨"LeastCostModel", "isSet", "(I)Z"⟩, 30), (⟨"LeastCostModel", "isOne", "(I)Z"⟩, 30), (⟨"LeastCostModel", "slack", "(I)I"⟩, 30), (⟨"LeastCostModel", "isFalse", "(I)Z"⟩, 30), (⟨"LeastCostModel", "goBack", "()V"⟩, 30), (⟨"LeastCostModel", "write", "(I)Z"⟩, 30), (⟨"LeastCostModel", "lay", "(IZZ)V"⟩, 30), (⟨"LeastCostModel", "put", "(IZ)V"⟩, 30), (⟨"LeastCostModel", "forced", "(ZI)I"⟩, 30), (⟨"LeastCostModel", "anew", "()V"⟩, 30)]
theorem lw_r3 : ∀ q ∈ lw_privs_3, lw_okq q := List.forall_mem_cons.mpr ⟨lw_p32, List.forall_mem_cons.mpr ⟨lw_p33, List.forall_mem_cons.mpr ⟨lw_p34, List.forall_mem_cons.mpr ⟨lw_p35, List.forall_mem_cons.mpr ⟨lw_p36, List.forall_mem_cons.mpr ⟨lw_p37, List.forall_mem_cons.mpr ⟨lw_p38, List.forall_mem_cons.mpr ⟨lw_p39, List.forall_mem_cons.mpr ⟨lw_p40, List.forall_mem_cons.mpr ⟨lw_p41, List.forall_mem_cons.mpr ⟨lw_p42, List.forall_mem_cons.mpr ⟨lw_p43, List.forall_mem_cons.mpr ⟨lw_p44, List.forall_mem_cons.mpr ⟨lw_p45, List.forall_mem_cons.mpr ⟨lw_p46, List.forall_mem_cons.mpr ⟨lw_p47, fun _ h => absurd h List.not_mem_nil⟩⟩⟩⟩⟩⟩⟩⟩⟩⟩⟩⟩⟩⟩⟩⟩
theorem lw_p48 : lw_okq (⟨"LeastCostModel", "look", "()V"⟩, 30) := ⟨⟨by decide +kernel, by decide +kernel⟩, List.mem_of_getElem? (i := 418) (by decide +kernel), List.mem_of_getElem? (i := 614) (by decide +kernel), List.mem_of_getElem? (i := 615) (by decide +kernel)⟩
theorem lw_p49 : lw_okq (⟨"LeastCostModel", "word", "()V"⟩, 30) := ⟨⟨by decide +kernel, by decide +kernel⟩, List.mem_of_getElem? (i := 418) (by decide +kernel), List.mem_of_getElem? (i := 619) (by decide +kernel), List.mem_of_getElem? (i := 620) (by decide +kernel)⟩
theorem lw_p50 : lw_okq (⟨"LeastCostModel", "hold", "(IIZ)V"⟩, 30) := ⟨⟨by decide +kernel, by decide +kernel⟩, List.mem_of_getElem? (i := 418) (by decide +kernel), List.mem_of_getElem? (i := 623) (by decide +kernel), List.mem_of_getElem? (i := 624) (by decide +kernel)⟩
def lw_privs_4 : List (MethodName × Nat) := [(⟨"LeastCostModel", "look", "()V"⟩, 30), (⟨"LeastCostModel", "word", "()V"⟩, 30), (⟨"LeastCostModel", "hold", "(IIZ)V"⟩, 30)]
theorem lw_r4 : ∀ q ∈ lw_privs_4, lw_okq q := List.forall_mem_cons.mpr ⟨lw_p48, List.forall_mem_cons.mpr ⟨lw_p49, List.forall_mem_cons.mpr ⟨lw_p50, fun _ h => absurd h List.not_mem_nil⟩⟩⟩
def lw_privs : List (MethodName × Nat) := lw_privs_1 ++ (lw_privs_2 ++ (lw_privs_3 ++ (lw_privs_4)))
def lw_tbl : List Cond := k2_sels lw_privs ++ tables_1
theorem lw_privs_ok : ∀ q ∈ lw_privs, lw_okq q := by
  show ∀ q ∈ lw_privs_1 ++ (lw_privs_2 ++ (lw_privs_3 ++ (lw_privs_4))), lw_okq q
  exact List.forall_mem_append.mpr ⟨lw_r1, List.forall_mem_append.mpr ⟨lw_r2, List.forall_mem_append.mpr ⟨lw_r3, lw_r4⟩⟩⟩

def RX0 : String := "LeastCost$Checker"
def TX0 : u_T := fun k => match k with
  | 0 => ("LeastCost$Checker", "problem", "LLeastCost$Problem;", true)
  | 1 => ("LeastCost$Checker", "log", "LLeastCost$Log;", true)
  | 2 => ("LeastCost$Checker", "setting", "LLeastCost$Setting;", true)
  | 3 => ("LeastCost$Checker", "waitingOnes", "[I", true)
  | 4 => ("LeastCost$Checker", "waitingZeros", "[I", true)
  | 5 => ("LeastCost$Checker", "waitingBroken", "[Z", true)
  | 6 => ("LeastCost$Checker", "waiting", "I", false)
  | 7 => ("LeastCost$Checker", "broken", "Z", false)
  | 8 => ("LeastCost$Checker", "limit", "I", false)
  | 9 => ("LeastCost$Checker", "position", "I", false)
  | 10 => ("LeastCost$Checker", "treeSize", "I", false)
  | 11 => ("LeastCost$Checker", "begun", "Z", false)
  | _ => ("LeastCost$Checker", "verdict", "I", false)
def tyX0 : Nat → FieldType := fun k => match k with
  | 0 => .object "LeastCost$Problem"
  | 1 => .object "LeastCost$Log"
  | 2 => .object "LeastCost$Setting"
  | 3 => .array .int
  | 4 => .array .int
  | 5 => .array .boolean
  | 6 => .int
  | 7 => .boolean
  | 8 => .int
  | 9 => .int
  | 10 => .int
  | 11 => .boolean
  | _ => .int
theorem nmX0 : ∀ a, a < 13 → ∀ b, b < 13 → a ≠ b → (TX0 a).2.1 ≠ (TX0 b).2.1 := by decide +kernel
theorem tyX0_ok : ∀ k, k < 13 → parseFieldDescriptor (TX0 k).2.2.1 = some (tyX0 k) := by decide +kernel
abbrev cX0_init : ByteArray := prog_2_method_1_code
def yX0_init : MethodName := ⟨RX0, "<init>", "(LLeastCost$Problem;LLeastCost$Log;)V"⟩
abbrev cX0_beginAnew : ByteArray := prog_2_method_2_code
def yX0_beginAnew : MethodName := ⟨RX0, "beginAnew", "()V"⟩
abbrev cX0_readOn : ByteArray := prog_2_method_3_code
def yX0_readOn : MethodName := ⟨RX0, "readOn", "(I)I"⟩
abbrev cX0_begin : ByteArray := prog_2_method_4_code
def yX0_begin : MethodName := ⟨RX0, "begin", "()V"⟩
abbrev cX0_claim : ByteArray := prog_2_method_5_code
def yX0_claim : MethodName := ⟨RX0, "claim", "()I"⟩
abbrev cX0_claimHolds : ByteArray := prog_2_method_6_code
def yX0_claimHolds : MethodName := ⟨RX0, "claimHolds", "()Z"⟩
abbrev cX0_readWord : ByteArray := prog_2_method_7_code
def yX0_readWord : MethodName := ⟨RX0, "readWord", "()V"⟩
abbrev cX0_closeTree : ByteArray := prog_2_method_8_code
def yX0_closeTree : MethodName := ⟨RX0, "closeTree", "()V"⟩
abbrev cX0_splitTree : ByteArray := prog_2_method_9_code
def yX0_splitTree : MethodName := ⟨RX0, "splitTree", "(I)V"⟩
abbrev cX0_enterTree : ByteArray := prog_2_method_10_code
def yX0_enterTree : MethodName := ⟨RX0, "enterTree", "(IIZ)V"⟩
abbrev cX0_setWhatIsForced : ByteArray := prog_2_method_11_code
def yX0_setWhatIsForced : MethodName := ⟨RX0, "setWhatIsForced", "()V"⟩
def RX1 : String := "LeastCost$Log"
def TX1 : u_T := fun k => match k with
  | 0 => ("LeastCost$Log", "words", "[I", true)
  | _ => ("LeastCost$Log", "size", "I", false)
def tyX1 : Nat → FieldType := fun k => match k with
  | 0 => .array .int
  | _ => .int
theorem nmX1 : ∀ a, a < 2 → ∀ b, b < 2 → a ≠ b → (TX1 a).2.1 ≠ (TX1 b).2.1 := by decide +kernel
theorem tyX1_ok : ∀ k, k < 2 → parseFieldDescriptor (TX1 k).2.2.1 = some (tyX1 k) := by decide +kernel
abbrev cX1_init : ByteArray := prog_3_method_1_code
def yX1_init : MethodName := ⟨RX1, "<init>", "()V"⟩
abbrev cX1_has : ByteArray := prog_3_method_2_code
def yX1_has : MethodName := ⟨RX1, "has", "(I)Z"⟩
abbrev cX1_wordAt : ByteArray := prog_3_method_3_code
def yX1_wordAt : MethodName := ⟨RX1, "wordAt", "(I)I"⟩
abbrev cX1_append : ByteArray := prog_3_method_4_code
def yX1_append : MethodName := ⟨RX1, "append", "(I)Z"⟩
abbrev cX1_replace : ByteArray := prog_3_method_5_code
def yX1_replace : MethodName := ⟨RX1, "replace", "(II)Z"⟩
abbrev cX1_shorten : ByteArray := prog_3_method_6_code
def yX1_shorten : MethodName := ⟨RX1, "shorten", "(I)Z"⟩
def RX2 : String := "LeastCost$Problem"
def TX2 : u_T := fun k => match k with
  | 0 => ("LeastCost$Problem", "costs", "[I", true)
  | 1 => ("LeastCost$Problem", "coefficients", "[I", true)
  | 2 => ("LeastCost$Problem", "literals", "[I", true)
  | 3 => ("LeastCost$Problem", "bits", "[I", true)
  | 4 => ("LeastCost$Problem", "firsts", "[I", true)
  | 5 => ("LeastCost$Problem", "bounds", "[I", true)
  | 6 => ("LeastCost$Problem", "terms", "I", false)
  | 7 => ("LeastCost$Problem", "constraints", "I", false)
  | _ => ("LeastCost$Problem", "taken", "I", false)
def tyX2 : Nat → FieldType := fun k => match k with
  | 0 => .array .int
  | 1 => .array .int
  | 2 => .array .int
  | 3 => .array .int
  | 4 => .array .int
  | 5 => .array .int
  | 6 => .int
  | 7 => .int
  | _ => .int
theorem nmX2 : ∀ a, a < 9 → ∀ b, b < 9 → a ≠ b → (TX2 a).2.1 ≠ (TX2 b).2.1 := by decide +kernel
theorem tyX2_ok : ∀ k, k < 9 → parseFieldDescriptor (TX2 k).2.2.1 = some (tyX2 k) := by decide +kernel
abbrev cX2_init : ByteArray := prog_4_method_1_code
def yX2_init : MethodName := ⟨RX2, "<init>", "()V"⟩
abbrev cX2_addTerm : ByteArray := prog_4_method_2_code
def yX2_addTerm : MethodName := ⟨RX2, "addTerm", "(II)Z"⟩
abbrev cX2_makeConstraint : ByteArray := prog_4_method_3_code
def yX2_makeConstraint : MethodName := ⟨RX2, "makeConstraint", "(I)I"⟩
abbrev cX2_costOf : ByteArray := prog_4_method_4_code
def yX2_costOf : MethodName := ⟨RX2, "costOf", "(I)I"⟩
abbrev cX2_slackOf : ByteArray := prog_4_method_5_code
def yX2_slackOf : MethodName := ⟨RX2, "slackOf", "(ILLeastCost$Setting;)I"⟩
abbrev cX2_limitSlack : ByteArray := prog_4_method_6_code
def yX2_limitSlack : MethodName := ⟨RX2, "limitSlack", "(LLeastCost$Setting;I)I"⟩
abbrev cX2_isBroken : ByteArray := prog_4_method_7_code
def yX2_isBroken : MethodName := ⟨RX2, "isBroken", "(LLeastCost$Setting;I)Z"⟩
abbrev cX2_forcedLiteral : ByteArray := prog_4_method_8_code
def yX2_forcedLiteral : MethodName := ⟨RX2, "forcedLiteral", "(LLeastCost$Setting;I)I"⟩
abbrev cX2_forcedBy : ByteArray := prog_4_method_9_code
def yX2_forcedBy : MethodName := ⟨RX2, "forcedBy", "(ILLeastCost$Setting;)I"⟩
abbrev cX2_forcedByLimit : ByteArray := prog_4_method_10_code
def yX2_forcedByLimit : MethodName := ⟨RX2, "forcedByLimit", "(LLeastCost$Setting;I)I"⟩
def RX3 : String := "LeastCost$Search"
def TX3 : u_T := fun k => match k with
  | 0 => ("LeastCost$Search", "problem", "LLeastCost$Problem;", true)
  | 1 => ("LeastCost$Search", "log", "LLeastCost$Log;", true)
  | 2 => ("LeastCost$Search", "setting", "LLeastCost$Setting;", true)
  | 3 => ("LeastCost$Search", "choices", "[I", true)
  | 4 => ("LeastCost$Search", "onesBefore", "[I", true)
  | 5 => ("LeastCost$Search", "zerosBefore", "[I", true)
  | 6 => ("LeastCost$Search", "depth", "I", false)
  | 7 => ("LeastCost$Search", "bestCost", "I", false)
  | 8 => ("LeastCost$Search", "bestOnes", "I", false)
  | 9 => ("LeastCost$Search", "stepsMade", "I", false)
  | _ => ("LeastCost$Search", "state", "I", false)
def tyX3 : Nat → FieldType := fun k => match k with
  | 0 => .object "LeastCost$Problem"
  | 1 => .object "LeastCost$Log"
  | 2 => .object "LeastCost$Setting"
  | 3 => .array .int
  | 4 => .array .int
  | 5 => .array .int
  | 6 => .int
  | 7 => .int
  | 8 => .int
  | 9 => .int
  | _ => .int
theorem nmX3 : ∀ a, a < 11 → ∀ b, b < 11 → a ≠ b → (TX3 a).2.1 ≠ (TX3 b).2.1 := by decide +kernel
theorem tyX3_ok : ∀ k, k < 11 → parseFieldDescriptor (TX3 k).2.2.1 = some (tyX3 k) := by decide +kernel
abbrev cX3_init : ByteArray := prog_5_method_1_code
def yX3_init : MethodName := ⟨RX3, "<init>", "(LLeastCost$Problem;LLeastCost$Log;)V"⟩
abbrev cX3_isDone : ByteArray := prog_5_method_2_code
def yX3_isDone : MethodName := ⟨RX3, "isDone", "()Z"⟩
abbrev cX3_advance : ByteArray := prog_5_method_3_code
def yX3_advance : MethodName := ⟨RX3, "advance", "(I)I"⟩
abbrev cX3_step : ByteArray := prog_5_method_4_code
def yX3_step : MethodName := ⟨RX3, "step", "()V"⟩
abbrev cX3_goBack : ByteArray := prog_5_method_5_code
def yX3_goBack : MethodName := ⟨RX3, "goBack", "()V"⟩
abbrev cX3_finish : ByteArray := prog_5_method_6_code
def yX3_finish : MethodName := ⟨RX3, "finish", "()V"⟩
abbrev cX3_keepBest : ByteArray := prog_5_method_7_code
def yX3_keepBest : MethodName := ⟨RX3, "keepBest", "()V"⟩
abbrev cX3_choose : ByteArray := prog_5_method_8_code
def yX3_choose : MethodName := ⟨RX3, "choose", "(I)V"⟩
abbrev cX3_writes : ByteArray := prog_5_method_9_code
def yX3_writes : MethodName := ⟨RX3, "writes", "(I)Z"⟩
def RX4 : String := "LeastCost$Setting"
def TX4 : u_T := fun k => match k with
  | 0 => ("LeastCost$Setting", "ones", "I", false)
  | _ => ("LeastCost$Setting", "zeros", "I", false)
def tyX4 : Nat → FieldType := fun k => match k with
  | 0 => .int
  | _ => .int
theorem nmX4 : ∀ a, a < 2 → ∀ b, b < 2 → a ≠ b → (TX4 a).2.1 ≠ (TX4 b).2.1 := by decide +kernel
theorem tyX4_ok : ∀ k, k < 2 → parseFieldDescriptor (TX4 k).2.2.1 = some (tyX4 k) := by decide +kernel
abbrev cX4_init : ByteArray := prog_6_method_1_code
def yX4_init : MethodName := ⟨RX4, "<init>", "()V"⟩
abbrev cX4_become : ByteArray := prog_6_method_2_code
def yX4_become : MethodName := ⟨RX4, "become", "(II)V"⟩
abbrev cX4_makeTrue : ByteArray := prog_6_method_3_code
def yX4_makeTrue : MethodName := ⟨RX4, "makeTrue", "(I)V"⟩
abbrev cX4_leastNotSet : ByteArray := prog_6_method_4_code
def yX4_leastNotSet : MethodName := ⟨RX4, "leastNotSet", "()I"⟩
def RX5 : String := "LeastCost"
def TX5 : u_T := fun k => match k with
  | 0 => ("LeastCost", "problem", "LLeastCost$Problem;", true)
  | 1 => ("LeastCost", "log", "LLeastCost$Log;", true)
  | 2 => ("LeastCost", "search", "LLeastCost$Search;", true)
  | 3 => ("LeastCost", "checker", "LLeastCost$Checker;", true)
  | _ => ("LeastCost", "started", "Z", false)
def tyX5 : Nat → FieldType := fun k => match k with
  | 0 => .object "LeastCost$Problem"
  | 1 => .object "LeastCost$Log"
  | 2 => .object "LeastCost$Search"
  | 3 => .object "LeastCost$Checker"
  | _ => .boolean
theorem nmX5 : ∀ a, a < 5 → ∀ b, b < 5 → a ≠ b → (TX5 a).2.1 ≠ (TX5 b).2.1 := by decide +kernel
theorem tyX5_ok : ∀ k, k < 5 → parseFieldDescriptor (TX5 k).2.2.1 = some (tyX5 k) := by decide +kernel
abbrev cX5_init : ByteArray := prog_1_method_1_code
def yX5_init : MethodName := ⟨RX5, "<init>", "()V"⟩
abbrev cX5_setCost : ByteArray := prog_1_method_2_code
def yX5_setCost : MethodName := ⟨RX5, "setCost", "(II)I"⟩
abbrev cX5_term : ByteArray := prog_1_method_3_code
def yX5_term : MethodName := ⟨RX5, "term", "(II)I"⟩
abbrev cX5_end : ByteArray := prog_1_method_4_code
def yX5_end : MethodName := ⟨RX5, "end", "(I)I"⟩
abbrev cX5_run : ByteArray := prog_1_method_5_code
def yX5_run : MethodName := ⟨RX5, "run", "(I)I"⟩
abbrev cX5_optimum : ByteArray := prog_1_method_6_code
def yX5_optimum : MethodName := ⟨RX5, "optimum", "()I"⟩
abbrev cX5_value : ByteArray := prog_1_method_7_code
def yX5_value : MethodName := ⟨RX5, "value", "(I)I"⟩
abbrev cX5_logSize : ByteArray := prog_1_method_8_code
def yX5_logSize : MethodName := ⟨RX5, "logSize", "()I"⟩
abbrev cX5_logAt : ByteArray := prog_1_method_9_code
def yX5_logAt : MethodName := ⟨RX5, "logAt", "(I)I"⟩
abbrev cX5_poke : ByteArray := prog_1_method_10_code
def yX5_poke : MethodName := ⟨RX5, "poke", "(II)I"⟩
abbrev cX5_cut : ByteArray := prog_1_method_11_code
def yX5_cut : MethodName := ⟨RX5, "cut", "(I)I"⟩
abbrev cX5_check : ByteArray := prog_1_method_12_code
def yX5_check : MethodName := ⟨RX5, "check", "(I)I"⟩
abbrev cX5_steps : ByteArray := prog_1_method_13_code
def yX5_steps : MethodName := ⟨RX5, "steps", "()I"⟩
abbrev cX5_isWithin : ByteArray := prog_1_method_14_code
def yX5_isWithin : MethodName := ⟨RX5, "isWithin", "(III)Z"⟩
abbrev cX5_isVariable : ByteArray := prog_1_method_15_code
def yX5_isVariable : MethodName := ⟨RX5, "isVariable", "(I)Z"⟩
abbrev cX5_variableOf : ByteArray := prog_1_method_16_code
def yX5_variableOf : MethodName := ⟨RX5, "variableOf", "(I)I"⟩
abbrev cX5_bitOf : ByteArray := prog_1_method_17_code
def yX5_bitOf : MethodName := ⟨RX5, "bitOf", "(I)I"⟩
abbrev cX5_limitBelow : ByteArray := prog_1_method_18_code
def yX5_limitBelow : MethodName := ⟨RX5, "limitBelow", "(I)I"⟩
def RX6 : String := "LeastCostModel"
def TX6 : u_T := fun k => match k with
  | 0 => ("LeastCostModel", "thrown", "I", false)
  | 1 => ("LeastCostModel", "costs", "[I", true)
  | 2 => ("LeastCostModel", "factors", "[I", true)
  | 3 => ("LeastCostModel", "literals", "[I", true)
  | 4 => ("LeastCostModel", "begins", "[I", true)
  | 5 => ("LeastCostModel", "bounds", "[I", true)
  | 6 => ("LeastCostModel", "constraints", "I", false)
  | 7 => ("LeastCostModel", "terms", "I", false)
  | 8 => ("LeastCostModel", "begun", "Z", false)
  | 9 => ("LeastCostModel", "done", "Z", false)
  | 10 => ("LeastCostModel", "over", "Z", false)
  | 11 => ("LeastCostModel", "set", "I", false)
  | 12 => ("LeastCostModel", "ones", "I", false)
  | 13 => ("LeastCostModel", "trail", "[I", true)
  | 14 => ("LeastCostModel", "choice", "[Z", true)
  | 15 => ("LeastCostModel", "depth", "I", false)
  | 16 => ("LeastCostModel", "searchSet", "I", false)
  | 17 => ("LeastCostModel", "searchOnes", "I", false)
  | 18 => ("LeastCostModel", "best", "I", false)
  | 19 => ("LeastCostModel", "bestOnes", "I", false)
  | 20 => ("LeastCostModel", "made", "I", false)
  | 21 => ("LeastCostModel", "log", "[I", true)
  | 22 => ("LeastCostModel", "size", "I", false)
  | 23 => ("LeastCostModel", "answer", "I", false)
  | 24 => ("LeastCostModel", "looked", "Z", false)
  | 25 => ("LeastCostModel", "place", "I", false)
  | 26 => ("LeastCostModel", "waiting", "I", false)
  | 27 => ("LeastCostModel", "waitSet", "[I", true)
  | 28 => ("LeastCostModel", "waitOnes", "[I", true)
  | _ => ("LeastCostModel", "waitDead", "[Z", true)
def tyX6 : Nat → FieldType := fun k => match k with
  | 0 => .int
  | 1 => .array .int
  | 2 => .array .int
  | 3 => .array .int
  | 4 => .array .int
  | 5 => .array .int
  | 6 => .int
  | 7 => .int
  | 8 => .boolean
  | 9 => .boolean
  | 10 => .boolean
  | 11 => .int
  | 12 => .int
  | 13 => .array .int
  | 14 => .array .boolean
  | 15 => .int
  | 16 => .int
  | 17 => .int
  | 18 => .int
  | 19 => .int
  | 20 => .int
  | 21 => .array .int
  | 22 => .int
  | 23 => .int
  | 24 => .boolean
  | 25 => .int
  | 26 => .int
  | 27 => .array .int
  | 28 => .array .int
  | _ => .array .boolean
theorem nmX6 : ∀ a, a < 30 → ∀ b, b < 30 → a ≠ b → (TX6 a).2.1 ≠ (TX6 b).2.1 := by decide +kernel
theorem tyX6_ok : ∀ k, k < 30 → parseFieldDescriptor (TX6 k).2.2.1 = some (tyX6 k) := by decide +kernel
abbrev cX6_init : ByteArray := prog_8_method_1_code
def yX6_init : MethodName := ⟨RX6, "<init>", "()V"⟩
abbrev cX6_isIn : ByteArray := prog_8_method_3_code
def yX6_isIn : MethodName := ⟨RX6, "isIn", "(III)Z"⟩
abbrev cX6_setCost : ByteArray := prog_8_method_4_code
def yX6_setCost : MethodName := ⟨RX6, "setCost", "(II)I"⟩
abbrev cX6_term : ByteArray := prog_8_method_5_code
def yX6_term : MethodName := ⟨RX6, "term", "(II)I"⟩
abbrev cX6_end : ByteArray := prog_8_method_6_code
def yX6_end : MethodName := ⟨RX6, "end", "(I)I"⟩
abbrev cX6_isSet : ByteArray := prog_8_method_7_code
def yX6_isSet : MethodName := ⟨RX6, "isSet", "(I)Z"⟩
abbrev cX6_isOne : ByteArray := prog_8_method_8_code
def yX6_isOne : MethodName := ⟨RX6, "isOne", "(I)Z"⟩
abbrev cX6_isFalse : ByteArray := prog_8_method_9_code
def yX6_isFalse : MethodName := ⟨RX6, "isFalse", "(I)Z"⟩
abbrev cX6_slack : ByteArray := prog_8_method_10_code
def yX6_slack : MethodName := ⟨RX6, "slack", "(I)I"⟩
abbrev cX6_cost : ByteArray := prog_8_method_11_code
def yX6_cost : MethodName := ⟨RX6, "cost", "()I"⟩
abbrev cX6_isBroken : ByteArray := prog_8_method_12_code
def yX6_isBroken : MethodName := ⟨RX6, "isBroken", "(ZI)Z"⟩
abbrev cX6_forced : ByteArray := prog_8_method_13_code
def yX6_forced : MethodName := ⟨RX6, "forced", "(ZI)I"⟩
abbrev cX6_put : ByteArray := prog_8_method_14_code
def yX6_put : MethodName := ⟨RX6, "put", "(IZ)V"⟩
abbrev cX6_write : ByteArray := prog_8_method_15_code
def yX6_write : MethodName := ⟨RX6, "write", "(I)Z"⟩
abbrev cX6_lay : ByteArray := prog_8_method_16_code
def yX6_lay : MethodName := ⟨RX6, "lay", "(IZZ)V"⟩
abbrev cX6_goBack : ByteArray := prog_8_method_17_code
def yX6_goBack : MethodName := ⟨RX6, "goBack", "()V"⟩
abbrev cX6_step : ByteArray := prog_8_method_18_code
def yX6_step : MethodName := ⟨RX6, "step", "()V"⟩
abbrev cX6_run : ByteArray := prog_8_method_19_code
def yX6_run : MethodName := ⟨RX6, "run", "(I)I"⟩
abbrev cX6_optimum : ByteArray := prog_8_method_20_code
def yX6_optimum : MethodName := ⟨RX6, "optimum", "()I"⟩
abbrev cX6_value : ByteArray := prog_8_method_21_code
def yX6_value : MethodName := ⟨RX6, "value", "(I)I"⟩
abbrev cX6_logSize : ByteArray := prog_8_method_22_code
def yX6_logSize : MethodName := ⟨RX6, "logSize", "()I"⟩
abbrev cX6_logAt : ByteArray := prog_8_method_23_code
def yX6_logAt : MethodName := ⟨RX6, "logAt", "(I)I"⟩
abbrev cX6_poke : ByteArray := prog_8_method_24_code
def yX6_poke : MethodName := ⟨RX6, "poke", "(II)I"⟩
abbrev cX6_cut : ByteArray := prog_8_method_25_code
def yX6_cut : MethodName := ⟨RX6, "cut", "(I)I"⟩
abbrev cX6_anew : ByteArray := prog_8_method_26_code
def yX6_anew : MethodName := ⟨RX6, "anew", "()V"⟩
abbrev cX6_look : ByteArray := prog_8_method_27_code
def yX6_look : MethodName := ⟨RX6, "look", "()V"⟩
abbrev cX6_hold : ByteArray := prog_8_method_28_code
def yX6_hold : MethodName := ⟨RX6, "hold", "(IIZ)V"⟩
abbrev cX6_word : ByteArray := prog_8_method_29_code
def yX6_word : MethodName := ⟨RX6, "word", "()V"⟩
abbrev cX6_check : ByteArray := prog_8_method_30_code
def yX6_check : MethodName := ⟨RX6, "check", "(I)I"⟩
abbrev cX6_steps : ByteArray := prog_8_method_31_code
def yX6_steps : MethodName := ⟨RX6, "steps", "()I"⟩
def RL : String := "LeastCostLaw"
abbrev cL_law : ByteArray := code
def yL_law : MethodName := ⟨RL, "law", "([I)Z"⟩
abbrev vwCl : List vw_C := [(RX0, TX0, 13), (RX1, TX1, 2), (RX2, TX2, 9), (RX3, TX3, 11), (RX4, TX4, 2), (RX5, TX5, 5), (RX6, TX6, 30)]
/-- the words of the tables that hold on after any step: every method's words, behind its own code -/
def GL : List Cond := lw_tbl.filter goodWord
