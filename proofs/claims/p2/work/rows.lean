section
-- ===== PART A: goes FIRST, ahead of the names: the tables' words, and 'selects' of the private methods out of them =====
/-- a private method of a class that the tables say can be made, by its rows of tables_1 -/
def lw_okq (q : MethodName × Nat) : Prop := (q.1.cls ≠ "java/lang/invoke/MethodHandle" ∧ q.1.cls ≠ "java/lang/invoke/VarHandle") ∧ Cond.instantiable q.1.cls q.2 ∈ tables_1 ∧ Cond.privateMethod q.1 ∈ tables_1 ∧ Cond.instanceMethod q.1 ∈ tables_1
theorem lw_p0 : lw_okq (⟨"LeastCost$Problem", "addTerm", "(II)Z"⟩, 9) := ⟨⟨by decide +kernel, by decide +kernel⟩, List.mem_of_getElem? (i := 17) (by decide +kernel), List.mem_of_getElem? (i := 212) (by decide +kernel), List.mem_of_getElem? (i := 213) (by decide +kernel)⟩
theorem lw_p1 : lw_okq (⟨"LeastCost$Problem", "makeConstraint", "(I)I"⟩, 9) := ⟨⟨by decide +kernel, by decide +kernel⟩, List.mem_of_getElem? (i := 17) (by decide +kernel), List.mem_of_getElem? (i := 225) (by decide +kernel), List.mem_of_getElem? (i := 226) (by decide +kernel)⟩
theorem lw_p2 : lw_okq (⟨"LeastCost$Search", "advance", "(I)I"⟩, 11) := ⟨⟨by decide +kernel, by decide +kernel⟩, List.mem_of_getElem? (i := 68) (by decide +kernel), List.mem_of_getElem? (i := 233) (by decide +kernel), List.mem_of_getElem? (i := 234) (by decide +kernel)⟩
theorem lw_p3 : lw_okq (⟨"LeastCost$Search", "step", "()V"⟩, 11) := ⟨⟨by decide +kernel, by decide +kernel⟩, List.mem_of_getElem? (i := 68) (by decide +kernel), List.mem_of_getElem? (i := 237) (by decide +kernel), List.mem_of_getElem? (i := 238) (by decide +kernel)⟩
theorem lw_p4 : lw_okq (⟨"LeastCost$Problem", "isBroken", "(LLeastCost$Setting;I)Z"⟩, 9) := ⟨⟨by decide +kernel, by decide +kernel⟩, List.mem_of_getElem? (i := 17) (by decide +kernel), List.mem_of_getElem? (i := 245) (by decide +kernel), List.mem_of_getElem? (i := 246) (by decide +kernel)⟩
theorem lw_p5 : lw_okq (⟨"LeastCost$Problem", "slackOf", "(ILLeastCost$Setting;)I"⟩, 9) := ⟨⟨by decide +kernel, by decide +kernel⟩, List.mem_of_getElem? (i := 17) (by decide +kernel), List.mem_of_getElem? (i := 249) (by decide +kernel), List.mem_of_getElem? (i := 250) (by decide +kernel)⟩
theorem lw_p6 : lw_okq (⟨"LeastCost$Problem", "limitSlack", "(LLeastCost$Setting;I)I"⟩, 9) := ⟨⟨by decide +kernel, by decide +kernel⟩, List.mem_of_getElem? (i := 17) (by decide +kernel), List.mem_of_getElem? (i := 253) (by decide +kernel), List.mem_of_getElem? (i := 254) (by decide +kernel)⟩
theorem lw_p7 : lw_okq (⟨"LeastCost$Problem", "costOf", "(I)I"⟩, 9) := ⟨⟨by decide +kernel, by decide +kernel⟩, List.mem_of_getElem? (i := 17) (by decide +kernel), List.mem_of_getElem? (i := 257) (by decide +kernel), List.mem_of_getElem? (i := 258) (by decide +kernel)⟩
theorem lw_p8 : lw_okq (⟨"LeastCost$Search", "goBack", "()V"⟩, 11) := ⟨⟨by decide +kernel, by decide +kernel⟩, List.mem_of_getElem? (i := 68) (by decide +kernel), List.mem_of_getElem? (i := 261) (by decide +kernel), List.mem_of_getElem? (i := 262) (by decide +kernel)⟩
theorem lw_p9 : lw_okq (⟨"LeastCost$Search", "writes", "(I)Z"⟩, 11) := ⟨⟨by decide +kernel, by decide +kernel⟩, List.mem_of_getElem? (i := 68) (by decide +kernel), List.mem_of_getElem? (i := 265) (by decide +kernel), List.mem_of_getElem? (i := 266) (by decide +kernel)⟩
theorem lw_p10 : lw_okq (⟨"LeastCost$Log", "append", "(I)Z"⟩, 2) := ⟨⟨by decide +kernel, by decide +kernel⟩, List.mem_of_getElem? (i := 53) (by decide +kernel), List.mem_of_getElem? (i := 269) (by decide +kernel), List.mem_of_getElem? (i := 270) (by decide +kernel)⟩
theorem lw_p11 : lw_okq (⟨"LeastCost$Search", "finish", "()V"⟩, 11) := ⟨⟨by decide +kernel, by decide +kernel⟩, List.mem_of_getElem? (i := 68) (by decide +kernel), List.mem_of_getElem? (i := 273) (by decide +kernel), List.mem_of_getElem? (i := 274) (by decide +kernel)⟩
theorem lw_p12 : lw_okq (⟨"LeastCost$Setting", "become", "(II)V"⟩, 2) := ⟨⟨by decide +kernel, by decide +kernel⟩, List.mem_of_getElem? (i := 74) (by decide +kernel), List.mem_of_getElem? (i := 277) (by decide +kernel), List.mem_of_getElem? (i := 278) (by decide +kernel)⟩
theorem lw_p13 : lw_okq (⟨"LeastCost$Setting", "makeTrue", "(I)V"⟩, 2) := ⟨⟨by decide +kernel, by decide +kernel⟩, List.mem_of_getElem? (i := 74) (by decide +kernel), List.mem_of_getElem? (i := 281) (by decide +kernel), List.mem_of_getElem? (i := 282) (by decide +kernel)⟩
theorem lw_p14 : lw_okq (⟨"LeastCost$Problem", "forcedLiteral", "(LLeastCost$Setting;I)I"⟩, 9) := ⟨⟨by decide +kernel, by decide +kernel⟩, List.mem_of_getElem? (i := 17) (by decide +kernel), List.mem_of_getElem? (i := 287) (by decide +kernel), List.mem_of_getElem? (i := 288) (by decide +kernel)⟩
theorem lw_p15 : lw_okq (⟨"LeastCost$Problem", "forcedBy", "(ILLeastCost$Setting;)I"⟩, 9) := ⟨⟨by decide +kernel, by decide +kernel⟩, List.mem_of_getElem? (i := 17) (by decide +kernel), List.mem_of_getElem? (i := 291) (by decide +kernel), List.mem_of_getElem? (i := 292) (by decide +kernel)⟩
def lw_privs_1 : List (MethodName × Nat) := [(⟨"LeastCost$Problem", "addTerm", "(II)Z"⟩, 9), (⟨"LeastCost$Problem", "makeConstraint", "(I)I"⟩, 9), (⟨"LeastCost$Search", "advance", "(I)I"⟩, 11), (⟨"LeastCost$Search", "step", "()V"⟩, 11), (⟨"LeastCost$Problem", "isBroken", "(LLeastCost$Setting;I)Z"⟩, 9), (⟨"LeastCost$Problem", "slackOf", "(ILLeastCost$Setting;)I"⟩, 9), (⟨"LeastCost$Problem", "limitSlack", "(LLeastCost$Setting;I)I"⟩, 9), (⟨"LeastCost$Problem", "costOf", "(I)I"⟩, 9), (⟨"LeastCost$Search", "goBack", "()V"⟩, 11), (⟨"LeastCost$Search", "writes", "(I)Z"⟩, 11), (⟨"LeastCost$Log", "append", "(I)Z"⟩, 2), (⟨"LeastCost$Search", "finish", "()V"⟩, 11), (⟨"LeastCost$Setting", "become", "(II)V"⟩, 2), (⟨"LeastCost$Setting", "makeTrue", "(I)V"⟩, 2), (⟨"LeastCost$Problem", "forcedLiteral", "(LLeastCost$Setting;I)I"⟩, 9), (⟨"LeastCost$Problem", "forcedBy", "(ILLeastCost$Setting;)I"⟩, 9)]
theorem lw_r1 : ∀ q ∈ lw_privs_1, lw_okq q := List.forall_mem_cons.mpr ⟨lw_p0, List.forall_mem_cons.mpr ⟨lw_p1, List.forall_mem_cons.mpr ⟨lw_p2, List.forall_mem_cons.mpr ⟨lw_p3, List.forall_mem_cons.mpr ⟨lw_p4, List.forall_mem_cons.mpr ⟨lw_p5, List.forall_mem_cons.mpr ⟨lw_p6, List.forall_mem_cons.mpr ⟨lw_p7, List.forall_mem_cons.mpr ⟨lw_p8, List.forall_mem_cons.mpr ⟨lw_p9, List.forall_mem_cons.mpr ⟨lw_p10, List.forall_mem_cons.mpr ⟨lw_p11, List.forall_mem_cons.mpr ⟨lw_p12, List.forall_mem_cons.mpr ⟨lw_p13, List.forall_mem_cons.mpr ⟨lw_p14, List.forall_mem_cons.mpr ⟨lw_p15, fun _ h => absurd h List.not_mem_nil⟩⟩⟩⟩⟩⟩⟩⟩⟩⟩⟩⟩⟩⟩⟩⟩
theorem lw_p16 : lw_okq (⟨"LeastCost$Problem", "forcedByLimit", "(LLeastCost$Setting;I)I"⟩, 9) := ⟨⟨by decide +kernel, by decide +kernel⟩, List.mem_of_getElem? (i := 17) (by decide +kernel), List.mem_of_getElem? (i := 295) (by decide +kernel), List.mem_of_getElem? (i := 296) (by decide +kernel)⟩
theorem lw_p17 : lw_okq (⟨"LeastCost$Setting", "leastNotSet", "()I"⟩, 2) := ⟨⟨by decide +kernel, by decide +kernel⟩, List.mem_of_getElem? (i := 74) (by decide +kernel), List.mem_of_getElem? (i := 299) (by decide +kernel), List.mem_of_getElem? (i := 300) (by decide +kernel)⟩
theorem lw_p18 : lw_okq (⟨"LeastCost$Search", "choose", "(I)V"⟩, 11) := ⟨⟨by decide +kernel, by decide +kernel⟩, List.mem_of_getElem? (i := 68) (by decide +kernel), List.mem_of_getElem? (i := 303) (by decide +kernel), List.mem_of_getElem? (i := 304) (by decide +kernel)⟩
theorem lw_p19 : lw_okq (⟨"LeastCost$Search", "keepBest", "()V"⟩, 11) := ⟨⟨by decide +kernel, by decide +kernel⟩, List.mem_of_getElem? (i := 68) (by decide +kernel), List.mem_of_getElem? (i := 307) (by decide +kernel), List.mem_of_getElem? (i := 308) (by decide +kernel)⟩
theorem lw_p20 : lw_okq (⟨"LeastCost$Search", "isDone", "()Z"⟩, 11) := ⟨⟨by decide +kernel, by decide +kernel⟩, List.mem_of_getElem? (i := 68) (by decide +kernel), List.mem_of_getElem? (i := 316) (by decide +kernel), List.mem_of_getElem? (i := 317) (by decide +kernel)⟩
theorem lw_p21 : lw_okq (⟨"LeastCost$Log", "wordAt", "(I)I"⟩, 2) := ⟨⟨by decide +kernel, by decide +kernel⟩, List.mem_of_getElem? (i := 53) (by decide +kernel), List.mem_of_getElem? (i := 333) (by decide +kernel), List.mem_of_getElem? (i := 334) (by decide +kernel)⟩
theorem lw_p22 : lw_okq (⟨"LeastCost$Log", "has", "(I)Z"⟩, 2) := ⟨⟨by decide +kernel, by decide +kernel⟩, List.mem_of_getElem? (i := 53) (by decide +kernel), List.mem_of_getElem? (i := 337) (by decide +kernel), List.mem_of_getElem? (i := 338) (by decide +kernel)⟩
theorem lw_p23 : lw_okq (⟨"LeastCost$Log", "replace", "(II)Z"⟩, 2) := ⟨⟨by decide +kernel, by decide +kernel⟩, List.mem_of_getElem? (i := 53) (by decide +kernel), List.mem_of_getElem? (i := 345) (by decide +kernel), List.mem_of_getElem? (i := 346) (by decide +kernel)⟩
theorem lw_p24 : lw_okq (⟨"LeastCost$Checker", "beginAnew", "()V"⟩, 13) := ⟨⟨by decide +kernel, by decide +kernel⟩, List.mem_of_getElem? (i := 130) (by decide +kernel), List.mem_of_getElem? (i := 350) (by decide +kernel), List.mem_of_getElem? (i := 351) (by decide +kernel)⟩
theorem lw_p25 : lw_okq (⟨"LeastCost$Log", "shorten", "(I)Z"⟩, 2) := ⟨⟨by decide +kernel, by decide +kernel⟩, List.mem_of_getElem? (i := 53) (by decide +kernel), List.mem_of_getElem? (i := 358) (by decide +kernel), List.mem_of_getElem? (i := 359) (by decide +kernel)⟩
theorem lw_p26 : lw_okq (⟨"LeastCost$Checker", "readOn", "(I)I"⟩, 13) := ⟨⟨by decide +kernel, by decide +kernel⟩, List.mem_of_getElem? (i := 130) (by decide +kernel), List.mem_of_getElem? (i := 367) (by decide +kernel), List.mem_of_getElem? (i := 368) (by decide +kernel)⟩
theorem lw_p27 : lw_okq (⟨"LeastCost$Checker", "begin", "()V"⟩, 13) := ⟨⟨by decide +kernel, by decide +kernel⟩, List.mem_of_getElem? (i := 130) (by decide +kernel), List.mem_of_getElem? (i := 371) (by decide +kernel), List.mem_of_getElem? (i := 372) (by decide +kernel)⟩
theorem lw_p28 : lw_okq (⟨"LeastCost$Checker", "claimHolds", "()Z"⟩, 13) := ⟨⟨by decide +kernel, by decide +kernel⟩, List.mem_of_getElem? (i := 130) (by decide +kernel), List.mem_of_getElem? (i := 375) (by decide +kernel), List.mem_of_getElem? (i := 376) (by decide +kernel)⟩
theorem lw_p29 : lw_okq (⟨"LeastCost$Checker", "claim", "()I"⟩, 13) := ⟨⟨by decide +kernel, by decide +kernel⟩, List.mem_of_getElem? (i := 130) (by decide +kernel), List.mem_of_getElem? (i := 379) (by decide +kernel), List.mem_of_getElem? (i := 380) (by decide +kernel)⟩
theorem lw_p30 : lw_okq (⟨"LeastCost$Checker", "enterTree", "(IIZ)V"⟩, 13) := ⟨⟨by decide +kernel, by decide +kernel⟩, List.mem_of_getElem? (i := 130) (by decide +kernel), List.mem_of_getElem? (i := 390) (by decide +kernel), List.mem_of_getElem? (i := 391) (by decide +kernel)⟩
theorem lw_p31 : lw_okq (⟨"LeastCost$Checker", "setWhatIsForced", "()V"⟩, 13) := ⟨⟨by decide +kernel, by decide +kernel⟩, List.mem_of_getElem? (i := 130) (by decide +kernel), List.mem_of_getElem? (i := 394) (by decide +kernel), List.mem_of_getElem? (i := 395) (by decide +kernel)⟩
def lw_privs_2 : List (MethodName × Nat) := [(⟨"LeastCost$Problem", "forcedByLimit", "(LLeastCost$Setting;I)I"⟩, 9), (⟨"LeastCost$Setting", "leastNotSet", "()I"⟩, 2), (⟨"LeastCost$Search", "choose", "(I)V"⟩, 11), (⟨"LeastCost$Search", "keepBest", "()V"⟩, 11), (⟨"LeastCost$Search", "isDone", "()Z"⟩, 11), (⟨"LeastCost$Log", "wordAt", "(I)I"⟩, 2), (⟨"LeastCost$Log", "has", "(I)Z"⟩, 2), (⟨"LeastCost$Log", "replace", "(II)Z"⟩, 2), (⟨"LeastCost$Checker", "beginAnew", "()V"⟩, 13), (⟨"LeastCost$Log", "shorten", "(I)Z"⟩, 2), (⟨"LeastCost$Checker", "readOn", "(I)I"⟩, 13), (⟨"LeastCost$Checker", "begin", "()V"⟩, 13), (⟨"LeastCost$Checker", "claimHolds", "()Z"⟩, 13), (⟨"LeastCost$Checker", "claim", "()I"⟩, 13), (⟨"LeastCost$Checker", "enterTree", "(IIZ)V"⟩, 13), (⟨"LeastCost$Checker", "setWhatIsForced", "()V"⟩, 13)]
theorem lw_r2 : ∀ q ∈ lw_privs_2, lw_okq q := List.forall_mem_cons.mpr ⟨lw_p16, List.forall_mem_cons.mpr ⟨lw_p17, List.forall_mem_cons.mpr ⟨lw_p18, List.forall_mem_cons.mpr ⟨lw_p19, List.forall_mem_cons.mpr ⟨lw_p20, List.forall_mem_cons.mpr ⟨lw_p21, List.forall_mem_cons.mpr ⟨lw_p22, List.forall_mem_cons.mpr ⟨lw_p23, List.forall_mem_cons.mpr ⟨lw_p24, List.forall_mem_cons.mpr ⟨lw_p25, List.forall_mem_cons.mpr ⟨lw_p26, List.forall_mem_cons.mpr ⟨lw_p27, List.forall_mem_cons.mpr ⟨lw_p28, List.forall_mem_cons.mpr ⟨lw_p29, List.forall_mem_cons.mpr ⟨lw_p30, List.forall_mem_cons.mpr ⟨lw_p31, fun _ h => absurd h List.not_mem_nil⟩⟩⟩⟩⟩⟩⟩⟩⟩⟩⟩⟩⟩⟩⟩⟩
theorem lw_p32 : lw_okq (⟨"LeastCost$Checker", "readWord", "()V"⟩, 13) := ⟨⟨by decide +kernel, by decide +kernel⟩, List.mem_of_getElem? (i := 130) (by decide +kernel), List.mem_of_getElem? (i := 400) (by decide +kernel), List.mem_of_getElem? (i := 401) (by decide +kernel)⟩
theorem lw_p33 : lw_okq (⟨"LeastCost$Checker", "closeTree", "()V"⟩, 13) := ⟨⟨by decide +kernel, by decide +kernel⟩, List.mem_of_getElem? (i := 130) (by decide +kernel), List.mem_of_getElem? (i := 404) (by decide +kernel), List.mem_of_getElem? (i := 405) (by decide +kernel)⟩
theorem lw_p34 : lw_okq (⟨"LeastCost$Checker", "splitTree", "(I)V"⟩, 13) := ⟨⟨by decide +kernel, by decide +kernel⟩, List.mem_of_getElem? (i := 130) (by decide +kernel), List.mem_of_getElem? (i := 409) (by decide +kernel), List.mem_of_getElem? (i := 410) (by decide +kernel)⟩
theorem lw_p35 : lw_okq (⟨"LeastCostModel", "step", "()V"⟩, 30) := ⟨⟨by decide +kernel, by decide +kernel⟩, List.mem_of_getElem? (i := 418) (by decide +kernel), List.mem_of_getElem? (i := 534) (by decide +kernel), List.mem_of_getElem? (i := 535) (by decide +kernel)⟩
theorem lw_p36 : lw_okq (⟨"LeastCostModel", "isBroken", "(ZI)Z"⟩, 30) := ⟨⟨by decide +kernel, by decide +kernel⟩, List.mem_of_getElem? (i := 418) (by decide +kernel), List.mem_of_getElem? (i := 538) (by decide +kernel), List.mem_of_getElem? (i := 539) (by decide +kernel)⟩
theorem lw_p37 : lw_okq (⟨"LeastCostModel", "cost", "()I"⟩, 30) := ⟨⟨by decide +kernel, by decide +kernel⟩, List.mem_of_getElem? (i := 418) (by decide +kernel), List.mem_of_getElem? (i := 542) (by decide +kernel), List.mem_of_getElem? (i := 543) (by decide +kernel)⟩
theorem lw_p38 : lw_okq (⟨"LeastCostModel", "isSet", "(I)Z"⟩, 30) := ⟨⟨by decide +kernel, by decide +kernel⟩, List.mem_of_getElem? (i := 418) (by decide +kernel), List.mem_of_getElem? (i := 546) (by decide +kernel), List.mem_of_getElem? (i := 547) (by decide +kernel)⟩
theorem lw_p39 : lw_okq (⟨"LeastCostModel", "isOne", "(I)Z"⟩, 30) := ⟨⟨by decide +kernel, by decide +kernel⟩, List.mem_of_getElem? (i := 418) (by decide +kernel), List.mem_of_getElem? (i := 550) (by decide +kernel), List.mem_of_getElem? (i := 551) (by decide +kernel)⟩
theorem lw_p40 : lw_okq (⟨"LeastCostModel", "slack", "(I)I"⟩, 30) := ⟨⟨by decide +kernel, by decide +kernel⟩, List.mem_of_getElem? (i := 418) (by decide +kernel), List.mem_of_getElem? (i := 554) (by decide +kernel), List.mem_of_getElem? (i := 555) (by decide +kernel)⟩
theorem lw_p41 : lw_okq (⟨"LeastCostModel", "isFalse", "(I)Z"⟩, 30) := ⟨⟨by decide +kernel, by decide +kernel⟩, List.mem_of_getElem? (i := 418) (by decide +kernel), List.mem_of_getElem? (i := 558) (by decide +kernel), List.mem_of_getElem? (i := 559) (by decide +kernel)⟩
theorem lw_p42 : lw_okq (⟨"LeastCostModel", "goBack", "()V"⟩, 30) := ⟨⟨by decide +kernel, by decide +kernel⟩, List.mem_of_getElem? (i := 418) (by decide +kernel), List.mem_of_getElem? (i := 562) (by decide +kernel), List.mem_of_getElem? (i := 563) (by decide +kernel)⟩
theorem lw_p43 : lw_okq (⟨"LeastCostModel", "write", "(I)Z"⟩, 30) := ⟨⟨by decide +kernel, by decide +kernel⟩, List.mem_of_getElem? (i := 418) (by decide +kernel), List.mem_of_getElem? (i := 566) (by decide +kernel), List.mem_of_getElem? (i := 567) (by decide +kernel)⟩
theorem lw_p44 : lw_okq (⟨"LeastCostModel", "lay", "(IZZ)V"⟩, 30) := ⟨⟨by decide +kernel, by decide +kernel⟩, List.mem_of_getElem? (i := 418) (by decide +kernel), List.mem_of_getElem? (i := 570) (by decide +kernel), List.mem_of_getElem? (i := 571) (by decide +kernel)⟩
theorem lw_p45 : lw_okq (⟨"LeastCostModel", "put", "(IZ)V"⟩, 30) := ⟨⟨by decide +kernel, by decide +kernel⟩, List.mem_of_getElem? (i := 418) (by decide +kernel), List.mem_of_getElem? (i := 574) (by decide +kernel), List.mem_of_getElem? (i := 575) (by decide +kernel)⟩
theorem lw_p46 : lw_okq (⟨"LeastCostModel", "forced", "(ZI)I"⟩, 30) := ⟨⟨by decide +kernel, by decide +kernel⟩, List.mem_of_getElem? (i := 418) (by decide +kernel), List.mem_of_getElem? (i := 578) (by decide +kernel), List.mem_of_getElem? (i := 579) (by decide +kernel)⟩
theorem lw_p47 : lw_okq (⟨"LeastCostModel", "anew", "()V"⟩, 30) := ⟨⟨by decide +kernel, by decide +kernel⟩, List.mem_of_getElem? (i := 418) (by decide +kernel), List.mem_of_getElem? (i := 602) (by decide +kernel), List.mem_of_getElem? (i := 603) (by decide +kernel)⟩
def lw_privs_3 : List (MethodName × Nat) := [(⟨"LeastCost$Checker", "readWord", "()V"⟩, 13), (⟨"LeastCost$Checker", "closeTree", "()V"⟩, 13), (⟨"LeastCost$Checker", "splitTree", "(I)V"⟩, 13), (⟨"LeastCostModel", "step", "()V"⟩, 30), (⟨"LeastCostModel", "isBroken", "(ZI)Z"⟩, 30), (⟨"LeastCostModel", "cost", "()I"⟩, 30), (⟨"LeastCostModel", "isSet", "(I)Z"⟩, 30), (⟨"LeastCostModel", "isOne", "(I)Z"⟩, 30), (⟨"LeastCostModel", "slack", "(I)I"⟩, 30), (⟨"LeastCostModel", "isFalse", "(I)Z"⟩, 30), (⟨"LeastCostModel", "goBack", "()V"⟩, 30), (⟨"LeastCostModel", "write", "(I)Z"⟩, 30), (⟨"LeastCostModel", "lay", "(IZZ)V"⟩, 30), (⟨"LeastCostModel", "put", "(IZ)V"⟩, 30), (⟨"LeastCostModel", "forced", "(ZI)I"⟩, 30), (⟨"LeastCostModel", "anew", "()V"⟩, 30)]
theorem lw_r3 : ∀ q ∈ lw_privs_3, lw_okq q := List.forall_mem_cons.mpr ⟨lw_p32, List.forall_mem_cons.mpr ⟨lw_p33, List.forall_mem_cons.mpr ⟨lw_p34, List.forall_mem_cons.mpr ⟨lw_p35, List.forall_mem_cons.mpr ⟨lw_p36, List.forall_mem_cons.mpr ⟨lw_p37, List.forall_mem_cons.mpr ⟨lw_p38, List.forall_mem_cons.mpr ⟨lw_p39, List.forall_mem_cons.mpr ⟨lw_p40, List.forall_mem_cons.mpr ⟨lw_p41, List.forall_mem_cons.mpr ⟨lw_p42, List.forall_mem_cons.mpr ⟨lw_p43, List.forall_mem_cons.mpr ⟨lw_p44, List.forall_mem_cons.mpr ⟨lw_p45, List.forall_mem_cons.mpr ⟨lw_p46, List.forall_mem_cons.mpr ⟨lw_p47, fun _ h => absurd h List.not_mem_nil⟩⟩⟩⟩⟩⟩⟩⟩⟩⟩⟩⟩⟩⟩⟩⟩
theorem lw_p48 : lw_okq (⟨"LeastCostModel", "look", "()V"⟩, 30) := ⟨⟨by decide +kernel, by decide +kernel⟩, List.mem_of_getElem? (i := 418) (by decide +kernel), List.mem_of_getElem? (i := 614) (by decide +kernel), List.mem_of_getElem? (i := 615) (by decide +kernel)⟩
theorem lw_p49 : lw_okq (⟨"LeastCostModel", "word", "()V"⟩, 30) := ⟨⟨by decide +kernel, by decide +kernel⟩, List.mem_of_getElem? (i := 418) (by decide +kernel), List.mem_of_getElem? (i := 619) (by decide +kernel), List.mem_of_getElem? (i := 620) (by decide +kernel)⟩
theorem lw_p50 : lw_okq (⟨"LeastCostModel", "hold", "(IIZ)V"⟩, 30) := ⟨⟨by decide +kernel, by decide +kernel⟩, List.mem_of_getElem? (i := 418) (by decide +kernel), List.mem_of_getElem? (i := 623) (by decide +kernel), List.mem_of_getElem? (i := 624) (by decide +kernel)⟩
def lw_privs_4 : List (MethodName × Nat) := [(⟨"LeastCostModel", "look", "()V"⟩, 30), (⟨"LeastCostModel", "word", "()V"⟩, 30), (⟨"LeastCostModel", "hold", "(IIZ)V"⟩, 30)]
theorem lw_r4 : ∀ q ∈ lw_privs_4, lw_okq q := List.forall_mem_cons.mpr ⟨lw_p48, List.forall_mem_cons.mpr ⟨lw_p49, List.forall_mem_cons.mpr ⟨lw_p50, fun _ h => absurd h List.not_mem_nil⟩⟩⟩
def lw_privs : List (MethodName × Nat) := lw_privs_1 ++ (lw_privs_2 ++ (lw_privs_3 ++ (lw_privs_4)))
def lw_tbl : List Cond := k2_sels lw_privs ++ tables_1
theorem lw_privs_ok : ∀ q ∈ lw_privs, lw_okq q := by
  show ∀ q ∈ lw_privs_1 ++ (lw_privs_2 ++ (lw_privs_3 ++ (lw_privs_4))), lw_okq q
  exact List.forall_mem_append.mpr ⟨lw_r1, List.forall_mem_append.mpr ⟨lw_r2, List.forall_mem_append.mpr ⟨lw_r3, lw_r4⟩⟩⟩

def RX0 : String := "LeastCost$Checker"
def TX0 : u_T := fun k => match k with
  | 0 => ("LeastCost$Checker", "problem", "LLeastCost$Problem;", true)
  | 1 => ("LeastCost$Checker", "log", "LLeastCost$Log;", true)
  | 2 => ("LeastCost$Checker", "setting", "LLeastCost$Setting;", true)
  | 3 => ("LeastCost$Checker", "waitingOnes", "[I", true)
  | 4 => ("LeastCost$Checker", "waitingZeros", "[I", true)
  | 5 => ("LeastCost$Checker", "waitingBroken", "[Z", true)
  | 6 => ("LeastCost$Checker", "waiting", "I", false)
  | 7 => ("LeastCost$Checker", "broken", "Z", false)
  | 8 => ("LeastCost$Checker", "limit", "I", false)
  | 9 => ("LeastCost$Checker", "position", "I", false)
  | 10 => ("LeastCost$Checker", "treeSize", "I", false)
  | 11 => ("LeastCost$Checker", "begun", "Z", false)
  | _ => ("LeastCost$Checker", "verdict", "I", false)
def tyX0 : Nat → FieldType := fun k => match k with
  | 0 => .object "LeastCost$Problem"
  | 1 => .object "LeastCost$Log"
  | 2 => .object "LeastCost$Setting"
  | 3 => .array .int
  | 4 => .array .int
  | 5 => .array .boolean
  | 6 => .int
  | 7 => .boolean
  | 8 => .int
  | 9 => .int
  | 10 => .int
  | 11 => .boolean
  | _ => .int
theorem nmX0 : ∀ a, a < 13 → ∀ b, b < 13 → a ≠ b → (TX0 a).2.1 ≠ (TX0 b).2.1 := by decide +kernel
theorem tyX0_ok : ∀ k, k < 13 → parseFieldDescriptor (TX0 k).2.2.1 = some (tyX0 k) := by decide +kernel
abbrev cX0_init : ByteArray := prog_2_method_1_code
def yX0_init : MethodName := ⟨RX0, "<init>", "(LLeastCost$Problem;LLeastCost$Log;)V"⟩
abbrev cX0_beginAnew : ByteArray := prog_2_method_2_code
def yX0_beginAnew : MethodName := ⟨RX0, "beginAnew", "()V"⟩
abbrev cX0_readOn : ByteArray := prog_2_method_3_code
def yX0_readOn : MethodName := ⟨RX0, "readOn", "(I)I"⟩
abbrev cX0_begin : ByteArray := prog_2_method_4_code
def yX0_begin : MethodName := ⟨RX0, "begin", "()V"⟩
abbrev cX0_claim : ByteArray := prog_2_method_5_code
def yX0_claim : MethodName := ⟨RX0, "claim", "()I"⟩
abbrev cX0_claimHolds : ByteArray := prog_2_method_6_code
def yX0_claimHolds : MethodName := ⟨RX0, "claimHolds", "()Z"⟩
abbrev cX0_readWord : ByteArray := prog_2_method_7_code
def yX0_readWord : MethodName := ⟨RX0, "readWord", "()V"⟩
abbrev cX0_closeTree : ByteArray := prog_2_method_8_code
def yX0_closeTree : MethodName := ⟨RX0, "closeTree", "()V"⟩
abbrev cX0_splitTree : ByteArray := prog_2_method_9_code
def yX0_splitTree : MethodName := ⟨RX0, "splitTree", "(I)V"⟩
abbrev cX0_enterTree : ByteArray := prog_2_method_10_code
def yX0_enterTree : MethodName := ⟨RX0, "enterTree", "(IIZ)V"⟩
abbrev cX0_setWhatIsForced : ByteArray := prog_2_method_11_code
def yX0_setWhatIsForced : MethodName := ⟨RX0, "setWhatIsForced", "()V"⟩
def RX1 : String := "LeastCost$Log"
def TX1 : u_T := fun k => match k with
  | 0 => ("LeastCost$Log", "words", "[I", true)
  | _ => ("LeastCost$Log", "size", "I", false)
def tyX1 : Nat → FieldType := fun k => match k with
  | 0 => .array .int
  | _ => .int
theorem nmX1 : ∀ a, a < 2 → ∀ b, b < 2 → a ≠ b → (TX1 a).2.1 ≠ (TX1 b).2.1 := by decide +kernel
theorem tyX1_ok : ∀ k, k < 2 → parseFieldDescriptor (TX1 k).2.2.1 = some (tyX1 k) := by decide +kernel
abbrev cX1_init : ByteArray := prog_3_method_1_code
def yX1_init : MethodName := ⟨RX1, "<init>", "()V"⟩
abbrev cX1_has : ByteArray := prog_3_method_2_code
def yX1_has : MethodName := ⟨RX1, "has", "(I)Z"⟩
abbrev cX1_wordAt : ByteArray := prog_3_method_3_code
def yX1_wordAt : MethodName := ⟨RX1, "wordAt", "(I)I"⟩
abbrev cX1_append : ByteArray := prog_3_method_4_code
def yX1_append : MethodName := ⟨RX1, "append", "(I)Z"⟩
abbrev cX1_replace : ByteArray := prog_3_method_5_code
def yX1_replace : MethodName := ⟨RX1, "replace", "(II)Z"⟩
abbrev cX1_shorten : ByteArray := prog_3_method_6_code
def yX1_shorten : MethodName := ⟨RX1, "shorten", "(I)Z"⟩
def RX2 : String := "LeastCost$Problem"
def TX2 : u_T := fun k => match k with
  | 0 => ("LeastCost$Problem", "costs", "[I", true)
  | 1 => ("LeastCost$Problem", "coefficients", "[I", true)
  | 2 => ("LeastCost$Problem", "literals", "[I", true)
  | 3 => ("LeastCost$Problem", "bits", "[I", true)
  | 4 => ("LeastCost$Problem", "firsts", "[I", true)
  | 5 => ("LeastCost$Problem", "bounds", "[I", true)
  | 6 => ("LeastCost$Problem", "terms", "I", false)
  | 7 => ("LeastCost$Problem", "constraints", "I", false)
  | _ => ("LeastCost$Problem", "taken", "I", false)
def tyX2 : Nat → FieldType := fun k => match k with
  | 0 => .array .int
  | 1 => .array .int
  | 2 => .array .int
  | 3 => .array .int
  | 4 => .array .int
  | 5 => .array .int
  | 6 => .int
  | 7 => .int
  | _ => .int
theorem nmX2 : ∀ a, a < 9 → ∀ b, b < 9 → a ≠ b → (TX2 a).2.1 ≠ (TX2 b).2.1 := by decide +kernel
theorem tyX2_ok : ∀ k, k < 9 → parseFieldDescriptor (TX2 k).2.2.1 = some (tyX2 k) := by decide +kernel
abbrev cX2_init : ByteArray := prog_4_method_1_code
def yX2_init : MethodName := ⟨RX2, "<init>", "()V"⟩
abbrev cX2_addTerm : ByteArray := prog_4_method_2_code
def yX2_addTerm : MethodName := ⟨RX2, "addTerm", "(II)Z"⟩
abbrev cX2_makeConstraint : ByteArray := prog_4_method_3_code
def yX2_makeConstraint : MethodName := ⟨RX2, "makeConstraint", "(I)I"⟩
abbrev cX2_costOf : ByteArray := prog_4_method_4_code
def yX2_costOf : MethodName := ⟨RX2, "costOf", "(I)I"⟩
abbrev cX2_slackOf : ByteArray := prog_4_method_5_code
def yX2_slackOf : MethodName := ⟨RX2, "slackOf", "(ILLeastCost$Setting;)I"⟩
abbrev cX2_limitSlack : ByteArray := prog_4_method_6_code
def yX2_limitSlack : MethodName := ⟨RX2, "limitSlack", "(LLeastCost$Setting;I)I"⟩
abbrev cX2_isBroken : ByteArray := prog_4_method_7_code
def yX2_isBroken : MethodName := ⟨RX2, "isBroken", "(LLeastCost$Setting;I)Z"⟩
abbrev cX2_forcedLiteral : ByteArray := prog_4_method_8_code
def yX2_forcedLiteral : MethodName := ⟨RX2, "forcedLiteral", "(LLeastCost$Setting;I)I"⟩
abbrev cX2_forcedBy : ByteArray := prog_4_method_9_code
def yX2_forcedBy : MethodName := ⟨RX2, "forcedBy", "(ILLeastCost$Setting;)I"⟩
abbrev cX2_forcedByLimit : ByteArray := prog_4_method_10_code
def yX2_forcedByLimit : MethodName := ⟨RX2, "forcedByLimit", "(LLeastCost$Setting;I)I"⟩
def RX3 : String := "LeastCost$Search"
def TX3 : u_T := fun k => match k with
  | 0 => ("LeastCost$Search", "problem", "LLeastCost$Problem;", true)
  | 1 => ("LeastCost$Search", "log", "LLeastCost$Log;", true)
  | 2 => ("LeastCost$Search", "setting", "LLeastCost$Setting;", true)
  | 3 => ("LeastCost$Search", "choices", "[I", true)
  | 4 => ("LeastCost$Search", "onesBefore", "[I", true)
  | 5 => ("LeastCost$Search", "zerosBefore", "[I", true)
  | 6 => ("LeastCost$Search", "depth", "I", false)
  | 7 => ("LeastCost$Search", "bestCost", "I", false)
  | 8 => ("LeastCost$Search", "bestOnes", "I", false)
  | 9 => ("LeastCost$Search", "stepsMade", "I", false)
  | _ => ("LeastCost$Search", "state", "I", false)
def tyX3 : Nat → FieldType := fun k => match k with
  | 0 => .object "LeastCost$Problem"
  | 1 => .object "LeastCost$Log"
  | 2 => .object "LeastCost$Setting"
  | 3 => .array .int
  | 4 => .array .int
  | 5 => .array .int
  | 6 => .int
  | 7 => .int
  | 8 => .int
  | 9 => .int
  | _ => .int
theorem nmX3 : ∀ a, a < 11 → ∀ b, b < 11 → a ≠ b → (TX3 a).2.1 ≠ (TX3 b).2.1 := by decide +kernel
theorem tyX3_ok : ∀ k, k < 11 → parseFieldDescriptor (TX3 k).2.2.1 = some (tyX3 k) := by decide +kernel
abbrev cX3_init : ByteArray := prog_5_method_1_code
def yX3_init : MethodName := ⟨RX3, "<init>", "(LLeastCost$Problem;LLeastCost$Log;)V"⟩
abbrev cX3_isDone : ByteArray := prog_5_method_2_code
def yX3_isDone : MethodName := ⟨RX3, "isDone", "()Z"⟩
abbrev cX3_advance : ByteArray := prog_5_method_3_code
def yX3_advance : MethodName := ⟨RX3, "advance", "(I)I"⟩
abbrev cX3_step : ByteArray := prog_5_method_4_code
def yX3_step : MethodName := ⟨RX3, "step", "()V"⟩
abbrev cX3_goBack : ByteArray := prog_5_method_5_code
def yX3_goBack : MethodName := ⟨RX3, "goBack", "()V"⟩
abbrev cX3_finish : ByteArray := prog_5_method_6_code
def yX3_finish : MethodName := ⟨RX3, "finish", "()V"⟩
abbrev cX3_keepBest : ByteArray := prog_5_method_7_code
def yX3_keepBest : MethodName := ⟨RX3, "keepBest", "()V"⟩
abbrev cX3_choose : ByteArray := prog_5_method_8_code
def yX3_choose : MethodName := ⟨RX3, "choose", "(I)V"⟩
abbrev cX3_writes : ByteArray := prog_5_method_9_code
def yX3_writes : MethodName := ⟨RX3, "writes", "(I)Z"⟩
def RX4 : String := "LeastCost$Setting"
def TX4 : u_T := fun k => match k with
  | 0 => ("LeastCost$Setting", "ones", "I", false)
  | _ => ("LeastCost$Setting", "zeros", "I", false)
def tyX4 : Nat → FieldType := fun k => match k with
  | 0 => .int
  | _ => .int
theorem nmX4 : ∀ a, a < 2 → ∀ b, b < 2 → a ≠ b → (TX4 a).2.1 ≠ (TX4 b).2.1 := by decide +kernel
theorem tyX4_ok : ∀ k, k < 2 → parseFieldDescriptor (TX4 k).2.2.1 = some (tyX4 k) := by decide +kernel
abbrev cX4_init : ByteArray := prog_6_method_1_code
def yX4_init : MethodName := ⟨RX4, "<init>", "()V"⟩
abbrev cX4_become : ByteArray := prog_6_method_2_code
def yX4_become : MethodName := ⟨RX4, "become", "(II)V"⟩
abbrev cX4_makeTrue : ByteArray := prog_6_method_3_code
def yX4_makeTrue : MethodName := ⟨RX4, "makeTrue", "(I)V"⟩
abbrev cX4_leastNotSet : ByteArray := prog_6_method_4_code
def yX4_leastNotSet : MethodName := ⟨RX4, "leastNotSet", "()I"⟩
def RX5 : String := "LeastCost"
def TX5 : u_T := fun k => match k with
  | 0 => ("LeastCost", "problem", "LLeastCost$Problem;", true)
  | 1 => ("LeastCost", "log", "LLeastCost$Log;", true)
  | 2 => ("LeastCost", "search", "LLeastCost$Search;", true)
  | 3 => ("LeastCost", "checker", "LLeastCost$Checker;", true)
  | _ => ("LeastCost", "started", "Z", false)
def tyX5 : Nat → FieldType := fun k => match k with
  | 0 => .object "LeastCost$Problem"
  | 1 => .object "LeastCost$Log"
  | 2 => .object "LeastCost$Search"
  | 3 => .object "LeastCost$Checker"
  | _ => .boolean
theorem nmX5 : ∀ a, a < 5 → ∀ b, b < 5 → a ≠ b → (TX5 a).2.1 ≠ (TX5 b).2.1 := by decide +kernel
theorem tyX5_ok : ∀ k, k < 5 → parseFieldDescriptor (TX5 k).2.2.1 = some (tyX5 k) := by decide +kernel
abbrev cX5_init : ByteArray := prog_1_method_1_code
def yX5_init : MethodName := ⟨RX5, "<init>", "()V"⟩
abbrev cX5_setCost : ByteArray := prog_1_method_2_code
def yX5_setCost : MethodName := ⟨RX5, "setCost", "(II)I"⟩
abbrev cX5_term : ByteArray := prog_1_method_3_code
def yX5_term : MethodName := ⟨RX5, "term", "(II)I"⟩
abbrev cX5_end : ByteArray := prog_1_method_4_code
def yX5_end : MethodName := ⟨RX5, "end", "(I)I"⟩
abbrev cX5_run : ByteArray := prog_1_method_5_code
def yX5_run : MethodName := ⟨RX5, "run", "(I)I"⟩
abbrev cX5_optimum : ByteArray := prog_1_method_6_code
def yX5_optimum : MethodName := ⟨RX5, "optimum", "()I"⟩
abbrev cX5_value : ByteArray := prog_1_method_7_code
def yX5_value : MethodName := ⟨RX5, "value", "(I)I"⟩
abbrev cX5_logSize : ByteArray := prog_1_method_8_code
def yX5_logSize : MethodName := ⟨RX5, "logSize", "()I"⟩
abbrev cX5_logAt : ByteArray := prog_1_method_9_code
def yX5_logAt : MethodName := ⟨RX5, "logAt", "(I)I"⟩
abbrev cX5_poke : ByteArray := prog_1_method_10_code
def yX5_poke : MethodName := ⟨RX5, "poke", "(II)I"⟩
abbrev cX5_cut : ByteArray := prog_1_method_11_code
def yX5_cut : MethodName := ⟨RX5, "cut", "(I)I"⟩
abbrev cX5_check : ByteArray := prog_1_method_12_code
def yX5_check : MethodName := ⟨RX5, "check", "(I)I"⟩
abbrev cX5_steps : ByteArray := prog_1_method_13_code
def yX5_steps : MethodName := ⟨RX5, "steps", "()I"⟩
abbrev cX5_isWithin : ByteArray := prog_1_method_14_code
def yX5_isWithin : MethodName := ⟨RX5, "isWithin", "(III)Z"⟩
abbrev cX5_isVariable : ByteArray := prog_1_method_15_code
def yX5_isVariable : MethodName := ⟨RX5, "isVariable", "(I)Z"⟩
abbrev cX5_variableOf : ByteArray := prog_1_method_16_code
def yX5_variableOf : MethodName := ⟨RX5, "variableOf", "(I)I"⟩
abbrev cX5_bitOf : ByteArray := prog_1_method_17_code
def yX5_bitOf : MethodName := ⟨RX5, "bitOf", "(I)I"⟩
abbrev cX5_limitBelow : ByteArray := prog_1_method_18_code
def yX5_limitBelow : MethodName := ⟨RX5, "limitBelow", "(I)I"⟩
def RX6 : String := "LeastCostModel"
def TX6 : u_T := fun k => match k with
  | 0 => ("LeastCostModel", "thrown", "I", false)
  | 1 => ("LeastCostModel", "costs", "[I", true)
  | 2 => ("LeastCostModel", "factors", "[I", true)
  | 3 => ("LeastCostModel", "literals", "[I", true)
  | 4 => ("LeastCostModel", "begins", "[I", true)
  | 5 => ("LeastCostModel", "bounds", "[I", true)
  | 6 => ("LeastCostModel", "constraints", "I", false)
  | 7 => ("LeastCostModel", "terms", "I", false)
  | 8 => ("LeastCostModel", "begun", "Z", false)
  | 9 => ("LeastCostModel", "done", "Z", false)
  | 10 => ("LeastCostModel", "over", "Z", false)
  | 11 => ("LeastCostModel", "set", "I", false)
  | 12 => ("LeastCostModel", "ones", "I", false)
  | 13 => ("LeastCostModel", "trail", "[I", true)
  | 14 => ("LeastCostModel", "choice", "[Z", true)
  | 15 => ("LeastCostModel", "depth", "I", false)
  | 16 => ("LeastCostModel", "searchSet", "I", false)
  | 17 => ("LeastCostModel", "searchOnes", "I", false)
  | 18 => ("LeastCostModel", "best", "I", false)
  | 19 => ("LeastCostModel", "bestOnes", "I", false)
  | 20 => ("LeastCostModel", "made", "I", false)
  | 21 => ("LeastCostModel", "log", "[I", true)
  | 22 => ("LeastCostModel", "size", "I", false)
  | 23 => ("LeastCostModel", "answer", "I", false)
  | 24 => ("LeastCostModel", "looked", "Z", false)
  | 25 => ("LeastCostModel", "place", "I", false)
  | 26 => ("LeastCostModel", "waiting", "I", false)
  | 27 => ("LeastCostModel", "waitSet", "[I", true)
  | 28 => ("LeastCostModel", "waitOnes", "[I", true)
  | _ => ("LeastCostModel", "waitDead", "[Z", true)
def tyX6 : Nat → FieldType := fun k => match k with
  | 0 => .int
  | 1 => .array .int
  | 2 => .array .int
  | 3 => .array .int
  | 4 => .array .int
  | 5 => .array .int
  | 6 => .int
  | 7 => .int
  | 8 => .boolean
  | 9 => .boolean
  | 10 => .boolean
  | 11 => .int
  | 12 => .int
  | 13 => .array .int
  | 14 => .array .boolean
  | 15 => .int
  | 16 => .int
  | 17 => .int
  | 18 => .int
  | 19 => .int
  | 20 => .int
  | 21 => .array .int
  | 22 => .int
  | 23 => .int
  | 24 => .boolean
  | 25 => .int
  | 26 => .int
  | 27 => .array .int
  | 28 => .array .int
  | _ => .array .boolean
theorem nmX6 : ∀ a, a < 30 → ∀ b, b < 30 → a ≠ b → (TX6 a).2.1 ≠ (TX6 b).2.1 := by decide +kernel
theorem tyX6_ok : ∀ k, k < 30 → parseFieldDescriptor (TX6 k).2.2.1 = some (tyX6 k) := by decide +kernel
abbrev cX6_init : ByteArray := prog_8_method_1_code
def yX6_init : MethodName := ⟨RX6, "<init>", "()V"⟩
abbrev cX6_isIn : ByteArray := prog_8_method_3_code
def yX6_isIn : MethodName := ⟨RX6, "isIn", "(III)Z"⟩
abbrev cX6_setCost : ByteArray := prog_8_method_4_code
def yX6_setCost : MethodName := ⟨RX6, "setCost", "(II)I"⟩
abbrev cX6_term : ByteArray := prog_8_method_5_code
def yX6_term : MethodName := ⟨RX6, "term", "(II)I"⟩
abbrev cX6_end : ByteArray := prog_8_method_6_code
def yX6_end : MethodName := ⟨RX6, "end", "(I)I"⟩
abbrev cX6_isSet : ByteArray := prog_8_method_7_code
def yX6_isSet : MethodName := ⟨RX6, "isSet", "(I)Z"⟩
abbrev cX6_isOne : ByteArray := prog_8_method_8_code
def yX6_isOne : MethodName := ⟨RX6, "isOne", "(I)Z"⟩
abbrev cX6_isFalse : ByteArray := prog_8_method_9_code
def yX6_isFalse : MethodName := ⟨RX6, "isFalse", "(I)Z"⟩
abbrev cX6_slack : ByteArray := prog_8_method_10_code
def yX6_slack : MethodName := ⟨RX6, "slack", "(I)I"⟩
abbrev cX6_cost : ByteArray := prog_8_method_11_code
def yX6_cost : MethodName := ⟨RX6, "cost", "()I"⟩
abbrev cX6_isBroken : ByteArray := prog_8_method_12_code
def yX6_isBroken : MethodName := ⟨RX6, "isBroken", "(ZI)Z"⟩
abbrev cX6_forced : ByteArray := prog_8_method_13_code
def yX6_forced : MethodName := ⟨RX6, "forced", "(ZI)I"⟩
abbrev cX6_put : ByteArray := prog_8_method_14_code
def yX6_put : MethodName := ⟨RX6, "put", "(IZ)V"⟩
abbrev cX6_write : ByteArray := prog_8_method_15_code
def yX6_write : MethodName := ⟨RX6, "write", "(I)Z"⟩
abbrev cX6_lay : ByteArray := prog_8_method_16_code
def yX6_lay : MethodName := ⟨RX6, "lay", "(IZZ)V"⟩
abbrev cX6_goBack : ByteArray := prog_8_method_17_code
def yX6_goBack : MethodName := ⟨RX6, "goBack", "()V"⟩
abbrev cX6_step : ByteArray := prog_8_method_18_code
def yX6_step : MethodName := ⟨RX6, "step", "()V"⟩
abbrev cX6_run : ByteArray := prog_8_method_19_code
def yX6_run : MethodName := ⟨RX6, "run", "(I)I"⟩
abbrev cX6_optimum : ByteArray := prog_8_method_20_code
def yX6_optimum : MethodName := ⟨RX6, "optimum", "()I"⟩
abbrev cX6_value : ByteArray := prog_8_method_21_code
def yX6_value : MethodName := ⟨RX6, "value", "(I)I"⟩
abbrev cX6_logSize : ByteArray := prog_8_method_22_code
def yX6_logSize : MethodName := ⟨RX6, "logSize", "()I"⟩
abbrev cX6_logAt : ByteArray := prog_8_method_23_code
def yX6_logAt : MethodName := ⟨RX6, "logAt", "(I)I"⟩
abbrev cX6_poke : ByteArray := prog_8_method_24_code
def yX6_poke : MethodName := ⟨RX6, "poke", "(II)I"⟩
abbrev cX6_cut : ByteArray := prog_8_method_25_code
def yX6_cut : MethodName := ⟨RX6, "cut", "(I)I"⟩
abbrev cX6_anew : ByteArray := prog_8_method_26_code
def yX6_anew : MethodName := ⟨RX6, "anew", "()V"⟩
abbrev cX6_look : ByteArray := prog_8_method_27_code
def yX6_look : MethodName := ⟨RX6, "look", "()V"⟩
abbrev cX6_hold : ByteArray := prog_8_method_28_code
def yX6_hold : MethodName := ⟨RX6, "hold", "(IIZ)V"⟩
abbrev cX6_word : ByteArray := prog_8_method_29_code
def yX6_word : MethodName := ⟨RX6, "word", "()V"⟩
abbrev cX6_check : ByteArray := prog_8_method_30_code
def yX6_check : MethodName := ⟨RX6, "check", "(I)I"⟩
abbrev cX6_steps : ByteArray := prog_8_method_31_code
def yX6_steps : MethodName := ⟨RX6, "steps", "()I"⟩
def RL : String := "LeastCostLaw"
abbrev cL_law : ByteArray := code
def yL_law : MethodName := ⟨RL, "law", "([I)Z"⟩
abbrev vwCl : List vw_C := [(RX0, TX0, 13), (RX1, TX1, 2), (RX2, TX2, 9), (RX3, TX3, 11), (RX4, TX4, 2), (RX5, TX5, 5), (RX6, TX6, 30)]
/-- the words of the tables that hold on after any step: every method's words, behind its own code -/
def GL : List Cond := lw_tbl.filter goodWord
end
section
theorem dX0_init_0 : decode cX0_init 0 = .ok (.aload_n 0, 1) := by decide +kernel
theorem dX0_init_1 : decode cX0_init 1 = .ok (.invokespecial 3, 3) := by decide +kernel
theorem dX0_init_4 : decode cX0_init 4 = .ok (.aload_n 0, 1) := by decide +kernel
theorem dX0_init_5 : decode cX0_init 5 = .ok (.new 9, 3) := by decide +kernel
theorem dX0_init_8 : decode cX0_init 8 = .ok (.dup, 1) := by decide +kernel
theorem dX0_init_9 : decode cX0_init 9 = .ok (.invokespecial 11, 3) := by decide +kernel
theorem dX0_init_12 : decode cX0_init 12 = .ok (.putfield 12, 3) := by decide +kernel
theorem dX0_init_15 : decode cX0_init 15 = .ok (.aload_n 0, 1) := by decide +kernel
theorem dX0_init_16 : decode cX0_init 16 = .ok (.sipush 400, 3) := by decide +kernel
theorem dX0_init_19 : decode cX0_init 19 = .ok (.newarray .int, 2) := by decide +kernel
theorem dX0_init_21 : decode cX0_init 21 = .ok (.putfield 18, 3) := by decide +kernel
theorem dX0_init_24 : decode cX0_init 24 = .ok (.aload_n 0, 1) := by decide +kernel
theorem dX0_init_25 : decode cX0_init 25 = .ok (.sipush 400, 3) := by decide +kernel
theorem dX0_init_28 : decode cX0_init 28 = .ok (.newarray .int, 2) := by decide +kernel
theorem dX0_init_30 : decode cX0_init 30 = .ok (.putfield 22, 3) := by decide +kernel
theorem dX0_init_33 : decode cX0_init 33 = .ok (.aload_n 0, 1) := by decide +kernel
theorem dX0_init_34 : decode cX0_init 34 = .ok (.sipush 400, 3) := by decide +kernel
theorem dX0_init_37 : decode cX0_init 37 = .ok (.newarray .boolean, 2) := by decide +kernel
theorem dX0_init_39 : decode cX0_init 39 = .ok (.putfield 25, 3) := by decide +kernel
theorem dX0_init_42 : decode cX0_init 42 = .ok (.aload_n 0, 1) := by decide +kernel
theorem dX0_init_43 : decode cX0_init 43 = .ok (.iconst 2, 1) := by decide +kernel
theorem dX0_init_44 : decode cX0_init 44 = .ok (.putfield 29, 3) := by decide +kernel
theorem dX0_init_47 : decode cX0_init 47 = .ok (.aload_n 0, 1) := by decide +kernel
theorem dX0_init_48 : decode cX0_init 48 = .ok (.aload_n 1, 1) := by decide +kernel
theorem dX0_init_49 : decode cX0_init 49 = .ok (.putfield 33, 3) := by decide +kernel
theorem dX0_init_52 : decode cX0_init 52 = .ok (.aload_n 0, 1) := by decide +kernel
theorem dX0_init_53 : decode cX0_init 53 = .ok (.aload_n 2, 1) := by decide +kernel
theorem dX0_init_54 : decode cX0_init 54 = .ok (.putfield 37, 3) := by decide +kernel
theorem dX0_init_57 : decode cX0_init 57 = .ok (.return_, 1) := by decide +kernel
theorem dX0_beginAnew_0 : decode cX0_beginAnew 0 = .ok (.aload_n 0, 1) := by decide +kernel
theorem dX0_beginAnew_1 : decode cX0_beginAnew 1 = .ok (.iconst 0, 1) := by decide +kernel
theorem dX0_beginAnew_2 : decode cX0_beginAnew 2 = .ok (.putfield 41, 3) := by decide +kernel
theorem dX0_beginAnew_5 : decode cX0_beginAnew 5 = .ok (.aload_n 0, 1) := by decide +kernel
theorem dX0_beginAnew_6 : decode cX0_beginAnew 6 = .ok (.iconst 2, 1) := by decide +kernel
theorem dX0_beginAnew_7 : decode cX0_beginAnew 7 = .ok (.putfield 29, 3) := by decide +kernel
theorem dX0_beginAnew_10 : decode cX0_beginAnew 10 = .ok (.return_, 1) := by decide +kernel
theorem dX0_readOn_0 : decode cX0_readOn 0 = .ok (.aload_n 0, 1) := by decide +kernel
theorem dX0_readOn_1 : decode cX0_readOn 1 = .ok (.getfield 41, 3) := by decide +kernel
theorem dX0_readOn_4 : decode cX0_readOn 4 = .ok (.ifCond .ne 12, 3) := by decide +kernel
theorem dX0_readOn_7 : decode cX0_readOn 7 = .ok (.aload_n 0, 1) := by decide +kernel
theorem dX0_readOn_8 : decode cX0_readOn 8 = .ok (.iconst 1, 1) := by decide +kernel
theorem dX0_readOn_9 : decode cX0_readOn 9 = .ok (.putfield 41, 3) := by decide +kernel
theorem dX0_readOn_12 : decode cX0_readOn 12 = .ok (.aload_n 0, 1) := by decide +kernel
theorem dX0_readOn_13 : decode cX0_readOn 13 = .ok (.invokevirtual 45, 3) := by decide +kernel
theorem dX0_readOn_16 : decode cX0_readOn 16 = .ok (.iconst 0, 1) := by decide +kernel
theorem dX0_readOn_17 : decode cX0_readOn 17 = .ok (.istore_n 2, 1) := by decide +kernel
theorem dX0_readOn_18 : decode cX0_readOn 18 = .ok (.iload_n 2, 1) := by decide +kernel
theorem dX0_readOn_19 : decode cX0_readOn 19 = .ok (.iload_n 1, 1) := by decide +kernel
theorem dX0_readOn_20 : decode cX0_readOn 20 = .ok (.if_icmp .ge 25, 3) := by decide +kernel
theorem dX0_readOn_23 : decode cX0_readOn 23 = .ok (.aload_n 0, 1) := by decide +kernel
theorem dX0_readOn_24 : decode cX0_readOn 24 = .ok (.getfield 29, 3) := by decide +kernel
theorem dX0_readOn_27 : decode cX0_readOn 27 = .ok (.iconst 2, 1) := by decide +kernel
theorem dX0_readOn_28 : decode cX0_readOn 28 = .ok (.if_icmp .ne 17, 3) := by decide +kernel
theorem dX0_readOn_31 : decode cX0_readOn 31 = .ok (.aload_n 0, 1) := by decide +kernel
theorem dX0_readOn_32 : decode cX0_readOn 32 = .ok (.invokevirtual 48, 3) := by decide +kernel
theorem dX0_readOn_35 : decode cX0_readOn 35 = .ok (.aload_n 0, 1) := by decide +kernel
theorem dX0_readOn_36 : decode cX0_readOn 36 = .ok (.invokevirtual 51, 3) := by decide +kernel
theorem dX0_readOn_39 : decode cX0_readOn 39 = .ok (.iinc 2 1, 3) := by decide +kernel
theorem dX0_readOn_42 : decode cX0_readOn 42 = .ok (.goto (-24), 3) := by decide +kernel
theorem dX0_readOn_45 : decode cX0_readOn 45 = .ok (.aload_n 0, 1) := by decide +kernel
theorem dX0_readOn_46 : decode cX0_readOn 46 = .ok (.getfield 29, 3) := by decide +kernel
theorem dX0_readOn_49 : decode cX0_readOn 49 = .ok (.ireturn, 1) := by decide +kernel
theorem dX0_begin_0 : decode cX0_begin 0 = .ok (.aload_n 0, 1) := by decide +kernel
theorem dX0_begin_1 : decode cX0_begin 1 = .ok (.aload_n 0, 1) := by decide +kernel
theorem dX0_begin_2 : decode cX0_begin 2 = .ok (.getfield 37, 3) := by decide +kernel
theorem dX0_begin_5 : decode cX0_begin 5 = .ok (.getfield 54, 3) := by decide +kernel
theorem dX0_begin_8 : decode cX0_begin 8 = .ok (.iconst 2, 1) := by decide +kernel
theorem dX0_begin_9 : decode cX0_begin 9 = .ok (.isub, 1) := by decide +kernel
theorem dX0_begin_10 : decode cX0_begin 10 = .ok (.putfield 59, 3) := by decide +kernel
theorem dX0_begin_13 : decode cX0_begin 13 = .ok (.aload_n 0, 1) := by decide +kernel
theorem dX0_begin_14 : decode cX0_begin 14 = .ok (.getfield 59, 3) := by decide +kernel
theorem dX0_begin_17 : decode cX0_begin 17 = .ok (.iconst 1, 1) := by decide +kernel
theorem dX0_begin_18 : decode cX0_begin 18 = .ok (.if_icmp .lt 10, 3) := by decide +kernel
theorem dX0_begin_21 : decode cX0_begin 21 = .ok (.aload_n 0, 1) := by decide +kernel
theorem dX0_begin_22 : decode cX0_begin 22 = .ok (.invokevirtual 62, 3) := by decide +kernel
theorem dX0_begin_25 : decode cX0_begin 25 = .ok (.ifCond .ne 9, 3) := by decide +kernel
theorem dX0_begin_28 : decode cX0_begin 28 = .ok (.aload_n 0, 1) := by decide +kernel
theorem dX0_begin_29 : decode cX0_begin 29 = .ok (.iconst 0, 1) := by decide +kernel
theorem dX0_begin_30 : decode cX0_begin 30 = .ok (.putfield 29, 3) := by decide +kernel
theorem dX0_begin_33 : decode cX0_begin 33 = .ok (.return_, 1) := by decide +kernel
theorem dX0_begin_34 : decode cX0_begin 34 = .ok (.aload_n 0, 1) := by decide +kernel
theorem dX0_begin_35 : decode cX0_begin 35 = .ok (.aload_n 0, 1) := by decide +kernel
theorem dX0_begin_36 : decode cX0_begin 36 = .ok (.invokevirtual 66, 3) := by decide +kernel
theorem dX0_begin_39 : decode cX0_begin 39 = .ok (.invokestatic 70, 3) := by decide +kernel
theorem dX0_begin_42 : decode cX0_begin 42 = .ok (.putfield 74, 3) := by decide +kernel
theorem dX0_begin_45 : decode cX0_begin 45 = .ok (.aload_n 0, 1) := by decide +kernel
theorem dX0_begin_46 : decode cX0_begin 46 = .ok (.iconst 0, 1) := by decide +kernel
theorem dX0_begin_47 : decode cX0_begin 47 = .ok (.putfield 77, 3) := by decide +kernel
theorem dX0_begin_50 : decode cX0_begin 50 = .ok (.aload_n 0, 1) := by decide +kernel
theorem dX0_begin_51 : decode cX0_begin 51 = .ok (.iconst 0, 1) := by decide +kernel
theorem dX0_begin_52 : decode cX0_begin 52 = .ok (.putfield 80, 3) := by decide +kernel
theorem dX0_begin_55 : decode cX0_begin 55 = .ok (.aload_n 0, 1) := by decide +kernel
theorem dX0_begin_56 : decode cX0_begin 56 = .ok (.iconst 0, 1) := by decide +kernel
theorem dX0_begin_57 : decode cX0_begin 57 = .ok (.iconst 0, 1) := by decide +kernel
theorem dX0_begin_58 : decode cX0_begin 58 = .ok (.iconst 0, 1) := by decide +kernel
theorem dX0_begin_59 : decode cX0_begin 59 = .ok (.invokevirtual 83, 3) := by decide +kernel
theorem dX0_begin_62 : decode cX0_begin 62 = .ok (.return_, 1) := by decide +kernel
theorem dX0_claim_0 : decode cX0_claim 0 = .ok (.aload_n 0, 1) := by decide +kernel
theorem dX0_claim_1 : decode cX0_claim 1 = .ok (.getfield 37, 3) := by decide +kernel
theorem dX0_claim_4 : decode cX0_claim 4 = .ok (.aload_n 0, 1) := by decide +kernel
theorem dX0_claim_5 : decode cX0_claim 5 = .ok (.getfield 59, 3) := by decide +kernel
theorem dX0_claim_8 : decode cX0_claim 8 = .ok (.invokevirtual 87, 3) := by decide +kernel
theorem dX0_claim_11 : decode cX0_claim 11 = .ok (.ireturn, 1) := by decide +kernel
theorem dX0_claimHolds_0 : decode cX0_claimHolds 0 = .ok (.aload_n 0, 1) := by decide +kernel
theorem dX0_claimHolds_1 : decode cX0_claimHolds 1 = .ok (.invokevirtual 66, 3) := by decide +kernel
theorem dX0_claimHolds_4 : decode cX0_claimHolds 4 = .ok (.iconst (-1), 1) := by decide +kernel
theorem dX0_claimHolds_5 : decode cX0_claimHolds 5 = .ok (.if_icmp .ne 5, 3) := by decide +kernel
theorem dX0_claimHolds_8 : decode cX0_claimHolds 8 = .ok (.iconst 1, 1) := by decide +kernel
theorem dX0_claimHolds_9 : decode cX0_claimHolds 9 = .ok (.ireturn, 1) := by decide +kernel
theorem dX0_claimHolds_10 : decode cX0_claimHolds 10 = .ok (.aload_n 0, 1) := by decide +kernel
theorem dX0_claimHolds_11 : decode cX0_claimHolds 11 = .ok (.getfield 37, 3) := by decide +kernel
theorem dX0_claimHolds_14 : decode cX0_claimHolds 14 = .ok (.aload_n 0, 1) := by decide +kernel
theorem dX0_claimHolds_15 : decode cX0_claimHolds 15 = .ok (.getfield 59, 3) := by decide +kernel
theorem dX0_claimHolds_18 : decode cX0_claimHolds 18 = .ok (.iconst 1, 1) := by decide +kernel
theorem dX0_claimHolds_19 : decode cX0_claimHolds 19 = .ok (.iadd, 1) := by decide +kernel
theorem dX0_claimHolds_20 : decode cX0_claimHolds 20 = .ok (.invokevirtual 87, 3) := by decide +kernel
theorem dX0_claimHolds_23 : decode cX0_claimHolds 23 = .ok (.ldc 90, 2) := by decide +kernel
theorem dX0_claimHolds_25 : decode cX0_claimHolds 25 = .ok (.iand, 1) := by decide +kernel
theorem dX0_claimHolds_26 : decode cX0_claimHolds 26 = .ok (.istore_n 1, 1) := by decide +kernel
theorem dX0_claimHolds_27 : decode cX0_claimHolds 27 = .ok (.aload_n 0, 1) := by decide +kernel
theorem dX0_claimHolds_28 : decode cX0_claimHolds 28 = .ok (.getfield 12, 3) := by decide +kernel
theorem dX0_claimHolds_31 : decode cX0_claimHolds 31 = .ok (.iload_n 1, 1) := by decide +kernel
theorem dX0_claimHolds_32 : decode cX0_claimHolds 32 = .ok (.iload_n 1, 1) := by decide +kernel
theorem dX0_claimHolds_33 : decode cX0_claimHolds 33 = .ok (.iconst (-1), 1) := by decide +kernel
theorem dX0_claimHolds_34 : decode cX0_claimHolds 34 = .ok (.ixor, 1) := by decide +kernel
theorem dX0_claimHolds_35 : decode cX0_claimHolds 35 = .ok (.ldc 90, 2) := by decide +kernel
theorem dX0_claimHolds_37 : decode cX0_claimHolds 37 = .ok (.iand, 1) := by decide +kernel
theorem dX0_claimHolds_38 : decode cX0_claimHolds 38 = .ok (.invokevirtual 91, 3) := by decide +kernel
theorem dX0_claimHolds_41 : decode cX0_claimHolds 41 = .ok (.aload_n 0, 1) := by decide +kernel
theorem dX0_claimHolds_42 : decode cX0_claimHolds 42 = .ok (.getfield 33, 3) := by decide +kernel
theorem dX0_claimHolds_45 : decode cX0_claimHolds 45 = .ok (.aload_n 0, 1) := by decide +kernel
theorem dX0_claimHolds_46 : decode cX0_claimHolds 46 = .ok (.getfield 12, 3) := by decide +kernel
theorem dX0_claimHolds_49 : decode cX0_claimHolds 49 = .ok (.ldc 95, 2) := by decide +kernel
theorem dX0_claimHolds_51 : decode cX0_claimHolds 51 = .ok (.invokevirtual 96, 3) := by decide +kernel
theorem dX0_claimHolds_54 : decode cX0_claimHolds 54 = .ok (.ifCond .ne 22, 3) := by decide +kernel
theorem dX0_claimHolds_57 : decode cX0_claimHolds 57 = .ok (.aload_n 0, 1) := by decide +kernel
theorem dX0_claimHolds_58 : decode cX0_claimHolds 58 = .ok (.getfield 33, 3) := by decide +kernel
theorem dX0_claimHolds_61 : decode cX0_claimHolds 61 = .ok (.iload_n 1, 1) := by decide +kernel
theorem dX0_claimHolds_62 : decode cX0_claimHolds 62 = .ok (.invokevirtual 102, 3) := by decide +kernel
theorem dX0_claimHolds_65 : decode cX0_claimHolds 65 = .ok (.aload_n 0, 1) := by decide +kernel
theorem dX0_claimHolds_66 : decode cX0_claimHolds 66 = .ok (.invokevirtual 66, 3) := by decide +kernel
theorem dX0_claimHolds_69 : decode cX0_claimHolds 69 = .ok (.if_icmp .ne 7, 3) := by decide +kernel
theorem dX0_claimHolds_72 : decode cX0_claimHolds 72 = .ok (.iconst 1, 1) := by decide +kernel
theorem dX0_claimHolds_73 : decode cX0_claimHolds 73 = .ok (.goto 4, 3) := by decide +kernel
theorem dX0_claimHolds_76 : decode cX0_claimHolds 76 = .ok (.iconst 0, 1) := by decide +kernel
theorem dX0_claimHolds_77 : decode cX0_claimHolds 77 = .ok (.ireturn, 1) := by decide +kernel
theorem dX0_readWord_0 : decode cX0_readWord 0 = .ok (.aload_n 0, 1) := by decide +kernel
theorem dX0_readWord_1 : decode cX0_readWord 1 = .ok (.getfield 37, 3) := by decide +kernel
theorem dX0_readWord_4 : decode cX0_readWord 4 = .ok (.aload_n 0, 1) := by decide +kernel
theorem dX0_readWord_5 : decode cX0_readWord 5 = .ok (.getfield 77, 3) := by decide +kernel
theorem dX0_readWord_8 : decode cX0_readWord 8 = .ok (.invokevirtual 87, 3) := by decide +kernel
theorem dX0_readWord_11 : decode cX0_readWord 11 = .ok (.istore_n 1, 1) := by decide +kernel
theorem dX0_readWord_12 : decode cX0_readWord 12 = .ok (.aload_n 0, 1) := by decide +kernel
theorem dX0_readWord_13 : decode cX0_readWord 13 = .ok (.dup, 1) := by decide +kernel
theorem dX0_readWord_14 : decode cX0_readWord 14 = .ok (.getfield 77, 3) := by decide +kernel
theorem dX0_readWord_17 : decode cX0_readWord 17 = .ok (.iconst 1, 1) := by decide +kernel
theorem dX0_readWord_18 : decode cX0_readWord 18 = .ok (.iadd, 1) := by decide +kernel
theorem dX0_readWord_19 : decode cX0_readWord 19 = .ok (.putfield 77, 3) := by decide +kernel
theorem dX0_readWord_22 : decode cX0_readWord 22 = .ok (.iload_n 1, 1) := by decide +kernel
theorem dX0_readWord_23 : decode cX0_readWord 23 = .ok (.ifCond .ne 10, 3) := by decide +kernel
theorem dX0_readWord_26 : decode cX0_readWord 26 = .ok (.aload_n 0, 1) := by decide +kernel
theorem dX0_readWord_27 : decode cX0_readWord 27 = .ok (.invokevirtual 105, 3) := by decide +kernel
theorem dX0_readWord_30 : decode cX0_readWord 30 = .ok (.goto 23, 3) := by decide +kernel
theorem dX0_readWord_33 : decode cX0_readWord 33 = .ok (.iload_n 1, 1) := by decide +kernel
theorem dX0_readWord_34 : decode cX0_readWord 34 = .ok (.invokestatic 108, 3) := by decide +kernel
theorem dX0_readWord_37 : decode cX0_readWord 37 = .ok (.ifCond .eq 11, 3) := by decide +kernel
theorem dX0_readWord_40 : decode cX0_readWord 40 = .ok (.aload_n 0, 1) := by decide +kernel
theorem dX0_readWord_41 : decode cX0_readWord 41 = .ok (.iload_n 1, 1) := by decide +kernel
theorem dX0_readWord_42 : decode cX0_readWord 42 = .ok (.invokevirtual 112, 3) := by decide +kernel
theorem dX0_readWord_45 : decode cX0_readWord 45 = .ok (.goto 8, 3) := by decide +kernel
theorem dX0_readWord_48 : decode cX0_readWord 48 = .ok (.aload_n 0, 1) := by decide +kernel
theorem dX0_readWord_49 : decode cX0_readWord 49 = .ok (.iconst 0, 1) := by decide +kernel
theorem dX0_readWord_50 : decode cX0_readWord 50 = .ok (.putfield 29, 3) := by decide +kernel
theorem dX0_readWord_53 : decode cX0_readWord 53 = .ok (.aload_n 0, 1) := by decide +kernel
theorem dX0_readWord_54 : decode cX0_readWord 54 = .ok (.getfield 29, 3) := by decide +kernel
theorem dX0_readWord_57 : decode cX0_readWord 57 = .ok (.iconst 2, 1) := by decide +kernel
theorem dX0_readWord_58 : decode cX0_readWord 58 = .ok (.if_icmp .ne 19, 3) := by decide +kernel
theorem dX0_readWord_61 : decode cX0_readWord 61 = .ok (.aload_n 0, 1) := by decide +kernel
theorem dX0_readWord_62 : decode cX0_readWord 62 = .ok (.getfield 77, 3) := by decide +kernel
theorem dX0_readWord_65 : decode cX0_readWord 65 = .ok (.aload_n 0, 1) := by decide +kernel
theorem dX0_readWord_66 : decode cX0_readWord 66 = .ok (.getfield 59, 3) := by decide +kernel
theorem dX0_readWord_69 : decode cX0_readWord 69 = .ok (.if_icmp .lt 8, 3) := by decide +kernel
theorem dX0_readWord_72 : decode cX0_readWord 72 = .ok (.aload_n 0, 1) := by decide +kernel
theorem dX0_readWord_73 : decode cX0_readWord 73 = .ok (.iconst 0, 1) := by decide +kernel
theorem dX0_readWord_74 : decode cX0_readWord 74 = .ok (.putfield 29, 3) := by decide +kernel
theorem dX0_readWord_77 : decode cX0_readWord 77 = .ok (.return_, 1) := by decide +kernel
theorem dX0_closeTree_0 : decode cX0_closeTree 0 = .ok (.aload_n 0, 1) := by decide +kernel
theorem dX0_closeTree_1 : decode cX0_closeTree 1 = .ok (.getfield 116, 3) := by decide +kernel
theorem dX0_closeTree_4 : decode cX0_closeTree 4 = .ok (.ifCond .ne 11, 3) := by decide +kernel
theorem dX0_closeTree_7 : decode cX0_closeTree 7 = .ok (.aload_n 0, 1) := by decide +kernel
theorem dX0_closeTree_8 : decode cX0_closeTree 8 = .ok (.iconst 0, 1) := by decide +kernel
theorem dX0_closeTree_9 : decode cX0_closeTree 9 = .ok (.putfield 29, 3) := by decide +kernel
theorem dX0_closeTree_12 : decode cX0_closeTree 12 = .ok (.goto 74, 3) := by decide +kernel
theorem dX0_closeTree_15 : decode cX0_closeTree 15 = .ok (.aload_n 0, 1) := by decide +kernel
theorem dX0_closeTree_16 : decode cX0_closeTree 16 = .ok (.getfield 80, 3) := by decide +kernel
theorem dX0_closeTree_19 : decode cX0_closeTree 19 = .ok (.ifCond .ne 26, 3) := by decide +kernel
theorem dX0_closeTree_22 : decode cX0_closeTree 22 = .ok (.aload_n 0, 1) := by decide +kernel
theorem dX0_closeTree_23 : decode cX0_closeTree 23 = .ok (.aload_n 0, 1) := by decide +kernel
theorem dX0_closeTree_24 : decode cX0_closeTree 24 = .ok (.getfield 77, 3) := by decide +kernel
theorem dX0_closeTree_27 : decode cX0_closeTree 27 = .ok (.aload_n 0, 1) := by decide +kernel
theorem dX0_closeTree_28 : decode cX0_closeTree 28 = .ok (.getfield 59, 3) := by decide +kernel
theorem dX0_closeTree_31 : decode cX0_closeTree 31 = .ok (.if_icmp .ne 7, 3) := by decide +kernel
theorem dX0_closeTree_34 : decode cX0_closeTree 34 = .ok (.iconst 1, 1) := by decide +kernel
theorem dX0_closeTree_35 : decode cX0_closeTree 35 = .ok (.goto 4, 3) := by decide +kernel
theorem dX0_closeTree_38 : decode cX0_closeTree 38 = .ok (.iconst 0, 1) := by decide +kernel
theorem dX0_closeTree_39 : decode cX0_closeTree 39 = .ok (.putfield 29, 3) := by decide +kernel
theorem dX0_closeTree_42 : decode cX0_closeTree 42 = .ok (.goto 44, 3) := by decide +kernel
theorem dX0_closeTree_45 : decode cX0_closeTree 45 = .ok (.aload_n 0, 1) := by decide +kernel
theorem dX0_closeTree_46 : decode cX0_closeTree 46 = .ok (.dup, 1) := by decide +kernel
theorem dX0_closeTree_47 : decode cX0_closeTree 47 = .ok (.getfield 80, 3) := by decide +kernel
theorem dX0_closeTree_50 : decode cX0_closeTree 50 = .ok (.iconst 1, 1) := by decide +kernel
theorem dX0_closeTree_51 : decode cX0_closeTree 51 = .ok (.isub, 1) := by decide +kernel
theorem dX0_closeTree_52 : decode cX0_closeTree 52 = .ok (.putfield 80, 3) := by decide +kernel
theorem dX0_closeTree_55 : decode cX0_closeTree 55 = .ok (.aload_n 0, 1) := by decide +kernel
theorem dX0_closeTree_56 : decode cX0_closeTree 56 = .ok (.aload_n 0, 1) := by decide +kernel
theorem dX0_closeTree_57 : decode cX0_closeTree 57 = .ok (.getfield 18, 3) := by decide +kernel
theorem dX0_closeTree_60 : decode cX0_closeTree 60 = .ok (.aload_n 0, 1) := by decide +kernel
theorem dX0_closeTree_61 : decode cX0_closeTree 61 = .ok (.getfield 80, 3) := by decide +kernel
theorem dX0_closeTree_64 : decode cX0_closeTree 64 = .ok (.iaload, 1) := by decide +kernel
theorem dX0_closeTree_65 : decode cX0_closeTree 65 = .ok (.aload_n 0, 1) := by decide +kernel
theorem dX0_closeTree_66 : decode cX0_closeTree 66 = .ok (.getfield 22, 3) := by decide +kernel
theorem dX0_closeTree_69 : decode cX0_closeTree 69 = .ok (.aload_n 0, 1) := by decide +kernel
theorem dX0_closeTree_70 : decode cX0_closeTree 70 = .ok (.getfield 80, 3) := by decide +kernel
theorem dX0_closeTree_73 : decode cX0_closeTree 73 = .ok (.iaload, 1) := by decide +kernel
theorem dX0_closeTree_74 : decode cX0_closeTree 74 = .ok (.aload_n 0, 1) := by decide +kernel
theorem dX0_closeTree_75 : decode cX0_closeTree 75 = .ok (.getfield 25, 3) := by decide +kernel
theorem dX0_closeTree_78 : decode cX0_closeTree 78 = .ok (.aload_n 0, 1) := by decide +kernel
theorem dX0_closeTree_79 : decode cX0_closeTree 79 = .ok (.getfield 80, 3) := by decide +kernel
theorem dX0_closeTree_82 : decode cX0_closeTree 82 = .ok (.baload, 1) := by decide +kernel
theorem dX0_closeTree_83 : decode cX0_closeTree 83 = .ok (.invokevirtual 83, 3) := by decide +kernel
theorem dX0_closeTree_86 : decode cX0_closeTree 86 = .ok (.return_, 1) := by decide +kernel
theorem dX0_splitTree_0 : decode cX0_splitTree 0 = .ok (.aload_n 0, 1) := by decide +kernel
theorem dX0_splitTree_1 : decode cX0_splitTree 1 = .ok (.getfield 80, 3) := by decide +kernel
theorem dX0_splitTree_4 : decode cX0_splitTree 4 = .ok (.sipush 400, 3) := by decide +kernel
theorem dX0_splitTree_7 : decode cX0_splitTree 7 = .ok (.if_icmp .lt 9, 3) := by decide +kernel
theorem dX0_splitTree_10 : decode cX0_splitTree 10 = .ok (.aload_n 0, 1) := by decide +kernel
theorem dX0_splitTree_11 : decode cX0_splitTree 11 = .ok (.iconst 0, 1) := by decide +kernel
theorem dX0_splitTree_12 : decode cX0_splitTree 12 = .ok (.putfield 29, 3) := by decide +kernel
theorem dX0_splitTree_15 : decode cX0_splitTree 15 = .ok (.return_, 1) := by decide +kernel
theorem dX0_splitTree_16 : decode cX0_splitTree 16 = .ok (.iload_n 1, 1) := by decide +kernel
theorem dX0_splitTree_17 : decode cX0_splitTree 17 = .ok (.invokestatic 119, 3) := by decide +kernel
theorem dX0_splitTree_20 : decode cX0_splitTree 20 = .ok (.istore_n 2, 1) := by decide +kernel
theorem dX0_splitTree_21 : decode cX0_splitTree 21 = .ok (.aload_n 0, 1) := by decide +kernel
theorem dX0_splitTree_22 : decode cX0_splitTree 22 = .ok (.getfield 18, 3) := by decide +kernel
theorem dX0_splitTree_25 : decode cX0_splitTree 25 = .ok (.aload_n 0, 1) := by decide +kernel
theorem dX0_splitTree_26 : decode cX0_splitTree 26 = .ok (.getfield 80, 3) := by decide +kernel
theorem dX0_splitTree_29 : decode cX0_splitTree 29 = .ok (.aload_n 0, 1) := by decide +kernel
theorem dX0_splitTree_30 : decode cX0_splitTree 30 = .ok (.getfield 12, 3) := by decide +kernel
theorem dX0_splitTree_33 : decode cX0_splitTree 33 = .ok (.getfield 122, 3) := by decide +kernel
theorem dX0_splitTree_36 : decode cX0_splitTree 36 = .ok (.iload_n 2, 1) := by decide +kernel
theorem dX0_splitTree_37 : decode cX0_splitTree 37 = .ok (.ior, 1) := by decide +kernel
theorem dX0_splitTree_38 : decode cX0_splitTree 38 = .ok (.iastore, 1) := by decide +kernel
theorem dX0_splitTree_39 : decode cX0_splitTree 39 = .ok (.aload_n 0, 1) := by decide +kernel
theorem dX0_splitTree_40 : decode cX0_splitTree 40 = .ok (.getfield 22, 3) := by decide +kernel
theorem dX0_splitTree_43 : decode cX0_splitTree 43 = .ok (.aload_n 0, 1) := by decide +kernel
theorem dX0_splitTree_44 : decode cX0_splitTree 44 = .ok (.getfield 80, 3) := by decide +kernel
theorem dX0_splitTree_47 : decode cX0_splitTree 47 = .ok (.aload_n 0, 1) := by decide +kernel
theorem dX0_splitTree_48 : decode cX0_splitTree 48 = .ok (.getfield 12, 3) := by decide +kernel
theorem dX0_splitTree_51 : decode cX0_splitTree 51 = .ok (.getfield 125, 3) := by decide +kernel
theorem dX0_splitTree_54 : decode cX0_splitTree 54 = .ok (.iastore, 1) := by decide +kernel
theorem dX0_splitTree_55 : decode cX0_splitTree 55 = .ok (.aload_n 0, 1) := by decide +kernel
theorem dX0_splitTree_56 : decode cX0_splitTree 56 = .ok (.getfield 25, 3) := by decide +kernel
theorem dX0_splitTree_59 : decode cX0_splitTree 59 = .ok (.aload_n 0, 1) := by decide +kernel
theorem dX0_splitTree_60 : decode cX0_splitTree 60 = .ok (.getfield 80, 3) := by decide +kernel
theorem dX0_splitTree_63 : decode cX0_splitTree 63 = .ok (.aload_n 0, 1) := by decide +kernel
theorem dX0_splitTree_64 : decode cX0_splitTree 64 = .ok (.getfield 116, 3) := by decide +kernel
theorem dX0_splitTree_67 : decode cX0_splitTree 67 = .ok (.ifCond .ne 15, 3) := by decide +kernel
theorem dX0_splitTree_70 : decode cX0_splitTree 70 = .ok (.aload_n 0, 1) := by decide +kernel
theorem dX0_splitTree_71 : decode cX0_splitTree 71 = .ok (.getfield 12, 3) := by decide +kernel
theorem dX0_splitTree_74 : decode cX0_splitTree 74 = .ok (.getfield 125, 3) := by decide +kernel
theorem dX0_splitTree_77 : decode cX0_splitTree 77 = .ok (.iload_n 2, 1) := by decide +kernel
theorem dX0_splitTree_78 : decode cX0_splitTree 78 = .ok (.iand, 1) := by decide +kernel
theorem dX0_splitTree_79 : decode cX0_splitTree 79 = .ok (.ifCond .eq 7, 3) := by decide +kernel
theorem dX0_splitTree_82 : decode cX0_splitTree 82 = .ok (.iconst 1, 1) := by decide +kernel
theorem dX0_splitTree_83 : decode cX0_splitTree 83 = .ok (.goto 4, 3) := by decide +kernel
theorem dX0_splitTree_86 : decode cX0_splitTree 86 = .ok (.iconst 0, 1) := by decide +kernel
theorem dX0_splitTree_87 : decode cX0_splitTree 87 = .ok (.bastore, 1) := by decide +kernel
theorem dX0_splitTree_88 : decode cX0_splitTree 88 = .ok (.aload_n 0, 1) := by decide +kernel
theorem dX0_splitTree_89 : decode cX0_splitTree 89 = .ok (.dup, 1) := by decide +kernel
theorem dX0_splitTree_90 : decode cX0_splitTree 90 = .ok (.getfield 80, 3) := by decide +kernel
theorem dX0_splitTree_93 : decode cX0_splitTree 93 = .ok (.iconst 1, 1) := by decide +kernel
theorem dX0_splitTree_94 : decode cX0_splitTree 94 = .ok (.iadd, 1) := by decide +kernel
theorem dX0_splitTree_95 : decode cX0_splitTree 95 = .ok (.putfield 80, 3) := by decide +kernel
theorem dX0_splitTree_98 : decode cX0_splitTree 98 = .ok (.aload_n 0, 1) := by decide +kernel
theorem dX0_splitTree_99 : decode cX0_splitTree 99 = .ok (.aload_n 0, 1) := by decide +kernel
theorem dX0_splitTree_100 : decode cX0_splitTree 100 = .ok (.getfield 12, 3) := by decide +kernel
theorem dX0_splitTree_103 : decode cX0_splitTree 103 = .ok (.getfield 122, 3) := by decide +kernel
theorem dX0_splitTree_106 : decode cX0_splitTree 106 = .ok (.aload_n 0, 1) := by decide +kernel
theorem dX0_splitTree_107 : decode cX0_splitTree 107 = .ok (.getfield 12, 3) := by decide +kernel
theorem dX0_splitTree_110 : decode cX0_splitTree 110 = .ok (.getfield 125, 3) := by decide +kernel
theorem dX0_splitTree_113 : decode cX0_splitTree 113 = .ok (.iload_n 2, 1) := by decide +kernel
theorem dX0_splitTree_114 : decode cX0_splitTree 114 = .ok (.ior, 1) := by decide +kernel
theorem dX0_splitTree_115 : decode cX0_splitTree 115 = .ok (.aload_n 0, 1) := by decide +kernel
theorem dX0_splitTree_116 : decode cX0_splitTree 116 = .ok (.getfield 116, 3) := by decide +kernel
theorem dX0_splitTree_119 : decode cX0_splitTree 119 = .ok (.ifCond .ne 15, 3) := by decide +kernel
theorem dX0_splitTree_122 : decode cX0_splitTree 122 = .ok (.aload_n 0, 1) := by decide +kernel
theorem dX0_splitTree_123 : decode cX0_splitTree 123 = .ok (.getfield 12, 3) := by decide +kernel
theorem dX0_splitTree_126 : decode cX0_splitTree 126 = .ok (.getfield 122, 3) := by decide +kernel
theorem dX0_splitTree_129 : decode cX0_splitTree 129 = .ok (.iload_n 2, 1) := by decide +kernel
theorem dX0_splitTree_130 : decode cX0_splitTree 130 = .ok (.iand, 1) := by decide +kernel
theorem dX0_splitTree_131 : decode cX0_splitTree 131 = .ok (.ifCond .eq 7, 3) := by decide +kernel
theorem dX0_splitTree_134 : decode cX0_splitTree 134 = .ok (.iconst 1, 1) := by decide +kernel
theorem dX0_splitTree_135 : decode cX0_splitTree 135 = .ok (.goto 4, 3) := by decide +kernel
theorem dX0_splitTree_138 : decode cX0_splitTree 138 = .ok (.iconst 0, 1) := by decide +kernel
theorem dX0_splitTree_139 : decode cX0_splitTree 139 = .ok (.invokevirtual 83, 3) := by decide +kernel
theorem dX0_splitTree_142 : decode cX0_splitTree 142 = .ok (.return_, 1) := by decide +kernel
theorem dX0_enterTree_0 : decode cX0_enterTree 0 = .ok (.aload_n 0, 1) := by decide +kernel
theorem dX0_enterTree_1 : decode cX0_enterTree 1 = .ok (.getfield 12, 3) := by decide +kernel
theorem dX0_enterTree_4 : decode cX0_enterTree 4 = .ok (.iload_n 1, 1) := by decide +kernel
theorem dX0_enterTree_5 : decode cX0_enterTree 5 = .ok (.iload_n 2, 1) := by decide +kernel
theorem dX0_enterTree_6 : decode cX0_enterTree 6 = .ok (.invokevirtual 91, 3) := by decide +kernel
theorem dX0_enterTree_9 : decode cX0_enterTree 9 = .ok (.aload_n 0, 1) := by decide +kernel
theorem dX0_enterTree_10 : decode cX0_enterTree 10 = .ok (.iload_n 3, 1) := by decide +kernel
theorem dX0_enterTree_11 : decode cX0_enterTree 11 = .ok (.putfield 116, 3) := by decide +kernel
theorem dX0_enterTree_14 : decode cX0_enterTree 14 = .ok (.return_, 1) := by decide +kernel
theorem dX0_setWhatIsForced_0 : decode cX0_setWhatIsForced 0 = .ok (.iconst 0, 1) := by decide +kernel
theorem dX0_setWhatIsForced_1 : decode cX0_setWhatIsForced 1 = .ok (.istore_n 1, 1) := by decide +kernel
theorem dX0_setWhatIsForced_2 : decode cX0_setWhatIsForced 2 = .ok (.iload_n 1, 1) := by decide +kernel
theorem dX0_setWhatIsForced_3 : decode cX0_setWhatIsForced 3 = .ok (.bipush 16, 2) := by decide +kernel
theorem dX0_setWhatIsForced_5 : decode cX0_setWhatIsForced 5 = .ok (.if_icmp .gt 75, 3) := by decide +kernel
theorem dX0_setWhatIsForced_8 : decode cX0_setWhatIsForced 8 = .ok (.aload_n 0, 1) := by decide +kernel
theorem dX0_setWhatIsForced_9 : decode cX0_setWhatIsForced 9 = .ok (.getfield 116, 3) := by decide +kernel
theorem dX0_setWhatIsForced_12 : decode cX0_setWhatIsForced 12 = .ok (.ifCond .ne 68, 3) := by decide +kernel
theorem dX0_setWhatIsForced_15 : decode cX0_setWhatIsForced 15 = .ok (.aload_n 0, 1) := by decide +kernel
theorem dX0_setWhatIsForced_16 : decode cX0_setWhatIsForced 16 = .ok (.aload_n 0, 1) := by decide +kernel
theorem dX0_setWhatIsForced_17 : decode cX0_setWhatIsForced 17 = .ok (.getfield 33, 3) := by decide +kernel
theorem dX0_setWhatIsForced_20 : decode cX0_setWhatIsForced 20 = .ok (.aload_n 0, 1) := by decide +kernel
theorem dX0_setWhatIsForced_21 : decode cX0_setWhatIsForced 21 = .ok (.getfield 12, 3) := by decide +kernel
theorem dX0_setWhatIsForced_24 : decode cX0_setWhatIsForced 24 = .ok (.aload_n 0, 1) := by decide +kernel
theorem dX0_setWhatIsForced_25 : decode cX0_setWhatIsForced 25 = .ok (.getfield 74, 3) := by decide +kernel
theorem dX0_setWhatIsForced_28 : decode cX0_setWhatIsForced 28 = .ok (.invokevirtual 96, 3) := by decide +kernel
theorem dX0_setWhatIsForced_31 : decode cX0_setWhatIsForced 31 = .ok (.putfield 116, 3) := by decide +kernel
theorem dX0_setWhatIsForced_34 : decode cX0_setWhatIsForced 34 = .ok (.aload_n 0, 1) := by decide +kernel
theorem dX0_setWhatIsForced_35 : decode cX0_setWhatIsForced 35 = .ok (.getfield 116, 3) := by decide +kernel
theorem dX0_setWhatIsForced_38 : decode cX0_setWhatIsForced 38 = .ok (.ifCond .eq 7, 3) := by decide +kernel
theorem dX0_setWhatIsForced_41 : decode cX0_setWhatIsForced 41 = .ok (.iconst 0, 1) := by decide +kernel
theorem dX0_setWhatIsForced_42 : decode cX0_setWhatIsForced 42 = .ok (.goto 18, 3) := by decide +kernel
theorem dX0_setWhatIsForced_45 : decode cX0_setWhatIsForced 45 = .ok (.aload_n 0, 1) := by decide +kernel
theorem dX0_setWhatIsForced_46 : decode cX0_setWhatIsForced 46 = .ok (.getfield 33, 3) := by decide +kernel
theorem dX0_setWhatIsForced_49 : decode cX0_setWhatIsForced 49 = .ok (.aload_n 0, 1) := by decide +kernel
theorem dX0_setWhatIsForced_50 : decode cX0_setWhatIsForced 50 = .ok (.getfield 12, 3) := by decide +kernel
theorem dX0_setWhatIsForced_53 : decode cX0_setWhatIsForced 53 = .ok (.aload_n 0, 1) := by decide +kernel
theorem dX0_setWhatIsForced_54 : decode cX0_setWhatIsForced 54 = .ok (.getfield 74, 3) := by decide +kernel
theorem dX0_setWhatIsForced_57 : decode cX0_setWhatIsForced 57 = .ok (.invokevirtual 128, 3) := by decide +kernel
theorem dX0_setWhatIsForced_60 : decode cX0_setWhatIsForced 60 = .ok (.istore_n 2, 1) := by decide +kernel
theorem dX0_setWhatIsForced_61 : decode cX0_setWhatIsForced 61 = .ok (.iload_n 2, 1) := by decide +kernel
theorem dX0_setWhatIsForced_62 : decode cX0_setWhatIsForced 62 = .ok (.ifCond .ne 4, 3) := by decide +kernel
theorem dX0_setWhatIsForced_65 : decode cX0_setWhatIsForced 65 = .ok (.return_, 1) := by decide +kernel
theorem dX0_setWhatIsForced_66 : decode cX0_setWhatIsForced 66 = .ok (.aload_n 0, 1) := by decide +kernel
theorem dX0_setWhatIsForced_67 : decode cX0_setWhatIsForced 67 = .ok (.getfield 12, 3) := by decide +kernel
theorem dX0_setWhatIsForced_70 : decode cX0_setWhatIsForced 70 = .ok (.iload_n 2, 1) := by decide +kernel
theorem dX0_setWhatIsForced_71 : decode cX0_setWhatIsForced 71 = .ok (.invokevirtual 132, 3) := by decide +kernel
theorem dX0_setWhatIsForced_74 : decode cX0_setWhatIsForced 74 = .ok (.iinc 1 1, 3) := by decide +kernel
theorem dX0_setWhatIsForced_77 : decode cX0_setWhatIsForced 77 = .ok (.goto (-75), 3) := by decide +kernel
theorem dX0_setWhatIsForced_80 : decode cX0_setWhatIsForced 80 = .ok (.return_, 1) := by decide +kernel
theorem dX1_init_0 : decode cX1_init 0 = .ok (.aload_n 0, 1) := by decide +kernel
theorem dX1_init_1 : decode cX1_init 1 = .ok (.invokespecial 3, 3) := by decide +kernel
theorem dX1_init_4 : decode cX1_init 4 = .ok (.aload_n 0, 1) := by decide +kernel
theorem dX1_init_5 : decode cX1_init 5 = .ok (.sipush 400, 3) := by decide +kernel
theorem dX1_init_8 : decode cX1_init 8 = .ok (.newarray .int, 2) := by decide +kernel
theorem dX1_init_10 : decode cX1_init 10 = .ok (.putfield 9, 3) := by decide +kernel
theorem dX1_init_13 : decode cX1_init 13 = .ok (.return_, 1) := by decide +kernel
theorem dX1_has_0 : decode cX1_has 0 = .ok (.iload_n 1, 1) := by decide +kernel
theorem dX1_has_1 : decode cX1_has 1 = .ok (.ifCond .lt 15, 3) := by decide +kernel
theorem dX1_has_4 : decode cX1_has 4 = .ok (.iload_n 1, 1) := by decide +kernel
theorem dX1_has_5 : decode cX1_has 5 = .ok (.aload_n 0, 1) := by decide +kernel
theorem dX1_has_6 : decode cX1_has 6 = .ok (.getfield 15, 3) := by decide +kernel
theorem dX1_has_9 : decode cX1_has 9 = .ok (.if_icmp .ge 7, 3) := by decide +kernel
theorem dX1_has_12 : decode cX1_has 12 = .ok (.iconst 1, 1) := by decide +kernel
theorem dX1_has_13 : decode cX1_has 13 = .ok (.goto 4, 3) := by decide +kernel
theorem dX1_has_16 : decode cX1_has 16 = .ok (.iconst 0, 1) := by decide +kernel
theorem dX1_has_17 : decode cX1_has 17 = .ok (.ireturn, 1) := by decide +kernel
theorem dX1_wordAt_0 : decode cX1_wordAt 0 = .ok (.aload_n 0, 1) := by decide +kernel
theorem dX1_wordAt_1 : decode cX1_wordAt 1 = .ok (.iload_n 1, 1) := by decide +kernel
theorem dX1_wordAt_2 : decode cX1_wordAt 2 = .ok (.invokevirtual 19, 3) := by decide +kernel
theorem dX1_wordAt_5 : decode cX1_wordAt 5 = .ok (.ifCond .eq 12, 3) := by decide +kernel
theorem dX1_wordAt_8 : decode cX1_wordAt 8 = .ok (.aload_n 0, 1) := by decide +kernel
theorem dX1_wordAt_9 : decode cX1_wordAt 9 = .ok (.getfield 9, 3) := by decide +kernel
theorem dX1_wordAt_12 : decode cX1_wordAt 12 = .ok (.iload_n 1, 1) := by decide +kernel
theorem dX1_wordAt_13 : decode cX1_wordAt 13 = .ok (.iaload, 1) := by decide +kernel
theorem dX1_wordAt_14 : decode cX1_wordAt 14 = .ok (.goto 5, 3) := by decide +kernel
theorem dX1_wordAt_17 : decode cX1_wordAt 17 = .ok (.bipush (-9), 2) := by decide +kernel
theorem dX1_wordAt_19 : decode cX1_wordAt 19 = .ok (.ireturn, 1) := by decide +kernel
theorem dX1_append_0 : decode cX1_append 0 = .ok (.aload_n 0, 1) := by decide +kernel
theorem dX1_append_1 : decode cX1_append 1 = .ok (.getfield 15, 3) := by decide +kernel
theorem dX1_append_4 : decode cX1_append 4 = .ok (.sipush 400, 3) := by decide +kernel
theorem dX1_append_7 : decode cX1_append 7 = .ok (.if_icmp .lt 5, 3) := by decide +kernel
theorem dX1_append_10 : decode cX1_append 10 = .ok (.iconst 0, 1) := by decide +kernel
theorem dX1_append_11 : decode cX1_append 11 = .ok (.ireturn, 1) := by decide +kernel
theorem dX1_append_12 : decode cX1_append 12 = .ok (.aload_n 0, 1) := by decide +kernel
theorem dX1_append_13 : decode cX1_append 13 = .ok (.getfield 9, 3) := by decide +kernel
theorem dX1_append_16 : decode cX1_append 16 = .ok (.aload_n 0, 1) := by decide +kernel
theorem dX1_append_17 : decode cX1_append 17 = .ok (.getfield 15, 3) := by decide +kernel
theorem dX1_append_20 : decode cX1_append 20 = .ok (.iload_n 1, 1) := by decide +kernel
theorem dX1_append_21 : decode cX1_append 21 = .ok (.iastore, 1) := by decide +kernel
theorem dX1_append_22 : decode cX1_append 22 = .ok (.aload_n 0, 1) := by decide +kernel
theorem dX1_append_23 : decode cX1_append 23 = .ok (.dup, 1) := by decide +kernel
theorem dX1_append_24 : decode cX1_append 24 = .ok (.getfield 15, 3) := by decide +kernel
theorem dX1_append_27 : decode cX1_append 27 = .ok (.iconst 1, 1) := by decide +kernel
theorem dX1_append_28 : decode cX1_append 28 = .ok (.iadd, 1) := by decide +kernel
theorem dX1_append_29 : decode cX1_append 29 = .ok (.putfield 15, 3) := by decide +kernel
theorem dX1_append_32 : decode cX1_append 32 = .ok (.iconst 1, 1) := by decide +kernel
theorem dX1_append_33 : decode cX1_append 33 = .ok (.ireturn, 1) := by decide +kernel
theorem dX1_replace_0 : decode cX1_replace 0 = .ok (.iload_n 1, 1) := by decide +kernel
theorem dX1_replace_1 : decode cX1_replace 1 = .ok (.aload_n 0, 1) := by decide +kernel
theorem dX1_replace_2 : decode cX1_replace 2 = .ok (.getfield 15, 3) := by decide +kernel
theorem dX1_replace_5 : decode cX1_replace 5 = .ok (.if_icmp .ne 9, 3) := by decide +kernel
theorem dX1_replace_8 : decode cX1_replace 8 = .ok (.aload_n 0, 1) := by decide +kernel
theorem dX1_replace_9 : decode cX1_replace 9 = .ok (.iload_n 2, 1) := by decide +kernel
theorem dX1_replace_10 : decode cX1_replace 10 = .ok (.invokevirtual 23, 3) := by decide +kernel
theorem dX1_replace_13 : decode cX1_replace 13 = .ok (.ireturn, 1) := by decide +kernel
theorem dX1_replace_14 : decode cX1_replace 14 = .ok (.aload_n 0, 1) := by decide +kernel
theorem dX1_replace_15 : decode cX1_replace 15 = .ok (.iload_n 1, 1) := by decide +kernel
theorem dX1_replace_16 : decode cX1_replace 16 = .ok (.invokevirtual 19, 3) := by decide +kernel
theorem dX1_replace_19 : decode cX1_replace 19 = .ok (.ifCond .ne 5, 3) := by decide +kernel
theorem dX1_replace_22 : decode cX1_replace 22 = .ok (.iconst 0, 1) := by decide +kernel
theorem dX1_replace_23 : decode cX1_replace 23 = .ok (.ireturn, 1) := by decide +kernel
theorem dX1_replace_24 : decode cX1_replace 24 = .ok (.aload_n 0, 1) := by decide +kernel
theorem dX1_replace_25 : decode cX1_replace 25 = .ok (.getfield 9, 3) := by decide +kernel
theorem dX1_replace_28 : decode cX1_replace 28 = .ok (.iload_n 1, 1) := by decide +kernel
theorem dX1_replace_29 : decode cX1_replace 29 = .ok (.iload_n 2, 1) := by decide +kernel
theorem dX1_replace_30 : decode cX1_replace 30 = .ok (.iastore, 1) := by decide +kernel
theorem dX1_replace_31 : decode cX1_replace 31 = .ok (.iconst 1, 1) := by decide +kernel
theorem dX1_replace_32 : decode cX1_replace 32 = .ok (.ireturn, 1) := by decide +kernel
theorem dX1_shorten_0 : decode cX1_shorten 0 = .ok (.iload_n 1, 1) := by decide +kernel
theorem dX1_shorten_1 : decode cX1_shorten 1 = .ok (.iconst 0, 1) := by decide +kernel
theorem dX1_shorten_2 : decode cX1_shorten 2 = .ok (.aload_n 0, 1) := by decide +kernel
theorem dX1_shorten_3 : decode cX1_shorten 3 = .ok (.getfield 15, 3) := by decide +kernel
theorem dX1_shorten_6 : decode cX1_shorten 6 = .ok (.invokestatic 26, 3) := by decide +kernel
theorem dX1_shorten_9 : decode cX1_shorten 9 = .ok (.ifCond .ne 5, 3) := by decide +kernel
theorem dX1_shorten_12 : decode cX1_shorten 12 = .ok (.iconst 0, 1) := by decide +kernel
theorem dX1_shorten_13 : decode cX1_shorten 13 = .ok (.ireturn, 1) := by decide +kernel
theorem dX1_shorten_14 : decode cX1_shorten 14 = .ok (.aload_n 0, 1) := by decide +kernel
theorem dX1_shorten_15 : decode cX1_shorten 15 = .ok (.iload_n 1, 1) := by decide +kernel
theorem dX1_shorten_16 : decode cX1_shorten 16 = .ok (.putfield 15, 3) := by decide +kernel
theorem dX1_shorten_19 : decode cX1_shorten 19 = .ok (.iconst 1, 1) := by decide +kernel
theorem dX1_shorten_20 : decode cX1_shorten 20 = .ok (.ireturn, 1) := by decide +kernel
theorem dX2_init_0 : decode cX2_init 0 = .ok (.aload_n 0, 1) := by decide +kernel
theorem dX2_init_1 : decode cX2_init 1 = .ok (.invokespecial 3, 3) := by decide +kernel
theorem dX2_init_4 : decode cX2_init 4 = .ok (.aload_n 0, 1) := by decide +kernel
theorem dX2_init_5 : decode cX2_init 5 = .ok (.bipush 17, 2) := by decide +kernel
theorem dX2_init_7 : decode cX2_init 7 = .ok (.newarray .int, 2) := by decide +kernel
theorem dX2_init_9 : decode cX2_init 9 = .ok (.putfield 9, 3) := by decide +kernel
theorem dX2_init_12 : decode cX2_init 12 = .ok (.aload_n 0, 1) := by decide +kernel
theorem dX2_init_13 : decode cX2_init 13 = .ok (.bipush 120, 2) := by decide +kernel
theorem dX2_init_15 : decode cX2_init 15 = .ok (.newarray .int, 2) := by decide +kernel
theorem dX2_init_17 : decode cX2_init 17 = .ok (.putfield 15, 3) := by decide +kernel
theorem dX2_init_20 : decode cX2_init 20 = .ok (.aload_n 0, 1) := by decide +kernel
theorem dX2_init_21 : decode cX2_init 21 = .ok (.bipush 120, 2) := by decide +kernel
theorem dX2_init_23 : decode cX2_init 23 = .ok (.newarray .int, 2) := by decide +kernel
theorem dX2_init_25 : decode cX2_init 25 = .ok (.putfield 18, 3) := by decide +kernel
theorem dX2_init_28 : decode cX2_init 28 = .ok (.aload_n 0, 1) := by decide +kernel
theorem dX2_init_29 : decode cX2_init 29 = .ok (.bipush 120, 2) := by decide +kernel
theorem dX2_init_31 : decode cX2_init 31 = .ok (.newarray .int, 2) := by decide +kernel
theorem dX2_init_33 : decode cX2_init 33 = .ok (.putfield 21, 3) := by decide +kernel
theorem dX2_init_36 : decode cX2_init 36 = .ok (.aload_n 0, 1) := by decide +kernel
theorem dX2_init_37 : decode cX2_init 37 = .ok (.bipush 21, 2) := by decide +kernel
theorem dX2_init_39 : decode cX2_init 39 = .ok (.newarray .int, 2) := by decide +kernel
theorem dX2_init_41 : decode cX2_init 41 = .ok (.putfield 24, 3) := by decide +kernel
theorem dX2_init_44 : decode cX2_init 44 = .ok (.aload_n 0, 1) := by decide +kernel
theorem dX2_init_45 : decode cX2_init 45 = .ok (.bipush 20, 2) := by decide +kernel
theorem dX2_init_47 : decode cX2_init 47 = .ok (.newarray .int, 2) := by decide +kernel
theorem dX2_init_49 : decode cX2_init 49 = .ok (.putfield 27, 3) := by decide +kernel
theorem dX2_init_52 : decode cX2_init 52 = .ok (.return_, 1) := by decide +kernel
theorem dX2_addTerm_0 : decode cX2_addTerm 0 = .ok (.iload_n 2, 1) := by decide +kernel
theorem dX2_addTerm_1 : decode cX2_addTerm 1 = .ok (.invokestatic 30, 3) := by decide +kernel
theorem dX2_addTerm_4 : decode cX2_addTerm 4 = .ok (.invokestatic 34, 3) := by decide +kernel
theorem dX2_addTerm_7 : decode cX2_addTerm 7 = .ok (.istore_n 3, 1) := by decide +kernel
theorem dX2_addTerm_8 : decode cX2_addTerm 8 = .ok (.aload_n 0, 1) := by decide +kernel
theorem dX2_addTerm_9 : decode cX2_addTerm 9 = .ok (.getfield 37, 3) := by decide +kernel
theorem dX2_addTerm_12 : decode cX2_addTerm 12 = .ok (.bipush 20, 2) := by decide +kernel
theorem dX2_addTerm_14 : decode cX2_addTerm 14 = .ok (.if_icmp .ge 21, 3) := by decide +kernel
theorem dX2_addTerm_17 : decode cX2_addTerm 17 = .ok (.aload_n 0, 1) := by decide +kernel
theorem dX2_addTerm_18 : decode cX2_addTerm 18 = .ok (.getfield 41, 3) := by decide +kernel
theorem dX2_addTerm_21 : decode cX2_addTerm 21 = .ok (.bipush 120, 2) := by decide +kernel
theorem dX2_addTerm_23 : decode cX2_addTerm 23 = .ok (.if_icmp .ge 12, 3) := by decide +kernel
theorem dX2_addTerm_26 : decode cX2_addTerm 26 = .ok (.aload_n 0, 1) := by decide +kernel
theorem dX2_addTerm_27 : decode cX2_addTerm 27 = .ok (.getfield 44, 3) := by decide +kernel
theorem dX2_addTerm_30 : decode cX2_addTerm 30 = .ok (.iload_n 3, 1) := by decide +kernel
theorem dX2_addTerm_31 : decode cX2_addTerm 31 = .ok (.iand, 1) := by decide +kernel
theorem dX2_addTerm_32 : decode cX2_addTerm 32 = .ok (.ifCond .eq 5, 3) := by decide +kernel
theorem dX2_addTerm_35 : decode cX2_addTerm 35 = .ok (.iconst 0, 1) := by decide +kernel
theorem dX2_addTerm_36 : decode cX2_addTerm 36 = .ok (.ireturn, 1) := by decide +kernel
theorem dX2_addTerm_37 : decode cX2_addTerm 37 = .ok (.aload_n 0, 1) := by decide +kernel
theorem dX2_addTerm_38 : decode cX2_addTerm 38 = .ok (.getfield 15, 3) := by decide +kernel
theorem dX2_addTerm_41 : decode cX2_addTerm 41 = .ok (.aload_n 0, 1) := by decide +kernel
theorem dX2_addTerm_42 : decode cX2_addTerm 42 = .ok (.getfield 41, 3) := by decide +kernel
theorem dX2_addTerm_45 : decode cX2_addTerm 45 = .ok (.iload_n 1, 1) := by decide +kernel
theorem dX2_addTerm_46 : decode cX2_addTerm 46 = .ok (.iastore, 1) := by decide +kernel
theorem dX2_addTerm_47 : decode cX2_addTerm 47 = .ok (.aload_n 0, 1) := by decide +kernel
theorem dX2_addTerm_48 : decode cX2_addTerm 48 = .ok (.getfield 18, 3) := by decide +kernel
theorem dX2_addTerm_51 : decode cX2_addTerm 51 = .ok (.aload_n 0, 1) := by decide +kernel
theorem dX2_addTerm_52 : decode cX2_addTerm 52 = .ok (.getfield 41, 3) := by decide +kernel
theorem dX2_addTerm_55 : decode cX2_addTerm 55 = .ok (.iload_n 2, 1) := by decide +kernel
theorem dX2_addTerm_56 : decode cX2_addTerm 56 = .ok (.iastore, 1) := by decide +kernel
theorem dX2_addTerm_57 : decode cX2_addTerm 57 = .ok (.aload_n 0, 1) := by decide +kernel
theorem dX2_addTerm_58 : decode cX2_addTerm 58 = .ok (.getfield 21, 3) := by decide +kernel
theorem dX2_addTerm_61 : decode cX2_addTerm 61 = .ok (.aload_n 0, 1) := by decide +kernel
theorem dX2_addTerm_62 : decode cX2_addTerm 62 = .ok (.getfield 41, 3) := by decide +kernel
theorem dX2_addTerm_65 : decode cX2_addTerm 65 = .ok (.iload_n 3, 1) := by decide +kernel
theorem dX2_addTerm_66 : decode cX2_addTerm 66 = .ok (.iastore, 1) := by decide +kernel
theorem dX2_addTerm_67 : decode cX2_addTerm 67 = .ok (.aload_n 0, 1) := by decide +kernel
theorem dX2_addTerm_68 : decode cX2_addTerm 68 = .ok (.dup, 1) := by decide +kernel
theorem dX2_addTerm_69 : decode cX2_addTerm 69 = .ok (.getfield 41, 3) := by decide +kernel
theorem dX2_addTerm_72 : decode cX2_addTerm 72 = .ok (.iconst 1, 1) := by decide +kernel
theorem dX2_addTerm_73 : decode cX2_addTerm 73 = .ok (.iadd, 1) := by decide +kernel
theorem dX2_addTerm_74 : decode cX2_addTerm 74 = .ok (.putfield 41, 3) := by decide +kernel
theorem dX2_addTerm_77 : decode cX2_addTerm 77 = .ok (.aload_n 0, 1) := by decide +kernel
theorem dX2_addTerm_78 : decode cX2_addTerm 78 = .ok (.dup, 1) := by decide +kernel
theorem dX2_addTerm_79 : decode cX2_addTerm 79 = .ok (.getfield 44, 3) := by decide +kernel
theorem dX2_addTerm_82 : decode cX2_addTerm 82 = .ok (.iload_n 3, 1) := by decide +kernel
theorem dX2_addTerm_83 : decode cX2_addTerm 83 = .ok (.ior, 1) := by decide +kernel
theorem dX2_addTerm_84 : decode cX2_addTerm 84 = .ok (.putfield 44, 3) := by decide +kernel
theorem dX2_addTerm_87 : decode cX2_addTerm 87 = .ok (.iconst 1, 1) := by decide +kernel
theorem dX2_addTerm_88 : decode cX2_addTerm 88 = .ok (.ireturn, 1) := by decide +kernel
theorem dX2_makeConstraint_0 : decode cX2_makeConstraint 0 = .ok (.aload_n 0, 1) := by decide +kernel
theorem dX2_makeConstraint_1 : decode cX2_makeConstraint 1 = .ok (.getfield 37, 3) := by decide +kernel
theorem dX2_makeConstraint_4 : decode cX2_makeConstraint 4 = .ok (.bipush 20, 2) := by decide +kernel
theorem dX2_makeConstraint_6 : decode cX2_makeConstraint 6 = .ok (.if_icmp .lt 5, 3) := by decide +kernel
theorem dX2_makeConstraint_9 : decode cX2_makeConstraint 9 = .ok (.iconst (-1), 1) := by decide +kernel
theorem dX2_makeConstraint_10 : decode cX2_makeConstraint 10 = .ok (.ireturn, 1) := by decide +kernel
theorem dX2_makeConstraint_11 : decode cX2_makeConstraint 11 = .ok (.aload_n 0, 1) := by decide +kernel
theorem dX2_makeConstraint_12 : decode cX2_makeConstraint 12 = .ok (.getfield 37, 3) := by decide +kernel
theorem dX2_makeConstraint_15 : decode cX2_makeConstraint 15 = .ok (.istore_n 2, 1) := by decide +kernel
theorem dX2_makeConstraint_16 : decode cX2_makeConstraint 16 = .ok (.aload_n 0, 1) := by decide +kernel
theorem dX2_makeConstraint_17 : decode cX2_makeConstraint 17 = .ok (.getfield 27, 3) := by decide +kernel
theorem dX2_makeConstraint_20 : decode cX2_makeConstraint 20 = .ok (.iload_n 2, 1) := by decide +kernel
theorem dX2_makeConstraint_21 : decode cX2_makeConstraint 21 = .ok (.iload_n 1, 1) := by decide +kernel
theorem dX2_makeConstraint_22 : decode cX2_makeConstraint 22 = .ok (.iastore, 1) := by decide +kernel
theorem dX2_makeConstraint_23 : decode cX2_makeConstraint 23 = .ok (.aload_n 0, 1) := by decide +kernel
theorem dX2_makeConstraint_24 : decode cX2_makeConstraint 24 = .ok (.dup, 1) := by decide +kernel
theorem dX2_makeConstraint_25 : decode cX2_makeConstraint 25 = .ok (.getfield 37, 3) := by decide +kernel
theorem dX2_makeConstraint_28 : decode cX2_makeConstraint 28 = .ok (.iconst 1, 1) := by decide +kernel
theorem dX2_makeConstraint_29 : decode cX2_makeConstraint 29 = .ok (.iadd, 1) := by decide +kernel
theorem dX2_makeConstraint_30 : decode cX2_makeConstraint 30 = .ok (.putfield 37, 3) := by decide +kernel
theorem dX2_makeConstraint_33 : decode cX2_makeConstraint 33 = .ok (.aload_n 0, 1) := by decide +kernel
theorem dX2_makeConstraint_34 : decode cX2_makeConstraint 34 = .ok (.getfield 24, 3) := by decide +kernel
theorem dX2_makeConstraint_37 : decode cX2_makeConstraint 37 = .ok (.aload_n 0, 1) := by decide +kernel
theorem dX2_makeConstraint_38 : decode cX2_makeConstraint 38 = .ok (.getfield 37, 3) := by decide +kernel
theorem dX2_makeConstraint_41 : decode cX2_makeConstraint 41 = .ok (.aload_n 0, 1) := by decide +kernel
theorem dX2_makeConstraint_42 : decode cX2_makeConstraint 42 = .ok (.getfield 41, 3) := by decide +kernel
theorem dX2_makeConstraint_45 : decode cX2_makeConstraint 45 = .ok (.iastore, 1) := by decide +kernel
theorem dX2_makeConstraint_46 : decode cX2_makeConstraint 46 = .ok (.aload_n 0, 1) := by decide +kernel
theorem dX2_makeConstraint_47 : decode cX2_makeConstraint 47 = .ok (.iconst 0, 1) := by decide +kernel
theorem dX2_makeConstraint_48 : decode cX2_makeConstraint 48 = .ok (.putfield 44, 3) := by decide +kernel
theorem dX2_makeConstraint_51 : decode cX2_makeConstraint 51 = .ok (.iload_n 2, 1) := by decide +kernel
theorem dX2_makeConstraint_52 : decode cX2_makeConstraint 52 = .ok (.ireturn, 1) := by decide +kernel
theorem dX2_costOf_0 : decode cX2_costOf 0 = .ok (.iconst 0, 1) := by decide +kernel
theorem dX2_costOf_1 : decode cX2_costOf 1 = .ok (.istore_n 2, 1) := by decide +kernel
theorem dX2_costOf_2 : decode cX2_costOf 2 = .ok (.iconst 1, 1) := by decide +kernel
theorem dX2_costOf_3 : decode cX2_costOf 3 = .ok (.istore_n 3, 1) := by decide +kernel
theorem dX2_costOf_4 : decode cX2_costOf 4 = .ok (.iload_n 3, 1) := by decide +kernel
theorem dX2_costOf_5 : decode cX2_costOf 5 = .ok (.bipush 16, 2) := by decide +kernel
theorem dX2_costOf_7 : decode cX2_costOf 7 = .ok (.if_icmp .gt 26, 3) := by decide +kernel
theorem dX2_costOf_10 : decode cX2_costOf 10 = .ok (.iload_n 2, 1) := by decide +kernel
theorem dX2_costOf_11 : decode cX2_costOf 11 = .ok (.iload_n 1, 1) := by decide +kernel
theorem dX2_costOf_12 : decode cX2_costOf 12 = .ok (.iload_n 3, 1) := by decide +kernel
theorem dX2_costOf_13 : decode cX2_costOf 13 = .ok (.iconst 1, 1) := by decide +kernel
theorem dX2_costOf_14 : decode cX2_costOf 14 = .ok (.isub, 1) := by decide +kernel
theorem dX2_costOf_15 : decode cX2_costOf 15 = .ok (.ishr, 1) := by decide +kernel
theorem dX2_costOf_16 : decode cX2_costOf 16 = .ok (.iconst 1, 1) := by decide +kernel
theorem dX2_costOf_17 : decode cX2_costOf 17 = .ok (.iand, 1) := by decide +kernel
theorem dX2_costOf_18 : decode cX2_costOf 18 = .ok (.aload_n 0, 1) := by decide +kernel
theorem dX2_costOf_19 : decode cX2_costOf 19 = .ok (.getfield 9, 3) := by decide +kernel
theorem dX2_costOf_22 : decode cX2_costOf 22 = .ok (.iload_n 3, 1) := by decide +kernel
theorem dX2_costOf_23 : decode cX2_costOf 23 = .ok (.iaload, 1) := by decide +kernel
theorem dX2_costOf_24 : decode cX2_costOf 24 = .ok (.imul, 1) := by decide +kernel
theorem dX2_costOf_25 : decode cX2_costOf 25 = .ok (.iadd, 1) := by decide +kernel
theorem dX2_costOf_26 : decode cX2_costOf 26 = .ok (.istore_n 2, 1) := by decide +kernel
theorem dX2_costOf_27 : decode cX2_costOf 27 = .ok (.iinc 3 1, 3) := by decide +kernel
theorem dX2_costOf_30 : decode cX2_costOf 30 = .ok (.goto (-26), 3) := by decide +kernel
theorem dX2_costOf_33 : decode cX2_costOf 33 = .ok (.iload_n 2, 1) := by decide +kernel
theorem dX2_costOf_34 : decode cX2_costOf 34 = .ok (.ireturn, 1) := by decide +kernel
theorem dX2_slackOf_0 : decode cX2_slackOf 0 = .ok (.iconst 0, 1) := by decide +kernel
theorem dX2_slackOf_1 : decode cX2_slackOf 1 = .ok (.istore_n 3, 1) := by decide +kernel
theorem dX2_slackOf_2 : decode cX2_slackOf 2 = .ok (.aload_n 0, 1) := by decide +kernel
theorem dX2_slackOf_3 : decode cX2_slackOf 3 = .ok (.getfield 24, 3) := by decide +kernel
theorem dX2_slackOf_6 : decode cX2_slackOf 6 = .ok (.iload_n 1, 1) := by decide +kernel
theorem dX2_slackOf_7 : decode cX2_slackOf 7 = .ok (.iaload, 1) := by decide +kernel
theorem dX2_slackOf_8 : decode cX2_slackOf 8 = .ok (.istore 4, 2) := by decide +kernel
theorem dX2_slackOf_10 : decode cX2_slackOf 10 = .ok (.iload 4, 2) := by decide +kernel
theorem dX2_slackOf_12 : decode cX2_slackOf 12 = .ok (.aload_n 0, 1) := by decide +kernel
theorem dX2_slackOf_13 : decode cX2_slackOf 13 = .ok (.getfield 24, 3) := by decide +kernel
theorem dX2_slackOf_16 : decode cX2_slackOf 16 = .ok (.iload_n 1, 1) := by decide +kernel
theorem dX2_slackOf_17 : decode cX2_slackOf 17 = .ok (.iconst 1, 1) := by decide +kernel
theorem dX2_slackOf_18 : decode cX2_slackOf 18 = .ok (.iadd, 1) := by decide +kernel
theorem dX2_slackOf_19 : decode cX2_slackOf 19 = .ok (.iaload, 1) := by decide +kernel
theorem dX2_slackOf_20 : decode cX2_slackOf 20 = .ok (.if_icmp .ge 55, 3) := by decide +kernel
theorem dX2_slackOf_23 : decode cX2_slackOf 23 = .ok (.aload_n 0, 1) := by decide +kernel
theorem dX2_slackOf_24 : decode cX2_slackOf 24 = .ok (.getfield 18, 3) := by decide +kernel
theorem dX2_slackOf_27 : decode cX2_slackOf 27 = .ok (.iload 4, 2) := by decide +kernel
theorem dX2_slackOf_29 : decode cX2_slackOf 29 = .ok (.iaload, 1) := by decide +kernel
theorem dX2_slackOf_30 : decode cX2_slackOf 30 = .ok (.ifCond .le 10, 3) := by decide +kernel
theorem dX2_slackOf_33 : decode cX2_slackOf 33 = .ok (.aload_n 2, 1) := by decide +kernel
theorem dX2_slackOf_34 : decode cX2_slackOf 34 = .ok (.getfield 47, 3) := by decide +kernel
theorem dX2_slackOf_37 : decode cX2_slackOf 37 = .ok (.goto 7, 3) := by decide +kernel
theorem dX2_slackOf_40 : decode cX2_slackOf 40 = .ok (.aload_n 2, 1) := by decide +kernel
theorem dX2_slackOf_41 : decode cX2_slackOf 41 = .ok (.getfield 52, 3) := by decide +kernel
theorem dX2_slackOf_44 : decode cX2_slackOf 44 = .ok (.istore 5, 2) := by decide +kernel
theorem dX2_slackOf_46 : decode cX2_slackOf 46 = .ok (.iload 5, 2) := by decide +kernel
theorem dX2_slackOf_48 : decode cX2_slackOf 48 = .ok (.aload_n 0, 1) := by decide +kernel
theorem dX2_slackOf_49 : decode cX2_slackOf 49 = .ok (.getfield 21, 3) := by decide +kernel
theorem dX2_slackOf_52 : decode cX2_slackOf 52 = .ok (.iload 4, 2) := by decide +kernel
theorem dX2_slackOf_54 : decode cX2_slackOf 54 = .ok (.iaload, 1) := by decide +kernel
theorem dX2_slackOf_55 : decode cX2_slackOf 55 = .ok (.iand, 1) := by decide +kernel
theorem dX2_slackOf_56 : decode cX2_slackOf 56 = .ok (.ifCond .ne 13, 3) := by decide +kernel
theorem dX2_slackOf_59 : decode cX2_slackOf 59 = .ok (.iload_n 3, 1) := by decide +kernel
theorem dX2_slackOf_60 : decode cX2_slackOf 60 = .ok (.aload_n 0, 1) := by decide +kernel
theorem dX2_slackOf_61 : decode cX2_slackOf 61 = .ok (.getfield 15, 3) := by decide +kernel
theorem dX2_slackOf_64 : decode cX2_slackOf 64 = .ok (.iload 4, 2) := by decide +kernel
theorem dX2_slackOf_66 : decode cX2_slackOf 66 = .ok (.iaload, 1) := by decide +kernel
theorem dX2_slackOf_67 : decode cX2_slackOf 67 = .ok (.iadd, 1) := by decide +kernel
theorem dX2_slackOf_68 : decode cX2_slackOf 68 = .ok (.istore_n 3, 1) := by decide +kernel
theorem dX2_slackOf_69 : decode cX2_slackOf 69 = .ok (.iinc 4 1, 3) := by decide +kernel
theorem dX2_slackOf_72 : decode cX2_slackOf 72 = .ok (.goto (-62), 3) := by decide +kernel
theorem dX2_slackOf_75 : decode cX2_slackOf 75 = .ok (.iload_n 3, 1) := by decide +kernel
theorem dX2_slackOf_76 : decode cX2_slackOf 76 = .ok (.aload_n 0, 1) := by decide +kernel
theorem dX2_slackOf_77 : decode cX2_slackOf 77 = .ok (.getfield 27, 3) := by decide +kernel
theorem dX2_slackOf_80 : decode cX2_slackOf 80 = .ok (.iload_n 1, 1) := by decide +kernel
theorem dX2_slackOf_81 : decode cX2_slackOf 81 = .ok (.iaload, 1) := by decide +kernel
theorem dX2_slackOf_82 : decode cX2_slackOf 82 = .ok (.isub, 1) := by decide +kernel
theorem dX2_slackOf_83 : decode cX2_slackOf 83 = .ok (.ireturn, 1) := by decide +kernel
theorem dX2_limitSlack_0 : decode cX2_limitSlack 0 = .ok (.iload_n 2, 1) := by decide +kernel
theorem dX2_limitSlack_1 : decode cX2_limitSlack 1 = .ok (.aload_n 0, 1) := by decide +kernel
theorem dX2_limitSlack_2 : decode cX2_limitSlack 2 = .ok (.aload_n 1, 1) := by decide +kernel
theorem dX2_limitSlack_3 : decode cX2_limitSlack 3 = .ok (.getfield 52, 3) := by decide +kernel
theorem dX2_limitSlack_6 : decode cX2_limitSlack 6 = .ok (.invokevirtual 55, 3) := by decide +kernel
theorem dX2_limitSlack_9 : decode cX2_limitSlack 9 = .ok (.isub, 1) := by decide +kernel
theorem dX2_limitSlack_10 : decode cX2_limitSlack 10 = .ok (.ireturn, 1) := by decide +kernel
theorem dX2_isBroken_0 : decode cX2_isBroken 0 = .ok (.iconst 0, 1) := by decide +kernel
theorem dX2_isBroken_1 : decode cX2_isBroken 1 = .ok (.istore_n 3, 1) := by decide +kernel
theorem dX2_isBroken_2 : decode cX2_isBroken 2 = .ok (.iload_n 3, 1) := by decide +kernel
theorem dX2_isBroken_3 : decode cX2_isBroken 3 = .ok (.aload_n 0, 1) := by decide +kernel
theorem dX2_isBroken_4 : decode cX2_isBroken 4 = .ok (.getfield 37, 3) := by decide +kernel
theorem dX2_isBroken_7 : decode cX2_isBroken 7 = .ok (.if_icmp .ge 20, 3) := by decide +kernel
theorem dX2_isBroken_10 : decode cX2_isBroken 10 = .ok (.aload_n 0, 1) := by decide +kernel
theorem dX2_isBroken_11 : decode cX2_isBroken 11 = .ok (.iload_n 3, 1) := by decide +kernel
theorem dX2_isBroken_12 : decode cX2_isBroken 12 = .ok (.aload_n 1, 1) := by decide +kernel
theorem dX2_isBroken_13 : decode cX2_isBroken 13 = .ok (.invokevirtual 58, 3) := by decide +kernel
theorem dX2_isBroken_16 : decode cX2_isBroken 16 = .ok (.ifCond .ge 5, 3) := by decide +kernel
theorem dX2_isBroken_19 : decode cX2_isBroken 19 = .ok (.iconst 1, 1) := by decide +kernel
theorem dX2_isBroken_20 : decode cX2_isBroken 20 = .ok (.ireturn, 1) := by decide +kernel
theorem dX2_isBroken_21 : decode cX2_isBroken 21 = .ok (.iinc 3 1, 3) := by decide +kernel
theorem dX2_isBroken_24 : decode cX2_isBroken 24 = .ok (.goto (-22), 3) := by decide +kernel
theorem dX2_isBroken_27 : decode cX2_isBroken 27 = .ok (.aload_n 0, 1) := by decide +kernel
theorem dX2_isBroken_28 : decode cX2_isBroken 28 = .ok (.aload_n 1, 1) := by decide +kernel
theorem dX2_isBroken_29 : decode cX2_isBroken 29 = .ok (.iload_n 2, 1) := by decide +kernel
theorem dX2_isBroken_30 : decode cX2_isBroken 30 = .ok (.invokevirtual 62, 3) := by decide +kernel
theorem dX2_isBroken_33 : decode cX2_isBroken 33 = .ok (.ifCond .ge 7, 3) := by decide +kernel
theorem dX2_isBroken_36 : decode cX2_isBroken 36 = .ok (.iconst 1, 1) := by decide +kernel
theorem dX2_isBroken_37 : decode cX2_isBroken 37 = .ok (.goto 4, 3) := by decide +kernel
theorem dX2_isBroken_40 : decode cX2_isBroken 40 = .ok (.iconst 0, 1) := by decide +kernel
theorem dX2_isBroken_41 : decode cX2_isBroken 41 = .ok (.ireturn, 1) := by decide +kernel
theorem dX2_forcedLiteral_0 : decode cX2_forcedLiteral 0 = .ok (.iconst 0, 1) := by decide +kernel
theorem dX2_forcedLiteral_1 : decode cX2_forcedLiteral 1 = .ok (.istore_n 3, 1) := by decide +kernel
theorem dX2_forcedLiteral_2 : decode cX2_forcedLiteral 2 = .ok (.iload_n 3, 1) := by decide +kernel
theorem dX2_forcedLiteral_3 : decode cX2_forcedLiteral 3 = .ok (.aload_n 0, 1) := by decide +kernel
theorem dX2_forcedLiteral_4 : decode cX2_forcedLiteral 4 = .ok (.getfield 37, 3) := by decide +kernel
theorem dX2_forcedLiteral_7 : decode cX2_forcedLiteral 7 = .ok (.if_icmp .ge 25, 3) := by decide +kernel
theorem dX2_forcedLiteral_10 : decode cX2_forcedLiteral 10 = .ok (.aload_n 0, 1) := by decide +kernel
theorem dX2_forcedLiteral_11 : decode cX2_forcedLiteral 11 = .ok (.iload_n 3, 1) := by decide +kernel
theorem dX2_forcedLiteral_12 : decode cX2_forcedLiteral 12 = .ok (.aload_n 1, 1) := by decide +kernel
theorem dX2_forcedLiteral_13 : decode cX2_forcedLiteral 13 = .ok (.invokevirtual 66, 3) := by decide +kernel
theorem dX2_forcedLiteral_16 : decode cX2_forcedLiteral 16 = .ok (.istore 4, 2) := by decide +kernel
theorem dX2_forcedLiteral_18 : decode cX2_forcedLiteral 18 = .ok (.iload 4, 2) := by decide +kernel
theorem dX2_forcedLiteral_20 : decode cX2_forcedLiteral 20 = .ok (.ifCond .eq 6, 3) := by decide +kernel
theorem dX2_forcedLiteral_23 : decode cX2_forcedLiteral 23 = .ok (.iload 4, 2) := by decide +kernel
theorem dX2_forcedLiteral_25 : decode cX2_forcedLiteral 25 = .ok (.ireturn, 1) := by decide +kernel
theorem dX2_forcedLiteral_26 : decode cX2_forcedLiteral 26 = .ok (.iinc 3 1, 3) := by decide +kernel
theorem dX2_forcedLiteral_29 : decode cX2_forcedLiteral 29 = .ok (.goto (-27), 3) := by decide +kernel
theorem dX2_forcedLiteral_32 : decode cX2_forcedLiteral 32 = .ok (.aload_n 0, 1) := by decide +kernel
theorem dX2_forcedLiteral_33 : decode cX2_forcedLiteral 33 = .ok (.aload_n 1, 1) := by decide +kernel
theorem dX2_forcedLiteral_34 : decode cX2_forcedLiteral 34 = .ok (.iload_n 2, 1) := by decide +kernel
theorem dX2_forcedLiteral_35 : decode cX2_forcedLiteral 35 = .ok (.invokevirtual 69, 3) := by decide +kernel
theorem dX2_forcedLiteral_38 : decode cX2_forcedLiteral 38 = .ok (.ireturn, 1) := by decide +kernel
theorem dX2_forcedBy_0 : decode cX2_forcedBy 0 = .ok (.aload_n 0, 1) := by decide +kernel
theorem dX2_forcedBy_1 : decode cX2_forcedBy 1 = .ok (.iload_n 1, 1) := by decide +kernel
theorem dX2_forcedBy_2 : decode cX2_forcedBy 2 = .ok (.aload_n 2, 1) := by decide +kernel
theorem dX2_forcedBy_3 : decode cX2_forcedBy 3 = .ok (.invokevirtual 58, 3) := by decide +kernel
theorem dX2_forcedBy_6 : decode cX2_forcedBy 6 = .ok (.istore_n 3, 1) := by decide +kernel
theorem dX2_forcedBy_7 : decode cX2_forcedBy 7 = .ok (.aload_n 2, 1) := by decide +kernel
theorem dX2_forcedBy_8 : decode cX2_forcedBy 8 = .ok (.getfield 52, 3) := by decide +kernel
theorem dX2_forcedBy_11 : decode cX2_forcedBy 11 = .ok (.aload_n 2, 1) := by decide +kernel
theorem dX2_forcedBy_12 : decode cX2_forcedBy 12 = .ok (.getfield 47, 3) := by decide +kernel
theorem dX2_forcedBy_15 : decode cX2_forcedBy 15 = .ok (.ior, 1) := by decide +kernel
theorem dX2_forcedBy_16 : decode cX2_forcedBy 16 = .ok (.istore 4, 2) := by decide +kernel
theorem dX2_forcedBy_18 : decode cX2_forcedBy 18 = .ok (.aload_n 0, 1) := by decide +kernel
theorem dX2_forcedBy_19 : decode cX2_forcedBy 19 = .ok (.getfield 24, 3) := by decide +kernel
theorem dX2_forcedBy_22 : decode cX2_forcedBy 22 = .ok (.iload_n 1, 1) := by decide +kernel
theorem dX2_forcedBy_23 : decode cX2_forcedBy 23 = .ok (.iaload, 1) := by decide +kernel
theorem dX2_forcedBy_24 : decode cX2_forcedBy 24 = .ok (.istore 5, 2) := by decide +kernel
theorem dX2_forcedBy_26 : decode cX2_forcedBy 26 = .ok (.iload 5, 2) := by decide +kernel
theorem dX2_forcedBy_28 : decode cX2_forcedBy 28 = .ok (.aload_n 0, 1) := by decide +kernel
theorem dX2_forcedBy_29 : decode cX2_forcedBy 29 = .ok (.getfield 24, 3) := by decide +kernel
theorem dX2_forcedBy_32 : decode cX2_forcedBy 32 = .ok (.iload_n 1, 1) := by decide +kernel
theorem dX2_forcedBy_33 : decode cX2_forcedBy 33 = .ok (.iconst 1, 1) := by decide +kernel
theorem dX2_forcedBy_34 : decode cX2_forcedBy 34 = .ok (.iadd, 1) := by decide +kernel
theorem dX2_forcedBy_35 : decode cX2_forcedBy 35 = .ok (.iaload, 1) := by decide +kernel
theorem dX2_forcedBy_36 : decode cX2_forcedBy 36 = .ok (.if_icmp .ge 41, 3) := by decide +kernel
theorem dX2_forcedBy_39 : decode cX2_forcedBy 39 = .ok (.aload_n 0, 1) := by decide +kernel
theorem dX2_forcedBy_40 : decode cX2_forcedBy 40 = .ok (.getfield 15, 3) := by decide +kernel
theorem dX2_forcedBy_43 : decode cX2_forcedBy 43 = .ok (.iload 5, 2) := by decide +kernel
theorem dX2_forcedBy_45 : decode cX2_forcedBy 45 = .ok (.iaload, 1) := by decide +kernel
theorem dX2_forcedBy_46 : decode cX2_forcedBy 46 = .ok (.iload_n 3, 1) := by decide +kernel
theorem dX2_forcedBy_47 : decode cX2_forcedBy 47 = .ok (.if_icmp .le 24, 3) := by decide +kernel
theorem dX2_forcedBy_50 : decode cX2_forcedBy 50 = .ok (.iload 4, 2) := by decide +kernel
theorem dX2_forcedBy_52 : decode cX2_forcedBy 52 = .ok (.aload_n 0, 1) := by decide +kernel
theorem dX2_forcedBy_53 : decode cX2_forcedBy 53 = .ok (.getfield 21, 3) := by decide +kernel
theorem dX2_forcedBy_56 : decode cX2_forcedBy 56 = .ok (.iload 5, 2) := by decide +kernel
theorem dX2_forcedBy_58 : decode cX2_forcedBy 58 = .ok (.iaload, 1) := by decide +kernel
theorem dX2_forcedBy_59 : decode cX2_forcedBy 59 = .ok (.iand, 1) := by decide +kernel
theorem dX2_forcedBy_60 : decode cX2_forcedBy 60 = .ok (.ifCond .ne 11, 3) := by decide +kernel
theorem dX2_forcedBy_63 : decode cX2_forcedBy 63 = .ok (.aload_n 0, 1) := by decide +kernel
theorem dX2_forcedBy_64 : decode cX2_forcedBy 64 = .ok (.getfield 18, 3) := by decide +kernel
theorem dX2_forcedBy_67 : decode cX2_forcedBy 67 = .ok (.iload 5, 2) := by decide +kernel
theorem dX2_forcedBy_69 : decode cX2_forcedBy 69 = .ok (.iaload, 1) := by decide +kernel
theorem dX2_forcedBy_70 : decode cX2_forcedBy 70 = .ok (.ireturn, 1) := by decide +kernel
theorem dX2_forcedBy_71 : decode cX2_forcedBy 71 = .ok (.iinc 5 1, 3) := by decide +kernel
theorem dX2_forcedBy_74 : decode cX2_forcedBy 74 = .ok (.goto (-48), 3) := by decide +kernel
theorem dX2_forcedBy_77 : decode cX2_forcedBy 77 = .ok (.iconst 0, 1) := by decide +kernel
theorem dX2_forcedBy_78 : decode cX2_forcedBy 78 = .ok (.ireturn, 1) := by decide +kernel
theorem dX2_forcedByLimit_0 : decode cX2_forcedByLimit 0 = .ok (.aload_n 0, 1) := by decide +kernel
theorem dX2_forcedByLimit_1 : decode cX2_forcedByLimit 1 = .ok (.aload_n 1, 1) := by decide +kernel
theorem dX2_forcedByLimit_2 : decode cX2_forcedByLimit 2 = .ok (.iload_n 2, 1) := by decide +kernel
theorem dX2_forcedByLimit_3 : decode cX2_forcedByLimit 3 = .ok (.invokevirtual 62, 3) := by decide +kernel
theorem dX2_forcedByLimit_6 : decode cX2_forcedByLimit 6 = .ok (.istore_n 3, 1) := by decide +kernel
theorem dX2_forcedByLimit_7 : decode cX2_forcedByLimit 7 = .ok (.aload_n 1, 1) := by decide +kernel
theorem dX2_forcedByLimit_8 : decode cX2_forcedByLimit 8 = .ok (.getfield 52, 3) := by decide +kernel
theorem dX2_forcedByLimit_11 : decode cX2_forcedByLimit 11 = .ok (.aload_n 1, 1) := by decide +kernel
theorem dX2_forcedByLimit_12 : decode cX2_forcedByLimit 12 = .ok (.getfield 47, 3) := by decide +kernel
theorem dX2_forcedByLimit_15 : decode cX2_forcedByLimit 15 = .ok (.ior, 1) := by decide +kernel
theorem dX2_forcedByLimit_16 : decode cX2_forcedByLimit 16 = .ok (.istore 4, 2) := by decide +kernel
theorem dX2_forcedByLimit_18 : decode cX2_forcedByLimit 18 = .ok (.iconst 1, 1) := by decide +kernel
theorem dX2_forcedByLimit_19 : decode cX2_forcedByLimit 19 = .ok (.istore 5, 2) := by decide +kernel
theorem dX2_forcedByLimit_21 : decode cX2_forcedByLimit 21 = .ok (.iload 5, 2) := by decide +kernel
theorem dX2_forcedByLimit_23 : decode cX2_forcedByLimit 23 = .ok (.bipush 16, 2) := by decide +kernel
theorem dX2_forcedByLimit_25 : decode cX2_forcedByLimit 25 = .ok (.if_icmp .gt 45, 3) := by decide +kernel
theorem dX2_forcedByLimit_28 : decode cX2_forcedByLimit 28 = .ok (.aload_n 0, 1) := by decide +kernel
theorem dX2_forcedByLimit_29 : decode cX2_forcedByLimit 29 = .ok (.getfield 9, 3) := by decide +kernel
theorem dX2_forcedByLimit_32 : decode cX2_forcedByLimit 32 = .ok (.iload 5, 2) := by decide +kernel
theorem dX2_forcedByLimit_34 : decode cX2_forcedByLimit 34 = .ok (.iaload, 1) := by decide +kernel
theorem dX2_forcedByLimit_35 : decode cX2_forcedByLimit 35 = .ok (.ifCond .le 29, 3) := by decide +kernel
theorem dX2_forcedByLimit_38 : decode cX2_forcedByLimit 38 = .ok (.aload_n 0, 1) := by decide +kernel
theorem dX2_forcedByLimit_39 : decode cX2_forcedByLimit 39 = .ok (.getfield 9, 3) := by decide +kernel
theorem dX2_forcedByLimit_42 : decode cX2_forcedByLimit 42 = .ok (.iload 5, 2) := by decide +kernel
theorem dX2_forcedByLimit_44 : decode cX2_forcedByLimit 44 = .ok (.iaload, 1) := by decide +kernel
theorem dX2_forcedByLimit_45 : decode cX2_forcedByLimit 45 = .ok (.iload_n 3, 1) := by decide +kernel
theorem dX2_forcedByLimit_46 : decode cX2_forcedByLimit 46 = .ok (.if_icmp .le 18, 3) := by decide +kernel
theorem dX2_forcedByLimit_49 : decode cX2_forcedByLimit 49 = .ok (.iload 4, 2) := by decide +kernel
theorem dX2_forcedByLimit_51 : decode cX2_forcedByLimit 51 = .ok (.iload 5, 2) := by decide +kernel
theorem dX2_forcedByLimit_53 : decode cX2_forcedByLimit 53 = .ok (.invokestatic 34, 3) := by decide +kernel
theorem dX2_forcedByLimit_56 : decode cX2_forcedByLimit 56 = .ok (.iand, 1) := by decide +kernel
theorem dX2_forcedByLimit_57 : decode cX2_forcedByLimit 57 = .ok (.ifCond .ne 7, 3) := by decide +kernel
theorem dX2_forcedByLimit_60 : decode cX2_forcedByLimit 60 = .ok (.iload 5, 2) := by decide +kernel
theorem dX2_forcedByLimit_62 : decode cX2_forcedByLimit 62 = .ok (.ineg, 1) := by decide +kernel
theorem dX2_forcedByLimit_63 : decode cX2_forcedByLimit 63 = .ok (.ireturn, 1) := by decide +kernel
theorem dX2_forcedByLimit_64 : decode cX2_forcedByLimit 64 = .ok (.iinc 5 1, 3) := by decide +kernel
theorem dX2_forcedByLimit_67 : decode cX2_forcedByLimit 67 = .ok (.goto (-46), 3) := by decide +kernel
theorem dX2_forcedByLimit_70 : decode cX2_forcedByLimit 70 = .ok (.iconst 0, 1) := by decide +kernel
theorem dX2_forcedByLimit_71 : decode cX2_forcedByLimit 71 = .ok (.ireturn, 1) := by decide +kernel
theorem dX3_init_0 : decode cX3_init 0 = .ok (.aload_n 0, 1) := by decide +kernel
theorem dX3_init_1 : decode cX3_init 1 = .ok (.invokespecial 3, 3) := by decide +kernel
theorem dX3_init_4 : decode cX3_init 4 = .ok (.aload_n 0, 1) := by decide +kernel
theorem dX3_init_5 : decode cX3_init 5 = .ok (.new 9, 3) := by decide +kernel
theorem dX3_init_8 : decode cX3_init 8 = .ok (.dup, 1) := by decide +kernel
theorem dX3_init_9 : decode cX3_init 9 = .ok (.invokespecial 11, 3) := by decide +kernel
theorem dX3_init_12 : decode cX3_init 12 = .ok (.putfield 12, 3) := by decide +kernel
theorem dX3_init_15 : decode cX3_init 15 = .ok (.aload_n 0, 1) := by decide +kernel
theorem dX3_init_16 : decode cX3_init 16 = .ok (.bipush 16, 2) := by decide +kernel
theorem dX3_init_18 : decode cX3_init 18 = .ok (.newarray .int, 2) := by decide +kernel
theorem dX3_init_20 : decode cX3_init 20 = .ok (.putfield 18, 3) := by decide +kernel
theorem dX3_init_23 : decode cX3_init 23 = .ok (.aload_n 0, 1) := by decide +kernel
theorem dX3_init_24 : decode cX3_init 24 = .ok (.bipush 16, 2) := by decide +kernel
theorem dX3_init_26 : decode cX3_init 26 = .ok (.newarray .int, 2) := by decide +kernel
theorem dX3_init_28 : decode cX3_init 28 = .ok (.putfield 22, 3) := by decide +kernel
theorem dX3_init_31 : decode cX3_init 31 = .ok (.aload_n 0, 1) := by decide +kernel
theorem dX3_init_32 : decode cX3_init 32 = .ok (.bipush 16, 2) := by decide +kernel
theorem dX3_init_34 : decode cX3_init 34 = .ok (.newarray .int, 2) := by decide +kernel
theorem dX3_init_36 : decode cX3_init 36 = .ok (.putfield 25, 3) := by decide +kernel
theorem dX3_init_39 : decode cX3_init 39 = .ok (.aload_n 0, 1) := by decide +kernel
theorem dX3_init_40 : decode cX3_init 40 = .ok (.iconst (-1), 1) := by decide +kernel
theorem dX3_init_41 : decode cX3_init 41 = .ok (.putfield 28, 3) := by decide +kernel
theorem dX3_init_44 : decode cX3_init 44 = .ok (.aload_n 0, 1) := by decide +kernel
theorem dX3_init_45 : decode cX3_init 45 = .ok (.iconst 2, 1) := by decide +kernel
theorem dX3_init_46 : decode cX3_init 46 = .ok (.putfield 32, 3) := by decide +kernel
theorem dX3_init_49 : decode cX3_init 49 = .ok (.aload_n 0, 1) := by decide +kernel
theorem dX3_init_50 : decode cX3_init 50 = .ok (.aload_n 1, 1) := by decide +kernel
theorem dX3_init_51 : decode cX3_init 51 = .ok (.putfield 35, 3) := by decide +kernel
theorem dX3_init_54 : decode cX3_init 54 = .ok (.aload_n 0, 1) := by decide +kernel
theorem dX3_init_55 : decode cX3_init 55 = .ok (.aload_n 2, 1) := by decide +kernel
theorem dX3_init_56 : decode cX3_init 56 = .ok (.putfield 39, 3) := by decide +kernel
theorem dX3_init_59 : decode cX3_init 59 = .ok (.return_, 1) := by decide +kernel
theorem dX3_isDone_0 : decode cX3_isDone 0 = .ok (.aload_n 0, 1) := by decide +kernel
theorem dX3_isDone_1 : decode cX3_isDone 1 = .ok (.getfield 32, 3) := by decide +kernel
theorem dX3_isDone_4 : decode cX3_isDone 4 = .ok (.iconst 1, 1) := by decide +kernel
theorem dX3_isDone_5 : decode cX3_isDone 5 = .ok (.if_icmp .ne 7, 3) := by decide +kernel
theorem dX3_isDone_8 : decode cX3_isDone 8 = .ok (.iconst 1, 1) := by decide +kernel
theorem dX3_isDone_9 : decode cX3_isDone 9 = .ok (.goto 4, 3) := by decide +kernel
theorem dX3_isDone_12 : decode cX3_isDone 12 = .ok (.iconst 0, 1) := by decide +kernel
theorem dX3_isDone_13 : decode cX3_isDone 13 = .ok (.ireturn, 1) := by decide +kernel
theorem dX3_advance_0 : decode cX3_advance 0 = .ok (.iconst 0, 1) := by decide +kernel
theorem dX3_advance_1 : decode cX3_advance 1 = .ok (.istore_n 2, 1) := by decide +kernel
theorem dX3_advance_2 : decode cX3_advance 2 = .ok (.iload_n 2, 1) := by decide +kernel
theorem dX3_advance_3 : decode cX3_advance 3 = .ok (.iload_n 1, 1) := by decide +kernel
theorem dX3_advance_4 : decode cX3_advance 4 = .ok (.if_icmp .ge 21, 3) := by decide +kernel
theorem dX3_advance_7 : decode cX3_advance 7 = .ok (.aload_n 0, 1) := by decide +kernel
theorem dX3_advance_8 : decode cX3_advance 8 = .ok (.getfield 32, 3) := by decide +kernel
theorem dX3_advance_11 : decode cX3_advance 11 = .ok (.iconst 2, 1) := by decide +kernel
theorem dX3_advance_12 : decode cX3_advance 12 = .ok (.if_icmp .ne 13, 3) := by decide +kernel
theorem dX3_advance_15 : decode cX3_advance 15 = .ok (.aload_n 0, 1) := by decide +kernel
theorem dX3_advance_16 : decode cX3_advance 16 = .ok (.invokevirtual 43, 3) := by decide +kernel
theorem dX3_advance_19 : decode cX3_advance 19 = .ok (.iinc 2 1, 3) := by decide +kernel
theorem dX3_advance_22 : decode cX3_advance 22 = .ok (.goto (-20), 3) := by decide +kernel
theorem dX3_advance_25 : decode cX3_advance 25 = .ok (.aload_n 0, 1) := by decide +kernel
theorem dX3_advance_26 : decode cX3_advance 26 = .ok (.getfield 32, 3) := by decide +kernel
theorem dX3_advance_29 : decode cX3_advance 29 = .ok (.ireturn, 1) := by decide +kernel
theorem dX3_step_0 : decode cX3_step 0 = .ok (.aload_n 0, 1) := by decide +kernel
theorem dX3_step_1 : decode cX3_step 1 = .ok (.dup, 1) := by decide +kernel
theorem dX3_step_2 : decode cX3_step 2 = .ok (.getfield 46, 3) := by decide +kernel
theorem dX3_step_5 : decode cX3_step 5 = .ok (.iconst 1, 1) := by decide +kernel
theorem dX3_step_6 : decode cX3_step 6 = .ok (.iadd, 1) := by decide +kernel
theorem dX3_step_7 : decode cX3_step 7 = .ok (.putfield 46, 3) := by decide +kernel
theorem dX3_step_10 : decode cX3_step 10 = .ok (.aload_n 0, 1) := by decide +kernel
theorem dX3_step_11 : decode cX3_step 11 = .ok (.getfield 28, 3) := by decide +kernel
theorem dX3_step_14 : decode cX3_step 14 = .ok (.invokestatic 49, 3) := by decide +kernel
theorem dX3_step_17 : decode cX3_step 17 = .ok (.istore_n 1, 1) := by decide +kernel
theorem dX3_step_18 : decode cX3_step 18 = .ok (.aload_n 0, 1) := by decide +kernel
theorem dX3_step_19 : decode cX3_step 19 = .ok (.getfield 35, 3) := by decide +kernel
theorem dX3_step_22 : decode cX3_step 22 = .ok (.aload_n 0, 1) := by decide +kernel
theorem dX3_step_23 : decode cX3_step 23 = .ok (.getfield 12, 3) := by decide +kernel
theorem dX3_step_26 : decode cX3_step 26 = .ok (.iload_n 1, 1) := by decide +kernel
theorem dX3_step_27 : decode cX3_step 27 = .ok (.invokevirtual 53, 3) := by decide +kernel
theorem dX3_step_30 : decode cX3_step 30 = .ok (.ifCond .eq 8, 3) := by decide +kernel
theorem dX3_step_33 : decode cX3_step 33 = .ok (.aload_n 0, 1) := by decide +kernel
theorem dX3_step_34 : decode cX3_step 34 = .ok (.invokevirtual 59, 3) := by decide +kernel
theorem dX3_step_37 : decode cX3_step 37 = .ok (.return_, 1) := by decide +kernel
theorem dX3_step_38 : decode cX3_step 38 = .ok (.aload_n 0, 1) := by decide +kernel
theorem dX3_step_39 : decode cX3_step 39 = .ok (.getfield 35, 3) := by decide +kernel
theorem dX3_step_42 : decode cX3_step 42 = .ok (.aload_n 0, 1) := by decide +kernel
theorem dX3_step_43 : decode cX3_step 43 = .ok (.getfield 12, 3) := by decide +kernel
theorem dX3_step_46 : decode cX3_step 46 = .ok (.iload_n 1, 1) := by decide +kernel
theorem dX3_step_47 : decode cX3_step 47 = .ok (.invokevirtual 62, 3) := by decide +kernel
theorem dX3_step_50 : decode cX3_step 50 = .ok (.istore_n 2, 1) := by decide +kernel
theorem dX3_step_51 : decode cX3_step 51 = .ok (.iload_n 2, 1) := by decide +kernel
theorem dX3_step_52 : decode cX3_step 52 = .ok (.ifCond .eq 12, 3) := by decide +kernel
theorem dX3_step_55 : decode cX3_step 55 = .ok (.aload_n 0, 1) := by decide +kernel
theorem dX3_step_56 : decode cX3_step 56 = .ok (.getfield 12, 3) := by decide +kernel
theorem dX3_step_59 : decode cX3_step 59 = .ok (.iload_n 2, 1) := by decide +kernel
theorem dX3_step_60 : decode cX3_step 60 = .ok (.invokevirtual 66, 3) := by decide +kernel
theorem dX3_step_63 : decode cX3_step 63 = .ok (.return_, 1) := by decide +kernel
theorem dX3_step_64 : decode cX3_step 64 = .ok (.aload_n 0, 1) := by decide +kernel
theorem dX3_step_65 : decode cX3_step 65 = .ok (.getfield 12, 3) := by decide +kernel
theorem dX3_step_68 : decode cX3_step 68 = .ok (.invokevirtual 70, 3) := by decide +kernel
theorem dX3_step_71 : decode cX3_step 71 = .ok (.istore_n 3, 1) := by decide +kernel
theorem dX3_step_72 : decode cX3_step 72 = .ok (.iload_n 3, 1) := by decide +kernel
theorem dX3_step_73 : decode cX3_step 73 = .ok (.ifCond .eq 11, 3) := by decide +kernel
theorem dX3_step_76 : decode cX3_step 76 = .ok (.aload_n 0, 1) := by decide +kernel
theorem dX3_step_77 : decode cX3_step 77 = .ok (.iload_n 3, 1) := by decide +kernel
theorem dX3_step_78 : decode cX3_step 78 = .ok (.invokevirtual 74, 3) := by decide +kernel
theorem dX3_step_81 : decode cX3_step 81 = .ok (.goto 7, 3) := by decide +kernel
theorem dX3_step_84 : decode cX3_step 84 = .ok (.aload_n 0, 1) := by decide +kernel
theorem dX3_step_85 : decode cX3_step 85 = .ok (.invokevirtual 77, 3) := by decide +kernel
theorem dX3_step_88 : decode cX3_step 88 = .ok (.return_, 1) := by decide +kernel
theorem dX3_goBack_0 : decode cX3_goBack 0 = .ok (.aload_n 0, 1) := by decide +kernel
theorem dX3_goBack_1 : decode cX3_goBack 1 = .ok (.iconst 0, 1) := by decide +kernel
theorem dX3_goBack_2 : decode cX3_goBack 2 = .ok (.invokevirtual 80, 3) := by decide +kernel
theorem dX3_goBack_5 : decode cX3_goBack 5 = .ok (.ifCond .ne 4, 3) := by decide +kernel
theorem dX3_goBack_8 : decode cX3_goBack 8 = .ok (.return_, 1) := by decide +kernel
theorem dX3_goBack_9 : decode cX3_goBack 9 = .ok (.aload_n 0, 1) := by decide +kernel
theorem dX3_goBack_10 : decode cX3_goBack 10 = .ok (.getfield 84, 3) := by decide +kernel
theorem dX3_goBack_13 : decode cX3_goBack 13 = .ok (.ifCond .ne 8, 3) := by decide +kernel
theorem dX3_goBack_16 : decode cX3_goBack 16 = .ok (.aload_n 0, 1) := by decide +kernel
theorem dX3_goBack_17 : decode cX3_goBack 17 = .ok (.invokevirtual 87, 3) := by decide +kernel
theorem dX3_goBack_20 : decode cX3_goBack 20 = .ok (.return_, 1) := by decide +kernel
theorem dX3_goBack_21 : decode cX3_goBack 21 = .ok (.aload_n 0, 1) := by decide +kernel
theorem dX3_goBack_22 : decode cX3_goBack 22 = .ok (.dup, 1) := by decide +kernel
theorem dX3_goBack_23 : decode cX3_goBack 23 = .ok (.getfield 84, 3) := by decide +kernel
theorem dX3_goBack_26 : decode cX3_goBack 26 = .ok (.iconst 1, 1) := by decide +kernel
theorem dX3_goBack_27 : decode cX3_goBack 27 = .ok (.isub, 1) := by decide +kernel
theorem dX3_goBack_28 : decode cX3_goBack 28 = .ok (.putfield 84, 3) := by decide +kernel
theorem dX3_goBack_31 : decode cX3_goBack 31 = .ok (.aload_n 0, 1) := by decide +kernel
theorem dX3_goBack_32 : decode cX3_goBack 32 = .ok (.getfield 12, 3) := by decide +kernel
theorem dX3_goBack_35 : decode cX3_goBack 35 = .ok (.aload_n 0, 1) := by decide +kernel
theorem dX3_goBack_36 : decode cX3_goBack 36 = .ok (.getfield 22, 3) := by decide +kernel
theorem dX3_goBack_39 : decode cX3_goBack 39 = .ok (.aload_n 0, 1) := by decide +kernel
theorem dX3_goBack_40 : decode cX3_goBack 40 = .ok (.getfield 84, 3) := by decide +kernel
theorem dX3_goBack_43 : decode cX3_goBack 43 = .ok (.iaload, 1) := by decide +kernel
theorem dX3_goBack_44 : decode cX3_goBack 44 = .ok (.aload_n 0, 1) := by decide +kernel
theorem dX3_goBack_45 : decode cX3_goBack 45 = .ok (.getfield 25, 3) := by decide +kernel
theorem dX3_goBack_48 : decode cX3_goBack 48 = .ok (.aload_n 0, 1) := by decide +kernel
theorem dX3_goBack_49 : decode cX3_goBack 49 = .ok (.getfield 84, 3) := by decide +kernel
theorem dX3_goBack_52 : decode cX3_goBack 52 = .ok (.iaload, 1) := by decide +kernel
theorem dX3_goBack_53 : decode cX3_goBack 53 = .ok (.invokevirtual 90, 3) := by decide +kernel
theorem dX3_goBack_56 : decode cX3_goBack 56 = .ok (.aload_n 0, 1) := by decide +kernel
theorem dX3_goBack_57 : decode cX3_goBack 57 = .ok (.getfield 12, 3) := by decide +kernel
theorem dX3_goBack_60 : decode cX3_goBack 60 = .ok (.aload_n 0, 1) := by decide +kernel
theorem dX3_goBack_61 : decode cX3_goBack 61 = .ok (.getfield 18, 3) := by decide +kernel
theorem dX3_goBack_64 : decode cX3_goBack 64 = .ok (.aload_n 0, 1) := by decide +kernel
theorem dX3_goBack_65 : decode cX3_goBack 65 = .ok (.getfield 84, 3) := by decide +kernel
theorem dX3_goBack_68 : decode cX3_goBack 68 = .ok (.iaload, 1) := by decide +kernel
theorem dX3_goBack_69 : decode cX3_goBack 69 = .ok (.invokevirtual 66, 3) := by decide +kernel
theorem dX3_goBack_72 : decode cX3_goBack 72 = .ok (.return_, 1) := by decide +kernel
theorem dX3_finish_0 : decode cX3_finish 0 = .ok (.aload_n 0, 1) := by decide +kernel
theorem dX3_finish_1 : decode cX3_finish 1 = .ok (.aload_n 0, 1) := by decide +kernel
theorem dX3_finish_2 : decode cX3_finish 2 = .ok (.getfield 28, 3) := by decide +kernel
theorem dX3_finish_5 : decode cX3_finish 5 = .ok (.invokevirtual 80, 3) := by decide +kernel
theorem dX3_finish_8 : decode cX3_finish 8 = .ok (.ifCond .eq 19, 3) := by decide +kernel
theorem dX3_finish_11 : decode cX3_finish 11 = .ok (.aload_n 0, 1) := by decide +kernel
theorem dX3_finish_12 : decode cX3_finish 12 = .ok (.aload_n 0, 1) := by decide +kernel
theorem dX3_finish_13 : decode cX3_finish 13 = .ok (.getfield 94, 3) := by decide +kernel
theorem dX3_finish_16 : decode cX3_finish 16 = .ok (.invokevirtual 80, 3) := by decide +kernel
theorem dX3_finish_19 : decode cX3_finish 19 = .ok (.ifCond .eq 8, 3) := by decide +kernel
theorem dX3_finish_22 : decode cX3_finish 22 = .ok (.aload_n 0, 1) := by decide +kernel
theorem dX3_finish_23 : decode cX3_finish 23 = .ok (.iconst 1, 1) := by decide +kernel
theorem dX3_finish_24 : decode cX3_finish 24 = .ok (.putfield 32, 3) := by decide +kernel
theorem dX3_finish_27 : decode cX3_finish 27 = .ok (.return_, 1) := by decide +kernel
theorem dX3_keepBest_0 : decode cX3_keepBest 0 = .ok (.aload_n 0, 1) := by decide +kernel
theorem dX3_keepBest_1 : decode cX3_keepBest 1 = .ok (.aload_n 0, 1) := by decide +kernel
theorem dX3_keepBest_2 : decode cX3_keepBest 2 = .ok (.getfield 12, 3) := by decide +kernel
theorem dX3_keepBest_5 : decode cX3_keepBest 5 = .ok (.getfield 97, 3) := by decide +kernel
theorem dX3_keepBest_8 : decode cX3_keepBest 8 = .ok (.putfield 94, 3) := by decide +kernel
theorem dX3_keepBest_11 : decode cX3_keepBest 11 = .ok (.aload_n 0, 1) := by decide +kernel
theorem dX3_keepBest_12 : decode cX3_keepBest 12 = .ok (.aload_n 0, 1) := by decide +kernel
theorem dX3_keepBest_13 : decode cX3_keepBest 13 = .ok (.getfield 35, 3) := by decide +kernel
theorem dX3_keepBest_16 : decode cX3_keepBest 16 = .ok (.aload_n 0, 1) := by decide +kernel
theorem dX3_keepBest_17 : decode cX3_keepBest 17 = .ok (.getfield 94, 3) := by decide +kernel
theorem dX3_keepBest_20 : decode cX3_keepBest 20 = .ok (.invokevirtual 100, 3) := by decide +kernel
theorem dX3_keepBest_23 : decode cX3_keepBest 23 = .ok (.putfield 28, 3) := by decide +kernel
theorem dX3_keepBest_26 : decode cX3_keepBest 26 = .ok (.return_, 1) := by decide +kernel
theorem dX3_choose_0 : decode cX3_choose 0 = .ok (.aload_n 0, 1) := by decide +kernel
theorem dX3_choose_1 : decode cX3_choose 1 = .ok (.getfield 84, 3) := by decide +kernel
theorem dX3_choose_4 : decode cX3_choose 4 = .ok (.bipush 16, 2) := by decide +kernel
theorem dX3_choose_6 : decode cX3_choose 6 = .ok (.if_icmp .ge 11, 3) := by decide +kernel
theorem dX3_choose_9 : decode cX3_choose 9 = .ok (.aload_n 0, 1) := by decide +kernel
theorem dX3_choose_10 : decode cX3_choose 10 = .ok (.iload_n 1, 1) := by decide +kernel
theorem dX3_choose_11 : decode cX3_choose 11 = .ok (.invokevirtual 80, 3) := by decide +kernel
theorem dX3_choose_14 : decode cX3_choose 14 = .ok (.ifCond .ne 4, 3) := by decide +kernel
theorem dX3_choose_17 : decode cX3_choose 17 = .ok (.return_, 1) := by decide +kernel
theorem dX3_choose_18 : decode cX3_choose 18 = .ok (.aload_n 0, 1) := by decide +kernel
theorem dX3_choose_19 : decode cX3_choose 19 = .ok (.getfield 18, 3) := by decide +kernel
theorem dX3_choose_22 : decode cX3_choose 22 = .ok (.aload_n 0, 1) := by decide +kernel
theorem dX3_choose_23 : decode cX3_choose 23 = .ok (.getfield 84, 3) := by decide +kernel
theorem dX3_choose_26 : decode cX3_choose 26 = .ok (.iload_n 1, 1) := by decide +kernel
theorem dX3_choose_27 : decode cX3_choose 27 = .ok (.iastore, 1) := by decide +kernel
theorem dX3_choose_28 : decode cX3_choose 28 = .ok (.aload_n 0, 1) := by decide +kernel
theorem dX3_choose_29 : decode cX3_choose 29 = .ok (.getfield 22, 3) := by decide +kernel
theorem dX3_choose_32 : decode cX3_choose 32 = .ok (.aload_n 0, 1) := by decide +kernel
theorem dX3_choose_33 : decode cX3_choose 33 = .ok (.getfield 84, 3) := by decide +kernel
theorem dX3_choose_36 : decode cX3_choose 36 = .ok (.aload_n 0, 1) := by decide +kernel
theorem dX3_choose_37 : decode cX3_choose 37 = .ok (.getfield 12, 3) := by decide +kernel
theorem dX3_choose_40 : decode cX3_choose 40 = .ok (.getfield 97, 3) := by decide +kernel
theorem dX3_choose_43 : decode cX3_choose 43 = .ok (.iastore, 1) := by decide +kernel
theorem dX3_choose_44 : decode cX3_choose 44 = .ok (.aload_n 0, 1) := by decide +kernel
theorem dX3_choose_45 : decode cX3_choose 45 = .ok (.getfield 25, 3) := by decide +kernel
theorem dX3_choose_48 : decode cX3_choose 48 = .ok (.aload_n 0, 1) := by decide +kernel
theorem dX3_choose_49 : decode cX3_choose 49 = .ok (.getfield 84, 3) := by decide +kernel
theorem dX3_choose_52 : decode cX3_choose 52 = .ok (.aload_n 0, 1) := by decide +kernel
theorem dX3_choose_53 : decode cX3_choose 53 = .ok (.getfield 12, 3) := by decide +kernel
theorem dX3_choose_56 : decode cX3_choose 56 = .ok (.getfield 103, 3) := by decide +kernel
theorem dX3_choose_59 : decode cX3_choose 59 = .ok (.iastore, 1) := by decide +kernel
theorem dX3_choose_60 : decode cX3_choose 60 = .ok (.aload_n 0, 1) := by decide +kernel
theorem dX3_choose_61 : decode cX3_choose 61 = .ok (.dup, 1) := by decide +kernel
theorem dX3_choose_62 : decode cX3_choose 62 = .ok (.getfield 84, 3) := by decide +kernel
theorem dX3_choose_65 : decode cX3_choose 65 = .ok (.iconst 1, 1) := by decide +kernel
theorem dX3_choose_66 : decode cX3_choose 66 = .ok (.iadd, 1) := by decide +kernel
theorem dX3_choose_67 : decode cX3_choose 67 = .ok (.putfield 84, 3) := by decide +kernel
theorem dX3_choose_70 : decode cX3_choose 70 = .ok (.aload_n 0, 1) := by decide +kernel
theorem dX3_choose_71 : decode cX3_choose 71 = .ok (.getfield 12, 3) := by decide +kernel
theorem dX3_choose_74 : decode cX3_choose 74 = .ok (.iload_n 1, 1) := by decide +kernel
theorem dX3_choose_75 : decode cX3_choose 75 = .ok (.ineg, 1) := by decide +kernel
theorem dX3_choose_76 : decode cX3_choose 76 = .ok (.invokevirtual 66, 3) := by decide +kernel
theorem dX3_choose_79 : decode cX3_choose 79 = .ok (.return_, 1) := by decide +kernel
theorem dX3_writes_0 : decode cX3_writes 0 = .ok (.aload_n 0, 1) := by decide +kernel
theorem dX3_writes_1 : decode cX3_writes 1 = .ok (.getfield 39, 3) := by decide +kernel
theorem dX3_writes_4 : decode cX3_writes 4 = .ok (.iload_n 1, 1) := by decide +kernel
theorem dX3_writes_5 : decode cX3_writes 5 = .ok (.invokevirtual 106, 3) := by decide +kernel
theorem dX3_writes_8 : decode cX3_writes 8 = .ok (.istore_n 2, 1) := by decide +kernel
theorem dX3_writes_9 : decode cX3_writes 9 = .ok (.iload_n 2, 1) := by decide +kernel
theorem dX3_writes_10 : decode cX3_writes 10 = .ok (.ifCond .ne 9, 3) := by decide +kernel
theorem dX3_writes_13 : decode cX3_writes 13 = .ok (.aload_n 0, 1) := by decide +kernel
theorem dX3_writes_14 : decode cX3_writes 14 = .ok (.bipush (-2), 2) := by decide +kernel
theorem dX3_writes_16 : decode cX3_writes 16 = .ok (.putfield 32, 3) := by decide +kernel
theorem dX3_writes_19 : decode cX3_writes 19 = .ok (.iload_n 2, 1) := by decide +kernel
theorem dX3_writes_20 : decode cX3_writes 20 = .ok (.ireturn, 1) := by decide +kernel
theorem dX4_init_0 : decode cX4_init 0 = .ok (.aload_n 0, 1) := by decide +kernel
theorem dX4_init_1 : decode cX4_init 1 = .ok (.invokespecial 3, 3) := by decide +kernel
theorem dX4_init_4 : decode cX4_init 4 = .ok (.return_, 1) := by decide +kernel
theorem dX4_become_0 : decode cX4_become 0 = .ok (.aload_n 0, 1) := by decide +kernel
theorem dX4_become_1 : decode cX4_become 1 = .ok (.iload_n 1, 1) := by decide +kernel
theorem dX4_become_2 : decode cX4_become 2 = .ok (.putfield 9, 3) := by decide +kernel
theorem dX4_become_5 : decode cX4_become 5 = .ok (.aload_n 0, 1) := by decide +kernel
theorem dX4_become_6 : decode cX4_become 6 = .ok (.iload_n 2, 1) := by decide +kernel
theorem dX4_become_7 : decode cX4_become 7 = .ok (.putfield 15, 3) := by decide +kernel
theorem dX4_become_10 : decode cX4_become 10 = .ok (.return_, 1) := by decide +kernel
theorem dX4_makeTrue_0 : decode cX4_makeTrue 0 = .ok (.iload_n 1, 1) := by decide +kernel
theorem dX4_makeTrue_1 : decode cX4_makeTrue 1 = .ok (.invokestatic 18, 3) := by decide +kernel
theorem dX4_makeTrue_4 : decode cX4_makeTrue 4 = .ok (.invokestatic 22, 3) := by decide +kernel
theorem dX4_makeTrue_7 : decode cX4_makeTrue 7 = .ok (.istore_n 2, 1) := by decide +kernel
theorem dX4_makeTrue_8 : decode cX4_makeTrue 8 = .ok (.iload_n 1, 1) := by decide +kernel
theorem dX4_makeTrue_9 : decode cX4_makeTrue 9 = .ok (.ifCond .le 16, 3) := by decide +kernel
theorem dX4_makeTrue_12 : decode cX4_makeTrue 12 = .ok (.aload_n 0, 1) := by decide +kernel
theorem dX4_makeTrue_13 : decode cX4_makeTrue 13 = .ok (.dup, 1) := by decide +kernel
theorem dX4_makeTrue_14 : decode cX4_makeTrue 14 = .ok (.getfield 9, 3) := by decide +kernel
theorem dX4_makeTrue_17 : decode cX4_makeTrue 17 = .ok (.iload_n 2, 1) := by decide +kernel
theorem dX4_makeTrue_18 : decode cX4_makeTrue 18 = .ok (.ior, 1) := by decide +kernel
theorem dX4_makeTrue_19 : decode cX4_makeTrue 19 = .ok (.putfield 9, 3) := by decide +kernel
theorem dX4_makeTrue_22 : decode cX4_makeTrue 22 = .ok (.goto 13, 3) := by decide +kernel
theorem dX4_makeTrue_25 : decode cX4_makeTrue 25 = .ok (.aload_n 0, 1) := by decide +kernel
theorem dX4_makeTrue_26 : decode cX4_makeTrue 26 = .ok (.dup, 1) := by decide +kernel
theorem dX4_makeTrue_27 : decode cX4_makeTrue 27 = .ok (.getfield 15, 3) := by decide +kernel
theorem dX4_makeTrue_30 : decode cX4_makeTrue 30 = .ok (.iload_n 2, 1) := by decide +kernel
theorem dX4_makeTrue_31 : decode cX4_makeTrue 31 = .ok (.ior, 1) := by decide +kernel
theorem dX4_makeTrue_32 : decode cX4_makeTrue 32 = .ok (.putfield 15, 3) := by decide +kernel
theorem dX4_makeTrue_35 : decode cX4_makeTrue 35 = .ok (.return_, 1) := by decide +kernel
theorem dX4_leastNotSet_0 : decode cX4_leastNotSet 0 = .ok (.aload_n 0, 1) := by decide +kernel
theorem dX4_leastNotSet_1 : decode cX4_leastNotSet 1 = .ok (.getfield 9, 3) := by decide +kernel
theorem dX4_leastNotSet_4 : decode cX4_leastNotSet 4 = .ok (.aload_n 0, 1) := by decide +kernel
theorem dX4_leastNotSet_5 : decode cX4_leastNotSet 5 = .ok (.getfield 15, 3) := by decide +kernel
theorem dX4_leastNotSet_8 : decode cX4_leastNotSet 8 = .ok (.ior, 1) := by decide +kernel
theorem dX4_leastNotSet_9 : decode cX4_leastNotSet 9 = .ok (.istore_n 1, 1) := by decide +kernel
theorem dX4_leastNotSet_10 : decode cX4_leastNotSet 10 = .ok (.iconst 1, 1) := by decide +kernel
theorem dX4_leastNotSet_11 : decode cX4_leastNotSet 11 = .ok (.istore_n 2, 1) := by decide +kernel
theorem dX4_leastNotSet_12 : decode cX4_leastNotSet 12 = .ok (.iload_n 2, 1) := by decide +kernel
theorem dX4_leastNotSet_13 : decode cX4_leastNotSet 13 = .ok (.bipush 16, 2) := by decide +kernel
theorem dX4_leastNotSet_15 : decode cX4_leastNotSet 15 = .ok (.if_icmp .gt 20, 3) := by decide +kernel
theorem dX4_leastNotSet_18 : decode cX4_leastNotSet 18 = .ok (.iload_n 1, 1) := by decide +kernel
theorem dX4_leastNotSet_19 : decode cX4_leastNotSet 19 = .ok (.iload_n 2, 1) := by decide +kernel
theorem dX4_leastNotSet_20 : decode cX4_leastNotSet 20 = .ok (.invokestatic 22, 3) := by decide +kernel
theorem dX4_leastNotSet_23 : decode cX4_leastNotSet 23 = .ok (.iand, 1) := by decide +kernel
theorem dX4_leastNotSet_24 : decode cX4_leastNotSet 24 = .ok (.ifCond .ne 5, 3) := by decide +kernel
theorem dX4_leastNotSet_27 : decode cX4_leastNotSet 27 = .ok (.iload_n 2, 1) := by decide +kernel
theorem dX4_leastNotSet_28 : decode cX4_leastNotSet 28 = .ok (.ireturn, 1) := by decide +kernel
theorem dX4_leastNotSet_29 : decode cX4_leastNotSet 29 = .ok (.iinc 2 1, 3) := by decide +kernel
theorem dX4_leastNotSet_32 : decode cX4_leastNotSet 32 = .ok (.goto (-20), 3) := by decide +kernel
theorem dX4_leastNotSet_35 : decode cX4_leastNotSet 35 = .ok (.iconst 0, 1) := by decide +kernel
theorem dX4_leastNotSet_36 : decode cX4_leastNotSet 36 = .ok (.ireturn, 1) := by decide +kernel
theorem dX5_init_0 : decode cX5_init 0 = .ok (.aload_n 0, 1) := by decide +kernel
theorem dX5_init_1 : decode cX5_init 1 = .ok (.invokespecial 3, 3) := by decide +kernel
theorem dX5_init_4 : decode cX5_init 4 = .ok (.aload_n 0, 1) := by decide +kernel
theorem dX5_init_5 : decode cX5_init 5 = .ok (.new 9, 3) := by decide +kernel
theorem dX5_init_8 : decode cX5_init 8 = .ok (.dup, 1) := by decide +kernel
theorem dX5_init_9 : decode cX5_init 9 = .ok (.invokespecial 11, 3) := by decide +kernel
theorem dX5_init_12 : decode cX5_init 12 = .ok (.putfield 12, 3) := by decide +kernel
theorem dX5_init_15 : decode cX5_init 15 = .ok (.aload_n 0, 1) := by decide +kernel
theorem dX5_init_16 : decode cX5_init 16 = .ok (.new 16, 3) := by decide +kernel
theorem dX5_init_19 : decode cX5_init 19 = .ok (.dup, 1) := by decide +kernel
theorem dX5_init_20 : decode cX5_init 20 = .ok (.invokespecial 18, 3) := by decide +kernel
theorem dX5_init_23 : decode cX5_init 23 = .ok (.putfield 19, 3) := by decide +kernel
theorem dX5_init_26 : decode cX5_init 26 = .ok (.aload_n 0, 1) := by decide +kernel
theorem dX5_init_27 : decode cX5_init 27 = .ok (.new 23, 3) := by decide +kernel
theorem dX5_init_30 : decode cX5_init 30 = .ok (.dup, 1) := by decide +kernel
theorem dX5_init_31 : decode cX5_init 31 = .ok (.aload_n 0, 1) := by decide +kernel
theorem dX5_init_32 : decode cX5_init 32 = .ok (.getfield 12, 3) := by decide +kernel
theorem dX5_init_35 : decode cX5_init 35 = .ok (.aload_n 0, 1) := by decide +kernel
theorem dX5_init_36 : decode cX5_init 36 = .ok (.getfield 19, 3) := by decide +kernel
theorem dX5_init_39 : decode cX5_init 39 = .ok (.invokespecial 25, 3) := by decide +kernel
theorem dX5_init_42 : decode cX5_init 42 = .ok (.putfield 28, 3) := by decide +kernel
theorem dX5_init_45 : decode cX5_init 45 = .ok (.aload_n 0, 1) := by decide +kernel
theorem dX5_init_46 : decode cX5_init 46 = .ok (.new 32, 3) := by decide +kernel
theorem dX5_init_49 : decode cX5_init 49 = .ok (.dup, 1) := by decide +kernel
theorem dX5_init_50 : decode cX5_init 50 = .ok (.aload_n 0, 1) := by decide +kernel
theorem dX5_init_51 : decode cX5_init 51 = .ok (.getfield 12, 3) := by decide +kernel
theorem dX5_init_54 : decode cX5_init 54 = .ok (.aload_n 0, 1) := by decide +kernel
theorem dX5_init_55 : decode cX5_init 55 = .ok (.getfield 19, 3) := by decide +kernel
theorem dX5_init_58 : decode cX5_init 58 = .ok (.invokespecial 34, 3) := by decide +kernel
theorem dX5_init_61 : decode cX5_init 61 = .ok (.putfield 35, 3) := by decide +kernel
theorem dX5_init_64 : decode cX5_init 64 = .ok (.aload_n 0, 1) := by decide +kernel
theorem dX5_init_65 : decode cX5_init 65 = .ok (.iconst 0, 1) := by decide +kernel
theorem dX5_init_66 : decode cX5_init 66 = .ok (.putfield 39, 3) := by decide +kernel
theorem dX5_init_69 : decode cX5_init 69 = .ok (.return_, 1) := by decide +kernel
theorem dX5_setCost_0 : decode cX5_setCost 0 = .ok (.aload_n 0, 1) := by decide +kernel
theorem dX5_setCost_1 : decode cX5_setCost 1 = .ok (.getfield 39, 3) := by decide +kernel
theorem dX5_setCost_4 : decode cX5_setCost 4 = .ok (.ifCond .ne 21, 3) := by decide +kernel
theorem dX5_setCost_7 : decode cX5_setCost 7 = .ok (.iload_n 1, 1) := by decide +kernel
theorem dX5_setCost_8 : decode cX5_setCost 8 = .ok (.invokestatic 43, 3) := by decide +kernel
theorem dX5_setCost_11 : decode cX5_setCost 11 = .ok (.ifCond .eq 14, 3) := by decide +kernel
theorem dX5_setCost_14 : decode cX5_setCost 14 = .ok (.iload_n 2, 1) := by decide +kernel
theorem dX5_setCost_15 : decode cX5_setCost 15 = .ok (.iconst 0, 1) := by decide +kernel
theorem dX5_setCost_16 : decode cX5_setCost 16 = .ok (.sipush 32767, 3) := by decide +kernel
theorem dX5_setCost_19 : decode cX5_setCost 19 = .ok (.invokestatic 47, 3) := by decide +kernel
theorem dX5_setCost_22 : decode cX5_setCost 22 = .ok (.ifCond .ne 5, 3) := by decide +kernel
theorem dX5_setCost_25 : decode cX5_setCost 25 = .ok (.iconst (-1), 1) := by decide +kernel
theorem dX5_setCost_26 : decode cX5_setCost 26 = .ok (.ireturn, 1) := by decide +kernel
theorem dX5_setCost_27 : decode cX5_setCost 27 = .ok (.aload_n 0, 1) := by decide +kernel
theorem dX5_setCost_28 : decode cX5_setCost 28 = .ok (.getfield 12, 3) := by decide +kernel
theorem dX5_setCost_31 : decode cX5_setCost 31 = .ok (.getfield 51, 3) := by decide +kernel
theorem dX5_setCost_34 : decode cX5_setCost 34 = .ok (.iload_n 1, 1) := by decide +kernel
theorem dX5_setCost_35 : decode cX5_setCost 35 = .ok (.iload_n 2, 1) := by decide +kernel
theorem dX5_setCost_36 : decode cX5_setCost 36 = .ok (.iastore, 1) := by decide +kernel
theorem dX5_setCost_37 : decode cX5_setCost 37 = .ok (.iconst 0, 1) := by decide +kernel
theorem dX5_setCost_38 : decode cX5_setCost 38 = .ok (.ireturn, 1) := by decide +kernel
theorem dX5_term_0 : decode cX5_term 0 = .ok (.aload_n 0, 1) := by decide +kernel
theorem dX5_term_1 : decode cX5_term 1 = .ok (.getfield 39, 3) := by decide +kernel
theorem dX5_term_4 : decode cX5_term 4 = .ok (.ifCond .ne 24, 3) := by decide +kernel
theorem dX5_term_7 : decode cX5_term 7 = .ok (.iload_n 1, 1) := by decide +kernel
theorem dX5_term_8 : decode cX5_term 8 = .ok (.iconst 1, 1) := by decide +kernel
theorem dX5_term_9 : decode cX5_term 9 = .ok (.sipush 32767, 3) := by decide +kernel
theorem dX5_term_12 : decode cX5_term 12 = .ok (.invokestatic 47, 3) := by decide +kernel
theorem dX5_term_15 : decode cX5_term 15 = .ok (.ifCond .eq 13, 3) := by decide +kernel
theorem dX5_term_18 : decode cX5_term 18 = .ok (.iload_n 2, 1) := by decide +kernel
theorem dX5_term_19 : decode cX5_term 19 = .ok (.invokestatic 55, 3) := by decide +kernel
theorem dX5_term_22 : decode cX5_term 22 = .ok (.invokestatic 43, 3) := by decide +kernel
theorem dX5_term_25 : decode cX5_term 25 = .ok (.ifCond .ne 5, 3) := by decide +kernel
theorem dX5_term_28 : decode cX5_term 28 = .ok (.iconst (-1), 1) := by decide +kernel
theorem dX5_term_29 : decode cX5_term 29 = .ok (.ireturn, 1) := by decide +kernel
theorem dX5_term_30 : decode cX5_term 30 = .ok (.aload_n 0, 1) := by decide +kernel
theorem dX5_term_31 : decode cX5_term 31 = .ok (.getfield 12, 3) := by decide +kernel
theorem dX5_term_34 : decode cX5_term 34 = .ok (.iload_n 1, 1) := by decide +kernel
theorem dX5_term_35 : decode cX5_term 35 = .ok (.iload_n 2, 1) := by decide +kernel
theorem dX5_term_36 : decode cX5_term 36 = .ok (.invokevirtual 59, 3) := by decide +kernel
theorem dX5_term_39 : decode cX5_term 39 = .ok (.ifCond .eq 7, 3) := by decide +kernel
theorem dX5_term_42 : decode cX5_term 42 = .ok (.iconst 0, 1) := by decide +kernel
theorem dX5_term_43 : decode cX5_term 43 = .ok (.goto 4, 3) := by decide +kernel
theorem dX5_term_46 : decode cX5_term 46 = .ok (.iconst (-1), 1) := by decide +kernel
theorem dX5_term_47 : decode cX5_term 47 = .ok (.ireturn, 1) := by decide +kernel
theorem dX5_end_0 : decode cX5_end 0 = .ok (.aload_n 0, 1) := by decide +kernel
theorem dX5_end_1 : decode cX5_end 1 = .ok (.getfield 39, 3) := by decide +kernel
theorem dX5_end_4 : decode cX5_end 4 = .ok (.ifCond .ne 13, 3) := by decide +kernel
theorem dX5_end_7 : decode cX5_end 7 = .ok (.iload_n 1, 1) := by decide +kernel
theorem dX5_end_8 : decode cX5_end 8 = .ok (.iconst 0, 1) := by decide +kernel
theorem dX5_end_9 : decode cX5_end 9 = .ok (.ldc 63, 2) := by decide +kernel
theorem dX5_end_11 : decode cX5_end 11 = .ok (.invokestatic 47, 3) := by decide +kernel
theorem dX5_end_14 : decode cX5_end 14 = .ok (.ifCond .ne 5, 3) := by decide +kernel
theorem dX5_end_17 : decode cX5_end 17 = .ok (.iconst (-1), 1) := by decide +kernel
theorem dX5_end_18 : decode cX5_end 18 = .ok (.ireturn, 1) := by decide +kernel
theorem dX5_end_19 : decode cX5_end 19 = .ok (.aload_n 0, 1) := by decide +kernel
theorem dX5_end_20 : decode cX5_end 20 = .ok (.getfield 12, 3) := by decide +kernel
theorem dX5_end_23 : decode cX5_end 23 = .ok (.iload_n 1, 1) := by decide +kernel
theorem dX5_end_24 : decode cX5_end 24 = .ok (.invokevirtual 64, 3) := by decide +kernel
theorem dX5_end_27 : decode cX5_end 27 = .ok (.ireturn, 1) := by decide +kernel
theorem dX5_run_0 : decode cX5_run 0 = .ok (.iload_n 1, 1) := by decide +kernel
theorem dX5_run_1 : decode cX5_run 1 = .ok (.iconst 1, 1) := by decide +kernel
theorem dX5_run_2 : decode cX5_run 2 = .ok (.sipush 2000, 3) := by decide +kernel
theorem dX5_run_5 : decode cX5_run 5 = .ok (.invokestatic 47, 3) := by decide +kernel
theorem dX5_run_8 : decode cX5_run 8 = .ok (.ifCond .ne 5, 3) := by decide +kernel
theorem dX5_run_11 : decode cX5_run 11 = .ok (.iconst (-1), 1) := by decide +kernel
theorem dX5_run_12 : decode cX5_run 12 = .ok (.ireturn, 1) := by decide +kernel
theorem dX5_run_13 : decode cX5_run 13 = .ok (.aload_n 0, 1) := by decide +kernel
theorem dX5_run_14 : decode cX5_run 14 = .ok (.iconst 1, 1) := by decide +kernel
theorem dX5_run_15 : decode cX5_run 15 = .ok (.putfield 39, 3) := by decide +kernel
theorem dX5_run_18 : decode cX5_run 18 = .ok (.aload_n 0, 1) := by decide +kernel
theorem dX5_run_19 : decode cX5_run 19 = .ok (.getfield 28, 3) := by decide +kernel
theorem dX5_run_22 : decode cX5_run 22 = .ok (.iload_n 1, 1) := by decide +kernel
theorem dX5_run_23 : decode cX5_run 23 = .ok (.invokevirtual 67, 3) := by decide +kernel
theorem dX5_run_26 : decode cX5_run 26 = .ok (.ireturn, 1) := by decide +kernel
theorem dX5_optimum_0 : decode cX5_optimum 0 = .ok (.aload_n 0, 1) := by decide +kernel
theorem dX5_optimum_1 : decode cX5_optimum 1 = .ok (.getfield 28, 3) := by decide +kernel
theorem dX5_optimum_4 : decode cX5_optimum 4 = .ok (.invokevirtual 70, 3) := by decide +kernel
theorem dX5_optimum_7 : decode cX5_optimum 7 = .ok (.ifCond .eq 13, 3) := by decide +kernel
theorem dX5_optimum_10 : decode cX5_optimum 10 = .ok (.aload_n 0, 1) := by decide +kernel
theorem dX5_optimum_11 : decode cX5_optimum 11 = .ok (.getfield 28, 3) := by decide +kernel
theorem dX5_optimum_14 : decode cX5_optimum 14 = .ok (.getfield 74, 3) := by decide +kernel
theorem dX5_optimum_17 : decode cX5_optimum 17 = .ok (.goto 5, 3) := by decide +kernel
theorem dX5_optimum_20 : decode cX5_optimum 20 = .ok (.bipush (-3), 2) := by decide +kernel
theorem dX5_optimum_22 : decode cX5_optimum 22 = .ok (.ireturn, 1) := by decide +kernel
theorem dX5_value_0 : decode cX5_value 0 = .ok (.iload_n 1, 1) := by decide +kernel
theorem dX5_value_1 : decode cX5_value 1 = .ok (.invokestatic 43, 3) := by decide +kernel
theorem dX5_value_4 : decode cX5_value 4 = .ok (.ifCond .eq 14, 3) := by decide +kernel
theorem dX5_value_7 : decode cX5_value 7 = .ok (.aload_n 0, 1) := by decide +kernel
theorem dX5_value_8 : decode cX5_value 8 = .ok (.getfield 28, 3) := by decide +kernel
theorem dX5_value_11 : decode cX5_value 11 = .ok (.getfield 74, 3) := by decide +kernel
theorem dX5_value_14 : decode cX5_value 14 = .ok (.iconst (-1), 1) := by decide +kernel
theorem dX5_value_15 : decode cX5_value 15 = .ok (.if_icmp .ne 5, 3) := by decide +kernel
theorem dX5_value_18 : decode cX5_value 18 = .ok (.iconst (-1), 1) := by decide +kernel
theorem dX5_value_19 : decode cX5_value 19 = .ok (.ireturn, 1) := by decide +kernel
theorem dX5_value_20 : decode cX5_value 20 = .ok (.aload_n 0, 1) := by decide +kernel
theorem dX5_value_21 : decode cX5_value 21 = .ok (.getfield 28, 3) := by decide +kernel
theorem dX5_value_24 : decode cX5_value 24 = .ok (.getfield 78, 3) := by decide +kernel
theorem dX5_value_27 : decode cX5_value 27 = .ok (.iload_n 1, 1) := by decide +kernel
theorem dX5_value_28 : decode cX5_value 28 = .ok (.invokestatic 81, 3) := by decide +kernel
theorem dX5_value_31 : decode cX5_value 31 = .ok (.iand, 1) := by decide +kernel
theorem dX5_value_32 : decode cX5_value 32 = .ok (.ifCond .eq 7, 3) := by decide +kernel
theorem dX5_value_35 : decode cX5_value 35 = .ok (.iconst 1, 1) := by decide +kernel
theorem dX5_value_36 : decode cX5_value 36 = .ok (.goto 4, 3) := by decide +kernel
theorem dX5_value_39 : decode cX5_value 39 = .ok (.iconst 0, 1) := by decide +kernel
theorem dX5_value_40 : decode cX5_value 40 = .ok (.ireturn, 1) := by decide +kernel
theorem dX5_logSize_0 : decode cX5_logSize 0 = .ok (.aload_n 0, 1) := by decide +kernel
theorem dX5_logSize_1 : decode cX5_logSize 1 = .ok (.getfield 19, 3) := by decide +kernel
theorem dX5_logSize_4 : decode cX5_logSize 4 = .ok (.getfield 84, 3) := by decide +kernel
theorem dX5_logSize_7 : decode cX5_logSize 7 = .ok (.ireturn, 1) := by decide +kernel
theorem dX5_logAt_0 : decode cX5_logAt 0 = .ok (.aload_n 0, 1) := by decide +kernel
theorem dX5_logAt_1 : decode cX5_logAt 1 = .ok (.getfield 19, 3) := by decide +kernel
theorem dX5_logAt_4 : decode cX5_logAt 4 = .ok (.iload_n 1, 1) := by decide +kernel
theorem dX5_logAt_5 : decode cX5_logAt 5 = .ok (.invokevirtual 87, 3) := by decide +kernel
theorem dX5_logAt_8 : decode cX5_logAt 8 = .ok (.ireturn, 1) := by decide +kernel
theorem dX5_poke_0 : decode cX5_poke 0 = .ok (.aload_n 0, 1) := by decide +kernel
theorem dX5_poke_1 : decode cX5_poke 1 = .ok (.getfield 28, 3) := by decide +kernel
theorem dX5_poke_4 : decode cX5_poke 4 = .ok (.invokevirtual 70, 3) := by decide +kernel
theorem dX5_poke_7 : decode cX5_poke 7 = .ok (.ifCond .eq 15, 3) := by decide +kernel
theorem dX5_poke_10 : decode cX5_poke 10 = .ok (.aload_n 0, 1) := by decide +kernel
theorem dX5_poke_11 : decode cX5_poke 11 = .ok (.getfield 19, 3) := by decide +kernel
theorem dX5_poke_14 : decode cX5_poke 14 = .ok (.iload_n 1, 1) := by decide +kernel
theorem dX5_poke_15 : decode cX5_poke 15 = .ok (.iload_n 2, 1) := by decide +kernel
theorem dX5_poke_16 : decode cX5_poke 16 = .ok (.invokevirtual 90, 3) := by decide +kernel
theorem dX5_poke_19 : decode cX5_poke 19 = .ok (.ifCond .ne 5, 3) := by decide +kernel
theorem dX5_poke_22 : decode cX5_poke 22 = .ok (.iconst (-1), 1) := by decide +kernel
theorem dX5_poke_23 : decode cX5_poke 23 = .ok (.ireturn, 1) := by decide +kernel
theorem dX5_poke_24 : decode cX5_poke 24 = .ok (.aload_n 0, 1) := by decide +kernel
theorem dX5_poke_25 : decode cX5_poke 25 = .ok (.getfield 35, 3) := by decide +kernel
theorem dX5_poke_28 : decode cX5_poke 28 = .ok (.invokevirtual 93, 3) := by decide +kernel
theorem dX5_poke_31 : decode cX5_poke 31 = .ok (.iconst 0, 1) := by decide +kernel
theorem dX5_poke_32 : decode cX5_poke 32 = .ok (.ireturn, 1) := by decide +kernel
theorem dX5_cut_0 : decode cX5_cut 0 = .ok (.aload_n 0, 1) := by decide +kernel
theorem dX5_cut_1 : decode cX5_cut 1 = .ok (.getfield 28, 3) := by decide +kernel
theorem dX5_cut_4 : decode cX5_cut 4 = .ok (.invokevirtual 70, 3) := by decide +kernel
theorem dX5_cut_7 : decode cX5_cut 7 = .ok (.ifCond .eq 14, 3) := by decide +kernel
theorem dX5_cut_10 : decode cX5_cut 10 = .ok (.aload_n 0, 1) := by decide +kernel
theorem dX5_cut_11 : decode cX5_cut 11 = .ok (.getfield 19, 3) := by decide +kernel
theorem dX5_cut_14 : decode cX5_cut 14 = .ok (.iload_n 1, 1) := by decide +kernel
theorem dX5_cut_15 : decode cX5_cut 15 = .ok (.invokevirtual 96, 3) := by decide +kernel
theorem dX5_cut_18 : decode cX5_cut 18 = .ok (.ifCond .ne 5, 3) := by decide +kernel
theorem dX5_cut_21 : decode cX5_cut 21 = .ok (.iconst (-1), 1) := by decide +kernel
theorem dX5_cut_22 : decode cX5_cut 22 = .ok (.ireturn, 1) := by decide +kernel
theorem dX5_cut_23 : decode cX5_cut 23 = .ok (.aload_n 0, 1) := by decide +kernel
theorem dX5_cut_24 : decode cX5_cut 24 = .ok (.getfield 35, 3) := by decide +kernel
theorem dX5_cut_27 : decode cX5_cut 27 = .ok (.invokevirtual 93, 3) := by decide +kernel
theorem dX5_cut_30 : decode cX5_cut 30 = .ok (.iconst 0, 1) := by decide +kernel
theorem dX5_cut_31 : decode cX5_cut 31 = .ok (.ireturn, 1) := by decide +kernel
theorem dX5_check_0 : decode cX5_check 0 = .ok (.aload_n 0, 1) := by decide +kernel
theorem dX5_check_1 : decode cX5_check 1 = .ok (.getfield 28, 3) := by decide +kernel
theorem dX5_check_4 : decode cX5_check 4 = .ok (.invokevirtual 70, 3) := by decide +kernel
theorem dX5_check_7 : decode cX5_check 7 = .ok (.ifCond .ne 6, 3) := by decide +kernel
theorem dX5_check_10 : decode cX5_check 10 = .ok (.bipush (-3), 2) := by decide +kernel
theorem dX5_check_12 : decode cX5_check 12 = .ok (.ireturn, 1) := by decide +kernel
theorem dX5_check_13 : decode cX5_check 13 = .ok (.iload_n 1, 1) := by decide +kernel
theorem dX5_check_14 : decode cX5_check 14 = .ok (.iconst 1, 1) := by decide +kernel
theorem dX5_check_15 : decode cX5_check 15 = .ok (.sipush 2000, 3) := by decide +kernel
theorem dX5_check_18 : decode cX5_check 18 = .ok (.invokestatic 47, 3) := by decide +kernel
theorem dX5_check_21 : decode cX5_check 21 = .ok (.ifCond .ne 5, 3) := by decide +kernel
theorem dX5_check_24 : decode cX5_check 24 = .ok (.iconst (-1), 1) := by decide +kernel
theorem dX5_check_25 : decode cX5_check 25 = .ok (.ireturn, 1) := by decide +kernel
theorem dX5_check_26 : decode cX5_check 26 = .ok (.aload_n 0, 1) := by decide +kernel
theorem dX5_check_27 : decode cX5_check 27 = .ok (.getfield 35, 3) := by decide +kernel
theorem dX5_check_30 : decode cX5_check 30 = .ok (.iload_n 1, 1) := by decide +kernel
theorem dX5_check_31 : decode cX5_check 31 = .ok (.invokevirtual 99, 3) := by decide +kernel
theorem dX5_check_34 : decode cX5_check 34 = .ok (.ireturn, 1) := by decide +kernel
theorem dX5_steps_0 : decode cX5_steps 0 = .ok (.aload_n 0, 1) := by decide +kernel
theorem dX5_steps_1 : decode cX5_steps 1 = .ok (.getfield 28, 3) := by decide +kernel
theorem dX5_steps_4 : decode cX5_steps 4 = .ok (.getfield 102, 3) := by decide +kernel
theorem dX5_steps_7 : decode cX5_steps 7 = .ok (.ireturn, 1) := by decide +kernel
theorem dX5_isWithin_0 : decode cX5_isWithin 0 = .ok (.iload_n 0, 1) := by decide +kernel
theorem dX5_isWithin_1 : decode cX5_isWithin 1 = .ok (.iload_n 1, 1) := by decide +kernel
theorem dX5_isWithin_2 : decode cX5_isWithin 2 = .ok (.if_icmp .lt 12, 3) := by decide +kernel
theorem dX5_isWithin_5 : decode cX5_isWithin 5 = .ok (.iload_n 0, 1) := by decide +kernel
theorem dX5_isWithin_6 : decode cX5_isWithin 6 = .ok (.iload_n 2, 1) := by decide +kernel
theorem dX5_isWithin_7 : decode cX5_isWithin 7 = .ok (.if_icmp .gt 7, 3) := by decide +kernel
theorem dX5_isWithin_10 : decode cX5_isWithin 10 = .ok (.iconst 1, 1) := by decide +kernel
theorem dX5_isWithin_11 : decode cX5_isWithin 11 = .ok (.goto 4, 3) := by decide +kernel
theorem dX5_isWithin_14 : decode cX5_isWithin 14 = .ok (.iconst 0, 1) := by decide +kernel
theorem dX5_isWithin_15 : decode cX5_isWithin 15 = .ok (.ireturn, 1) := by decide +kernel
theorem dX5_isVariable_0 : decode cX5_isVariable 0 = .ok (.iload_n 0, 1) := by decide +kernel
theorem dX5_isVariable_1 : decode cX5_isVariable 1 = .ok (.iconst 1, 1) := by decide +kernel
theorem dX5_isVariable_2 : decode cX5_isVariable 2 = .ok (.bipush 16, 2) := by decide +kernel
theorem dX5_isVariable_4 : decode cX5_isVariable 4 = .ok (.invokestatic 47, 3) := by decide +kernel
theorem dX5_isVariable_7 : decode cX5_isVariable 7 = .ok (.ireturn, 1) := by decide +kernel
theorem dX5_variableOf_0 : decode cX5_variableOf 0 = .ok (.iload_n 0, 1) := by decide +kernel
theorem dX5_variableOf_1 : decode cX5_variableOf 1 = .ok (.ifCond .ge 8, 3) := by decide +kernel
theorem dX5_variableOf_4 : decode cX5_variableOf 4 = .ok (.iload_n 0, 1) := by decide +kernel
theorem dX5_variableOf_5 : decode cX5_variableOf 5 = .ok (.ineg, 1) := by decide +kernel
theorem dX5_variableOf_6 : decode cX5_variableOf 6 = .ok (.goto 4, 3) := by decide +kernel
theorem dX5_variableOf_9 : decode cX5_variableOf 9 = .ok (.iload_n 0, 1) := by decide +kernel
theorem dX5_variableOf_10 : decode cX5_variableOf 10 = .ok (.ireturn, 1) := by decide +kernel
theorem dX5_bitOf_0 : decode cX5_bitOf 0 = .ok (.iconst 1, 1) := by decide +kernel
theorem dX5_bitOf_1 : decode cX5_bitOf 1 = .ok (.iload_n 0, 1) := by decide +kernel
theorem dX5_bitOf_2 : decode cX5_bitOf 2 = .ok (.iconst 1, 1) := by decide +kernel
theorem dX5_bitOf_3 : decode cX5_bitOf 3 = .ok (.isub, 1) := by decide +kernel
theorem dX5_bitOf_4 : decode cX5_bitOf 4 = .ok (.ishl, 1) := by decide +kernel
theorem dX5_bitOf_5 : decode cX5_bitOf 5 = .ok (.ireturn, 1) := by decide +kernel
theorem dX5_limitBelow_0 : decode cX5_limitBelow 0 = .ok (.iload_n 0, 1) := by decide +kernel
theorem dX5_limitBelow_1 : decode cX5_limitBelow 1 = .ok (.iconst (-1), 1) := by decide +kernel
theorem dX5_limitBelow_2 : decode cX5_limitBelow 2 = .ok (.if_icmp .ne 8, 3) := by decide +kernel
theorem dX5_limitBelow_5 : decode cX5_limitBelow 5 = .ok (.ldc 105, 2) := by decide +kernel
theorem dX5_limitBelow_7 : decode cX5_limitBelow 7 = .ok (.goto 6, 3) := by decide +kernel
theorem dX5_limitBelow_10 : decode cX5_limitBelow 10 = .ok (.iload_n 0, 1) := by decide +kernel
theorem dX5_limitBelow_11 : decode cX5_limitBelow 11 = .ok (.iconst 1, 1) := by decide +kernel
theorem dX5_limitBelow_12 : decode cX5_limitBelow 12 = .ok (.isub, 1) := by decide +kernel
theorem dX5_limitBelow_13 : decode cX5_limitBelow 13 = .ok (.ireturn, 1) := by decide +kernel
theorem dX6_init_0 : decode cX6_init 0 = .ok (.aload_n 0, 1) := by decide +kernel
theorem dX6_init_1 : decode cX6_init 1 = .ok (.invokespecial 1, 3) := by decide +kernel
theorem dX6_init_4 : decode cX6_init 4 = .ok (.aload_n 0, 1) := by decide +kernel
theorem dX6_init_5 : decode cX6_init 5 = .ok (.bipush 17, 2) := by decide +kernel
theorem dX6_init_7 : decode cX6_init 7 = .ok (.newarray .int, 2) := by decide +kernel
theorem dX6_init_9 : decode cX6_init 9 = .ok (.putfield 7, 3) := by decide +kernel
theorem dX6_init_12 : decode cX6_init 12 = .ok (.aload_n 0, 1) := by decide +kernel
theorem dX6_init_13 : decode cX6_init 13 = .ok (.bipush 120, 2) := by decide +kernel
theorem dX6_init_15 : decode cX6_init 15 = .ok (.newarray .int, 2) := by decide +kernel
theorem dX6_init_17 : decode cX6_init 17 = .ok (.putfield 13, 3) := by decide +kernel
theorem dX6_init_20 : decode cX6_init 20 = .ok (.aload_n 0, 1) := by decide +kernel
theorem dX6_init_21 : decode cX6_init 21 = .ok (.bipush 120, 2) := by decide +kernel
theorem dX6_init_23 : decode cX6_init 23 = .ok (.newarray .int, 2) := by decide +kernel
theorem dX6_init_25 : decode cX6_init 25 = .ok (.putfield 16, 3) := by decide +kernel
theorem dX6_init_28 : decode cX6_init 28 = .ok (.aload_n 0, 1) := by decide +kernel
theorem dX6_init_29 : decode cX6_init 29 = .ok (.bipush 22, 2) := by decide +kernel
theorem dX6_init_31 : decode cX6_init 31 = .ok (.newarray .int, 2) := by decide +kernel
theorem dX6_init_33 : decode cX6_init 33 = .ok (.putfield 19, 3) := by decide +kernel
theorem dX6_init_36 : decode cX6_init 36 = .ok (.aload_n 0, 1) := by decide +kernel
theorem dX6_init_37 : decode cX6_init 37 = .ok (.bipush 21, 2) := by decide +kernel
theorem dX6_init_39 : decode cX6_init 39 = .ok (.newarray .int, 2) := by decide +kernel
theorem dX6_init_41 : decode cX6_init 41 = .ok (.putfield 22, 3) := by decide +kernel
theorem dX6_init_44 : decode cX6_init 44 = .ok (.aload_n 0, 1) := by decide +kernel
theorem dX6_init_45 : decode cX6_init 45 = .ok (.bipush 16, 2) := by decide +kernel
theorem dX6_init_47 : decode cX6_init 47 = .ok (.newarray .int, 2) := by decide +kernel
theorem dX6_init_49 : decode cX6_init 49 = .ok (.putfield 25, 3) := by decide +kernel
theorem dX6_init_52 : decode cX6_init 52 = .ok (.aload_n 0, 1) := by decide +kernel
theorem dX6_init_53 : decode cX6_init 53 = .ok (.bipush 16, 2) := by decide +kernel
theorem dX6_init_55 : decode cX6_init 55 = .ok (.newarray .boolean, 2) := by decide +kernel
theorem dX6_init_57 : decode cX6_init 57 = .ok (.putfield 28, 3) := by decide +kernel
theorem dX6_init_60 : decode cX6_init 60 = .ok (.aload_n 0, 1) := by decide +kernel
theorem dX6_init_61 : decode cX6_init 61 = .ok (.iconst (-1), 1) := by decide +kernel
theorem dX6_init_62 : decode cX6_init 62 = .ok (.putfield 32, 3) := by decide +kernel
theorem dX6_init_65 : decode cX6_init 65 = .ok (.aload_n 0, 1) := by decide +kernel
theorem dX6_init_66 : decode cX6_init 66 = .ok (.sipush 401, 3) := by decide +kernel
theorem dX6_init_69 : decode cX6_init 69 = .ok (.newarray .int, 2) := by decide +kernel
theorem dX6_init_71 : decode cX6_init 71 = .ok (.putfield 36, 3) := by decide +kernel
theorem dX6_init_74 : decode cX6_init 74 = .ok (.aload_n 0, 1) := by decide +kernel
theorem dX6_init_75 : decode cX6_init 75 = .ok (.iconst 2, 1) := by decide +kernel
theorem dX6_init_76 : decode cX6_init 76 = .ok (.putfield 39, 3) := by decide +kernel
theorem dX6_init_79 : decode cX6_init 79 = .ok (.aload_n 0, 1) := by decide +kernel
theorem dX6_init_80 : decode cX6_init 80 = .ok (.sipush 402, 3) := by decide +kernel
theorem dX6_init_83 : decode cX6_init 83 = .ok (.newarray .int, 2) := by decide +kernel
theorem dX6_init_85 : decode cX6_init 85 = .ok (.putfield 42, 3) := by decide +kernel
theorem dX6_init_88 : decode cX6_init 88 = .ok (.aload_n 0, 1) := by decide +kernel
theorem dX6_init_89 : decode cX6_init 89 = .ok (.sipush 402, 3) := by decide +kernel
theorem dX6_init_92 : decode cX6_init 92 = .ok (.newarray .int, 2) := by decide +kernel
theorem dX6_init_94 : decode cX6_init 94 = .ok (.putfield 45, 3) := by decide +kernel
theorem dX6_init_97 : decode cX6_init 97 = .ok (.aload_n 0, 1) := by decide +kernel
theorem dX6_init_98 : decode cX6_init 98 = .ok (.sipush 402, 3) := by decide +kernel
theorem dX6_init_101 : decode cX6_init 101 = .ok (.newarray .boolean, 2) := by decide +kernel
theorem dX6_init_103 : decode cX6_init 103 = .ok (.putfield 48, 3) := by decide +kernel
theorem dX6_init_106 : decode cX6_init 106 = .ok (.return_, 1) := by decide +kernel
theorem dX6_isIn_0 : decode cX6_isIn 0 = .ok (.iload_n 0, 1) := by decide +kernel
theorem dX6_isIn_1 : decode cX6_isIn 1 = .ok (.iload_n 1, 1) := by decide +kernel
theorem dX6_isIn_2 : decode cX6_isIn 2 = .ok (.if_icmp .lt 12, 3) := by decide +kernel
theorem dX6_isIn_5 : decode cX6_isIn 5 = .ok (.iload_n 0, 1) := by decide +kernel
theorem dX6_isIn_6 : decode cX6_isIn 6 = .ok (.iload_n 2, 1) := by decide +kernel
theorem dX6_isIn_7 : decode cX6_isIn 7 = .ok (.if_icmp .gt 7, 3) := by decide +kernel
theorem dX6_isIn_10 : decode cX6_isIn 10 = .ok (.iconst 1, 1) := by decide +kernel
theorem dX6_isIn_11 : decode cX6_isIn 11 = .ok (.goto 4, 3) := by decide +kernel
theorem dX6_isIn_14 : decode cX6_isIn 14 = .ok (.iconst 0, 1) := by decide +kernel
theorem dX6_isIn_15 : decode cX6_isIn 15 = .ok (.ireturn, 1) := by decide +kernel
theorem dX6_setCost_0 : decode cX6_setCost 0 = .ok (.aload_n 0, 1) := by decide +kernel
theorem dX6_setCost_1 : decode cX6_setCost 1 = .ok (.getfield 54, 3) := by decide +kernel
theorem dX6_setCost_4 : decode cX6_setCost 4 = .ok (.ifCond .ne 24, 3) := by decide +kernel
theorem dX6_setCost_7 : decode cX6_setCost 7 = .ok (.iload_n 1, 1) := by decide +kernel
theorem dX6_setCost_8 : decode cX6_setCost 8 = .ok (.iconst 1, 1) := by decide +kernel
theorem dX6_setCost_9 : decode cX6_setCost 9 = .ok (.bipush 16, 2) := by decide +kernel
theorem dX6_setCost_11 : decode cX6_setCost 11 = .ok (.invokestatic 58, 3) := by decide +kernel
theorem dX6_setCost_14 : decode cX6_setCost 14 = .ok (.ifCond .eq 14, 3) := by decide +kernel
theorem dX6_setCost_17 : decode cX6_setCost 17 = .ok (.iload_n 2, 1) := by decide +kernel
theorem dX6_setCost_18 : decode cX6_setCost 18 = .ok (.iconst 0, 1) := by decide +kernel
theorem dX6_setCost_19 : decode cX6_setCost 19 = .ok (.sipush 32767, 3) := by decide +kernel
theorem dX6_setCost_22 : decode cX6_setCost 22 = .ok (.invokestatic 58, 3) := by decide +kernel
theorem dX6_setCost_25 : decode cX6_setCost 25 = .ok (.ifCond .ne 5, 3) := by decide +kernel
theorem dX6_setCost_28 : decode cX6_setCost 28 = .ok (.iconst (-1), 1) := by decide +kernel
theorem dX6_setCost_29 : decode cX6_setCost 29 = .ok (.ireturn, 1) := by decide +kernel
theorem dX6_setCost_30 : decode cX6_setCost 30 = .ok (.aload_n 0, 1) := by decide +kernel
theorem dX6_setCost_31 : decode cX6_setCost 31 = .ok (.getfield 7, 3) := by decide +kernel
theorem dX6_setCost_34 : decode cX6_setCost 34 = .ok (.iload_n 1, 1) := by decide +kernel
theorem dX6_setCost_35 : decode cX6_setCost 35 = .ok (.iload_n 2, 1) := by decide +kernel
theorem dX6_setCost_36 : decode cX6_setCost 36 = .ok (.iastore, 1) := by decide +kernel
theorem dX6_setCost_37 : decode cX6_setCost 37 = .ok (.iconst 0, 1) := by decide +kernel
theorem dX6_setCost_38 : decode cX6_setCost 38 = .ok (.ireturn, 1) := by decide +kernel
theorem dX6_term_0 : decode cX6_term 0 = .ok (.iload_n 2, 1) := by decide +kernel
theorem dX6_term_1 : decode cX6_term 1 = .ok (.ifCond .ge 8, 3) := by decide +kernel
theorem dX6_term_4 : decode cX6_term 4 = .ok (.iload_n 2, 1) := by decide +kernel
theorem dX6_term_5 : decode cX6_term 5 = .ok (.ineg, 1) := by decide +kernel
theorem dX6_term_6 : decode cX6_term 6 = .ok (.goto 4, 3) := by decide +kernel
theorem dX6_term_9 : decode cX6_term 9 = .ok (.iload_n 2, 1) := by decide +kernel
theorem dX6_term_10 : decode cX6_term 10 = .ok (.istore_n 3, 1) := by decide +kernel
theorem dX6_term_11 : decode cX6_term 11 = .ok (.aload_n 0, 1) := by decide +kernel
theorem dX6_term_12 : decode cX6_term 12 = .ok (.getfield 54, 3) := by decide +kernel
theorem dX6_term_15 : decode cX6_term 15 = .ok (.ifCond .ne 46, 3) := by decide +kernel
theorem dX6_term_18 : decode cX6_term 18 = .ok (.iload_n 1, 1) := by decide +kernel
theorem dX6_term_19 : decode cX6_term 19 = .ok (.iconst 1, 1) := by decide +kernel
theorem dX6_term_20 : decode cX6_term 20 = .ok (.sipush 32767, 3) := by decide +kernel
theorem dX6_term_23 : decode cX6_term 23 = .ok (.invokestatic 58, 3) := by decide +kernel
theorem dX6_term_26 : decode cX6_term 26 = .ok (.ifCond .eq 35, 3) := by decide +kernel
theorem dX6_term_29 : decode cX6_term 29 = .ok (.iload_n 3, 1) := by decide +kernel
theorem dX6_term_30 : decode cX6_term 30 = .ok (.iconst 1, 1) := by decide +kernel
theorem dX6_term_31 : decode cX6_term 31 = .ok (.bipush 16, 2) := by decide +kernel
theorem dX6_term_33 : decode cX6_term 33 = .ok (.invokestatic 58, 3) := by decide +kernel
theorem dX6_term_36 : decode cX6_term 36 = .ok (.ifCond .eq 25, 3) := by decide +kernel
theorem dX6_term_39 : decode cX6_term 39 = .ok (.aload_n 0, 1) := by decide +kernel
theorem dX6_term_40 : decode cX6_term 40 = .ok (.getfield 62, 3) := by decide +kernel
theorem dX6_term_43 : decode cX6_term 43 = .ok (.bipush 120, 2) := by decide +kernel
theorem dX6_term_45 : decode cX6_term 45 = .ok (.if_icmp .ge 16, 3) := by decide +kernel
theorem dX6_term_48 : decode cX6_term 48 = .ok (.aload_n 0, 1) := by decide +kernel
theorem dX6_term_49 : decode cX6_term 49 = .ok (.getfield 65, 3) := by decide +kernel
theorem dX6_term_52 : decode cX6_term 52 = .ok (.bipush 20, 2) := by decide +kernel
theorem dX6_term_54 : decode cX6_term 54 = .ok (.if_icmp .ge 7, 3) := by decide +kernel
theorem dX6_term_57 : decode cX6_term 57 = .ok (.iconst 1, 1) := by decide +kernel
theorem dX6_term_58 : decode cX6_term 58 = .ok (.goto 4, 3) := by decide +kernel
theorem dX6_term_61 : decode cX6_term 61 = .ok (.iconst 0, 1) := by decide +kernel
theorem dX6_term_62 : decode cX6_term 62 = .ok (.istore 4, 2) := by decide +kernel
theorem dX6_term_64 : decode cX6_term 64 = .ok (.aload_n 0, 1) := by decide +kernel
theorem dX6_term_65 : decode cX6_term 65 = .ok (.getfield 19, 3) := by decide +kernel
theorem dX6_term_68 : decode cX6_term 68 = .ok (.aload_n 0, 1) := by decide +kernel
theorem dX6_term_69 : decode cX6_term 69 = .ok (.getfield 65, 3) := by decide +kernel
theorem dX6_term_72 : decode cX6_term 72 = .ok (.iaload, 1) := by decide +kernel
theorem dX6_term_73 : decode cX6_term 73 = .ok (.istore 5, 2) := by decide +kernel
theorem dX6_term_75 : decode cX6_term 75 = .ok (.iload 4, 2) := by decide +kernel
theorem dX6_term_77 : decode cX6_term 77 = .ok (.ifCond .eq 48, 3) := by decide +kernel
theorem dX6_term_80 : decode cX6_term 80 = .ok (.iload 5, 2) := by decide +kernel
theorem dX6_term_82 : decode cX6_term 82 = .ok (.aload_n 0, 1) := by decide +kernel
theorem dX6_term_83 : decode cX6_term 83 = .ok (.getfield 62, 3) := by decide +kernel
theorem dX6_term_86 : decode cX6_term 86 = .ok (.if_icmp .ge 39, 3) := by decide +kernel
theorem dX6_term_89 : decode cX6_term 89 = .ok (.aload_n 0, 1) := by decide +kernel
theorem dX6_term_90 : decode cX6_term 90 = .ok (.getfield 16, 3) := by decide +kernel
theorem dX6_term_93 : decode cX6_term 93 = .ok (.iload 5, 2) := by decide +kernel
theorem dX6_term_95 : decode cX6_term 95 = .ok (.iaload, 1) := by decide +kernel
theorem dX6_term_96 : decode cX6_term 96 = .ok (.iload_n 2, 1) := by decide +kernel
theorem dX6_term_97 : decode cX6_term 97 = .ok (.if_icmp .eq 19, 3) := by decide +kernel
theorem dX6_term_100 : decode cX6_term 100 = .ok (.aload_n 0, 1) := by decide +kernel
theorem dX6_term_101 : decode cX6_term 101 = .ok (.getfield 16, 3) := by decide +kernel
theorem dX6_term_104 : decode cX6_term 104 = .ok (.iload 5, 2) := by decide +kernel
theorem dX6_term_106 : decode cX6_term 106 = .ok (.iaload, 1) := by decide +kernel
theorem dX6_term_107 : decode cX6_term 107 = .ok (.iload_n 2, 1) := by decide +kernel
theorem dX6_term_108 : decode cX6_term 108 = .ok (.ineg, 1) := by decide +kernel
theorem dX6_term_109 : decode cX6_term 109 = .ok (.if_icmp .eq 7, 3) := by decide +kernel
theorem dX6_term_112 : decode cX6_term 112 = .ok (.iconst 1, 1) := by decide +kernel
theorem dX6_term_113 : decode cX6_term 113 = .ok (.goto 4, 3) := by decide +kernel
theorem dX6_term_116 : decode cX6_term 116 = .ok (.iconst 0, 1) := by decide +kernel
theorem dX6_term_117 : decode cX6_term 117 = .ok (.istore 4, 2) := by decide +kernel
theorem dX6_term_119 : decode cX6_term 119 = .ok (.iinc 5 1, 3) := by decide +kernel
theorem dX6_term_122 : decode cX6_term 122 = .ok (.goto (-47), 3) := by decide +kernel
theorem dX6_term_125 : decode cX6_term 125 = .ok (.iload 4, 2) := by decide +kernel
theorem dX6_term_127 : decode cX6_term 127 = .ok (.ifCond .ne 5, 3) := by decide +kernel
theorem dX6_term_130 : decode cX6_term 130 = .ok (.iconst (-1), 1) := by decide +kernel
theorem dX6_term_131 : decode cX6_term 131 = .ok (.ireturn, 1) := by decide +kernel
theorem dX6_term_132 : decode cX6_term 132 = .ok (.aload_n 0, 1) := by decide +kernel
theorem dX6_term_133 : decode cX6_term 133 = .ok (.getfield 13, 3) := by decide +kernel
theorem dX6_term_136 : decode cX6_term 136 = .ok (.aload_n 0, 1) := by decide +kernel
theorem dX6_term_137 : decode cX6_term 137 = .ok (.getfield 62, 3) := by decide +kernel
theorem dX6_term_140 : decode cX6_term 140 = .ok (.iload_n 1, 1) := by decide +kernel
theorem dX6_term_141 : decode cX6_term 141 = .ok (.iastore, 1) := by decide +kernel
theorem dX6_term_142 : decode cX6_term 142 = .ok (.aload_n 0, 1) := by decide +kernel
theorem dX6_term_143 : decode cX6_term 143 = .ok (.getfield 16, 3) := by decide +kernel
theorem dX6_term_146 : decode cX6_term 146 = .ok (.aload_n 0, 1) := by decide +kernel
theorem dX6_term_147 : decode cX6_term 147 = .ok (.getfield 62, 3) := by decide +kernel
theorem dX6_term_150 : decode cX6_term 150 = .ok (.iload_n 2, 1) := by decide +kernel
theorem dX6_term_151 : decode cX6_term 151 = .ok (.iastore, 1) := by decide +kernel
theorem dX6_term_152 : decode cX6_term 152 = .ok (.aload_n 0, 1) := by decide +kernel
theorem dX6_term_153 : decode cX6_term 153 = .ok (.dup, 1) := by decide +kernel
theorem dX6_term_154 : decode cX6_term 154 = .ok (.getfield 62, 3) := by decide +kernel
theorem dX6_term_157 : decode cX6_term 157 = .ok (.iconst 1, 1) := by decide +kernel
theorem dX6_term_158 : decode cX6_term 158 = .ok (.iadd, 1) := by decide +kernel
theorem dX6_term_159 : decode cX6_term 159 = .ok (.putfield 62, 3) := by decide +kernel
theorem dX6_term_162 : decode cX6_term 162 = .ok (.iconst 0, 1) := by decide +kernel
theorem dX6_term_163 : decode cX6_term 163 = .ok (.ireturn, 1) := by decide +kernel
theorem dX6_end_0 : decode cX6_end 0 = .ok (.aload_n 0, 1) := by decide +kernel
theorem dX6_end_1 : decode cX6_end 1 = .ok (.getfield 54, 3) := by decide +kernel
theorem dX6_end_4 : decode cX6_end 4 = .ok (.ifCond .ne 22, 3) := by decide +kernel
theorem dX6_end_7 : decode cX6_end 7 = .ok (.iload_n 1, 1) := by decide +kernel
theorem dX6_end_8 : decode cX6_end 8 = .ok (.iconst 0, 1) := by decide +kernel
theorem dX6_end_9 : decode cX6_end 9 = .ok (.ldc 68, 2) := by decide +kernel
theorem dX6_end_11 : decode cX6_end 11 = .ok (.invokestatic 58, 3) := by decide +kernel
theorem dX6_end_14 : decode cX6_end 14 = .ok (.ifCond .eq 12, 3) := by decide +kernel
theorem dX6_end_17 : decode cX6_end 17 = .ok (.aload_n 0, 1) := by decide +kernel
theorem dX6_end_18 : decode cX6_end 18 = .ok (.getfield 65, 3) := by decide +kernel
theorem dX6_end_21 : decode cX6_end 21 = .ok (.bipush 20, 2) := by decide +kernel
theorem dX6_end_23 : decode cX6_end 23 = .ok (.if_icmp .ne 5, 3) := by decide +kernel
theorem dX6_end_26 : decode cX6_end 26 = .ok (.iconst (-1), 1) := by decide +kernel
theorem dX6_end_27 : decode cX6_end 27 = .ok (.ireturn, 1) := by decide +kernel
theorem dX6_end_28 : decode cX6_end 28 = .ok (.aload_n 0, 1) := by decide +kernel
theorem dX6_end_29 : decode cX6_end 29 = .ok (.getfield 22, 3) := by decide +kernel
theorem dX6_end_32 : decode cX6_end 32 = .ok (.aload_n 0, 1) := by decide +kernel
theorem dX6_end_33 : decode cX6_end 33 = .ok (.getfield 65, 3) := by decide +kernel
theorem dX6_end_36 : decode cX6_end 36 = .ok (.iload_n 1, 1) := by decide +kernel
theorem dX6_end_37 : decode cX6_end 37 = .ok (.iastore, 1) := by decide +kernel
theorem dX6_end_38 : decode cX6_end 38 = .ok (.aload_n 0, 1) := by decide +kernel
theorem dX6_end_39 : decode cX6_end 39 = .ok (.dup, 1) := by decide +kernel
theorem dX6_end_40 : decode cX6_end 40 = .ok (.getfield 65, 3) := by decide +kernel
theorem dX6_end_43 : decode cX6_end 43 = .ok (.iconst 1, 1) := by decide +kernel
theorem dX6_end_44 : decode cX6_end 44 = .ok (.iadd, 1) := by decide +kernel
theorem dX6_end_45 : decode cX6_end 45 = .ok (.putfield 65, 3) := by decide +kernel
theorem dX6_end_48 : decode cX6_end 48 = .ok (.aload_n 0, 1) := by decide +kernel
theorem dX6_end_49 : decode cX6_end 49 = .ok (.getfield 19, 3) := by decide +kernel
theorem dX6_end_52 : decode cX6_end 52 = .ok (.aload_n 0, 1) := by decide +kernel
theorem dX6_end_53 : decode cX6_end 53 = .ok (.getfield 65, 3) := by decide +kernel
theorem dX6_end_56 : decode cX6_end 56 = .ok (.aload_n 0, 1) := by decide +kernel
theorem dX6_end_57 : decode cX6_end 57 = .ok (.getfield 62, 3) := by decide +kernel
theorem dX6_end_60 : decode cX6_end 60 = .ok (.iastore, 1) := by decide +kernel
theorem dX6_end_61 : decode cX6_end 61 = .ok (.aload_n 0, 1) := by decide +kernel
theorem dX6_end_62 : decode cX6_end 62 = .ok (.getfield 65, 3) := by decide +kernel
theorem dX6_end_65 : decode cX6_end 65 = .ok (.iconst 1, 1) := by decide +kernel
theorem dX6_end_66 : decode cX6_end 66 = .ok (.isub, 1) := by decide +kernel
theorem dX6_end_67 : decode cX6_end 67 = .ok (.ireturn, 1) := by decide +kernel
theorem dX6_isSet_0 : decode cX6_isSet 0 = .ok (.aload_n 0, 1) := by decide +kernel
theorem dX6_isSet_1 : decode cX6_isSet 1 = .ok (.getfield 69, 3) := by decide +kernel
theorem dX6_isSet_4 : decode cX6_isSet 4 = .ok (.iload_n 1, 1) := by decide +kernel
theorem dX6_isSet_5 : decode cX6_isSet 5 = .ok (.iconst 1, 1) := by decide +kernel
theorem dX6_isSet_6 : decode cX6_isSet 6 = .ok (.isub, 1) := by decide +kernel
theorem dX6_isSet_7 : decode cX6_isSet 7 = .ok (.ishr, 1) := by decide +kernel
theorem dX6_isSet_8 : decode cX6_isSet 8 = .ok (.iconst 1, 1) := by decide +kernel
theorem dX6_isSet_9 : decode cX6_isSet 9 = .ok (.iand, 1) := by decide +kernel
theorem dX6_isSet_10 : decode cX6_isSet 10 = .ok (.iconst 1, 1) := by decide +kernel
theorem dX6_isSet_11 : decode cX6_isSet 11 = .ok (.if_icmp .ne 7, 3) := by decide +kernel
theorem dX6_isSet_14 : decode cX6_isSet 14 = .ok (.iconst 1, 1) := by decide +kernel
theorem dX6_isSet_15 : decode cX6_isSet 15 = .ok (.goto 4, 3) := by decide +kernel
theorem dX6_isSet_18 : decode cX6_isSet 18 = .ok (.iconst 0, 1) := by decide +kernel
theorem dX6_isSet_19 : decode cX6_isSet 19 = .ok (.ireturn, 1) := by decide +kernel
theorem dX6_isOne_0 : decode cX6_isOne 0 = .ok (.aload_n 0, 1) := by decide +kernel
theorem dX6_isOne_1 : decode cX6_isOne 1 = .ok (.getfield 72, 3) := by decide +kernel
theorem dX6_isOne_4 : decode cX6_isOne 4 = .ok (.iload_n 1, 1) := by decide +kernel
theorem dX6_isOne_5 : decode cX6_isOne 5 = .ok (.iconst 1, 1) := by decide +kernel
theorem dX6_isOne_6 : decode cX6_isOne 6 = .ok (.isub, 1) := by decide +kernel
theorem dX6_isOne_7 : decode cX6_isOne 7 = .ok (.ishr, 1) := by decide +kernel
theorem dX6_isOne_8 : decode cX6_isOne 8 = .ok (.iconst 1, 1) := by decide +kernel
theorem dX6_isOne_9 : decode cX6_isOne 9 = .ok (.iand, 1) := by decide +kernel
theorem dX6_isOne_10 : decode cX6_isOne 10 = .ok (.iconst 1, 1) := by decide +kernel
theorem dX6_isOne_11 : decode cX6_isOne 11 = .ok (.if_icmp .ne 7, 3) := by decide +kernel
theorem dX6_isOne_14 : decode cX6_isOne 14 = .ok (.iconst 1, 1) := by decide +kernel
theorem dX6_isOne_15 : decode cX6_isOne 15 = .ok (.goto 4, 3) := by decide +kernel
theorem dX6_isOne_18 : decode cX6_isOne 18 = .ok (.iconst 0, 1) := by decide +kernel
theorem dX6_isOne_19 : decode cX6_isOne 19 = .ok (.ireturn, 1) := by decide +kernel
theorem dX6_isFalse_0 : decode cX6_isFalse 0 = .ok (.iload_n 1, 1) := by decide +kernel
theorem dX6_isFalse_1 : decode cX6_isFalse 1 = .ok (.ifCond .ge 8, 3) := by decide +kernel
theorem dX6_isFalse_4 : decode cX6_isFalse 4 = .ok (.iload_n 1, 1) := by decide +kernel
theorem dX6_isFalse_5 : decode cX6_isFalse 5 = .ok (.ineg, 1) := by decide +kernel
theorem dX6_isFalse_6 : decode cX6_isFalse 6 = .ok (.goto 4, 3) := by decide +kernel
theorem dX6_isFalse_9 : decode cX6_isFalse 9 = .ok (.iload_n 1, 1) := by decide +kernel
theorem dX6_isFalse_10 : decode cX6_isFalse 10 = .ok (.istore_n 2, 1) := by decide +kernel
theorem dX6_isFalse_11 : decode cX6_isFalse 11 = .ok (.aload_n 0, 1) := by decide +kernel
theorem dX6_isFalse_12 : decode cX6_isFalse 12 = .ok (.iload_n 2, 1) := by decide +kernel
theorem dX6_isFalse_13 : decode cX6_isFalse 13 = .ok (.invokevirtual 75, 3) := by decide +kernel
theorem dX6_isFalse_16 : decode cX6_isFalse 16 = .ok (.ifCond .eq 24, 3) := by decide +kernel
theorem dX6_isFalse_19 : decode cX6_isFalse 19 = .ok (.aload_n 0, 1) := by decide +kernel
theorem dX6_isFalse_20 : decode cX6_isFalse 20 = .ok (.iload_n 2, 1) := by decide +kernel
theorem dX6_isFalse_21 : decode cX6_isFalse 21 = .ok (.invokevirtual 79, 3) := by decide +kernel
theorem dX6_isFalse_24 : decode cX6_isFalse 24 = .ok (.iload_n 1, 1) := by decide +kernel
theorem dX6_isFalse_25 : decode cX6_isFalse 25 = .ok (.ifCond .le 7, 3) := by decide +kernel
theorem dX6_isFalse_28 : decode cX6_isFalse 28 = .ok (.iconst 1, 1) := by decide +kernel
theorem dX6_isFalse_29 : decode cX6_isFalse 29 = .ok (.goto 4, 3) := by decide +kernel
theorem dX6_isFalse_32 : decode cX6_isFalse 32 = .ok (.iconst 0, 1) := by decide +kernel
theorem dX6_isFalse_33 : decode cX6_isFalse 33 = .ok (.if_icmp .eq 7, 3) := by decide +kernel
theorem dX6_isFalse_36 : decode cX6_isFalse 36 = .ok (.iconst 1, 1) := by decide +kernel
theorem dX6_isFalse_37 : decode cX6_isFalse 37 = .ok (.goto 4, 3) := by decide +kernel
theorem dX6_isFalse_40 : decode cX6_isFalse 40 = .ok (.iconst 0, 1) := by decide +kernel
theorem dX6_isFalse_41 : decode cX6_isFalse 41 = .ok (.ireturn, 1) := by decide +kernel
theorem dX6_slack_0 : decode cX6_slack 0 = .ok (.aload_n 0, 1) := by decide +kernel
theorem dX6_slack_1 : decode cX6_slack 1 = .ok (.getfield 22, 3) := by decide +kernel
theorem dX6_slack_4 : decode cX6_slack 4 = .ok (.iload_n 1, 1) := by decide +kernel
theorem dX6_slack_5 : decode cX6_slack 5 = .ok (.iaload, 1) := by decide +kernel
theorem dX6_slack_6 : decode cX6_slack 6 = .ok (.ineg, 1) := by decide +kernel
theorem dX6_slack_7 : decode cX6_slack 7 = .ok (.istore_n 2, 1) := by decide +kernel
theorem dX6_slack_8 : decode cX6_slack 8 = .ok (.aload_n 0, 1) := by decide +kernel
theorem dX6_slack_9 : decode cX6_slack 9 = .ok (.getfield 19, 3) := by decide +kernel
theorem dX6_slack_12 : decode cX6_slack 12 = .ok (.iload_n 1, 1) := by decide +kernel
theorem dX6_slack_13 : decode cX6_slack 13 = .ok (.iaload, 1) := by decide +kernel
theorem dX6_slack_14 : decode cX6_slack 14 = .ok (.istore_n 3, 1) := by decide +kernel
theorem dX6_slack_15 : decode cX6_slack 15 = .ok (.iload_n 3, 1) := by decide +kernel
theorem dX6_slack_16 : decode cX6_slack 16 = .ok (.aload_n 0, 1) := by decide +kernel
theorem dX6_slack_17 : decode cX6_slack 17 = .ok (.getfield 19, 3) := by decide +kernel
theorem dX6_slack_20 : decode cX6_slack 20 = .ok (.iload_n 1, 1) := by decide +kernel
theorem dX6_slack_21 : decode cX6_slack 21 = .ok (.iconst 1, 1) := by decide +kernel
theorem dX6_slack_22 : decode cX6_slack 22 = .ok (.iadd, 1) := by decide +kernel
theorem dX6_slack_23 : decode cX6_slack 23 = .ok (.iaload, 1) := by decide +kernel
theorem dX6_slack_24 : decode cX6_slack 24 = .ok (.if_icmp .ge 35, 3) := by decide +kernel
theorem dX6_slack_27 : decode cX6_slack 27 = .ok (.aload_n 0, 1) := by decide +kernel
theorem dX6_slack_28 : decode cX6_slack 28 = .ok (.aload_n 0, 1) := by decide +kernel
theorem dX6_slack_29 : decode cX6_slack 29 = .ok (.getfield 16, 3) := by decide +kernel
theorem dX6_slack_32 : decode cX6_slack 32 = .ok (.iload_n 3, 1) := by decide +kernel
theorem dX6_slack_33 : decode cX6_slack 33 = .ok (.iaload, 1) := by decide +kernel
theorem dX6_slack_34 : decode cX6_slack 34 = .ok (.invokevirtual 82, 3) := by decide +kernel
theorem dX6_slack_37 : decode cX6_slack 37 = .ok (.ifCond .eq 7, 3) := by decide +kernel
theorem dX6_slack_40 : decode cX6_slack 40 = .ok (.iload_n 2, 1) := by decide +kernel
theorem dX6_slack_41 : decode cX6_slack 41 = .ok (.goto 11, 3) := by decide +kernel
theorem dX6_slack_44 : decode cX6_slack 44 = .ok (.iload_n 2, 1) := by decide +kernel
theorem dX6_slack_45 : decode cX6_slack 45 = .ok (.aload_n 0, 1) := by decide +kernel
theorem dX6_slack_46 : decode cX6_slack 46 = .ok (.getfield 13, 3) := by decide +kernel
theorem dX6_slack_49 : decode cX6_slack 49 = .ok (.iload_n 3, 1) := by decide +kernel
theorem dX6_slack_50 : decode cX6_slack 50 = .ok (.iaload, 1) := by decide +kernel
theorem dX6_slack_51 : decode cX6_slack 51 = .ok (.iadd, 1) := by decide +kernel
theorem dX6_slack_52 : decode cX6_slack 52 = .ok (.istore_n 2, 1) := by decide +kernel
theorem dX6_slack_53 : decode cX6_slack 53 = .ok (.iinc 3 1, 3) := by decide +kernel
theorem dX6_slack_56 : decode cX6_slack 56 = .ok (.goto (-41), 3) := by decide +kernel
theorem dX6_slack_59 : decode cX6_slack 59 = .ok (.iload_n 2, 1) := by decide +kernel
theorem dX6_slack_60 : decode cX6_slack 60 = .ok (.ireturn, 1) := by decide +kernel
theorem dX6_cost_0 : decode cX6_cost 0 = .ok (.iconst 0, 1) := by decide +kernel
theorem dX6_cost_1 : decode cX6_cost 1 = .ok (.istore_n 1, 1) := by decide +kernel
theorem dX6_cost_2 : decode cX6_cost 2 = .ok (.iconst 1, 1) := by decide +kernel
theorem dX6_cost_3 : decode cX6_cost 3 = .ok (.istore_n 2, 1) := by decide +kernel
theorem dX6_cost_4 : decode cX6_cost 4 = .ok (.iload_n 2, 1) := by decide +kernel
theorem dX6_cost_5 : decode cX6_cost 5 = .ok (.bipush 16, 2) := by decide +kernel
theorem dX6_cost_7 : decode cX6_cost 7 = .ok (.if_icmp .gt 38, 3) := by decide +kernel
theorem dX6_cost_10 : decode cX6_cost 10 = .ok (.aload_n 0, 1) := by decide +kernel
theorem dX6_cost_11 : decode cX6_cost 11 = .ok (.iload_n 2, 1) := by decide +kernel
theorem dX6_cost_12 : decode cX6_cost 12 = .ok (.invokevirtual 75, 3) := by decide +kernel
theorem dX6_cost_15 : decode cX6_cost 15 = .ok (.ifCond .eq 22, 3) := by decide +kernel
theorem dX6_cost_18 : decode cX6_cost 18 = .ok (.aload_n 0, 1) := by decide +kernel
theorem dX6_cost_19 : decode cX6_cost 19 = .ok (.iload_n 2, 1) := by decide +kernel
theorem dX6_cost_20 : decode cX6_cost 20 = .ok (.invokevirtual 79, 3) := by decide +kernel
theorem dX6_cost_23 : decode cX6_cost 23 = .ok (.ifCond .eq 14, 3) := by decide +kernel
theorem dX6_cost_26 : decode cX6_cost 26 = .ok (.iload_n 1, 1) := by decide +kernel
theorem dX6_cost_27 : decode cX6_cost 27 = .ok (.aload_n 0, 1) := by decide +kernel
theorem dX6_cost_28 : decode cX6_cost 28 = .ok (.getfield 7, 3) := by decide +kernel
theorem dX6_cost_31 : decode cX6_cost 31 = .ok (.iload_n 2, 1) := by decide +kernel
theorem dX6_cost_32 : decode cX6_cost 32 = .ok (.iaload, 1) := by decide +kernel
theorem dX6_cost_33 : decode cX6_cost 33 = .ok (.iadd, 1) := by decide +kernel
theorem dX6_cost_34 : decode cX6_cost 34 = .ok (.goto 4, 3) := by decide +kernel
theorem dX6_cost_37 : decode cX6_cost 37 = .ok (.iload_n 1, 1) := by decide +kernel
theorem dX6_cost_38 : decode cX6_cost 38 = .ok (.istore_n 1, 1) := by decide +kernel
theorem dX6_cost_39 : decode cX6_cost 39 = .ok (.iinc 2 1, 3) := by decide +kernel
theorem dX6_cost_42 : decode cX6_cost 42 = .ok (.goto (-38), 3) := by decide +kernel
theorem dX6_cost_45 : decode cX6_cost 45 = .ok (.iload_n 1, 1) := by decide +kernel
theorem dX6_cost_46 : decode cX6_cost 46 = .ok (.ireturn, 1) := by decide +kernel
theorem dX6_isBroken_0 : decode cX6_isBroken 0 = .ok (.iload_n 1, 1) := by decide +kernel
theorem dX6_isBroken_1 : decode cX6_isBroken 1 = .ok (.ifCond .eq 16, 3) := by decide +kernel
theorem dX6_isBroken_4 : decode cX6_isBroken 4 = .ok (.iload_n 2, 1) := by decide +kernel
theorem dX6_isBroken_5 : decode cX6_isBroken 5 = .ok (.aload_n 0, 1) := by decide +kernel
theorem dX6_isBroken_6 : decode cX6_isBroken 6 = .ok (.invokevirtual 85, 3) := by decide +kernel
theorem dX6_isBroken_9 : decode cX6_isBroken 9 = .ok (.isub, 1) := by decide +kernel
theorem dX6_isBroken_10 : decode cX6_isBroken 10 = .ok (.ifCond .ge 7, 3) := by decide +kernel
theorem dX6_isBroken_13 : decode cX6_isBroken 13 = .ok (.iconst 1, 1) := by decide +kernel
theorem dX6_isBroken_14 : decode cX6_isBroken 14 = .ok (.goto 4, 3) := by decide +kernel
theorem dX6_isBroken_17 : decode cX6_isBroken 17 = .ok (.iconst 0, 1) := by decide +kernel
theorem dX6_isBroken_18 : decode cX6_isBroken 18 = .ok (.istore_n 3, 1) := by decide +kernel
theorem dX6_isBroken_19 : decode cX6_isBroken 19 = .ok (.iconst 0, 1) := by decide +kernel
theorem dX6_isBroken_20 : decode cX6_isBroken 20 = .ok (.istore 4, 2) := by decide +kernel
theorem dX6_isBroken_22 : decode cX6_isBroken 22 = .ok (.iload 4, 2) := by decide +kernel
theorem dX6_isBroken_24 : decode cX6_isBroken 24 = .ok (.aload_n 0, 1) := by decide +kernel
theorem dX6_isBroken_25 : decode cX6_isBroken 25 = .ok (.getfield 65, 3) := by decide +kernel
theorem dX6_isBroken_28 : decode cX6_isBroken 28 = .ok (.if_icmp .ge 28, 3) := by decide +kernel
theorem dX6_isBroken_31 : decode cX6_isBroken 31 = .ok (.iload_n 3, 1) := by decide +kernel
theorem dX6_isBroken_32 : decode cX6_isBroken 32 = .ok (.ifCond .ne 12, 3) := by decide +kernel
theorem dX6_isBroken_35 : decode cX6_isBroken 35 = .ok (.aload_n 0, 1) := by decide +kernel
theorem dX6_isBroken_36 : decode cX6_isBroken 36 = .ok (.iload 4, 2) := by decide +kernel
theorem dX6_isBroken_38 : decode cX6_isBroken 38 = .ok (.invokevirtual 89, 3) := by decide +kernel
theorem dX6_isBroken_41 : decode cX6_isBroken 41 = .ok (.ifCond .ge 7, 3) := by decide +kernel
theorem dX6_isBroken_44 : decode cX6_isBroken 44 = .ok (.iconst 1, 1) := by decide +kernel
theorem dX6_isBroken_45 : decode cX6_isBroken 45 = .ok (.goto 4, 3) := by decide +kernel
theorem dX6_isBroken_48 : decode cX6_isBroken 48 = .ok (.iconst 0, 1) := by decide +kernel
theorem dX6_isBroken_49 : decode cX6_isBroken 49 = .ok (.istore_n 3, 1) := by decide +kernel
theorem dX6_isBroken_50 : decode cX6_isBroken 50 = .ok (.iinc 4 1, 3) := by decide +kernel
theorem dX6_isBroken_53 : decode cX6_isBroken 53 = .ok (.goto (-31), 3) := by decide +kernel
theorem dX6_isBroken_56 : decode cX6_isBroken 56 = .ok (.iload_n 3, 1) := by decide +kernel
theorem dX6_isBroken_57 : decode cX6_isBroken 57 = .ok (.ireturn, 1) := by decide +kernel
theorem dX6_forced_0 : decode cX6_forced 0 = .ok (.iconst 0, 1) := by decide +kernel
theorem dX6_forced_1 : decode cX6_forced 1 = .ok (.istore_n 3, 1) := by decide +kernel
theorem dX6_forced_2 : decode cX6_forced 2 = .ok (.iload_n 3, 1) := by decide +kernel
theorem dX6_forced_3 : decode cX6_forced 3 = .ok (.aload_n 0, 1) := by decide +kernel
theorem dX6_forced_4 : decode cX6_forced 4 = .ok (.getfield 65, 3) := by decide +kernel
theorem dX6_forced_7 : decode cX6_forced 7 = .ok (.if_icmp .ge 102, 3) := by decide +kernel
theorem dX6_forced_10 : decode cX6_forced 10 = .ok (.aload_n 0, 1) := by decide +kernel
theorem dX6_forced_11 : decode cX6_forced 11 = .ok (.iload_n 3, 1) := by decide +kernel
theorem dX6_forced_12 : decode cX6_forced 12 = .ok (.invokevirtual 89, 3) := by decide +kernel
theorem dX6_forced_15 : decode cX6_forced 15 = .ok (.istore 4, 2) := by decide +kernel
theorem dX6_forced_17 : decode cX6_forced 17 = .ok (.aload_n 0, 1) := by decide +kernel
theorem dX6_forced_18 : decode cX6_forced 18 = .ok (.getfield 19, 3) := by decide +kernel
theorem dX6_forced_21 : decode cX6_forced 21 = .ok (.iload_n 3, 1) := by decide +kernel
theorem dX6_forced_22 : decode cX6_forced 22 = .ok (.iaload, 1) := by decide +kernel
theorem dX6_forced_23 : decode cX6_forced 23 = .ok (.istore 5, 2) := by decide +kernel
theorem dX6_forced_25 : decode cX6_forced 25 = .ok (.iload 5, 2) := by decide +kernel
theorem dX6_forced_27 : decode cX6_forced 27 = .ok (.aload_n 0, 1) := by decide +kernel
theorem dX6_forced_28 : decode cX6_forced 28 = .ok (.getfield 19, 3) := by decide +kernel
theorem dX6_forced_31 : decode cX6_forced 31 = .ok (.iload_n 3, 1) := by decide +kernel
theorem dX6_forced_32 : decode cX6_forced 32 = .ok (.iconst 1, 1) := by decide +kernel
theorem dX6_forced_33 : decode cX6_forced 33 = .ok (.iadd, 1) := by decide +kernel
theorem dX6_forced_34 : decode cX6_forced 34 = .ok (.iaload, 1) := by decide +kernel
theorem dX6_forced_35 : decode cX6_forced 35 = .ok (.if_icmp .ge 68, 3) := by decide +kernel
theorem dX6_forced_38 : decode cX6_forced 38 = .ok (.aload_n 0, 1) := by decide +kernel
theorem dX6_forced_39 : decode cX6_forced 39 = .ok (.getfield 16, 3) := by decide +kernel
theorem dX6_forced_42 : decode cX6_forced 42 = .ok (.iload 5, 2) := by decide +kernel
theorem dX6_forced_44 : decode cX6_forced 44 = .ok (.iaload, 1) := by decide +kernel
theorem dX6_forced_45 : decode cX6_forced 45 = .ok (.ifCond .ge 14, 3) := by decide +kernel
theorem dX6_forced_48 : decode cX6_forced 48 = .ok (.aload_n 0, 1) := by decide +kernel
theorem dX6_forced_49 : decode cX6_forced 49 = .ok (.getfield 16, 3) := by decide +kernel
theorem dX6_forced_52 : decode cX6_forced 52 = .ok (.iload 5, 2) := by decide +kernel
theorem dX6_forced_54 : decode cX6_forced 54 = .ok (.iaload, 1) := by decide +kernel
theorem dX6_forced_55 : decode cX6_forced 55 = .ok (.ineg, 1) := by decide +kernel
theorem dX6_forced_56 : decode cX6_forced 56 = .ok (.goto 10, 3) := by decide +kernel
theorem dX6_forced_59 : decode cX6_forced 59 = .ok (.aload_n 0, 1) := by decide +kernel
theorem dX6_forced_60 : decode cX6_forced 60 = .ok (.getfield 16, 3) := by decide +kernel
theorem dX6_forced_63 : decode cX6_forced 63 = .ok (.iload 5, 2) := by decide +kernel
theorem dX6_forced_65 : decode cX6_forced 65 = .ok (.iaload, 1) := by decide +kernel
theorem dX6_forced_66 : decode cX6_forced 66 = .ok (.istore 6, 2) := by decide +kernel
theorem dX6_forced_68 : decode cX6_forced 68 = .ok (.aload_n 0, 1) := by decide +kernel
theorem dX6_forced_69 : decode cX6_forced 69 = .ok (.iload 6, 2) := by decide +kernel
theorem dX6_forced_71 : decode cX6_forced 71 = .ok (.invokevirtual 75, 3) := by decide +kernel
theorem dX6_forced_74 : decode cX6_forced 74 = .ok (.ifCond .ne 23, 3) := by decide +kernel
theorem dX6_forced_77 : decode cX6_forced 77 = .ok (.aload_n 0, 1) := by decide +kernel
theorem dX6_forced_78 : decode cX6_forced 78 = .ok (.getfield 13, 3) := by decide +kernel
theorem dX6_forced_81 : decode cX6_forced 81 = .ok (.iload 5, 2) := by decide +kernel
theorem dX6_forced_83 : decode cX6_forced 83 = .ok (.iaload, 1) := by decide +kernel
theorem dX6_forced_84 : decode cX6_forced 84 = .ok (.iload 4, 2) := by decide +kernel
theorem dX6_forced_86 : decode cX6_forced 86 = .ok (.if_icmp .le 11, 3) := by decide +kernel
theorem dX6_forced_89 : decode cX6_forced 89 = .ok (.aload_n 0, 1) := by decide +kernel
theorem dX6_forced_90 : decode cX6_forced 90 = .ok (.getfield 16, 3) := by decide +kernel
theorem dX6_forced_93 : decode cX6_forced 93 = .ok (.iload 5, 2) := by decide +kernel
theorem dX6_forced_95 : decode cX6_forced 95 = .ok (.iaload, 1) := by decide +kernel
theorem dX6_forced_96 : decode cX6_forced 96 = .ok (.ireturn, 1) := by decide +kernel
theorem dX6_forced_97 : decode cX6_forced 97 = .ok (.iinc 5 1, 3) := by decide +kernel
theorem dX6_forced_100 : decode cX6_forced 100 = .ok (.goto (-75), 3) := by decide +kernel
theorem dX6_forced_103 : decode cX6_forced 103 = .ok (.iinc 3 1, 3) := by decide +kernel
theorem dX6_forced_106 : decode cX6_forced 106 = .ok (.goto (-104), 3) := by decide +kernel
theorem dX6_forced_109 : decode cX6_forced 109 = .ok (.iconst 1, 1) := by decide +kernel
theorem dX6_forced_110 : decode cX6_forced 110 = .ok (.istore_n 3, 1) := by decide +kernel
theorem dX6_forced_111 : decode cX6_forced 111 = .ok (.iload_n 3, 1) := by decide +kernel
theorem dX6_forced_112 : decode cX6_forced 112 = .ok (.bipush 16, 2) := by decide +kernel
theorem dX6_forced_114 : decode cX6_forced 114 = .ok (.if_icmp .gt 48, 3) := by decide +kernel
theorem dX6_forced_117 : decode cX6_forced 117 = .ok (.iload_n 1, 1) := by decide +kernel
theorem dX6_forced_118 : decode cX6_forced 118 = .ok (.ifCond .eq 44, 3) := by decide +kernel
theorem dX6_forced_121 : decode cX6_forced 121 = .ok (.aload_n 0, 1) := by decide +kernel
theorem dX6_forced_122 : decode cX6_forced 122 = .ok (.iload_n 3, 1) := by decide +kernel
theorem dX6_forced_123 : decode cX6_forced 123 = .ok (.invokevirtual 75, 3) := by decide +kernel
theorem dX6_forced_126 : decode cX6_forced 126 = .ok (.ifCond .ne 30, 3) := by decide +kernel
theorem dX6_forced_129 : decode cX6_forced 129 = .ok (.aload_n 0, 1) := by decide +kernel
theorem dX6_forced_130 : decode cX6_forced 130 = .ok (.getfield 7, 3) := by decide +kernel
theorem dX6_forced_133 : decode cX6_forced 133 = .ok (.iload_n 3, 1) := by decide +kernel
theorem dX6_forced_134 : decode cX6_forced 134 = .ok (.iaload, 1) := by decide +kernel
theorem dX6_forced_135 : decode cX6_forced 135 = .ok (.ifCond .le 21, 3) := by decide +kernel
theorem dX6_forced_138 : decode cX6_forced 138 = .ok (.aload_n 0, 1) := by decide +kernel
theorem dX6_forced_139 : decode cX6_forced 139 = .ok (.getfield 7, 3) := by decide +kernel
theorem dX6_forced_142 : decode cX6_forced 142 = .ok (.iload_n 3, 1) := by decide +kernel
theorem dX6_forced_143 : decode cX6_forced 143 = .ok (.iaload, 1) := by decide +kernel
theorem dX6_forced_144 : decode cX6_forced 144 = .ok (.iload_n 2, 1) := by decide +kernel
theorem dX6_forced_145 : decode cX6_forced 145 = .ok (.aload_n 0, 1) := by decide +kernel
theorem dX6_forced_146 : decode cX6_forced 146 = .ok (.invokevirtual 85, 3) := by decide +kernel
theorem dX6_forced_149 : decode cX6_forced 149 = .ok (.isub, 1) := by decide +kernel
theorem dX6_forced_150 : decode cX6_forced 150 = .ok (.if_icmp .le 6, 3) := by decide +kernel
theorem dX6_forced_153 : decode cX6_forced 153 = .ok (.iload_n 3, 1) := by decide +kernel
theorem dX6_forced_154 : decode cX6_forced 154 = .ok (.ineg, 1) := by decide +kernel
theorem dX6_forced_155 : decode cX6_forced 155 = .ok (.ireturn, 1) := by decide +kernel
theorem dX6_forced_156 : decode cX6_forced 156 = .ok (.iinc 3 1, 3) := by decide +kernel
theorem dX6_forced_159 : decode cX6_forced 159 = .ok (.goto (-48), 3) := by decide +kernel
theorem dX6_forced_162 : decode cX6_forced 162 = .ok (.iconst 0, 1) := by decide +kernel
theorem dX6_forced_163 : decode cX6_forced 163 = .ok (.ireturn, 1) := by decide +kernel
theorem dX6_put_0 : decode cX6_put 0 = .ok (.aload_n 0, 1) := by decide +kernel
theorem dX6_put_1 : decode cX6_put 1 = .ok (.aload_n 0, 1) := by decide +kernel
theorem dX6_put_2 : decode cX6_put 2 = .ok (.getfield 69, 3) := by decide +kernel
theorem dX6_put_5 : decode cX6_put 5 = .ok (.iconst 1, 1) := by decide +kernel
theorem dX6_put_6 : decode cX6_put 6 = .ok (.iload_n 1, 1) := by decide +kernel
theorem dX6_put_7 : decode cX6_put 7 = .ok (.iconst 1, 1) := by decide +kernel
theorem dX6_put_8 : decode cX6_put 8 = .ok (.isub, 1) := by decide +kernel
theorem dX6_put_9 : decode cX6_put 9 = .ok (.ishl, 1) := by decide +kernel
theorem dX6_put_10 : decode cX6_put 10 = .ok (.ior, 1) := by decide +kernel
theorem dX6_put_11 : decode cX6_put 11 = .ok (.putfield 69, 3) := by decide +kernel
theorem dX6_put_14 : decode cX6_put 14 = .ok (.aload_n 0, 1) := by decide +kernel
theorem dX6_put_15 : decode cX6_put 15 = .ok (.iload_n 2, 1) := by decide +kernel
theorem dX6_put_16 : decode cX6_put 16 = .ok (.ifCond .eq 16, 3) := by decide +kernel
theorem dX6_put_19 : decode cX6_put 19 = .ok (.aload_n 0, 1) := by decide +kernel
theorem dX6_put_20 : decode cX6_put 20 = .ok (.getfield 72, 3) := by decide +kernel
theorem dX6_put_23 : decode cX6_put 23 = .ok (.iconst 1, 1) := by decide +kernel
theorem dX6_put_24 : decode cX6_put 24 = .ok (.iload_n 1, 1) := by decide +kernel
theorem dX6_put_25 : decode cX6_put 25 = .ok (.iconst 1, 1) := by decide +kernel
theorem dX6_put_26 : decode cX6_put 26 = .ok (.isub, 1) := by decide +kernel
theorem dX6_put_27 : decode cX6_put 27 = .ok (.ishl, 1) := by decide +kernel
theorem dX6_put_28 : decode cX6_put 28 = .ok (.ior, 1) := by decide +kernel
theorem dX6_put_29 : decode cX6_put 29 = .ok (.goto 15, 3) := by decide +kernel
theorem dX6_put_32 : decode cX6_put 32 = .ok (.aload_n 0, 1) := by decide +kernel
theorem dX6_put_33 : decode cX6_put 33 = .ok (.getfield 72, 3) := by decide +kernel
theorem dX6_put_36 : decode cX6_put 36 = .ok (.iconst 1, 1) := by decide +kernel
theorem dX6_put_37 : decode cX6_put 37 = .ok (.iload_n 1, 1) := by decide +kernel
theorem dX6_put_38 : decode cX6_put 38 = .ok (.iconst 1, 1) := by decide +kernel
theorem dX6_put_39 : decode cX6_put 39 = .ok (.isub, 1) := by decide +kernel
theorem dX6_put_40 : decode cX6_put 40 = .ok (.ishl, 1) := by decide +kernel
theorem dX6_put_41 : decode cX6_put 41 = .ok (.iconst (-1), 1) := by decide +kernel
theorem dX6_put_42 : decode cX6_put 42 = .ok (.ixor, 1) := by decide +kernel
theorem dX6_put_43 : decode cX6_put 43 = .ok (.iand, 1) := by decide +kernel
theorem dX6_put_44 : decode cX6_put 44 = .ok (.putfield 72, 3) := by decide +kernel
theorem dX6_put_47 : decode cX6_put 47 = .ok (.return_, 1) := by decide +kernel
theorem dX6_write_0 : decode cX6_write 0 = .ok (.aload_n 0, 1) := by decide +kernel
theorem dX6_write_1 : decode cX6_write 1 = .ok (.getfield 93, 3) := by decide +kernel
theorem dX6_write_4 : decode cX6_write 4 = .ok (.sipush 400, 3) := by decide +kernel
theorem dX6_write_7 : decode cX6_write 7 = .ok (.if_icmp .ne 10, 3) := by decide +kernel
theorem dX6_write_10 : decode cX6_write 10 = .ok (.aload_n 0, 1) := by decide +kernel
theorem dX6_write_11 : decode cX6_write 11 = .ok (.iconst 1, 1) := by decide +kernel
theorem dX6_write_12 : decode cX6_write 12 = .ok (.putfield 96, 3) := by decide +kernel
theorem dX6_write_15 : decode cX6_write 15 = .ok (.iconst 0, 1) := by decide +kernel
theorem dX6_write_16 : decode cX6_write 16 = .ok (.ireturn, 1) := by decide +kernel
theorem dX6_write_17 : decode cX6_write 17 = .ok (.aload_n 0, 1) := by decide +kernel
theorem dX6_write_18 : decode cX6_write 18 = .ok (.getfield 36, 3) := by decide +kernel
theorem dX6_write_21 : decode cX6_write 21 = .ok (.aload_n 0, 1) := by decide +kernel
theorem dX6_write_22 : decode cX6_write 22 = .ok (.getfield 93, 3) := by decide +kernel
theorem dX6_write_25 : decode cX6_write 25 = .ok (.iload_n 1, 1) := by decide +kernel
theorem dX6_write_26 : decode cX6_write 26 = .ok (.iastore, 1) := by decide +kernel
theorem dX6_write_27 : decode cX6_write 27 = .ok (.aload_n 0, 1) := by decide +kernel
theorem dX6_write_28 : decode cX6_write 28 = .ok (.dup, 1) := by decide +kernel
theorem dX6_write_29 : decode cX6_write 29 = .ok (.getfield 93, 3) := by decide +kernel
theorem dX6_write_32 : decode cX6_write 32 = .ok (.iconst 1, 1) := by decide +kernel
theorem dX6_write_33 : decode cX6_write 33 = .ok (.iadd, 1) := by decide +kernel
theorem dX6_write_34 : decode cX6_write 34 = .ok (.putfield 93, 3) := by decide +kernel
theorem dX6_write_37 : decode cX6_write 37 = .ok (.iconst 1, 1) := by decide +kernel
theorem dX6_write_38 : decode cX6_write 38 = .ok (.ireturn, 1) := by decide +kernel
theorem dX6_lay_0 : decode cX6_lay 0 = .ok (.aload_n 0, 1) := by decide +kernel
theorem dX6_lay_1 : decode cX6_lay 1 = .ok (.iload_n 1, 1) := by decide +kernel
theorem dX6_lay_2 : decode cX6_lay 2 = .ok (.iload_n 2, 1) := by decide +kernel
theorem dX6_lay_3 : decode cX6_lay 3 = .ok (.invokevirtual 99, 3) := by decide +kernel
theorem dX6_lay_6 : decode cX6_lay 6 = .ok (.aload_n 0, 1) := by decide +kernel
theorem dX6_lay_7 : decode cX6_lay 7 = .ok (.getfield 25, 3) := by decide +kernel
theorem dX6_lay_10 : decode cX6_lay 10 = .ok (.aload_n 0, 1) := by decide +kernel
theorem dX6_lay_11 : decode cX6_lay 11 = .ok (.getfield 103, 3) := by decide +kernel
theorem dX6_lay_14 : decode cX6_lay 14 = .ok (.iload_n 1, 1) := by decide +kernel
theorem dX6_lay_15 : decode cX6_lay 15 = .ok (.iastore, 1) := by decide +kernel
theorem dX6_lay_16 : decode cX6_lay 16 = .ok (.aload_n 0, 1) := by decide +kernel
theorem dX6_lay_17 : decode cX6_lay 17 = .ok (.getfield 28, 3) := by decide +kernel
theorem dX6_lay_20 : decode cX6_lay 20 = .ok (.aload_n 0, 1) := by decide +kernel
theorem dX6_lay_21 : decode cX6_lay 21 = .ok (.getfield 103, 3) := by decide +kernel
theorem dX6_lay_24 : decode cX6_lay 24 = .ok (.iload_n 3, 1) := by decide +kernel
theorem dX6_lay_25 : decode cX6_lay 25 = .ok (.bastore, 1) := by decide +kernel
theorem dX6_lay_26 : decode cX6_lay 26 = .ok (.aload_n 0, 1) := by decide +kernel
theorem dX6_lay_27 : decode cX6_lay 27 = .ok (.dup, 1) := by decide +kernel
theorem dX6_lay_28 : decode cX6_lay 28 = .ok (.getfield 103, 3) := by decide +kernel
theorem dX6_lay_31 : decode cX6_lay 31 = .ok (.iconst 1, 1) := by decide +kernel
theorem dX6_lay_32 : decode cX6_lay 32 = .ok (.iadd, 1) := by decide +kernel
theorem dX6_lay_33 : decode cX6_lay 33 = .ok (.putfield 103, 3) := by decide +kernel
theorem dX6_lay_36 : decode cX6_lay 36 = .ok (.return_, 1) := by decide +kernel
theorem dX6_goBack_0 : decode cX6_goBack 0 = .ok (.aload_n 0, 1) := by decide +kernel
theorem dX6_goBack_1 : decode cX6_goBack 1 = .ok (.iconst 0, 1) := by decide +kernel
theorem dX6_goBack_2 : decode cX6_goBack 2 = .ok (.invokevirtual 106, 3) := by decide +kernel
theorem dX6_goBack_5 : decode cX6_goBack 5 = .ok (.ifCond .ne 4, 3) := by decide +kernel
theorem dX6_goBack_8 : decode cX6_goBack 8 = .ok (.return_, 1) := by decide +kernel
theorem dX6_goBack_9 : decode cX6_goBack 9 = .ok (.aload_n 0, 1) := by decide +kernel
theorem dX6_goBack_10 : decode cX6_goBack 10 = .ok (.getfield 103, 3) := by decide +kernel
theorem dX6_goBack_13 : decode cX6_goBack 13 = .ok (.ifCond .le 96, 3) := by decide +kernel
theorem dX6_goBack_16 : decode cX6_goBack 16 = .ok (.aload_n 0, 1) := by decide +kernel
theorem dX6_goBack_17 : decode cX6_goBack 17 = .ok (.dup, 1) := by decide +kernel
theorem dX6_goBack_18 : decode cX6_goBack 18 = .ok (.getfield 103, 3) := by decide +kernel
theorem dX6_goBack_21 : decode cX6_goBack 21 = .ok (.iconst 1, 1) := by decide +kernel
theorem dX6_goBack_22 : decode cX6_goBack 22 = .ok (.isub, 1) := by decide +kernel
theorem dX6_goBack_23 : decode cX6_goBack 23 = .ok (.putfield 103, 3) := by decide +kernel
theorem dX6_goBack_26 : decode cX6_goBack 26 = .ok (.aload_n 0, 1) := by decide +kernel
theorem dX6_goBack_27 : decode cX6_goBack 27 = .ok (.getfield 25, 3) := by decide +kernel
theorem dX6_goBack_30 : decode cX6_goBack 30 = .ok (.aload_n 0, 1) := by decide +kernel
theorem dX6_goBack_31 : decode cX6_goBack 31 = .ok (.getfield 103, 3) := by decide +kernel
theorem dX6_goBack_34 : decode cX6_goBack 34 = .ok (.iaload, 1) := by decide +kernel
theorem dX6_goBack_35 : decode cX6_goBack 35 = .ok (.istore_n 1, 1) := by decide +kernel
theorem dX6_goBack_36 : decode cX6_goBack 36 = .ok (.aload_n 0, 1) := by decide +kernel
theorem dX6_goBack_37 : decode cX6_goBack 37 = .ok (.getfield 28, 3) := by decide +kernel
theorem dX6_goBack_40 : decode cX6_goBack 40 = .ok (.aload_n 0, 1) := by decide +kernel
theorem dX6_goBack_41 : decode cX6_goBack 41 = .ok (.getfield 103, 3) := by decide +kernel
theorem dX6_goBack_44 : decode cX6_goBack 44 = .ok (.baload, 1) := by decide +kernel
theorem dX6_goBack_45 : decode cX6_goBack 45 = .ok (.ifCond .eq 15, 3) := by decide +kernel
theorem dX6_goBack_48 : decode cX6_goBack 48 = .ok (.aload_n 0, 1) := by decide +kernel
theorem dX6_goBack_49 : decode cX6_goBack 49 = .ok (.iload_n 1, 1) := by decide +kernel
theorem dX6_goBack_50 : decode cX6_goBack 50 = .ok (.invokevirtual 79, 3) := by decide +kernel
theorem dX6_goBack_53 : decode cX6_goBack 53 = .ok (.ifCond .ne 7, 3) := by decide +kernel
theorem dX6_goBack_56 : decode cX6_goBack 56 = .ok (.iconst 1, 1) := by decide +kernel
theorem dX6_goBack_57 : decode cX6_goBack 57 = .ok (.goto 4, 3) := by decide +kernel
theorem dX6_goBack_60 : decode cX6_goBack 60 = .ok (.iconst 0, 1) := by decide +kernel
theorem dX6_goBack_61 : decode cX6_goBack 61 = .ok (.istore_n 2, 1) := by decide +kernel
theorem dX6_goBack_62 : decode cX6_goBack 62 = .ok (.aload_n 0, 1) := by decide +kernel
theorem dX6_goBack_63 : decode cX6_goBack 63 = .ok (.aload_n 0, 1) := by decide +kernel
theorem dX6_goBack_64 : decode cX6_goBack 64 = .ok (.getfield 69, 3) := by decide +kernel
theorem dX6_goBack_67 : decode cX6_goBack 67 = .ok (.iconst 1, 1) := by decide +kernel
theorem dX6_goBack_68 : decode cX6_goBack 68 = .ok (.iload_n 1, 1) := by decide +kernel
theorem dX6_goBack_69 : decode cX6_goBack 69 = .ok (.iconst 1, 1) := by decide +kernel
theorem dX6_goBack_70 : decode cX6_goBack 70 = .ok (.isub, 1) := by decide +kernel
theorem dX6_goBack_71 : decode cX6_goBack 71 = .ok (.ishl, 1) := by decide +kernel
theorem dX6_goBack_72 : decode cX6_goBack 72 = .ok (.iconst (-1), 1) := by decide +kernel
theorem dX6_goBack_73 : decode cX6_goBack 73 = .ok (.ixor, 1) := by decide +kernel
theorem dX6_goBack_74 : decode cX6_goBack 74 = .ok (.iand, 1) := by decide +kernel
theorem dX6_goBack_75 : decode cX6_goBack 75 = .ok (.putfield 69, 3) := by decide +kernel
theorem dX6_goBack_78 : decode cX6_goBack 78 = .ok (.aload_n 0, 1) := by decide +kernel
theorem dX6_goBack_79 : decode cX6_goBack 79 = .ok (.aload_n 0, 1) := by decide +kernel
theorem dX6_goBack_80 : decode cX6_goBack 80 = .ok (.getfield 72, 3) := by decide +kernel
theorem dX6_goBack_83 : decode cX6_goBack 83 = .ok (.iconst 1, 1) := by decide +kernel
theorem dX6_goBack_84 : decode cX6_goBack 84 = .ok (.iload_n 1, 1) := by decide +kernel
theorem dX6_goBack_85 : decode cX6_goBack 85 = .ok (.iconst 1, 1) := by decide +kernel
theorem dX6_goBack_86 : decode cX6_goBack 86 = .ok (.isub, 1) := by decide +kernel
theorem dX6_goBack_87 : decode cX6_goBack 87 = .ok (.ishl, 1) := by decide +kernel
theorem dX6_goBack_88 : decode cX6_goBack 88 = .ok (.iconst (-1), 1) := by decide +kernel
theorem dX6_goBack_89 : decode cX6_goBack 89 = .ok (.ixor, 1) := by decide +kernel
theorem dX6_goBack_90 : decode cX6_goBack 90 = .ok (.iand, 1) := by decide +kernel
theorem dX6_goBack_91 : decode cX6_goBack 91 = .ok (.putfield 72, 3) := by decide +kernel
theorem dX6_goBack_94 : decode cX6_goBack 94 = .ok (.iload_n 2, 1) := by decide +kernel
theorem dX6_goBack_95 : decode cX6_goBack 95 = .ok (.ifCond .eq 11, 3) := by decide +kernel
theorem dX6_goBack_98 : decode cX6_goBack 98 = .ok (.aload_n 0, 1) := by decide +kernel
theorem dX6_goBack_99 : decode cX6_goBack 99 = .ok (.iload_n 1, 1) := by decide +kernel
theorem dX6_goBack_100 : decode cX6_goBack 100 = .ok (.iconst 1, 1) := by decide +kernel
theorem dX6_goBack_101 : decode cX6_goBack 101 = .ok (.iconst 1, 1) := by decide +kernel
theorem dX6_goBack_102 : decode cX6_goBack 102 = .ok (.invokevirtual 109, 3) := by decide +kernel
theorem dX6_goBack_105 : decode cX6_goBack 105 = .ok (.return_, 1) := by decide +kernel
theorem dX6_goBack_106 : decode cX6_goBack 106 = .ok (.goto (-97), 3) := by decide +kernel
theorem dX6_goBack_109 : decode cX6_goBack 109 = .ok (.aload_n 0, 1) := by decide +kernel
theorem dX6_goBack_110 : decode cX6_goBack 110 = .ok (.aload_n 0, 1) := by decide +kernel
theorem dX6_goBack_111 : decode cX6_goBack 111 = .ok (.getfield 32, 3) := by decide +kernel
theorem dX6_goBack_114 : decode cX6_goBack 114 = .ok (.invokevirtual 106, 3) := by decide +kernel
theorem dX6_goBack_117 : decode cX6_goBack 117 = .ok (.ifCond .eq 30, 3) := by decide +kernel
theorem dX6_goBack_120 : decode cX6_goBack 120 = .ok (.aload_n 0, 1) := by decide +kernel
theorem dX6_goBack_121 : decode cX6_goBack 121 = .ok (.aload_n 0, 1) := by decide +kernel
theorem dX6_goBack_122 : decode cX6_goBack 122 = .ok (.getfield 32, 3) := by decide +kernel
theorem dX6_goBack_125 : decode cX6_goBack 125 = .ok (.ifCond .ge 7, 3) := by decide +kernel
theorem dX6_goBack_128 : decode cX6_goBack 128 = .ok (.iconst 0, 1) := by decide +kernel
theorem dX6_goBack_129 : decode cX6_goBack 129 = .ok (.goto 7, 3) := by decide +kernel
theorem dX6_goBack_132 : decode cX6_goBack 132 = .ok (.aload_n 0, 1) := by decide +kernel
theorem dX6_goBack_133 : decode cX6_goBack 133 = .ok (.getfield 113, 3) := by decide +kernel
theorem dX6_goBack_136 : decode cX6_goBack 136 = .ok (.invokevirtual 106, 3) := by decide +kernel
theorem dX6_goBack_139 : decode cX6_goBack 139 = .ok (.ifCond .eq 8, 3) := by decide +kernel
theorem dX6_goBack_142 : decode cX6_goBack 142 = .ok (.aload_n 0, 1) := by decide +kernel
theorem dX6_goBack_143 : decode cX6_goBack 143 = .ok (.iconst 1, 1) := by decide +kernel
theorem dX6_goBack_144 : decode cX6_goBack 144 = .ok (.putfield 116, 3) := by decide +kernel
theorem dX6_goBack_147 : decode cX6_goBack 147 = .ok (.return_, 1) := by decide +kernel
theorem dX6_step_0 : decode cX6_step 0 = .ok (.aload_n 0, 1) := by decide +kernel
theorem dX6_step_1 : decode cX6_step 1 = .ok (.dup, 1) := by decide +kernel
theorem dX6_step_2 : decode cX6_step 2 = .ok (.getfield 119, 3) := by decide +kernel
theorem dX6_step_5 : decode cX6_step 5 = .ok (.iconst 1, 1) := by decide +kernel
theorem dX6_step_6 : decode cX6_step 6 = .ok (.iadd, 1) := by decide +kernel
theorem dX6_step_7 : decode cX6_step 7 = .ok (.putfield 119, 3) := by decide +kernel
theorem dX6_step_10 : decode cX6_step 10 = .ok (.aload_n 0, 1) := by decide +kernel
theorem dX6_step_11 : decode cX6_step 11 = .ok (.getfield 32, 3) := by decide +kernel
theorem dX6_step_14 : decode cX6_step 14 = .ok (.ifCond .lt 7, 3) := by decide +kernel
theorem dX6_step_17 : decode cX6_step 17 = .ok (.iconst 1, 1) := by decide +kernel
theorem dX6_step_18 : decode cX6_step 18 = .ok (.goto 4, 3) := by decide +kernel
theorem dX6_step_21 : decode cX6_step 21 = .ok (.iconst 0, 1) := by decide +kernel
theorem dX6_step_22 : decode cX6_step 22 = .ok (.istore_n 1, 1) := by decide +kernel
theorem dX6_step_23 : decode cX6_step 23 = .ok (.aload_n 0, 1) := by decide +kernel
theorem dX6_step_24 : decode cX6_step 24 = .ok (.iload_n 1, 1) := by decide +kernel
theorem dX6_step_25 : decode cX6_step 25 = .ok (.aload_n 0, 1) := by decide +kernel
theorem dX6_step_26 : decode cX6_step 26 = .ok (.getfield 32, 3) := by decide +kernel
theorem dX6_step_29 : decode cX6_step 29 = .ok (.iconst 1, 1) := by decide +kernel
theorem dX6_step_30 : decode cX6_step 30 = .ok (.isub, 1) := by decide +kernel
theorem dX6_step_31 : decode cX6_step 31 = .ok (.invokevirtual 122, 3) := by decide +kernel
theorem dX6_step_34 : decode cX6_step 34 = .ok (.ifCond .eq 8, 3) := by decide +kernel
theorem dX6_step_37 : decode cX6_step 37 = .ok (.aload_n 0, 1) := by decide +kernel
theorem dX6_step_38 : decode cX6_step 38 = .ok (.invokevirtual 126, 3) := by decide +kernel
theorem dX6_step_41 : decode cX6_step 41 = .ok (.return_, 1) := by decide +kernel
theorem dX6_step_42 : decode cX6_step 42 = .ok (.aload_n 0, 1) := by decide +kernel
theorem dX6_step_43 : decode cX6_step 43 = .ok (.iload_n 1, 1) := by decide +kernel
theorem dX6_step_44 : decode cX6_step 44 = .ok (.aload_n 0, 1) := by decide +kernel
theorem dX6_step_45 : decode cX6_step 45 = .ok (.getfield 32, 3) := by decide +kernel
theorem dX6_step_48 : decode cX6_step 48 = .ok (.iconst 1, 1) := by decide +kernel
theorem dX6_step_49 : decode cX6_step 49 = .ok (.isub, 1) := by decide +kernel
theorem dX6_step_50 : decode cX6_step 50 = .ok (.invokevirtual 129, 3) := by decide +kernel
theorem dX6_step_53 : decode cX6_step 53 = .ok (.istore_n 2, 1) := by decide +kernel
theorem dX6_step_54 : decode cX6_step 54 = .ok (.iload_n 2, 1) := by decide +kernel
theorem dX6_step_55 : decode cX6_step 55 = .ok (.ifCond .eq 28, 3) := by decide +kernel
theorem dX6_step_58 : decode cX6_step 58 = .ok (.aload_n 0, 1) := by decide +kernel
theorem dX6_step_59 : decode cX6_step 59 = .ok (.iload_n 2, 1) := by decide +kernel
theorem dX6_step_60 : decode cX6_step 60 = .ok (.ifCond .ge 8, 3) := by decide +kernel
theorem dX6_step_63 : decode cX6_step 63 = .ok (.iload_n 2, 1) := by decide +kernel
theorem dX6_step_64 : decode cX6_step 64 = .ok (.ineg, 1) := by decide +kernel
theorem dX6_step_65 : decode cX6_step 65 = .ok (.goto 4, 3) := by decide +kernel
theorem dX6_step_68 : decode cX6_step 68 = .ok (.iload_n 2, 1) := by decide +kernel
theorem dX6_step_69 : decode cX6_step 69 = .ok (.iload_n 2, 1) := by decide +kernel
theorem dX6_step_70 : decode cX6_step 70 = .ok (.ifCond .le 7, 3) := by decide +kernel
theorem dX6_step_73 : decode cX6_step 73 = .ok (.iconst 1, 1) := by decide +kernel
theorem dX6_step_74 : decode cX6_step 74 = .ok (.goto 4, 3) := by decide +kernel
theorem dX6_step_77 : decode cX6_step 77 = .ok (.iconst 0, 1) := by decide +kernel
theorem dX6_step_78 : decode cX6_step 78 = .ok (.iconst 0, 1) := by decide +kernel
theorem dX6_step_79 : decode cX6_step 79 = .ok (.invokevirtual 109, 3) := by decide +kernel
theorem dX6_step_82 : decode cX6_step 82 = .ok (.return_, 1) := by decide +kernel
theorem dX6_step_83 : decode cX6_step 83 = .ok (.aload_n 0, 1) := by decide +kernel
theorem dX6_step_84 : decode cX6_step 84 = .ok (.getfield 103, 3) := by decide +kernel
theorem dX6_step_87 : decode cX6_step 87 = .ok (.bipush 16, 2) := by decide +kernel
theorem dX6_step_89 : decode cX6_step 89 = .ok (.if_icmp .ne 20, 3) := by decide +kernel
theorem dX6_step_92 : decode cX6_step 92 = .ok (.aload_n 0, 1) := by decide +kernel
theorem dX6_step_93 : decode cX6_step 93 = .ok (.aload_n 0, 1) := by decide +kernel
theorem dX6_step_94 : decode cX6_step 94 = .ok (.invokevirtual 85, 3) := by decide +kernel
theorem dX6_step_97 : decode cX6_step 97 = .ok (.putfield 32, 3) := by decide +kernel
theorem dX6_step_100 : decode cX6_step 100 = .ok (.aload_n 0, 1) := by decide +kernel
theorem dX6_step_101 : decode cX6_step 101 = .ok (.aload_n 0, 1) := by decide +kernel
theorem dX6_step_102 : decode cX6_step 102 = .ok (.getfield 72, 3) := by decide +kernel
theorem dX6_step_105 : decode cX6_step 105 = .ok (.putfield 113, 3) := by decide +kernel
theorem dX6_step_108 : decode cX6_step 108 = .ok (.return_, 1) := by decide +kernel
theorem dX6_step_109 : decode cX6_step 109 = .ok (.iconst 1, 1) := by decide +kernel
theorem dX6_step_110 : decode cX6_step 110 = .ok (.istore_n 3, 1) := by decide +kernel
theorem dX6_step_111 : decode cX6_step 111 = .ok (.aload_n 0, 1) := by decide +kernel
theorem dX6_step_112 : decode cX6_step 112 = .ok (.iload_n 3, 1) := by decide +kernel
theorem dX6_step_113 : decode cX6_step 113 = .ok (.invokevirtual 75, 3) := by decide +kernel
theorem dX6_step_116 : decode cX6_step 116 = .ok (.ifCond .eq 9, 3) := by decide +kernel
theorem dX6_step_119 : decode cX6_step 119 = .ok (.iinc 3 1, 3) := by decide +kernel
theorem dX6_step_122 : decode cX6_step 122 = .ok (.goto (-11), 3) := by decide +kernel
theorem dX6_step_125 : decode cX6_step 125 = .ok (.aload_n 0, 1) := by decide +kernel
theorem dX6_step_126 : decode cX6_step 126 = .ok (.iload_n 3, 1) := by decide +kernel
theorem dX6_step_127 : decode cX6_step 127 = .ok (.invokevirtual 106, 3) := by decide +kernel
theorem dX6_step_130 : decode cX6_step 130 = .ok (.ifCond .eq 10, 3) := by decide +kernel
theorem dX6_step_133 : decode cX6_step 133 = .ok (.aload_n 0, 1) := by decide +kernel
theorem dX6_step_134 : decode cX6_step 134 = .ok (.iload_n 3, 1) := by decide +kernel
theorem dX6_step_135 : decode cX6_step 135 = .ok (.iconst 0, 1) := by decide +kernel
theorem dX6_step_136 : decode cX6_step 136 = .ok (.iconst 1, 1) := by decide +kernel
theorem dX6_step_137 : decode cX6_step 137 = .ok (.invokevirtual 109, 3) := by decide +kernel
theorem dX6_step_140 : decode cX6_step 140 = .ok (.return_, 1) := by decide +kernel
theorem dX6_run_0 : decode cX6_run 0 = .ok (.iload_n 1, 1) := by decide +kernel
theorem dX6_run_1 : decode cX6_run 1 = .ok (.iconst 1, 1) := by decide +kernel
theorem dX6_run_2 : decode cX6_run 2 = .ok (.sipush 2000, 3) := by decide +kernel
theorem dX6_run_5 : decode cX6_run 5 = .ok (.invokestatic 58, 3) := by decide +kernel
theorem dX6_run_8 : decode cX6_run 8 = .ok (.ifCond .ne 5, 3) := by decide +kernel
theorem dX6_run_11 : decode cX6_run 11 = .ok (.iconst (-1), 1) := by decide +kernel
theorem dX6_run_12 : decode cX6_run 12 = .ok (.ireturn, 1) := by decide +kernel
theorem dX6_run_13 : decode cX6_run 13 = .ok (.aload_n 0, 1) := by decide +kernel
theorem dX6_run_14 : decode cX6_run 14 = .ok (.getfield 54, 3) := by decide +kernel
theorem dX6_run_17 : decode cX6_run 17 = .ok (.ifCond .ne 21, 3) := by decide +kernel
theorem dX6_run_20 : decode cX6_run 20 = .ok (.aload_n 0, 1) := by decide +kernel
theorem dX6_run_21 : decode cX6_run 21 = .ok (.iconst 1, 1) := by decide +kernel
theorem dX6_run_22 : decode cX6_run 22 = .ok (.putfield 54, 3) := by decide +kernel
theorem dX6_run_25 : decode cX6_run 25 = .ok (.aload_n 0, 1) := by decide +kernel
theorem dX6_run_26 : decode cX6_run 26 = .ok (.aload_n 0, 1) := by decide +kernel
theorem dX6_run_27 : decode cX6_run 27 = .ok (.getfield 19, 3) := by decide +kernel
theorem dX6_run_30 : decode cX6_run 30 = .ok (.aload_n 0, 1) := by decide +kernel
theorem dX6_run_31 : decode cX6_run 31 = .ok (.getfield 65, 3) := by decide +kernel
theorem dX6_run_34 : decode cX6_run 34 = .ok (.iaload, 1) := by decide +kernel
theorem dX6_run_35 : decode cX6_run 35 = .ok (.putfield 62, 3) := by decide +kernel
theorem dX6_run_38 : decode cX6_run 38 = .ok (.aload_n 0, 1) := by decide +kernel
theorem dX6_run_39 : decode cX6_run 39 = .ok (.aload_n 0, 1) := by decide +kernel
theorem dX6_run_40 : decode cX6_run 40 = .ok (.getfield 133, 3) := by decide +kernel
theorem dX6_run_43 : decode cX6_run 43 = .ok (.putfield 69, 3) := by decide +kernel
theorem dX6_run_46 : decode cX6_run 46 = .ok (.aload_n 0, 1) := by decide +kernel
theorem dX6_run_47 : decode cX6_run 47 = .ok (.aload_n 0, 1) := by decide +kernel
theorem dX6_run_48 : decode cX6_run 48 = .ok (.getfield 136, 3) := by decide +kernel
theorem dX6_run_51 : decode cX6_run 51 = .ok (.putfield 72, 3) := by decide +kernel
theorem dX6_run_54 : decode cX6_run 54 = .ok (.iconst 0, 1) := by decide +kernel
theorem dX6_run_55 : decode cX6_run 55 = .ok (.istore_n 2, 1) := by decide +kernel
theorem dX6_run_56 : decode cX6_run 56 = .ok (.iload_n 2, 1) := by decide +kernel
theorem dX6_run_57 : decode cX6_run 57 = .ok (.iload_n 1, 1) := by decide +kernel
theorem dX6_run_58 : decode cX6_run 58 = .ok (.if_icmp .ge 27, 3) := by decide +kernel
theorem dX6_run_61 : decode cX6_run 61 = .ok (.aload_n 0, 1) := by decide +kernel
theorem dX6_run_62 : decode cX6_run 62 = .ok (.getfield 116, 3) := by decide +kernel
theorem dX6_run_65 : decode cX6_run 65 = .ok (.ifCond .ne 20, 3) := by decide +kernel
theorem dX6_run_68 : decode cX6_run 68 = .ok (.aload_n 0, 1) := by decide +kernel
theorem dX6_run_69 : decode cX6_run 69 = .ok (.getfield 96, 3) := by decide +kernel
theorem dX6_run_72 : decode cX6_run 72 = .ok (.ifCond .ne 13, 3) := by decide +kernel
theorem dX6_run_75 : decode cX6_run 75 = .ok (.aload_n 0, 1) := by decide +kernel
theorem dX6_run_76 : decode cX6_run 76 = .ok (.invokevirtual 139, 3) := by decide +kernel
theorem dX6_run_79 : decode cX6_run 79 = .ok (.iinc 2 1, 3) := by decide +kernel
theorem dX6_run_82 : decode cX6_run 82 = .ok (.goto (-26), 3) := by decide +kernel
theorem dX6_run_85 : decode cX6_run 85 = .ok (.aload_n 0, 1) := by decide +kernel
theorem dX6_run_86 : decode cX6_run 86 = .ok (.aload_n 0, 1) := by decide +kernel
theorem dX6_run_87 : decode cX6_run 87 = .ok (.getfield 69, 3) := by decide +kernel
theorem dX6_run_90 : decode cX6_run 90 = .ok (.putfield 133, 3) := by decide +kernel
theorem dX6_run_93 : decode cX6_run 93 = .ok (.aload_n 0, 1) := by decide +kernel
theorem dX6_run_94 : decode cX6_run 94 = .ok (.aload_n 0, 1) := by decide +kernel
theorem dX6_run_95 : decode cX6_run 95 = .ok (.getfield 72, 3) := by decide +kernel
theorem dX6_run_98 : decode cX6_run 98 = .ok (.putfield 136, 3) := by decide +kernel
theorem dX6_run_101 : decode cX6_run 101 = .ok (.aload_n 0, 1) := by decide +kernel
theorem dX6_run_102 : decode cX6_run 102 = .ok (.getfield 96, 3) := by decide +kernel
theorem dX6_run_105 : decode cX6_run 105 = .ok (.ifCond .eq 8, 3) := by decide +kernel
theorem dX6_run_108 : decode cX6_run 108 = .ok (.bipush (-2), 2) := by decide +kernel
theorem dX6_run_110 : decode cX6_run 110 = .ok (.goto 15, 3) := by decide +kernel
theorem dX6_run_113 : decode cX6_run 113 = .ok (.aload_n 0, 1) := by decide +kernel
theorem dX6_run_114 : decode cX6_run 114 = .ok (.getfield 116, 3) := by decide +kernel
theorem dX6_run_117 : decode cX6_run 117 = .ok (.ifCond .eq 7, 3) := by decide +kernel
theorem dX6_run_120 : decode cX6_run 120 = .ok (.iconst 1, 1) := by decide +kernel
theorem dX6_run_121 : decode cX6_run 121 = .ok (.goto 4, 3) := by decide +kernel
theorem dX6_run_124 : decode cX6_run 124 = .ok (.iconst 2, 1) := by decide +kernel
theorem dX6_run_125 : decode cX6_run 125 = .ok (.ireturn, 1) := by decide +kernel
theorem dX6_optimum_0 : decode cX6_optimum 0 = .ok (.aload_n 0, 1) := by decide +kernel
theorem dX6_optimum_1 : decode cX6_optimum 1 = .ok (.getfield 116, 3) := by decide +kernel
theorem dX6_optimum_4 : decode cX6_optimum 4 = .ok (.ifCond .eq 10, 3) := by decide +kernel
theorem dX6_optimum_7 : decode cX6_optimum 7 = .ok (.aload_n 0, 1) := by decide +kernel
theorem dX6_optimum_8 : decode cX6_optimum 8 = .ok (.getfield 32, 3) := by decide +kernel
theorem dX6_optimum_11 : decode cX6_optimum 11 = .ok (.goto 5, 3) := by decide +kernel
theorem dX6_optimum_14 : decode cX6_optimum 14 = .ok (.bipush (-3), 2) := by decide +kernel
theorem dX6_optimum_16 : decode cX6_optimum 16 = .ok (.ireturn, 1) := by decide +kernel
theorem dX6_value_0 : decode cX6_value 0 = .ok (.iload_n 1, 1) := by decide +kernel
theorem dX6_value_1 : decode cX6_value 1 = .ok (.iconst 1, 1) := by decide +kernel
theorem dX6_value_2 : decode cX6_value 2 = .ok (.bipush 16, 2) := by decide +kernel
theorem dX6_value_4 : decode cX6_value 4 = .ok (.invokestatic 58, 3) := by decide +kernel
theorem dX6_value_7 : decode cX6_value 7 = .ok (.ifCond .eq 10, 3) := by decide +kernel
theorem dX6_value_10 : decode cX6_value 10 = .ok (.aload_n 0, 1) := by decide +kernel
theorem dX6_value_11 : decode cX6_value 11 = .ok (.getfield 32, 3) := by decide +kernel
theorem dX6_value_14 : decode cX6_value 14 = .ok (.ifCond .ge 5, 3) := by decide +kernel
theorem dX6_value_17 : decode cX6_value 17 = .ok (.iconst (-1), 1) := by decide +kernel
theorem dX6_value_18 : decode cX6_value 18 = .ok (.ireturn, 1) := by decide +kernel
theorem dX6_value_19 : decode cX6_value 19 = .ok (.aload_n 0, 1) := by decide +kernel
theorem dX6_value_20 : decode cX6_value 20 = .ok (.getfield 113, 3) := by decide +kernel
theorem dX6_value_23 : decode cX6_value 23 = .ok (.iload_n 1, 1) := by decide +kernel
theorem dX6_value_24 : decode cX6_value 24 = .ok (.iconst 1, 1) := by decide +kernel
theorem dX6_value_25 : decode cX6_value 25 = .ok (.isub, 1) := by decide +kernel
theorem dX6_value_26 : decode cX6_value 26 = .ok (.ishr, 1) := by decide +kernel
theorem dX6_value_27 : decode cX6_value 27 = .ok (.iconst 1, 1) := by decide +kernel
theorem dX6_value_28 : decode cX6_value 28 = .ok (.iand, 1) := by decide +kernel
theorem dX6_value_29 : decode cX6_value 29 = .ok (.ireturn, 1) := by decide +kernel
theorem dX6_logSize_0 : decode cX6_logSize 0 = .ok (.aload_n 0, 1) := by decide +kernel
theorem dX6_logSize_1 : decode cX6_logSize 1 = .ok (.getfield 93, 3) := by decide +kernel
theorem dX6_logSize_4 : decode cX6_logSize 4 = .ok (.ireturn, 1) := by decide +kernel
theorem dX6_logAt_0 : decode cX6_logAt 0 = .ok (.iload_n 1, 1) := by decide +kernel
theorem dX6_logAt_1 : decode cX6_logAt 1 = .ok (.ifCond .lt 20, 3) := by decide +kernel
theorem dX6_logAt_4 : decode cX6_logAt 4 = .ok (.iload_n 1, 1) := by decide +kernel
theorem dX6_logAt_5 : decode cX6_logAt 5 = .ok (.aload_n 0, 1) := by decide +kernel
theorem dX6_logAt_6 : decode cX6_logAt 6 = .ok (.getfield 93, 3) := by decide +kernel
theorem dX6_logAt_9 : decode cX6_logAt 9 = .ok (.if_icmp .ge 12, 3) := by decide +kernel
theorem dX6_logAt_12 : decode cX6_logAt 12 = .ok (.aload_n 0, 1) := by decide +kernel
theorem dX6_logAt_13 : decode cX6_logAt 13 = .ok (.getfield 36, 3) := by decide +kernel
theorem dX6_logAt_16 : decode cX6_logAt 16 = .ok (.iload_n 1, 1) := by decide +kernel
theorem dX6_logAt_17 : decode cX6_logAt 17 = .ok (.iaload, 1) := by decide +kernel
theorem dX6_logAt_18 : decode cX6_logAt 18 = .ok (.goto 5, 3) := by decide +kernel
theorem dX6_logAt_21 : decode cX6_logAt 21 = .ok (.bipush (-9), 2) := by decide +kernel
theorem dX6_logAt_23 : decode cX6_logAt 23 = .ok (.ireturn, 1) := by decide +kernel
theorem dX6_poke_0 : decode cX6_poke 0 = .ok (.aload_n 0, 1) := by decide +kernel
theorem dX6_poke_1 : decode cX6_poke 1 = .ok (.getfield 116, 3) := by decide +kernel
theorem dX6_poke_4 : decode cX6_poke 4 = .ok (.ifCond .eq 22, 3) := by decide +kernel
theorem dX6_poke_7 : decode cX6_poke 7 = .ok (.iload_n 1, 1) := by decide +kernel
theorem dX6_poke_8 : decode cX6_poke 8 = .ok (.iconst 0, 1) := by decide +kernel
theorem dX6_poke_9 : decode cX6_poke 9 = .ok (.aload_n 0, 1) := by decide +kernel
theorem dX6_poke_10 : decode cX6_poke 10 = .ok (.getfield 93, 3) := by decide +kernel
theorem dX6_poke_13 : decode cX6_poke 13 = .ok (.invokestatic 58, 3) := by decide +kernel
theorem dX6_poke_16 : decode cX6_poke 16 = .ok (.ifCond .eq 10, 3) := by decide +kernel
theorem dX6_poke_19 : decode cX6_poke 19 = .ok (.iload_n 1, 1) := by decide +kernel
theorem dX6_poke_20 : decode cX6_poke 20 = .ok (.sipush 400, 3) := by decide +kernel
theorem dX6_poke_23 : decode cX6_poke 23 = .ok (.if_icmp .ne 5, 3) := by decide +kernel
theorem dX6_poke_26 : decode cX6_poke 26 = .ok (.iconst (-1), 1) := by decide +kernel
theorem dX6_poke_27 : decode cX6_poke 27 = .ok (.ireturn, 1) := by decide +kernel
theorem dX6_poke_28 : decode cX6_poke 28 = .ok (.aload_n 0, 1) := by decide +kernel
theorem dX6_poke_29 : decode cX6_poke 29 = .ok (.getfield 36, 3) := by decide +kernel
theorem dX6_poke_32 : decode cX6_poke 32 = .ok (.iload_n 1, 1) := by decide +kernel
theorem dX6_poke_33 : decode cX6_poke 33 = .ok (.iload_n 2, 1) := by decide +kernel
theorem dX6_poke_34 : decode cX6_poke 34 = .ok (.iastore, 1) := by decide +kernel
theorem dX6_poke_35 : decode cX6_poke 35 = .ok (.aload_n 0, 1) := by decide +kernel
theorem dX6_poke_36 : decode cX6_poke 36 = .ok (.iload_n 1, 1) := by decide +kernel
theorem dX6_poke_37 : decode cX6_poke 37 = .ok (.aload_n 0, 1) := by decide +kernel
theorem dX6_poke_38 : decode cX6_poke 38 = .ok (.getfield 93, 3) := by decide +kernel
theorem dX6_poke_41 : decode cX6_poke 41 = .ok (.if_icmp .ne 12, 3) := by decide +kernel
theorem dX6_poke_44 : decode cX6_poke 44 = .ok (.aload_n 0, 1) := by decide +kernel
theorem dX6_poke_45 : decode cX6_poke 45 = .ok (.getfield 93, 3) := by decide +kernel
theorem dX6_poke_48 : decode cX6_poke 48 = .ok (.iconst 1, 1) := by decide +kernel
theorem dX6_poke_49 : decode cX6_poke 49 = .ok (.iadd, 1) := by decide +kernel
theorem dX6_poke_50 : decode cX6_poke 50 = .ok (.goto 7, 3) := by decide +kernel
theorem dX6_poke_53 : decode cX6_poke 53 = .ok (.aload_n 0, 1) := by decide +kernel
theorem dX6_poke_54 : decode cX6_poke 54 = .ok (.getfield 93, 3) := by decide +kernel
theorem dX6_poke_57 : decode cX6_poke 57 = .ok (.putfield 93, 3) := by decide +kernel
theorem dX6_poke_60 : decode cX6_poke 60 = .ok (.aload_n 0, 1) := by decide +kernel
theorem dX6_poke_61 : decode cX6_poke 61 = .ok (.invokevirtual 142, 3) := by decide +kernel
theorem dX6_poke_64 : decode cX6_poke 64 = .ok (.iconst 0, 1) := by decide +kernel
theorem dX6_poke_65 : decode cX6_poke 65 = .ok (.ireturn, 1) := by decide +kernel
theorem dX6_cut_0 : decode cX6_cut 0 = .ok (.aload_n 0, 1) := by decide +kernel
theorem dX6_cut_1 : decode cX6_cut 1 = .ok (.getfield 116, 3) := by decide +kernel
theorem dX6_cut_4 : decode cX6_cut 4 = .ok (.ifCond .eq 15, 3) := by decide +kernel
theorem dX6_cut_7 : decode cX6_cut 7 = .ok (.iload_n 1, 1) := by decide +kernel
theorem dX6_cut_8 : decode cX6_cut 8 = .ok (.iconst 0, 1) := by decide +kernel
theorem dX6_cut_9 : decode cX6_cut 9 = .ok (.aload_n 0, 1) := by decide +kernel
theorem dX6_cut_10 : decode cX6_cut 10 = .ok (.getfield 93, 3) := by decide +kernel
theorem dX6_cut_13 : decode cX6_cut 13 = .ok (.invokestatic 58, 3) := by decide +kernel
theorem dX6_cut_16 : decode cX6_cut 16 = .ok (.ifCond .ne 5, 3) := by decide +kernel
theorem dX6_cut_19 : decode cX6_cut 19 = .ok (.iconst (-1), 1) := by decide +kernel
theorem dX6_cut_20 : decode cX6_cut 20 = .ok (.ireturn, 1) := by decide +kernel
theorem dX6_cut_21 : decode cX6_cut 21 = .ok (.aload_n 0, 1) := by decide +kernel
theorem dX6_cut_22 : decode cX6_cut 22 = .ok (.iload_n 1, 1) := by decide +kernel
theorem dX6_cut_23 : decode cX6_cut 23 = .ok (.putfield 93, 3) := by decide +kernel
theorem dX6_cut_26 : decode cX6_cut 26 = .ok (.aload_n 0, 1) := by decide +kernel
theorem dX6_cut_27 : decode cX6_cut 27 = .ok (.invokevirtual 142, 3) := by decide +kernel
theorem dX6_cut_30 : decode cX6_cut 30 = .ok (.iconst 0, 1) := by decide +kernel
theorem dX6_cut_31 : decode cX6_cut 31 = .ok (.ireturn, 1) := by decide +kernel
theorem dX6_anew_0 : decode cX6_anew 0 = .ok (.aload_n 0, 1) := by decide +kernel
theorem dX6_anew_1 : decode cX6_anew 1 = .ok (.iconst 2, 1) := by decide +kernel
theorem dX6_anew_2 : decode cX6_anew 2 = .ok (.putfield 39, 3) := by decide +kernel
theorem dX6_anew_5 : decode cX6_anew 5 = .ok (.aload_n 0, 1) := by decide +kernel
theorem dX6_anew_6 : decode cX6_anew 6 = .ok (.iconst 0, 1) := by decide +kernel
theorem dX6_anew_7 : decode cX6_anew 7 = .ok (.putfield 145, 3) := by decide +kernel
theorem dX6_anew_10 : decode cX6_anew 10 = .ok (.return_, 1) := by decide +kernel
theorem dX6_look_0 : decode cX6_look 0 = .ok (.aload_n 0, 1) := by decide +kernel
theorem dX6_look_1 : decode cX6_look 1 = .ok (.iconst 1, 1) := by decide +kernel
theorem dX6_look_2 : decode cX6_look 2 = .ok (.putfield 145, 3) := by decide +kernel
theorem dX6_look_5 : decode cX6_look 5 = .ok (.aload_n 0, 1) := by decide +kernel
theorem dX6_look_6 : decode cX6_look 6 = .ok (.iconst 0, 1) := by decide +kernel
theorem dX6_look_7 : decode cX6_look 7 = .ok (.putfield 148, 3) := by decide +kernel
theorem dX6_look_10 : decode cX6_look 10 = .ok (.aload_n 0, 1) := by decide +kernel
theorem dX6_look_11 : decode cX6_look 11 = .ok (.iconst 1, 1) := by decide +kernel
theorem dX6_look_12 : decode cX6_look 12 = .ok (.putfield 151, 3) := by decide +kernel
theorem dX6_look_15 : decode cX6_look 15 = .ok (.aload_n 0, 1) := by decide +kernel
theorem dX6_look_16 : decode cX6_look 16 = .ok (.getfield 42, 3) := by decide +kernel
theorem dX6_look_19 : decode cX6_look 19 = .ok (.iconst 0, 1) := by decide +kernel
theorem dX6_look_20 : decode cX6_look 20 = .ok (.iconst 0, 1) := by decide +kernel
theorem dX6_look_21 : decode cX6_look 21 = .ok (.iastore, 1) := by decide +kernel
theorem dX6_look_22 : decode cX6_look 22 = .ok (.aload_n 0, 1) := by decide +kernel
theorem dX6_look_23 : decode cX6_look 23 = .ok (.getfield 45, 3) := by decide +kernel
theorem dX6_look_26 : decode cX6_look 26 = .ok (.iconst 0, 1) := by decide +kernel
theorem dX6_look_27 : decode cX6_look 27 = .ok (.iconst 0, 1) := by decide +kernel
theorem dX6_look_28 : decode cX6_look 28 = .ok (.iastore, 1) := by decide +kernel
theorem dX6_look_29 : decode cX6_look 29 = .ok (.aload_n 0, 1) := by decide +kernel
theorem dX6_look_30 : decode cX6_look 30 = .ok (.getfield 48, 3) := by decide +kernel
theorem dX6_look_33 : decode cX6_look 33 = .ok (.iconst 0, 1) := by decide +kernel
theorem dX6_look_34 : decode cX6_look 34 = .ok (.iconst 0, 1) := by decide +kernel
theorem dX6_look_35 : decode cX6_look 35 = .ok (.bastore, 1) := by decide +kernel
theorem dX6_look_36 : decode cX6_look 36 = .ok (.aload_n 0, 1) := by decide +kernel
theorem dX6_look_37 : decode cX6_look 37 = .ok (.getfield 93, 3) := by decide +kernel
theorem dX6_look_40 : decode cX6_look 40 = .ok (.iconst 2, 1) := by decide +kernel
theorem dX6_look_41 : decode cX6_look 41 = .ok (.if_icmp .ge 9, 3) := by decide +kernel
theorem dX6_look_44 : decode cX6_look 44 = .ok (.aload_n 0, 1) := by decide +kernel
theorem dX6_look_45 : decode cX6_look 45 = .ok (.iconst 0, 1) := by decide +kernel
theorem dX6_look_46 : decode cX6_look 46 = .ok (.putfield 39, 3) := by decide +kernel
theorem dX6_look_49 : decode cX6_look 49 = .ok (.return_, 1) := by decide +kernel
theorem dX6_look_50 : decode cX6_look 50 = .ok (.aload_n 0, 1) := by decide +kernel
theorem dX6_look_51 : decode cX6_look 51 = .ok (.getfield 36, 3) := by decide +kernel
theorem dX6_look_54 : decode cX6_look 54 = .ok (.aload_n 0, 1) := by decide +kernel
theorem dX6_look_55 : decode cX6_look 55 = .ok (.getfield 93, 3) := by decide +kernel
theorem dX6_look_58 : decode cX6_look 58 = .ok (.iconst 2, 1) := by decide +kernel
theorem dX6_look_59 : decode cX6_look 59 = .ok (.isub, 1) := by decide +kernel
theorem dX6_look_60 : decode cX6_look 60 = .ok (.iaload, 1) := by decide +kernel
theorem dX6_look_61 : decode cX6_look 61 = .ok (.istore_n 1, 1) := by decide +kernel
theorem dX6_look_62 : decode cX6_look 62 = .ok (.aload_n 0, 1) := by decide +kernel
theorem dX6_look_63 : decode cX6_look 63 = .ok (.ldc 154, 2) := by decide +kernel
theorem dX6_look_65 : decode cX6_look 65 = .ok (.putfield 69, 3) := by decide +kernel
theorem dX6_look_68 : decode cX6_look 68 = .ok (.aload_n 0, 1) := by decide +kernel
theorem dX6_look_69 : decode cX6_look 69 = .ok (.aload_n 0, 1) := by decide +kernel
theorem dX6_look_70 : decode cX6_look 70 = .ok (.getfield 36, 3) := by decide +kernel
theorem dX6_look_73 : decode cX6_look 73 = .ok (.aload_n 0, 1) := by decide +kernel
theorem dX6_look_74 : decode cX6_look 74 = .ok (.getfield 93, 3) := by decide +kernel
theorem dX6_look_77 : decode cX6_look 77 = .ok (.iconst 1, 1) := by decide +kernel
theorem dX6_look_78 : decode cX6_look 78 = .ok (.isub, 1) := by decide +kernel
theorem dX6_look_79 : decode cX6_look 79 = .ok (.iaload, 1) := by decide +kernel
theorem dX6_look_80 : decode cX6_look 80 = .ok (.ldc 154, 2) := by decide +kernel
theorem dX6_look_82 : decode cX6_look 82 = .ok (.iand, 1) := by decide +kernel
theorem dX6_look_83 : decode cX6_look 83 = .ok (.putfield 72, 3) := by decide +kernel
theorem dX6_look_86 : decode cX6_look 86 = .ok (.iload_n 1, 1) := by decide +kernel
theorem dX6_look_87 : decode cX6_look 87 = .ok (.iconst (-1), 1) := by decide +kernel
theorem dX6_look_88 : decode cX6_look 88 = .ok (.if_icmp .eq 25, 3) := by decide +kernel
theorem dX6_look_91 : decode cX6_look 91 = .ok (.aload_n 0, 1) := by decide +kernel
theorem dX6_look_92 : decode cX6_look 92 = .ok (.iconst 0, 1) := by decide +kernel
theorem dX6_look_93 : decode cX6_look 93 = .ok (.iconst 0, 1) := by decide +kernel
theorem dX6_look_94 : decode cX6_look 94 = .ok (.invokevirtual 122, 3) := by decide +kernel
theorem dX6_look_97 : decode cX6_look 97 = .ok (.ifCond .ne 11, 3) := by decide +kernel
theorem dX6_look_100 : decode cX6_look 100 = .ok (.aload_n 0, 1) := by decide +kernel
theorem dX6_look_101 : decode cX6_look 101 = .ok (.invokevirtual 85, 3) := by decide +kernel
theorem dX6_look_104 : decode cX6_look 104 = .ok (.iload_n 1, 1) := by decide +kernel
theorem dX6_look_105 : decode cX6_look 105 = .ok (.if_icmp .eq 8, 3) := by decide +kernel
theorem dX6_look_108 : decode cX6_look 108 = .ok (.aload_n 0, 1) := by decide +kernel
theorem dX6_look_109 : decode cX6_look 109 = .ok (.iconst 0, 1) := by decide +kernel
theorem dX6_look_110 : decode cX6_look 110 = .ok (.putfield 39, 3) := by decide +kernel
theorem dX6_look_113 : decode cX6_look 113 = .ok (.return_, 1) := by decide +kernel
theorem dX6_hold_0 : decode cX6_hold 0 = .ok (.aload_n 0, 1) := by decide +kernel
theorem dX6_hold_1 : decode cX6_hold 1 = .ok (.getfield 42, 3) := by decide +kernel
theorem dX6_hold_4 : decode cX6_hold 4 = .ok (.aload_n 0, 1) := by decide +kernel
theorem dX6_hold_5 : decode cX6_hold 5 = .ok (.getfield 151, 3) := by decide +kernel
theorem dX6_hold_8 : decode cX6_hold 8 = .ok (.iload_n 1, 1) := by decide +kernel
theorem dX6_hold_9 : decode cX6_hold 9 = .ok (.iastore, 1) := by decide +kernel
theorem dX6_hold_10 : decode cX6_hold 10 = .ok (.aload_n 0, 1) := by decide +kernel
theorem dX6_hold_11 : decode cX6_hold 11 = .ok (.getfield 45, 3) := by decide +kernel
theorem dX6_hold_14 : decode cX6_hold 14 = .ok (.aload_n 0, 1) := by decide +kernel
theorem dX6_hold_15 : decode cX6_hold 15 = .ok (.getfield 151, 3) := by decide +kernel
theorem dX6_hold_18 : decode cX6_hold 18 = .ok (.iload_n 2, 1) := by decide +kernel
theorem dX6_hold_19 : decode cX6_hold 19 = .ok (.iastore, 1) := by decide +kernel
theorem dX6_hold_20 : decode cX6_hold 20 = .ok (.aload_n 0, 1) := by decide +kernel
theorem dX6_hold_21 : decode cX6_hold 21 = .ok (.getfield 48, 3) := by decide +kernel
theorem dX6_hold_24 : decode cX6_hold 24 = .ok (.aload_n 0, 1) := by decide +kernel
theorem dX6_hold_25 : decode cX6_hold 25 = .ok (.getfield 151, 3) := by decide +kernel
theorem dX6_hold_28 : decode cX6_hold 28 = .ok (.iload_n 3, 1) := by decide +kernel
theorem dX6_hold_29 : decode cX6_hold 29 = .ok (.bastore, 1) := by decide +kernel
theorem dX6_hold_30 : decode cX6_hold 30 = .ok (.aload_n 0, 1) := by decide +kernel
theorem dX6_hold_31 : decode cX6_hold 31 = .ok (.dup, 1) := by decide +kernel
theorem dX6_hold_32 : decode cX6_hold 32 = .ok (.getfield 151, 3) := by decide +kernel
theorem dX6_hold_35 : decode cX6_hold 35 = .ok (.iconst 1, 1) := by decide +kernel
theorem dX6_hold_36 : decode cX6_hold 36 = .ok (.iadd, 1) := by decide +kernel
theorem dX6_hold_37 : decode cX6_hold 37 = .ok (.putfield 151, 3) := by decide +kernel
theorem dX6_hold_40 : decode cX6_hold 40 = .ok (.return_, 1) := by decide +kernel
theorem dX6_word_0 : decode cX6_word 0 = .ok (.aload_n 0, 1) := by decide +kernel
theorem dX6_word_1 : decode cX6_word 1 = .ok (.getfield 148, 3) := by decide +kernel
theorem dX6_word_4 : decode cX6_word 4 = .ok (.aload_n 0, 1) := by decide +kernel
theorem dX6_word_5 : decode cX6_word 5 = .ok (.getfield 93, 3) := by decide +kernel
theorem dX6_word_8 : decode cX6_word 8 = .ok (.iconst 2, 1) := by decide +kernel
theorem dX6_word_9 : decode cX6_word 9 = .ok (.isub, 1) := by decide +kernel
theorem dX6_word_10 : decode cX6_word 10 = .ok (.if_icmp .lt 9, 3) := by decide +kernel
theorem dX6_word_13 : decode cX6_word 13 = .ok (.aload_n 0, 1) := by decide +kernel
theorem dX6_word_14 : decode cX6_word 14 = .ok (.iconst 0, 1) := by decide +kernel
theorem dX6_word_15 : decode cX6_word 15 = .ok (.putfield 39, 3) := by decide +kernel
theorem dX6_word_18 : decode cX6_word 18 = .ok (.return_, 1) := by decide +kernel
theorem dX6_word_19 : decode cX6_word 19 = .ok (.aload_n 0, 1) := by decide +kernel
theorem dX6_word_20 : decode cX6_word 20 = .ok (.getfield 36, 3) := by decide +kernel
theorem dX6_word_23 : decode cX6_word 23 = .ok (.aload_n 0, 1) := by decide +kernel
theorem dX6_word_24 : decode cX6_word 24 = .ok (.getfield 148, 3) := by decide +kernel
theorem dX6_word_27 : decode cX6_word 27 = .ok (.iaload, 1) := by decide +kernel
theorem dX6_word_28 : decode cX6_word 28 = .ok (.istore_n 1, 1) := by decide +kernel
theorem dX6_word_29 : decode cX6_word 29 = .ok (.aload_n 0, 1) := by decide +kernel
theorem dX6_word_30 : decode cX6_word 30 = .ok (.dup, 1) := by decide +kernel
theorem dX6_word_31 : decode cX6_word 31 = .ok (.getfield 148, 3) := by decide +kernel
theorem dX6_word_34 : decode cX6_word 34 = .ok (.iconst 1, 1) := by decide +kernel
theorem dX6_word_35 : decode cX6_word 35 = .ok (.iadd, 1) := by decide +kernel
theorem dX6_word_36 : decode cX6_word 36 = .ok (.putfield 148, 3) := by decide +kernel
theorem dX6_word_39 : decode cX6_word 39 = .ok (.aload_n 0, 1) := by decide +kernel
theorem dX6_word_40 : decode cX6_word 40 = .ok (.dup, 1) := by decide +kernel
theorem dX6_word_41 : decode cX6_word 41 = .ok (.getfield 151, 3) := by decide +kernel
theorem dX6_word_44 : decode cX6_word 44 = .ok (.iconst 1, 1) := by decide +kernel
theorem dX6_word_45 : decode cX6_word 45 = .ok (.isub, 1) := by decide +kernel
theorem dX6_word_46 : decode cX6_word 46 = .ok (.putfield 151, 3) := by decide +kernel
theorem dX6_word_49 : decode cX6_word 49 = .ok (.aload_n 0, 1) := by decide +kernel
theorem dX6_word_50 : decode cX6_word 50 = .ok (.aload_n 0, 1) := by decide +kernel
theorem dX6_word_51 : decode cX6_word 51 = .ok (.getfield 42, 3) := by decide +kernel
theorem dX6_word_54 : decode cX6_word 54 = .ok (.aload_n 0, 1) := by decide +kernel
theorem dX6_word_55 : decode cX6_word 55 = .ok (.getfield 151, 3) := by decide +kernel
theorem dX6_word_58 : decode cX6_word 58 = .ok (.iaload, 1) := by decide +kernel
theorem dX6_word_59 : decode cX6_word 59 = .ok (.putfield 69, 3) := by decide +kernel
theorem dX6_word_62 : decode cX6_word 62 = .ok (.aload_n 0, 1) := by decide +kernel
theorem dX6_word_63 : decode cX6_word 63 = .ok (.aload_n 0, 1) := by decide +kernel
theorem dX6_word_64 : decode cX6_word 64 = .ok (.getfield 45, 3) := by decide +kernel
theorem dX6_word_67 : decode cX6_word 67 = .ok (.aload_n 0, 1) := by decide +kernel
theorem dX6_word_68 : decode cX6_word 68 = .ok (.getfield 151, 3) := by decide +kernel
theorem dX6_word_71 : decode cX6_word 71 = .ok (.iaload, 1) := by decide +kernel
theorem dX6_word_72 : decode cX6_word 72 = .ok (.putfield 72, 3) := by decide +kernel
theorem dX6_word_75 : decode cX6_word 75 = .ok (.aload_n 0, 1) := by decide +kernel
theorem dX6_word_76 : decode cX6_word 76 = .ok (.getfield 48, 3) := by decide +kernel
theorem dX6_word_79 : decode cX6_word 79 = .ok (.aload_n 0, 1) := by decide +kernel
theorem dX6_word_80 : decode cX6_word 80 = .ok (.getfield 151, 3) := by decide +kernel
theorem dX6_word_83 : decode cX6_word 83 = .ok (.baload, 1) := by decide +kernel
theorem dX6_word_84 : decode cX6_word 84 = .ok (.istore_n 2, 1) := by decide +kernel
theorem dX6_word_85 : decode cX6_word 85 = .ok (.aload_n 0, 1) := by decide +kernel
theorem dX6_word_86 : decode cX6_word 86 = .ok (.getfield 36, 3) := by decide +kernel
theorem dX6_word_89 : decode cX6_word 89 = .ok (.aload_n 0, 1) := by decide +kernel
theorem dX6_word_90 : decode cX6_word 90 = .ok (.getfield 93, 3) := by decide +kernel
theorem dX6_word_93 : decode cX6_word 93 = .ok (.iconst 2, 1) := by decide +kernel
theorem dX6_word_94 : decode cX6_word 94 = .ok (.isub, 1) := by decide +kernel
theorem dX6_word_95 : decode cX6_word 95 = .ok (.iaload, 1) := by decide +kernel
theorem dX6_word_96 : decode cX6_word 96 = .ok (.istore_n 3, 1) := by decide +kernel
theorem dX6_word_97 : decode cX6_word 97 = .ok (.iload_n 3, 1) := by decide +kernel
theorem dX6_word_98 : decode cX6_word 98 = .ok (.iconst (-1), 1) := by decide +kernel
theorem dX6_word_99 : decode cX6_word 99 = .ok (.if_icmp .eq 7, 3) := by decide +kernel
theorem dX6_word_102 : decode cX6_word 102 = .ok (.iconst 1, 1) := by decide +kernel
theorem dX6_word_103 : decode cX6_word 103 = .ok (.goto 4, 3) := by decide +kernel
theorem dX6_word_106 : decode cX6_word 106 = .ok (.iconst 0, 1) := by decide +kernel
theorem dX6_word_107 : decode cX6_word 107 = .ok (.istore 4, 2) := by decide +kernel
theorem dX6_word_109 : decode cX6_word 109 = .ok (.iload_n 2, 1) := by decide +kernel
theorem dX6_word_110 : decode cX6_word 110 = .ok (.ifCond .ne 68, 3) := by decide +kernel
theorem dX6_word_113 : decode cX6_word 113 = .ok (.aload_n 0, 1) := by decide +kernel
theorem dX6_word_114 : decode cX6_word 114 = .ok (.iload 4, 2) := by decide +kernel
theorem dX6_word_116 : decode cX6_word 116 = .ok (.iload_n 3, 1) := by decide +kernel
theorem dX6_word_117 : decode cX6_word 117 = .ok (.iconst 1, 1) := by decide +kernel
theorem dX6_word_118 : decode cX6_word 118 = .ok (.isub, 1) := by decide +kernel
theorem dX6_word_119 : decode cX6_word 119 = .ok (.invokevirtual 122, 3) := by decide +kernel
theorem dX6_word_122 : decode cX6_word 122 = .ok (.ifCond .ne 56, 3) := by decide +kernel
theorem dX6_word_125 : decode cX6_word 125 = .ok (.aload_n 0, 1) := by decide +kernel
theorem dX6_word_126 : decode cX6_word 126 = .ok (.iload 4, 2) := by decide +kernel
theorem dX6_word_128 : decode cX6_word 128 = .ok (.iload_n 3, 1) := by decide +kernel
theorem dX6_word_129 : decode cX6_word 129 = .ok (.iconst 1, 1) := by decide +kernel
theorem dX6_word_130 : decode cX6_word 130 = .ok (.isub, 1) := by decide +kernel
theorem dX6_word_131 : decode cX6_word 131 = .ok (.invokevirtual 129, 3) := by decide +kernel
theorem dX6_word_134 : decode cX6_word 134 = .ok (.ifCond .eq 44, 3) := by decide +kernel
theorem dX6_word_137 : decode cX6_word 137 = .ok (.aload_n 0, 1) := by decide +kernel
theorem dX6_word_138 : decode cX6_word 138 = .ok (.iload 4, 2) := by decide +kernel
theorem dX6_word_140 : decode cX6_word 140 = .ok (.iload_n 3, 1) := by decide +kernel
theorem dX6_word_141 : decode cX6_word 141 = .ok (.iconst 1, 1) := by decide +kernel
theorem dX6_word_142 : decode cX6_word 142 = .ok (.isub, 1) := by decide +kernel
theorem dX6_word_143 : decode cX6_word 143 = .ok (.invokevirtual 129, 3) := by decide +kernel
theorem dX6_word_146 : decode cX6_word 146 = .ok (.istore 5, 2) := by decide +kernel
theorem dX6_word_148 : decode cX6_word 148 = .ok (.aload_n 0, 1) := by decide +kernel
theorem dX6_word_149 : decode cX6_word 149 = .ok (.iload 5, 2) := by decide +kernel
theorem dX6_word_151 : decode cX6_word 151 = .ok (.ifCond .ge 9, 3) := by decide +kernel
theorem dX6_word_154 : decode cX6_word 154 = .ok (.iload 5, 2) := by decide +kernel
theorem dX6_word_156 : decode cX6_word 156 = .ok (.ineg, 1) := by decide +kernel
theorem dX6_word_157 : decode cX6_word 157 = .ok (.goto 5, 3) := by decide +kernel
theorem dX6_word_160 : decode cX6_word 160 = .ok (.iload 5, 2) := by decide +kernel
theorem dX6_word_162 : decode cX6_word 162 = .ok (.iload 5, 2) := by decide +kernel
theorem dX6_word_164 : decode cX6_word 164 = .ok (.ifCond .le 7, 3) := by decide +kernel
theorem dX6_word_167 : decode cX6_word 167 = .ok (.iconst 1, 1) := by decide +kernel
theorem dX6_word_168 : decode cX6_word 168 = .ok (.goto 4, 3) := by decide +kernel
theorem dX6_word_171 : decode cX6_word 171 = .ok (.iconst 0, 1) := by decide +kernel
theorem dX6_word_172 : decode cX6_word 172 = .ok (.invokevirtual 99, 3) := by decide +kernel
theorem dX6_word_175 : decode cX6_word 175 = .ok (.goto (-66), 3) := by decide +kernel
theorem dX6_word_178 : decode cX6_word 178 = .ok (.iload_n 2, 1) := by decide +kernel
theorem dX6_word_179 : decode cX6_word 179 = .ok (.ifCond .ne 15, 3) := by decide +kernel
theorem dX6_word_182 : decode cX6_word 182 = .ok (.aload_n 0, 1) := by decide +kernel
theorem dX6_word_183 : decode cX6_word 183 = .ok (.iload 4, 2) := by decide +kernel
theorem dX6_word_185 : decode cX6_word 185 = .ok (.iload_n 3, 1) := by decide +kernel
theorem dX6_word_186 : decode cX6_word 186 = .ok (.iconst 1, 1) := by decide +kernel
theorem dX6_word_187 : decode cX6_word 187 = .ok (.isub, 1) := by decide +kernel
theorem dX6_word_188 : decode cX6_word 188 = .ok (.invokevirtual 122, 3) := by decide +kernel
theorem dX6_word_191 : decode cX6_word 191 = .ok (.ifCond .eq 7, 3) := by decide +kernel
theorem dX6_word_194 : decode cX6_word 194 = .ok (.iconst 1, 1) := by decide +kernel
theorem dX6_word_195 : decode cX6_word 195 = .ok (.goto 4, 3) := by decide +kernel
theorem dX6_word_198 : decode cX6_word 198 = .ok (.iconst 0, 1) := by decide +kernel
theorem dX6_word_199 : decode cX6_word 199 = .ok (.istore_n 2, 1) := by decide +kernel
theorem dX6_word_200 : decode cX6_word 200 = .ok (.iload_n 1, 1) := by decide +kernel
theorem dX6_word_201 : decode cX6_word 201 = .ok (.ifCond .ne 22, 3) := by decide +kernel
theorem dX6_word_204 : decode cX6_word 204 = .ok (.aload_n 0, 1) := by decide +kernel
theorem dX6_word_205 : decode cX6_word 205 = .ok (.iload_n 2, 1) := by decide +kernel
theorem dX6_word_206 : decode cX6_word 206 = .ok (.ifCond .eq 10, 3) := by decide +kernel
theorem dX6_word_209 : decode cX6_word 209 = .ok (.aload_n 0, 1) := by decide +kernel
theorem dX6_word_210 : decode cX6_word 210 = .ok (.getfield 39, 3) := by decide +kernel
theorem dX6_word_213 : decode cX6_word 213 = .ok (.goto 4, 3) := by decide +kernel
theorem dX6_word_216 : decode cX6_word 216 = .ok (.iconst 0, 1) := by decide +kernel
theorem dX6_word_217 : decode cX6_word 217 = .ok (.putfield 39, 3) := by decide +kernel
theorem dX6_word_220 : decode cX6_word 220 = .ok (.goto 118, 3) := by decide +kernel
theorem dX6_word_223 : decode cX6_word 223 = .ok (.iload_n 1, 1) := by decide +kernel
theorem dX6_word_224 : decode cX6_word 224 = .ok (.iconst 1, 1) := by decide +kernel
theorem dX6_word_225 : decode cX6_word 225 = .ok (.bipush 16, 2) := by decide +kernel
theorem dX6_word_227 : decode cX6_word 227 = .ok (.invokestatic 58, 3) := by decide +kernel
theorem dX6_word_230 : decode cX6_word 230 = .ok (.ifCond .eq 103, 3) := by decide +kernel
theorem dX6_word_233 : decode cX6_word 233 = .ok (.aload_n 0, 1) := by decide +kernel
theorem dX6_word_234 : decode cX6_word 234 = .ok (.iload_n 1, 1) := by decide +kernel
theorem dX6_word_235 : decode cX6_word 235 = .ok (.invokevirtual 75, 3) := by decide +kernel
theorem dX6_word_238 : decode cX6_word 238 = .ok (.istore 5, 2) := by decide +kernel
theorem dX6_word_240 : decode cX6_word 240 = .ok (.aload_n 0, 1) := by decide +kernel
theorem dX6_word_241 : decode cX6_word 241 = .ok (.iload_n 1, 1) := by decide +kernel
theorem dX6_word_242 : decode cX6_word 242 = .ok (.invokevirtual 79, 3) := by decide +kernel
theorem dX6_word_245 : decode cX6_word 245 = .ok (.istore 6, 2) := by decide +kernel
theorem dX6_word_247 : decode cX6_word 247 = .ok (.iconst 1, 1) := by decide +kernel
theorem dX6_word_248 : decode cX6_word 248 = .ok (.iload_n 1, 1) := by decide +kernel
theorem dX6_word_249 : decode cX6_word 249 = .ok (.iconst 1, 1) := by decide +kernel
theorem dX6_word_250 : decode cX6_word 250 = .ok (.isub, 1) := by decide +kernel
theorem dX6_word_251 : decode cX6_word 251 = .ok (.ishl, 1) := by decide +kernel
theorem dX6_word_252 : decode cX6_word 252 = .ok (.istore 7, 2) := by decide +kernel
theorem dX6_word_254 : decode cX6_word 254 = .ok (.aload_n 0, 1) := by decide +kernel
theorem dX6_word_255 : decode cX6_word 255 = .ok (.aload_n 0, 1) := by decide +kernel
theorem dX6_word_256 : decode cX6_word 256 = .ok (.getfield 69, 3) := by decide +kernel
theorem dX6_word_259 : decode cX6_word 259 = .ok (.iload 7, 2) := by decide +kernel
theorem dX6_word_261 : decode cX6_word 261 = .ok (.ior, 1) := by decide +kernel
theorem dX6_word_262 : decode cX6_word 262 = .ok (.aload_n 0, 1) := by decide +kernel
theorem dX6_word_263 : decode cX6_word 263 = .ok (.getfield 72, 3) := by decide +kernel
theorem dX6_word_266 : decode cX6_word 266 = .ok (.iload 7, 2) := by decide +kernel
theorem dX6_word_268 : decode cX6_word 268 = .ok (.ior, 1) := by decide +kernel
theorem dX6_word_269 : decode cX6_word 269 = .ok (.iload_n 2, 1) := by decide +kernel
theorem dX6_word_270 : decode cX6_word 270 = .ok (.ifCond .ne 13, 3) := by decide +kernel
theorem dX6_word_273 : decode cX6_word 273 = .ok (.iload 5, 2) := by decide +kernel
theorem dX6_word_275 : decode cX6_word 275 = .ok (.ifCond .eq 12, 3) := by decide +kernel
theorem dX6_word_278 : decode cX6_word 278 = .ok (.iload 6, 2) := by decide +kernel
theorem dX6_word_280 : decode cX6_word 280 = .ok (.ifCond .ne 7, 3) := by decide +kernel
theorem dX6_word_283 : decode cX6_word 283 = .ok (.iconst 1, 1) := by decide +kernel
theorem dX6_word_284 : decode cX6_word 284 = .ok (.goto 4, 3) := by decide +kernel
theorem dX6_word_287 : decode cX6_word 287 = .ok (.iconst 0, 1) := by decide +kernel
theorem dX6_word_288 : decode cX6_word 288 = .ok (.invokevirtual 155, 3) := by decide +kernel
theorem dX6_word_291 : decode cX6_word 291 = .ok (.aload_n 0, 1) := by decide +kernel
theorem dX6_word_292 : decode cX6_word 292 = .ok (.aload_n 0, 1) := by decide +kernel
theorem dX6_word_293 : decode cX6_word 293 = .ok (.getfield 69, 3) := by decide +kernel
theorem dX6_word_296 : decode cX6_word 296 = .ok (.iload 7, 2) := by decide +kernel
theorem dX6_word_298 : decode cX6_word 298 = .ok (.ior, 1) := by decide +kernel
theorem dX6_word_299 : decode cX6_word 299 = .ok (.aload_n 0, 1) := by decide +kernel
theorem dX6_word_300 : decode cX6_word 300 = .ok (.getfield 72, 3) := by decide +kernel
theorem dX6_word_303 : decode cX6_word 303 = .ok (.iload 7, 2) := by decide +kernel
theorem dX6_word_305 : decode cX6_word 305 = .ok (.iconst (-1), 1) := by decide +kernel
theorem dX6_word_306 : decode cX6_word 306 = .ok (.ixor, 1) := by decide +kernel
theorem dX6_word_307 : decode cX6_word 307 = .ok (.iand, 1) := by decide +kernel
theorem dX6_word_308 : decode cX6_word 308 = .ok (.iload_n 2, 1) := by decide +kernel
theorem dX6_word_309 : decode cX6_word 309 = .ok (.ifCond .ne 13, 3) := by decide +kernel
theorem dX6_word_312 : decode cX6_word 312 = .ok (.iload 5, 2) := by decide +kernel
theorem dX6_word_314 : decode cX6_word 314 = .ok (.ifCond .eq 12, 3) := by decide +kernel
theorem dX6_word_317 : decode cX6_word 317 = .ok (.iload 6, 2) := by decide +kernel
theorem dX6_word_319 : decode cX6_word 319 = .ok (.ifCond .eq 7, 3) := by decide +kernel
theorem dX6_word_322 : decode cX6_word 322 = .ok (.iconst 1, 1) := by decide +kernel
theorem dX6_word_323 : decode cX6_word 323 = .ok (.goto 4, 3) := by decide +kernel
theorem dX6_word_326 : decode cX6_word 326 = .ok (.iconst 0, 1) := by decide +kernel
theorem dX6_word_327 : decode cX6_word 327 = .ok (.invokevirtual 155, 3) := by decide +kernel
theorem dX6_word_330 : decode cX6_word 330 = .ok (.goto 8, 3) := by decide +kernel
theorem dX6_word_333 : decode cX6_word 333 = .ok (.aload_n 0, 1) := by decide +kernel
theorem dX6_word_334 : decode cX6_word 334 = .ok (.iconst 0, 1) := by decide +kernel
theorem dX6_word_335 : decode cX6_word 335 = .ok (.putfield 39, 3) := by decide +kernel
theorem dX6_word_338 : decode cX6_word 338 = .ok (.aload_n 0, 1) := by decide +kernel
theorem dX6_word_339 : decode cX6_word 339 = .ok (.getfield 39, 3) := by decide +kernel
theorem dX6_word_342 : decode cX6_word 342 = .ok (.iconst 2, 1) := by decide +kernel
theorem dX6_word_343 : decode cX6_word 343 = .ok (.if_icmp .ne 32, 3) := by decide +kernel
theorem dX6_word_346 : decode cX6_word 346 = .ok (.aload_n 0, 1) := by decide +kernel
theorem dX6_word_347 : decode cX6_word 347 = .ok (.getfield 151, 3) := by decide +kernel
theorem dX6_word_350 : decode cX6_word 350 = .ok (.ifCond .ne 25, 3) := by decide +kernel
theorem dX6_word_353 : decode cX6_word 353 = .ok (.aload_n 0, 1) := by decide +kernel
theorem dX6_word_354 : decode cX6_word 354 = .ok (.aload_n 0, 1) := by decide +kernel
theorem dX6_word_355 : decode cX6_word 355 = .ok (.getfield 148, 3) := by decide +kernel
theorem dX6_word_358 : decode cX6_word 358 = .ok (.aload_n 0, 1) := by decide +kernel
theorem dX6_word_359 : decode cX6_word 359 = .ok (.getfield 93, 3) := by decide +kernel
theorem dX6_word_362 : decode cX6_word 362 = .ok (.iconst 2, 1) := by decide +kernel
theorem dX6_word_363 : decode cX6_word 363 = .ok (.isub, 1) := by decide +kernel
theorem dX6_word_364 : decode cX6_word 364 = .ok (.if_icmp .ne 7, 3) := by decide +kernel
theorem dX6_word_367 : decode cX6_word 367 = .ok (.iconst 1, 1) := by decide +kernel
theorem dX6_word_368 : decode cX6_word 368 = .ok (.goto 4, 3) := by decide +kernel
theorem dX6_word_371 : decode cX6_word 371 = .ok (.iconst 0, 1) := by decide +kernel
theorem dX6_word_372 : decode cX6_word 372 = .ok (.putfield 39, 3) := by decide +kernel
theorem dX6_word_375 : decode cX6_word 375 = .ok (.return_, 1) := by decide +kernel
theorem dX6_check_0 : decode cX6_check 0 = .ok (.aload_n 0, 1) := by decide +kernel
theorem dX6_check_1 : decode cX6_check 1 = .ok (.getfield 116, 3) := by decide +kernel
theorem dX6_check_4 : decode cX6_check 4 = .ok (.ifCond .ne 6, 3) := by decide +kernel
theorem dX6_check_7 : decode cX6_check 7 = .ok (.bipush (-3), 2) := by decide +kernel
theorem dX6_check_9 : decode cX6_check 9 = .ok (.ireturn, 1) := by decide +kernel
theorem dX6_check_10 : decode cX6_check 10 = .ok (.iload_n 1, 1) := by decide +kernel
theorem dX6_check_11 : decode cX6_check 11 = .ok (.iconst 1, 1) := by decide +kernel
theorem dX6_check_12 : decode cX6_check 12 = .ok (.sipush 2000, 3) := by decide +kernel
theorem dX6_check_15 : decode cX6_check 15 = .ok (.invokestatic 58, 3) := by decide +kernel
theorem dX6_check_18 : decode cX6_check 18 = .ok (.ifCond .ne 5, 3) := by decide +kernel
theorem dX6_check_21 : decode cX6_check 21 = .ok (.iconst (-1), 1) := by decide +kernel
theorem dX6_check_22 : decode cX6_check 22 = .ok (.ireturn, 1) := by decide +kernel
theorem dX6_check_23 : decode cX6_check 23 = .ok (.aload_n 0, 1) := by decide +kernel
theorem dX6_check_24 : decode cX6_check 24 = .ok (.getfield 145, 3) := by decide +kernel
theorem dX6_check_27 : decode cX6_check 27 = .ok (.ifCond .ne 7, 3) := by decide +kernel
theorem dX6_check_30 : decode cX6_check 30 = .ok (.aload_n 0, 1) := by decide +kernel
theorem dX6_check_31 : decode cX6_check 31 = .ok (.invokevirtual 159, 3) := by decide +kernel
theorem dX6_check_34 : decode cX6_check 34 = .ok (.iconst 0, 1) := by decide +kernel
theorem dX6_check_35 : decode cX6_check 35 = .ok (.istore_n 2, 1) := by decide +kernel
theorem dX6_check_36 : decode cX6_check 36 = .ok (.iload_n 2, 1) := by decide +kernel
theorem dX6_check_37 : decode cX6_check 37 = .ok (.iload_n 1, 1) := by decide +kernel
theorem dX6_check_38 : decode cX6_check 38 = .ok (.if_icmp .ge 21, 3) := by decide +kernel
theorem dX6_check_41 : decode cX6_check 41 = .ok (.aload_n 0, 1) := by decide +kernel
theorem dX6_check_42 : decode cX6_check 42 = .ok (.getfield 39, 3) := by decide +kernel
theorem dX6_check_45 : decode cX6_check 45 = .ok (.iconst 2, 1) := by decide +kernel
theorem dX6_check_46 : decode cX6_check 46 = .ok (.if_icmp .ne 13, 3) := by decide +kernel
theorem dX6_check_49 : decode cX6_check 49 = .ok (.aload_n 0, 1) := by decide +kernel
theorem dX6_check_50 : decode cX6_check 50 = .ok (.invokevirtual 162, 3) := by decide +kernel
theorem dX6_check_53 : decode cX6_check 53 = .ok (.iinc 2 1, 3) := by decide +kernel
theorem dX6_check_56 : decode cX6_check 56 = .ok (.goto (-20), 3) := by decide +kernel
theorem dX6_check_59 : decode cX6_check 59 = .ok (.aload_n 0, 1) := by decide +kernel
theorem dX6_check_60 : decode cX6_check 60 = .ok (.getfield 39, 3) := by decide +kernel
theorem dX6_check_63 : decode cX6_check 63 = .ok (.ireturn, 1) := by decide +kernel
theorem dX6_steps_0 : decode cX6_steps 0 = .ok (.aload_n 0, 1) := by decide +kernel
theorem dX6_steps_1 : decode cX6_steps 1 = .ok (.getfield 119, 3) := by decide +kernel
theorem dX6_steps_4 : decode cX6_steps 4 = .ok (.ireturn, 1) := by decide +kernel
theorem dL_law_0 : decode cL_law 0 = .ok (.new 7, 3) := by decide +kernel
theorem dL_law_3 : decode cL_law 3 = .ok (.dup, 1) := by decide +kernel
theorem dL_law_4 : decode cL_law 4 = .ok (.invokespecial 9, 3) := by decide +kernel
theorem dL_law_7 : decode cL_law 7 = .ok (.astore_n 1, 1) := by decide +kernel
theorem dL_law_8 : decode cL_law 8 = .ok (.new 10, 3) := by decide +kernel
theorem dL_law_11 : decode cL_law 11 = .ok (.dup, 1) := by decide +kernel
theorem dL_law_12 : decode cL_law 12 = .ok (.invokespecial 12, 3) := by decide +kernel
theorem dL_law_15 : decode cL_law 15 = .ok (.astore_n 2, 1) := by decide +kernel
theorem dL_law_16 : decode cL_law 16 = .ok (.iconst 0, 1) := by decide +kernel
theorem dL_law_17 : decode cL_law 17 = .ok (.istore_n 3, 1) := by decide +kernel
theorem dL_law_18 : decode cL_law 18 = .ok (.iload_n 3, 1) := by decide +kernel
theorem dL_law_19 : decode cL_law 19 = .ok (.aload_n 0, 1) := by decide +kernel
theorem dL_law_20 : decode cL_law 20 = .ok (.arraylength, 1) := by decide +kernel
theorem dL_law_21 : decode cL_law 21 = .ok (.iconst 3, 1) := by decide +kernel
theorem dL_law_22 : decode cL_law 22 = .ok (.isub, 1) := by decide +kernel
theorem dL_law_23 : decode cL_law 23 = .ok (.if_icmp .gt 355, 3) := by decide +kernel
theorem dL_law_26 : decode cL_law 26 = .ok (.aload_n 0, 1) := by decide +kernel
theorem dL_law_27 : decode cL_law 27 = .ok (.iload_n 3, 1) := by decide +kernel
theorem dL_law_28 : decode cL_law 28 = .ok (.iaload, 1) := by decide +kernel
theorem dL_law_29 : decode cL_law 29 = .ok (.bipush 15, 2) := by decide +kernel
theorem dL_law_31 : decode cL_law 31 = .ok (.iand, 1) := by decide +kernel
theorem dL_law_32 : decode cL_law 32 = .ok (.tableswitch 340 0 11 #[64, 97, 130, 153, 176, 189, 212, 225, 248, 281, 304, 327], 64) := by decide +kernel
theorem dL_law_96 : decode cL_law 96 = .ok (.aload_n 1, 1) := by decide +kernel
theorem dL_law_97 : decode cL_law 97 = .ok (.aload_n 0, 1) := by decide +kernel
theorem dL_law_98 : decode cL_law 98 = .ok (.iload_n 3, 1) := by decide +kernel
theorem dL_law_99 : decode cL_law 99 = .ok (.iconst 1, 1) := by decide +kernel
theorem dL_law_100 : decode cL_law 100 = .ok (.iadd, 1) := by decide +kernel
theorem dL_law_101 : decode cL_law 101 = .ok (.iaload, 1) := by decide +kernel
theorem dL_law_102 : decode cL_law 102 = .ok (.aload_n 0, 1) := by decide +kernel
theorem dL_law_103 : decode cL_law 103 = .ok (.iload_n 3, 1) := by decide +kernel
theorem dL_law_104 : decode cL_law 104 = .ok (.iconst 2, 1) := by decide +kernel
theorem dL_law_105 : decode cL_law 105 = .ok (.iadd, 1) := by decide +kernel
theorem dL_law_106 : decode cL_law 106 = .ok (.iaload, 1) := by decide +kernel
theorem dL_law_107 : decode cL_law 107 = .ok (.invokevirtual 13, 3) := by decide +kernel
theorem dL_law_110 : decode cL_law 110 = .ok (.aload_n 2, 1) := by decide +kernel
theorem dL_law_111 : decode cL_law 111 = .ok (.aload_n 0, 1) := by decide +kernel
theorem dL_law_112 : decode cL_law 112 = .ok (.iload_n 3, 1) := by decide +kernel
theorem dL_law_113 : decode cL_law 113 = .ok (.iconst 1, 1) := by decide +kernel
theorem dL_law_114 : decode cL_law 114 = .ok (.iadd, 1) := by decide +kernel
theorem dL_law_115 : decode cL_law 115 = .ok (.iaload, 1) := by decide +kernel
theorem dL_law_116 : decode cL_law 116 = .ok (.aload_n 0, 1) := by decide +kernel
theorem dL_law_117 : decode cL_law 117 = .ok (.iload_n 3, 1) := by decide +kernel
theorem dL_law_118 : decode cL_law 118 = .ok (.iconst 2, 1) := by decide +kernel
theorem dL_law_119 : decode cL_law 119 = .ok (.iadd, 1) := by decide +kernel
theorem dL_law_120 : decode cL_law 120 = .ok (.iaload, 1) := by decide +kernel
theorem dL_law_121 : decode cL_law 121 = .ok (.invokevirtual 17, 3) := by decide +kernel
theorem dL_law_124 : decode cL_law 124 = .ok (.if_icmp .eq 248, 3) := by decide +kernel
theorem dL_law_127 : decode cL_law 127 = .ok (.iconst 0, 1) := by decide +kernel
theorem dL_law_128 : decode cL_law 128 = .ok (.ireturn, 1) := by decide +kernel
theorem dL_law_129 : decode cL_law 129 = .ok (.aload_n 1, 1) := by decide +kernel
theorem dL_law_130 : decode cL_law 130 = .ok (.aload_n 0, 1) := by decide +kernel
theorem dL_law_131 : decode cL_law 131 = .ok (.iload_n 3, 1) := by decide +kernel
theorem dL_law_132 : decode cL_law 132 = .ok (.iconst 1, 1) := by decide +kernel
theorem dL_law_133 : decode cL_law 133 = .ok (.iadd, 1) := by decide +kernel
theorem dL_law_134 : decode cL_law 134 = .ok (.iaload, 1) := by decide +kernel
theorem dL_law_135 : decode cL_law 135 = .ok (.aload_n 0, 1) := by decide +kernel
theorem dL_law_136 : decode cL_law 136 = .ok (.iload_n 3, 1) := by decide +kernel
theorem dL_law_137 : decode cL_law 137 = .ok (.iconst 2, 1) := by decide +kernel
theorem dL_law_138 : decode cL_law 138 = .ok (.iadd, 1) := by decide +kernel
theorem dL_law_139 : decode cL_law 139 = .ok (.iaload, 1) := by decide +kernel
theorem dL_law_140 : decode cL_law 140 = .ok (.invokevirtual 18, 3) := by decide +kernel
theorem dL_law_143 : decode cL_law 143 = .ok (.pop, 1) := by decide +kernel
theorem dL_law_144 : decode cL_law 144 = .ok (.aload_n 2, 1) := by decide +kernel
theorem dL_law_145 : decode cL_law 145 = .ok (.aload_n 0, 1) := by decide +kernel
theorem dL_law_146 : decode cL_law 146 = .ok (.iload_n 3, 1) := by decide +kernel
theorem dL_law_147 : decode cL_law 147 = .ok (.iconst 1, 1) := by decide +kernel
theorem dL_law_148 : decode cL_law 148 = .ok (.iadd, 1) := by decide +kernel
theorem dL_law_149 : decode cL_law 149 = .ok (.iaload, 1) := by decide +kernel
theorem dL_law_150 : decode cL_law 150 = .ok (.aload_n 0, 1) := by decide +kernel
theorem dL_law_151 : decode cL_law 151 = .ok (.iload_n 3, 1) := by decide +kernel
theorem dL_law_152 : decode cL_law 152 = .ok (.iconst 2, 1) := by decide +kernel
theorem dL_law_153 : decode cL_law 153 = .ok (.iadd, 1) := by decide +kernel
theorem dL_law_154 : decode cL_law 154 = .ok (.iaload, 1) := by decide +kernel
theorem dL_law_155 : decode cL_law 155 = .ok (.invokevirtual 21, 3) := by decide +kernel
theorem dL_law_158 : decode cL_law 158 = .ok (.pop, 1) := by decide +kernel
theorem dL_law_159 : decode cL_law 159 = .ok (.goto 213, 3) := by decide +kernel
theorem dL_law_162 : decode cL_law 162 = .ok (.aload_n 1, 1) := by decide +kernel
theorem dL_law_163 : decode cL_law 163 = .ok (.aload_n 0, 1) := by decide +kernel
theorem dL_law_164 : decode cL_law 164 = .ok (.iload_n 3, 1) := by decide +kernel
theorem dL_law_165 : decode cL_law 165 = .ok (.iconst 1, 1) := by decide +kernel
theorem dL_law_166 : decode cL_law 166 = .ok (.iadd, 1) := by decide +kernel
theorem dL_law_167 : decode cL_law 167 = .ok (.iaload, 1) := by decide +kernel
theorem dL_law_168 : decode cL_law 168 = .ok (.invokevirtual 22, 3) := by decide +kernel
theorem dL_law_171 : decode cL_law 171 = .ok (.pop, 1) := by decide +kernel
theorem dL_law_172 : decode cL_law 172 = .ok (.aload_n 2, 1) := by decide +kernel
theorem dL_law_173 : decode cL_law 173 = .ok (.aload_n 0, 1) := by decide +kernel
theorem dL_law_174 : decode cL_law 174 = .ok (.iload_n 3, 1) := by decide +kernel
theorem dL_law_175 : decode cL_law 175 = .ok (.iconst 1, 1) := by decide +kernel
theorem dL_law_176 : decode cL_law 176 = .ok (.iadd, 1) := by decide +kernel
theorem dL_law_177 : decode cL_law 177 = .ok (.iaload, 1) := by decide +kernel
theorem dL_law_178 : decode cL_law 178 = .ok (.invokevirtual 26, 3) := by decide +kernel
theorem dL_law_181 : decode cL_law 181 = .ok (.pop, 1) := by decide +kernel
theorem dL_law_182 : decode cL_law 182 = .ok (.goto 190, 3) := by decide +kernel
theorem dL_law_185 : decode cL_law 185 = .ok (.aload_n 1, 1) := by decide +kernel
theorem dL_law_186 : decode cL_law 186 = .ok (.aload_n 0, 1) := by decide +kernel
theorem dL_law_187 : decode cL_law 187 = .ok (.iload_n 3, 1) := by decide +kernel
theorem dL_law_188 : decode cL_law 188 = .ok (.iconst 1, 1) := by decide +kernel
theorem dL_law_189 : decode cL_law 189 = .ok (.iadd, 1) := by decide +kernel
theorem dL_law_190 : decode cL_law 190 = .ok (.iaload, 1) := by decide +kernel
theorem dL_law_191 : decode cL_law 191 = .ok (.invokevirtual 27, 3) := by decide +kernel
theorem dL_law_194 : decode cL_law 194 = .ok (.pop, 1) := by decide +kernel
theorem dL_law_195 : decode cL_law 195 = .ok (.aload_n 2, 1) := by decide +kernel
theorem dL_law_196 : decode cL_law 196 = .ok (.aload_n 0, 1) := by decide +kernel
theorem dL_law_197 : decode cL_law 197 = .ok (.iload_n 3, 1) := by decide +kernel
theorem dL_law_198 : decode cL_law 198 = .ok (.iconst 1, 1) := by decide +kernel
theorem dL_law_199 : decode cL_law 199 = .ok (.iadd, 1) := by decide +kernel
theorem dL_law_200 : decode cL_law 200 = .ok (.iaload, 1) := by decide +kernel
theorem dL_law_201 : decode cL_law 201 = .ok (.invokevirtual 30, 3) := by decide +kernel
theorem dL_law_204 : decode cL_law 204 = .ok (.pop, 1) := by decide +kernel
theorem dL_law_205 : decode cL_law 205 = .ok (.goto 167, 3) := by decide +kernel
theorem dL_law_208 : decode cL_law 208 = .ok (.aload_n 1, 1) := by decide +kernel
theorem dL_law_209 : decode cL_law 209 = .ok (.invokevirtual 31, 3) := by decide +kernel
theorem dL_law_212 : decode cL_law 212 = .ok (.pop, 1) := by decide +kernel
theorem dL_law_213 : decode cL_law 213 = .ok (.aload_n 2, 1) := by decide +kernel
theorem dL_law_214 : decode cL_law 214 = .ok (.invokevirtual 35, 3) := by decide +kernel
theorem dL_law_217 : decode cL_law 217 = .ok (.pop, 1) := by decide +kernel
theorem dL_law_218 : decode cL_law 218 = .ok (.goto 154, 3) := by decide +kernel
theorem dL_law_221 : decode cL_law 221 = .ok (.aload_n 1, 1) := by decide +kernel
theorem dL_law_222 : decode cL_law 222 = .ok (.aload_n 0, 1) := by decide +kernel
theorem dL_law_223 : decode cL_law 223 = .ok (.iload_n 3, 1) := by decide +kernel
theorem dL_law_224 : decode cL_law 224 = .ok (.iconst 1, 1) := by decide +kernel
theorem dL_law_225 : decode cL_law 225 = .ok (.iadd, 1) := by decide +kernel
theorem dL_law_226 : decode cL_law 226 = .ok (.iaload, 1) := by decide +kernel
theorem dL_law_227 : decode cL_law 227 = .ok (.invokevirtual 36, 3) := by decide +kernel
theorem dL_law_230 : decode cL_law 230 = .ok (.pop, 1) := by decide +kernel
theorem dL_law_231 : decode cL_law 231 = .ok (.aload_n 2, 1) := by decide +kernel
theorem dL_law_232 : decode cL_law 232 = .ok (.aload_n 0, 1) := by decide +kernel
theorem dL_law_233 : decode cL_law 233 = .ok (.iload_n 3, 1) := by decide +kernel
theorem dL_law_234 : decode cL_law 234 = .ok (.iconst 1, 1) := by decide +kernel
theorem dL_law_235 : decode cL_law 235 = .ok (.iadd, 1) := by decide +kernel
theorem dL_law_236 : decode cL_law 236 = .ok (.iaload, 1) := by decide +kernel
theorem dL_law_237 : decode cL_law 237 = .ok (.invokevirtual 39, 3) := by decide +kernel
theorem dL_law_240 : decode cL_law 240 = .ok (.pop, 1) := by decide +kernel
theorem dL_law_241 : decode cL_law 241 = .ok (.goto 131, 3) := by decide +kernel
theorem dL_law_244 : decode cL_law 244 = .ok (.aload_n 1, 1) := by decide +kernel
theorem dL_law_245 : decode cL_law 245 = .ok (.invokevirtual 40, 3) := by decide +kernel
theorem dL_law_248 : decode cL_law 248 = .ok (.pop, 1) := by decide +kernel
theorem dL_law_249 : decode cL_law 249 = .ok (.aload_n 2, 1) := by decide +kernel
theorem dL_law_250 : decode cL_law 250 = .ok (.invokevirtual 43, 3) := by decide +kernel
theorem dL_law_253 : decode cL_law 253 = .ok (.pop, 1) := by decide +kernel
theorem dL_law_254 : decode cL_law 254 = .ok (.goto 118, 3) := by decide +kernel
theorem dL_law_257 : decode cL_law 257 = .ok (.aload_n 1, 1) := by decide +kernel
theorem dL_law_258 : decode cL_law 258 = .ok (.aload_n 0, 1) := by decide +kernel
theorem dL_law_259 : decode cL_law 259 = .ok (.iload_n 3, 1) := by decide +kernel
theorem dL_law_260 : decode cL_law 260 = .ok (.iconst 1, 1) := by decide +kernel
theorem dL_law_261 : decode cL_law 261 = .ok (.iadd, 1) := by decide +kernel
theorem dL_law_262 : decode cL_law 262 = .ok (.iaload, 1) := by decide +kernel
theorem dL_law_263 : decode cL_law 263 = .ok (.invokevirtual 44, 3) := by decide +kernel
theorem dL_law_266 : decode cL_law 266 = .ok (.pop, 1) := by decide +kernel
theorem dL_law_267 : decode cL_law 267 = .ok (.aload_n 2, 1) := by decide +kernel
theorem dL_law_268 : decode cL_law 268 = .ok (.aload_n 0, 1) := by decide +kernel
theorem dL_law_269 : decode cL_law 269 = .ok (.iload_n 3, 1) := by decide +kernel
theorem dL_law_270 : decode cL_law 270 = .ok (.iconst 1, 1) := by decide +kernel
theorem dL_law_271 : decode cL_law 271 = .ok (.iadd, 1) := by decide +kernel
theorem dL_law_272 : decode cL_law 272 = .ok (.iaload, 1) := by decide +kernel
theorem dL_law_273 : decode cL_law 273 = .ok (.invokevirtual 47, 3) := by decide +kernel
theorem dL_law_276 : decode cL_law 276 = .ok (.pop, 1) := by decide +kernel
theorem dL_law_277 : decode cL_law 277 = .ok (.goto 95, 3) := by decide +kernel
theorem dL_law_280 : decode cL_law 280 = .ok (.aload_n 1, 1) := by decide +kernel
theorem dL_law_281 : decode cL_law 281 = .ok (.aload_n 0, 1) := by decide +kernel
theorem dL_law_282 : decode cL_law 282 = .ok (.iload_n 3, 1) := by decide +kernel
theorem dL_law_283 : decode cL_law 283 = .ok (.iconst 1, 1) := by decide +kernel
theorem dL_law_284 : decode cL_law 284 = .ok (.iadd, 1) := by decide +kernel
theorem dL_law_285 : decode cL_law 285 = .ok (.iaload, 1) := by decide +kernel
theorem dL_law_286 : decode cL_law 286 = .ok (.aload_n 0, 1) := by decide +kernel
theorem dL_law_287 : decode cL_law 287 = .ok (.iload_n 3, 1) := by decide +kernel
theorem dL_law_288 : decode cL_law 288 = .ok (.iconst 2, 1) := by decide +kernel
theorem dL_law_289 : decode cL_law 289 = .ok (.iadd, 1) := by decide +kernel
theorem dL_law_290 : decode cL_law 290 = .ok (.iaload, 1) := by decide +kernel
theorem dL_law_291 : decode cL_law 291 = .ok (.invokevirtual 48, 3) := by decide +kernel
theorem dL_law_294 : decode cL_law 294 = .ok (.pop, 1) := by decide +kernel
theorem dL_law_295 : decode cL_law 295 = .ok (.aload_n 2, 1) := by decide +kernel
theorem dL_law_296 : decode cL_law 296 = .ok (.aload_n 0, 1) := by decide +kernel
theorem dL_law_297 : decode cL_law 297 = .ok (.iload_n 3, 1) := by decide +kernel
theorem dL_law_298 : decode cL_law 298 = .ok (.iconst 1, 1) := by decide +kernel
theorem dL_law_299 : decode cL_law 299 = .ok (.iadd, 1) := by decide +kernel
theorem dL_law_300 : decode cL_law 300 = .ok (.iaload, 1) := by decide +kernel
theorem dL_law_301 : decode cL_law 301 = .ok (.aload_n 0, 1) := by decide +kernel
theorem dL_law_302 : decode cL_law 302 = .ok (.iload_n 3, 1) := by decide +kernel
theorem dL_law_303 : decode cL_law 303 = .ok (.iconst 2, 1) := by decide +kernel
theorem dL_law_304 : decode cL_law 304 = .ok (.iadd, 1) := by decide +kernel
theorem dL_law_305 : decode cL_law 305 = .ok (.iaload, 1) := by decide +kernel
theorem dL_law_306 : decode cL_law 306 = .ok (.invokevirtual 51, 3) := by decide +kernel
theorem dL_law_309 : decode cL_law 309 = .ok (.pop, 1) := by decide +kernel
theorem dL_law_310 : decode cL_law 310 = .ok (.goto 62, 3) := by decide +kernel
theorem dL_law_313 : decode cL_law 313 = .ok (.aload_n 1, 1) := by decide +kernel
theorem dL_law_314 : decode cL_law 314 = .ok (.aload_n 0, 1) := by decide +kernel
theorem dL_law_315 : decode cL_law 315 = .ok (.iload_n 3, 1) := by decide +kernel
theorem dL_law_316 : decode cL_law 316 = .ok (.iconst 1, 1) := by decide +kernel
theorem dL_law_317 : decode cL_law 317 = .ok (.iadd, 1) := by decide +kernel
theorem dL_law_318 : decode cL_law 318 = .ok (.iaload, 1) := by decide +kernel
theorem dL_law_319 : decode cL_law 319 = .ok (.invokevirtual 52, 3) := by decide +kernel
theorem dL_law_322 : decode cL_law 322 = .ok (.pop, 1) := by decide +kernel
theorem dL_law_323 : decode cL_law 323 = .ok (.aload_n 2, 1) := by decide +kernel
theorem dL_law_324 : decode cL_law 324 = .ok (.aload_n 0, 1) := by decide +kernel
theorem dL_law_325 : decode cL_law 325 = .ok (.iload_n 3, 1) := by decide +kernel
theorem dL_law_326 : decode cL_law 326 = .ok (.iconst 1, 1) := by decide +kernel
theorem dL_law_327 : decode cL_law 327 = .ok (.iadd, 1) := by decide +kernel
theorem dL_law_328 : decode cL_law 328 = .ok (.iaload, 1) := by decide +kernel
theorem dL_law_329 : decode cL_law 329 = .ok (.invokevirtual 55, 3) := by decide +kernel
theorem dL_law_332 : decode cL_law 332 = .ok (.pop, 1) := by decide +kernel
theorem dL_law_333 : decode cL_law 333 = .ok (.goto 39, 3) := by decide +kernel
theorem dL_law_336 : decode cL_law 336 = .ok (.aload_n 1, 1) := by decide +kernel
theorem dL_law_337 : decode cL_law 337 = .ok (.aload_n 0, 1) := by decide +kernel
theorem dL_law_338 : decode cL_law 338 = .ok (.iload_n 3, 1) := by decide +kernel
theorem dL_law_339 : decode cL_law 339 = .ok (.iconst 1, 1) := by decide +kernel
theorem dL_law_340 : decode cL_law 340 = .ok (.iadd, 1) := by decide +kernel
theorem dL_law_341 : decode cL_law 341 = .ok (.iaload, 1) := by decide +kernel
theorem dL_law_342 : decode cL_law 342 = .ok (.invokevirtual 56, 3) := by decide +kernel
theorem dL_law_345 : decode cL_law 345 = .ok (.pop, 1) := by decide +kernel
theorem dL_law_346 : decode cL_law 346 = .ok (.aload_n 2, 1) := by decide +kernel
theorem dL_law_347 : decode cL_law 347 = .ok (.aload_n 0, 1) := by decide +kernel
theorem dL_law_348 : decode cL_law 348 = .ok (.iload_n 3, 1) := by decide +kernel
theorem dL_law_349 : decode cL_law 349 = .ok (.iconst 1, 1) := by decide +kernel
theorem dL_law_350 : decode cL_law 350 = .ok (.iadd, 1) := by decide +kernel
theorem dL_law_351 : decode cL_law 351 = .ok (.iaload, 1) := by decide +kernel
theorem dL_law_352 : decode cL_law 352 = .ok (.invokevirtual 59, 3) := by decide +kernel
theorem dL_law_355 : decode cL_law 355 = .ok (.pop, 1) := by decide +kernel
theorem dL_law_356 : decode cL_law 356 = .ok (.goto 16, 3) := by decide +kernel
theorem dL_law_359 : decode cL_law 359 = .ok (.aload_n 1, 1) := by decide +kernel
theorem dL_law_360 : decode cL_law 360 = .ok (.invokevirtual 60, 3) := by decide +kernel
theorem dL_law_363 : decode cL_law 363 = .ok (.pop, 1) := by decide +kernel
theorem dL_law_364 : decode cL_law 364 = .ok (.aload_n 2, 1) := by decide +kernel
theorem dL_law_365 : decode cL_law 365 = .ok (.invokevirtual 63, 3) := by decide +kernel
theorem dL_law_368 : decode cL_law 368 = .ok (.pop, 1) := by decide +kernel
theorem dL_law_369 : decode cL_law 369 = .ok (.goto 3, 3) := by decide +kernel
theorem dL_law_372 : decode cL_law 372 = .ok (.iinc 3 3, 3) := by decide +kernel
theorem dL_law_375 : decode cL_law 375 = .ok (.goto (-357), 3) := by decide +kernel
theorem dL_law_378 : decode cL_law 378 = .ok (.iconst 1, 1) := by decide +kernel
theorem dL_law_379 : decode cL_law 379 = .ok (.ireturn, 1) := by decide +kernel
end
section
set_option maxRecDepth 20000 in
theorem kw51 : Cond.initialized RL ∈ GL := List.mem_filter.mpr ⟨List.mem_of_getElem? (i := 51) (by decide +kernel), rfl⟩
set_option maxRecDepth 20000 in
theorem kw52 : Cond.initialized RX5 ∈ GL := List.mem_filter.mpr ⟨List.mem_of_getElem? (i := 52) (by decide +kernel), rfl⟩
set_option maxRecDepth 20000 in
theorem kw53 : Cond.initialized RX2 ∈ GL := List.mem_filter.mpr ⟨List.mem_of_getElem? (i := 53) (by decide +kernel), rfl⟩
set_option maxRecDepth 20000 in
theorem kw54 : Cond.initialized RX1 ∈ GL := List.mem_filter.mpr ⟨List.mem_of_getElem? (i := 54) (by decide +kernel), rfl⟩
set_option maxRecDepth 20000 in
theorem kw55 : Cond.initialized RX3 ∈ GL := List.mem_filter.mpr ⟨List.mem_of_getElem? (i := 55) (by decide +kernel), rfl⟩
set_option maxRecDepth 20000 in
theorem kw56 : Cond.initialized RX4 ∈ GL := List.mem_filter.mpr ⟨List.mem_of_getElem? (i := 56) (by decide +kernel), rfl⟩
set_option maxRecDepth 20000 in
theorem kw57 : Cond.initialized RX0 ∈ GL := List.mem_filter.mpr ⟨List.mem_of_getElem? (i := 57) (by decide +kernel), rfl⟩
set_option maxRecDepth 20000 in
theorem kw58 : Cond.initialized RX6 ∈ GL := List.mem_filter.mpr ⟨List.mem_of_getElem? (i := 58) (by decide +kernel), rfl⟩
set_option maxRecDepth 20000 in
theorem kw59 : Cond.classLink RL 7 RX5 ∈ GL := List.mem_filter.mpr ⟨List.mem_of_getElem? (i := 59) (by decide +kernel), rfl⟩
set_option maxRecDepth 20000 in
theorem kw60 : Cond.instantiable RX5 5 ∈ GL := List.mem_filter.mpr ⟨List.mem_of_getElem? (i := 60) (by decide +kernel), rfl⟩
set_option maxRecDepth 20000 in
theorem kw61 : Cond.methodLink RL 9 yX5_init ∈ GL := List.mem_filter.mpr ⟨List.mem_of_getElem? (i := 61) (by decide +kernel), rfl⟩
set_option maxRecDepth 20000 in
theorem kw62 : Cond.instanceMethod yX5_init ∈ GL := List.mem_filter.mpr ⟨List.mem_of_getElem? (i := 62) (by decide +kernel), rfl⟩
set_option maxRecDepth 20000 in
theorem kw63 : Cond.code yX5_init cX5_init 1 none ∈ GL := List.mem_filter.mpr ⟨List.mem_of_getElem? (i := 63) rfl, rfl⟩
set_option maxRecDepth 20000 in
theorem kw64 : Cond.methodLink RX5 3 objectInit ∈ GL := List.mem_filter.mpr ⟨List.mem_of_getElem? (i := 64) (by decide +kernel), rfl⟩
set_option maxRecDepth 20000 in
theorem kw65 : Cond.instanceMethod objectInit ∈ GL := List.mem_filter.mpr ⟨List.mem_of_getElem? (i := 65) (by decide +kernel), rfl⟩
set_option maxRecDepth 20000 in
theorem kw66 : Cond.code objectInit ⟨#[0xb1]⟩ 1 none ∈ GL := List.mem_filter.mpr ⟨List.mem_of_getElem? (i := 66) rfl, rfl⟩
set_option maxRecDepth 20000 in
theorem kw67 : Cond.classLink RX5 9 RX2 ∈ GL := List.mem_filter.mpr ⟨List.mem_of_getElem? (i := 67) (by decide +kernel), rfl⟩
set_option maxRecDepth 20000 in
theorem kw68 : Cond.instantiable RX2 9 ∈ GL := List.mem_filter.mpr ⟨List.mem_of_getElem? (i := 68) (by decide +kernel), rfl⟩
set_option maxRecDepth 20000 in
theorem kw70 : Cond.instanceMethod yX2_init ∈ GL := List.mem_filter.mpr ⟨List.mem_of_getElem? (i := 70) (by decide +kernel), rfl⟩
set_option maxRecDepth 20000 in
theorem kw71 : Cond.code yX2_init cX2_init 1 none ∈ GL := List.mem_filter.mpr ⟨List.mem_of_getElem? (i := 71) rfl, rfl⟩
set_option maxRecDepth 20000 in
theorem kw72 : Cond.methodLink RX2 3 objectInit ∈ GL := List.mem_filter.mpr ⟨List.mem_of_getElem? (i := 72) (by decide +kernel), rfl⟩
set_option maxRecDepth 20000 in
theorem kw73 : Cond.fieldLink RX2 9 "LeastCost$Problem" "costs" "[I" ∈ GL := List.mem_filter.mpr ⟨List.mem_of_getElem? (i := 73) (by decide +kernel), rfl⟩
set_option maxRecDepth 20000 in
theorem kw75 : Cond.fieldLink RX2 15 "LeastCost$Problem" "coefficients" "[I" ∈ GL := List.mem_filter.mpr ⟨List.mem_of_getElem? (i := 75) (by decide +kernel), rfl⟩
set_option maxRecDepth 20000 in
theorem kw76 : Cond.fieldLink RX2 18 "LeastCost$Problem" "literals" "[I" ∈ GL := List.mem_filter.mpr ⟨List.mem_of_getElem? (i := 76) (by decide +kernel), rfl⟩
set_option maxRecDepth 20000 in
theorem kw77 : Cond.fieldLink RX2 21 "LeastCost$Problem" "bits" "[I" ∈ GL := List.mem_filter.mpr ⟨List.mem_of_getElem? (i := 77) (by decide +kernel), rfl⟩
set_option maxRecDepth 20000 in
theorem kw78 : Cond.fieldLink RX2 24 "LeastCost$Problem" "firsts" "[I" ∈ GL := List.mem_filter.mpr ⟨List.mem_of_getElem? (i := 78) (by decide +kernel), rfl⟩
set_option maxRecDepth 20000 in
theorem kw79 : Cond.fieldLink RX2 27 "LeastCost$Problem" "bounds" "[I" ∈ GL := List.mem_filter.mpr ⟨List.mem_of_getElem? (i := 79) (by decide +kernel), rfl⟩
set_option maxRecDepth 20000 in
theorem kw80 : Cond.fieldLink RX2 41 "LeastCost$Problem" "terms" "I" ∈ GL := List.mem_filter.mpr ⟨List.mem_of_getElem? (i := 80) (by decide +kernel), rfl⟩
set_option maxRecDepth 20000 in
theorem kw81 : Cond.fieldLink RX2 37 "LeastCost$Problem" "constraints" "I" ∈ GL := List.mem_filter.mpr ⟨List.mem_of_getElem? (i := 81) (by decide +kernel), rfl⟩
set_option maxRecDepth 20000 in
theorem kw82 : Cond.fieldLink RX2 44 "LeastCost$Problem" "taken" "I" ∈ GL := List.mem_filter.mpr ⟨List.mem_of_getElem? (i := 82) (by decide +kernel), rfl⟩
set_option maxRecDepth 20000 in
theorem kw102 : Cond.arrayClass .int ∈ GL := List.mem_filter.mpr ⟨List.mem_of_getElem? (i := 102) (by decide +kernel), rfl⟩
set_option maxRecDepth 20000 in
theorem kw103 : Cond.classLink RX5 16 RX1 ∈ GL := List.mem_filter.mpr ⟨List.mem_of_getElem? (i := 103) (by decide +kernel), rfl⟩
set_option maxRecDepth 20000 in
theorem kw104 : Cond.instantiable RX1 2 ∈ GL := List.mem_filter.mpr ⟨List.mem_of_getElem? (i := 104) (by decide +kernel), rfl⟩
set_option maxRecDepth 20000 in
theorem kw106 : Cond.instanceMethod yX1_init ∈ GL := List.mem_filter.mpr ⟨List.mem_of_getElem? (i := 106) (by decide +kernel), rfl⟩
set_option maxRecDepth 20000 in
theorem kw107 : Cond.code yX1_init cX1_init 1 none ∈ GL := List.mem_filter.mpr ⟨List.mem_of_getElem? (i := 107) rfl, rfl⟩
set_option maxRecDepth 20000 in
theorem kw108 : Cond.methodLink RX1 3 objectInit ∈ GL := List.mem_filter.mpr ⟨List.mem_of_getElem? (i := 108) (by decide +kernel), rfl⟩
set_option maxRecDepth 20000 in
theorem kw109 : Cond.fieldLink RX1 9 "LeastCost$Log" "words" "[I" ∈ GL := List.mem_filter.mpr ⟨List.mem_of_getElem? (i := 109) (by decide +kernel), rfl⟩
set_option maxRecDepth 20000 in
theorem kw110 : Cond.fieldLink RX1 15 "LeastCost$Log" "size" "I" ∈ GL := List.mem_filter.mpr ⟨List.mem_of_getElem? (i := 110) (by decide +kernel), rfl⟩
set_option maxRecDepth 20000 in
theorem kw118 : Cond.classLink RX5 23 RX3 ∈ GL := List.mem_filter.mpr ⟨List.mem_of_getElem? (i := 118) (by decide +kernel), rfl⟩
set_option maxRecDepth 20000 in
theorem kw119 : Cond.instantiable RX3 11 ∈ GL := List.mem_filter.mpr ⟨List.mem_of_getElem? (i := 119) (by decide +kernel), rfl⟩
set_option maxRecDepth 20000 in
theorem kw121 : Cond.instanceMethod yX3_init ∈ GL := List.mem_filter.mpr ⟨List.mem_of_getElem? (i := 121) (by decide +kernel), rfl⟩
set_option maxRecDepth 20000 in
theorem kw122 : Cond.code yX3_init cX3_init 3 none ∈ GL := List.mem_filter.mpr ⟨List.mem_of_getElem? (i := 122) rfl, rfl⟩
set_option maxRecDepth 20000 in
theorem kw123 : Cond.methodLink RX3 3 objectInit ∈ GL := List.mem_filter.mpr ⟨List.mem_of_getElem? (i := 123) (by decide +kernel), rfl⟩
set_option maxRecDepth 20000 in
theorem kw124 : Cond.classLink RX3 9 RX4 ∈ GL := List.mem_filter.mpr ⟨List.mem_of_getElem? (i := 124) (by decide +kernel), rfl⟩
set_option maxRecDepth 20000 in
theorem kw125 : Cond.instantiable RX4 2 ∈ GL := List.mem_filter.mpr ⟨List.mem_of_getElem? (i := 125) (by decide +kernel), rfl⟩
set_option maxRecDepth 20000 in
theorem kw127 : Cond.instanceMethod yX4_init ∈ GL := List.mem_filter.mpr ⟨List.mem_of_getElem? (i := 127) (by decide +kernel), rfl⟩
set_option maxRecDepth 20000 in
theorem kw128 : Cond.code yX4_init cX4_init 1 none ∈ GL := List.mem_filter.mpr ⟨List.mem_of_getElem? (i := 128) rfl, rfl⟩
set_option maxRecDepth 20000 in
theorem kw129 : Cond.methodLink RX4 3 objectInit ∈ GL := List.mem_filter.mpr ⟨List.mem_of_getElem? (i := 129) (by decide +kernel), rfl⟩
set_option maxRecDepth 20000 in
theorem kw130 : Cond.fieldLink RX4 9 "LeastCost$Setting" "ones" "I" ∈ GL := List.mem_filter.mpr ⟨List.mem_of_getElem? (i := 130) (by decide +kernel), rfl⟩
set_option maxRecDepth 20000 in
theorem kw134 : Cond.fieldLink RX4 15 "LeastCost$Setting" "zeros" "I" ∈ GL := List.mem_filter.mpr ⟨List.mem_of_getElem? (i := 134) (by decide +kernel), rfl⟩
set_option maxRecDepth 20000 in
theorem kw143 : Cond.fieldLink RX3 35 "LeastCost$Search" "problem" "LLeastCost$Problem;" ∈ GL := List.mem_filter.mpr ⟨List.mem_of_getElem? (i := 143) (by decide +kernel), rfl⟩
set_option maxRecDepth 20000 in
theorem kw144 : Cond.fieldLink RX3 39 "LeastCost$Search" "log" "LLeastCost$Log;" ∈ GL := List.mem_filter.mpr ⟨List.mem_of_getElem? (i := 144) (by decide +kernel), rfl⟩
set_option maxRecDepth 20000 in
theorem kw145 : Cond.fieldLink RX3 12 "LeastCost$Search" "setting" "LLeastCost$Setting;" ∈ GL := List.mem_filter.mpr ⟨List.mem_of_getElem? (i := 145) (by decide +kernel), rfl⟩
set_option maxRecDepth 20000 in
theorem kw146 : Cond.fieldLink RX3 18 "LeastCost$Search" "choices" "[I" ∈ GL := List.mem_filter.mpr ⟨List.mem_of_getElem? (i := 146) (by decide +kernel), rfl⟩
set_option maxRecDepth 20000 in
theorem kw147 : Cond.fieldLink RX3 22 "LeastCost$Search" "onesBefore" "[I" ∈ GL := List.mem_filter.mpr ⟨List.mem_of_getElem? (i := 147) (by decide +kernel), rfl⟩
set_option maxRecDepth 20000 in
theorem kw148 : Cond.fieldLink RX3 25 "LeastCost$Search" "zerosBefore" "[I" ∈ GL := List.mem_filter.mpr ⟨List.mem_of_getElem? (i := 148) (by decide +kernel), rfl⟩
set_option maxRecDepth 20000 in
theorem kw149 : Cond.fieldLink RX3 84 "LeastCost$Search" "depth" "I" ∈ GL := List.mem_filter.mpr ⟨List.mem_of_getElem? (i := 149) (by decide +kernel), rfl⟩
set_option maxRecDepth 20000 in
theorem kw150 : Cond.fieldLink RX3 28 "LeastCost$Search" "bestCost" "I" ∈ GL := List.mem_filter.mpr ⟨List.mem_of_getElem? (i := 150) (by decide +kernel), rfl⟩
set_option maxRecDepth 20000 in
theorem kw152 : Cond.fieldLink RX3 94 "LeastCost$Search" "bestOnes" "I" ∈ GL := List.mem_filter.mpr ⟨List.mem_of_getElem? (i := 152) (by decide +kernel), rfl⟩
set_option maxRecDepth 20000 in
theorem kw154 : Cond.fieldLink RX3 46 "LeastCost$Search" "stepsMade" "I" ∈ GL := List.mem_filter.mpr ⟨List.mem_of_getElem? (i := 154) (by decide +kernel), rfl⟩
set_option maxRecDepth 20000 in
theorem kw156 : Cond.fieldLink RX3 32 "LeastCost$Search" "state" "I" ∈ GL := List.mem_filter.mpr ⟨List.mem_of_getElem? (i := 156) (by decide +kernel), rfl⟩
set_option maxRecDepth 20000 in
theorem kw180 : Cond.classLink RX5 32 RX0 ∈ GL := List.mem_filter.mpr ⟨List.mem_of_getElem? (i := 180) (by decide +kernel), rfl⟩
set_option maxRecDepth 20000 in
theorem kw181 : Cond.instantiable RX0 13 ∈ GL := List.mem_filter.mpr ⟨List.mem_of_getElem? (i := 181) (by decide +kernel), rfl⟩
set_option maxRecDepth 20000 in
theorem kw183 : Cond.instanceMethod yX0_init ∈ GL := List.mem_filter.mpr ⟨List.mem_of_getElem? (i := 183) (by decide +kernel), rfl⟩
set_option maxRecDepth 20000 in
theorem kw184 : Cond.code yX0_init cX0_init 3 none ∈ GL := List.mem_filter.mpr ⟨List.mem_of_getElem? (i := 184) rfl, rfl⟩
set_option maxRecDepth 20000 in
theorem kw185 : Cond.methodLink RX0 3 objectInit ∈ GL := List.mem_filter.mpr ⟨List.mem_of_getElem? (i := 185) (by decide +kernel), rfl⟩
set_option maxRecDepth 20000 in
theorem kw186 : Cond.classLink RX0 9 RX4 ∈ GL := List.mem_filter.mpr ⟨List.mem_of_getElem? (i := 186) (by decide +kernel), rfl⟩
set_option maxRecDepth 20000 in
theorem kw188 : Cond.fieldLink RX0 33 "LeastCost$Checker" "problem" "LLeastCost$Problem;" ∈ GL := List.mem_filter.mpr ⟨List.mem_of_getElem? (i := 188) (by decide +kernel), rfl⟩
set_option maxRecDepth 20000 in
theorem kw189 : Cond.fieldLink RX0 37 "LeastCost$Checker" "log" "LLeastCost$Log;" ∈ GL := List.mem_filter.mpr ⟨List.mem_of_getElem? (i := 189) (by decide +kernel), rfl⟩
set_option maxRecDepth 20000 in
theorem kw190 : Cond.fieldLink RX0 12 "LeastCost$Checker" "setting" "LLeastCost$Setting;" ∈ GL := List.mem_filter.mpr ⟨List.mem_of_getElem? (i := 190) (by decide +kernel), rfl⟩
set_option maxRecDepth 20000 in
theorem kw191 : Cond.fieldLink RX0 18 "LeastCost$Checker" "waitingOnes" "[I" ∈ GL := List.mem_filter.mpr ⟨List.mem_of_getElem? (i := 191) (by decide +kernel), rfl⟩
set_option maxRecDepth 20000 in
theorem kw192 : Cond.fieldLink RX0 22 "LeastCost$Checker" "waitingZeros" "[I" ∈ GL := List.mem_filter.mpr ⟨List.mem_of_getElem? (i := 192) (by decide +kernel), rfl⟩
set_option maxRecDepth 20000 in
theorem kw193 : Cond.fieldLink RX0 25 "LeastCost$Checker" "waitingBroken" "[Z" ∈ GL := List.mem_filter.mpr ⟨List.mem_of_getElem? (i := 193) (by decide +kernel), rfl⟩
set_option maxRecDepth 20000 in
theorem kw194 : Cond.fieldLink RX0 80 "LeastCost$Checker" "waiting" "I" ∈ GL := List.mem_filter.mpr ⟨List.mem_of_getElem? (i := 194) (by decide +kernel), rfl⟩
set_option maxRecDepth 20000 in
theorem kw195 : Cond.fieldLink RX0 116 "LeastCost$Checker" "broken" "Z" ∈ GL := List.mem_filter.mpr ⟨List.mem_of_getElem? (i := 195) (by decide +kernel), rfl⟩
set_option maxRecDepth 20000 in
theorem kw196 : Cond.fieldLink RX0 74 "LeastCost$Checker" "limit" "I" ∈ GL := List.mem_filter.mpr ⟨List.mem_of_getElem? (i := 196) (by decide +kernel), rfl⟩
set_option maxRecDepth 20000 in
theorem kw197 : Cond.fieldLink RX0 77 "LeastCost$Checker" "position" "I" ∈ GL := List.mem_filter.mpr ⟨List.mem_of_getElem? (i := 197) (by decide +kernel), rfl⟩
set_option maxRecDepth 20000 in
theorem kw198 : Cond.fieldLink RX0 59 "LeastCost$Checker" "treeSize" "I" ∈ GL := List.mem_filter.mpr ⟨List.mem_of_getElem? (i := 198) (by decide +kernel), rfl⟩
set_option maxRecDepth 20000 in
theorem kw199 : Cond.fieldLink RX0 41 "LeastCost$Checker" "begun" "Z" ∈ GL := List.mem_filter.mpr ⟨List.mem_of_getElem? (i := 199) (by decide +kernel), rfl⟩
set_option maxRecDepth 20000 in
theorem kw200 : Cond.fieldLink RX0 29 "LeastCost$Checker" "verdict" "I" ∈ GL := List.mem_filter.mpr ⟨List.mem_of_getElem? (i := 200) (by decide +kernel), rfl⟩
set_option maxRecDepth 20000 in
theorem kw228 : Cond.arrayClass .boolean ∈ GL := List.mem_filter.mpr ⟨List.mem_of_getElem? (i := 228) (by decide +kernel), rfl⟩
set_option maxRecDepth 20000 in
theorem kw229 : Cond.fieldLink RX5 12 "LeastCost" "problem" "LLeastCost$Problem;" ∈ GL := List.mem_filter.mpr ⟨List.mem_of_getElem? (i := 229) (by decide +kernel), rfl⟩
set_option maxRecDepth 20000 in
theorem kw230 : Cond.fieldLink RX5 19 "LeastCost" "log" "LLeastCost$Log;" ∈ GL := List.mem_filter.mpr ⟨List.mem_of_getElem? (i := 230) (by decide +kernel), rfl⟩
set_option maxRecDepth 20000 in
theorem kw231 : Cond.fieldLink RX5 28 "LeastCost" "search" "LLeastCost$Search;" ∈ GL := List.mem_filter.mpr ⟨List.mem_of_getElem? (i := 231) (by decide +kernel), rfl⟩
set_option maxRecDepth 20000 in
theorem kw232 : Cond.fieldLink RX5 35 "LeastCost" "checker" "LLeastCost$Checker;" ∈ GL := List.mem_filter.mpr ⟨List.mem_of_getElem? (i := 232) (by decide +kernel), rfl⟩
set_option maxRecDepth 20000 in
theorem kw233 : Cond.fieldLink RX5 39 "LeastCost" "started" "Z" ∈ GL := List.mem_filter.mpr ⟨List.mem_of_getElem? (i := 233) (by decide +kernel), rfl⟩
set_option maxRecDepth 20000 in
theorem kw245 : Cond.methodLink RL 13 yX5_setCost ∈ GL := List.mem_filter.mpr ⟨List.mem_of_getElem? (i := 245) (by decide +kernel), rfl⟩
set_option maxRecDepth 20000 in
theorem kw246 : Cond.instanceMethod yX5_setCost ∈ GL := List.mem_filter.mpr ⟨List.mem_of_getElem? (i := 246) (by decide +kernel), rfl⟩
set_option maxRecDepth 20000 in
theorem kw247 : Cond.selects RX5 yX5_setCost yX5_setCost ∈ GL := List.mem_filter.mpr ⟨List.mem_of_getElem? (i := 247) (by decide +kernel), rfl⟩
set_option maxRecDepth 20000 in
theorem kw248 : Cond.code yX5_setCost cX5_setCost 3 (some .int) ∈ GL := List.mem_filter.mpr ⟨List.mem_of_getElem? (i := 248) rfl, rfl⟩
set_option maxRecDepth 20000 in
theorem kw249 : Cond.methodLink RX5 43 yX5_isVariable ∈ GL := List.mem_filter.mpr ⟨List.mem_of_getElem? (i := 249) (by decide +kernel), rfl⟩
set_option maxRecDepth 20000 in
theorem kw250 : Cond.static yX5_isVariable ∈ GL := List.mem_filter.mpr ⟨List.mem_of_getElem? (i := 250) (by decide +kernel), rfl⟩
set_option maxRecDepth 20000 in
theorem kw251 : Cond.code yX5_isVariable cX5_isVariable 1 (some .boolean) ∈ GL := List.mem_filter.mpr ⟨List.mem_of_getElem? (i := 251) rfl, rfl⟩
set_option maxRecDepth 20000 in
theorem kw252 : Cond.methodLink RX5 47 yX5_isWithin ∈ GL := List.mem_filter.mpr ⟨List.mem_of_getElem? (i := 252) (by decide +kernel), rfl⟩
set_option maxRecDepth 20000 in
theorem kw253 : Cond.static yX5_isWithin ∈ GL := List.mem_filter.mpr ⟨List.mem_of_getElem? (i := 253) (by decide +kernel), rfl⟩
set_option maxRecDepth 20000 in
theorem kw254 : Cond.code yX5_isWithin cX5_isWithin 3 (some .boolean) ∈ GL := List.mem_filter.mpr ⟨List.mem_of_getElem? (i := 254) rfl, rfl⟩
set_option maxRecDepth 20000 in
theorem kw255 : Cond.methodLink RL 18 yX5_term ∈ GL := List.mem_filter.mpr ⟨List.mem_of_getElem? (i := 255) (by decide +kernel), rfl⟩
set_option maxRecDepth 20000 in
theorem kw256 : Cond.instanceMethod yX5_term ∈ GL := List.mem_filter.mpr ⟨List.mem_of_getElem? (i := 256) (by decide +kernel), rfl⟩
set_option maxRecDepth 20000 in
theorem kw257 : Cond.selects RX5 yX5_term yX5_term ∈ GL := List.mem_filter.mpr ⟨List.mem_of_getElem? (i := 257) (by decide +kernel), rfl⟩
set_option maxRecDepth 20000 in
theorem kw258 : Cond.code yX5_term cX5_term 3 (some .int) ∈ GL := List.mem_filter.mpr ⟨List.mem_of_getElem? (i := 258) rfl, rfl⟩
set_option maxRecDepth 20000 in
theorem kw259 : Cond.methodLink RX5 55 yX5_variableOf ∈ GL := List.mem_filter.mpr ⟨List.mem_of_getElem? (i := 259) (by decide +kernel), rfl⟩
set_option maxRecDepth 20000 in
theorem kw260 : Cond.static yX5_variableOf ∈ GL := List.mem_filter.mpr ⟨List.mem_of_getElem? (i := 260) (by decide +kernel), rfl⟩
set_option maxRecDepth 20000 in
theorem kw261 : Cond.code yX5_variableOf cX5_variableOf 1 (some .int) ∈ GL := List.mem_filter.mpr ⟨List.mem_of_getElem? (i := 261) rfl, rfl⟩
set_option maxRecDepth 20000 in
theorem kw264 : Cond.instanceMethod yX2_addTerm ∈ GL := List.mem_filter.mpr ⟨List.mem_of_getElem? (i := 264) (by decide +kernel), rfl⟩
set_option maxRecDepth 20000 in
theorem kw265 : Cond.code yX2_addTerm cX2_addTerm 4 (some .boolean) ∈ GL := List.mem_filter.mpr ⟨List.mem_of_getElem? (i := 265) rfl, rfl⟩
set_option maxRecDepth 20000 in
theorem kw268 : Cond.static yX5_bitOf ∈ GL := List.mem_filter.mpr ⟨List.mem_of_getElem? (i := 268) (by decide +kernel), rfl⟩
set_option maxRecDepth 20000 in
theorem kw269 : Cond.code yX5_bitOf cX5_bitOf 1 (some .int) ∈ GL := List.mem_filter.mpr ⟨List.mem_of_getElem? (i := 269) rfl, rfl⟩
set_option maxRecDepth 20000 in
theorem kw270 : Cond.methodLink RL 22 yX5_end ∈ GL := List.mem_filter.mpr ⟨List.mem_of_getElem? (i := 270) (by decide +kernel), rfl⟩
set_option maxRecDepth 20000 in
theorem kw271 : Cond.instanceMethod yX5_end ∈ GL := List.mem_filter.mpr ⟨List.mem_of_getElem? (i := 271) (by decide +kernel), rfl⟩
set_option maxRecDepth 20000 in
theorem kw272 : Cond.selects RX5 yX5_end yX5_end ∈ GL := List.mem_filter.mpr ⟨List.mem_of_getElem? (i := 272) (by decide +kernel), rfl⟩
set_option maxRecDepth 20000 in
theorem kw273 : Cond.code yX5_end cX5_end 2 (some .int) ∈ GL := List.mem_filter.mpr ⟨List.mem_of_getElem? (i := 273) rfl, rfl⟩
set_option maxRecDepth 20000 in
theorem kw274 : Cond.constant RX5 63 (1073741824) ∈ GL := List.mem_filter.mpr ⟨List.mem_of_getElem? (i := 274) (by decide +kernel), rfl⟩
set_option maxRecDepth 20000 in
theorem kw277 : Cond.instanceMethod yX2_makeConstraint ∈ GL := List.mem_filter.mpr ⟨List.mem_of_getElem? (i := 277) (by decide +kernel), rfl⟩
set_option maxRecDepth 20000 in
theorem kw278 : Cond.code yX2_makeConstraint cX2_makeConstraint 3 (some .int) ∈ GL := List.mem_filter.mpr ⟨List.mem_of_getElem? (i := 278) rfl, rfl⟩
set_option maxRecDepth 20000 in
theorem kw279 : Cond.methodLink RL 27 yX5_run ∈ GL := List.mem_filter.mpr ⟨List.mem_of_getElem? (i := 279) (by decide +kernel), rfl⟩
set_option maxRecDepth 20000 in
theorem kw280 : Cond.instanceMethod yX5_run ∈ GL := List.mem_filter.mpr ⟨List.mem_of_getElem? (i := 280) (by decide +kernel), rfl⟩
set_option maxRecDepth 20000 in
theorem kw281 : Cond.selects RX5 yX5_run yX5_run ∈ GL := List.mem_filter.mpr ⟨List.mem_of_getElem? (i := 281) (by decide +kernel), rfl⟩
set_option maxRecDepth 20000 in
theorem kw282 : Cond.code yX5_run cX5_run 2 (some .int) ∈ GL := List.mem_filter.mpr ⟨List.mem_of_getElem? (i := 282) rfl, rfl⟩
set_option maxRecDepth 20000 in
theorem kw285 : Cond.instanceMethod yX3_advance ∈ GL := List.mem_filter.mpr ⟨List.mem_of_getElem? (i := 285) (by decide +kernel), rfl⟩
set_option maxRecDepth 20000 in
theorem kw286 : Cond.code yX3_advance cX3_advance 3 (some .int) ∈ GL := List.mem_filter.mpr ⟨List.mem_of_getElem? (i := 286) rfl, rfl⟩
set_option maxRecDepth 20000 in
theorem kw287 : Cond.methodLink RX3 43 yX3_step ∈ GL := List.mem_filter.mpr ⟨List.mem_of_getElem? (i := 287) (by decide +kernel), rfl⟩
set_option maxRecDepth 20000 in
theorem kw289 : Cond.instanceMethod yX3_step ∈ GL := List.mem_filter.mpr ⟨List.mem_of_getElem? (i := 289) (by decide +kernel), rfl⟩
set_option maxRecDepth 20000 in
theorem kw290 : Cond.code yX3_step cX3_step 4 none ∈ GL := List.mem_filter.mpr ⟨List.mem_of_getElem? (i := 290) rfl, rfl⟩
set_option maxRecDepth 20000 in
theorem kw292 : Cond.static yX5_limitBelow ∈ GL := List.mem_filter.mpr ⟨List.mem_of_getElem? (i := 292) (by decide +kernel), rfl⟩
set_option maxRecDepth 20000 in
theorem kw293 : Cond.code yX5_limitBelow cX5_limitBelow 1 (some .int) ∈ GL := List.mem_filter.mpr ⟨List.mem_of_getElem? (i := 293) rfl, rfl⟩
set_option maxRecDepth 20000 in
theorem kw294 : Cond.constant RX5 105 (2097152) ∈ GL := List.mem_filter.mpr ⟨List.mem_of_getElem? (i := 294) (by decide +kernel), rfl⟩
set_option maxRecDepth 20000 in
theorem kw297 : Cond.instanceMethod yX2_isBroken ∈ GL := List.mem_filter.mpr ⟨List.mem_of_getElem? (i := 297) (by decide +kernel), rfl⟩
set_option maxRecDepth 20000 in
theorem kw298 : Cond.code yX2_isBroken cX2_isBroken 4 (some .boolean) ∈ GL := List.mem_filter.mpr ⟨List.mem_of_getElem? (i := 298) rfl, rfl⟩
set_option maxRecDepth 20000 in
theorem kw299 : Cond.methodLink RX2 58 yX2_slackOf ∈ GL := List.mem_filter.mpr ⟨List.mem_of_getElem? (i := 299) (by decide +kernel), rfl⟩
set_option maxRecDepth 20000 in
theorem kw301 : Cond.instanceMethod yX2_slackOf ∈ GL := List.mem_filter.mpr ⟨List.mem_of_getElem? (i := 301) (by decide +kernel), rfl⟩
set_option maxRecDepth 20000 in
theorem kw302 : Cond.code yX2_slackOf cX2_slackOf 6 (some .int) ∈ GL := List.mem_filter.mpr ⟨List.mem_of_getElem? (i := 302) rfl, rfl⟩
set_option maxRecDepth 20000 in
theorem kw303 : Cond.methodLink RX2 62 yX2_limitSlack ∈ GL := List.mem_filter.mpr ⟨List.mem_of_getElem? (i := 303) (by decide +kernel), rfl⟩
set_option maxRecDepth 20000 in
theorem kw305 : Cond.instanceMethod yX2_limitSlack ∈ GL := List.mem_filter.mpr ⟨List.mem_of_getElem? (i := 305) (by decide +kernel), rfl⟩
set_option maxRecDepth 20000 in
theorem kw306 : Cond.code yX2_limitSlack cX2_limitSlack 3 (some .int) ∈ GL := List.mem_filter.mpr ⟨List.mem_of_getElem? (i := 306) rfl, rfl⟩
set_option maxRecDepth 20000 in
theorem kw307 : Cond.methodLink RX2 55 yX2_costOf ∈ GL := List.mem_filter.mpr ⟨List.mem_of_getElem? (i := 307) (by decide +kernel), rfl⟩
set_option maxRecDepth 20000 in
theorem kw309 : Cond.instanceMethod yX2_costOf ∈ GL := List.mem_filter.mpr ⟨List.mem_of_getElem? (i := 309) (by decide +kernel), rfl⟩
set_option maxRecDepth 20000 in
theorem kw310 : Cond.code yX2_costOf cX2_costOf 4 (some .int) ∈ GL := List.mem_filter.mpr ⟨List.mem_of_getElem? (i := 310) rfl, rfl⟩
set_option maxRecDepth 20000 in
theorem kw311 : Cond.methodLink RX3 59 yX3_goBack ∈ GL := List.mem_filter.mpr ⟨List.mem_of_getElem? (i := 311) (by decide +kernel), rfl⟩
set_option maxRecDepth 20000 in
theorem kw313 : Cond.instanceMethod yX3_goBack ∈ GL := List.mem_filter.mpr ⟨List.mem_of_getElem? (i := 313) (by decide +kernel), rfl⟩
set_option maxRecDepth 20000 in
theorem kw314 : Cond.code yX3_goBack cX3_goBack 1 none ∈ GL := List.mem_filter.mpr ⟨List.mem_of_getElem? (i := 314) rfl, rfl⟩
set_option maxRecDepth 20000 in
theorem kw315 : Cond.methodLink RX3 80 yX3_writes ∈ GL := List.mem_filter.mpr ⟨List.mem_of_getElem? (i := 315) (by decide +kernel), rfl⟩
set_option maxRecDepth 20000 in
theorem kw317 : Cond.instanceMethod yX3_writes ∈ GL := List.mem_filter.mpr ⟨List.mem_of_getElem? (i := 317) (by decide +kernel), rfl⟩
set_option maxRecDepth 20000 in
theorem kw318 : Cond.code yX3_writes cX3_writes 3 (some .boolean) ∈ GL := List.mem_filter.mpr ⟨List.mem_of_getElem? (i := 318) rfl, rfl⟩
set_option maxRecDepth 20000 in
theorem kw321 : Cond.instanceMethod yX1_append ∈ GL := List.mem_filter.mpr ⟨List.mem_of_getElem? (i := 321) (by decide +kernel), rfl⟩
set_option maxRecDepth 20000 in
theorem kw322 : Cond.code yX1_append cX1_append 2 (some .boolean) ∈ GL := List.mem_filter.mpr ⟨List.mem_of_getElem? (i := 322) rfl, rfl⟩
set_option maxRecDepth 20000 in
theorem kw323 : Cond.methodLink RX3 87 yX3_finish ∈ GL := List.mem_filter.mpr ⟨List.mem_of_getElem? (i := 323) (by decide +kernel), rfl⟩
set_option maxRecDepth 20000 in
theorem kw325 : Cond.instanceMethod yX3_finish ∈ GL := List.mem_filter.mpr ⟨List.mem_of_getElem? (i := 325) (by decide +kernel), rfl⟩
set_option maxRecDepth 20000 in
theorem kw326 : Cond.code yX3_finish cX3_finish 1 none ∈ GL := List.mem_filter.mpr ⟨List.mem_of_getElem? (i := 326) rfl, rfl⟩
set_option maxRecDepth 20000 in
theorem kw329 : Cond.instanceMethod yX4_become ∈ GL := List.mem_filter.mpr ⟨List.mem_of_getElem? (i := 329) (by decide +kernel), rfl⟩
set_option maxRecDepth 20000 in
theorem kw330 : Cond.code yX4_become cX4_become 3 none ∈ GL := List.mem_filter.mpr ⟨List.mem_of_getElem? (i := 330) rfl, rfl⟩
set_option maxRecDepth 20000 in
theorem kw333 : Cond.instanceMethod yX4_makeTrue ∈ GL := List.mem_filter.mpr ⟨List.mem_of_getElem? (i := 333) (by decide +kernel), rfl⟩
set_option maxRecDepth 20000 in
theorem kw334 : Cond.code yX4_makeTrue cX4_makeTrue 3 none ∈ GL := List.mem_filter.mpr ⟨List.mem_of_getElem? (i := 334) rfl, rfl⟩
set_option maxRecDepth 20000 in
theorem kw339 : Cond.instanceMethod yX2_forcedLiteral ∈ GL := List.mem_filter.mpr ⟨List.mem_of_getElem? (i := 339) (by decide +kernel), rfl⟩
set_option maxRecDepth 20000 in
theorem kw340 : Cond.code yX2_forcedLiteral cX2_forcedLiteral 5 (some .int) ∈ GL := List.mem_filter.mpr ⟨List.mem_of_getElem? (i := 340) rfl, rfl⟩
set_option maxRecDepth 20000 in
theorem kw341 : Cond.methodLink RX2 66 yX2_forcedBy ∈ GL := List.mem_filter.mpr ⟨List.mem_of_getElem? (i := 341) (by decide +kernel), rfl⟩
set_option maxRecDepth 20000 in
theorem kw343 : Cond.instanceMethod yX2_forcedBy ∈ GL := List.mem_filter.mpr ⟨List.mem_of_getElem? (i := 343) (by decide +kernel), rfl⟩
set_option maxRecDepth 20000 in
theorem kw344 : Cond.code yX2_forcedBy cX2_forcedBy 6 (some .int) ∈ GL := List.mem_filter.mpr ⟨List.mem_of_getElem? (i := 344) rfl, rfl⟩
set_option maxRecDepth 20000 in
theorem kw345 : Cond.methodLink RX2 69 yX2_forcedByLimit ∈ GL := List.mem_filter.mpr ⟨List.mem_of_getElem? (i := 345) (by decide +kernel), rfl⟩
set_option maxRecDepth 20000 in
theorem kw347 : Cond.instanceMethod yX2_forcedByLimit ∈ GL := List.mem_filter.mpr ⟨List.mem_of_getElem? (i := 347) (by decide +kernel), rfl⟩
set_option maxRecDepth 20000 in
theorem kw348 : Cond.code yX2_forcedByLimit cX2_forcedByLimit 6 (some .int) ∈ GL := List.mem_filter.mpr ⟨List.mem_of_getElem? (i := 348) rfl, rfl⟩
set_option maxRecDepth 20000 in
theorem kw351 : Cond.instanceMethod yX4_leastNotSet ∈ GL := List.mem_filter.mpr ⟨List.mem_of_getElem? (i := 351) (by decide +kernel), rfl⟩
set_option maxRecDepth 20000 in
theorem kw352 : Cond.code yX4_leastNotSet cX4_leastNotSet 3 (some .int) ∈ GL := List.mem_filter.mpr ⟨List.mem_of_getElem? (i := 352) rfl, rfl⟩
set_option maxRecDepth 20000 in
theorem kw353 : Cond.methodLink RX3 74 yX3_choose ∈ GL := List.mem_filter.mpr ⟨List.mem_of_getElem? (i := 353) (by decide +kernel), rfl⟩
set_option maxRecDepth 20000 in
theorem kw355 : Cond.instanceMethod yX3_choose ∈ GL := List.mem_filter.mpr ⟨List.mem_of_getElem? (i := 355) (by decide +kernel), rfl⟩
set_option maxRecDepth 20000 in
theorem kw356 : Cond.code yX3_choose cX3_choose 2 none ∈ GL := List.mem_filter.mpr ⟨List.mem_of_getElem? (i := 356) rfl, rfl⟩
set_option maxRecDepth 20000 in
theorem kw357 : Cond.methodLink RX3 77 yX3_keepBest ∈ GL := List.mem_filter.mpr ⟨List.mem_of_getElem? (i := 357) (by decide +kernel), rfl⟩
set_option maxRecDepth 20000 in
theorem kw359 : Cond.instanceMethod yX3_keepBest ∈ GL := List.mem_filter.mpr ⟨List.mem_of_getElem? (i := 359) (by decide +kernel), rfl⟩
set_option maxRecDepth 20000 in
theorem kw360 : Cond.code yX3_keepBest cX3_keepBest 1 none ∈ GL := List.mem_filter.mpr ⟨List.mem_of_getElem? (i := 360) rfl, rfl⟩
set_option maxRecDepth 20000 in
theorem kw362 : Cond.methodLink RL 31 yX5_optimum ∈ GL := List.mem_filter.mpr ⟨List.mem_of_getElem? (i := 362) (by decide +kernel), rfl⟩
set_option maxRecDepth 20000 in
theorem kw363 : Cond.instanceMethod yX5_optimum ∈ GL := List.mem_filter.mpr ⟨List.mem_of_getElem? (i := 363) (by decide +kernel), rfl⟩
set_option maxRecDepth 20000 in
theorem kw364 : Cond.selects RX5 yX5_optimum yX5_optimum ∈ GL := List.mem_filter.mpr ⟨List.mem_of_getElem? (i := 364) (by decide +kernel), rfl⟩
set_option maxRecDepth 20000 in
theorem kw365 : Cond.code yX5_optimum cX5_optimum 1 (some .int) ∈ GL := List.mem_filter.mpr ⟨List.mem_of_getElem? (i := 365) rfl, rfl⟩
set_option maxRecDepth 20000 in
theorem kw368 : Cond.instanceMethod yX3_isDone ∈ GL := List.mem_filter.mpr ⟨List.mem_of_getElem? (i := 368) (by decide +kernel), rfl⟩
set_option maxRecDepth 20000 in
theorem kw369 : Cond.code yX3_isDone cX3_isDone 1 (some .boolean) ∈ GL := List.mem_filter.mpr ⟨List.mem_of_getElem? (i := 369) rfl, rfl⟩
set_option maxRecDepth 20000 in
theorem kw370 : Cond.methodLink RL 36 yX5_value ∈ GL := List.mem_filter.mpr ⟨List.mem_of_getElem? (i := 370) (by decide +kernel), rfl⟩
set_option maxRecDepth 20000 in
theorem kw371 : Cond.instanceMethod yX5_value ∈ GL := List.mem_filter.mpr ⟨List.mem_of_getElem? (i := 371) (by decide +kernel), rfl⟩
set_option maxRecDepth 20000 in
theorem kw372 : Cond.selects RX5 yX5_value yX5_value ∈ GL := List.mem_filter.mpr ⟨List.mem_of_getElem? (i := 372) (by decide +kernel), rfl⟩
set_option maxRecDepth 20000 in
theorem kw373 : Cond.code yX5_value cX5_value 2 (some .int) ∈ GL := List.mem_filter.mpr ⟨List.mem_of_getElem? (i := 373) rfl, rfl⟩
set_option maxRecDepth 20000 in
theorem kw374 : Cond.methodLink RX5 81 yX5_bitOf ∈ GL := List.mem_filter.mpr ⟨List.mem_of_getElem? (i := 374) (by decide +kernel), rfl⟩
set_option maxRecDepth 20000 in
theorem kw375 : Cond.methodLink RL 40 yX5_logSize ∈ GL := List.mem_filter.mpr ⟨List.mem_of_getElem? (i := 375) (by decide +kernel), rfl⟩
set_option maxRecDepth 20000 in
theorem kw376 : Cond.instanceMethod yX5_logSize ∈ GL := List.mem_filter.mpr ⟨List.mem_of_getElem? (i := 376) (by decide +kernel), rfl⟩
set_option maxRecDepth 20000 in
theorem kw377 : Cond.selects RX5 yX5_logSize yX5_logSize ∈ GL := List.mem_filter.mpr ⟨List.mem_of_getElem? (i := 377) (by decide +kernel), rfl⟩
set_option maxRecDepth 20000 in
theorem kw378 : Cond.code yX5_logSize cX5_logSize 1 (some .int) ∈ GL := List.mem_filter.mpr ⟨List.mem_of_getElem? (i := 378) rfl, rfl⟩
set_option maxRecDepth 20000 in
theorem kw379 : Cond.methodLink RL 44 yX5_logAt ∈ GL := List.mem_filter.mpr ⟨List.mem_of_getElem? (i := 379) (by decide +kernel), rfl⟩
set_option maxRecDepth 20000 in
theorem kw380 : Cond.instanceMethod yX5_logAt ∈ GL := List.mem_filter.mpr ⟨List.mem_of_getElem? (i := 380) (by decide +kernel), rfl⟩
set_option maxRecDepth 20000 in
theorem kw381 : Cond.selects RX5 yX5_logAt yX5_logAt ∈ GL := List.mem_filter.mpr ⟨List.mem_of_getElem? (i := 381) (by decide +kernel), rfl⟩
set_option maxRecDepth 20000 in
theorem kw382 : Cond.code yX5_logAt cX5_logAt 2 (some .int) ∈ GL := List.mem_filter.mpr ⟨List.mem_of_getElem? (i := 382) rfl, rfl⟩
set_option maxRecDepth 20000 in
theorem kw385 : Cond.instanceMethod yX1_wordAt ∈ GL := List.mem_filter.mpr ⟨List.mem_of_getElem? (i := 385) (by decide +kernel), rfl⟩
set_option maxRecDepth 20000 in
theorem kw386 : Cond.code yX1_wordAt cX1_wordAt 2 (some .int) ∈ GL := List.mem_filter.mpr ⟨List.mem_of_getElem? (i := 386) rfl, rfl⟩
set_option maxRecDepth 20000 in
theorem kw387 : Cond.methodLink RX1 19 yX1_has ∈ GL := List.mem_filter.mpr ⟨List.mem_of_getElem? (i := 387) (by decide +kernel), rfl⟩
set_option maxRecDepth 20000 in
theorem kw389 : Cond.instanceMethod yX1_has ∈ GL := List.mem_filter.mpr ⟨List.mem_of_getElem? (i := 389) (by decide +kernel), rfl⟩
set_option maxRecDepth 20000 in
theorem kw390 : Cond.code yX1_has cX1_has 2 (some .boolean) ∈ GL := List.mem_filter.mpr ⟨List.mem_of_getElem? (i := 390) rfl, rfl⟩
set_option maxRecDepth 20000 in
theorem kw391 : Cond.methodLink RL 48 yX5_poke ∈ GL := List.mem_filter.mpr ⟨List.mem_of_getElem? (i := 391) (by decide +kernel), rfl⟩
set_option maxRecDepth 20000 in
theorem kw392 : Cond.instanceMethod yX5_poke ∈ GL := List.mem_filter.mpr ⟨List.mem_of_getElem? (i := 392) (by decide +kernel), rfl⟩
set_option maxRecDepth 20000 in
theorem kw393 : Cond.selects RX5 yX5_poke yX5_poke ∈ GL := List.mem_filter.mpr ⟨List.mem_of_getElem? (i := 393) (by decide +kernel), rfl⟩
set_option maxRecDepth 20000 in
theorem kw394 : Cond.code yX5_poke cX5_poke 3 (some .int) ∈ GL := List.mem_filter.mpr ⟨List.mem_of_getElem? (i := 394) rfl, rfl⟩
set_option maxRecDepth 20000 in
theorem kw397 : Cond.instanceMethod yX1_replace ∈ GL := List.mem_filter.mpr ⟨List.mem_of_getElem? (i := 397) (by decide +kernel), rfl⟩
set_option maxRecDepth 20000 in
theorem kw398 : Cond.code yX1_replace cX1_replace 3 (some .boolean) ∈ GL := List.mem_filter.mpr ⟨List.mem_of_getElem? (i := 398) rfl, rfl⟩
set_option maxRecDepth 20000 in
theorem kw399 : Cond.methodLink RX1 23 yX1_append ∈ GL := List.mem_filter.mpr ⟨List.mem_of_getElem? (i := 399) (by decide +kernel), rfl⟩
set_option maxRecDepth 20000 in
theorem kw402 : Cond.instanceMethod yX0_beginAnew ∈ GL := List.mem_filter.mpr ⟨List.mem_of_getElem? (i := 402) (by decide +kernel), rfl⟩
set_option maxRecDepth 20000 in
theorem kw403 : Cond.code yX0_beginAnew cX0_beginAnew 1 none ∈ GL := List.mem_filter.mpr ⟨List.mem_of_getElem? (i := 403) rfl, rfl⟩
set_option maxRecDepth 20000 in
theorem kw404 : Cond.methodLink RL 52 yX5_cut ∈ GL := List.mem_filter.mpr ⟨List.mem_of_getElem? (i := 404) (by decide +kernel), rfl⟩
set_option maxRecDepth 20000 in
theorem kw405 : Cond.instanceMethod yX5_cut ∈ GL := List.mem_filter.mpr ⟨List.mem_of_getElem? (i := 405) (by decide +kernel), rfl⟩
set_option maxRecDepth 20000 in
theorem kw406 : Cond.selects RX5 yX5_cut yX5_cut ∈ GL := List.mem_filter.mpr ⟨List.mem_of_getElem? (i := 406) (by decide +kernel), rfl⟩
set_option maxRecDepth 20000 in
theorem kw407 : Cond.code yX5_cut cX5_cut 2 (some .int) ∈ GL := List.mem_filter.mpr ⟨List.mem_of_getElem? (i := 407) rfl, rfl⟩
set_option maxRecDepth 20000 in
theorem kw410 : Cond.instanceMethod yX1_shorten ∈ GL := List.mem_filter.mpr ⟨List.mem_of_getElem? (i := 410) (by decide +kernel), rfl⟩
set_option maxRecDepth 20000 in
theorem kw411 : Cond.code yX1_shorten cX1_shorten 2 (some .boolean) ∈ GL := List.mem_filter.mpr ⟨List.mem_of_getElem? (i := 411) rfl, rfl⟩
set_option maxRecDepth 20000 in
theorem kw413 : Cond.methodLink RL 56 yX5_check ∈ GL := List.mem_filter.mpr ⟨List.mem_of_getElem? (i := 413) (by decide +kernel), rfl⟩
set_option maxRecDepth 20000 in
theorem kw414 : Cond.instanceMethod yX5_check ∈ GL := List.mem_filter.mpr ⟨List.mem_of_getElem? (i := 414) (by decide +kernel), rfl⟩
set_option maxRecDepth 20000 in
theorem kw415 : Cond.selects RX5 yX5_check yX5_check ∈ GL := List.mem_filter.mpr ⟨List.mem_of_getElem? (i := 415) (by decide +kernel), rfl⟩
set_option maxRecDepth 20000 in
theorem kw416 : Cond.code yX5_check cX5_check 2 (some .int) ∈ GL := List.mem_filter.mpr ⟨List.mem_of_getElem? (i := 416) rfl, rfl⟩
set_option maxRecDepth 20000 in
theorem kw419 : Cond.instanceMethod yX0_readOn ∈ GL := List.mem_filter.mpr ⟨List.mem_of_getElem? (i := 419) (by decide +kernel), rfl⟩
set_option maxRecDepth 20000 in
theorem kw420 : Cond.code yX0_readOn cX0_readOn 3 (some .int) ∈ GL := List.mem_filter.mpr ⟨List.mem_of_getElem? (i := 420) rfl, rfl⟩
set_option maxRecDepth 20000 in
theorem kw421 : Cond.methodLink RX0 45 yX0_begin ∈ GL := List.mem_filter.mpr ⟨List.mem_of_getElem? (i := 421) (by decide +kernel), rfl⟩
set_option maxRecDepth 20000 in
theorem kw423 : Cond.instanceMethod yX0_begin ∈ GL := List.mem_filter.mpr ⟨List.mem_of_getElem? (i := 423) (by decide +kernel), rfl⟩
set_option maxRecDepth 20000 in
theorem kw424 : Cond.code yX0_begin cX0_begin 1 none ∈ GL := List.mem_filter.mpr ⟨List.mem_of_getElem? (i := 424) rfl, rfl⟩
set_option maxRecDepth 20000 in
theorem kw425 : Cond.methodLink RX0 62 yX0_claimHolds ∈ GL := List.mem_filter.mpr ⟨List.mem_of_getElem? (i := 425) (by decide +kernel), rfl⟩
set_option maxRecDepth 20000 in
theorem kw427 : Cond.instanceMethod yX0_claimHolds ∈ GL := List.mem_filter.mpr ⟨List.mem_of_getElem? (i := 427) (by decide +kernel), rfl⟩
set_option maxRecDepth 20000 in
theorem kw428 : Cond.code yX0_claimHolds cX0_claimHolds 2 (some .boolean) ∈ GL := List.mem_filter.mpr ⟨List.mem_of_getElem? (i := 428) rfl, rfl⟩
set_option maxRecDepth 20000 in
theorem kw429 : Cond.methodLink RX0 66 yX0_claim ∈ GL := List.mem_filter.mpr ⟨List.mem_of_getElem? (i := 429) (by decide +kernel), rfl⟩
set_option maxRecDepth 20000 in
theorem kw431 : Cond.instanceMethod yX0_claim ∈ GL := List.mem_filter.mpr ⟨List.mem_of_getElem? (i := 431) (by decide +kernel), rfl⟩
set_option maxRecDepth 20000 in
theorem kw432 : Cond.code yX0_claim cX0_claim 1 (some .int) ∈ GL := List.mem_filter.mpr ⟨List.mem_of_getElem? (i := 432) rfl, rfl⟩
set_option maxRecDepth 20000 in
theorem kw434 : Cond.constant RX0 90 (65535) ∈ GL := List.mem_filter.mpr ⟨List.mem_of_getElem? (i := 434) (by decide +kernel), rfl⟩
set_option maxRecDepth 20000 in
theorem kw436 : Cond.constant RX0 95 (2097152) ∈ GL := List.mem_filter.mpr ⟨List.mem_of_getElem? (i := 436) (by decide +kernel), rfl⟩
set_option maxRecDepth 20000 in
theorem kw440 : Cond.methodLink RX0 83 yX0_enterTree ∈ GL := List.mem_filter.mpr ⟨List.mem_of_getElem? (i := 440) (by decide +kernel), rfl⟩
set_option maxRecDepth 20000 in
theorem kw442 : Cond.instanceMethod yX0_enterTree ∈ GL := List.mem_filter.mpr ⟨List.mem_of_getElem? (i := 442) (by decide +kernel), rfl⟩
set_option maxRecDepth 20000 in
theorem kw443 : Cond.code yX0_enterTree cX0_enterTree 4 none ∈ GL := List.mem_filter.mpr ⟨List.mem_of_getElem? (i := 443) rfl, rfl⟩
set_option maxRecDepth 20000 in
theorem kw444 : Cond.methodLink RX0 48 yX0_setWhatIsForced ∈ GL := List.mem_filter.mpr ⟨List.mem_of_getElem? (i := 444) (by decide +kernel), rfl⟩
set_option maxRecDepth 20000 in
theorem kw446 : Cond.instanceMethod yX0_setWhatIsForced ∈ GL := List.mem_filter.mpr ⟨List.mem_of_getElem? (i := 446) (by decide +kernel), rfl⟩
set_option maxRecDepth 20000 in
theorem kw447 : Cond.code yX0_setWhatIsForced cX0_setWhatIsForced 3 none ∈ GL := List.mem_filter.mpr ⟨List.mem_of_getElem? (i := 447) rfl, rfl⟩
set_option maxRecDepth 20000 in
theorem kw450 : Cond.methodLink RX0 51 yX0_readWord ∈ GL := List.mem_filter.mpr ⟨List.mem_of_getElem? (i := 450) (by decide +kernel), rfl⟩
set_option maxRecDepth 20000 in
theorem kw452 : Cond.instanceMethod yX0_readWord ∈ GL := List.mem_filter.mpr ⟨List.mem_of_getElem? (i := 452) (by decide +kernel), rfl⟩
set_option maxRecDepth 20000 in
theorem kw453 : Cond.code yX0_readWord cX0_readWord 2 none ∈ GL := List.mem_filter.mpr ⟨List.mem_of_getElem? (i := 453) rfl, rfl⟩
set_option maxRecDepth 20000 in
theorem kw454 : Cond.methodLink RX0 105 yX0_closeTree ∈ GL := List.mem_filter.mpr ⟨List.mem_of_getElem? (i := 454) (by decide +kernel), rfl⟩
set_option maxRecDepth 20000 in
theorem kw456 : Cond.instanceMethod yX0_closeTree ∈ GL := List.mem_filter.mpr ⟨List.mem_of_getElem? (i := 456) (by decide +kernel), rfl⟩
set_option maxRecDepth 20000 in
theorem kw457 : Cond.code yX0_closeTree cX0_closeTree 1 none ∈ GL := List.mem_filter.mpr ⟨List.mem_of_getElem? (i := 457) rfl, rfl⟩
set_option maxRecDepth 20000 in
theorem kw459 : Cond.methodLink RX0 112 yX0_splitTree ∈ GL := List.mem_filter.mpr ⟨List.mem_of_getElem? (i := 459) (by decide +kernel), rfl⟩
set_option maxRecDepth 20000 in
theorem kw461 : Cond.instanceMethod yX0_splitTree ∈ GL := List.mem_filter.mpr ⟨List.mem_of_getElem? (i := 461) (by decide +kernel), rfl⟩
set_option maxRecDepth 20000 in
theorem kw462 : Cond.code yX0_splitTree cX0_splitTree 3 none ∈ GL := List.mem_filter.mpr ⟨List.mem_of_getElem? (i := 462) rfl, rfl⟩
set_option maxRecDepth 20000 in
theorem kw464 : Cond.methodLink RL 60 yX5_steps ∈ GL := List.mem_filter.mpr ⟨List.mem_of_getElem? (i := 464) (by decide +kernel), rfl⟩
set_option maxRecDepth 20000 in
theorem kw465 : Cond.instanceMethod yX5_steps ∈ GL := List.mem_filter.mpr ⟨List.mem_of_getElem? (i := 465) (by decide +kernel), rfl⟩
set_option maxRecDepth 20000 in
theorem kw466 : Cond.selects RX5 yX5_steps yX5_steps ∈ GL := List.mem_filter.mpr ⟨List.mem_of_getElem? (i := 466) (by decide +kernel), rfl⟩
set_option maxRecDepth 20000 in
theorem kw467 : Cond.code yX5_steps cX5_steps 1 (some .int) ∈ GL := List.mem_filter.mpr ⟨List.mem_of_getElem? (i := 467) rfl, rfl⟩
set_option maxRecDepth 20000 in
theorem kw468 : Cond.classLink RL 10 RX6 ∈ GL := List.mem_filter.mpr ⟨List.mem_of_getElem? (i := 468) (by decide +kernel), rfl⟩
set_option maxRecDepth 20000 in
theorem kw469 : Cond.instantiable RX6 30 ∈ GL := List.mem_filter.mpr ⟨List.mem_of_getElem? (i := 469) (by decide +kernel), rfl⟩
set_option maxRecDepth 20000 in
theorem kw470 : Cond.methodLink RL 12 yX6_init ∈ GL := List.mem_filter.mpr ⟨List.mem_of_getElem? (i := 470) (by decide +kernel), rfl⟩
set_option maxRecDepth 20000 in
theorem kw471 : Cond.instanceMethod yX6_init ∈ GL := List.mem_filter.mpr ⟨List.mem_of_getElem? (i := 471) (by decide +kernel), rfl⟩
set_option maxRecDepth 20000 in
theorem kw472 : Cond.code yX6_init cX6_init 1 none ∈ GL := List.mem_filter.mpr ⟨List.mem_of_getElem? (i := 472) rfl, rfl⟩
set_option maxRecDepth 20000 in
theorem kw473 : Cond.methodLink RX6 1 objectInit ∈ GL := List.mem_filter.mpr ⟨List.mem_of_getElem? (i := 473) (by decide +kernel), rfl⟩
set_option maxRecDepth 20000 in
theorem kw474 : Cond.fieldLink RX6 7 "LeastCostModel" "costs" "[I" ∈ GL := List.mem_filter.mpr ⟨List.mem_of_getElem? (i := 474) (by decide +kernel), rfl⟩
set_option maxRecDepth 20000 in
theorem kw475 : Cond.fieldLink RX6 13 "LeastCostModel" "factors" "[I" ∈ GL := List.mem_filter.mpr ⟨List.mem_of_getElem? (i := 475) (by decide +kernel), rfl⟩
set_option maxRecDepth 20000 in
theorem kw476 : Cond.fieldLink RX6 16 "LeastCostModel" "literals" "[I" ∈ GL := List.mem_filter.mpr ⟨List.mem_of_getElem? (i := 476) (by decide +kernel), rfl⟩
set_option maxRecDepth 20000 in
theorem kw477 : Cond.fieldLink RX6 19 "LeastCostModel" "begins" "[I" ∈ GL := List.mem_filter.mpr ⟨List.mem_of_getElem? (i := 477) (by decide +kernel), rfl⟩
set_option maxRecDepth 20000 in
theorem kw478 : Cond.fieldLink RX6 22 "LeastCostModel" "bounds" "[I" ∈ GL := List.mem_filter.mpr ⟨List.mem_of_getElem? (i := 478) (by decide +kernel), rfl⟩
set_option maxRecDepth 20000 in
theorem kw479 : Cond.fieldLink RX6 65 "LeastCostModel" "constraints" "I" ∈ GL := List.mem_filter.mpr ⟨List.mem_of_getElem? (i := 479) (by decide +kernel), rfl⟩
set_option maxRecDepth 20000 in
theorem kw480 : Cond.fieldLink RX6 62 "LeastCostModel" "terms" "I" ∈ GL := List.mem_filter.mpr ⟨List.mem_of_getElem? (i := 480) (by decide +kernel), rfl⟩
set_option maxRecDepth 20000 in
theorem kw481 : Cond.fieldLink RX6 54 "LeastCostModel" "begun" "Z" ∈ GL := List.mem_filter.mpr ⟨List.mem_of_getElem? (i := 481) (by decide +kernel), rfl⟩
set_option maxRecDepth 20000 in
theorem kw482 : Cond.fieldLink RX6 116 "LeastCostModel" "done" "Z" ∈ GL := List.mem_filter.mpr ⟨List.mem_of_getElem? (i := 482) (by decide +kernel), rfl⟩
set_option maxRecDepth 20000 in
theorem kw483 : Cond.fieldLink RX6 96 "LeastCostModel" "over" "Z" ∈ GL := List.mem_filter.mpr ⟨List.mem_of_getElem? (i := 483) (by decide +kernel), rfl⟩
set_option maxRecDepth 20000 in
theorem kw484 : Cond.fieldLink RX6 69 "LeastCostModel" "set" "I" ∈ GL := List.mem_filter.mpr ⟨List.mem_of_getElem? (i := 484) (by decide +kernel), rfl⟩
set_option maxRecDepth 20000 in
theorem kw485 : Cond.fieldLink RX6 72 "LeastCostModel" "ones" "I" ∈ GL := List.mem_filter.mpr ⟨List.mem_of_getElem? (i := 485) (by decide +kernel), rfl⟩
set_option maxRecDepth 20000 in
theorem kw486 : Cond.fieldLink RX6 25 "LeastCostModel" "trail" "[I" ∈ GL := List.mem_filter.mpr ⟨List.mem_of_getElem? (i := 486) (by decide +kernel), rfl⟩
set_option maxRecDepth 20000 in
theorem kw487 : Cond.fieldLink RX6 28 "LeastCostModel" "choice" "[Z" ∈ GL := List.mem_filter.mpr ⟨List.mem_of_getElem? (i := 487) (by decide +kernel), rfl⟩
set_option maxRecDepth 20000 in
theorem kw488 : Cond.fieldLink RX6 103 "LeastCostModel" "depth" "I" ∈ GL := List.mem_filter.mpr ⟨List.mem_of_getElem? (i := 488) (by decide +kernel), rfl⟩
set_option maxRecDepth 20000 in
theorem kw489 : Cond.fieldLink RX6 133 "LeastCostModel" "searchSet" "I" ∈ GL := List.mem_filter.mpr ⟨List.mem_of_getElem? (i := 489) (by decide +kernel), rfl⟩
set_option maxRecDepth 20000 in
theorem kw490 : Cond.fieldLink RX6 136 "LeastCostModel" "searchOnes" "I" ∈ GL := List.mem_filter.mpr ⟨List.mem_of_getElem? (i := 490) (by decide +kernel), rfl⟩
set_option maxRecDepth 20000 in
theorem kw491 : Cond.fieldLink RX6 32 "LeastCostModel" "best" "I" ∈ GL := List.mem_filter.mpr ⟨List.mem_of_getElem? (i := 491) (by decide +kernel), rfl⟩
set_option maxRecDepth 20000 in
theorem kw492 : Cond.fieldLink RX6 113 "LeastCostModel" "bestOnes" "I" ∈ GL := List.mem_filter.mpr ⟨List.mem_of_getElem? (i := 492) (by decide +kernel), rfl⟩
set_option maxRecDepth 20000 in
theorem kw493 : Cond.fieldLink RX6 119 "LeastCostModel" "made" "I" ∈ GL := List.mem_filter.mpr ⟨List.mem_of_getElem? (i := 493) (by decide +kernel), rfl⟩
set_option maxRecDepth 20000 in
theorem kw494 : Cond.fieldLink RX6 36 "LeastCostModel" "log" "[I" ∈ GL := List.mem_filter.mpr ⟨List.mem_of_getElem? (i := 494) (by decide +kernel), rfl⟩
set_option maxRecDepth 20000 in
theorem kw495 : Cond.fieldLink RX6 93 "LeastCostModel" "size" "I" ∈ GL := List.mem_filter.mpr ⟨List.mem_of_getElem? (i := 495) (by decide +kernel), rfl⟩
set_option maxRecDepth 20000 in
theorem kw496 : Cond.fieldLink RX6 39 "LeastCostModel" "answer" "I" ∈ GL := List.mem_filter.mpr ⟨List.mem_of_getElem? (i := 496) (by decide +kernel), rfl⟩
set_option maxRecDepth 20000 in
theorem kw497 : Cond.fieldLink RX6 145 "LeastCostModel" "looked" "Z" ∈ GL := List.mem_filter.mpr ⟨List.mem_of_getElem? (i := 497) (by decide +kernel), rfl⟩
set_option maxRecDepth 20000 in
theorem kw498 : Cond.fieldLink RX6 148 "LeastCostModel" "place" "I" ∈ GL := List.mem_filter.mpr ⟨List.mem_of_getElem? (i := 498) (by decide +kernel), rfl⟩
set_option maxRecDepth 20000 in
theorem kw499 : Cond.fieldLink RX6 151 "LeastCostModel" "waiting" "I" ∈ GL := List.mem_filter.mpr ⟨List.mem_of_getElem? (i := 499) (by decide +kernel), rfl⟩
set_option maxRecDepth 20000 in
theorem kw500 : Cond.fieldLink RX6 42 "LeastCostModel" "waitSet" "[I" ∈ GL := List.mem_filter.mpr ⟨List.mem_of_getElem? (i := 500) (by decide +kernel), rfl⟩
set_option maxRecDepth 20000 in
theorem kw501 : Cond.fieldLink RX6 45 "LeastCostModel" "waitOnes" "[I" ∈ GL := List.mem_filter.mpr ⟨List.mem_of_getElem? (i := 501) (by decide +kernel), rfl⟩
set_option maxRecDepth 20000 in
theorem kw502 : Cond.fieldLink RX6 48 "LeastCostModel" "waitDead" "[Z" ∈ GL := List.mem_filter.mpr ⟨List.mem_of_getElem? (i := 502) (by decide +kernel), rfl⟩
set_option maxRecDepth 20000 in
theorem kw564 : Cond.methodLink RL 17 yX6_setCost ∈ GL := List.mem_filter.mpr ⟨List.mem_of_getElem? (i := 564) (by decide +kernel), rfl⟩
set_option maxRecDepth 20000 in
theorem kw565 : Cond.instanceMethod yX6_setCost ∈ GL := List.mem_filter.mpr ⟨List.mem_of_getElem? (i := 565) (by decide +kernel), rfl⟩
set_option maxRecDepth 20000 in
theorem kw566 : Cond.selects RX6 yX6_setCost yX6_setCost ∈ GL := List.mem_filter.mpr ⟨List.mem_of_getElem? (i := 566) (by decide +kernel), rfl⟩
set_option maxRecDepth 20000 in
theorem kw567 : Cond.code yX6_setCost cX6_setCost 3 (some .int) ∈ GL := List.mem_filter.mpr ⟨List.mem_of_getElem? (i := 567) rfl, rfl⟩
set_option maxRecDepth 20000 in
theorem kw568 : Cond.methodLink RX6 58 yX6_isIn ∈ GL := List.mem_filter.mpr ⟨List.mem_of_getElem? (i := 568) (by decide +kernel), rfl⟩
set_option maxRecDepth 20000 in
theorem kw569 : Cond.static yX6_isIn ∈ GL := List.mem_filter.mpr ⟨List.mem_of_getElem? (i := 569) (by decide +kernel), rfl⟩
set_option maxRecDepth 20000 in
theorem kw570 : Cond.code yX6_isIn cX6_isIn 3 (some .boolean) ∈ GL := List.mem_filter.mpr ⟨List.mem_of_getElem? (i := 570) rfl, rfl⟩
set_option maxRecDepth 20000 in
theorem kw571 : Cond.methodLink RL 21 yX6_term ∈ GL := List.mem_filter.mpr ⟨List.mem_of_getElem? (i := 571) (by decide +kernel), rfl⟩
set_option maxRecDepth 20000 in
theorem kw572 : Cond.instanceMethod yX6_term ∈ GL := List.mem_filter.mpr ⟨List.mem_of_getElem? (i := 572) (by decide +kernel), rfl⟩
set_option maxRecDepth 20000 in
theorem kw573 : Cond.selects RX6 yX6_term yX6_term ∈ GL := List.mem_filter.mpr ⟨List.mem_of_getElem? (i := 573) (by decide +kernel), rfl⟩
set_option maxRecDepth 20000 in
theorem kw574 : Cond.code yX6_term cX6_term 6 (some .int) ∈ GL := List.mem_filter.mpr ⟨List.mem_of_getElem? (i := 574) rfl, rfl⟩
set_option maxRecDepth 20000 in
theorem kw575 : Cond.methodLink RL 26 yX6_end ∈ GL := List.mem_filter.mpr ⟨List.mem_of_getElem? (i := 575) (by decide +kernel), rfl⟩
set_option maxRecDepth 20000 in
theorem kw576 : Cond.instanceMethod yX6_end ∈ GL := List.mem_filter.mpr ⟨List.mem_of_getElem? (i := 576) (by decide +kernel), rfl⟩
set_option maxRecDepth 20000 in
theorem kw577 : Cond.selects RX6 yX6_end yX6_end ∈ GL := List.mem_filter.mpr ⟨List.mem_of_getElem? (i := 577) (by decide +kernel), rfl⟩
set_option maxRecDepth 20000 in
theorem kw578 : Cond.code yX6_end cX6_end 2 (some .int) ∈ GL := List.mem_filter.mpr ⟨List.mem_of_getElem? (i := 578) rfl, rfl⟩
set_option maxRecDepth 20000 in
theorem kw579 : Cond.constant RX6 68 (1073741824) ∈ GL := List.mem_filter.mpr ⟨List.mem_of_getElem? (i := 579) (by decide +kernel), rfl⟩
set_option maxRecDepth 20000 in
theorem kw580 : Cond.methodLink RL 30 yX6_run ∈ GL := List.mem_filter.mpr ⟨List.mem_of_getElem? (i := 580) (by decide +kernel), rfl⟩
set_option maxRecDepth 20000 in
theorem kw581 : Cond.instanceMethod yX6_run ∈ GL := List.mem_filter.mpr ⟨List.mem_of_getElem? (i := 581) (by decide +kernel), rfl⟩
set_option maxRecDepth 20000 in
theorem kw582 : Cond.selects RX6 yX6_run yX6_run ∈ GL := List.mem_filter.mpr ⟨List.mem_of_getElem? (i := 582) (by decide +kernel), rfl⟩
set_option maxRecDepth 20000 in
theorem kw583 : Cond.code yX6_run cX6_run 3 (some .int) ∈ GL := List.mem_filter.mpr ⟨List.mem_of_getElem? (i := 583) rfl, rfl⟩
set_option maxRecDepth 20000 in
theorem kw584 : Cond.methodLink RX6 139 yX6_step ∈ GL := List.mem_filter.mpr ⟨List.mem_of_getElem? (i := 584) (by decide +kernel), rfl⟩
set_option maxRecDepth 20000 in
theorem kw586 : Cond.instanceMethod yX6_step ∈ GL := List.mem_filter.mpr ⟨List.mem_of_getElem? (i := 586) (by decide +kernel), rfl⟩
set_option maxRecDepth 20000 in
theorem kw587 : Cond.code yX6_step cX6_step 4 none ∈ GL := List.mem_filter.mpr ⟨List.mem_of_getElem? (i := 587) rfl, rfl⟩
set_option maxRecDepth 20000 in
theorem kw588 : Cond.methodLink RX6 122 yX6_isBroken ∈ GL := List.mem_filter.mpr ⟨List.mem_of_getElem? (i := 588) (by decide +kernel), rfl⟩
set_option maxRecDepth 20000 in
theorem kw590 : Cond.instanceMethod yX6_isBroken ∈ GL := List.mem_filter.mpr ⟨List.mem_of_getElem? (i := 590) (by decide +kernel), rfl⟩
set_option maxRecDepth 20000 in
theorem kw591 : Cond.code yX6_isBroken cX6_isBroken 5 (some .boolean) ∈ GL := List.mem_filter.mpr ⟨List.mem_of_getElem? (i := 591) rfl, rfl⟩
set_option maxRecDepth 20000 in
theorem kw592 : Cond.methodLink RX6 85 yX6_cost ∈ GL := List.mem_filter.mpr ⟨List.mem_of_getElem? (i := 592) (by decide +kernel), rfl⟩
set_option maxRecDepth 20000 in
theorem kw594 : Cond.instanceMethod yX6_cost ∈ GL := List.mem_filter.mpr ⟨List.mem_of_getElem? (i := 594) (by decide +kernel), rfl⟩
set_option maxRecDepth 20000 in
theorem kw595 : Cond.code yX6_cost cX6_cost 3 (some .int) ∈ GL := List.mem_filter.mpr ⟨List.mem_of_getElem? (i := 595) rfl, rfl⟩
set_option maxRecDepth 20000 in
theorem kw596 : Cond.methodLink RX6 75 yX6_isSet ∈ GL := List.mem_filter.mpr ⟨List.mem_of_getElem? (i := 596) (by decide +kernel), rfl⟩
set_option maxRecDepth 20000 in
theorem kw598 : Cond.instanceMethod yX6_isSet ∈ GL := List.mem_filter.mpr ⟨List.mem_of_getElem? (i := 598) (by decide +kernel), rfl⟩
set_option maxRecDepth 20000 in
theorem kw599 : Cond.code yX6_isSet cX6_isSet 2 (some .boolean) ∈ GL := List.mem_filter.mpr ⟨List.mem_of_getElem? (i := 599) rfl, rfl⟩
set_option maxRecDepth 20000 in
theorem kw600 : Cond.methodLink RX6 79 yX6_isOne ∈ GL := List.mem_filter.mpr ⟨List.mem_of_getElem? (i := 600) (by decide +kernel), rfl⟩
set_option maxRecDepth 20000 in
theorem kw602 : Cond.instanceMethod yX6_isOne ∈ GL := List.mem_filter.mpr ⟨List.mem_of_getElem? (i := 602) (by decide +kernel), rfl⟩
set_option maxRecDepth 20000 in
theorem kw603 : Cond.code yX6_isOne cX6_isOne 2 (some .boolean) ∈ GL := List.mem_filter.mpr ⟨List.mem_of_getElem? (i := 603) rfl, rfl⟩
set_option maxRecDepth 20000 in
theorem kw604 : Cond.methodLink RX6 89 yX6_slack ∈ GL := List.mem_filter.mpr ⟨List.mem_of_getElem? (i := 604) (by decide +kernel), rfl⟩
set_option maxRecDepth 20000 in
theorem kw606 : Cond.instanceMethod yX6_slack ∈ GL := List.mem_filter.mpr ⟨List.mem_of_getElem? (i := 606) (by decide +kernel), rfl⟩
set_option maxRecDepth 20000 in
theorem kw607 : Cond.code yX6_slack cX6_slack 4 (some .int) ∈ GL := List.mem_filter.mpr ⟨List.mem_of_getElem? (i := 607) rfl, rfl⟩
set_option maxRecDepth 20000 in
theorem kw608 : Cond.methodLink RX6 82 yX6_isFalse ∈ GL := List.mem_filter.mpr ⟨List.mem_of_getElem? (i := 608) (by decide +kernel), rfl⟩
set_option maxRecDepth 20000 in
theorem kw610 : Cond.instanceMethod yX6_isFalse ∈ GL := List.mem_filter.mpr ⟨List.mem_of_getElem? (i := 610) (by decide +kernel), rfl⟩
set_option maxRecDepth 20000 in
theorem kw611 : Cond.code yX6_isFalse cX6_isFalse 3 (some .boolean) ∈ GL := List.mem_filter.mpr ⟨List.mem_of_getElem? (i := 611) rfl, rfl⟩
set_option maxRecDepth 20000 in
theorem kw612 : Cond.methodLink RX6 126 yX6_goBack ∈ GL := List.mem_filter.mpr ⟨List.mem_of_getElem? (i := 612) (by decide +kernel), rfl⟩
set_option maxRecDepth 20000 in
theorem kw614 : Cond.instanceMethod yX6_goBack ∈ GL := List.mem_filter.mpr ⟨List.mem_of_getElem? (i := 614) (by decide +kernel), rfl⟩
set_option maxRecDepth 20000 in
theorem kw615 : Cond.code yX6_goBack cX6_goBack 3 none ∈ GL := List.mem_filter.mpr ⟨List.mem_of_getElem? (i := 615) rfl, rfl⟩
set_option maxRecDepth 20000 in
theorem kw616 : Cond.methodLink RX6 106 yX6_write ∈ GL := List.mem_filter.mpr ⟨List.mem_of_getElem? (i := 616) (by decide +kernel), rfl⟩
set_option maxRecDepth 20000 in
theorem kw618 : Cond.instanceMethod yX6_write ∈ GL := List.mem_filter.mpr ⟨List.mem_of_getElem? (i := 618) (by decide +kernel), rfl⟩
set_option maxRecDepth 20000 in
theorem kw619 : Cond.code yX6_write cX6_write 2 (some .boolean) ∈ GL := List.mem_filter.mpr ⟨List.mem_of_getElem? (i := 619) rfl, rfl⟩
set_option maxRecDepth 20000 in
theorem kw620 : Cond.methodLink RX6 109 yX6_lay ∈ GL := List.mem_filter.mpr ⟨List.mem_of_getElem? (i := 620) (by decide +kernel), rfl⟩
set_option maxRecDepth 20000 in
theorem kw622 : Cond.instanceMethod yX6_lay ∈ GL := List.mem_filter.mpr ⟨List.mem_of_getElem? (i := 622) (by decide +kernel), rfl⟩
set_option maxRecDepth 20000 in
theorem kw623 : Cond.code yX6_lay cX6_lay 4 none ∈ GL := List.mem_filter.mpr ⟨List.mem_of_getElem? (i := 623) rfl, rfl⟩
set_option maxRecDepth 20000 in
theorem kw624 : Cond.methodLink RX6 99 yX6_put ∈ GL := List.mem_filter.mpr ⟨List.mem_of_getElem? (i := 624) (by decide +kernel), rfl⟩
set_option maxRecDepth 20000 in
theorem kw626 : Cond.instanceMethod yX6_put ∈ GL := List.mem_filter.mpr ⟨List.mem_of_getElem? (i := 626) (by decide +kernel), rfl⟩
set_option maxRecDepth 20000 in
theorem kw627 : Cond.code yX6_put cX6_put 3 none ∈ GL := List.mem_filter.mpr ⟨List.mem_of_getElem? (i := 627) rfl, rfl⟩
set_option maxRecDepth 20000 in
theorem kw628 : Cond.methodLink RX6 129 yX6_forced ∈ GL := List.mem_filter.mpr ⟨List.mem_of_getElem? (i := 628) (by decide +kernel), rfl⟩
set_option maxRecDepth 20000 in
theorem kw630 : Cond.instanceMethod yX6_forced ∈ GL := List.mem_filter.mpr ⟨List.mem_of_getElem? (i := 630) (by decide +kernel), rfl⟩
set_option maxRecDepth 20000 in
theorem kw631 : Cond.code yX6_forced cX6_forced 7 (some .int) ∈ GL := List.mem_filter.mpr ⟨List.mem_of_getElem? (i := 631) rfl, rfl⟩
set_option maxRecDepth 20000 in
theorem kw632 : Cond.methodLink RL 35 yX6_optimum ∈ GL := List.mem_filter.mpr ⟨List.mem_of_getElem? (i := 632) (by decide +kernel), rfl⟩
set_option maxRecDepth 20000 in
theorem kw633 : Cond.instanceMethod yX6_optimum ∈ GL := List.mem_filter.mpr ⟨List.mem_of_getElem? (i := 633) (by decide +kernel), rfl⟩
set_option maxRecDepth 20000 in
theorem kw634 : Cond.selects RX6 yX6_optimum yX6_optimum ∈ GL := List.mem_filter.mpr ⟨List.mem_of_getElem? (i := 634) (by decide +kernel), rfl⟩
set_option maxRecDepth 20000 in
theorem kw635 : Cond.code yX6_optimum cX6_optimum 1 (some .int) ∈ GL := List.mem_filter.mpr ⟨List.mem_of_getElem? (i := 635) rfl, rfl⟩
set_option maxRecDepth 20000 in
theorem kw636 : Cond.methodLink RL 39 yX6_value ∈ GL := List.mem_filter.mpr ⟨List.mem_of_getElem? (i := 636) (by decide +kernel), rfl⟩
set_option maxRecDepth 20000 in
theorem kw637 : Cond.instanceMethod yX6_value ∈ GL := List.mem_filter.mpr ⟨List.mem_of_getElem? (i := 637) (by decide +kernel), rfl⟩
set_option maxRecDepth 20000 in
theorem kw638 : Cond.selects RX6 yX6_value yX6_value ∈ GL := List.mem_filter.mpr ⟨List.mem_of_getElem? (i := 638) (by decide +kernel), rfl⟩
set_option maxRecDepth 20000 in
theorem kw639 : Cond.code yX6_value cX6_value 2 (some .int) ∈ GL := List.mem_filter.mpr ⟨List.mem_of_getElem? (i := 639) rfl, rfl⟩
set_option maxRecDepth 20000 in
theorem kw640 : Cond.methodLink RL 43 yX6_logSize ∈ GL := List.mem_filter.mpr ⟨List.mem_of_getElem? (i := 640) (by decide +kernel), rfl⟩
set_option maxRecDepth 20000 in
theorem kw641 : Cond.instanceMethod yX6_logSize ∈ GL := List.mem_filter.mpr ⟨List.mem_of_getElem? (i := 641) (by decide +kernel), rfl⟩
set_option maxRecDepth 20000 in
theorem kw642 : Cond.selects RX6 yX6_logSize yX6_logSize ∈ GL := List.mem_filter.mpr ⟨List.mem_of_getElem? (i := 642) (by decide +kernel), rfl⟩
set_option maxRecDepth 20000 in
theorem kw643 : Cond.code yX6_logSize cX6_logSize 1 (some .int) ∈ GL := List.mem_filter.mpr ⟨List.mem_of_getElem? (i := 643) rfl, rfl⟩
set_option maxRecDepth 20000 in
theorem kw644 : Cond.methodLink RL 47 yX6_logAt ∈ GL := List.mem_filter.mpr ⟨List.mem_of_getElem? (i := 644) (by decide +kernel), rfl⟩
set_option maxRecDepth 20000 in
theorem kw645 : Cond.instanceMethod yX6_logAt ∈ GL := List.mem_filter.mpr ⟨List.mem_of_getElem? (i := 645) (by decide +kernel), rfl⟩
set_option maxRecDepth 20000 in
theorem kw646 : Cond.selects RX6 yX6_logAt yX6_logAt ∈ GL := List.mem_filter.mpr ⟨List.mem_of_getElem? (i := 646) (by decide +kernel), rfl⟩
set_option maxRecDepth 20000 in
theorem kw647 : Cond.code yX6_logAt cX6_logAt 2 (some .int) ∈ GL := List.mem_filter.mpr ⟨List.mem_of_getElem? (i := 647) rfl, rfl⟩
set_option maxRecDepth 20000 in
theorem kw648 : Cond.methodLink RL 51 yX6_poke ∈ GL := List.mem_filter.mpr ⟨List.mem_of_getElem? (i := 648) (by decide +kernel), rfl⟩
set_option maxRecDepth 20000 in
theorem kw649 : Cond.instanceMethod yX6_poke ∈ GL := List.mem_filter.mpr ⟨List.mem_of_getElem? (i := 649) (by decide +kernel), rfl⟩
set_option maxRecDepth 20000 in
theorem kw650 : Cond.selects RX6 yX6_poke yX6_poke ∈ GL := List.mem_filter.mpr ⟨List.mem_of_getElem? (i := 650) (by decide +kernel), rfl⟩
set_option maxRecDepth 20000 in
theorem kw651 : Cond.code yX6_poke cX6_poke 3 (some .int) ∈ GL := List.mem_filter.mpr ⟨List.mem_of_getElem? (i := 651) rfl, rfl⟩
set_option maxRecDepth 20000 in
theorem kw652 : Cond.methodLink RX6 142 yX6_anew ∈ GL := List.mem_filter.mpr ⟨List.mem_of_getElem? (i := 652) (by decide +kernel), rfl⟩
set_option maxRecDepth 20000 in
theorem kw654 : Cond.instanceMethod yX6_anew ∈ GL := List.mem_filter.mpr ⟨List.mem_of_getElem? (i := 654) (by decide +kernel), rfl⟩
set_option maxRecDepth 20000 in
theorem kw655 : Cond.code yX6_anew cX6_anew 1 none ∈ GL := List.mem_filter.mpr ⟨List.mem_of_getElem? (i := 655) rfl, rfl⟩
set_option maxRecDepth 20000 in
theorem kw656 : Cond.methodLink RL 55 yX6_cut ∈ GL := List.mem_filter.mpr ⟨List.mem_of_getElem? (i := 656) (by decide +kernel), rfl⟩
set_option maxRecDepth 20000 in
theorem kw657 : Cond.instanceMethod yX6_cut ∈ GL := List.mem_filter.mpr ⟨List.mem_of_getElem? (i := 657) (by decide +kernel), rfl⟩
set_option maxRecDepth 20000 in
theorem kw658 : Cond.selects RX6 yX6_cut yX6_cut ∈ GL := List.mem_filter.mpr ⟨List.mem_of_getElem? (i := 658) (by decide +kernel), rfl⟩
set_option maxRecDepth 20000 in
theorem kw659 : Cond.code yX6_cut cX6_cut 2 (some .int) ∈ GL := List.mem_filter.mpr ⟨List.mem_of_getElem? (i := 659) rfl, rfl⟩
set_option maxRecDepth 20000 in
theorem kw660 : Cond.methodLink RL 59 yX6_check ∈ GL := List.mem_filter.mpr ⟨List.mem_of_getElem? (i := 660) (by decide +kernel), rfl⟩
set_option maxRecDepth 20000 in
theorem kw661 : Cond.instanceMethod yX6_check ∈ GL := List.mem_filter.mpr ⟨List.mem_of_getElem? (i := 661) (by decide +kernel), rfl⟩
set_option maxRecDepth 20000 in
theorem kw662 : Cond.selects RX6 yX6_check yX6_check ∈ GL := List.mem_filter.mpr ⟨List.mem_of_getElem? (i := 662) (by decide +kernel), rfl⟩
set_option maxRecDepth 20000 in
theorem kw663 : Cond.code yX6_check cX6_check 3 (some .int) ∈ GL := List.mem_filter.mpr ⟨List.mem_of_getElem? (i := 663) rfl, rfl⟩
set_option maxRecDepth 20000 in
theorem kw664 : Cond.methodLink RX6 159 yX6_look ∈ GL := List.mem_filter.mpr ⟨List.mem_of_getElem? (i := 664) (by decide +kernel), rfl⟩
set_option maxRecDepth 20000 in
theorem kw666 : Cond.instanceMethod yX6_look ∈ GL := List.mem_filter.mpr ⟨List.mem_of_getElem? (i := 666) (by decide +kernel), rfl⟩
set_option maxRecDepth 20000 in
theorem kw667 : Cond.code yX6_look cX6_look 2 none ∈ GL := List.mem_filter.mpr ⟨List.mem_of_getElem? (i := 667) rfl, rfl⟩
set_option maxRecDepth 20000 in
theorem kw668 : Cond.constant RX6 154 (65535) ∈ GL := List.mem_filter.mpr ⟨List.mem_of_getElem? (i := 668) (by decide +kernel), rfl⟩
set_option maxRecDepth 20000 in
theorem kw669 : Cond.methodLink RX6 162 yX6_word ∈ GL := List.mem_filter.mpr ⟨List.mem_of_getElem? (i := 669) (by decide +kernel), rfl⟩
set_option maxRecDepth 20000 in
theorem kw671 : Cond.instanceMethod yX6_word ∈ GL := List.mem_filter.mpr ⟨List.mem_of_getElem? (i := 671) (by decide +kernel), rfl⟩
set_option maxRecDepth 20000 in
theorem kw672 : Cond.code yX6_word cX6_word 8 none ∈ GL := List.mem_filter.mpr ⟨List.mem_of_getElem? (i := 672) rfl, rfl⟩
set_option maxRecDepth 20000 in
theorem kw673 : Cond.methodLink RX6 155 yX6_hold ∈ GL := List.mem_filter.mpr ⟨List.mem_of_getElem? (i := 673) (by decide +kernel), rfl⟩
set_option maxRecDepth 20000 in
theorem kw675 : Cond.instanceMethod yX6_hold ∈ GL := List.mem_filter.mpr ⟨List.mem_of_getElem? (i := 675) (by decide +kernel), rfl⟩
set_option maxRecDepth 20000 in
theorem kw676 : Cond.code yX6_hold cX6_hold 4 none ∈ GL := List.mem_filter.mpr ⟨List.mem_of_getElem? (i := 676) rfl, rfl⟩
set_option maxRecDepth 20000 in
theorem kw677 : Cond.methodLink RL 63 yX6_steps ∈ GL := List.mem_filter.mpr ⟨List.mem_of_getElem? (i := 677) (by decide +kernel), rfl⟩
set_option maxRecDepth 20000 in
theorem kw678 : Cond.instanceMethod yX6_steps ∈ GL := List.mem_filter.mpr ⟨List.mem_of_getElem? (i := 678) (by decide +kernel), rfl⟩
set_option maxRecDepth 20000 in
theorem kw679 : Cond.selects RX6 yX6_steps yX6_steps ∈ GL := List.mem_filter.mpr ⟨List.mem_of_getElem? (i := 679) (by decide +kernel), rfl⟩
set_option maxRecDepth 20000 in
theorem kw680 : Cond.code yX6_steps cX6_steps 1 (some .int) ∈ GL := List.mem_filter.mpr ⟨List.mem_of_getElem? (i := 680) rfl, rfl⟩
set_option maxRecDepth 20000 in
theorem kw0 : Cond.selects RX2 yX2_addTerm yX2_addTerm ∈ GL := List.mem_filter.mpr ⟨List.mem_of_getElem? (i := 0) (by decide +kernel), rfl⟩
set_option maxRecDepth 20000 in
theorem kw1 : Cond.selects RX2 yX2_makeConstraint yX2_makeConstraint ∈ GL := List.mem_filter.mpr ⟨List.mem_of_getElem? (i := 1) (by decide +kernel), rfl⟩
set_option maxRecDepth 20000 in
theorem kw2 : Cond.selects RX3 yX3_advance yX3_advance ∈ GL := List.mem_filter.mpr ⟨List.mem_of_getElem? (i := 2) (by decide +kernel), rfl⟩
set_option maxRecDepth 20000 in
theorem kw3 : Cond.selects RX3 yX3_step yX3_step ∈ GL := List.mem_filter.mpr ⟨List.mem_of_getElem? (i := 3) (by decide +kernel), rfl⟩
set_option maxRecDepth 20000 in
theorem kw4 : Cond.selects RX2 yX2_isBroken yX2_isBroken ∈ GL := List.mem_filter.mpr ⟨List.mem_of_getElem? (i := 4) (by decide +kernel), rfl⟩
set_option maxRecDepth 20000 in
theorem kw5 : Cond.selects RX2 yX2_slackOf yX2_slackOf ∈ GL := List.mem_filter.mpr ⟨List.mem_of_getElem? (i := 5) (by decide +kernel), rfl⟩
set_option maxRecDepth 20000 in
theorem kw6 : Cond.selects RX2 yX2_limitSlack yX2_limitSlack ∈ GL := List.mem_filter.mpr ⟨List.mem_of_getElem? (i := 6) (by decide +kernel), rfl⟩
set_option maxRecDepth 20000 in
theorem kw7 : Cond.selects RX2 yX2_costOf yX2_costOf ∈ GL := List.mem_filter.mpr ⟨List.mem_of_getElem? (i := 7) (by decide +kernel), rfl⟩
set_option maxRecDepth 20000 in
theorem kw8 : Cond.selects RX3 yX3_goBack yX3_goBack ∈ GL := List.mem_filter.mpr ⟨List.mem_of_getElem? (i := 8) (by decide +kernel), rfl⟩
set_option maxRecDepth 20000 in
theorem kw9 : Cond.selects RX3 yX3_writes yX3_writes ∈ GL := List.mem_filter.mpr ⟨List.mem_of_getElem? (i := 9) (by decide +kernel), rfl⟩
set_option maxRecDepth 20000 in
theorem kw10 : Cond.selects RX1 yX1_append yX1_append ∈ GL := List.mem_filter.mpr ⟨List.mem_of_getElem? (i := 10) (by decide +kernel), rfl⟩
set_option maxRecDepth 20000 in
theorem kw11 : Cond.selects RX3 yX3_finish yX3_finish ∈ GL := List.mem_filter.mpr ⟨List.mem_of_getElem? (i := 11) (by decide +kernel), rfl⟩
set_option maxRecDepth 20000 in
theorem kw12 : Cond.selects RX4 yX4_become yX4_become ∈ GL := List.mem_filter.mpr ⟨List.mem_of_getElem? (i := 12) (by decide +kernel), rfl⟩
set_option maxRecDepth 20000 in
theorem kw13 : Cond.selects RX4 yX4_makeTrue yX4_makeTrue ∈ GL := List.mem_filter.mpr ⟨List.mem_of_getElem? (i := 13) (by decide +kernel), rfl⟩
set_option maxRecDepth 20000 in
theorem kw14 : Cond.selects RX2 yX2_forcedLiteral yX2_forcedLiteral ∈ GL := List.mem_filter.mpr ⟨List.mem_of_getElem? (i := 14) (by decide +kernel), rfl⟩
set_option maxRecDepth 20000 in
theorem kw15 : Cond.selects RX2 yX2_forcedBy yX2_forcedBy ∈ GL := List.mem_filter.mpr ⟨List.mem_of_getElem? (i := 15) (by decide +kernel), rfl⟩
set_option maxRecDepth 20000 in
theorem kw16 : Cond.selects RX2 yX2_forcedByLimit yX2_forcedByLimit ∈ GL := List.mem_filter.mpr ⟨List.mem_of_getElem? (i := 16) (by decide +kernel), rfl⟩
set_option maxRecDepth 20000 in
theorem kw17 : Cond.selects RX4 yX4_leastNotSet yX4_leastNotSet ∈ GL := List.mem_filter.mpr ⟨List.mem_of_getElem? (i := 17) (by decide +kernel), rfl⟩
set_option maxRecDepth 20000 in
theorem kw18 : Cond.selects RX3 yX3_choose yX3_choose ∈ GL := List.mem_filter.mpr ⟨List.mem_of_getElem? (i := 18) (by decide +kernel), rfl⟩
set_option maxRecDepth 20000 in
theorem kw19 : Cond.selects RX3 yX3_keepBest yX3_keepBest ∈ GL := List.mem_filter.mpr ⟨List.mem_of_getElem? (i := 19) (by decide +kernel), rfl⟩
set_option maxRecDepth 20000 in
theorem kw20 : Cond.selects RX3 yX3_isDone yX3_isDone ∈ GL := List.mem_filter.mpr ⟨List.mem_of_getElem? (i := 20) (by decide +kernel), rfl⟩
set_option maxRecDepth 20000 in
theorem kw21 : Cond.selects RX1 yX1_wordAt yX1_wordAt ∈ GL := List.mem_filter.mpr ⟨List.mem_of_getElem? (i := 21) (by decide +kernel), rfl⟩
set_option maxRecDepth 20000 in
theorem kw22 : Cond.selects RX1 yX1_has yX1_has ∈ GL := List.mem_filter.mpr ⟨List.mem_of_getElem? (i := 22) (by decide +kernel), rfl⟩
set_option maxRecDepth 20000 in
theorem kw23 : Cond.selects RX1 yX1_replace yX1_replace ∈ GL := List.mem_filter.mpr ⟨List.mem_of_getElem? (i := 23) (by decide +kernel), rfl⟩
set_option maxRecDepth 20000 in
theorem kw24 : Cond.selects RX0 yX0_beginAnew yX0_beginAnew ∈ GL := List.mem_filter.mpr ⟨List.mem_of_getElem? (i := 24) (by decide +kernel), rfl⟩
set_option maxRecDepth 20000 in
theorem kw25 : Cond.selects RX1 yX1_shorten yX1_shorten ∈ GL := List.mem_filter.mpr ⟨List.mem_of_getElem? (i := 25) (by decide +kernel), rfl⟩
set_option maxRecDepth 20000 in
theorem kw26 : Cond.selects RX0 yX0_readOn yX0_readOn ∈ GL := List.mem_filter.mpr ⟨List.mem_of_getElem? (i := 26) (by decide +kernel), rfl⟩
set_option maxRecDepth 20000 in
theorem kw27 : Cond.selects RX0 yX0_begin yX0_begin ∈ GL := List.mem_filter.mpr ⟨List.mem_of_getElem? (i := 27) (by decide +kernel), rfl⟩
set_option maxRecDepth 20000 in
theorem kw28 : Cond.selects RX0 yX0_claimHolds yX0_claimHolds ∈ GL := List.mem_filter.mpr ⟨List.mem_of_getElem? (i := 28) (by decide +kernel), rfl⟩
set_option maxRecDepth 20000 in
theorem kw29 : Cond.selects RX0 yX0_claim yX0_claim ∈ GL := List.mem_filter.mpr ⟨List.mem_of_getElem? (i := 29) (by decide +kernel), rfl⟩
set_option maxRecDepth 20000 in
theorem kw30 : Cond.selects RX0 yX0_enterTree yX0_enterTree ∈ GL := List.mem_filter.mpr ⟨List.mem_of_getElem? (i := 30) (by decide +kernel), rfl⟩
set_option maxRecDepth 20000 in
theorem kw31 : Cond.selects RX0 yX0_setWhatIsForced yX0_setWhatIsForced ∈ GL := List.mem_filter.mpr ⟨List.mem_of_getElem? (i := 31) (by decide +kernel), rfl⟩
set_option maxRecDepth 20000 in
theorem kw32 : Cond.selects RX0 yX0_readWord yX0_readWord ∈ GL := List.mem_filter.mpr ⟨List.mem_of_getElem? (i := 32) (by decide +kernel), rfl⟩
set_option maxRecDepth 20000 in
theorem kw33 : Cond.selects RX0 yX0_closeTree yX0_closeTree ∈ GL := List.mem_filter.mpr ⟨List.mem_of_getElem? (i := 33) (by decide +kernel), rfl⟩
set_option maxRecDepth 20000 in
theorem kw34 : Cond.selects RX0 yX0_splitTree yX0_splitTree ∈ GL := List.mem_filter.mpr ⟨List.mem_of_getElem? (i := 34) (by decide +kernel), rfl⟩
set_option maxRecDepth 20000 in
theorem kw35 : Cond.selects RX6 yX6_step yX6_step ∈ GL := List.mem_filter.mpr ⟨List.mem_of_getElem? (i := 35) (by decide +kernel), rfl⟩
set_option maxRecDepth 20000 in
theorem kw36 : Cond.selects RX6 yX6_isBroken yX6_isBroken ∈ GL := List.mem_filter.mpr ⟨List.mem_of_getElem? (i := 36) (by decide +kernel), rfl⟩
set_option maxRecDepth 20000 in
theorem kw37 : Cond.selects RX6 yX6_cost yX6_cost ∈ GL := List.mem_filter.mpr ⟨List.mem_of_getElem? (i := 37) (by decide +kernel), rfl⟩
set_option maxRecDepth 20000 in
theorem kw38 : Cond.selects RX6 yX6_isSet yX6_isSet ∈ GL := List.mem_filter.mpr ⟨List.mem_of_getElem? (i := 38) (by decide +kernel), rfl⟩
set_option maxRecDepth 20000 in
theorem kw39 : Cond.selects RX6 yX6_isOne yX6_isOne ∈ GL := List.mem_filter.mpr ⟨List.mem_of_getElem? (i := 39) (by decide +kernel), rfl⟩
set_option maxRecDepth 20000 in
theorem kw40 : Cond.selects RX6 yX6_slack yX6_slack ∈ GL := List.mem_filter.mpr ⟨List.mem_of_getElem? (i := 40) (by decide +kernel), rfl⟩
set_option maxRecDepth 20000 in
theorem kw41 : Cond.selects RX6 yX6_isFalse yX6_isFalse ∈ GL := List.mem_filter.mpr ⟨List.mem_of_getElem? (i := 41) (by decide +kernel), rfl⟩
set_option maxRecDepth 20000 in
theorem kw42 : Cond.selects RX6 yX6_goBack yX6_goBack ∈ GL := List.mem_filter.mpr ⟨List.mem_of_getElem? (i := 42) (by decide +kernel), rfl⟩
set_option maxRecDepth 20000 in
theorem kw43 : Cond.selects RX6 yX6_write yX6_write ∈ GL := List.mem_filter.mpr ⟨List.mem_of_getElem? (i := 43) (by decide +kernel), rfl⟩
set_option maxRecDepth 20000 in
theorem kw44 : Cond.selects RX6 yX6_lay yX6_lay ∈ GL := List.mem_filter.mpr ⟨List.mem_of_getElem? (i := 44) (by decide +kernel), rfl⟩
set_option maxRecDepth 20000 in
theorem kw45 : Cond.selects RX6 yX6_put yX6_put ∈ GL := List.mem_filter.mpr ⟨List.mem_of_getElem? (i := 45) (by decide +kernel), rfl⟩
set_option maxRecDepth 20000 in
theorem kw46 : Cond.selects RX6 yX6_forced yX6_forced ∈ GL := List.mem_filter.mpr ⟨List.mem_of_getElem? (i := 46) (by decide +kernel), rfl⟩
set_option maxRecDepth 20000 in
theorem kw47 : Cond.selects RX6 yX6_anew yX6_anew ∈ GL := List.mem_filter.mpr ⟨List.mem_of_getElem? (i := 47) (by decide +kernel), rfl⟩
set_option maxRecDepth 20000 in
theorem kw48 : Cond.selects RX6 yX6_look yX6_look ∈ GL := List.mem_filter.mpr ⟨List.mem_of_getElem? (i := 48) (by decide +kernel), rfl⟩
set_option maxRecDepth 20000 in
theorem kw49 : Cond.selects RX6 yX6_word yX6_word ∈ GL := List.mem_filter.mpr ⟨List.mem_of_getElem? (i := 49) (by decide +kernel), rfl⟩
set_option maxRecDepth 20000 in
theorem kw50 : Cond.selects RX6 yX6_hold yX6_hold ∈ GL := List.mem_filter.mpr ⟨List.mem_of_getElem? (i := 50) (by decide +kernel), rfl⟩
set_option maxRecDepth 20000 in
theorem inX0_t : ∀ w ∈ u_ws RX0 TX0 13, w ∈ lw_tbl := by decide +kernel
theorem inX0 : ∀ w ∈ u_ws RX0 TX0 13, w ∈ GL := fun w h => List.mem_filter.mpr ⟨inX0_t w h, (show ∀ w ∈ u_ws RX0 TX0 13, goodWord w = true by decide +kernel) w h⟩
set_option maxRecDepth 20000 in
theorem inX1_t : ∀ w ∈ u_ws RX1 TX1 2, w ∈ lw_tbl := by decide +kernel
theorem inX1 : ∀ w ∈ u_ws RX1 TX1 2, w ∈ GL := fun w h => List.mem_filter.mpr ⟨inX1_t w h, (show ∀ w ∈ u_ws RX1 TX1 2, goodWord w = true by decide +kernel) w h⟩
set_option maxRecDepth 20000 in
theorem inX2_t : ∀ w ∈ u_ws RX2 TX2 9, w ∈ lw_tbl := by decide +kernel
theorem inX2 : ∀ w ∈ u_ws RX2 TX2 9, w ∈ GL := fun w h => List.mem_filter.mpr ⟨inX2_t w h, (show ∀ w ∈ u_ws RX2 TX2 9, goodWord w = true by decide +kernel) w h⟩
set_option maxRecDepth 20000 in
theorem inX3_t : ∀ w ∈ u_ws RX3 TX3 11, w ∈ lw_tbl := by decide +kernel
theorem inX3 : ∀ w ∈ u_ws RX3 TX3 11, w ∈ GL := fun w h => List.mem_filter.mpr ⟨inX3_t w h, (show ∀ w ∈ u_ws RX3 TX3 11, goodWord w = true by decide +kernel) w h⟩
set_option maxRecDepth 20000 in
theorem inX4_t : ∀ w ∈ u_ws RX4 TX4 2, w ∈ lw_tbl := by decide +kernel
theorem inX4 : ∀ w ∈ u_ws RX4 TX4 2, w ∈ GL := fun w h => List.mem_filter.mpr ⟨inX4_t w h, (show ∀ w ∈ u_ws RX4 TX4 2, goodWord w = true by decide +kernel) w h⟩
set_option maxRecDepth 20000 in
theorem inX5_t : ∀ w ∈ u_ws RX5 TX5 5, w ∈ lw_tbl := by decide +kernel
theorem inX5 : ∀ w ∈ u_ws RX5 TX5 5, w ∈ GL := fun w h => List.mem_filter.mpr ⟨inX5_t w h, (show ∀ w ∈ u_ws RX5 TX5 5, goodWord w = true by decide +kernel) w h⟩
set_option maxRecDepth 20000 in
theorem inX6_t : ∀ w ∈ u_ws RX6 TX6 30, w ∈ lw_tbl := by decide +kernel
theorem inX6 : ∀ w ∈ u_ws RX6 TX6 30, w ∈ GL := fun w h => List.mem_filter.mpr ⟨inX6_t w h, (show ∀ w ∈ u_ws RX6 TX6 30, goodWord w = true by decide +kernel) w h⟩
end
section
def nwl : List Cond := [
  Cond.methodLinkNest RX5 11 yX2_init RX5,
  Cond.fieldLinkNest RX5 51 "LeastCost$Problem" "costs" "[I" RX5,
  Cond.methodLinkNest RX5 18 yX1_init RX5,
  Cond.fieldLinkNest RX0 54 "LeastCost$Log" "size" "I" RX5,
  Cond.fieldLinkNest RX5 84 "LeastCost$Log" "size" "I" RX5,
  Cond.methodLinkNest RX5 25 yX3_init RX5,
  Cond.methodLinkNest RX3 11 yX4_init RX5,
  Cond.fieldLinkNest RX2 52 "LeastCost$Setting" "ones" "I" RX5,
  Cond.fieldLinkNest RX3 97 "LeastCost$Setting" "ones" "I" RX5,
  Cond.fieldLinkNest RX0 122 "LeastCost$Setting" "ones" "I" RX5,
  Cond.fieldLinkNest RX2 47 "LeastCost$Setting" "zeros" "I" RX5,
  Cond.fieldLinkNest RX3 103 "LeastCost$Setting" "zeros" "I" RX5,
  Cond.fieldLinkNest RX0 125 "LeastCost$Setting" "zeros" "I" RX5,
  Cond.fieldLinkNest RX5 74 "LeastCost$Search" "bestCost" "I" RX5,
  Cond.fieldLinkNest RX5 78 "LeastCost$Search" "bestOnes" "I" RX5,
  Cond.fieldLinkNest RX5 102 "LeastCost$Search" "stepsMade" "I" RX5,
  Cond.methodLinkNest RX5 34 yX0_init RX5,
  Cond.methodLinkNest RX0 11 yX4_init RX5,
  Cond.methodLinkNest RX5 59 yX2_addTerm RX5,
  Cond.methodLinkNest RX2 30 yX5_variableOf RX5,
  Cond.methodLinkNest RX2 34 yX5_bitOf RX5,
  Cond.methodLinkNest RX5 64 yX2_makeConstraint RX5,
  Cond.methodLinkNest RX5 67 yX3_advance RX5,
  Cond.methodLinkNest RX3 49 yX5_limitBelow RX5,
  Cond.methodLinkNest RX3 53 yX2_isBroken RX5,
  Cond.methodLinkNest RX3 106 yX1_append RX5,
  Cond.methodLinkNest RX3 90 yX4_become RX5,
  Cond.methodLinkNest RX3 66 yX4_makeTrue RX5,
  Cond.methodLinkNest RX4 18 yX5_variableOf RX5,
  Cond.methodLinkNest RX4 22 yX5_bitOf RX5,
  Cond.methodLinkNest RX3 62 yX2_forcedLiteral RX5,
  Cond.methodLinkNest RX3 70 yX4_leastNotSet RX5,
  Cond.methodLinkNest RX3 100 yX2_costOf RX5,
  Cond.methodLinkNest RX5 70 yX3_isDone RX5,
  Cond.methodLinkNest RX5 87 yX1_wordAt RX5,
  Cond.methodLinkNest RX5 90 yX1_replace RX5,
  Cond.methodLinkNest RX5 93 yX0_beginAnew RX5,
  Cond.methodLinkNest RX5 96 yX1_shorten RX5,
  Cond.methodLinkNest RX1 26 yX5_isWithin RX5,
  Cond.methodLinkNest RX5 99 yX0_readOn RX5,
  Cond.methodLinkNest RX0 87 yX1_wordAt RX5,
  Cond.methodLinkNest RX0 91 yX4_become RX5,
  Cond.methodLinkNest RX0 96 yX2_isBroken RX5,
  Cond.methodLinkNest RX0 102 yX2_costOf RX5,
  Cond.methodLinkNest RX0 70 yX5_limitBelow RX5,
  Cond.methodLinkNest RX0 128 yX2_forcedLiteral RX5,
  Cond.methodLinkNest RX0 132 yX4_makeTrue RX5,
  Cond.methodLinkNest RX0 108 yX5_isVariable RX5,
  Cond.methodLinkNest RX0 119 yX5_bitOf RX5]
theorem kn0 : Cond.methodLinkNest RX5 11 yX2_init RX5 ∈ nwl := List.mem_of_getElem? (i := 0) rfl
theorem kn1 : Cond.fieldLinkNest RX5 51 "LeastCost$Problem" "costs" "[I" RX5 ∈ nwl := List.mem_of_getElem? (i := 1) rfl
theorem kn2 : Cond.methodLinkNest RX5 18 yX1_init RX5 ∈ nwl := List.mem_of_getElem? (i := 2) rfl
theorem kn3 : Cond.fieldLinkNest RX0 54 "LeastCost$Log" "size" "I" RX5 ∈ nwl := List.mem_of_getElem? (i := 3) rfl
theorem kn4 : Cond.fieldLinkNest RX5 84 "LeastCost$Log" "size" "I" RX5 ∈ nwl := List.mem_of_getElem? (i := 4) rfl
theorem kn5 : Cond.methodLinkNest RX5 25 yX3_init RX5 ∈ nwl := List.mem_of_getElem? (i := 5) rfl
theorem kn6 : Cond.methodLinkNest RX3 11 yX4_init RX5 ∈ nwl := List.mem_of_getElem? (i := 6) rfl
theorem kn7 : Cond.fieldLinkNest RX2 52 "LeastCost$Setting" "ones" "I" RX5 ∈ nwl := List.mem_of_getElem? (i := 7) rfl
theorem kn8 : Cond.fieldLinkNest RX3 97 "LeastCost$Setting" "ones" "I" RX5 ∈ nwl := List.mem_of_getElem? (i := 8) rfl
theorem kn9 : Cond.fieldLinkNest RX0 122 "LeastCost$Setting" "ones" "I" RX5 ∈ nwl := List.mem_of_getElem? (i := 9) rfl
theorem kn10 : Cond.fieldLinkNest RX2 47 "LeastCost$Setting" "zeros" "I" RX5 ∈ nwl := List.mem_of_getElem? (i := 10) rfl
theorem kn11 : Cond.fieldLinkNest RX3 103 "LeastCost$Setting" "zeros" "I" RX5 ∈ nwl := List.mem_of_getElem? (i := 11) rfl
theorem kn12 : Cond.fieldLinkNest RX0 125 "LeastCost$Setting" "zeros" "I" RX5 ∈ nwl := List.mem_of_getElem? (i := 12) rfl
theorem kn13 : Cond.fieldLinkNest RX5 74 "LeastCost$Search" "bestCost" "I" RX5 ∈ nwl := List.mem_of_getElem? (i := 13) rfl
theorem kn14 : Cond.fieldLinkNest RX5 78 "LeastCost$Search" "bestOnes" "I" RX5 ∈ nwl := List.mem_of_getElem? (i := 14) rfl
theorem kn15 : Cond.fieldLinkNest RX5 102 "LeastCost$Search" "stepsMade" "I" RX5 ∈ nwl := List.mem_of_getElem? (i := 15) rfl
theorem kn16 : Cond.methodLinkNest RX5 34 yX0_init RX5 ∈ nwl := List.mem_of_getElem? (i := 16) rfl
theorem kn17 : Cond.methodLinkNest RX0 11 yX4_init RX5 ∈ nwl := List.mem_of_getElem? (i := 17) rfl
theorem kn18 : Cond.methodLinkNest RX5 59 yX2_addTerm RX5 ∈ nwl := List.mem_of_getElem? (i := 18) rfl
theorem kn19 : Cond.methodLinkNest RX2 30 yX5_variableOf RX5 ∈ nwl := List.mem_of_getElem? (i := 19) rfl
theorem kn20 : Cond.methodLinkNest RX2 34 yX5_bitOf RX5 ∈ nwl := List.mem_of_getElem? (i := 20) rfl
theorem kn21 : Cond.methodLinkNest RX5 64 yX2_makeConstraint RX5 ∈ nwl := List.mem_of_getElem? (i := 21) rfl
theorem kn22 : Cond.methodLinkNest RX5 67 yX3_advance RX5 ∈ nwl := List.mem_of_getElem? (i := 22) rfl
theorem kn23 : Cond.methodLinkNest RX3 49 yX5_limitBelow RX5 ∈ nwl := List.mem_of_getElem? (i := 23) rfl
theorem kn24 : Cond.methodLinkNest RX3 53 yX2_isBroken RX5 ∈ nwl := List.mem_of_getElem? (i := 24) rfl
theorem kn25 : Cond.methodLinkNest RX3 106 yX1_append RX5 ∈ nwl := List.mem_of_getElem? (i := 25) rfl
theorem kn26 : Cond.methodLinkNest RX3 90 yX4_become RX5 ∈ nwl := List.mem_of_getElem? (i := 26) rfl
theorem kn27 : Cond.methodLinkNest RX3 66 yX4_makeTrue RX5 ∈ nwl := List.mem_of_getElem? (i := 27) rfl
theorem kn28 : Cond.methodLinkNest RX4 18 yX5_variableOf RX5 ∈ nwl := List.mem_of_getElem? (i := 28) rfl
theorem kn29 : Cond.methodLinkNest RX4 22 yX5_bitOf RX5 ∈ nwl := List.mem_of_getElem? (i := 29) rfl
theorem kn30 : Cond.methodLinkNest RX3 62 yX2_forcedLiteral RX5 ∈ nwl := List.mem_of_getElem? (i := 30) rfl
theorem kn31 : Cond.methodLinkNest RX3 70 yX4_leastNotSet RX5 ∈ nwl := List.mem_of_getElem? (i := 31) rfl
theorem kn32 : Cond.methodLinkNest RX3 100 yX2_costOf RX5 ∈ nwl := List.mem_of_getElem? (i := 32) rfl
theorem kn33 : Cond.methodLinkNest RX5 70 yX3_isDone RX5 ∈ nwl := List.mem_of_getElem? (i := 33) rfl
theorem kn34 : Cond.methodLinkNest RX5 87 yX1_wordAt RX5 ∈ nwl := List.mem_of_getElem? (i := 34) rfl
theorem kn35 : Cond.methodLinkNest RX5 90 yX1_replace RX5 ∈ nwl := List.mem_of_getElem? (i := 35) rfl
theorem kn36 : Cond.methodLinkNest RX5 93 yX0_beginAnew RX5 ∈ nwl := List.mem_of_getElem? (i := 36) rfl
theorem kn37 : Cond.methodLinkNest RX5 96 yX1_shorten RX5 ∈ nwl := List.mem_of_getElem? (i := 37) rfl
theorem kn38 : Cond.methodLinkNest RX1 26 yX5_isWithin RX5 ∈ nwl := List.mem_of_getElem? (i := 38) rfl
theorem kn39 : Cond.methodLinkNest RX5 99 yX0_readOn RX5 ∈ nwl := List.mem_of_getElem? (i := 39) rfl
theorem kn40 : Cond.methodLinkNest RX0 87 yX1_wordAt RX5 ∈ nwl := List.mem_of_getElem? (i := 40) rfl
theorem kn41 : Cond.methodLinkNest RX0 91 yX4_become RX5 ∈ nwl := List.mem_of_getElem? (i := 41) rfl
theorem kn42 : Cond.methodLinkNest RX0 96 yX2_isBroken RX5 ∈ nwl := List.mem_of_getElem? (i := 42) rfl
theorem kn43 : Cond.methodLinkNest RX0 102 yX2_costOf RX5 ∈ nwl := List.mem_of_getElem? (i := 43) rfl
theorem kn44 : Cond.methodLinkNest RX0 70 yX5_limitBelow RX5 ∈ nwl := List.mem_of_getElem? (i := 44) rfl
theorem kn45 : Cond.methodLinkNest RX0 128 yX2_forcedLiteral RX5 ∈ nwl := List.mem_of_getElem? (i := 45) rfl
theorem kn46 : Cond.methodLinkNest RX0 132 yX4_makeTrue RX5 ∈ nwl := List.mem_of_getElem? (i := 46) rfl
theorem kn47 : Cond.methodLinkNest RX0 108 yX5_isVariable RX5 ∈ nwl := List.mem_of_getElem? (i := 47) rfl
theorem kn48 : Cond.methodLinkNest RX0 119 yX5_bitOf RX5 ∈ nwl := List.mem_of_getElem? (i := 48) rfl
set_option maxRecDepth 20000 in
theorem kt0 : Cond.methodLinkNest RX5 11 yX2_init RX5 ∈ lw_tbl := List.mem_of_getElem? (i := 69) (by decide +kernel)
set_option maxRecDepth 20000 in
theorem kt1 : Cond.fieldLinkNest RX5 51 "LeastCost$Problem" "costs" "[I" RX5 ∈ lw_tbl := List.mem_of_getElem? (i := 74) (by decide +kernel)
set_option maxRecDepth 20000 in
theorem kt2 : Cond.methodLinkNest RX5 18 yX1_init RX5 ∈ lw_tbl := List.mem_of_getElem? (i := 105) (by decide +kernel)
set_option maxRecDepth 20000 in
theorem kt3 : Cond.fieldLinkNest RX0 54 "LeastCost$Log" "size" "I" RX5 ∈ lw_tbl := List.mem_of_getElem? (i := 111) (by decide +kernel)
set_option maxRecDepth 20000 in
theorem kt4 : Cond.fieldLinkNest RX5 84 "LeastCost$Log" "size" "I" RX5 ∈ lw_tbl := List.mem_of_getElem? (i := 112) (by decide +kernel)
set_option maxRecDepth 20000 in
theorem kt5 : Cond.methodLinkNest RX5 25 yX3_init RX5 ∈ lw_tbl := List.mem_of_getElem? (i := 120) (by decide +kernel)
set_option maxRecDepth 20000 in
theorem kt6 : Cond.methodLinkNest RX3 11 yX4_init RX5 ∈ lw_tbl := List.mem_of_getElem? (i := 126) (by decide +kernel)
set_option maxRecDepth 20000 in
theorem kt7 : Cond.fieldLinkNest RX2 52 "LeastCost$Setting" "ones" "I" RX5 ∈ lw_tbl := List.mem_of_getElem? (i := 131) (by decide +kernel)
set_option maxRecDepth 20000 in
theorem kt8 : Cond.fieldLinkNest RX3 97 "LeastCost$Setting" "ones" "I" RX5 ∈ lw_tbl := List.mem_of_getElem? (i := 132) (by decide +kernel)
set_option maxRecDepth 20000 in
theorem kt9 : Cond.fieldLinkNest RX0 122 "LeastCost$Setting" "ones" "I" RX5 ∈ lw_tbl := List.mem_of_getElem? (i := 133) (by decide +kernel)
set_option maxRecDepth 20000 in
theorem kt10 : Cond.fieldLinkNest RX2 47 "LeastCost$Setting" "zeros" "I" RX5 ∈ lw_tbl := List.mem_of_getElem? (i := 135) (by decide +kernel)
set_option maxRecDepth 20000 in
theorem kt11 : Cond.fieldLinkNest RX3 103 "LeastCost$Setting" "zeros" "I" RX5 ∈ lw_tbl := List.mem_of_getElem? (i := 136) (by decide +kernel)
set_option maxRecDepth 20000 in
theorem kt12 : Cond.fieldLinkNest RX0 125 "LeastCost$Setting" "zeros" "I" RX5 ∈ lw_tbl := List.mem_of_getElem? (i := 137) (by decide +kernel)
set_option maxRecDepth 20000 in
theorem kt13 : Cond.fieldLinkNest RX5 74 "LeastCost$Search" "bestCost" "I" RX5 ∈ lw_tbl := List.mem_of_getElem? (i := 151) (by decide +kernel)
set_option maxRecDepth 20000 in
theorem kt14 : Cond.fieldLinkNest RX5 78 "LeastCost$Search" "bestOnes" "I" RX5 ∈ lw_tbl := List.mem_of_getElem? (i := 153) (by decide +kernel)
set_option maxRecDepth 20000 in
theorem kt15 : Cond.fieldLinkNest RX5 102 "LeastCost$Search" "stepsMade" "I" RX5 ∈ lw_tbl := List.mem_of_getElem? (i := 155) (by decide +kernel)
set_option maxRecDepth 20000 in
theorem kt16 : Cond.methodLinkNest RX5 34 yX0_init RX5 ∈ lw_tbl := List.mem_of_getElem? (i := 182) (by decide +kernel)
set_option maxRecDepth 20000 in
theorem kt17 : Cond.methodLinkNest RX0 11 yX4_init RX5 ∈ lw_tbl := List.mem_of_getElem? (i := 187) (by decide +kernel)
set_option maxRecDepth 20000 in
theorem kt18 : Cond.methodLinkNest RX5 59 yX2_addTerm RX5 ∈ lw_tbl := List.mem_of_getElem? (i := 262) (by decide +kernel)
set_option maxRecDepth 20000 in
theorem kt19 : Cond.methodLinkNest RX2 30 yX5_variableOf RX5 ∈ lw_tbl := List.mem_of_getElem? (i := 266) (by decide +kernel)
set_option maxRecDepth 20000 in
theorem kt20 : Cond.methodLinkNest RX2 34 yX5_bitOf RX5 ∈ lw_tbl := List.mem_of_getElem? (i := 267) (by decide +kernel)
set_option maxRecDepth 20000 in
theorem kt21 : Cond.methodLinkNest RX5 64 yX2_makeConstraint RX5 ∈ lw_tbl := List.mem_of_getElem? (i := 275) (by decide +kernel)
set_option maxRecDepth 20000 in
theorem kt22 : Cond.methodLinkNest RX5 67 yX3_advance RX5 ∈ lw_tbl := List.mem_of_getElem? (i := 283) (by decide +kernel)
set_option maxRecDepth 20000 in
theorem kt23 : Cond.methodLinkNest RX3 49 yX5_limitBelow RX5 ∈ lw_tbl := List.mem_of_getElem? (i := 291) (by decide +kernel)
set_option maxRecDepth 20000 in
theorem kt24 : Cond.methodLinkNest RX3 53 yX2_isBroken RX5 ∈ lw_tbl := List.mem_of_getElem? (i := 295) (by decide +kernel)
set_option maxRecDepth 20000 in
theorem kt25 : Cond.methodLinkNest RX3 106 yX1_append RX5 ∈ lw_tbl := List.mem_of_getElem? (i := 319) (by decide +kernel)
set_option maxRecDepth 20000 in
theorem kt26 : Cond.methodLinkNest RX3 90 yX4_become RX5 ∈ lw_tbl := List.mem_of_getElem? (i := 327) (by decide +kernel)
set_option maxRecDepth 20000 in
theorem kt27 : Cond.methodLinkNest RX3 66 yX4_makeTrue RX5 ∈ lw_tbl := List.mem_of_getElem? (i := 331) (by decide +kernel)
set_option maxRecDepth 20000 in
theorem kt28 : Cond.methodLinkNest RX4 18 yX5_variableOf RX5 ∈ lw_tbl := List.mem_of_getElem? (i := 335) (by decide +kernel)
set_option maxRecDepth 20000 in
theorem kt29 : Cond.methodLinkNest RX4 22 yX5_bitOf RX5 ∈ lw_tbl := List.mem_of_getElem? (i := 336) (by decide +kernel)
set_option maxRecDepth 20000 in
theorem kt30 : Cond.methodLinkNest RX3 62 yX2_forcedLiteral RX5 ∈ lw_tbl := List.mem_of_getElem? (i := 337) (by decide +kernel)
set_option maxRecDepth 20000 in
theorem kt31 : Cond.methodLinkNest RX3 70 yX4_leastNotSet RX5 ∈ lw_tbl := List.mem_of_getElem? (i := 349) (by decide +kernel)
set_option maxRecDepth 20000 in
theorem kt32 : Cond.methodLinkNest RX3 100 yX2_costOf RX5 ∈ lw_tbl := List.mem_of_getElem? (i := 361) (by decide +kernel)
set_option maxRecDepth 20000 in
theorem kt33 : Cond.methodLinkNest RX5 70 yX3_isDone RX5 ∈ lw_tbl := List.mem_of_getElem? (i := 366) (by decide +kernel)
set_option maxRecDepth 20000 in
theorem kt34 : Cond.methodLinkNest RX5 87 yX1_wordAt RX5 ∈ lw_tbl := List.mem_of_getElem? (i := 383) (by decide +kernel)
set_option maxRecDepth 20000 in
theorem kt35 : Cond.methodLinkNest RX5 90 yX1_replace RX5 ∈ lw_tbl := List.mem_of_getElem? (i := 395) (by decide +kernel)
set_option maxRecDepth 20000 in
theorem kt36 : Cond.methodLinkNest RX5 93 yX0_beginAnew RX5 ∈ lw_tbl := List.mem_of_getElem? (i := 400) (by decide +kernel)
set_option maxRecDepth 20000 in
theorem kt37 : Cond.methodLinkNest RX5 96 yX1_shorten RX5 ∈ lw_tbl := List.mem_of_getElem? (i := 408) (by decide +kernel)
set_option maxRecDepth 20000 in
theorem kt38 : Cond.methodLinkNest RX1 26 yX5_isWithin RX5 ∈ lw_tbl := List.mem_of_getElem? (i := 412) (by decide +kernel)
set_option maxRecDepth 20000 in
theorem kt39 : Cond.methodLinkNest RX5 99 yX0_readOn RX5 ∈ lw_tbl := List.mem_of_getElem? (i := 417) (by decide +kernel)
set_option maxRecDepth 20000 in
theorem kt40 : Cond.methodLinkNest RX0 87 yX1_wordAt RX5 ∈ lw_tbl := List.mem_of_getElem? (i := 433) (by decide +kernel)
set_option maxRecDepth 20000 in
theorem kt41 : Cond.methodLinkNest RX0 91 yX4_become RX5 ∈ lw_tbl := List.mem_of_getElem? (i := 435) (by decide +kernel)
set_option maxRecDepth 20000 in
theorem kt42 : Cond.methodLinkNest RX0 96 yX2_isBroken RX5 ∈ lw_tbl := List.mem_of_getElem? (i := 437) (by decide +kernel)
set_option maxRecDepth 20000 in
theorem kt43 : Cond.methodLinkNest RX0 102 yX2_costOf RX5 ∈ lw_tbl := List.mem_of_getElem? (i := 438) (by decide +kernel)
set_option maxRecDepth 20000 in
theorem kt44 : Cond.methodLinkNest RX0 70 yX5_limitBelow RX5 ∈ lw_tbl := List.mem_of_getElem? (i := 439) (by decide +kernel)
set_option maxRecDepth 20000 in
theorem kt45 : Cond.methodLinkNest RX0 128 yX2_forcedLiteral RX5 ∈ lw_tbl := List.mem_of_getElem? (i := 448) (by decide +kernel)
set_option maxRecDepth 20000 in
theorem kt46 : Cond.methodLinkNest RX0 132 yX4_makeTrue RX5 ∈ lw_tbl := List.mem_of_getElem? (i := 449) (by decide +kernel)
set_option maxRecDepth 20000 in
theorem kt47 : Cond.methodLinkNest RX0 108 yX5_isVariable RX5 ∈ lw_tbl := List.mem_of_getElem? (i := 458) (by decide +kernel)
set_option maxRecDepth 20000 in
theorem kt48 : Cond.methodLinkNest RX0 119 yX5_bitOf RX5 ∈ lw_tbl := List.mem_of_getElem? (i := 463) (by decide +kernel)
theorem nwl_in : ∀ w ∈ nwl, w ∈ lw_tbl := List.forall_mem_cons.mpr ⟨kt0, List.forall_mem_cons.mpr ⟨kt1, List.forall_mem_cons.mpr ⟨kt2, List.forall_mem_cons.mpr ⟨kt3, List.forall_mem_cons.mpr ⟨kt4, List.forall_mem_cons.mpr ⟨kt5, List.forall_mem_cons.mpr ⟨kt6, List.forall_mem_cons.mpr ⟨kt7, List.forall_mem_cons.mpr ⟨kt8, List.forall_mem_cons.mpr ⟨kt9, List.forall_mem_cons.mpr ⟨kt10, List.forall_mem_cons.mpr ⟨kt11, List.forall_mem_cons.mpr ⟨kt12, List.forall_mem_cons.mpr ⟨kt13, List.forall_mem_cons.mpr ⟨kt14, List.forall_mem_cons.mpr ⟨kt15, List.forall_mem_cons.mpr ⟨kt16, List.forall_mem_cons.mpr ⟨kt17, List.forall_mem_cons.mpr ⟨kt18, List.forall_mem_cons.mpr ⟨kt19, List.forall_mem_cons.mpr ⟨kt20, List.forall_mem_cons.mpr ⟨kt21, List.forall_mem_cons.mpr ⟨kt22, List.forall_mem_cons.mpr ⟨kt23, List.forall_mem_cons.mpr ⟨kt24, List.forall_mem_cons.mpr ⟨kt25, List.forall_mem_cons.mpr ⟨kt26, List.forall_mem_cons.mpr ⟨kt27, List.forall_mem_cons.mpr ⟨kt28, List.forall_mem_cons.mpr ⟨kt29, List.forall_mem_cons.mpr ⟨kt30, List.forall_mem_cons.mpr ⟨kt31, List.forall_mem_cons.mpr ⟨kt32, List.forall_mem_cons.mpr ⟨kt33, List.forall_mem_cons.mpr ⟨kt34, List.forall_mem_cons.mpr ⟨kt35, List.forall_mem_cons.mpr ⟨kt36, List.forall_mem_cons.mpr ⟨kt37, List.forall_mem_cons.mpr ⟨kt38, List.forall_mem_cons.mpr ⟨kt39, List.forall_mem_cons.mpr ⟨kt40, List.forall_mem_cons.mpr ⟨kt41, List.forall_mem_cons.mpr ⟨kt42, List.forall_mem_cons.mpr ⟨kt43, List.forall_mem_cons.mpr ⟨kt44, List.forall_mem_cons.mpr ⟨kt45, List.forall_mem_cons.mpr ⟨kt46, List.forall_mem_cons.mpr ⟨kt47, List.forall_mem_cons.mpr ⟨kt48, fun _ h => absurd h List.not_mem_nil⟩⟩⟩⟩⟩⟩⟩⟩⟩⟩⟩⟩⟩⟩⟩⟩⟩⟩⟩⟩⟩⟩⟩⟩⟩⟩⟩⟩⟩⟩⟩⟩⟩⟩⟩⟩⟩⟩⟩⟩⟩⟩⟩⟩⟩⟩⟩⟩⟩
end
section
-- ===== the frame of every contract here: one list of words (GL), one bundle of nest words (nst), readers (the heap stays) and writers (cells keep their addresses) =====
abbrev gw (y : MethodName) (c : ByteArray) (n : Nat) (r : Option FieldType) : List Cond := Cond.code y c n r :: GL
theorem gl_good {w : Cond} (h : w ∈ GL) : (w.onTables && w.keeps) = true ∨ ∃ ty, w = .arrayClass ty := good_of_word (List.mem_filter.mp h).2
theorem gw_good {y : MethodName} {c : ByteArray} {n : Nat} {r : Option FieldType} (h : Cond.code y c n r ∈ GL) : GoodIn GL (gw y c n r) := fun w hw => by
  rcases List.mem_cons.mp hw with rfl | hw
  · exact ⟨h, gl_good h⟩
  · exact ⟨hw, gl_good hw⟩
def isNest : Cond → Bool
  | .methodLinkNest .. => true
  | .fieldLinkNest .. => true
  | _ => false
theorem nwl_nest : ∀ w ∈ nwl, isNest w = true := by decide +kernel
theorem nwl_tab : ∀ w ∈ nwl, w.onTables = true := by decide +kernel
/-- the words on the nest's own links, at a state -/
def nst (U : State) : Prop := ∀ w ∈ nwl, va_Nw w U
theorem nst_warm {s U : State} (hW : s.WarmedH U.vm) (h : nst s) : nst U := by
  intro w hw
  have h1 := nwl_nest w hw
  have h2 := h w hw
  cases w <;> first | exact va_Nw.warmM hW h2 | exact va_Nw.warmF hW h2 | (simp [isNest] at h1; done)
theorem nst_same {s U : State} (hv : s.vm = U.vm) (h : nst s) : nst U := fun w hw => va_Nw.same (nwl_tab w hw) hv (h w hw)
abbrev tyG (cI cZ : ClassId) : List (ClassId × FieldType) := [(cI, .int), (cZ, .boolean)]
/-- a reader's start -/
def rPc (D : va_G) (cI cZ : ClassId) (av : List Value) (ws : va_W) : Array Value → State → Prop := fun v U => v = av.toArray ∧ va_P D vwCl ws U.heap ∧ va_K D vwCl (tyG cI cZ) U ∧ nst U
/-- a reader's end: the answer is v, the heap is as it was -/
def rQ (v : Int32) : Array Value → State → Outcome → State → Prop := vp_Si (fun r => r = v)
theorem rPc_blind {D : va_G} {cI cZ : ClassId} {av : List Value} {ws : va_W} : FrameBlind (rPc D cI cZ av ws) := fun a U g mk q => by
  obtain ⟨q0, qP, qK, qN⟩ := q
  exact ⟨q0, qP, va_K.moved (u := U) (U := U.calling g mk a) (Vm.Alike.refl U.vm) qK, nst_same (s := U) (U := U.calling g mk a) rfl qN⟩
/-- a writer's start: the cells are apart -/
def wPc (D : va_G) (cI cZ : ClassId) (av : List Value) (ws : va_W) : Array Value → State → Prop := fun v U => v = av.toArray ∧ va_P D vwCl ws U.heap ∧ va_K D vwCl (tyG cI cZ) U ∧ nst U ∧ va_D (fun _ => True) ws
theorem wPc_blind {D : va_G} {cI cZ : ClassId} {av : List Value} {ws : va_W} : FrameBlind (wPc D cI cZ av ws) := fun a U g mk q => by
  obtain ⟨q0, qP, qK, qN, qD⟩ := q
  exact ⟨q0, qP, va_K.moved (u := U) (U := U.calling g mk a) (Vm.Alike.refl U.vm) qK, nst_same (s := U) (U := U.calling g mk a) rfl qN, qD⟩
def aw (ws : va_W) : Nat → Prop := fun q => ∃ (k : Nat) (e : va_E), ws[k]? = some (q, e)
/-- a writer's end: the answer, the cells behind it, all else as it was -/
def wQ (D : va_G) (rv : Option Value) (wc wc' : va_W) : Array Value → State → Outcome → State → Prop := fun _ st oc t => oc = .returned rv ∧ va_P D vwCl wc' t.heap ∧ va_F (aw wc) st t
/-- cells put back at their places -/
def putAt : va_W → List Nat → va_W → va_W
  | ws, i :: is, c :: cs => putAt (ws.set i c) is cs
  | ws, _, _ => ws
theorem putAt_get : ∀ (isC : List Nat) (ws wc' : va_W) (k : Nat) (q : Nat × va_E), (putAt ws isC wc')[k]? = some q → isC.length = wc'.length → (∃ j : Nat, wc'[j]? = some q) ∨ (ws[k]? = some q ∧ k ∉ isC)
  | [], ws, wc', k, q, h, hl => Or.inr ⟨by cases wc' <;> exact h, List.not_mem_nil⟩
  | i :: is, ws, [], k, q, h, hl => by simp at hl
  | i :: is, ws, c :: cs, k, q, h, hl => by
    have h1 := putAt_get is (ws.set i c) cs k q h (by simpa using hl)
    rcases h1 with ⟨j, hj⟩ | ⟨h2, h3⟩
    · exact Or.inl ⟨j + 1, hj⟩
    · by_cases hk : k = i
      · subst hk
        rw [List.getElem?_set] at h2
        by_cases hlt : k < ws.length
        · rw [if_pos rfl, if_pos hlt] at h2
          exact Or.inl ⟨0, h2⟩
        · rw [if_pos rfl, if_neg hlt] at h2
          cases h2
      · rw [List.getElem?_set, if_neg (fun z => hk z.symm)] at h2
        exact Or.inr ⟨h2, fun z => by rcases List.mem_cons.mp z with z | z; exact hk z; exact h3 z⟩
theorem va_D.adr {A : Nat → Prop} {ws ws' : va_W} (h : va_D A ws) (ha : ws'.map Prod.fst = ws.map Prod.fst) : va_D A ws' := by
  have key : ∀ (k : Nat) (q : Nat × va_E), ws'[k]? = some q → ∃ q' : Nat × va_E, ws[k]? = some q' ∧ q'.1 = q.1 := by
    intro k q hq
    have h1 : (ws'.map Prod.fst)[k]? = some q.1 := by rw [List.getElem?_map, hq]; rfl
    rw [ha, List.getElem?_map] at h1
    cases hw : ws[k]? with
    | none => rw [hw] at h1; cases h1
    | some q' => rw [hw] at h1; exact ⟨q', rfl, Option.some.inj h1⟩
  refine ⟨fun i j p q hi hj he => ?_, fun k q hq => ?_⟩
  · obtain ⟨p', hp', e1⟩ := key i p hi
    obtain ⟨q', hq', e2⟩ := key j q hj
    exact h.1 i j p' q' hp' hq' (by rw [e1, e2]; exact he)
  · obtain ⟨q', hq', e2⟩ := key k q hq
    rw [← e2]; exact h.2 k q' hq'
theorem va_P.putBack {D : va_G} {cl : List vw_C} {A : Nat → Prop} {ws wc wc' ws' : va_W} {H H1 : Heap} (hP : va_P D cl ws H) (hD : va_D A ws) (hP1 : va_P D cl wc' H1) (isC : List Nat) (hC : isC.map (fun i => ws[i]?) = wc.map some) (hlen : isC.length = wc'.length) (hput : putAt ws isC wc' = ws')
    (hk : ∀ q : Nat, q < H.size → ¬ aw wc q → H1[q]? = H[q]?) : va_P D cl ws' H1 := by
  intro k q hq
  rw [← hput] at hq
  rcases putAt_get isC ws wc' k q hq hlen with ⟨j, hj⟩ | ⟨h1, h2⟩
  · exact hP1 j q hj
  · refine va_at.kept (hP k q h1) (hk q.1 (va_at.lt (hP k q h1)) ?_)
    rintro ⟨j, e, hj⟩
    have h3 : (wc.map some)[j]? = some (some (q.1, e)) := by rw [List.getElem?_map, hj]; rfl
    rw [← hC, List.getElem?_map] at h3
    cases hi : isC[j]? with
    | none => rw [hi] at h3; cases h3
    | some i =>
      rw [hi] at h3
      have h4 : ws[i]? = some (q.1, e) := Option.some.inj h3
      have h5 := hD.1 k i q (q.1, e) h1 h4 rfl
      subst h5
      exact h2 (List.mem_of_getElem? hi)
theorem aw_in {A : Nat → Prop} {ws wc : va_W} (hD : va_D A ws) (isC : List Nat) (hC : isC.map (fun i => ws[i]?) = wc.map some) : ∀ q, aw wc q → A q := by
  rintro q ⟨j, e, hj⟩
  have h3 : (wc.map some)[j]? = some (some (q, e)) := by rw [List.getElem?_map, hj]; rfl
  rw [← hC, List.getElem?_map] at h3
  cases hi : isC[j]? with
  | none => rw [hi] at h3; cases h3
  | some i =>
    rw [hi] at h3
    exact hD.2 i (q, e) (Option.some.inj h3)
theorem nz {v : Int32} (h : v = 0 ∨ v = 1) : narrow .boolean (.int v) = .int v := by rcases h with rfl | rfl <;> rfl
section Base
variable {p : Program} {l : Launch} {e : Env} {R : Room} {s : State} {m : MethodId} {args : Array Value} {below : List Frame} {meth : Method} {c : Code} {H : Heap} {locs : List Loc} {cells slots : Nat} {Q : State → Prop} {cc : ByteArray} {pc : Nat} {ls : Array Slot} {D : va_G} {cI cZ : ClassId}
theorem toCR {mc ms : Nat} {g : JFrame} {rest : List Value} {Qa : State → Outcome → State → Prop} {free : Addr → Prop} (h : va_Run p l e R s m args below meth c H locs cells slots mc ms g rest Qa free) : CallRun p l e R s m args below meth c H locs cells slots mc ms g rest Qa free := by
  intro T hT X
  obtain ⟨v, st, t, T', L, h1, h2, h3, h4, h5, h6, h7⟩ := h T hT X
  exact ⟨v, st, t, T', L, h1, h2, h3, h4, h6, h7⟩
/-- a contract of a reader, from its entry -/
theorem rMet {y : MethodName} {n : Nat} {ret : Option FieldType} {rm : Room} {av : List Value} {ws : va_W} {Qc : Array Value → State → Outcome → State → Prop} {free : Addr → Prop} (hy : plainName y.cls = true) (hn : (lg_sl av).length ≤ n)
    (body : ∀ (p : Program) (e : Env) (s : State) (m : MethodId) (below : List Frame) (meth : Method) (c : Code), p.tables.exec = Jvm.exec → c.code = cc → meth.sig.returnType = ret → meth.locks = false → c.maxLocals = n → s.vm.findClass y.cls = some m.cls → (∀ w ∈ GL, w.before av.toArray s = true) → va_P D vwCl ws s.heap → va_K D vwCl (tyG cI cZ) s → nst s → ∀ ls : Array Slot, lv_has ls n (lv_args 0 av) →
      W p l e rm s m av.toArray below meth c s.heap [] 0 0 (MQ below Qc av.toArray s 0 0 free) (F0 m 0 ls [])) : Met l y (gw y cc n ret) rm (rPc D cI cZ av ws) Qc 0 0 free := by
  refine Met.ofW (cc := cc) (maxL := n) (ret := ret) hy rfl ?_
  intro p e s m args below meth c s₁ B hml hv
  obtain ⟨rfl, hP, hK, hN⟩ := hv
  have hts := atoms_spec (ws := gw y cc n ret) B.pre
  rw [lg_entry_eq]
  exact body p e s m below meth c B.exec B.bytes B.returns B.notSynchronized hml (findClass_of_methodNamed B.named) (fun w h => hts w (List.mem_cons_of_mem _ h)) hP hK hN _ (lv_entry av hn)
/-- a contract of a writer, from its entry -/
theorem wMet {y : MethodName} {n : Nat} {ret : Option FieldType} {rm : Room} {av : List Value} {ws : va_W} {Qc : Array Value → State → Outcome → State → Prop} {free : Addr → Prop} (hy : plainName y.cls = true) (hn : (lg_sl av).length ≤ n)
    (body : ∀ (p : Program) (e : Env) (s : State) (m : MethodId) (below : List Frame) (meth : Method) (c : Code), p.tables.exec = Jvm.exec → c.code = cc → meth.sig.returnType = ret → meth.locks = false → c.maxLocals = n → s.vm.findClass y.cls = some m.cls → (∀ w ∈ GL, w.before av.toArray s = true) → va_P D vwCl ws s.heap → va_K D vwCl (tyG cI cZ) s → nst s → va_D (aw ws) ws → va_S (aw ws) s.heap s.heap [] → ∀ ls : Array Slot, lv_has ls n (lv_args 0 av) →
      W p l e rm s m av.toArray below meth c s.heap [] 0 0 (MQ below Qc av.toArray s 0 0 free) (F0 m 0 ls [])) : Met l y (gw y cc n ret) rm (wPc D cI cZ av ws) Qc 0 0 free := by
  refine Met.ofW (cc := cc) (maxL := n) (ret := ret) hy rfl ?_
  intro p e s m args below meth c s₁ B hml hv
  obtain ⟨rfl, hP, hK, hN, hD⟩ := hv
  have hts := atoms_spec (ws := gw y cc n ret) B.pre
  rw [lg_entry_eq]
  exact body p e s m below meth c B.exec B.bytes B.returns B.notSynchronized hml (findClass_of_methodNamed B.named) (fun w h => hts w (List.mem_cons_of_mem _ h)) hP hK hN (hD.weaken (fun k q h _ => ⟨k, q.2, h⟩)) va_S.rf _ (lv_entry av hn)
/-- a reader's return -/
theorem rreti {v w : Int32} (hx : p.tables.exec = Jvm.exec) (hb : c.code = cc) (hr : meth.sig.returnType = some .int) (hlocks : meth.locks = false) (hv : v = w) (hdg : decode cc pc = .ok (.ireturn, 1)) : W p l e R s m args below meth c s.heap [] cells slots (MQ below (rQ w) args s cells slots (fun _ => False)) (F0 m pc ls [.int v]) :=
  W.iret hx hb hr (fun t ht _ => ⟨v, rfl, hv, ht⟩) (fun q h => by cases h) hdg hlocks
theorem rretz {v w : Int32} (hx : p.tables.exec = Jvm.exec) (hb : c.code = cc) (hr : meth.sig.returnType = some .boolean) (hlocks : meth.locks = false) (hz : v = 0 ∨ v = 1) (hv : v = w) (hdg : decode cc pc = .ok (.ireturn, 1)) : W p l e R s m args below meth c s.heap [] cells slots (MQ below (rQ w) args s cells slots (fun _ => False)) (F0 m pc ls [.int v]) :=
  W.zret hx hb hr (nz hz) (fun t ht _ => ⟨v, rfl, hv, ht⟩) (fun q h => by cases h) hdg hlocks
/-- a writer's return -/
theorem wreti {v w : Int32} {wc wc' : va_W} (hx : p.tables.exec = Jvm.exec) (hb : c.code = cc) (hr : meth.sig.returnType = some .int) (hlocks : meth.locks = false) (hv : v = w) (hP : va_P D vwCl wc' H) (hS : va_S (aw wc) s.heap H locs) (hdg : decode cc pc = .ok (.ireturn, 1)) : W p l e R s m args below meth c H locs cells slots (MQ below (wQ D (some (.int w)) wc wc') args s cells slots (aw wc)) (F0 m pc ls [.int v]) :=
  W.iret hx hb hr (fun t ht _ => ⟨by rw [hv], by rw [ht]; exact hP, hS.F ht⟩) hS.2.2 hdg hlocks
theorem wretz {v w : Int32} {wc wc' : va_W} (hx : p.tables.exec = Jvm.exec) (hb : c.code = cc) (hr : meth.sig.returnType = some .boolean) (hlocks : meth.locks = false) (hz : v = 0 ∨ v = 1) (hv : v = w) (hP : va_P D vwCl wc' H) (hS : va_S (aw wc) s.heap H locs) (hdg : decode cc pc = .ok (.ireturn, 1)) : W p l e R s m args below meth c H locs cells slots (MQ below (wQ D (some (.int w)) wc wc') args s cells slots (aw wc)) (F0 m pc ls [.int v]) :=
  W.zret hx hb hr (nz hz) (fun t ht _ => ⟨by rw [hv], by rw [ht]; exact hP, hS.F ht⟩) hS.2.2 hdg hlocks
theorem wretv {wc wc' : va_W} (hx : p.tables.exec = Jvm.exec) (hb : c.code = cc) (hr : meth.sig.returnType = none) (hlocks : meth.locks = false) (hP : va_P D vwCl wc' H) (hS : va_S (aw wc) s.heap H locs) (hdg : decode cc pc = .ok (.return_, 1)) : W p l e R s m args below meth c H locs cells slots (MQ below (wQ D none wc wc') args s cells slots (aw wc)) (F0 m pc ls []) :=
  W.vret hx hb hr (fun t ht _ => ⟨rfl, by rw [ht]; exact hP, hS.F ht⟩) hS.2.2 hdg hlocks
/-- behind a reader's call -/
theorem rback {v : Int32} {a : Array Value} {st0 rest : List Value} (hr : va_Run p l e R s m args below meth c H locs cells slots 0 0 (F0 m pc ls st0) rest (rQ v a) (fun _ => False)) (kk : W p l e R s m args below meth c H locs cells slots Q (F0 m (pc + 3) ls (.int v :: rest))) : W p l e R s m args below meth c H locs cells slots Q (F0 m pc ls st0) :=
  vp_callSi (toCR hr) (fun r h => by rw [h]; exact kk)
/-- behind a writer's call: its cells are put back at their places -/
theorem wback {rv : Option Value} {a : Array Value} {st0 rest : List Value} {wc wc' ws ws' : va_W} {A0 : Nat → Prop} {H0 : Heap} (isC : List Nat) (hr : va_Run p l e R s m args below meth c H locs cells slots 0 0 (F0 m pc ls st0) rest (wQ D rv wc wc' a) (aw wc)) (hP : va_P D vwCl ws H) (hD : va_D A0 ws) (hS : va_S A0 H0 H locs)
    (hC : isC.map (fun i => ws[i]?) = wc.map some) (hlen : isC.length = wc'.length) (hput : putAt ws isC wc' = ws') (hadr : ws'.map Prod.fst = ws.map Prod.fst)
    (kk : ∀ (H1 : Heap) (locs1 : List Loc), va_P D vwCl ws' H1 → va_D A0 ws' → va_S A0 H0 H1 locs1 → W p l e R s m args below meth c H1 locs1 cells slots Q (F0 m (pc + 3) ls (rv.toList ++ rest))) : W p l e R s m args below meth c H locs cells slots Q (F0 m pc ls st0) := by
  intro T hT X
  obtain ⟨v, st₀, t, T', L, h0, X', hL, e1, e2, ⟨hv, hP1, hz, hk⟩, st⟩ := hr T hT X
  cases hv
  rw [h0] at hz hk
  have hA := aw_in hD isC hC
  obtain ⟨t2, a1, b1⟩ := kk T'.heap (locs ++ L) (hP.putBack hD (by rw [e1]; exact hP1) isC hC hlen hput (fun q h1 h2 => by rw [e1]; exact hk q h1 h2)) (hD.adr hadr)
    ⟨Nat.le_trans hS.1 (by rw [e1]; exact hz), fun q h1 h2 => by rw [e1, hk q (Nat.lt_of_lt_of_le h1 hS.1) (fun z => h2 (hA q z))]; exact hS.2.1 q h1 h2, fun q hq => by
      rcases List.mem_append.mp hq with h | h
      · exact hS.2.2 q h
      · exact hA _ (hL q h)⟩ T' rfl X'
  exact ⟨t2, st t2 a1, b1⟩
theorem rpre {av : List Value} {ws : va_W} (hP : va_P D vwCl ws H) (hK : va_K D vwCl (tyG cI cZ) s) (hN : nst s) : ∀ U : State, U.heap = H → s.WarmedH U.vm → rPc D cI cZ av ws av.toArray U := fun U hU hW => ⟨rfl, by rw [hU]; exact hP, va_K.moved hW.alike hK, nst_warm hW hN⟩
theorem wpre {A : Nat → Prop} {av : List Value} {ws : va_W} (hP : va_P D vwCl ws H) (hK : va_K D vwCl (tyG cI cZ) s) (hN : nst s) (hD : va_D A ws) : ∀ U : State, U.heap = H → s.WarmedH U.vm → wPc D cI cZ av ws av.toArray U := fun U hU hW => ⟨rfl, by rw [hU]; exact hP, va_K.moved hW.alike hK, nst_warm hW hN, hD.weaken (fun _ _ _ _ => trivial)⟩
/-- what a call needs of the tables: a method's own facts -/
def mFit (y : MethodName) (n : Nat) : Prop := y.cls ≠ "java/lang/invoke/MethodHandle" ∧ y.cls ≠ "java/lang/invoke/VarHandle" ∧ (parseMethodDescriptor y.desc).map (fun d => d.parameters.length) = some n
theorem cN {y : MethodName} {bytes : ByteArray} {maxL n index : Nat} {ret : Option FieldType} {rm : Room} {own host : String} (hts : ∀ w ∈ GL, w.before args s = true) (hc : Cond.code y bytes maxL ret ∈ GL) (hl : va_Nw (.methodLinkNest own index y host) s) (hini : Cond.initialized y.cls ∈ GL) (hd : mFit y n) (hR : rm.frames + 1 ≤ R.frames ∧ 8 + (maxL + 11) + rm.locals ≤ R.locals) : va_CN R s args own index y host bytes maxL ret (gw y bytes maxL ret) rm rm.cells rm.slots n :=
  va_cnB n hts (gw_good hc) rfl rfl rfl hl (hts _ hini) hd hR
theorem cB {y : MethodName} {bytes : ByteArray} {maxL n index : Nat} {ret : Option FieldType} {rm : Room} {own : String} (hts : ∀ w ∈ GL, w.before args s = true) (hc : Cond.code y bytes maxL ret ∈ GL) (hl : Cond.methodLink own index y ∈ GL) (hini : Cond.initialized y.cls ∈ GL) (hd : mFit y n) (hR : rm.frames + 1 ≤ R.frames ∧ 8 + (maxL + 11) + rm.locals ≤ R.locals) : CallB R s args own index y bytes maxL ret (gw y bytes maxL ret) rm rm.cells rm.slots n :=
  callB_of n hts (gw_good hc) rfl rfl rfl (hts _ hini) (hts _ hl) hd hR
end Base
end
section
-- ===== numbers: small rows for bounds =====
theorem k_nlt {k m : Nat} (hk : k < 2 ^ 31) (c : ¬ nI m < nI k) : k ≤ m := by
  rcases Nat.lt_or_ge m k with h | h
  · exact absurd (nI_lt h hk) c
  · exact h
theorem k_nle {k b : Nat} (hk : k < 2 ^ 31) (c : ¬ nI b ≤ nI k) : k < b := by
  rcases Nat.lt_or_ge k b with h | h
  · exact h
  · exact absurd (nI_le h hk) c
theorem k_lt {k m : Nat} (hk : k < 2 ^ 31) (hm : m < 2 ^ 31) (c : nI k < nI m) : k < m := (nI_ltI hk hm).mp c
theorem k_le {k m : Nat} (hk : k < 2 ^ 31) (hm : m < 2 ^ 31) (c : nI k ≤ nI m) : k ≤ m := (nI_leI hk hm).mp c
/-- a counter over the variables, not beyond 16 -/
theorem k_16 {x : Int32} {k : Nat} (ek : x = nI k) (hk : k ≤ 17) (c : ¬ (16 : Int32) < x) : k ≤ 16 := by
  subst ek
  exact k_nlt (m := 16) (by omega) c
theorem k_in {x : Int32} {k N : Nat} (ek : x = nI k) (h : k < N) (hN : N < 2 ^ 31) : vp_in x N := by rw [ek]; exact vp_in_nI h hN
theorem k_s {x : Int32} {k : Nat} (ek : x = nI k) : x + 1 = nI (k + 1) := by rw [ek, nI_1]
/-- constraint c: its terms are firsts[c] .. firsts[c + 1] - 1, of 120 -/
def okC (firsts : Nat → Int32) (c : Int32) : Prop := ∃ a b : Nat, firsts c.toNatClampNeg = nI a ∧ firsts (c + 1).toNatClampNeg = nI b ∧ a ≤ b ∧ b ≤ 120 ∧ vp_in c 20 ∧ vp_in c 21 ∧ vp_in (c + 1) 21
def okP (firsts : Nat → Int32) (cons : Int32) : Prop := ∃ C : Nat, cons = nI C ∧ C ≤ 20 ∧ ∀ c, c < C → okC firsts (nI c)
theorem okC_lt {x y : Int32} {k b : Nat} (ek : x = nI k) (eb : y = nI b) (hk : k ≤ 120) (c : ¬ y ≤ x) : k < b := by
  subst ek; subst eb
  exact k_nle (by omega) c
theorem okC_lt20 {x y : Int32} {k b : Nat} (ek : x = nI k) (eb : y = nI b) (hk : k ≤ 20) (c : ¬ y ≤ x) : k < b := okC_lt ek eb (by omega) c
/-- a number of words, of terms, of choices -/
def okN (N : Nat) (x : Int32) : Prop := ∃ n : Nat, x = nI n ∧ n ≤ N
theorem okN_s {N : Nat} {x : Int32} (h : okN N x) (hN : N < 2 ^ 31) (c : x < nI N) : okN N (x + 1) := by
  obtain ⟨n, rfl, hn⟩ := h
  have := k_lt (by omega) hN c
  exact ⟨n + 1, nI_1 n, by omega⟩
theorem okN_in {N : Nat} {x : Int32} (h : okN N x) (hN : N < 2 ^ 31) (c : x < nI N) : vp_in x N := by
  obtain ⟨n, rfl, hn⟩ := h
  exact vp_in_nI (k_lt (by omega) hN c) hN
theorem k_lt_of {x y : Int32} (c : ¬ y ≤ x) : x < y := by
  rw [Int32.lt_iff_toInt_lt]
  rw [Int32.le_iff_toInt_le] at c
  omega
theorem okN_p {N : Nat} {x : Int32} (h : okN N x) (hN : N < 2 ^ 31) (c : ¬ x = 0) : okN N (x - 1) ∧ vp_in (x - 1) N := by
  obtain ⟨n, rfl, hn⟩ := h
  cases n with
  | zero => exact absurd nI_0 c
  | succ n => rw [nI_pred]; exact ⟨⟨n, rfl, by omega⟩, vp_in_nI (by omega) hN⟩
theorem okN_ix {N : Nat} {x i : Int32} (h : okN N x) (hN : N < 2 ^ 31) (h0 : ¬ i < 0) (c : ¬ x ≤ i) : vp_in i N := by
  obtain ⟨n, rfl, hn⟩ := h
  rw [vp_in_iff]
  rw [Int32.lt_iff_toInt_lt, Int32.toInt_zero] at h0
  rw [Int32.le_iff_toInt_le, nI_toInt (by omega)] at c
  omega
theorem okN_0 (N : Nat) : okN N 0 := ⟨0, nI_0.symm, Nat.zero_le _⟩
end
section
-- LeastCost.isWithin
theorem pmX5_isWithin : mFit yX5_isWithin 3 := ⟨by decide +kernel, by decide +kernel, by decide +kernel⟩
noncomputable def fX5_isWithin_d (x0 : Int32) (x1 : Int32) (x2 : Int32) : Int32 :=
  (if x0 < x1 then 0 else (if x2 < x0 then 0 else 1))
theorem fX5_isWithin_ex : ∃ f : Int32 → Int32 → Int32 → Int32, ∀ (x0 : Int32) (x1 : Int32) (x2 : Int32), f x0 x1 x2 = fX5_isWithin_d x0 x1 x2 := ⟨fX5_isWithin_d, fun _ _ _ => rfl⟩
noncomputable def fX5_isWithin : Int32 → Int32 → Int32 → Int32 := Classical.choose fX5_isWithin_ex
theorem fX5_isWithin_eq (x0 : Int32) (x1 : Int32) (x2 : Int32) : fX5_isWithin x0 x1 x2 = fX5_isWithin_d x0 x1 x2 := Classical.choose_spec fX5_isWithin_ex x0 x1 x2
set_option maxHeartbeats 1000000 in
set_option maxRecDepth 100000 in
theorem ctX5_isWithin (l : Launch) (D : va_G) (cI cZ : ClassId) (x0 : Int32) (x1 : Int32) (x2 : Int32) : Met l yX5_isWithin (gw yX5_isWithin cX5_isWithin 3 (some .boolean)) { frames := 0, cells := 0, slots := 0, locals := 0 } (rPc D cI cZ [.int x0, .int x1, .int x2] []) (rQ (fX5_isWithin x0 x1 x2)) 0 0 (fun _ => False) := by
  refine rMet (by decide) (Nat.le_of_ble_eq_true rfl) ?_
  intro p e s m below meth c hx hb hr hlocks hml hown hts hP hK hN ls hl
  have hl : lv_has ls 3 [(0, .int x0), (1, .int x1), (2, .int x2)] := hl
  have hF := (fX5_isWithin_eq x0 x1 x2).trans (fX5_isWithin_d.eq_1 x0 x1 x2)
  refine lv_iload_n hx hb dX5_isWithin_0 rfl (lv_at hl 0 rfl) ?_
  refine lv_iload_n hx hb dX5_isWithin_1 rfl (lv_at hl 1 rfl) ?_
  refine lv_icmp_lt (tgt := 14) hx hb dX5_isWithin_2 (by decide) (fun c_1 => ?_) (fun c_1 => ?_)
  · have hF := hF.trans (if_pos c_1)
    refine lv_iconst (v := 0) hx hb dX5_isWithin_14 (by decide) ?_
    exact rretz hx hb hr hlocks (Or.inl rfl) hF.symm dX5_isWithin_15
  · have hF := hF.trans (if_neg c_1)
    refine lv_iload_n hx hb dX5_isWithin_5 rfl (lv_at hl 0 rfl) ?_
    refine lv_iload_n hx hb dX5_isWithin_6 rfl (lv_at hl 2 rfl) ?_
    refine lv_icmp_gt (tgt := 14) hx hb dX5_isWithin_7 (by decide) (fun c_2 => ?_) (fun c_2 => ?_)
    · have hF := hF.trans (if_pos c_2)
      refine lv_iconst (v := 0) hx hb dX5_isWithin_14 (by decide) ?_
      exact rretz hx hb hr hlocks (Or.inl rfl) hF.symm dX5_isWithin_15
    · have hF := hF.trans (if_neg c_2)
      refine lv_iconst (v := 1) hx hb dX5_isWithin_10 (by decide) ?_
      refine lv_goto (tgt := 15) hx hb dX5_isWithin_11 (by decide) ?_
      exact rretz hx hb hr hlocks (Or.inr rfl) hF.symm dX5_isWithin_15
theorem z_isWithin (a b c : Int32) : fX5_isWithin a b c = 0 ∨ fX5_isWithin a b c = 1 := by
  rw [fX5_isWithin_eq]; unfold fX5_isWithin_d
  split
  · exact Or.inl rfl
  · split
    · exact Or.inl rfl
    · exact Or.inr rfl

-- LeastCost.isVariable
theorem pmX5_isVariable : mFit yX5_isVariable 1 := ⟨by decide +kernel, by decide +kernel, by decide +kernel⟩
noncomputable def fX5_isVariable_d (x0 : Int32) : Int32 :=
  fX5_isWithin x0 1 16
theorem fX5_isVariable_ex : ∃ f : Int32 → Int32, ∀ (x0 : Int32), f x0 = fX5_isVariable_d x0 := ⟨fX5_isVariable_d, fun _ => rfl⟩
noncomputable def fX5_isVariable : Int32 → Int32 := Classical.choose fX5_isVariable_ex
theorem fX5_isVariable_eq (x0 : Int32) : fX5_isVariable x0 = fX5_isVariable_d x0 := Classical.choose_spec fX5_isVariable_ex x0
set_option maxHeartbeats 1000000 in
set_option maxRecDepth 100000 in
theorem ctX5_isVariable (l : Launch) (D : va_G) (cI cZ : ClassId) (x0 : Int32) : Met l yX5_isVariable (gw yX5_isVariable cX5_isVariable 1 (some .boolean)) { frames := 1, cells := 0, slots := 0, locals := 22 } (rPc D cI cZ [.int x0] []) (rQ (fX5_isVariable x0)) 0 0 (fun _ => False) := by
  refine rMet (by decide) (Nat.le_of_ble_eq_true rfl) ?_
  intro p e s m below meth c hx hb hr hlocks hml hown hts hP hK hN ls hl
  have hl : lv_has ls 1 [(0, .int x0)] := hl
  have hF := (fX5_isVariable_eq x0).trans (fX5_isVariable_d.eq_1 x0)
  refine lv_iload_n hx hb dX5_isVariable_0 rfl (lv_at hl 0 rfl) ?_
  refine lv_iconst (v := 1) hx hb dX5_isVariable_1 (by decide) ?_
  refine lv_bipush (v := 16) hx hb dX5_isVariable_2 (by decide) ?_
  have hPc : va_P D vwCl [] _ := hP.sub [] rfl
  refine rback (va_runS (As := [.int x0, .int 1, .int 16]) (rest := []) ⟨hx, hb, hml, hown, hts⟩ (ctX5_isWithin l D cI cZ x0 1 16) ⟨(cB hts kw254 kw252 kw52 pmX5_isWithin ⟨Nat.le_of_ble_eq_true rfl, Nat.le_of_ble_eq_true rfl⟩), hts _ kw253⟩ ⟨rPc_blind, rpre hPc hK hN⟩ rfl rfl hl.1 rfl (lv_room (Nat.le_of_ble_eq_true rfl)) dX5_isVariable_4 ⟨Nat.zero_le _, Nat.zero_le _⟩) ?_
  exact rretz hx hb hr hlocks (z_isWithin _ _ _) hF.symm dX5_isVariable_7
theorem z_isVariable (a : Int32) : fX5_isVariable a = 0 ∨ fX5_isVariable a = 1 := by rw [fX5_isVariable_eq]; exact z_isWithin _ _ _

-- LeastCost.variableOf
theorem pmX5_variableOf : mFit yX5_variableOf 1 := ⟨by decide +kernel, by decide +kernel, by decide +kernel⟩
noncomputable def fX5_variableOf_d (x0 : Int32) : Int32 :=
  (if 0 ≤ x0 then x0 else -x0)
theorem fX5_variableOf_ex : ∃ f : Int32 → Int32, ∀ (x0 : Int32), f x0 = fX5_variableOf_d x0 := ⟨fX5_variableOf_d, fun _ => rfl⟩
noncomputable def fX5_variableOf : Int32 → Int32 := Classical.choose fX5_variableOf_ex
theorem fX5_variableOf_eq (x0 : Int32) : fX5_variableOf x0 = fX5_variableOf_d x0 := Classical.choose_spec fX5_variableOf_ex x0
set_option maxHeartbeats 1000000 in
set_option maxRecDepth 100000 in
theorem ctX5_variableOf (l : Launch) (D : va_G) (cI cZ : ClassId) (x0 : Int32) : Met l yX5_variableOf (gw yX5_variableOf cX5_variableOf 1 (some .int)) { frames := 0, cells := 0, slots := 0, locals := 0 } (rPc D cI cZ [.int x0] []) (rQ (fX5_variableOf x0)) 0 0 (fun _ => False) := by
  refine rMet (by decide) (Nat.le_of_ble_eq_true rfl) ?_
  intro p e s m below meth c hx hb hr hlocks hml hown hts hP hK hN ls hl
  have hl : lv_has ls 1 [(0, .int x0)] := hl
  have hF := (fX5_variableOf_eq x0).trans (fX5_variableOf_d.eq_1 x0)
  refine lv_iload_n hx hb dX5_variableOf_0 rfl (lv_at hl 0 rfl) ?_
  refine lv_if_ge (tgt := 9) hx hb dX5_variableOf_1 (by decide) (fun c_1 => ?_) (fun c_1 => ?_)
  · have hF := hF.trans (if_pos c_1)
    refine lv_iload_n hx hb dX5_variableOf_9 rfl (lv_at hl 0 rfl) ?_
    exact rreti hx hb hr hlocks hF.symm dX5_variableOf_10
  · have hF := hF.trans (if_neg c_1)
    refine lv_iload_n hx hb dX5_variableOf_4 rfl (lv_at hl 0 rfl) ?_
    refine lv_ineg hx hb dX5_variableOf_5 ?_
    refine lv_goto (tgt := 10) hx hb dX5_variableOf_6 (by decide) ?_
    exact rreti hx hb hr hlocks hF.symm dX5_variableOf_10

-- LeastCost.bitOf
theorem pmX5_bitOf : mFit yX5_bitOf 1 := ⟨by decide +kernel, by decide +kernel, by decide +kernel⟩
noncomputable def fX5_bitOf_d (x0 : Int32) : Int32 :=
  1 <<< ((x0 - 1) &&& 31)
theorem fX5_bitOf_ex : ∃ f : Int32 → Int32, ∀ (x0 : Int32), f x0 = fX5_bitOf_d x0 := ⟨fX5_bitOf_d, fun _ => rfl⟩
noncomputable def fX5_bitOf : Int32 → Int32 := Classical.choose fX5_bitOf_ex
theorem fX5_bitOf_eq (x0 : Int32) : fX5_bitOf x0 = fX5_bitOf_d x0 := Classical.choose_spec fX5_bitOf_ex x0
set_option maxHeartbeats 1000000 in
set_option maxRecDepth 100000 in
theorem ctX5_bitOf (l : Launch) (D : va_G) (cI cZ : ClassId) (x0 : Int32) : Met l yX5_bitOf (gw yX5_bitOf cX5_bitOf 1 (some .int)) { frames := 0, cells := 0, slots := 0, locals := 0 } (rPc D cI cZ [.int x0] []) (rQ (fX5_bitOf x0)) 0 0 (fun _ => False) := by
  refine rMet (by decide) (Nat.le_of_ble_eq_true rfl) ?_
  intro p e s m below meth c hx hb hr hlocks hml hown hts hP hK hN ls hl
  have hl : lv_has ls 1 [(0, .int x0)] := hl
  have hF := (fX5_bitOf_eq x0).trans (fX5_bitOf_d.eq_1 x0)
  refine lv_iconst (v := 1) hx hb dX5_bitOf_0 (by decide) ?_
  refine lv_iload_n hx hb dX5_bitOf_1 rfl (lv_at hl 0 rfl) ?_
  refine lv_iconst (v := 1) hx hb dX5_bitOf_2 (by decide) ?_
  refine lv_isub hx hb dX5_bitOf_3 ?_
  refine lv_ishl hx hb dX5_bitOf_4 ?_
  exact rreti hx hb hr hlocks hF.symm dX5_bitOf_5

-- LeastCost.limitBelow
theorem pmX5_limitBelow : mFit yX5_limitBelow 1 := ⟨by decide +kernel, by decide +kernel, by decide +kernel⟩
noncomputable def fX5_limitBelow_d (x0 : Int32) : Int32 :=
  (if x0 = (-1) then 2097152 else x0 - 1)
theorem fX5_limitBelow_ex : ∃ f : Int32 → Int32, ∀ (x0 : Int32), f x0 = fX5_limitBelow_d x0 := ⟨fX5_limitBelow_d, fun _ => rfl⟩
noncomputable def fX5_limitBelow : Int32 → Int32 := Classical.choose fX5_limitBelow_ex
theorem fX5_limitBelow_eq (x0 : Int32) : fX5_limitBelow x0 = fX5_limitBelow_d x0 := Classical.choose_spec fX5_limitBelow_ex x0
set_option maxHeartbeats 1000000 in
set_option maxRecDepth 100000 in
theorem ctX5_limitBelow (l : Launch) (D : va_G) (cI cZ : ClassId) (x0 : Int32) : Met l yX5_limitBelow (gw yX5_limitBelow cX5_limitBelow 1 (some .int)) { frames := 0, cells := 0, slots := 0, locals := 0 } (rPc D cI cZ [.int x0] []) (rQ (fX5_limitBelow x0)) 0 0 (fun _ => False) := by
  refine rMet (by decide) (Nat.le_of_ble_eq_true rfl) ?_
  intro p e s m below meth c hx hb hr hlocks hml hown hts hP hK hN ls hl
  have hl : lv_has ls 1 [(0, .int x0)] := hl
  have hF := (fX5_limitBelow_eq x0).trans (fX5_limitBelow_d.eq_1 x0)
  refine lv_iload_n hx hb dX5_limitBelow_0 rfl (lv_at hl 0 rfl) ?_
  refine lv_iconst (v := (-1)) hx hb dX5_limitBelow_1 (by decide) ?_
  refine lv_icmp_ne (tgt := 10) hx hb dX5_limitBelow_2 (by decide) (fun c_1 => ?_) (fun c_1 => ?_)
  · have hF := hF.trans (if_neg c_1)
    refine lv_iload_n hx hb dX5_limitBelow_10 rfl (lv_at hl 0 rfl) ?_
    refine lv_iconst (v := 1) hx hb dX5_limitBelow_11 (by decide) ?_
    refine lv_isub hx hb dX5_limitBelow_12 ?_
    exact rreti hx hb hr hlocks hF.symm dX5_limitBelow_13
  · have hF := hF.trans (if_pos c_1)
    refine lv_ldc (v := 2097152) hx hb hown (hts _ kw294) dX5_limitBelow_5 ?_
    refine lv_goto (tgt := 13) hx hb dX5_limitBelow_7 (by decide) ?_
    exact rreti hx hb hr hlocks hF.symm dX5_limitBelow_13
end
section
-- LeastCost$Setting.become
theorem pmX4_become : mFit yX4_become 2 := ⟨by decide +kernel, by decide +kernel, by decide +kernel⟩
noncomputable def fX4_become_d (x1 : Int32) (x2 : Int32) (v_ones : Int32) (v_zeros : Int32) : Int32 × Int32 :=
  (x1, x2)
theorem fX4_become_ex : ∃ f : Int32 → Int32 → Int32 → Int32 → (Int32 × Int32), ∀ (x1 : Int32) (x2 : Int32) (v_ones : Int32) (v_zeros : Int32), f x1 x2 v_ones v_zeros = fX4_become_d x1 x2 v_ones v_zeros := ⟨fX4_become_d, fun _ _ _ _ => rfl⟩
noncomputable def fX4_become : Int32 → Int32 → Int32 → Int32 → (Int32 × Int32) := Classical.choose fX4_become_ex
theorem fX4_become_eq (x1 : Int32) (x2 : Int32) (v_ones : Int32) (v_zeros : Int32) : fX4_become x1 x2 v_ones v_zeros = fX4_become_d x1 x2 v_ones v_zeros := Classical.choose_spec fX4_become_ex x1 x2 v_ones v_zeros
set_option maxHeartbeats 1000000 in
set_option maxRecDepth 100000 in
theorem ctX4_become (l : Launch) (D : va_G) (cI cZ : ClassId) (h0 : Nat) (x1 : Int32) (x2 : Int32) (v_ones v_zeros : Int32) : Met l yX4_become (gw yX4_become cX4_become 3 none) { frames := 0, cells := 0, slots := 0, locals := 0 } (wPc D cI cZ [.ref h0, .int x1, .int x2] [(h0, .inr (4, [.int v_ones, .int v_zeros]))]) (wQ D none [(h0, .inr (4, [.int v_ones, .int v_zeros]))] [(h0, .inr (4, [.int ((fX4_become x1 x2 v_ones v_zeros).1), .int ((fX4_become x1 x2 v_ones v_zeros).2)]))]) 0 0 (aw [(h0, .inr (4, [.int v_ones, .int v_zeros]))]) := by
  refine wMet (by decide) (Nat.le_of_ble_eq_true rfl) ?_
  intro p e s m below meth c hx hb hr hlocks hml hown hts hP hK hN hD hS ls hl
  have hl : lv_has ls 3 [(0, .ref h0), (1, .int x1), (2, .int x2)] := hl
  have hF := (fX4_become_eq x1 x2 v_ones v_zeros).trans (fX4_become_d.eq_1 x1 x2 v_ones v_zeros)
  refine lv_aload_n hx hb dX4_become_0 rfl (lv_at hl 0 rfl) ?_
  refine lv_iload_n hx hb dX4_become_1 rfl (lv_at hl 1 rfl) ?_
  refine va_put (D := D) (v := .int x1) (ty := .int) hx hb hts inX4 tyX4 tyX4_ok nmX4 hown hK hP hD hS 0 rfl rfl 0 (by decide) (hts _ kw130) (fun _ h9 => h9) rfl (by decide +kernel) rfl rfl (Nat.le_of_ble_eq_true rfl) dX4_become_2 (fun H locs hP hD hS => ?_)
  have hP : va_P D vwCl [(h0, .inr (4, [.int x1, .int v_zeros]))] H := hP
  have hD : va_D _ [(h0, .inr (4, [.int x1, .int v_zeros]))] := hD
  refine lv_aload_n hx hb dX4_become_5 rfl (lv_at hl 0 rfl) ?_
  refine lv_iload_n hx hb dX4_become_6 rfl (lv_at hl 2 rfl) ?_
  refine va_put (D := D) (v := .int x2) (ty := .int) hx hb hts inX4 tyX4 tyX4_ok nmX4 hown hK hP hD hS 0 rfl rfl 1 (by decide) (hts _ kw134) (fun _ h9 => h9) rfl (by decide +kernel) rfl rfl (Nat.le_of_ble_eq_true rfl) dX4_become_7 (fun H locs hP hD hS => ?_)
  have hP : va_P D vwCl [(h0, .inr (4, [.int x1, .int x2]))] H := hP
  have hD : va_D _ [(h0, .inr (4, [.int x1, .int x2]))] := hD
  exact wretv hx hb hr hlocks (by rw [hF]; exact hP) hS dX4_become_10

-- LeastCost$Setting.makeTrue
theorem pmX4_makeTrue : mFit yX4_makeTrue 1 := ⟨by decide +kernel, by decide +kernel, by decide +kernel⟩
noncomputable def fX4_makeTrue_d (x1 : Int32) (v_ones : Int32) (v_zeros : Int32) : Int32 × Int32 :=
  (if x1 ≤ 0 then (v_ones, v_zeros ||| (fX5_bitOf (fX5_variableOf x1))) else (v_ones ||| (fX5_bitOf (fX5_variableOf x1)), v_zeros))
theorem fX4_makeTrue_ex : ∃ f : Int32 → Int32 → Int32 → (Int32 × Int32), ∀ (x1 : Int32) (v_ones : Int32) (v_zeros : Int32), f x1 v_ones v_zeros = fX4_makeTrue_d x1 v_ones v_zeros := ⟨fX4_makeTrue_d, fun _ _ _ => rfl⟩
noncomputable def fX4_makeTrue : Int32 → Int32 → Int32 → (Int32 × Int32) := Classical.choose fX4_makeTrue_ex
theorem fX4_makeTrue_eq (x1 : Int32) (v_ones : Int32) (v_zeros : Int32) : fX4_makeTrue x1 v_ones v_zeros = fX4_makeTrue_d x1 v_ones v_zeros := Classical.choose_spec fX4_makeTrue_ex x1 v_ones v_zeros
set_option maxHeartbeats 1000000 in
set_option maxRecDepth 100000 in
theorem ctX4_makeTrue (l : Launch) (D : va_G) (cI cZ : ClassId) (h0 : Nat) (x1 : Int32) (v_ones v_zeros : Int32) : Met l yX4_makeTrue (gw yX4_makeTrue cX4_makeTrue 3 none) { frames := 1, cells := 0, slots := 0, locals := 20 } (wPc D cI cZ [.ref h0, .int x1] [(h0, .inr (4, [.int v_ones, .int v_zeros]))]) (wQ D none [(h0, .inr (4, [.int v_ones, .int v_zeros]))] [(h0, .inr (4, [.int ((fX4_makeTrue x1 v_ones v_zeros).1), .int ((fX4_makeTrue x1 v_ones v_zeros).2)]))]) 0 0 (aw [(h0, .inr (4, [.int v_ones, .int v_zeros]))]) := by
  refine wMet (by decide) (Nat.le_of_ble_eq_true rfl) ?_
  intro p e s m below meth c hx hb hr hlocks hml hown hts hP hK hN hD hS ls hl
  have hl : lv_has ls 3 [(0, .ref h0), (1, .int x1)] := hl
  have hF := (fX4_makeTrue_eq x1 v_ones v_zeros).trans (fX4_makeTrue_d.eq_1 x1 v_ones v_zeros)
  refine lv_iload_n hx hb dX4_makeTrue_0 rfl (lv_at hl 1 rfl) ?_
  have hPc : va_P D vwCl [] _ := hP.sub [] rfl
  refine rback (va_runSN (As := [.int x1]) (rest := []) ⟨hx, hb, hml, hown, hts⟩ (ctX5_variableOf l D cI cZ x1) ⟨(cN hts kw261 (hN _ kn28) kw52 pmX5_variableOf ⟨Nat.le_of_ble_eq_true rfl, Nat.le_of_ble_eq_true rfl⟩), hts _ kw260, trivial⟩ ⟨rPc_blind, rpre hPc hK hN⟩ rfl rfl hl.1 rfl (lv_room (Nat.le_of_ble_eq_true rfl)) dX4_makeTrue_1 ⟨Nat.zero_le _, Nat.zero_le _⟩) ?_
  have hPc : va_P D vwCl [] _ := hP.sub [] rfl
  refine rback (va_runSN (As := [.int (fX5_variableOf x1)]) (rest := []) ⟨hx, hb, hml, hown, hts⟩ (ctX5_bitOf l D cI cZ (fX5_variableOf x1)) ⟨(cN hts kw269 (hN _ kn29) kw52 pmX5_bitOf ⟨Nat.le_of_ble_eq_true rfl, Nat.le_of_ble_eq_true rfl⟩), hts _ kw268, trivial⟩ ⟨rPc_blind, rpre hPc hK hN⟩ rfl rfl hl.1 rfl (lv_room (Nat.le_of_ble_eq_true rfl)) dX4_makeTrue_4 ⟨Nat.zero_le _, Nat.zero_le _⟩) ?_
  refine lv_istore_n (lv' := [(2, .int (fX5_bitOf (fX5_variableOf x1))), (0, .ref h0), (1, .int x1)]) hx hb dX4_makeTrue_7 rfl hl (by decide) rfl (fun ls hl => ?_)
  refine lv_iload_n hx hb dX4_makeTrue_8 rfl (lv_at hl 2 rfl) ?_
  refine lv_if_le (tgt := 25) hx hb dX4_makeTrue_9 (by decide) (fun c_1 => ?_) (fun c_1 => ?_)
  · have hF := hF.trans (if_pos c_1)
    refine lv_aload_n hx hb dX4_makeTrue_25 rfl (lv_at hl 1 rfl) ?_
    refine lv_dup hx hb dX4_makeTrue_26 rfl ?_
    refine va_get (D := D) hx hb hts inX4 hown hK hP 0 rfl rfl 1 (by decide) (hts _ kw134) (fun _ h9 => h9) rfl dX4_makeTrue_27 ?_
    refine lv_iload_n hx hb dX4_makeTrue_30 rfl (lv_at hl 0 rfl) ?_
    refine lv_ior hx hb dX4_makeTrue_31 ?_
    refine va_put (D := D) (v := .int (v_zeros ||| (fX5_bitOf (fX5_variableOf x1)))) (ty := .int) hx hb hts inX4 tyX4 tyX4_ok nmX4 hown hK hP hD hS 0 rfl rfl 1 (by decide) (hts _ kw134) (fun _ h9 => h9) rfl (by decide +kernel) rfl rfl (Nat.le_of_ble_eq_true rfl) dX4_makeTrue_32 (fun H locs hP hD hS => ?_)
    have hP : va_P D vwCl [(h0, .inr (4, [.int v_ones, .int (v_zeros ||| (fX5_bitOf (fX5_variableOf x1)))]))] H := hP
    have hD : va_D _ [(h0, .inr (4, [.int v_ones, .int (v_zeros ||| (fX5_bitOf (fX5_variableOf x1)))]))] := hD
    exact wretv hx hb hr hlocks (by rw [hF]; exact hP) hS dX4_makeTrue_35
  · have hF := hF.trans (if_neg c_1)
    refine lv_aload_n hx hb dX4_makeTrue_12 rfl (lv_at hl 1 rfl) ?_
    refine lv_dup hx hb dX4_makeTrue_13 rfl ?_
    refine va_get (D := D) hx hb hts inX4 hown hK hP 0 rfl rfl 0 (by decide) (hts _ kw130) (fun _ h9 => h9) rfl dX4_makeTrue_14 ?_
    refine lv_iload_n hx hb dX4_makeTrue_17 rfl (lv_at hl 0 rfl) ?_
    refine lv_ior hx hb dX4_makeTrue_18 ?_
    refine va_put (D := D) (v := .int (v_ones ||| (fX5_bitOf (fX5_variableOf x1)))) (ty := .int) hx hb hts inX4 tyX4 tyX4_ok nmX4 hown hK hP hD hS 0 rfl rfl 0 (by decide) (hts _ kw130) (fun _ h9 => h9) rfl (by decide +kernel) rfl rfl (Nat.le_of_ble_eq_true rfl) dX4_makeTrue_19 (fun H locs hP hD hS => ?_)
    have hP : va_P D vwCl [(h0, .inr (4, [.int (v_ones ||| (fX5_bitOf (fX5_variableOf x1))), .int v_zeros]))] H := hP
    have hD : va_D _ [(h0, .inr (4, [.int (v_ones ||| (fX5_bitOf (fX5_variableOf x1))), .int v_zeros]))] := hD
    refine lv_goto (tgt := 35) hx hb dX4_makeTrue_22 (by decide) ?_
    exact wretv hx hb hr hlocks (by rw [hF]; exact hP) hS dX4_makeTrue_35

-- LeastCost$Setting.leastNotSet
theorem pmX4_leastNotSet : mFit yX4_leastNotSet 0 := ⟨by decide +kernel, by decide +kernel, by decide +kernel⟩
noncomputable def fX4_leastNotSet_L12 (v_ones : Int32) (v_zeros : Int32) : Nat → Int32 → Int32 → Int32
  | 0, l1, l2 => 0
  | n + 1, l1, l2 => (if 16 < l2 then 0 else (if (l1 &&& (fX5_bitOf l2)) = 0 then l2 else fX4_leastNotSet_L12 v_ones v_zeros n l1 (l2 + 1)))
noncomputable def fX4_leastNotSet_d (v_ones : Int32) (v_zeros : Int32) : Int32 :=
  fX4_leastNotSet_L12 v_ones v_zeros 17 (v_ones ||| v_zeros) 1
theorem fX4_leastNotSet_ex : ∃ f : Int32 → Int32 → Int32, ∀ (v_ones : Int32) (v_zeros : Int32), f v_ones v_zeros = fX4_leastNotSet_d v_ones v_zeros := ⟨fX4_leastNotSet_d, fun _ _ => rfl⟩
noncomputable def fX4_leastNotSet : Int32 → Int32 → Int32 := Classical.choose fX4_leastNotSet_ex
theorem fX4_leastNotSet_eq (v_ones : Int32) (v_zeros : Int32) : fX4_leastNotSet v_ones v_zeros = fX4_leastNotSet_d v_ones v_zeros := Classical.choose_spec fX4_leastNotSet_ex v_ones v_zeros
set_option maxHeartbeats 1000000 in
set_option maxRecDepth 100000 in
theorem ctX4_leastNotSet (l : Launch) (D : va_G) (cI cZ : ClassId) (h0 : Nat) (v_ones v_zeros : Int32) : Met l yX4_leastNotSet (gw yX4_leastNotSet cX4_leastNotSet 3 (some .int)) { frames := 1, cells := 0, slots := 0, locals := 20 } (rPc D cI cZ [.ref h0] [(h0, .inr (4, [.int v_ones, .int v_zeros]))]) (rQ (fX4_leastNotSet v_ones v_zeros)) 0 0 (fun _ => False) := by
  refine rMet (by decide) (Nat.le_of_ble_eq_true rfl) ?_
  intro p e s m below meth c hx hb hr hlocks hml hown hts hP hK hN ls hl
  have hl : lv_has ls 3 [(0, .ref h0)] := hl
  have hF := (fX4_leastNotSet_eq v_ones v_zeros).trans (fX4_leastNotSet_d.eq_1 v_ones v_zeros)
  refine lv_aload_n hx hb dX4_leastNotSet_0 rfl (lv_at hl 0 rfl) ?_
  refine va_get (D := D) hx hb hts inX4 hown hK hP 0 rfl rfl 0 (by decide) (hts _ kw130) (fun _ h9 => h9) rfl dX4_leastNotSet_1 ?_
  refine lv_aload_n hx hb dX4_leastNotSet_4 rfl (lv_at hl 0 rfl) ?_
  refine va_get (D := D) hx hb hts inX4 hown hK hP 0 rfl rfl 1 (by decide) (hts _ kw134) (fun _ h9 => h9) rfl dX4_leastNotSet_5 ?_
  refine lv_ior hx hb dX4_leastNotSet_8 ?_
  refine lv_istore_n (lv' := [(1, .int (v_ones ||| v_zeros)), (0, .ref h0)]) hx hb dX4_leastNotSet_9 rfl hl (by decide) rfl (fun ls hl => ?_)
  refine lv_iconst (v := 1) hx hb dX4_leastNotSet_10 (by decide) ?_
  refine lv_istore_n (lv' := [(2, .int 1), (1, .int (v_ones ||| v_zeros)), (0, .ref h0)]) hx hb dX4_leastNotSet_11 rfl hl (by decide) rfl (fun ls hl => ?_)
  have loop : ∀ (n : Nat) (k : Nat) (l1 : Int32) (l2 : Int32) , l2 = nI k ∧ 1 ≤ k ∧ k ≤ 17 ∧ 17 < k + n → fX4_leastNotSet v_ones v_zeros = fX4_leastNotSet_L12 v_ones v_zeros n l1 l2 → ∀ ls : Array Slot, lv_has ls 3 [(1, .int l1), (2, .int l2), (0, .ref h0)] → W p l e { frames := 1, cells := 0, slots := 0, locals := 20 } s m [.ref h0].toArray below meth c s.heap [] 0 0 (MQ below (rQ (fX4_leastNotSet v_ones v_zeros)) [.ref h0].toArray s 0 0 (fun _ => False)) (F0 m 12 ls []) := by
    intro n
    induction n with
    | zero =>
      intro k l1 l2 hk hF
      exact (by obtain ⟨_, _, h2, h3⟩ := hk; exact absurd h3 (by omega))
    | succ n ih =>
      intro k l1 l2 hk hF ls hl
      have hF := hF.trans (fX4_leastNotSet_L12.eq_2 ..)
      obtain ⟨ek, hk1, hk2, hk3⟩ := hk
      refine lv_iload_n hx hb dX4_leastNotSet_12 rfl (lv_at hl 1 rfl) ?_
      refine lv_bipush (v := 16) hx hb dX4_leastNotSet_13 (by decide) ?_
      refine lv_icmp_gt (tgt := 35) hx hb dX4_leastNotSet_15 (by decide) (fun c_1 => ?_) (fun c_1 => ?_)
      · have hF := hF.trans (if_pos c_1)
        refine lv_iconst (v := 0) hx hb dX4_leastNotSet_35 (by decide) ?_
        exact rreti hx hb hr hlocks hF.symm dX4_leastNotSet_36
      · have hF := hF.trans (if_neg c_1)
        refine lv_iload_n hx hb dX4_leastNotSet_18 rfl (lv_at hl 0 rfl) ?_
        refine lv_iload_n hx hb dX4_leastNotSet_19 rfl (lv_at hl 1 rfl) ?_
        have hPc : va_P D vwCl [] _ := hP.sub [] rfl
        refine rback (va_runSN (As := [.int l2]) (rest := [.int l1]) ⟨hx, hb, hml, hown, hts⟩ (ctX5_bitOf l D cI cZ l2) ⟨(cN hts kw269 (hN _ kn29) kw52 pmX5_bitOf ⟨Nat.le_of_ble_eq_true rfl, Nat.le_of_ble_eq_true rfl⟩), hts _ kw268, trivial⟩ ⟨rPc_blind, rpre hPc hK hN⟩ rfl rfl hl.1 rfl (lv_room (Nat.le_of_ble_eq_true rfl)) dX4_leastNotSet_20 ⟨Nat.zero_le _, Nat.zero_le _⟩) ?_
        refine lv_iand hx hb dX4_leastNotSet_23 ?_
        refine lv_if_ne (tgt := 29) hx hb dX4_leastNotSet_24 (by decide) (fun c_2 => ?_) (fun c_2 => ?_)
        · have hF := hF.trans (if_neg c_2)
          refine lv_iinc (v := l2 + 1) (lv' := [(2, .int (l2 + 1)), (1, .int l1), (0, .ref h0)]) hx hb dX4_leastNotSet_29 hl (k := 1) rfl rfl (by decide) rfl (fun ls hl => ?_)
          refine lv_goto (tgt := 12) hx hb dX4_leastNotSet_32 (by decide) ?_
          exact ih (k + 1) l1 (l2 + 1) ⟨k_s ek, by omega, by have := k_16 ek hk2 c_1; omega, by omega⟩ hF ls (lv_sub hl [1, 0, 2] rfl)
        · have hF := hF.trans (if_pos c_2)
          refine lv_iload_n hx hb dX4_leastNotSet_27 rfl (lv_at hl 1 rfl) ?_
          exact rreti hx hb hr hlocks hF.symm dX4_leastNotSet_28
  exact loop 17 1 (v_ones ||| v_zeros) 1 ⟨rfl, by omega, by omega, by omega⟩ hF ls (lv_sub hl [1, 0, 2] rfl)
end
section
-- LeastCost$Problem.costOf
theorem pmX2_costOf : mFit yX2_costOf 1 := ⟨by decide +kernel, by decide +kernel, by decide +kernel⟩
noncomputable def fX2_costOf_L4 (x1 : Int32) (v_costs : Nat → Int32) : Nat → Int32 → Int32 → Int32
  | 0, l2, l3 => 0
  | n + 1, l2, l3 => (if 16 < l3 then l2 else fX2_costOf_L4 x1 v_costs n (l2 + (((x1 >>> ((l3 - 1) &&& 31)) &&& 1) * (v_costs l3.toNatClampNeg))) (l3 + 1))
noncomputable def fX2_costOf_d (x1 : Int32) (v_costs : Nat → Int32) : Int32 :=
  fX2_costOf_L4 x1 v_costs 17 0 1
theorem fX2_costOf_ex : ∃ f : Int32 → (Nat → Int32) → Int32, ∀ (x1 : Int32) (v_costs : Nat → Int32), f x1 v_costs = fX2_costOf_d x1 v_costs := ⟨fX2_costOf_d, fun _ _ => rfl⟩
noncomputable def fX2_costOf : Int32 → (Nat → Int32) → Int32 := Classical.choose fX2_costOf_ex
theorem fX2_costOf_eq (x1 : Int32) (v_costs : Nat → Int32) : fX2_costOf x1 v_costs = fX2_costOf_d x1 v_costs := Classical.choose_spec fX2_costOf_ex x1 v_costs
set_option maxHeartbeats 1000000 in
set_option maxRecDepth 100000 in
theorem ctX2_costOf (l : Launch) (D : va_G) (cI cZ : ClassId) (h0 h0_costs h0_coefficients h0_literals h0_bits h0_firsts h0_bounds : Nat) (x1 : Int32) (v_terms v_constraints v_taken : Int32) (v_costs : Nat → Int32) : Met l yX2_costOf (gw yX2_costOf cX2_costOf 4 (some .int)) { frames := 0, cells := 0, slots := 0, locals := 0 } (rPc D cI cZ [.ref h0, .int x1] [(h0, .inr (2, [.ref h0_costs, .ref h0_coefficients, .ref h0_literals, .ref h0_bits, .ref h0_firsts, .ref h0_bounds, .int v_terms, .int v_constraints, .int v_taken])), (h0_costs, .inl (cI, 17, .inl v_costs))]) (rQ (fX2_costOf x1 v_costs)) 0 0 (fun _ => False) := by
  refine rMet (by decide) (Nat.le_of_ble_eq_true rfl) ?_
  intro p e s m below meth c hx hb hr hlocks hml hown hts hP hK hN ls hl
  have hl : lv_has ls 4 [(0, .ref h0), (1, .int x1)] := hl
  have hF := (fX2_costOf_eq x1 v_costs).trans (fX2_costOf_d.eq_1 x1 v_costs)
  refine lv_iconst (v := 0) hx hb dX2_costOf_0 (by decide) ?_
  refine lv_istore_n (lv' := [(2, .int 0), (0, .ref h0), (1, .int x1)]) hx hb dX2_costOf_1 rfl hl (by decide) rfl (fun ls hl => ?_)
  refine lv_iconst (v := 1) hx hb dX2_costOf_2 (by decide) ?_
  refine lv_istore_n (lv' := [(3, .int 1), (2, .int 0), (0, .ref h0), (1, .int x1)]) hx hb dX2_costOf_3 rfl hl (by decide) rfl (fun ls hl => ?_)
  have loop : ∀ (n : Nat) (k : Nat) (l2 : Int32) (l3 : Int32) , l3 = nI k ∧ 1 ≤ k ∧ k ≤ 17 ∧ 17 < k + n → fX2_costOf x1 v_costs = fX2_costOf_L4 x1 v_costs n l2 l3 → ∀ ls : Array Slot, lv_has ls 4 [(2, .int l2), (3, .int l3), (0, .ref h0), (1, .int x1)] → W p l e { frames := 0, cells := 0, slots := 0, locals := 0 } s m [.ref h0, .int x1].toArray below meth c s.heap [] 0 0 (MQ below (rQ (fX2_costOf x1 v_costs)) [.ref h0, .int x1].toArray s 0 0 (fun _ => False)) (F0 m 4 ls []) := by
    intro n
    induction n with
    | zero =>
      intro k l2 l3 hk hF
      exact (by obtain ⟨_, _, h2, h3⟩ := hk; exact absurd h3 (by omega))
    | succ n ih =>
      intro k l2 l3 hk hF ls hl
      have hF := hF.trans (fX2_costOf_L4.eq_2 ..)
      obtain ⟨ek, hk1, hk2, hk3⟩ := hk
      refine lv_iload_n hx hb dX2_costOf_4 rfl (lv_at hl 1 rfl) ?_
      refine lv_bipush (v := 16) hx hb dX2_costOf_5 (by decide) ?_
      refine lv_icmp_gt (tgt := 33) hx hb dX2_costOf_7 (by decide) (fun c_1 => ?_) (fun c_1 => ?_)
      · have hF := hF.trans (if_pos c_1)
        refine lv_iload_n hx hb dX2_costOf_33 rfl (lv_at hl 0 rfl) ?_
        exact rreti hx hb hr hlocks hF.symm dX2_costOf_34
      · have hF := hF.trans (if_neg c_1)
        refine lv_iload_n hx hb dX2_costOf_10 rfl (lv_at hl 0 rfl) ?_
        refine lv_iload_n hx hb dX2_costOf_11 rfl (lv_at hl 3 rfl) ?_
        refine lv_iload_n hx hb dX2_costOf_12 rfl (lv_at hl 1 rfl) ?_
        refine lv_iconst (v := 1) hx hb dX2_costOf_13 (by decide) ?_
        refine lv_isub hx hb dX2_costOf_14 ?_
        refine lv_ishr hx hb dX2_costOf_15 ?_
        refine lv_iconst (v := 1) hx hb dX2_costOf_16 (by decide) ?_
        refine lv_iand hx hb dX2_costOf_17 ?_
        refine lv_aload_n hx hb dX2_costOf_18 rfl (lv_at hl 2 rfl) ?_
        refine va_get (D := D) hx hb hts inX2 hown hK hP 0 rfl rfl 0 (by decide) (hts _ kw73) (fun _ h9 => h9) rfl dX2_costOf_19 ?_
        refine lv_iload_n hx hb dX2_costOf_22 rfl (lv_at hl 1 rfl) ?_
        refine va_iald hx hb hK hP 1 0 rfl rfl (k_in ek (by have := k_16 ek hk2 c_1; omega) (by decide)) dX2_costOf_23 ?_
        refine lv_imul hx hb dX2_costOf_24 ?_
        refine lv_iadd hx hb dX2_costOf_25 ?_
        refine lv_istore_n (lv' := [(2, .int (l2 + (((x1 >>> ((l3 - 1) &&& 31)) &&& 1) * (v_costs l3.toNatClampNeg)))), (3, .int l3), (0, .ref h0), (1, .int x1)]) hx hb dX2_costOf_26 rfl hl (by decide) rfl (fun ls hl => ?_)
        refine lv_iinc (v := l3 + 1) (lv' := [(3, .int (l3 + 1)), (2, .int (l2 + (((x1 >>> ((l3 - 1) &&& 31)) &&& 1) * (v_costs l3.toNatClampNeg)))), (0, .ref h0), (1, .int x1)]) hx hb dX2_costOf_27 hl (k := 1) rfl rfl (by decide) rfl (fun ls hl => ?_)
        refine lv_goto (tgt := 4) hx hb dX2_costOf_30 (by decide) ?_
        exact ih (k + 1) (l2 + (((x1 >>> ((l3 - 1) &&& 31)) &&& 1) * (v_costs l3.toNatClampNeg))) (l3 + 1) ⟨k_s ek, by omega, by have := k_16 ek hk2 c_1; omega, by omega⟩ hF ls (lv_sub hl [1, 0, 2, 3] rfl)
  exact loop 17 1 0 1 ⟨rfl, by omega, by omega, by omega⟩ hF ls (lv_sub hl [1, 0, 2, 3] rfl)

-- LeastCost$Problem.slackOf
theorem pmX2_slackOf : mFit yX2_slackOf 2 := ⟨by decide +kernel, by decide +kernel, by decide +kernel⟩
noncomputable def fX2_slackOf_L10 (x1 : Int32) (v_coefficients : Nat → Int32) (v_literals : Nat → Int32) (v_bits : Nat → Int32) (v_firsts : Nat → Int32) (v_bounds : Nat → Int32) (v2_ones : Int32) (v2_zeros : Int32) : Nat → Int32 → Int32 → Int32
  | 0, l3, l4 => 0
  | n + 1, l3, l4 => (if (v_firsts (x1 + 1).toNatClampNeg) ≤ l4 then l3 - (v_bounds x1.toNatClampNeg) else (if (v_literals l4.toNatClampNeg) ≤ 0 then (if (v2_ones &&& (v_bits l4.toNatClampNeg)) = 0 then fX2_slackOf_L10 x1 v_coefficients v_literals v_bits v_firsts v_bounds v2_ones v2_zeros n (l3 + (v_coefficients l4.toNatClampNeg)) (l4 + 1) else fX2_slackOf_L10 x1 v_coefficients v_literals v_bits v_firsts v_bounds v2_ones v2_zeros n l3 (l4 + 1)) else (if (v2_zeros &&& (v_bits l4.toNatClampNeg)) = 0 then fX2_slackOf_L10 x1 v_coefficients v_literals v_bits v_firsts v_bounds v2_ones v2_zeros n (l3 + (v_coefficients l4.toNatClampNeg)) (l4 + 1) else fX2_slackOf_L10 x1 v_coefficients v_literals v_bits v_firsts v_bounds v2_ones v2_zeros n l3 (l4 + 1))))
noncomputable def fX2_slackOf_d (x1 : Int32) (v_coefficients : Nat → Int32) (v_literals : Nat → Int32) (v_bits : Nat → Int32) (v_firsts : Nat → Int32) (v_bounds : Nat → Int32) (v2_ones : Int32) (v2_zeros : Int32) : Int32 :=
  fX2_slackOf_L10 x1 v_coefficients v_literals v_bits v_firsts v_bounds v2_ones v2_zeros 121 0 (v_firsts x1.toNatClampNeg)
theorem fX2_slackOf_ex : ∃ f : Int32 → (Nat → Int32) → (Nat → Int32) → (Nat → Int32) → (Nat → Int32) → (Nat → Int32) → Int32 → Int32 → Int32, ∀ (x1 : Int32) (v_coefficients : Nat → Int32) (v_literals : Nat → Int32) (v_bits : Nat → Int32) (v_firsts : Nat → Int32) (v_bounds : Nat → Int32) (v2_ones : Int32) (v2_zeros : Int32), f x1 v_coefficients v_literals v_bits v_firsts v_bounds v2_ones v2_zeros = fX2_slackOf_d x1 v_coefficients v_literals v_bits v_firsts v_bounds v2_ones v2_zeros := ⟨fX2_slackOf_d, fun _ _ _ _ _ _ _ _ => rfl⟩
noncomputable def fX2_slackOf : Int32 → (Nat → Int32) → (Nat → Int32) → (Nat → Int32) → (Nat → Int32) → (Nat → Int32) → Int32 → Int32 → Int32 := Classical.choose fX2_slackOf_ex
theorem fX2_slackOf_eq (x1 : Int32) (v_coefficients : Nat → Int32) (v_literals : Nat → Int32) (v_bits : Nat → Int32) (v_firsts : Nat → Int32) (v_bounds : Nat → Int32) (v2_ones : Int32) (v2_zeros : Int32) : fX2_slackOf x1 v_coefficients v_literals v_bits v_firsts v_bounds v2_ones v2_zeros = fX2_slackOf_d x1 v_coefficients v_literals v_bits v_firsts v_bounds v2_ones v2_zeros := Classical.choose_spec fX2_slackOf_ex x1 v_coefficients v_literals v_bits v_firsts v_bounds v2_ones v2_zeros
set_option maxHeartbeats 1000000 in
set_option maxRecDepth 100000 in
theorem ctX2_slackOf (l : Launch) (D : va_G) (cI cZ : ClassId) (h0 h0_costs h0_coefficients h0_literals h0_bits h0_firsts h0_bounds h2 : Nat) (x1 : Int32) (v_terms v_constraints v_taken v2_ones v2_zeros : Int32) (v_coefficients v_literals v_bits v_firsts v_bounds : Nat → Int32) (hC : okC v_firsts x1) : Met l yX2_slackOf (gw yX2_slackOf cX2_slackOf 6 (some .int)) { frames := 0, cells := 0, slots := 0, locals := 0 } (rPc D cI cZ [.ref h0, .int x1, .ref h2] [(h0, .inr (2, [.ref h0_costs, .ref h0_coefficients, .ref h0_literals, .ref h0_bits, .ref h0_firsts, .ref h0_bounds, .int v_terms, .int v_constraints, .int v_taken])), (h0_coefficients, .inl (cI, 120, .inl v_coefficients)), (h0_literals, .inl (cI, 120, .inl v_literals)), (h0_bits, .inl (cI, 120, .inl v_bits)), (h0_firsts, .inl (cI, 21, .inl v_firsts)), (h0_bounds, .inl (cI, 20, .inl v_bounds)), (h2, .inr (4, [.int v2_ones, .int v2_zeros]))]) (rQ (fX2_slackOf x1 v_coefficients v_literals v_bits v_firsts v_bounds v2_ones v2_zeros)) 0 0 (fun _ => False) := by
  refine rMet (by decide) (Nat.le_of_ble_eq_true rfl) ?_
  intro p e s m below meth c hx hb hr hlocks hml hown hts hP hK hN ls hl
  have hl : lv_has ls 6 [(0, .ref h0), (1, .int x1), (2, .ref h2)] := hl
  have hF := (fX2_slackOf_eq x1 v_coefficients v_literals v_bits v_firsts v_bounds v2_ones v2_zeros).trans (fX2_slackOf_d.eq_1 x1 v_coefficients v_literals v_bits v_firsts v_bounds v2_ones v2_zeros)
  obtain ⟨a, b, ea, eb, hab, hb120, i20, i21, i21s⟩ := hC
  refine lv_iconst (v := 0) hx hb dX2_slackOf_0 (by decide) ?_
  refine lv_istore_n (lv' := [(3, .int 0), (0, .ref h0), (1, .int x1), (2, .ref h2)]) hx hb dX2_slackOf_1 rfl hl (by decide) rfl (fun ls hl => ?_)
  refine lv_aload_n hx hb dX2_slackOf_2 rfl (lv_at hl 1 rfl) ?_
  refine va_get (D := D) hx hb hts inX2 hown hK hP 0 rfl rfl 4 (by decide) (hts _ kw78) (fun _ h9 => h9) rfl dX2_slackOf_3 ?_
  refine lv_iload_n hx hb dX2_slackOf_6 rfl (lv_at hl 2 rfl) ?_
  refine va_iald hx hb hK hP 4 0 rfl rfl i21 dX2_slackOf_7 ?_
  refine lv_istore (lv' := [(4, .int (v_firsts x1.toNatClampNeg)), (3, .int 0), (0, .ref h0), (1, .int x1), (2, .ref h2)]) hx hb dX2_slackOf_8 hl (by decide) rfl (fun ls hl => ?_)
  have loop : ∀ (n : Nat) (k : Nat) (l3 : Int32) (l4 : Int32) , l4 = nI k ∧ k ≤ 120 ∧ 120 < k + n → fX2_slackOf x1 v_coefficients v_literals v_bits v_firsts v_bounds v2_ones v2_zeros = fX2_slackOf_L10 x1 v_coefficients v_literals v_bits v_firsts v_bounds v2_ones v2_zeros n l3 l4 → ∀ ls : Array Slot, lv_has ls 6 [(3, .int l3), (4, .int l4), (0, .ref h0), (1, .int x1), (2, .ref h2)] → W p l e { frames := 0, cells := 0, slots := 0, locals := 0 } s m [.ref h0, .int x1, .ref h2].toArray below meth c s.heap [] 0 0 (MQ below (rQ (fX2_slackOf x1 v_coefficients v_literals v_bits v_firsts v_bounds v2_ones v2_zeros)) [.ref h0, .int x1, .ref h2].toArray s 0 0 (fun _ => False)) (F0 m 10 ls []) := by
    intro n
    induction n with
    | zero =>
      intro k l3 l4 hk hF
      exact (by obtain ⟨_, h2, h3⟩ := hk; exact absurd h3 (by omega))
    | succ n ih =>
      intro k l3 l4 hk hF ls hl
      have hF := hF.trans (fX2_slackOf_L10.eq_2 ..)
      obtain ⟨ek, hk1, hk2⟩ := hk
      refine lv_iload hx hb dX2_slackOf_10 (lv_at hl 1 rfl) ?_
      refine lv_aload_n hx hb dX2_slackOf_12 rfl (lv_at hl 2 rfl) ?_
      refine va_get (D := D) hx hb hts inX2 hown hK hP 0 rfl rfl 4 (by decide) (hts _ kw78) (fun _ h9 => h9) rfl dX2_slackOf_13 ?_
      refine lv_iload_n hx hb dX2_slackOf_16 rfl (lv_at hl 3 rfl) ?_
      refine lv_iconst (v := 1) hx hb dX2_slackOf_17 (by decide) ?_
      refine lv_iadd hx hb dX2_slackOf_18 ?_
      refine va_iald hx hb hK hP 4 0 rfl rfl i21s dX2_slackOf_19 ?_
      refine lv_icmp_ge (tgt := 75) hx hb dX2_slackOf_20 (by decide) (fun c_1 => ?_) (fun c_1 => ?_)
      · have hF := hF.trans (if_pos c_1)
        refine lv_iload_n hx hb dX2_slackOf_75 rfl (lv_at hl 0 rfl) ?_
        refine lv_aload_n hx hb dX2_slackOf_76 rfl (lv_at hl 2 rfl) ?_
        refine va_get (D := D) hx hb hts inX2 hown hK hP 0 rfl rfl 5 (by decide) (hts _ kw79) (fun _ h9 => h9) rfl dX2_slackOf_77 ?_
        refine lv_iload_n hx hb dX2_slackOf_80 rfl (lv_at hl 3 rfl) ?_
        refine va_iald hx hb hK hP 5 0 rfl rfl i20 dX2_slackOf_81 ?_
        refine lv_isub hx hb dX2_slackOf_82 ?_
        exact rreti hx hb hr hlocks hF.symm dX2_slackOf_83
      · have hF := hF.trans (if_neg c_1)
        refine lv_aload_n hx hb dX2_slackOf_23 rfl (lv_at hl 2 rfl) ?_
        refine va_get (D := D) hx hb hts inX2 hown hK hP 0 rfl rfl 2 (by decide) (hts _ kw76) (fun _ h9 => h9) rfl dX2_slackOf_24 ?_
        refine lv_iload hx hb dX2_slackOf_27 (lv_at hl 1 rfl) ?_
        refine va_iald hx hb hK hP 2 0 rfl rfl (k_in ek (by have := okC_lt ek eb hk1 c_1; omega) (by decide)) dX2_slackOf_29 ?_
        refine lv_if_le (tgt := 40) hx hb dX2_slackOf_30 (by decide) (fun c_2 => ?_) (fun c_2 => ?_)
        · have hF := hF.trans (if_pos c_2)
          refine lv_aload_n hx hb dX2_slackOf_40 rfl (lv_at hl 4 rfl) ?_
          refine va_getN (D := D) hx hb hts inX4 hown hK hP 6 rfl rfl 0 (by decide) (va_Nw.use (nwl_tab _ kn7) (hN _ kn7)) (fun _ h9 => h9) rfl dX2_slackOf_41 ?_
          refine lv_istore (lv' := [(5, .int v2_ones), (3, .int l3), (4, .int l4), (0, .ref h0), (1, .int x1), (2, .ref h2)]) hx hb dX2_slackOf_44 hl (by decide) rfl (fun ls hl => ?_)
          refine lv_iload hx hb dX2_slackOf_46 (lv_at hl 0 rfl) ?_
          refine lv_aload_n hx hb dX2_slackOf_48 rfl (lv_at hl 3 rfl) ?_
          refine va_get (D := D) hx hb hts inX2 hown hK hP 0 rfl rfl 3 (by decide) (hts _ kw77) (fun _ h9 => h9) rfl dX2_slackOf_49 ?_
          refine lv_iload hx hb dX2_slackOf_52 (lv_at hl 2 rfl) ?_
          refine va_iald hx hb hK hP 3 0 rfl rfl (k_in ek (by have := okC_lt ek eb hk1 c_1; omega) (by decide)) dX2_slackOf_54 ?_
          refine lv_iand hx hb dX2_slackOf_55 ?_
          refine lv_if_ne (tgt := 69) hx hb dX2_slackOf_56 (by decide) (fun c_3 => ?_) (fun c_3 => ?_)
          · have hF := hF.trans (if_neg c_3)
            refine lv_iinc (v := l4 + 1) (lv' := [(4, .int (l4 + 1)), (5, .int v2_ones), (3, .int l3), (0, .ref h0), (1, .int x1), (2, .ref h2)]) hx hb dX2_slackOf_69 hl (k := 2) rfl rfl (by decide) rfl (fun ls hl => ?_)
            refine lv_goto (tgt := 10) hx hb dX2_slackOf_72 (by decide) ?_
            exact ih (k + 1) l3 (l4 + 1) ⟨k_s ek, by have := okC_lt ek eb hk1 c_1; omega, by omega⟩ hF ls (lv_sub hl [2, 0, 3, 4, 5] rfl)
          · have hF := hF.trans (if_pos c_3)
            refine lv_iload_n hx hb dX2_slackOf_59 rfl (lv_at hl 1 rfl) ?_
            refine lv_aload_n hx hb dX2_slackOf_60 rfl (lv_at hl 3 rfl) ?_
            refine va_get (D := D) hx hb hts inX2 hown hK hP 0 rfl rfl 1 (by decide) (hts _ kw75) (fun _ h9 => h9) rfl dX2_slackOf_61 ?_
            refine lv_iload hx hb dX2_slackOf_64 (lv_at hl 2 rfl) ?_
            refine va_iald hx hb hK hP 1 0 rfl rfl (k_in ek (by have := okC_lt ek eb hk1 c_1; omega) (by decide)) dX2_slackOf_66 ?_
            refine lv_iadd hx hb dX2_slackOf_67 ?_
            refine lv_istore_n (lv' := [(3, .int (l3 + (v_coefficients l4.toNatClampNeg))), (5, .int v2_ones), (4, .int l4), (0, .ref h0), (1, .int x1), (2, .ref h2)]) hx hb dX2_slackOf_68 rfl hl (by decide) rfl (fun ls hl => ?_)
            refine lv_iinc (v := l4 + 1) (lv' := [(4, .int (l4 + 1)), (3, .int (l3 + (v_coefficients l4.toNatClampNeg))), (5, .int v2_ones), (0, .ref h0), (1, .int x1), (2, .ref h2)]) hx hb dX2_slackOf_69 hl (k := 2) rfl rfl (by decide) rfl (fun ls hl => ?_)
            refine lv_goto (tgt := 10) hx hb dX2_slackOf_72 (by decide) ?_
            exact ih (k + 1) (l3 + (v_coefficients l4.toNatClampNeg)) (l4 + 1) ⟨k_s ek, by have := okC_lt ek eb hk1 c_1; omega, by omega⟩ hF ls (lv_sub hl [1, 0, 3, 4, 5] rfl)
        · have hF := hF.trans (if_neg c_2)
          refine lv_aload_n hx hb dX2_slackOf_33 rfl (lv_at hl 4 rfl) ?_
          refine va_getN (D := D) hx hb hts inX4 hown hK hP 6 rfl rfl 1 (by decide) (va_Nw.use (nwl_tab _ kn10) (hN _ kn10)) (fun _ h9 => h9) rfl dX2_slackOf_34 ?_
          refine lv_goto (tgt := 44) hx hb dX2_slackOf_37 (by decide) ?_
          refine lv_istore (lv' := [(5, .int v2_zeros), (3, .int l3), (4, .int l4), (0, .ref h0), (1, .int x1), (2, .ref h2)]) hx hb dX2_slackOf_44 hl (by decide) rfl (fun ls hl => ?_)
          refine lv_iload hx hb dX2_slackOf_46 (lv_at hl 0 rfl) ?_
          refine lv_aload_n hx hb dX2_slackOf_48 rfl (lv_at hl 3 rfl) ?_
          refine va_get (D := D) hx hb hts inX2 hown hK hP 0 rfl rfl 3 (by decide) (hts _ kw77) (fun _ h9 => h9) rfl dX2_slackOf_49 ?_
          refine lv_iload hx hb dX2_slackOf_52 (lv_at hl 2 rfl) ?_
          refine va_iald hx hb hK hP 3 0 rfl rfl (k_in ek (by have := okC_lt ek eb hk1 c_1; omega) (by decide)) dX2_slackOf_54 ?_
          refine lv_iand hx hb dX2_slackOf_55 ?_
          refine lv_if_ne (tgt := 69) hx hb dX2_slackOf_56 (by decide) (fun c_4 => ?_) (fun c_4 => ?_)
          · have hF := hF.trans (if_neg c_4)
            refine lv_iinc (v := l4 + 1) (lv' := [(4, .int (l4 + 1)), (5, .int v2_zeros), (3, .int l3), (0, .ref h0), (1, .int x1), (2, .ref h2)]) hx hb dX2_slackOf_69 hl (k := 2) rfl rfl (by decide) rfl (fun ls hl => ?_)
            refine lv_goto (tgt := 10) hx hb dX2_slackOf_72 (by decide) ?_
            exact ih (k + 1) l3 (l4 + 1) ⟨k_s ek, by have := okC_lt ek eb hk1 c_1; omega, by omega⟩ hF ls (lv_sub hl [2, 0, 3, 4, 5] rfl)
          · have hF := hF.trans (if_pos c_4)
            refine lv_iload_n hx hb dX2_slackOf_59 rfl (lv_at hl 1 rfl) ?_
            refine lv_aload_n hx hb dX2_slackOf_60 rfl (lv_at hl 3 rfl) ?_
            refine va_get (D := D) hx hb hts inX2 hown hK hP 0 rfl rfl 1 (by decide) (hts _ kw75) (fun _ h9 => h9) rfl dX2_slackOf_61 ?_
            refine lv_iload hx hb dX2_slackOf_64 (lv_at hl 2 rfl) ?_
            refine va_iald hx hb hK hP 1 0 rfl rfl (k_in ek (by have := okC_lt ek eb hk1 c_1; omega) (by decide)) dX2_slackOf_66 ?_
            refine lv_iadd hx hb dX2_slackOf_67 ?_
            refine lv_istore_n (lv' := [(3, .int (l3 + (v_coefficients l4.toNatClampNeg))), (5, .int v2_zeros), (4, .int l4), (0, .ref h0), (1, .int x1), (2, .ref h2)]) hx hb dX2_slackOf_68 rfl hl (by decide) rfl (fun ls hl => ?_)
            refine lv_iinc (v := l4 + 1) (lv' := [(4, .int (l4 + 1)), (3, .int (l3 + (v_coefficients l4.toNatClampNeg))), (5, .int v2_zeros), (0, .ref h0), (1, .int x1), (2, .ref h2)]) hx hb dX2_slackOf_69 hl (k := 2) rfl rfl (by decide) rfl (fun ls hl => ?_)
            refine lv_goto (tgt := 10) hx hb dX2_slackOf_72 (by decide) ?_
            exact ih (k + 1) (l3 + (v_coefficients l4.toNatClampNeg)) (l4 + 1) ⟨k_s ek, by have := okC_lt ek eb hk1 c_1; omega, by omega⟩ hF ls (lv_sub hl [1, 0, 3, 4, 5] rfl)
  exact loop 121 a 0 (v_firsts x1.toNatClampNeg) ⟨ea, by omega, by omega⟩ hF ls (lv_sub hl [1, 0, 2, 3, 4] rfl)

-- LeastCost$Problem.limitSlack
theorem pmX2_limitSlack : mFit yX2_limitSlack 2 := ⟨by decide +kernel, by decide +kernel, by decide +kernel⟩
noncomputable def fX2_limitSlack_d (x2 : Int32) (v_costs : Nat → Int32) (v1_ones : Int32) : Int32 :=
  x2 - (fX2_costOf v1_ones v_costs)
theorem fX2_limitSlack_ex : ∃ f : Int32 → (Nat → Int32) → Int32 → Int32, ∀ (x2 : Int32) (v_costs : Nat → Int32) (v1_ones : Int32), f x2 v_costs v1_ones = fX2_limitSlack_d x2 v_costs v1_ones := ⟨fX2_limitSlack_d, fun _ _ _ => rfl⟩
noncomputable def fX2_limitSlack : Int32 → (Nat → Int32) → Int32 → Int32 := Classical.choose fX2_limitSlack_ex
theorem fX2_limitSlack_eq (x2 : Int32) (v_costs : Nat → Int32) (v1_ones : Int32) : fX2_limitSlack x2 v_costs v1_ones = fX2_limitSlack_d x2 v_costs v1_ones := Classical.choose_spec fX2_limitSlack_ex x2 v_costs v1_ones
set_option maxHeartbeats 1000000 in
set_option maxRecDepth 100000 in
theorem ctX2_limitSlack (l : Launch) (D : va_G) (cI cZ : ClassId) (h0 h0_costs h0_coefficients h0_literals h0_bits h0_firsts h0_bounds h1 : Nat) (x2 : Int32) (v_terms v_constraints v_taken v1_ones v1_zeros : Int32) (v_costs : Nat → Int32) : Met l yX2_limitSlack (gw yX2_limitSlack cX2_limitSlack 3 (some .int)) { frames := 1, cells := 0, slots := 0, locals := 23 } (rPc D cI cZ [.ref h0, .ref h1, .int x2] [(h0, .inr (2, [.ref h0_costs, .ref h0_coefficients, .ref h0_literals, .ref h0_bits, .ref h0_firsts, .ref h0_bounds, .int v_terms, .int v_constraints, .int v_taken])), (h0_costs, .inl (cI, 17, .inl v_costs)), (h1, .inr (4, [.int v1_ones, .int v1_zeros]))]) (rQ (fX2_limitSlack x2 v_costs v1_ones)) 0 0 (fun _ => False) := by
  refine rMet (by decide) (Nat.le_of_ble_eq_true rfl) ?_
  intro p e s m below meth c hx hb hr hlocks hml hown hts hP hK hN ls hl
  have hl : lv_has ls 3 [(0, .ref h0), (1, .ref h1), (2, .int x2)] := hl
  have hF := (fX2_limitSlack_eq x2 v_costs v1_ones).trans (fX2_limitSlack_d.eq_1 x2 v_costs v1_ones)
  refine lv_iload_n hx hb dX2_limitSlack_0 rfl (lv_at hl 2 rfl) ?_
  refine lv_aload_n hx hb dX2_limitSlack_1 rfl (lv_at hl 0 rfl) ?_
  refine lv_aload_n hx hb dX2_limitSlack_2 rfl (lv_at hl 1 rfl) ?_
  refine va_getN (D := D) hx hb hts inX4 hown hK hP 2 rfl rfl 0 (by decide) (va_Nw.use (nwl_tab _ kn7) (hN _ kn7)) (fun _ h9 => h9) rfl dX2_limitSlack_3 ?_
  have hPc : va_P D vwCl [(h0, .inr (2, [.ref h0_costs, .ref h0_coefficients, .ref h0_literals, .ref h0_bits, .ref h0_firsts, .ref h0_bounds, .int v_terms, .int v_constraints, .int v_taken])), (h0_costs, .inl (cI, 17, .inl v_costs))] _ := hP.sub [0, 1] rfl
  refine rback (va_runV (As := [.int v1_ones]) (rest := [.int x2]) ⟨hx, hb, hml, hown, hts⟩ (ctX2_costOf l D cI cZ h0 h0_costs h0_coefficients h0_literals h0_bits h0_firsts h0_bounds v1_ones v_terms v_constraints v_taken v_costs) ⟨(cB hts kw310 kw307 kw53 pmX2_costOf ⟨Nat.le_of_ble_eq_true rfl, Nat.le_of_ble_eq_true rfl⟩), hts _ kw309, hts _ kw7⟩ ⟨rPc_blind, va_recv hK hP (ci := 2) (q0 := 0) rfl rfl, rpre hPc hK hN⟩ rfl rfl hl.1 rfl (lv_room (Nat.le_of_ble_eq_true rfl)) dX2_limitSlack_6 ⟨Nat.zero_le _, Nat.zero_le _⟩) ?_
  refine lv_isub hx hb dX2_limitSlack_9 ?_
  exact rreti hx hb hr hlocks hF.symm dX2_limitSlack_10

-- LeastCost$Problem.isBroken
theorem pmX2_isBroken : mFit yX2_isBroken 2 := ⟨by decide +kernel, by decide +kernel, by decide +kernel⟩
noncomputable def fX2_isBroken_L2 (x2 : Int32) (v_constraints : Int32) (v_costs : Nat → Int32) (v_coefficients : Nat → Int32) (v_literals : Nat → Int32) (v_bits : Nat → Int32) (v_firsts : Nat → Int32) (v_bounds : Nat → Int32) (v1_ones : Int32) (v1_zeros : Int32) : Nat → Int32 → Int32
  | 0, l3 => 0
  | n + 1, l3 => (if v_constraints ≤ l3 then (if 0 ≤ (fX2_limitSlack x2 v_costs v1_ones) then 0 else 1) else (if 0 ≤ (fX2_slackOf l3 v_coefficients v_literals v_bits v_firsts v_bounds v1_ones v1_zeros) then fX2_isBroken_L2 x2 v_constraints v_costs v_coefficients v_literals v_bits v_firsts v_bounds v1_ones v1_zeros n (l3 + 1) else 1))
noncomputable def fX2_isBroken_d (x2 : Int32) (v_constraints : Int32) (v_costs : Nat → Int32) (v_coefficients : Nat → Int32) (v_literals : Nat → Int32) (v_bits : Nat → Int32) (v_firsts : Nat → Int32) (v_bounds : Nat → Int32) (v1_ones : Int32) (v1_zeros : Int32) : Int32 :=
  fX2_isBroken_L2 x2 v_constraints v_costs v_coefficients v_literals v_bits v_firsts v_bounds v1_ones v1_zeros 21 0
theorem fX2_isBroken_ex : ∃ f : Int32 → Int32 → (Nat → Int32) → (Nat → Int32) → (Nat → Int32) → (Nat → Int32) → (Nat → Int32) → (Nat → Int32) → Int32 → Int32 → Int32, ∀ (x2 : Int32) (v_constraints : Int32) (v_costs : Nat → Int32) (v_coefficients : Nat → Int32) (v_literals : Nat → Int32) (v_bits : Nat → Int32) (v_firsts : Nat → Int32) (v_bounds : Nat → Int32) (v1_ones : Int32) (v1_zeros : Int32), f x2 v_constraints v_costs v_coefficients v_literals v_bits v_firsts v_bounds v1_ones v1_zeros = fX2_isBroken_d x2 v_constraints v_costs v_coefficients v_literals v_bits v_firsts v_bounds v1_ones v1_zeros := ⟨fX2_isBroken_d, fun _ _ _ _ _ _ _ _ _ _ => rfl⟩
noncomputable def fX2_isBroken : Int32 → Int32 → (Nat → Int32) → (Nat → Int32) → (Nat → Int32) → (Nat → Int32) → (Nat → Int32) → (Nat → Int32) → Int32 → Int32 → Int32 := Classical.choose fX2_isBroken_ex
theorem fX2_isBroken_eq (x2 : Int32) (v_constraints : Int32) (v_costs : Nat → Int32) (v_coefficients : Nat → Int32) (v_literals : Nat → Int32) (v_bits : Nat → Int32) (v_firsts : Nat → Int32) (v_bounds : Nat → Int32) (v1_ones : Int32) (v1_zeros : Int32) : fX2_isBroken x2 v_constraints v_costs v_coefficients v_literals v_bits v_firsts v_bounds v1_ones v1_zeros = fX2_isBroken_d x2 v_constraints v_costs v_coefficients v_literals v_bits v_firsts v_bounds v1_ones v1_zeros := Classical.choose_spec fX2_isBroken_ex x2 v_constraints v_costs v_coefficients v_literals v_bits v_firsts v_bounds v1_ones v1_zeros
set_option maxHeartbeats 1000000 in
set_option maxRecDepth 100000 in
theorem ctX2_isBroken (l : Launch) (D : va_G) (cI cZ : ClassId) (h0 h0_costs h0_coefficients h0_literals h0_bits h0_firsts h0_bounds h1 : Nat) (x2 : Int32) (v_terms v_constraints v_taken v1_ones v1_zeros : Int32) (v_costs v_coefficients v_literals v_bits v_firsts v_bounds : Nat → Int32) (hO : okP v_firsts v_constraints) : Met l yX2_isBroken (gw yX2_isBroken cX2_isBroken 4 (some .boolean)) { frames := 2, cells := 0, slots := 0, locals := 45 } (rPc D cI cZ [.ref h0, .ref h1, .int x2] [(h0, .inr (2, [.ref h0_costs, .ref h0_coefficients, .ref h0_literals, .ref h0_bits, .ref h0_firsts, .ref h0_bounds, .int v_terms, .int v_constraints, .int v_taken])), (h0_costs, .inl (cI, 17, .inl v_costs)), (h0_coefficients, .inl (cI, 120, .inl v_coefficients)), (h0_literals, .inl (cI, 120, .inl v_literals)), (h0_bits, .inl (cI, 120, .inl v_bits)), (h0_firsts, .inl (cI, 21, .inl v_firsts)), (h0_bounds, .inl (cI, 20, .inl v_bounds)), (h1, .inr (4, [.int v1_ones, .int v1_zeros]))]) (rQ (fX2_isBroken x2 v_constraints v_costs v_coefficients v_literals v_bits v_firsts v_bounds v1_ones v1_zeros)) 0 0 (fun _ => False) := by
  refine rMet (by decide) (Nat.le_of_ble_eq_true rfl) ?_
  intro p e s m below meth c hx hb hr hlocks hml hown hts hP hK hN ls hl
  have hl : lv_has ls 4 [(0, .ref h0), (1, .ref h1), (2, .int x2)] := hl
  have hF := (fX2_isBroken_eq x2 v_constraints v_costs v_coefficients v_literals v_bits v_firsts v_bounds v1_ones v1_zeros).trans (fX2_isBroken_d.eq_1 x2 v_constraints v_costs v_coefficients v_literals v_bits v_firsts v_bounds v1_ones v1_zeros)
  obtain ⟨C, eC, hC20, hall⟩ := hO
  refine lv_iconst (v := 0) hx hb dX2_isBroken_0 (by decide) ?_
  refine lv_istore_n (lv' := [(3, .int 0), (0, .ref h0), (1, .ref h1), (2, .int x2)]) hx hb dX2_isBroken_1 rfl hl (by decide) rfl (fun ls hl => ?_)
  have loop : ∀ (n : Nat) (k : Nat) (l3 : Int32) , l3 = nI k ∧ k ≤ 20 ∧ 20 < k + n → fX2_isBroken x2 v_constraints v_costs v_coefficients v_literals v_bits v_firsts v_bounds v1_ones v1_zeros = fX2_isBroken_L2 x2 v_constraints v_costs v_coefficients v_literals v_bits v_firsts v_bounds v1_ones v1_zeros n l3 → ∀ ls : Array Slot, lv_has ls 4 [(3, .int l3), (0, .ref h0), (1, .ref h1), (2, .int x2)] → W p l e { frames := 2, cells := 0, slots := 0, locals := 45 } s m [.ref h0, .ref h1, .int x2].toArray below meth c s.heap [] 0 0 (MQ below (rQ (fX2_isBroken x2 v_constraints v_costs v_coefficients v_literals v_bits v_firsts v_bounds v1_ones v1_zeros)) [.ref h0, .ref h1, .int x2].toArray s 0 0 (fun _ => False)) (F0 m 2 ls []) := by
    intro n
    induction n with
    | zero =>
      intro k l3 hk hF
      exact (by obtain ⟨_, h2, h3⟩ := hk; exact absurd h3 (by omega))
    | succ n ih =>
      intro k l3 hk hF ls hl
      have hF := hF.trans (fX2_isBroken_L2.eq_2 ..)
      obtain ⟨ek, hk1, hk2⟩ := hk
      refine lv_iload_n hx hb dX2_isBroken_2 rfl (lv_at hl 0 rfl) ?_
      refine lv_aload_n hx hb dX2_isBroken_3 rfl (lv_at hl 1 rfl) ?_
      refine va_get (D := D) hx hb hts inX2 hown hK hP 0 rfl rfl 7 (by decide) (hts _ kw81) (fun _ h9 => h9) rfl dX2_isBroken_4 ?_
      refine lv_icmp_ge (tgt := 27) hx hb dX2_isBroken_7 (by decide) (fun c_1 => ?_) (fun c_1 => ?_)
      · have hF := hF.trans (if_pos c_1)
        refine lv_aload_n hx hb dX2_isBroken_27 rfl (lv_at hl 1 rfl) ?_
        refine lv_aload_n hx hb dX2_isBroken_28 rfl (lv_at hl 2 rfl) ?_
        refine lv_iload_n hx hb dX2_isBroken_29 rfl (lv_at hl 3 rfl) ?_
        have hPc : va_P D vwCl [(h0, .inr (2, [.ref h0_costs, .ref h0_coefficients, .ref h0_literals, .ref h0_bits, .ref h0_firsts, .ref h0_bounds, .int v_terms, .int v_constraints, .int v_taken])), (h0_costs, .inl (cI, 17, .inl v_costs)), (h1, .inr (4, [.int v1_ones, .int v1_zeros]))] _ := hP.sub [0, 1, 7] rfl
        refine rback (va_runV (As := [.ref h1, .int x2]) (rest := []) ⟨hx, hb, hml, hown, hts⟩ (ctX2_limitSlack l D cI cZ h0 h0_costs h0_coefficients h0_literals h0_bits h0_firsts h0_bounds h1 x2 v_terms v_constraints v_taken v1_ones v1_zeros v_costs) ⟨(cB hts kw306 kw303 kw53 pmX2_limitSlack ⟨Nat.le_of_ble_eq_true rfl, Nat.le_of_ble_eq_true rfl⟩), hts _ kw305, hts _ kw6⟩ ⟨rPc_blind, va_recv hK hP (ci := 2) (q0 := 0) rfl rfl, rpre hPc hK hN⟩ rfl rfl hl.1 rfl (lv_room (Nat.le_of_ble_eq_true rfl)) dX2_isBroken_30 ⟨Nat.zero_le _, Nat.zero_le _⟩) ?_
        refine lv_if_ge (tgt := 40) hx hb dX2_isBroken_33 (by decide) (fun c_2 => ?_) (fun c_2 => ?_)
        · have hF := hF.trans (if_pos c_2)
          refine lv_iconst (v := 0) hx hb dX2_isBroken_40 (by decide) ?_
          exact rretz hx hb hr hlocks (Or.inl rfl) hF.symm dX2_isBroken_41
        · have hF := hF.trans (if_neg c_2)
          refine lv_iconst (v := 1) hx hb dX2_isBroken_36 (by decide) ?_
          refine lv_goto (tgt := 41) hx hb dX2_isBroken_37 (by decide) ?_
          exact rretz hx hb hr hlocks (Or.inr rfl) hF.symm dX2_isBroken_41
      · have hF := hF.trans (if_neg c_1)
        refine lv_aload_n hx hb dX2_isBroken_10 rfl (lv_at hl 1 rfl) ?_
        refine lv_iload_n hx hb dX2_isBroken_11 rfl (lv_at hl 0 rfl) ?_
        refine lv_aload_n hx hb dX2_isBroken_12 rfl (lv_at hl 2 rfl) ?_
        have hPc : va_P D vwCl [(h0, .inr (2, [.ref h0_costs, .ref h0_coefficients, .ref h0_literals, .ref h0_bits, .ref h0_firsts, .ref h0_bounds, .int v_terms, .int v_constraints, .int v_taken])), (h0_coefficients, .inl (cI, 120, .inl v_coefficients)), (h0_literals, .inl (cI, 120, .inl v_literals)), (h0_bits, .inl (cI, 120, .inl v_bits)), (h0_firsts, .inl (cI, 21, .inl v_firsts)), (h0_bounds, .inl (cI, 20, .inl v_bounds)), (h1, .inr (4, [.int v1_ones, .int v1_zeros]))] _ := hP.sub [0, 2, 3, 4, 5, 6, 7] rfl
        refine rback (va_runV (As := [.int l3, .ref h1]) (rest := []) ⟨hx, hb, hml, hown, hts⟩ (ctX2_slackOf l D cI cZ h0 h0_costs h0_coefficients h0_literals h0_bits h0_firsts h0_bounds h1 l3 v_terms v_constraints v_taken v1_ones v1_zeros v_coefficients v_literals v_bits v_firsts v_bounds (by rw [ek]; exact hall k (okC_lt20 ek eC hk1 c_1))) ⟨(cB hts kw302 kw299 kw53 pmX2_slackOf ⟨Nat.le_of_ble_eq_true rfl, Nat.le_of_ble_eq_true rfl⟩), hts _ kw301, hts _ kw5⟩ ⟨rPc_blind, va_recv hK hP (ci := 2) (q0 := 0) rfl rfl, rpre hPc hK hN⟩ rfl rfl hl.1 rfl (lv_room (Nat.le_of_ble_eq_true rfl)) dX2_isBroken_13 ⟨Nat.zero_le _, Nat.zero_le _⟩) ?_
        refine lv_if_ge (tgt := 21) hx hb dX2_isBroken_16 (by decide) (fun c_3 => ?_) (fun c_3 => ?_)
        · have hF := hF.trans (if_pos c_3)
          refine lv_iinc (v := l3 + 1) (lv' := [(3, .int (l3 + 1)), (0, .ref h0), (1, .ref h1), (2, .int x2)]) hx hb dX2_isBroken_21 hl (k := 0) rfl rfl (by decide) rfl (fun ls hl => ?_)
          refine lv_goto (tgt := 2) hx hb dX2_isBroken_24 (by decide) ?_
          exact ih (k + 1) (l3 + 1) ⟨k_s ek, by have := okC_lt20 ek eC hk1 c_1; omega, by omega⟩ hF ls (lv_sub hl [0, 1, 2, 3] rfl)
        · have hF := hF.trans (if_neg c_3)
          refine lv_iconst (v := 1) hx hb dX2_isBroken_19 (by decide) ?_
          exact rretz hx hb hr hlocks (Or.inr rfl) hF.symm dX2_isBroken_20
  exact loop 21 0 0 ⟨rfl, by omega, by omega⟩ hF ls (lv_sub hl [0, 1, 2, 3] rfl)

-- LeastCost$Problem.forcedBy
theorem pmX2_forcedBy : mFit yX2_forcedBy 2 := ⟨by decide +kernel, by decide +kernel, by decide +kernel⟩
noncomputable def fX2_forcedBy_L26 (x1 : Int32) (v_coefficients : Nat → Int32) (v_literals : Nat → Int32) (v_bits : Nat → Int32) (v_firsts : Nat → Int32) (v_bounds : Nat → Int32) (v2_ones : Int32) (v2_zeros : Int32) : Nat → Int32 → Int32 → Int32 → Int32
  | 0, l3, l4, l5 => 0
  | n + 1, l3, l4, l5 => (if (v_firsts (x1 + 1).toNatClampNeg) ≤ l5 then 0 else (if (v_coefficients l5.toNatClampNeg) ≤ l3 then fX2_forcedBy_L26 x1 v_coefficients v_literals v_bits v_firsts v_bounds v2_ones v2_zeros n l3 l4 (l5 + 1) else (if (l4 &&& (v_bits l5.toNatClampNeg)) = 0 then v_literals l5.toNatClampNeg else fX2_forcedBy_L26 x1 v_coefficients v_literals v_bits v_firsts v_bounds v2_ones v2_zeros n l3 l4 (l5 + 1))))
noncomputable def fX2_forcedBy_d (x1 : Int32) (v_coefficients : Nat → Int32) (v_literals : Nat → Int32) (v_bits : Nat → Int32) (v_firsts : Nat → Int32) (v_bounds : Nat → Int32) (v2_ones : Int32) (v2_zeros : Int32) : Int32 :=
  fX2_forcedBy_L26 x1 v_coefficients v_literals v_bits v_firsts v_bounds v2_ones v2_zeros 121 (fX2_slackOf x1 v_coefficients v_literals v_bits v_firsts v_bounds v2_ones v2_zeros) (v2_ones ||| v2_zeros) (v_firsts x1.toNatClampNeg)
theorem fX2_forcedBy_ex : ∃ f : Int32 → (Nat → Int32) → (Nat → Int32) → (Nat → Int32) → (Nat → Int32) → (Nat → Int32) → Int32 → Int32 → Int32, ∀ (x1 : Int32) (v_coefficients : Nat → Int32) (v_literals : Nat → Int32) (v_bits : Nat → Int32) (v_firsts : Nat → Int32) (v_bounds : Nat → Int32) (v2_ones : Int32) (v2_zeros : Int32), f x1 v_coefficients v_literals v_bits v_firsts v_bounds v2_ones v2_zeros = fX2_forcedBy_d x1 v_coefficients v_literals v_bits v_firsts v_bounds v2_ones v2_zeros := ⟨fX2_forcedBy_d, fun _ _ _ _ _ _ _ _ => rfl⟩
noncomputable def fX2_forcedBy : Int32 → (Nat → Int32) → (Nat → Int32) → (Nat → Int32) → (Nat → Int32) → (Nat → Int32) → Int32 → Int32 → Int32 := Classical.choose fX2_forcedBy_ex
theorem fX2_forcedBy_eq (x1 : Int32) (v_coefficients : Nat → Int32) (v_literals : Nat → Int32) (v_bits : Nat → Int32) (v_firsts : Nat → Int32) (v_bounds : Nat → Int32) (v2_ones : Int32) (v2_zeros : Int32) : fX2_forcedBy x1 v_coefficients v_literals v_bits v_firsts v_bounds v2_ones v2_zeros = fX2_forcedBy_d x1 v_coefficients v_literals v_bits v_firsts v_bounds v2_ones v2_zeros := Classical.choose_spec fX2_forcedBy_ex x1 v_coefficients v_literals v_bits v_firsts v_bounds v2_ones v2_zeros
set_option maxHeartbeats 1000000 in
set_option maxRecDepth 100000 in
theorem ctX2_forcedBy (l : Launch) (D : va_G) (cI cZ : ClassId) (h0 h0_costs h0_coefficients h0_literals h0_bits h0_firsts h0_bounds h2 : Nat) (x1 : Int32) (v_terms v_constraints v_taken v2_ones v2_zeros : Int32) (v_coefficients v_literals v_bits v_firsts v_bounds : Nat → Int32) (hC : okC v_firsts x1) : Met l yX2_forcedBy (gw yX2_forcedBy cX2_forcedBy 6 (some .int)) { frames := 1, cells := 0, slots := 0, locals := 25 } (rPc D cI cZ [.ref h0, .int x1, .ref h2] [(h0, .inr (2, [.ref h0_costs, .ref h0_coefficients, .ref h0_literals, .ref h0_bits, .ref h0_firsts, .ref h0_bounds, .int v_terms, .int v_constraints, .int v_taken])), (h0_coefficients, .inl (cI, 120, .inl v_coefficients)), (h0_literals, .inl (cI, 120, .inl v_literals)), (h0_bits, .inl (cI, 120, .inl v_bits)), (h0_firsts, .inl (cI, 21, .inl v_firsts)), (h0_bounds, .inl (cI, 20, .inl v_bounds)), (h2, .inr (4, [.int v2_ones, .int v2_zeros]))]) (rQ (fX2_forcedBy x1 v_coefficients v_literals v_bits v_firsts v_bounds v2_ones v2_zeros)) 0 0 (fun _ => False) := by
  refine rMet (by decide) (Nat.le_of_ble_eq_true rfl) ?_
  intro p e s m below meth c hx hb hr hlocks hml hown hts hP hK hN ls hl
  have hl : lv_has ls 6 [(0, .ref h0), (1, .int x1), (2, .ref h2)] := hl
  have hF := (fX2_forcedBy_eq x1 v_coefficients v_literals v_bits v_firsts v_bounds v2_ones v2_zeros).trans (fX2_forcedBy_d.eq_1 x1 v_coefficients v_literals v_bits v_firsts v_bounds v2_ones v2_zeros)
  obtain ⟨a, b, ea, eb, hab, hb120, i20, i21, i21s⟩ := hC
  refine lv_aload_n hx hb dX2_forcedBy_0 rfl (lv_at hl 0 rfl) ?_
  refine lv_iload_n hx hb dX2_forcedBy_1 rfl (lv_at hl 1 rfl) ?_
  refine lv_aload_n hx hb dX2_forcedBy_2 rfl (lv_at hl 2 rfl) ?_
  have hPc : va_P D vwCl [(h0, .inr (2, [.ref h0_costs, .ref h0_coefficients, .ref h0_literals, .ref h0_bits, .ref h0_firsts, .ref h0_bounds, .int v_terms, .int v_constraints, .int v_taken])), (h0_coefficients, .inl (cI, 120, .inl v_coefficients)), (h0_literals, .inl (cI, 120, .inl v_literals)), (h0_bits, .inl (cI, 120, .inl v_bits)), (h0_firsts, .inl (cI, 21, .inl v_firsts)), (h0_bounds, .inl (cI, 20, .inl v_bounds)), (h2, .inr (4, [.int v2_ones, .int v2_zeros]))] _ := hP.sub [0, 1, 2, 3, 4, 5, 6] rfl
  refine rback (va_runV (As := [.int x1, .ref h2]) (rest := []) ⟨hx, hb, hml, hown, hts⟩ (ctX2_slackOf l D cI cZ h0 h0_costs h0_coefficients h0_literals h0_bits h0_firsts h0_bounds h2 x1 v_terms v_constraints v_taken v2_ones v2_zeros v_coefficients v_literals v_bits v_firsts v_bounds ⟨a, b, ea, eb, hab, hb120, i20, i21, i21s⟩) ⟨(cB hts kw302 kw299 kw53 pmX2_slackOf ⟨Nat.le_of_ble_eq_true rfl, Nat.le_of_ble_eq_true rfl⟩), hts _ kw301, hts _ kw5⟩ ⟨rPc_blind, va_recv hK hP (ci := 2) (q0 := 0) rfl rfl, rpre hPc hK hN⟩ rfl rfl hl.1 rfl (lv_room (Nat.le_of_ble_eq_true rfl)) dX2_forcedBy_3 ⟨Nat.zero_le _, Nat.zero_le _⟩) ?_
  refine lv_istore_n (lv' := [(3, .int (fX2_slackOf x1 v_coefficients v_literals v_bits v_firsts v_bounds v2_ones v2_zeros)), (0, .ref h0), (1, .int x1), (2, .ref h2)]) hx hb dX2_forcedBy_6 rfl hl (by decide) rfl (fun ls hl => ?_)
  refine lv_aload_n hx hb dX2_forcedBy_7 rfl (lv_at hl 3 rfl) ?_
  refine va_getN (D := D) hx hb hts inX4 hown hK hP 6 rfl rfl 0 (by decide) (va_Nw.use (nwl_tab _ kn7) (hN _ kn7)) (fun _ h9 => h9) rfl dX2_forcedBy_8 ?_
  refine lv_aload_n hx hb dX2_forcedBy_11 rfl (lv_at hl 3 rfl) ?_
  refine va_getN (D := D) hx hb hts inX4 hown hK hP 6 rfl rfl 1 (by decide) (va_Nw.use (nwl_tab _ kn10) (hN _ kn10)) (fun _ h9 => h9) rfl dX2_forcedBy_12 ?_
  refine lv_ior hx hb dX2_forcedBy_15 ?_
  refine lv_istore (lv' := [(4, .int (v2_ones ||| v2_zeros)), (3, .int (fX2_slackOf x1 v_coefficients v_literals v_bits v_firsts v_bounds v2_ones v2_zeros)), (0, .ref h0), (1, .int x1), (2, .ref h2)]) hx hb dX2_forcedBy_16 hl (by decide) rfl (fun ls hl => ?_)
  refine lv_aload_n hx hb dX2_forcedBy_18 rfl (lv_at hl 2 rfl) ?_
  refine va_get (D := D) hx hb hts inX2 hown hK hP 0 rfl rfl 4 (by decide) (hts _ kw78) (fun _ h9 => h9) rfl dX2_forcedBy_19 ?_
  refine lv_iload_n hx hb dX2_forcedBy_22 rfl (lv_at hl 3 rfl) ?_
  refine va_iald hx hb hK hP 4 0 rfl rfl i21 dX2_forcedBy_23 ?_
  refine lv_istore (lv' := [(5, .int (v_firsts x1.toNatClampNeg)), (4, .int (v2_ones ||| v2_zeros)), (3, .int (fX2_slackOf x1 v_coefficients v_literals v_bits v_firsts v_bounds v2_ones v2_zeros)), (0, .ref h0), (1, .int x1), (2, .ref h2)]) hx hb dX2_forcedBy_24 hl (by decide) rfl (fun ls hl => ?_)
  have loop : ∀ (n : Nat) (k : Nat) (l3 : Int32) (l4 : Int32) (l5 : Int32) , l5 = nI k ∧ k ≤ 120 ∧ 120 < k + n → fX2_forcedBy x1 v_coefficients v_literals v_bits v_firsts v_bounds v2_ones v2_zeros = fX2_forcedBy_L26 x1 v_coefficients v_literals v_bits v_firsts v_bounds v2_ones v2_zeros n l3 l4 l5 → ∀ ls : Array Slot, lv_has ls 6 [(3, .int l3), (4, .int l4), (5, .int l5), (0, .ref h0), (1, .int x1), (2, .ref h2)] → W p l e { frames := 1, cells := 0, slots := 0, locals := 25 } s m [.ref h0, .int x1, .ref h2].toArray below meth c s.heap [] 0 0 (MQ below (rQ (fX2_forcedBy x1 v_coefficients v_literals v_bits v_firsts v_bounds v2_ones v2_zeros)) [.ref h0, .int x1, .ref h2].toArray s 0 0 (fun _ => False)) (F0 m 26 ls []) := by
    intro n
    induction n with
    | zero =>
      intro k l3 l4 l5 hk hF
      exact (by obtain ⟨_, h2, h3⟩ := hk; exact absurd h3 (by omega))
    | succ n ih =>
      intro k l3 l4 l5 hk hF ls hl
      have hF := hF.trans (fX2_forcedBy_L26.eq_2 ..)
      obtain ⟨ek, hk1, hk2⟩ := hk
      refine lv_iload hx hb dX2_forcedBy_26 (lv_at hl 2 rfl) ?_
      refine lv_aload_n hx hb dX2_forcedBy_28 rfl (lv_at hl 3 rfl) ?_
      refine va_get (D := D) hx hb hts inX2 hown hK hP 0 rfl rfl 4 (by decide) (hts _ kw78) (fun _ h9 => h9) rfl dX2_forcedBy_29 ?_
      refine lv_iload_n hx hb dX2_forcedBy_32 rfl (lv_at hl 4 rfl) ?_
      refine lv_iconst (v := 1) hx hb dX2_forcedBy_33 (by decide) ?_
      refine lv_iadd hx hb dX2_forcedBy_34 ?_
      refine va_iald hx hb hK hP 4 0 rfl rfl i21s dX2_forcedBy_35 ?_
      refine lv_icmp_ge (tgt := 77) hx hb dX2_forcedBy_36 (by decide) (fun c_1 => ?_) (fun c_1 => ?_)
      · have hF := hF.trans (if_pos c_1)
        refine lv_iconst (v := 0) hx hb dX2_forcedBy_77 (by decide) ?_
        exact rreti hx hb hr hlocks hF.symm dX2_forcedBy_78
      · have hF := hF.trans (if_neg c_1)
        refine lv_aload_n hx hb dX2_forcedBy_39 rfl (lv_at hl 3 rfl) ?_
        refine va_get (D := D) hx hb hts inX2 hown hK hP 0 rfl rfl 1 (by decide) (hts _ kw75) (fun _ h9 => h9) rfl dX2_forcedBy_40 ?_
        refine lv_iload hx hb dX2_forcedBy_43 (lv_at hl 2 rfl) ?_
        refine va_iald hx hb hK hP 1 0 rfl rfl (k_in ek (by have := okC_lt ek eb hk1 c_1; omega) (by decide)) dX2_forcedBy_45 ?_
        refine lv_iload_n hx hb dX2_forcedBy_46 rfl (lv_at hl 0 rfl) ?_
        refine lv_icmp_le (tgt := 71) hx hb dX2_forcedBy_47 (by decide) (fun c_2 => ?_) (fun c_2 => ?_)
        · have hF := hF.trans (if_pos c_2)
          refine lv_iinc (v := l5 + 1) (lv' := [(5, .int (l5 + 1)), (3, .int l3), (4, .int l4), (0, .ref h0), (1, .int x1), (2, .ref h2)]) hx hb dX2_forcedBy_71 hl (k := 2) rfl rfl (by decide) rfl (fun ls hl => ?_)
          refine lv_goto (tgt := 26) hx hb dX2_forcedBy_74 (by decide) ?_
          exact ih (k + 1) l3 l4 (l5 + 1) ⟨k_s ek, by have := okC_lt ek eb hk1 c_1; omega, by omega⟩ hF ls (lv_sub hl [1, 2, 0, 3, 4, 5] rfl)
        · have hF := hF.trans (if_neg c_2)
          refine lv_iload hx hb dX2_forcedBy_50 (lv_at hl 1 rfl) ?_
          refine lv_aload_n hx hb dX2_forcedBy_52 rfl (lv_at hl 3 rfl) ?_
          refine va_get (D := D) hx hb hts inX2 hown hK hP 0 rfl rfl 3 (by decide) (hts _ kw77) (fun _ h9 => h9) rfl dX2_forcedBy_53 ?_
          refine lv_iload hx hb dX2_forcedBy_56 (lv_at hl 2 rfl) ?_
          refine va_iald hx hb hK hP 3 0 rfl rfl (k_in ek (by have := okC_lt ek eb hk1 c_1; omega) (by decide)) dX2_forcedBy_58 ?_
          refine lv_iand hx hb dX2_forcedBy_59 ?_
          refine lv_if_ne (tgt := 71) hx hb dX2_forcedBy_60 (by decide) (fun c_3 => ?_) (fun c_3 => ?_)
          · have hF := hF.trans (if_neg c_3)
            refine lv_iinc (v := l5 + 1) (lv' := [(5, .int (l5 + 1)), (3, .int l3), (4, .int l4), (0, .ref h0), (1, .int x1), (2, .ref h2)]) hx hb dX2_forcedBy_71 hl (k := 2) rfl rfl (by decide) rfl (fun ls hl => ?_)
            refine lv_goto (tgt := 26) hx hb dX2_forcedBy_74 (by decide) ?_
            exact ih (k + 1) l3 l4 (l5 + 1) ⟨k_s ek, by have := okC_lt ek eb hk1 c_1; omega, by omega⟩ hF ls (lv_sub hl [1, 2, 0, 3, 4, 5] rfl)
          · have hF := hF.trans (if_pos c_3)
            refine lv_aload_n hx hb dX2_forcedBy_63 rfl (lv_at hl 3 rfl) ?_
            refine va_get (D := D) hx hb hts inX2 hown hK hP 0 rfl rfl 2 (by decide) (hts _ kw76) (fun _ h9 => h9) rfl dX2_forcedBy_64 ?_
            refine lv_iload hx hb dX2_forcedBy_67 (lv_at hl 2 rfl) ?_
            refine va_iald hx hb hK hP 2 0 rfl rfl (k_in ek (by have := okC_lt ek eb hk1 c_1; omega) (by decide)) dX2_forcedBy_69 ?_
            exact rreti hx hb hr hlocks hF.symm dX2_forcedBy_70
  exact loop 121 a (fX2_slackOf x1 v_coefficients v_literals v_bits v_firsts v_bounds v2_ones v2_zeros) (v2_ones ||| v2_zeros) (v_firsts x1.toNatClampNeg) ⟨ea, by omega, by omega⟩ hF ls (lv_sub hl [2, 1, 0, 3, 4, 5] rfl)

-- LeastCost$Problem.forcedByLimit
theorem pmX2_forcedByLimit : mFit yX2_forcedByLimit 2 := ⟨by decide +kernel, by decide +kernel, by decide +kernel⟩
noncomputable def fX2_forcedByLimit_L21 (x2 : Int32) (v_costs : Nat → Int32) (v1_ones : Int32) (v1_zeros : Int32) : Nat → Int32 → Int32 → Int32 → Int32
  | 0, l3, l4, l5 => 0
  | n + 1, l3, l4, l5 => (if 16 < l5 then 0 else (if (v_costs l5.toNatClampNeg) ≤ 0 then fX2_forcedByLimit_L21 x2 v_costs v1_ones v1_zeros n l3 l4 (l5 + 1) else (if (v_costs l5.toNatClampNeg) ≤ l3 then fX2_forcedByLimit_L21 x2 v_costs v1_ones v1_zeros n l3 l4 (l5 + 1) else (if (l4 &&& (fX5_bitOf l5)) = 0 then -l5 else fX2_forcedByLimit_L21 x2 v_costs v1_ones v1_zeros n l3 l4 (l5 + 1)))))
noncomputable def fX2_forcedByLimit_d (x2 : Int32) (v_costs : Nat → Int32) (v1_ones : Int32) (v1_zeros : Int32) : Int32 :=
  fX2_forcedByLimit_L21 x2 v_costs v1_ones v1_zeros 17 (fX2_limitSlack x2 v_costs v1_ones) (v1_ones ||| v1_zeros) 1
theorem fX2_forcedByLimit_ex : ∃ f : Int32 → (Nat → Int32) → Int32 → Int32 → Int32, ∀ (x2 : Int32) (v_costs : Nat → Int32) (v1_ones : Int32) (v1_zeros : Int32), f x2 v_costs v1_ones v1_zeros = fX2_forcedByLimit_d x2 v_costs v1_ones v1_zeros := ⟨fX2_forcedByLimit_d, fun _ _ _ _ => rfl⟩
noncomputable def fX2_forcedByLimit : Int32 → (Nat → Int32) → Int32 → Int32 → Int32 := Classical.choose fX2_forcedByLimit_ex
theorem fX2_forcedByLimit_eq (x2 : Int32) (v_costs : Nat → Int32) (v1_ones : Int32) (v1_zeros : Int32) : fX2_forcedByLimit x2 v_costs v1_ones v1_zeros = fX2_forcedByLimit_d x2 v_costs v1_ones v1_zeros := Classical.choose_spec fX2_forcedByLimit_ex x2 v_costs v1_ones v1_zeros
set_option maxHeartbeats 1000000 in
set_option maxRecDepth 100000 in
theorem ctX2_forcedByLimit (l : Launch) (D : va_G) (cI cZ : ClassId) (h0 h0_costs h0_coefficients h0_literals h0_bits h0_firsts h0_bounds h1 : Nat) (x2 : Int32) (v_terms v_constraints v_taken v1_ones v1_zeros : Int32) (v_costs : Nat → Int32) : Met l yX2_forcedByLimit (gw yX2_forcedByLimit cX2_forcedByLimit 6 (some .int)) { frames := 2, cells := 0, slots := 0, locals := 45 } (rPc D cI cZ [.ref h0, .ref h1, .int x2] [(h0, .inr (2, [.ref h0_costs, .ref h0_coefficients, .ref h0_literals, .ref h0_bits, .ref h0_firsts, .ref h0_bounds, .int v_terms, .int v_constraints, .int v_taken])), (h0_costs, .inl (cI, 17, .inl v_costs)), (h1, .inr (4, [.int v1_ones, .int v1_zeros]))]) (rQ (fX2_forcedByLimit x2 v_costs v1_ones v1_zeros)) 0 0 (fun _ => False) := by
  refine rMet (by decide) (Nat.le_of_ble_eq_true rfl) ?_
  intro p e s m below meth c hx hb hr hlocks hml hown hts hP hK hN ls hl
  have hl : lv_has ls 6 [(0, .ref h0), (1, .ref h1), (2, .int x2)] := hl
  have hF := (fX2_forcedByLimit_eq x2 v_costs v1_ones v1_zeros).trans (fX2_forcedByLimit_d.eq_1 x2 v_costs v1_ones v1_zeros)
  refine lv_aload_n hx hb dX2_forcedByLimit_0 rfl (lv_at hl 0 rfl) ?_
  refine lv_aload_n hx hb dX2_forcedByLimit_1 rfl (lv_at hl 1 rfl) ?_
  refine lv_iload_n hx hb dX2_forcedByLimit_2 rfl (lv_at hl 2 rfl) ?_
  have hPc : va_P D vwCl [(h0, .inr (2, [.ref h0_costs, .ref h0_coefficients, .ref h0_literals, .ref h0_bits, .ref h0_firsts, .ref h0_bounds, .int v_terms, .int v_constraints, .int v_taken])), (h0_costs, .inl (cI, 17, .inl v_costs)), (h1, .inr (4, [.int v1_ones, .int v1_zeros]))] _ := hP.sub [0, 1, 2] rfl
  refine rback (va_runV (As := [.ref h1, .int x2]) (rest := []) ⟨hx, hb, hml, hown, hts⟩ (ctX2_limitSlack l D cI cZ h0 h0_costs h0_coefficients h0_literals h0_bits h0_firsts h0_bounds h1 x2 v_terms v_constraints v_taken v1_ones v1_zeros v_costs) ⟨(cB hts kw306 kw303 kw53 pmX2_limitSlack ⟨Nat.le_of_ble_eq_true rfl, Nat.le_of_ble_eq_true rfl⟩), hts _ kw305, hts _ kw6⟩ ⟨rPc_blind, va_recv hK hP (ci := 2) (q0 := 0) rfl rfl, rpre hPc hK hN⟩ rfl rfl hl.1 rfl (lv_room (Nat.le_of_ble_eq_true rfl)) dX2_forcedByLimit_3 ⟨Nat.zero_le _, Nat.zero_le _⟩) ?_
  refine lv_istore_n (lv' := [(3, .int (fX2_limitSlack x2 v_costs v1_ones)), (0, .ref h0), (1, .ref h1), (2, .int x2)]) hx hb dX2_forcedByLimit_6 rfl hl (by decide) rfl (fun ls hl => ?_)
  refine lv_aload_n hx hb dX2_forcedByLimit_7 rfl (lv_at hl 2 rfl) ?_
  refine va_getN (D := D) hx hb hts inX4 hown hK hP 2 rfl rfl 0 (by decide) (va_Nw.use (nwl_tab _ kn7) (hN _ kn7)) (fun _ h9 => h9) rfl dX2_forcedByLimit_8 ?_
  refine lv_aload_n hx hb dX2_forcedByLimit_11 rfl (lv_at hl 2 rfl) ?_
  refine va_getN (D := D) hx hb hts inX4 hown hK hP 2 rfl rfl 1 (by decide) (va_Nw.use (nwl_tab _ kn10) (hN _ kn10)) (fun _ h9 => h9) rfl dX2_forcedByLimit_12 ?_
  refine lv_ior hx hb dX2_forcedByLimit_15 ?_
  refine lv_istore (lv' := [(4, .int (v1_ones ||| v1_zeros)), (3, .int (fX2_limitSlack x2 v_costs v1_ones)), (0, .ref h0), (1, .ref h1), (2, .int x2)]) hx hb dX2_forcedByLimit_16 hl (by decide) rfl (fun ls hl => ?_)
  refine lv_iconst (v := 1) hx hb dX2_forcedByLimit_18 (by decide) ?_
  refine lv_istore (lv' := [(5, .int 1), (4, .int (v1_ones ||| v1_zeros)), (3, .int (fX2_limitSlack x2 v_costs v1_ones)), (0, .ref h0), (1, .ref h1), (2, .int x2)]) hx hb dX2_forcedByLimit_19 hl (by decide) rfl (fun ls hl => ?_)
  have loop : ∀ (n : Nat) (k : Nat) (l3 : Int32) (l4 : Int32) (l5 : Int32) , l5 = nI k ∧ 1 ≤ k ∧ k ≤ 17 ∧ 17 < k + n → fX2_forcedByLimit x2 v_costs v1_ones v1_zeros = fX2_forcedByLimit_L21 x2 v_costs v1_ones v1_zeros n l3 l4 l5 → ∀ ls : Array Slot, lv_has ls 6 [(3, .int l3), (4, .int l4), (5, .int l5), (0, .ref h0), (1, .ref h1), (2, .int x2)] → W p l e { frames := 2, cells := 0, slots := 0, locals := 45 } s m [.ref h0, .ref h1, .int x2].toArray below meth c s.heap [] 0 0 (MQ below (rQ (fX2_forcedByLimit x2 v_costs v1_ones v1_zeros)) [.ref h0, .ref h1, .int x2].toArray s 0 0 (fun _ => False)) (F0 m 21 ls []) := by
    intro n
    induction n with
    | zero =>
      intro k l3 l4 l5 hk hF
      exact (by obtain ⟨_, _, h2, h3⟩ := hk; exact absurd h3 (by omega))
    | succ n ih =>
      intro k l3 l4 l5 hk hF ls hl
      have hF := hF.trans (fX2_forcedByLimit_L21.eq_2 ..)
      obtain ⟨ek, hk1, hk2, hk3⟩ := hk
      refine lv_iload hx hb dX2_forcedByLimit_21 (lv_at hl 2 rfl) ?_
      refine lv_bipush (v := 16) hx hb dX2_forcedByLimit_23 (by decide) ?_
      refine lv_icmp_gt (tgt := 70) hx hb dX2_forcedByLimit_25 (by decide) (fun c_1 => ?_) (fun c_1 => ?_)
      · have hF := hF.trans (if_pos c_1)
        refine lv_iconst (v := 0) hx hb dX2_forcedByLimit_70 (by decide) ?_
        exact rreti hx hb hr hlocks hF.symm dX2_forcedByLimit_71
      · have hF := hF.trans (if_neg c_1)
        refine lv_aload_n hx hb dX2_forcedByLimit_28 rfl (lv_at hl 3 rfl) ?_
        refine va_get (D := D) hx hb hts inX2 hown hK hP 0 rfl rfl 0 (by decide) (hts _ kw73) (fun _ h9 => h9) rfl dX2_forcedByLimit_29 ?_
        refine lv_iload hx hb dX2_forcedByLimit_32 (lv_at hl 2 rfl) ?_
        refine va_iald hx hb hK hP 1 0 rfl rfl (k_in ek (by have := k_16 ek hk2 c_1; omega) (by decide)) dX2_forcedByLimit_34 ?_
        refine lv_if_le (tgt := 64) hx hb dX2_forcedByLimit_35 (by decide) (fun c_2 => ?_) (fun c_2 => ?_)
        · have hF := hF.trans (if_pos c_2)
          refine lv_iinc (v := l5 + 1) (lv' := [(5, .int (l5 + 1)), (3, .int l3), (4, .int l4), (0, .ref h0), (1, .ref h1), (2, .int x2)]) hx hb dX2_forcedByLimit_64 hl (k := 2) rfl rfl (by decide) rfl (fun ls hl => ?_)
          refine lv_goto (tgt := 21) hx hb dX2_forcedByLimit_67 (by decide) ?_
          exact ih (k + 1) l3 l4 (l5 + 1) ⟨k_s ek, by omega, by have := k_16 ek hk2 c_1; omega, by omega⟩ hF ls (lv_sub hl [1, 2, 0, 3, 4, 5] rfl)
        · have hF := hF.trans (if_neg c_2)
          refine lv_aload_n hx hb dX2_forcedByLimit_38 rfl (lv_at hl 3 rfl) ?_
          refine va_get (D := D) hx hb hts inX2 hown hK hP 0 rfl rfl 0 (by decide) (hts _ kw73) (fun _ h9 => h9) rfl dX2_forcedByLimit_39 ?_
          refine lv_iload hx hb dX2_forcedByLimit_42 (lv_at hl 2 rfl) ?_
          refine va_iald hx hb hK hP 1 0 rfl rfl (k_in ek (by have := k_16 ek hk2 c_1; omega) (by decide)) dX2_forcedByLimit_44 ?_
          refine lv_iload_n hx hb dX2_forcedByLimit_45 rfl (lv_at hl 0 rfl) ?_
          refine lv_icmp_le (tgt := 64) hx hb dX2_forcedByLimit_46 (by decide) (fun c_3 => ?_) (fun c_3 => ?_)
          · have hF := hF.trans (if_pos c_3)
            refine lv_iinc (v := l5 + 1) (lv' := [(5, .int (l5 + 1)), (3, .int l3), (4, .int l4), (0, .ref h0), (1, .ref h1), (2, .int x2)]) hx hb dX2_forcedByLimit_64 hl (k := 2) rfl rfl (by decide) rfl (fun ls hl => ?_)
            refine lv_goto (tgt := 21) hx hb dX2_forcedByLimit_67 (by decide) ?_
            exact ih (k + 1) l3 l4 (l5 + 1) ⟨k_s ek, by omega, by have := k_16 ek hk2 c_1; omega, by omega⟩ hF ls (lv_sub hl [1, 2, 0, 3, 4, 5] rfl)
          · have hF := hF.trans (if_neg c_3)
            refine lv_iload hx hb dX2_forcedByLimit_49 (lv_at hl 1 rfl) ?_
            refine lv_iload hx hb dX2_forcedByLimit_51 (lv_at hl 2 rfl) ?_
            have hPc : va_P D vwCl [] _ := hP.sub [] rfl
            refine rback (va_runSN (As := [.int l5]) (rest := [.int l4]) ⟨hx, hb, hml, hown, hts⟩ (ctX5_bitOf l D cI cZ l5) ⟨(cN hts kw269 (hN _ kn20) kw52 pmX5_bitOf ⟨Nat.le_of_ble_eq_true rfl, Nat.le_of_ble_eq_true rfl⟩), hts _ kw268, trivial⟩ ⟨rPc_blind, rpre hPc hK hN⟩ rfl rfl hl.1 rfl (lv_room (Nat.le_of_ble_eq_true rfl)) dX2_forcedByLimit_53 ⟨Nat.zero_le _, Nat.zero_le _⟩) ?_
            refine lv_iand hx hb dX2_forcedByLimit_56 ?_
            refine lv_if_ne (tgt := 64) hx hb dX2_forcedByLimit_57 (by decide) (fun c_4 => ?_) (fun c_4 => ?_)
            · have hF := hF.trans (if_neg c_4)
              refine lv_iinc (v := l5 + 1) (lv' := [(5, .int (l5 + 1)), (3, .int l3), (4, .int l4), (0, .ref h0), (1, .ref h1), (2, .int x2)]) hx hb dX2_forcedByLimit_64 hl (k := 2) rfl rfl (by decide) rfl (fun ls hl => ?_)
              refine lv_goto (tgt := 21) hx hb dX2_forcedByLimit_67 (by decide) ?_
              exact ih (k + 1) l3 l4 (l5 + 1) ⟨k_s ek, by omega, by have := k_16 ek hk2 c_1; omega, by omega⟩ hF ls (lv_sub hl [1, 2, 0, 3, 4, 5] rfl)
            · have hF := hF.trans (if_pos c_4)
              refine lv_iload hx hb dX2_forcedByLimit_60 (lv_at hl 2 rfl) ?_
              refine lv_ineg hx hb dX2_forcedByLimit_62 ?_
              exact rreti hx hb hr hlocks hF.symm dX2_forcedByLimit_63
  exact loop 17 1 (fX2_limitSlack x2 v_costs v1_ones) (v1_ones ||| v1_zeros) 1 ⟨rfl, by omega, by omega, by omega⟩ hF ls (lv_sub hl [2, 1, 0, 3, 4, 5] rfl)

-- LeastCost$Problem.forcedLiteral
theorem pmX2_forcedLiteral : mFit yX2_forcedLiteral 2 := ⟨by decide +kernel, by decide +kernel, by decide +kernel⟩
noncomputable def fX2_forcedLiteral_L2 (x2 : Int32) (v_constraints : Int32) (v_costs : Nat → Int32) (v_coefficients : Nat → Int32) (v_literals : Nat → Int32) (v_bits : Nat → Int32) (v_firsts : Nat → Int32) (v_bounds : Nat → Int32) (v1_ones : Int32) (v1_zeros : Int32) : Nat → Int32 → Int32
  | 0, l3 => 0
  | n + 1, l3 => (if v_constraints ≤ l3 then fX2_forcedByLimit x2 v_costs v1_ones v1_zeros else (if (fX2_forcedBy l3 v_coefficients v_literals v_bits v_firsts v_bounds v1_ones v1_zeros) = 0 then fX2_forcedLiteral_L2 x2 v_constraints v_costs v_coefficients v_literals v_bits v_firsts v_bounds v1_ones v1_zeros n (l3 + 1) else fX2_forcedBy l3 v_coefficients v_literals v_bits v_firsts v_bounds v1_ones v1_zeros))
noncomputable def fX2_forcedLiteral_d (x2 : Int32) (v_constraints : Int32) (v_costs : Nat → Int32) (v_coefficients : Nat → Int32) (v_literals : Nat → Int32) (v_bits : Nat → Int32) (v_firsts : Nat → Int32) (v_bounds : Nat → Int32) (v1_ones : Int32) (v1_zeros : Int32) : Int32 :=
  fX2_forcedLiteral_L2 x2 v_constraints v_costs v_coefficients v_literals v_bits v_firsts v_bounds v1_ones v1_zeros 21 0
theorem fX2_forcedLiteral_ex : ∃ f : Int32 → Int32 → (Nat → Int32) → (Nat → Int32) → (Nat → Int32) → (Nat → Int32) → (Nat → Int32) → (Nat → Int32) → Int32 → Int32 → Int32, ∀ (x2 : Int32) (v_constraints : Int32) (v_costs : Nat → Int32) (v_coefficients : Nat → Int32) (v_literals : Nat → Int32) (v_bits : Nat → Int32) (v_firsts : Nat → Int32) (v_bounds : Nat → Int32) (v1_ones : Int32) (v1_zeros : Int32), f x2 v_constraints v_costs v_coefficients v_literals v_bits v_firsts v_bounds v1_ones v1_zeros = fX2_forcedLiteral_d x2 v_constraints v_costs v_coefficients v_literals v_bits v_firsts v_bounds v1_ones v1_zeros := ⟨fX2_forcedLiteral_d, fun _ _ _ _ _ _ _ _ _ _ => rfl⟩
noncomputable def fX2_forcedLiteral : Int32 → Int32 → (Nat → Int32) → (Nat → Int32) → (Nat → Int32) → (Nat → Int32) → (Nat → Int32) → (Nat → Int32) → Int32 → Int32 → Int32 := Classical.choose fX2_forcedLiteral_ex
theorem fX2_forcedLiteral_eq (x2 : Int32) (v_constraints : Int32) (v_costs : Nat → Int32) (v_coefficients : Nat → Int32) (v_literals : Nat → Int32) (v_bits : Nat → Int32) (v_firsts : Nat → Int32) (v_bounds : Nat → Int32) (v1_ones : Int32) (v1_zeros : Int32) : fX2_forcedLiteral x2 v_constraints v_costs v_coefficients v_literals v_bits v_firsts v_bounds v1_ones v1_zeros = fX2_forcedLiteral_d x2 v_constraints v_costs v_coefficients v_literals v_bits v_firsts v_bounds v1_ones v1_zeros := Classical.choose_spec fX2_forcedLiteral_ex x2 v_constraints v_costs v_coefficients v_literals v_bits v_firsts v_bounds v1_ones v1_zeros
set_option maxHeartbeats 1000000 in
set_option maxRecDepth 100000 in
theorem ctX2_forcedLiteral (l : Launch) (D : va_G) (cI cZ : ClassId) (h0 h0_costs h0_coefficients h0_literals h0_bits h0_firsts h0_bounds h1 : Nat) (x2 : Int32) (v_terms v_constraints v_taken v1_ones v1_zeros : Int32) (v_costs v_coefficients v_literals v_bits v_firsts v_bounds : Nat → Int32) (hO : okP v_firsts v_constraints) : Met l yX2_forcedLiteral (gw yX2_forcedLiteral cX2_forcedLiteral 5 (some .int)) { frames := 3, cells := 0, slots := 0, locals := 70 } (rPc D cI cZ [.ref h0, .ref h1, .int x2] [(h0, .inr (2, [.ref h0_costs, .ref h0_coefficients, .ref h0_literals, .ref h0_bits, .ref h0_firsts, .ref h0_bounds, .int v_terms, .int v_constraints, .int v_taken])), (h0_costs, .inl (cI, 17, .inl v_costs)), (h0_coefficients, .inl (cI, 120, .inl v_coefficients)), (h0_literals, .inl (cI, 120, .inl v_literals)), (h0_bits, .inl (cI, 120, .inl v_bits)), (h0_firsts, .inl (cI, 21, .inl v_firsts)), (h0_bounds, .inl (cI, 20, .inl v_bounds)), (h1, .inr (4, [.int v1_ones, .int v1_zeros]))]) (rQ (fX2_forcedLiteral x2 v_constraints v_costs v_coefficients v_literals v_bits v_firsts v_bounds v1_ones v1_zeros)) 0 0 (fun _ => False) := by
  refine rMet (by decide) (Nat.le_of_ble_eq_true rfl) ?_
  intro p e s m below meth c hx hb hr hlocks hml hown hts hP hK hN ls hl
  have hl : lv_has ls 5 [(0, .ref h0), (1, .ref h1), (2, .int x2)] := hl
  have hF := (fX2_forcedLiteral_eq x2 v_constraints v_costs v_coefficients v_literals v_bits v_firsts v_bounds v1_ones v1_zeros).trans (fX2_forcedLiteral_d.eq_1 x2 v_constraints v_costs v_coefficients v_literals v_bits v_firsts v_bounds v1_ones v1_zeros)
  obtain ⟨C, eC, hC20, hall⟩ := hO
  refine lv_iconst (v := 0) hx hb dX2_forcedLiteral_0 (by decide) ?_
  refine lv_istore_n (lv' := [(3, .int 0), (0, .ref h0), (1, .ref h1), (2, .int x2)]) hx hb dX2_forcedLiteral_1 rfl hl (by decide) rfl (fun ls hl => ?_)
  have loop : ∀ (n : Nat) (k : Nat) (l3 : Int32) , l3 = nI k ∧ k ≤ 20 ∧ 20 < k + n → fX2_forcedLiteral x2 v_constraints v_costs v_coefficients v_literals v_bits v_firsts v_bounds v1_ones v1_zeros = fX2_forcedLiteral_L2 x2 v_constraints v_costs v_coefficients v_literals v_bits v_firsts v_bounds v1_ones v1_zeros n l3 → ∀ ls : Array Slot, lv_has ls 5 [(3, .int l3), (0, .ref h0), (1, .ref h1), (2, .int x2)] → W p l e { frames := 3, cells := 0, slots := 0, locals := 70 } s m [.ref h0, .ref h1, .int x2].toArray below meth c s.heap [] 0 0 (MQ below (rQ (fX2_forcedLiteral x2 v_constraints v_costs v_coefficients v_literals v_bits v_firsts v_bounds v1_ones v1_zeros)) [.ref h0, .ref h1, .int x2].toArray s 0 0 (fun _ => False)) (F0 m 2 ls []) := by
    intro n
    induction n with
    | zero =>
      intro k l3 hk hF
      exact (by obtain ⟨_, h2, h3⟩ := hk; exact absurd h3 (by omega))
    | succ n ih =>
      intro k l3 hk hF ls hl
      have hF := hF.trans (fX2_forcedLiteral_L2.eq_2 ..)
      obtain ⟨ek, hk1, hk2⟩ := hk
      refine lv_iload_n hx hb dX2_forcedLiteral_2 rfl (lv_at hl 0 rfl) ?_
      refine lv_aload_n hx hb dX2_forcedLiteral_3 rfl (lv_at hl 1 rfl) ?_
      refine va_get (D := D) hx hb hts inX2 hown hK hP 0 rfl rfl 7 (by decide) (hts _ kw81) (fun _ h9 => h9) rfl dX2_forcedLiteral_4 ?_
      refine lv_icmp_ge (tgt := 32) hx hb dX2_forcedLiteral_7 (by decide) (fun c_1 => ?_) (fun c_1 => ?_)
      · have hF := hF.trans (if_pos c_1)
        refine lv_aload_n hx hb dX2_forcedLiteral_32 rfl (lv_at hl 1 rfl) ?_
        refine lv_aload_n hx hb dX2_forcedLiteral_33 rfl (lv_at hl 2 rfl) ?_
        refine lv_iload_n hx hb dX2_forcedLiteral_34 rfl (lv_at hl 3 rfl) ?_
        have hPc : va_P D vwCl [(h0, .inr (2, [.ref h0_costs, .ref h0_coefficients, .ref h0_literals, .ref h0_bits, .ref h0_firsts, .ref h0_bounds, .int v_terms, .int v_constraints, .int v_taken])), (h0_costs, .inl (cI, 17, .inl v_costs)), (h1, .inr (4, [.int v1_ones, .int v1_zeros]))] _ := hP.sub [0, 1, 7] rfl
        refine rback (va_runV (As := [.ref h1, .int x2]) (rest := []) ⟨hx, hb, hml, hown, hts⟩ (ctX2_forcedByLimit l D cI cZ h0 h0_costs h0_coefficients h0_literals h0_bits h0_firsts h0_bounds h1 x2 v_terms v_constraints v_taken v1_ones v1_zeros v_costs) ⟨(cB hts kw348 kw345 kw53 pmX2_forcedByLimit ⟨Nat.le_of_ble_eq_true rfl, Nat.le_of_ble_eq_true rfl⟩), hts _ kw347, hts _ kw16⟩ ⟨rPc_blind, va_recv hK hP (ci := 2) (q0 := 0) rfl rfl, rpre hPc hK hN⟩ rfl rfl hl.1 rfl (lv_room (Nat.le_of_ble_eq_true rfl)) dX2_forcedLiteral_35 ⟨Nat.zero_le _, Nat.zero_le _⟩) ?_
        exact rreti hx hb hr hlocks hF.symm dX2_forcedLiteral_38
      · have hF := hF.trans (if_neg c_1)
        refine lv_aload_n hx hb dX2_forcedLiteral_10 rfl (lv_at hl 1 rfl) ?_
        refine lv_iload_n hx hb dX2_forcedLiteral_11 rfl (lv_at hl 0 rfl) ?_
        refine lv_aload_n hx hb dX2_forcedLiteral_12 rfl (lv_at hl 2 rfl) ?_
        have hPc : va_P D vwCl [(h0, .inr (2, [.ref h0_costs, .ref h0_coefficients, .ref h0_literals, .ref h0_bits, .ref h0_firsts, .ref h0_bounds, .int v_terms, .int v_constraints, .int v_taken])), (h0_coefficients, .inl (cI, 120, .inl v_coefficients)), (h0_literals, .inl (cI, 120, .inl v_literals)), (h0_bits, .inl (cI, 120, .inl v_bits)), (h0_firsts, .inl (cI, 21, .inl v_firsts)), (h0_bounds, .inl (cI, 20, .inl v_bounds)), (h1, .inr (4, [.int v1_ones, .int v1_zeros]))] _ := hP.sub [0, 2, 3, 4, 5, 6, 7] rfl
        refine rback (va_runV (As := [.int l3, .ref h1]) (rest := []) ⟨hx, hb, hml, hown, hts⟩ (ctX2_forcedBy l D cI cZ h0 h0_costs h0_coefficients h0_literals h0_bits h0_firsts h0_bounds h1 l3 v_terms v_constraints v_taken v1_ones v1_zeros v_coefficients v_literals v_bits v_firsts v_bounds (by rw [ek]; exact hall k (okC_lt20 ek eC hk1 c_1))) ⟨(cB hts kw344 kw341 kw53 pmX2_forcedBy ⟨Nat.le_of_ble_eq_true rfl, Nat.le_of_ble_eq_true rfl⟩), hts _ kw343, hts _ kw15⟩ ⟨rPc_blind, va_recv hK hP (ci := 2) (q0 := 0) rfl rfl, rpre hPc hK hN⟩ rfl rfl hl.1 rfl (lv_room (Nat.le_of_ble_eq_true rfl)) dX2_forcedLiteral_13 ⟨Nat.zero_le _, Nat.zero_le _⟩) ?_
        refine lv_istore (lv' := [(4, .int (fX2_forcedBy l3 v_coefficients v_literals v_bits v_firsts v_bounds v1_ones v1_zeros)), (3, .int l3), (0, .ref h0), (1, .ref h1), (2, .int x2)]) hx hb dX2_forcedLiteral_16 hl (by decide) rfl (fun ls hl => ?_)
        refine lv_iload hx hb dX2_forcedLiteral_18 (lv_at hl 0 rfl) ?_
        refine lv_if_eq (tgt := 26) hx hb dX2_forcedLiteral_20 (by decide) (fun c_2 => ?_) (fun c_2 => ?_)
        · have hF := hF.trans (if_pos c_2)
          refine lv_iinc (v := l3 + 1) (lv' := [(3, .int (l3 + 1)), (4, .int (fX2_forcedBy l3 v_coefficients v_literals v_bits v_firsts v_bounds v1_ones v1_zeros)), (0, .ref h0), (1, .ref h1), (2, .int x2)]) hx hb dX2_forcedLiteral_26 hl (k := 1) rfl rfl (by decide) rfl (fun ls hl => ?_)
          refine lv_goto (tgt := 2) hx hb dX2_forcedLiteral_29 (by decide) ?_
          exact ih (k + 1) (l3 + 1) ⟨k_s ek, by have := okC_lt20 ek eC hk1 c_1; omega, by omega⟩ hF ls (lv_sub hl [0, 2, 3, 4] rfl)
        · have hF := hF.trans (if_neg c_2)
          refine lv_iload hx hb dX2_forcedLiteral_23 (lv_at hl 0 rfl) ?_
          exact rreti hx hb hr hlocks hF.symm dX2_forcedLiteral_25
  exact loop 21 0 0 ⟨rfl, by omega, by omega⟩ hF ls (lv_sub hl [0, 1, 2, 3] rfl)
end
section
-- LeastCost$Problem.addTerm
theorem pmX2_addTerm : mFit yX2_addTerm 2 := ⟨by decide +kernel, by decide +kernel, by decide +kernel⟩
noncomputable def fX2_addTerm_d (x1 : Int32) (x2 : Int32) (v_terms : Int32) (v_constraints : Int32) (v_taken : Int32) (v_coefficients : Nat → Int32) (v_literals : Nat → Int32) (v_bits : Nat → Int32) : Int32 × Int32 × Int32 × (Nat → Int32) × (Nat → Int32) × (Nat → Int32) :=
  (if 20 ≤ v_constraints then (0, v_terms, v_taken, v_coefficients, v_literals, v_bits) else (if 120 ≤ v_terms then (0, v_terms, v_taken, v_coefficients, v_literals, v_bits) else (if (v_taken &&& (fX5_bitOf (fX5_variableOf x2))) = 0 then (1, v_terms + 1, v_taken ||| (fX5_bitOf (fX5_variableOf x2)), (upd v_coefficients v_terms.toNatClampNeg x1), (upd v_literals v_terms.toNatClampNeg x2), (upd v_bits v_terms.toNatClampNeg (fX5_bitOf (fX5_variableOf x2)))) else (0, v_terms, v_taken, v_coefficients, v_literals, v_bits))))
theorem fX2_addTerm_ex : ∃ f : Int32 → Int32 → Int32 → Int32 → Int32 → (Nat → Int32) → (Nat → Int32) → (Nat → Int32) → (Int32 × Int32 × Int32 × (Nat → Int32) × (Nat → Int32) × (Nat → Int32)), ∀ (x1 : Int32) (x2 : Int32) (v_terms : Int32) (v_constraints : Int32) (v_taken : Int32) (v_coefficients : Nat → Int32) (v_literals : Nat → Int32) (v_bits : Nat → Int32), f x1 x2 v_terms v_constraints v_taken v_coefficients v_literals v_bits = fX2_addTerm_d x1 x2 v_terms v_constraints v_taken v_coefficients v_literals v_bits := ⟨fX2_addTerm_d, fun _ _ _ _ _ _ _ _ => rfl⟩
noncomputable def fX2_addTerm : Int32 → Int32 → Int32 → Int32 → Int32 → (Nat → Int32) → (Nat → Int32) → (Nat → Int32) → (Int32 × Int32 × Int32 × (Nat → Int32) × (Nat → Int32) × (Nat → Int32)) := Classical.choose fX2_addTerm_ex
theorem fX2_addTerm_eq (x1 : Int32) (x2 : Int32) (v_terms : Int32) (v_constraints : Int32) (v_taken : Int32) (v_coefficients : Nat → Int32) (v_literals : Nat → Int32) (v_bits : Nat → Int32) : fX2_addTerm x1 x2 v_terms v_constraints v_taken v_coefficients v_literals v_bits = fX2_addTerm_d x1 x2 v_terms v_constraints v_taken v_coefficients v_literals v_bits := Classical.choose_spec fX2_addTerm_ex x1 x2 v_terms v_constraints v_taken v_coefficients v_literals v_bits
set_option maxHeartbeats 1000000 in
set_option maxRecDepth 100000 in
theorem ctX2_addTerm (l : Launch) (D : va_G) (cI cZ : ClassId) (h0 h0_costs h0_coefficients h0_literals h0_bits h0_firsts h0_bounds : Nat) (x1 : Int32) (x2 : Int32) (v_terms v_constraints v_taken : Int32) (v_coefficients v_literals v_bits : Nat → Int32) (hT : okN 120 v_terms) : Met l yX2_addTerm (gw yX2_addTerm cX2_addTerm 4 (some .boolean)) { frames := 1, cells := 0, slots := 0, locals := 20 } (wPc D cI cZ [.ref h0, .int x1, .int x2] [(h0, .inr (2, [.ref h0_costs, .ref h0_coefficients, .ref h0_literals, .ref h0_bits, .ref h0_firsts, .ref h0_bounds, .int v_terms, .int v_constraints, .int v_taken])), (h0_coefficients, .inl (cI, 120, .inl v_coefficients)), (h0_literals, .inl (cI, 120, .inl v_literals)), (h0_bits, .inl (cI, 120, .inl v_bits))]) (wQ D (some (.int ((fX2_addTerm x1 x2 v_terms v_constraints v_taken v_coefficients v_literals v_bits).1))) [(h0, .inr (2, [.ref h0_costs, .ref h0_coefficients, .ref h0_literals, .ref h0_bits, .ref h0_firsts, .ref h0_bounds, .int v_terms, .int v_constraints, .int v_taken])), (h0_coefficients, .inl (cI, 120, .inl v_coefficients)), (h0_literals, .inl (cI, 120, .inl v_literals)), (h0_bits, .inl (cI, 120, .inl v_bits))] [(h0, .inr (2, [.ref h0_costs, .ref h0_coefficients, .ref h0_literals, .ref h0_bits, .ref h0_firsts, .ref h0_bounds, .int ((fX2_addTerm x1 x2 v_terms v_constraints v_taken v_coefficients v_literals v_bits).2.1), .int v_constraints, .int ((fX2_addTerm x1 x2 v_terms v_constraints v_taken v_coefficients v_literals v_bits).2.2.1)])), (h0_coefficients, .inl (cI, 120, .inl ((fX2_addTerm x1 x2 v_terms v_constraints v_taken v_coefficients v_literals v_bits).2.2.2.1))), (h0_literals, .inl (cI, 120, .inl ((fX2_addTerm x1 x2 v_terms v_constraints v_taken v_coefficients v_literals v_bits).2.2.2.2.1))), (h0_bits, .inl (cI, 120, .inl ((fX2_addTerm x1 x2 v_terms v_constraints v_taken v_coefficients v_literals v_bits).2.2.2.2.2)))]) 0 0 (aw [(h0, .inr (2, [.ref h0_costs, .ref h0_coefficients, .ref h0_literals, .ref h0_bits, .ref h0_firsts, .ref h0_bounds, .int v_terms, .int v_constraints, .int v_taken])), (h0_coefficients, .inl (cI, 120, .inl v_coefficients)), (h0_literals, .inl (cI, 120, .inl v_literals)), (h0_bits, .inl (cI, 120, .inl v_bits))]) := by
  refine wMet (by decide) (Nat.le_of_ble_eq_true rfl) ?_
  intro p e s m below meth c hx hb hr hlocks hml hown hts hP hK hN hD hS ls hl
  have hl : lv_has ls 4 [(0, .ref h0), (1, .int x1), (2, .int x2)] := hl
  have hF := (fX2_addTerm_eq x1 x2 v_terms v_constraints v_taken v_coefficients v_literals v_bits).trans (fX2_addTerm_d.eq_1 x1 x2 v_terms v_constraints v_taken v_coefficients v_literals v_bits)
  refine lv_iload_n hx hb dX2_addTerm_0 rfl (lv_at hl 2 rfl) ?_
  have hPc : va_P D vwCl [] _ := hP.sub [] rfl
  refine rback (va_runSN (As := [.int x2]) (rest := []) ⟨hx, hb, hml, hown, hts⟩ (ctX5_variableOf l D cI cZ x2) ⟨(cN hts kw261 (hN _ kn19) kw52 pmX5_variableOf ⟨Nat.le_of_ble_eq_true rfl, Nat.le_of_ble_eq_true rfl⟩), hts _ kw260, trivial⟩ ⟨rPc_blind, rpre hPc hK hN⟩ rfl rfl hl.1 rfl (lv_room (Nat.le_of_ble_eq_true rfl)) dX2_addTerm_1 ⟨Nat.zero_le _, Nat.zero_le _⟩) ?_
  have hPc : va_P D vwCl [] _ := hP.sub [] rfl
  refine rback (va_runSN (As := [.int (fX5_variableOf x2)]) (rest := []) ⟨hx, hb, hml, hown, hts⟩ (ctX5_bitOf l D cI cZ (fX5_variableOf x2)) ⟨(cN hts kw269 (hN _ kn20) kw52 pmX5_bitOf ⟨Nat.le_of_ble_eq_true rfl, Nat.le_of_ble_eq_true rfl⟩), hts _ kw268, trivial⟩ ⟨rPc_blind, rpre hPc hK hN⟩ rfl rfl hl.1 rfl (lv_room (Nat.le_of_ble_eq_true rfl)) dX2_addTerm_4 ⟨Nat.zero_le _, Nat.zero_le _⟩) ?_
  refine lv_istore_n (lv' := [(3, .int (fX5_bitOf (fX5_variableOf x2))), (0, .ref h0), (1, .int x1), (2, .int x2)]) hx hb dX2_addTerm_7 rfl hl (by decide) rfl (fun ls hl => ?_)
  refine lv_aload_n hx hb dX2_addTerm_8 rfl (lv_at hl 1 rfl) ?_
  refine va_get (D := D) hx hb hts inX2 hown hK hP 0 rfl rfl 7 (by decide) (hts _ kw81) (fun _ h9 => h9) rfl dX2_addTerm_9 ?_
  refine lv_bipush (v := 20) hx hb dX2_addTerm_12 (by decide) ?_
  refine lv_icmp_ge (tgt := 35) hx hb dX2_addTerm_14 (by decide) (fun c_1 => ?_) (fun c_1 => ?_)
  · have hF := hF.trans (if_pos c_1)
    refine lv_iconst (v := 0) hx hb dX2_addTerm_35 (by decide) ?_
    exact wretz hx hb hr hlocks (Or.inl rfl) (by rw [hF]) (by rw [hF]; exact hP) hS dX2_addTerm_36
  · have hF := hF.trans (if_neg c_1)
    refine lv_aload_n hx hb dX2_addTerm_17 rfl (lv_at hl 1 rfl) ?_
    refine va_get (D := D) hx hb hts inX2 hown hK hP 0 rfl rfl 6 (by decide) (hts _ kw80) (fun _ h9 => h9) rfl dX2_addTerm_18 ?_
    refine lv_bipush (v := 120) hx hb dX2_addTerm_21 (by decide) ?_
    refine lv_icmp_ge (tgt := 35) hx hb dX2_addTerm_23 (by decide) (fun c_2 => ?_) (fun c_2 => ?_)
    · have hF := hF.trans (if_pos c_2)
      refine lv_iconst (v := 0) hx hb dX2_addTerm_35 (by decide) ?_
      exact wretz hx hb hr hlocks (Or.inl rfl) (by rw [hF]) (by rw [hF]; exact hP) hS dX2_addTerm_36
    · have hF := hF.trans (if_neg c_2)
      refine lv_aload_n hx hb dX2_addTerm_26 rfl (lv_at hl 1 rfl) ?_
      refine va_get (D := D) hx hb hts inX2 hown hK hP 0 rfl rfl 8 (by decide) (hts _ kw82) (fun _ h9 => h9) rfl dX2_addTerm_27 ?_
      refine lv_iload_n hx hb dX2_addTerm_30 rfl (lv_at hl 0 rfl) ?_
      refine lv_iand hx hb dX2_addTerm_31 ?_
      refine lv_if_eq (tgt := 37) hx hb dX2_addTerm_32 (by decide) (fun c_3 => ?_) (fun c_3 => ?_)
      · have hF := hF.trans (if_pos c_3)
        refine lv_aload_n hx hb dX2_addTerm_37 rfl (lv_at hl 1 rfl) ?_
        refine va_get (D := D) hx hb hts inX2 hown hK hP 0 rfl rfl 1 (by decide) (hts _ kw75) (fun _ h9 => h9) rfl dX2_addTerm_38 ?_
        refine lv_aload_n hx hb dX2_addTerm_41 rfl (lv_at hl 1 rfl) ?_
        refine va_get (D := D) hx hb hts inX2 hown hK hP 0 rfl rfl 6 (by decide) (hts _ kw80) (fun _ h9 => h9) rfl dX2_addTerm_42 ?_
        refine lv_iload_n hx hb dX2_addTerm_45 rfl (lv_at hl 2 rfl) ?_
        refine va_iast hx hb hK hP hD hS 1 0 rfl rfl (okN_in hT (by decide) (k_lt_of c_2)) dX2_addTerm_46 (fun H locs hP hD hS => ?_)
        have hP : va_P D vwCl [(h0, .inr (2, [.ref h0_costs, .ref h0_coefficients, .ref h0_literals, .ref h0_bits, .ref h0_firsts, .ref h0_bounds, .int v_terms, .int v_constraints, .int v_taken])), (h0_coefficients, .inl (cI, 120, .inl (upd v_coefficients v_terms.toNatClampNeg x1))), (h0_literals, .inl (cI, 120, .inl v_literals)), (h0_bits, .inl (cI, 120, .inl v_bits))] H := hP
        have hD : va_D _ [(h0, .inr (2, [.ref h0_costs, .ref h0_coefficients, .ref h0_literals, .ref h0_bits, .ref h0_firsts, .ref h0_bounds, .int v_terms, .int v_constraints, .int v_taken])), (h0_coefficients, .inl (cI, 120, .inl (upd v_coefficients v_terms.toNatClampNeg x1))), (h0_literals, .inl (cI, 120, .inl v_literals)), (h0_bits, .inl (cI, 120, .inl v_bits))] := hD
        refine lv_aload_n hx hb dX2_addTerm_47 rfl (lv_at hl 1 rfl) ?_
        refine va_get (D := D) hx hb hts inX2 hown hK hP 0 rfl rfl 2 (by decide) (hts _ kw76) (fun _ h9 => h9) rfl dX2_addTerm_48 ?_
        refine lv_aload_n hx hb dX2_addTerm_51 rfl (lv_at hl 1 rfl) ?_
        refine va_get (D := D) hx hb hts inX2 hown hK hP 0 rfl rfl 6 (by decide) (hts _ kw80) (fun _ h9 => h9) rfl dX2_addTerm_52 ?_
        refine lv_iload_n hx hb dX2_addTerm_55 rfl (lv_at hl 3 rfl) ?_
        refine va_iast hx hb hK hP hD hS 2 0 rfl rfl (okN_in hT (by decide) (k_lt_of c_2)) dX2_addTerm_56 (fun H locs hP hD hS => ?_)
        have hP : va_P D vwCl [(h0, .inr (2, [.ref h0_costs, .ref h0_coefficients, .ref h0_literals, .ref h0_bits, .ref h0_firsts, .ref h0_bounds, .int v_terms, .int v_constraints, .int v_taken])), (h0_coefficients, .inl (cI, 120, .inl (upd v_coefficients v_terms.toNatClampNeg x1))), (h0_literals, .inl (cI, 120, .inl (upd v_literals v_terms.toNatClampNeg x2))), (h0_bits, .inl (cI, 120, .inl v_bits))] H := hP
        have hD : va_D _ [(h0, .inr (2, [.ref h0_costs, .ref h0_coefficients, .ref h0_literals, .ref h0_bits, .ref h0_firsts, .ref h0_bounds, .int v_terms, .int v_constraints, .int v_taken])), (h0_coefficients, .inl (cI, 120, .inl (upd v_coefficients v_terms.toNatClampNeg x1))), (h0_literals, .inl (cI, 120, .inl (upd v_literals v_terms.toNatClampNeg x2))), (h0_bits, .inl (cI, 120, .inl v_bits))] := hD
        refine lv_aload_n hx hb dX2_addTerm_57 rfl (lv_at hl 1 rfl) ?_
        refine va_get (D := D) hx hb hts inX2 hown hK hP 0 rfl rfl 3 (by decide) (hts _ kw77) (fun _ h9 => h9) rfl dX2_addTerm_58 ?_
        refine lv_aload_n hx hb dX2_addTerm_61 rfl (lv_at hl 1 rfl) ?_
        refine va_get (D := D) hx hb hts inX2 hown hK hP 0 rfl rfl 6 (by decide) (hts _ kw80) (fun _ h9 => h9) rfl dX2_addTerm_62 ?_
        refine lv_iload_n hx hb dX2_addTerm_65 rfl (lv_at hl 0 rfl) ?_
        refine va_iast hx hb hK hP hD hS 3 0 rfl rfl (okN_in hT (by decide) (k_lt_of c_2)) dX2_addTerm_66 (fun H locs hP hD hS => ?_)
        have hP : va_P D vwCl [(h0, .inr (2, [.ref h0_costs, .ref h0_coefficients, .ref h0_literals, .ref h0_bits, .ref h0_firsts, .ref h0_bounds, .int v_terms, .int v_constraints, .int v_taken])), (h0_coefficients, .inl (cI, 120, .inl (upd v_coefficients v_terms.toNatClampNeg x1))), (h0_literals, .inl (cI, 120, .inl (upd v_literals v_terms.toNatClampNeg x2))), (h0_bits, .inl (cI, 120, .inl (upd v_bits v_terms.toNatClampNeg (fX5_bitOf (fX5_variableOf x2)))))] H := hP
        have hD : va_D _ [(h0, .inr (2, [.ref h0_costs, .ref h0_coefficients, .ref h0_literals, .ref h0_bits, .ref h0_firsts, .ref h0_bounds, .int v_terms, .int v_constraints, .int v_taken])), (h0_coefficients, .inl (cI, 120, .inl (upd v_coefficients v_terms.toNatClampNeg x1))), (h0_literals, .inl (cI, 120, .inl (upd v_literals v_terms.toNatClampNeg x2))), (h0_bits, .inl (cI, 120, .inl (upd v_bits v_terms.toNatClampNeg (fX5_bitOf (fX5_variableOf x2)))))] := hD
        refine lv_aload_n hx hb dX2_addTerm_67 rfl (lv_at hl 1 rfl) ?_
        refine lv_dup hx hb dX2_addTerm_68 rfl ?_
        refine va_get (D := D) hx hb hts inX2 hown hK hP 0 rfl rfl 6 (by decide) (hts _ kw80) (fun _ h9 => h9) rfl dX2_addTerm_69 ?_
        refine lv_iconst (v := 1) hx hb dX2_addTerm_72 (by decide) ?_
        refine lv_iadd hx hb dX2_addTerm_73 ?_
        refine va_put (D := D) (v := .int (v_terms + 1)) (ty := .int) hx hb hts inX2 tyX2 tyX2_ok nmX2 hown hK hP hD hS 0 rfl rfl 6 (by decide) (hts _ kw80) (fun _ h9 => h9) rfl (by decide +kernel) rfl rfl (Nat.le_of_ble_eq_true rfl) dX2_addTerm_74 (fun H locs hP hD hS => ?_)
        have hP : va_P D vwCl [(h0, .inr (2, [.ref h0_costs, .ref h0_coefficients, .ref h0_literals, .ref h0_bits, .ref h0_firsts, .ref h0_bounds, .int (v_terms + 1), .int v_constraints, .int v_taken])), (h0_coefficients, .inl (cI, 120, .inl (upd v_coefficients v_terms.toNatClampNeg x1))), (h0_literals, .inl (cI, 120, .inl (upd v_literals v_terms.toNatClampNeg x2))), (h0_bits, .inl (cI, 120, .inl (upd v_bits v_terms.toNatClampNeg (fX5_bitOf (fX5_variableOf x2)))))] H := hP
        have hD : va_D _ [(h0, .inr (2, [.ref h0_costs, .ref h0_coefficients, .ref h0_literals, .ref h0_bits, .ref h0_firsts, .ref h0_bounds, .int (v_terms + 1), .int v_constraints, .int v_taken])), (h0_coefficients, .inl (cI, 120, .inl (upd v_coefficients v_terms.toNatClampNeg x1))), (h0_literals, .inl (cI, 120, .inl (upd v_literals v_terms.toNatClampNeg x2))), (h0_bits, .inl (cI, 120, .inl (upd v_bits v_terms.toNatClampNeg (fX5_bitOf (fX5_variableOf x2)))))] := hD
        refine lv_aload_n hx hb dX2_addTerm_77 rfl (lv_at hl 1 rfl) ?_
        refine lv_dup hx hb dX2_addTerm_78 rfl ?_
        refine va_get (D := D) hx hb hts inX2 hown hK hP 0 rfl rfl 8 (by decide) (hts _ kw82) (fun _ h9 => h9) rfl dX2_addTerm_79 ?_
        refine lv_iload_n hx hb dX2_addTerm_82 rfl (lv_at hl 0 rfl) ?_
        refine lv_ior hx hb dX2_addTerm_83 ?_
        refine va_put (D := D) (v := .int (v_taken ||| (fX5_bitOf (fX5_variableOf x2)))) (ty := .int) hx hb hts inX2 tyX2 tyX2_ok nmX2 hown hK hP hD hS 0 rfl rfl 8 (by decide) (hts _ kw82) (fun _ h9 => h9) rfl (by decide +kernel) rfl rfl (Nat.le_of_ble_eq_true rfl) dX2_addTerm_84 (fun H locs hP hD hS => ?_)
        have hP : va_P D vwCl [(h0, .inr (2, [.ref h0_costs, .ref h0_coefficients, .ref h0_literals, .ref h0_bits, .ref h0_firsts, .ref h0_bounds, .int (v_terms + 1), .int v_constraints, .int (v_taken ||| (fX5_bitOf (fX5_variableOf x2)))])), (h0_coefficients, .inl (cI, 120, .inl (upd v_coefficients v_terms.toNatClampNeg x1))), (h0_literals, .inl (cI, 120, .inl (upd v_literals v_terms.toNatClampNeg x2))), (h0_bits, .inl (cI, 120, .inl (upd v_bits v_terms.toNatClampNeg (fX5_bitOf (fX5_variableOf x2)))))] H := hP
        have hD : va_D _ [(h0, .inr (2, [.ref h0_costs, .ref h0_coefficients, .ref h0_literals, .ref h0_bits, .ref h0_firsts, .ref h0_bounds, .int (v_terms + 1), .int v_constraints, .int (v_taken ||| (fX5_bitOf (fX5_variableOf x2)))])), (h0_coefficients, .inl (cI, 120, .inl (upd v_coefficients v_terms.toNatClampNeg x1))), (h0_literals, .inl (cI, 120, .inl (upd v_literals v_terms.toNatClampNeg x2))), (h0_bits, .inl (cI, 120, .inl (upd v_bits v_terms.toNatClampNeg (fX5_bitOf (fX5_variableOf x2)))))] := hD
        refine lv_iconst (v := 1) hx hb dX2_addTerm_87 (by decide) ?_
        exact wretz hx hb hr hlocks (Or.inr rfl) (by rw [hF]) (by rw [hF]; exact hP) hS dX2_addTerm_88
      · have hF := hF.trans (if_neg c_3)
        refine lv_iconst (v := 0) hx hb dX2_addTerm_35 (by decide) ?_
        exact wretz hx hb hr hlocks (Or.inl rfl) (by rw [hF]) (by rw [hF]; exact hP) hS dX2_addTerm_36

-- LeastCost$Problem.makeConstraint
theorem pmX2_makeConstraint : mFit yX2_makeConstraint 1 := ⟨by decide +kernel, by decide +kernel, by decide +kernel⟩
noncomputable def fX2_makeConstraint_d (x1 : Int32) (v_terms : Int32) (v_constraints : Int32) (v_taken : Int32) (v_firsts : Nat → Int32) (v_bounds : Nat → Int32) : Int32 × Int32 × Int32 × (Nat → Int32) × (Nat → Int32) :=
  (if v_constraints < 20 then (v_constraints, v_constraints + 1, 0, (upd v_firsts (v_constraints + 1).toNatClampNeg v_terms), (upd v_bounds v_constraints.toNatClampNeg x1)) else ((-1), v_constraints, v_taken, v_firsts, v_bounds))
theorem fX2_makeConstraint_ex : ∃ f : Int32 → Int32 → Int32 → Int32 → (Nat → Int32) → (Nat → Int32) → (Int32 × Int32 × Int32 × (Nat → Int32) × (Nat → Int32)), ∀ (x1 : Int32) (v_terms : Int32) (v_constraints : Int32) (v_taken : Int32) (v_firsts : Nat → Int32) (v_bounds : Nat → Int32), f x1 v_terms v_constraints v_taken v_firsts v_bounds = fX2_makeConstraint_d x1 v_terms v_constraints v_taken v_firsts v_bounds := ⟨fX2_makeConstraint_d, fun _ _ _ _ _ _ => rfl⟩
noncomputable def fX2_makeConstraint : Int32 → Int32 → Int32 → Int32 → (Nat → Int32) → (Nat → Int32) → (Int32 × Int32 × Int32 × (Nat → Int32) × (Nat → Int32)) := Classical.choose fX2_makeConstraint_ex
theorem fX2_makeConstraint_eq (x1 : Int32) (v_terms : Int32) (v_constraints : Int32) (v_taken : Int32) (v_firsts : Nat → Int32) (v_bounds : Nat → Int32) : fX2_makeConstraint x1 v_terms v_constraints v_taken v_firsts v_bounds = fX2_makeConstraint_d x1 v_terms v_constraints v_taken v_firsts v_bounds := Classical.choose_spec fX2_makeConstraint_ex x1 v_terms v_constraints v_taken v_firsts v_bounds
set_option maxHeartbeats 1000000 in
set_option maxRecDepth 100000 in
theorem ctX2_makeConstraint (l : Launch) (D : va_G) (cI cZ : ClassId) (h0 h0_costs h0_coefficients h0_literals h0_bits h0_firsts h0_bounds : Nat) (x1 : Int32) (v_terms v_constraints v_taken : Int32) (v_firsts v_bounds : Nat → Int32) (hCn : okN 20 v_constraints) : Met l yX2_makeConstraint (gw yX2_makeConstraint cX2_makeConstraint 3 (some .int)) { frames := 0, cells := 0, slots := 0, locals := 0 } (wPc D cI cZ [.ref h0, .int x1] [(h0, .inr (2, [.ref h0_costs, .ref h0_coefficients, .ref h0_literals, .ref h0_bits, .ref h0_firsts, .ref h0_bounds, .int v_terms, .int v_constraints, .int v_taken])), (h0_firsts, .inl (cI, 21, .inl v_firsts)), (h0_bounds, .inl (cI, 20, .inl v_bounds))]) (wQ D (some (.int ((fX2_makeConstraint x1 v_terms v_constraints v_taken v_firsts v_bounds).1))) [(h0, .inr (2, [.ref h0_costs, .ref h0_coefficients, .ref h0_literals, .ref h0_bits, .ref h0_firsts, .ref h0_bounds, .int v_terms, .int v_constraints, .int v_taken])), (h0_firsts, .inl (cI, 21, .inl v_firsts)), (h0_bounds, .inl (cI, 20, .inl v_bounds))] [(h0, .inr (2, [.ref h0_costs, .ref h0_coefficients, .ref h0_literals, .ref h0_bits, .ref h0_firsts, .ref h0_bounds, .int v_terms, .int ((fX2_makeConstraint x1 v_terms v_constraints v_taken v_firsts v_bounds).2.1), .int ((fX2_makeConstraint x1 v_terms v_constraints v_taken v_firsts v_bounds).2.2.1)])), (h0_firsts, .inl (cI, 21, .inl ((fX2_makeConstraint x1 v_terms v_constraints v_taken v_firsts v_bounds).2.2.2.1))), (h0_bounds, .inl (cI, 20, .inl ((fX2_makeConstraint x1 v_terms v_constraints v_taken v_firsts v_bounds).2.2.2.2)))]) 0 0 (aw [(h0, .inr (2, [.ref h0_costs, .ref h0_coefficients, .ref h0_literals, .ref h0_bits, .ref h0_firsts, .ref h0_bounds, .int v_terms, .int v_constraints, .int v_taken])), (h0_firsts, .inl (cI, 21, .inl v_firsts)), (h0_bounds, .inl (cI, 20, .inl v_bounds))]) := by
  refine wMet (by decide) (Nat.le_of_ble_eq_true rfl) ?_
  intro p e s m below meth c hx hb hr hlocks hml hown hts hP hK hN hD hS ls hl
  have hl : lv_has ls 3 [(0, .ref h0), (1, .int x1)] := hl
  have hF := (fX2_makeConstraint_eq x1 v_terms v_constraints v_taken v_firsts v_bounds).trans (fX2_makeConstraint_d.eq_1 x1 v_terms v_constraints v_taken v_firsts v_bounds)
  refine lv_aload_n hx hb dX2_makeConstraint_0 rfl (lv_at hl 0 rfl) ?_
  refine va_get (D := D) hx hb hts inX2 hown hK hP 0 rfl rfl 7 (by decide) (hts _ kw81) (fun _ h9 => h9) rfl dX2_makeConstraint_1 ?_
  refine lv_bipush (v := 20) hx hb dX2_makeConstraint_4 (by decide) ?_
  refine lv_icmp_lt (tgt := 11) hx hb dX2_makeConstraint_6 (by decide) (fun c_1 => ?_) (fun c_1 => ?_)
  · have hF := hF.trans (if_pos c_1)
    refine lv_aload_n hx hb dX2_makeConstraint_11 rfl (lv_at hl 0 rfl) ?_
    refine va_get (D := D) hx hb hts inX2 hown hK hP 0 rfl rfl 7 (by decide) (hts _ kw81) (fun _ h9 => h9) rfl dX2_makeConstraint_12 ?_
    refine lv_istore_n (lv' := [(2, .int v_constraints), (0, .ref h0), (1, .int x1)]) hx hb dX2_makeConstraint_15 rfl hl (by decide) rfl (fun ls hl => ?_)
    refine lv_aload_n hx hb dX2_makeConstraint_16 rfl (lv_at hl 1 rfl) ?_
    refine va_get (D := D) hx hb hts inX2 hown hK hP 0 rfl rfl 5 (by decide) (hts _ kw79) (fun _ h9 => h9) rfl dX2_makeConstraint_17 ?_
    refine lv_iload_n hx hb dX2_makeConstraint_20 rfl (lv_at hl 0 rfl) ?_
    refine lv_iload_n hx hb dX2_makeConstraint_21 rfl (lv_at hl 2 rfl) ?_
    refine va_iast hx hb hK hP hD hS 2 0 rfl rfl (okN_in hCn (by decide) c_1) dX2_makeConstraint_22 (fun H locs hP hD hS => ?_)
    have hP : va_P D vwCl [(h0, .inr (2, [.ref h0_costs, .ref h0_coefficients, .ref h0_literals, .ref h0_bits, .ref h0_firsts, .ref h0_bounds, .int v_terms, .int v_constraints, .int v_taken])), (h0_firsts, .inl (cI, 21, .inl v_firsts)), (h0_bounds, .inl (cI, 20, .inl (upd v_bounds v_constraints.toNatClampNeg x1)))] H := hP
    have hD : va_D _ [(h0, .inr (2, [.ref h0_costs, .ref h0_coefficients, .ref h0_literals, .ref h0_bits, .ref h0_firsts, .ref h0_bounds, .int v_terms, .int v_constraints, .int v_taken])), (h0_firsts, .inl (cI, 21, .inl v_firsts)), (h0_bounds, .inl (cI, 20, .inl (upd v_bounds v_constraints.toNatClampNeg x1)))] := hD
    refine lv_aload_n hx hb dX2_makeConstraint_23 rfl (lv_at hl 1 rfl) ?_
    refine lv_dup hx hb dX2_makeConstraint_24 rfl ?_
    refine va_get (D := D) hx hb hts inX2 hown hK hP 0 rfl rfl 7 (by decide) (hts _ kw81) (fun _ h9 => h9) rfl dX2_makeConstraint_25 ?_
    refine lv_iconst (v := 1) hx hb dX2_makeConstraint_28 (by decide) ?_
    refine lv_iadd hx hb dX2_makeConstraint_29 ?_
    refine va_put (D := D) (v := .int (v_constraints + 1)) (ty := .int) hx hb hts inX2 tyX2 tyX2_ok nmX2 hown hK hP hD hS 0 rfl rfl 7 (by decide) (hts _ kw81) (fun _ h9 => h9) rfl (by decide +kernel) rfl rfl (Nat.le_of_ble_eq_true rfl) dX2_makeConstraint_30 (fun H locs hP hD hS => ?_)
    have hP : va_P D vwCl [(h0, .inr (2, [.ref h0_costs, .ref h0_coefficients, .ref h0_literals, .ref h0_bits, .ref h0_firsts, .ref h0_bounds, .int v_terms, .int (v_constraints + 1), .int v_taken])), (h0_firsts, .inl (cI, 21, .inl v_firsts)), (h0_bounds, .inl (cI, 20, .inl (upd v_bounds v_constraints.toNatClampNeg x1)))] H := hP
    have hD : va_D _ [(h0, .inr (2, [.ref h0_costs, .ref h0_coefficients, .ref h0_literals, .ref h0_bits, .ref h0_firsts, .ref h0_bounds, .int v_terms, .int (v_constraints + 1), .int v_taken])), (h0_firsts, .inl (cI, 21, .inl v_firsts)), (h0_bounds, .inl (cI, 20, .inl (upd v_bounds v_constraints.toNatClampNeg x1)))] := hD
    refine lv_aload_n hx hb dX2_makeConstraint_33 rfl (lv_at hl 1 rfl) ?_
    refine va_get (D := D) hx hb hts inX2 hown hK hP 0 rfl rfl 4 (by decide) (hts _ kw78) (fun _ h9 => h9) rfl dX2_makeConstraint_34 ?_
    refine lv_aload_n hx hb dX2_makeConstraint_37 rfl (lv_at hl 1 rfl) ?_
    refine va_get (D := D) hx hb hts inX2 hown hK hP 0 rfl rfl 7 (by decide) (hts _ kw81) (fun _ h9 => h9) rfl dX2_makeConstraint_38 ?_
    refine lv_aload_n hx hb dX2_makeConstraint_41 rfl (lv_at hl 1 rfl) ?_
    refine va_get (D := D) hx hb hts inX2 hown hK hP 0 rfl rfl 6 (by decide) (hts _ kw80) (fun _ h9 => h9) rfl dX2_makeConstraint_42 ?_
    refine va_iast hx hb hK hP hD hS 1 0 rfl rfl (by obtain ⟨n, en, hn⟩ := hCn; rw [en] at c_1 ⊢; rw [nI_1]; exact vp_in_nI (by have := k_lt (m := 20) (by omega) (by decide) c_1; omega) (by decide)) dX2_makeConstraint_45 (fun H locs hP hD hS => ?_)
    have hP : va_P D vwCl [(h0, .inr (2, [.ref h0_costs, .ref h0_coefficients, .ref h0_literals, .ref h0_bits, .ref h0_firsts, .ref h0_bounds, .int v_terms, .int (v_constraints + 1), .int v_taken])), (h0_firsts, .inl (cI, 21, .inl (upd v_firsts (v_constraints + 1).toNatClampNeg v_terms))), (h0_bounds, .inl (cI, 20, .inl (upd v_bounds v_constraints.toNatClampNeg x1)))] H := hP
    have hD : va_D _ [(h0, .inr (2, [.ref h0_costs, .ref h0_coefficients, .ref h0_literals, .ref h0_bits, .ref h0_firsts, .ref h0_bounds, .int v_terms, .int (v_constraints + 1), .int v_taken])), (h0_firsts, .inl (cI, 21, .inl (upd v_firsts (v_constraints + 1).toNatClampNeg v_terms))), (h0_bounds, .inl (cI, 20, .inl (upd v_bounds v_constraints.toNatClampNeg x1)))] := hD
    refine lv_aload_n hx hb dX2_makeConstraint_46 rfl (lv_at hl 1 rfl) ?_
    refine lv_iconst (v := 0) hx hb dX2_makeConstraint_47 (by decide) ?_
    refine va_put (D := D) (v := .int 0) (ty := .int) hx hb hts inX2 tyX2 tyX2_ok nmX2 hown hK hP hD hS 0 rfl rfl 8 (by decide) (hts _ kw82) (fun _ h9 => h9) rfl (by decide +kernel) rfl rfl (Nat.le_of_ble_eq_true rfl) dX2_makeConstraint_48 (fun H locs hP hD hS => ?_)
    have hP : va_P D vwCl [(h0, .inr (2, [.ref h0_costs, .ref h0_coefficients, .ref h0_literals, .ref h0_bits, .ref h0_firsts, .ref h0_bounds, .int v_terms, .int (v_constraints + 1), .int 0])), (h0_firsts, .inl (cI, 21, .inl (upd v_firsts (v_constraints + 1).toNatClampNeg v_terms))), (h0_bounds, .inl (cI, 20, .inl (upd v_bounds v_constraints.toNatClampNeg x1)))] H := hP
    have hD : va_D _ [(h0, .inr (2, [.ref h0_costs, .ref h0_coefficients, .ref h0_literals, .ref h0_bits, .ref h0_firsts, .ref h0_bounds, .int v_terms, .int (v_constraints + 1), .int 0])), (h0_firsts, .inl (cI, 21, .inl (upd v_firsts (v_constraints + 1).toNatClampNeg v_terms))), (h0_bounds, .inl (cI, 20, .inl (upd v_bounds v_constraints.toNatClampNeg x1)))] := hD
    refine lv_iload_n hx hb dX2_makeConstraint_51 rfl (lv_at hl 0 rfl) ?_
    exact wreti hx hb hr hlocks (by rw [hF]) (by rw [hF]; exact hP) hS dX2_makeConstraint_52
  · have hF := hF.trans (if_neg c_1)
    refine lv_iconst (v := (-1)) hx hb dX2_makeConstraint_9 (by decide) ?_
    exact wreti hx hb hr hlocks (by rw [hF]) (by rw [hF]; exact hP) hS dX2_makeConstraint_10
end
section
-- LeastCost$Log.has
theorem pmX1_has : mFit yX1_has 1 := ⟨by decide +kernel, by decide +kernel, by decide +kernel⟩
noncomputable def fX1_has_d (x1 : Int32) (v_size : Int32) : Int32 :=
  (if x1 < 0 then 0 else (if v_size ≤ x1 then 0 else 1))
theorem fX1_has_ex : ∃ f : Int32 → Int32 → Int32, ∀ (x1 : Int32) (v_size : Int32), f x1 v_size = fX1_has_d x1 v_size := ⟨fX1_has_d, fun _ _ => rfl⟩
noncomputable def fX1_has : Int32 → Int32 → Int32 := Classical.choose fX1_has_ex
theorem fX1_has_eq (x1 : Int32) (v_size : Int32) : fX1_has x1 v_size = fX1_has_d x1 v_size := Classical.choose_spec fX1_has_ex x1 v_size
set_option maxHeartbeats 1000000 in
set_option maxRecDepth 100000 in
theorem ctX1_has (l : Launch) (D : va_G) (cI cZ : ClassId) (h0 h0_words : Nat) (x1 : Int32) (v_size : Int32) : Met l yX1_has (gw yX1_has cX1_has 2 (some .boolean)) { frames := 0, cells := 0, slots := 0, locals := 0 } (rPc D cI cZ [.ref h0, .int x1] [(h0, .inr (1, [.ref h0_words, .int v_size]))]) (rQ (fX1_has x1 v_size)) 0 0 (fun _ => False) := by
  refine rMet (by decide) (Nat.le_of_ble_eq_true rfl) ?_
  intro p e s m below meth c hx hb hr hlocks hml hown hts hP hK hN ls hl
  have hl : lv_has ls 2 [(0, .ref h0), (1, .int x1)] := hl
  have hF := (fX1_has_eq x1 v_size).trans (fX1_has_d.eq_1 x1 v_size)
  refine lv_iload_n hx hb dX1_has_0 rfl (lv_at hl 1 rfl) ?_
  refine lv_if_lt (tgt := 16) hx hb dX1_has_1 (by decide) (fun c_1 => ?_) (fun c_1 => ?_)
  · have hF := hF.trans (if_pos c_1)
    refine lv_iconst (v := 0) hx hb dX1_has_16 (by decide) ?_
    exact rretz hx hb hr hlocks (Or.inl rfl) hF.symm dX1_has_17
  · have hF := hF.trans (if_neg c_1)
    refine lv_iload_n hx hb dX1_has_4 rfl (lv_at hl 1 rfl) ?_
    refine lv_aload_n hx hb dX1_has_5 rfl (lv_at hl 0 rfl) ?_
    refine va_get (D := D) hx hb hts inX1 hown hK hP 0 rfl rfl 1 (by decide) (hts _ kw110) (fun _ h9 => h9) rfl dX1_has_6 ?_
    refine lv_icmp_ge (tgt := 16) hx hb dX1_has_9 (by decide) (fun c_2 => ?_) (fun c_2 => ?_)
    · have hF := hF.trans (if_pos c_2)
      refine lv_iconst (v := 0) hx hb dX1_has_16 (by decide) ?_
      exact rretz hx hb hr hlocks (Or.inl rfl) hF.symm dX1_has_17
    · have hF := hF.trans (if_neg c_2)
      refine lv_iconst (v := 1) hx hb dX1_has_12 (by decide) ?_
      refine lv_goto (tgt := 17) hx hb dX1_has_13 (by decide) ?_
      exact rretz hx hb hr hlocks (Or.inr rfl) hF.symm dX1_has_17
theorem z_has (a b : Int32) : fX1_has a b = 0 ∨ fX1_has a b = 1 := by
  rw [fX1_has_eq]; unfold fX1_has_d
  split
  · exact Or.inl rfl
  · split
    · exact Or.inl rfl
    · exact Or.inr rfl
theorem has_in {i size : Int32} (h : okN 400 size) (c : ¬ fX1_has i size = 0) : vp_in i 400 := by
  rw [fX1_has_eq] at c; unfold fX1_has_d at c
  by_cases h1 : i < 0
  · rw [if_pos h1] at c; exact absurd rfl c
  · rw [if_neg h1] at c
    by_cases h2 : size ≤ i
    · rw [if_pos h2] at c; exact absurd rfl c
    · exact okN_ix h (by decide) h1 h2

-- LeastCost$Log.wordAt
theorem pmX1_wordAt : mFit yX1_wordAt 1 := ⟨by decide +kernel, by decide +kernel, by decide +kernel⟩
noncomputable def fX1_wordAt_d (x1 : Int32) (v_size : Int32) (v_words : Nat → Int32) : Int32 :=
  (if (fX1_has x1 v_size) = 0 then (-9) else v_words x1.toNatClampNeg)
theorem fX1_wordAt_ex : ∃ f : Int32 → Int32 → (Nat → Int32) → Int32, ∀ (x1 : Int32) (v_size : Int32) (v_words : Nat → Int32), f x1 v_size v_words = fX1_wordAt_d x1 v_size v_words := ⟨fX1_wordAt_d, fun _ _ _ => rfl⟩
noncomputable def fX1_wordAt : Int32 → Int32 → (Nat → Int32) → Int32 := Classical.choose fX1_wordAt_ex
theorem fX1_wordAt_eq (x1 : Int32) (v_size : Int32) (v_words : Nat → Int32) : fX1_wordAt x1 v_size v_words = fX1_wordAt_d x1 v_size v_words := Classical.choose_spec fX1_wordAt_ex x1 v_size v_words
set_option maxHeartbeats 1000000 in
set_option maxRecDepth 100000 in
theorem ctX1_wordAt (l : Launch) (D : va_G) (cI cZ : ClassId) (h0 h0_words : Nat) (x1 : Int32) (v_size : Int32) (v_words : Nat → Int32) (hL : okN 400 v_size) : Met l yX1_wordAt (gw yX1_wordAt cX1_wordAt 2 (some .int)) { frames := 1, cells := 0, slots := 0, locals := 21 } (rPc D cI cZ [.ref h0, .int x1] [(h0, .inr (1, [.ref h0_words, .int v_size])), (h0_words, .inl (cI, 400, .inl v_words))]) (rQ (fX1_wordAt x1 v_size v_words)) 0 0 (fun _ => False) := by
  refine rMet (by decide) (Nat.le_of_ble_eq_true rfl) ?_
  intro p e s m below meth c hx hb hr hlocks hml hown hts hP hK hN ls hl
  have hl : lv_has ls 2 [(0, .ref h0), (1, .int x1)] := hl
  have hF := (fX1_wordAt_eq x1 v_size v_words).trans (fX1_wordAt_d.eq_1 x1 v_size v_words)
  refine lv_aload_n hx hb dX1_wordAt_0 rfl (lv_at hl 0 rfl) ?_
  refine lv_iload_n hx hb dX1_wordAt_1 rfl (lv_at hl 1 rfl) ?_
  have hPc : va_P D vwCl [(h0, .inr (1, [.ref h0_words, .int v_size]))] _ := hP.sub [0] rfl
  refine rback (va_runV (As := [.int x1]) (rest := []) ⟨hx, hb, hml, hown, hts⟩ (ctX1_has l D cI cZ h0 h0_words x1 v_size) ⟨(cB hts kw390 kw387 kw54 pmX1_has ⟨Nat.le_of_ble_eq_true rfl, Nat.le_of_ble_eq_true rfl⟩), hts _ kw389, hts _ kw22⟩ ⟨rPc_blind, va_recv hK hP (ci := 1) (q0 := 0) rfl rfl, rpre hPc hK hN⟩ rfl rfl hl.1 rfl (lv_room (Nat.le_of_ble_eq_true rfl)) dX1_wordAt_2 ⟨Nat.zero_le _, Nat.zero_le _⟩) ?_
  refine lv_if_eq (tgt := 17) hx hb dX1_wordAt_5 (by decide) (fun c_1 => ?_) (fun c_1 => ?_)
  · have hF := hF.trans (if_pos c_1)
    refine lv_bipush (v := (-9)) hx hb dX1_wordAt_17 (by decide) ?_
    exact rreti hx hb hr hlocks hF.symm dX1_wordAt_19
  · have hF := hF.trans (if_neg c_1)
    refine lv_aload_n hx hb dX1_wordAt_8 rfl (lv_at hl 0 rfl) ?_
    refine va_get (D := D) hx hb hts inX1 hown hK hP 0 rfl rfl 0 (by decide) (hts _ kw109) (fun _ h9 => h9) rfl dX1_wordAt_9 ?_
    refine lv_iload_n hx hb dX1_wordAt_12 rfl (lv_at hl 1 rfl) ?_
    refine va_iald hx hb hK hP 1 0 rfl rfl (has_in hL c_1) dX1_wordAt_13 ?_
    refine lv_goto (tgt := 19) hx hb dX1_wordAt_14 (by decide) ?_
    exact rreti hx hb hr hlocks hF.symm dX1_wordAt_19

-- LeastCost$Log.append
theorem pmX1_append : mFit yX1_append 1 := ⟨by decide +kernel, by decide +kernel, by decide +kernel⟩
noncomputable def fX1_append_d (x1 : Int32) (v_size : Int32) (v_words : Nat → Int32) : Int32 × Int32 × (Nat → Int32) :=
  (if v_size < 400 then (1, v_size + 1, (upd v_words v_size.toNatClampNeg x1)) else (0, v_size, v_words))
theorem fX1_append_ex : ∃ f : Int32 → Int32 → (Nat → Int32) → (Int32 × Int32 × (Nat → Int32)), ∀ (x1 : Int32) (v_size : Int32) (v_words : Nat → Int32), f x1 v_size v_words = fX1_append_d x1 v_size v_words := ⟨fX1_append_d, fun _ _ _ => rfl⟩
noncomputable def fX1_append : Int32 → Int32 → (Nat → Int32) → (Int32 × Int32 × (Nat → Int32)) := Classical.choose fX1_append_ex
theorem fX1_append_eq (x1 : Int32) (v_size : Int32) (v_words : Nat → Int32) : fX1_append x1 v_size v_words = fX1_append_d x1 v_size v_words := Classical.choose_spec fX1_append_ex x1 v_size v_words
set_option maxHeartbeats 1000000 in
set_option maxRecDepth 100000 in
theorem ctX1_append (l : Launch) (D : va_G) (cI cZ : ClassId) (h0 h0_words : Nat) (x1 : Int32) (v_size : Int32) (v_words : Nat → Int32) (hL : okN 400 v_size) : Met l yX1_append (gw yX1_append cX1_append 2 (some .boolean)) { frames := 0, cells := 0, slots := 0, locals := 0 } (wPc D cI cZ [.ref h0, .int x1] [(h0, .inr (1, [.ref h0_words, .int v_size])), (h0_words, .inl (cI, 400, .inl v_words))]) (wQ D (some (.int ((fX1_append x1 v_size v_words).1))) [(h0, .inr (1, [.ref h0_words, .int v_size])), (h0_words, .inl (cI, 400, .inl v_words))] [(h0, .inr (1, [.ref h0_words, .int ((fX1_append x1 v_size v_words).2.1)])), (h0_words, .inl (cI, 400, .inl ((fX1_append x1 v_size v_words).2.2)))]) 0 0 (aw [(h0, .inr (1, [.ref h0_words, .int v_size])), (h0_words, .inl (cI, 400, .inl v_words))]) := by
  refine wMet (by decide) (Nat.le_of_ble_eq_true rfl) ?_
  intro p e s m below meth c hx hb hr hlocks hml hown hts hP hK hN hD hS ls hl
  have hl : lv_has ls 2 [(0, .ref h0), (1, .int x1)] := hl
  have hF := (fX1_append_eq x1 v_size v_words).trans (fX1_append_d.eq_1 x1 v_size v_words)
  refine lv_aload_n hx hb dX1_append_0 rfl (lv_at hl 0 rfl) ?_
  refine va_get (D := D) hx hb hts inX1 hown hK hP 0 rfl rfl 1 (by decide) (hts _ kw110) (fun _ h9 => h9) rfl dX1_append_1 ?_
  refine lv_sipush (v := 400) hx hb dX1_append_4 (by decide) ?_
  refine lv_icmp_lt (tgt := 12) hx hb dX1_append_7 (by decide) (fun c_1 => ?_) (fun c_1 => ?_)
  · have hF := hF.trans (if_pos c_1)
    refine lv_aload_n hx hb dX1_append_12 rfl (lv_at hl 0 rfl) ?_
    refine va_get (D := D) hx hb hts inX1 hown hK hP 0 rfl rfl 0 (by decide) (hts _ kw109) (fun _ h9 => h9) rfl dX1_append_13 ?_
    refine lv_aload_n hx hb dX1_append_16 rfl (lv_at hl 0 rfl) ?_
    refine va_get (D := D) hx hb hts inX1 hown hK hP 0 rfl rfl 1 (by decide) (hts _ kw110) (fun _ h9 => h9) rfl dX1_append_17 ?_
    refine lv_iload_n hx hb dX1_append_20 rfl (lv_at hl 1 rfl) ?_
    refine va_iast hx hb hK hP hD hS 1 0 rfl rfl (okN_in hL (by decide) c_1) dX1_append_21 (fun H locs hP hD hS => ?_)
    have hP : va_P D vwCl [(h0, .inr (1, [.ref h0_words, .int v_size])), (h0_words, .inl (cI, 400, .inl (upd v_words v_size.toNatClampNeg x1)))] H := hP
    have hD : va_D _ [(h0, .inr (1, [.ref h0_words, .int v_size])), (h0_words, .inl (cI, 400, .inl (upd v_words v_size.toNatClampNeg x1)))] := hD
    refine lv_aload_n hx hb dX1_append_22 rfl (lv_at hl 0 rfl) ?_
    refine lv_dup hx hb dX1_append_23 rfl ?_
    refine va_get (D := D) hx hb hts inX1 hown hK hP 0 rfl rfl 1 (by decide) (hts _ kw110) (fun _ h9 => h9) rfl dX1_append_24 ?_
    refine lv_iconst (v := 1) hx hb dX1_append_27 (by decide) ?_
    refine lv_iadd hx hb dX1_append_28 ?_
    refine va_put (D := D) (v := .int (v_size + 1)) (ty := .int) hx hb hts inX1 tyX1 tyX1_ok nmX1 hown hK hP hD hS 0 rfl rfl 1 (by decide) (hts _ kw110) (fun _ h9 => h9) rfl (by decide +kernel) rfl rfl (Nat.le_of_ble_eq_true rfl) dX1_append_29 (fun H locs hP hD hS => ?_)
    have hP : va_P D vwCl [(h0, .inr (1, [.ref h0_words, .int (v_size + 1)])), (h0_words, .inl (cI, 400, .inl (upd v_words v_size.toNatClampNeg x1)))] H := hP
    have hD : va_D _ [(h0, .inr (1, [.ref h0_words, .int (v_size + 1)])), (h0_words, .inl (cI, 400, .inl (upd v_words v_size.toNatClampNeg x1)))] := hD
    refine lv_iconst (v := 1) hx hb dX1_append_32 (by decide) ?_
    exact wretz hx hb hr hlocks (Or.inr rfl) (by rw [hF]) (by rw [hF]; exact hP) hS dX1_append_33
  · have hF := hF.trans (if_neg c_1)
    refine lv_iconst (v := 0) hx hb dX1_append_10 (by decide) ?_
    exact wretz hx hb hr hlocks (Or.inl rfl) (by rw [hF]) (by rw [hF]; exact hP) hS dX1_append_11
theorem okL_append {x size : Int32} {words : Nat → Int32} (h : okN 400 size) : okN 400 (fX1_append x size words).2.1 := by
  rw [fX1_append_eq]; unfold fX1_append_d
  split
  · rename_i c; exact okN_s h (by decide) c
  · exact h
theorem z_append {x size : Int32} {words : Nat → Int32} : (fX1_append x size words).1 = 0 ∨ (fX1_append x size words).1 = 1 := by
  rw [fX1_append_eq]; unfold fX1_append_d
  split
  · exact Or.inr rfl
  · exact Or.inl rfl

-- LeastCost$Log.replace
theorem pmX1_replace : mFit yX1_replace 2 := ⟨by decide +kernel, by decide +kernel, by decide +kernel⟩
noncomputable def fX1_replace_d (x1 : Int32) (x2 : Int32) (v_size : Int32) (v_words : Nat → Int32) : Int32 × Int32 × (Nat → Int32) :=
  (if x1 = v_size then ((fX1_append x2 v_size v_words).1, (fX1_append x2 v_size v_words).2.1, (fX1_append x2 v_size v_words).2.2) else (if (fX1_has x1 v_size) = 0 then (0, v_size, v_words) else (1, v_size, (upd v_words x1.toNatClampNeg x2))))
theorem fX1_replace_ex : ∃ f : Int32 → Int32 → Int32 → (Nat → Int32) → (Int32 × Int32 × (Nat → Int32)), ∀ (x1 : Int32) (x2 : Int32) (v_size : Int32) (v_words : Nat → Int32), f x1 x2 v_size v_words = fX1_replace_d x1 x2 v_size v_words := ⟨fX1_replace_d, fun _ _ _ _ => rfl⟩
noncomputable def fX1_replace : Int32 → Int32 → Int32 → (Nat → Int32) → (Int32 × Int32 × (Nat → Int32)) := Classical.choose fX1_replace_ex
theorem fX1_replace_eq (x1 : Int32) (x2 : Int32) (v_size : Int32) (v_words : Nat → Int32) : fX1_replace x1 x2 v_size v_words = fX1_replace_d x1 x2 v_size v_words := Classical.choose_spec fX1_replace_ex x1 x2 v_size v_words
set_option maxHeartbeats 1000000 in
set_option maxRecDepth 100000 in
theorem ctX1_replace (l : Launch) (D : va_G) (cI cZ : ClassId) (h0 h0_words : Nat) (x1 : Int32) (x2 : Int32) (v_size : Int32) (v_words : Nat → Int32) (hL : okN 400 v_size) : Met l yX1_replace (gw yX1_replace cX1_replace 3 (some .boolean)) { frames := 1, cells := 0, slots := 0, locals := 21 } (wPc D cI cZ [.ref h0, .int x1, .int x2] [(h0, .inr (1, [.ref h0_words, .int v_size])), (h0_words, .inl (cI, 400, .inl v_words))]) (wQ D (some (.int ((fX1_replace x1 x2 v_size v_words).1))) [(h0, .inr (1, [.ref h0_words, .int v_size])), (h0_words, .inl (cI, 400, .inl v_words))] [(h0, .inr (1, [.ref h0_words, .int ((fX1_replace x1 x2 v_size v_words).2.1)])), (h0_words, .inl (cI, 400, .inl ((fX1_replace x1 x2 v_size v_words).2.2)))]) 0 0 (aw [(h0, .inr (1, [.ref h0_words, .int v_size])), (h0_words, .inl (cI, 400, .inl v_words))]) := by
  refine wMet (by decide) (Nat.le_of_ble_eq_true rfl) ?_
  intro p e s m below meth c hx hb hr hlocks hml hown hts hP hK hN hD hS ls hl
  have hl : lv_has ls 3 [(0, .ref h0), (1, .int x1), (2, .int x2)] := hl
  have hF := (fX1_replace_eq x1 x2 v_size v_words).trans (fX1_replace_d.eq_1 x1 x2 v_size v_words)
  refine lv_iload_n hx hb dX1_replace_0 rfl (lv_at hl 1 rfl) ?_
  refine lv_aload_n hx hb dX1_replace_1 rfl (lv_at hl 0 rfl) ?_
  refine va_get (D := D) hx hb hts inX1 hown hK hP 0 rfl rfl 1 (by decide) (hts _ kw110) (fun _ h9 => h9) rfl dX1_replace_2 ?_
  refine lv_icmp_ne (tgt := 14) hx hb dX1_replace_5 (by decide) (fun c_1 => ?_) (fun c_1 => ?_)
  · have hF := hF.trans (if_neg c_1)
    refine lv_aload_n hx hb dX1_replace_14 rfl (lv_at hl 0 rfl) ?_
    refine lv_iload_n hx hb dX1_replace_15 rfl (lv_at hl 1 rfl) ?_
    have hPc : va_P D vwCl [(h0, .inr (1, [.ref h0_words, .int v_size]))] _ := hP.sub [0] rfl
    refine rback (va_runV (As := [.int x1]) (rest := []) ⟨hx, hb, hml, hown, hts⟩ (ctX1_has l D cI cZ h0 h0_words x1 v_size) ⟨(cB hts kw390 kw387 kw54 pmX1_has ⟨Nat.le_of_ble_eq_true rfl, Nat.le_of_ble_eq_true rfl⟩), hts _ kw389, hts _ kw22⟩ ⟨rPc_blind, va_recv hK hP (ci := 1) (q0 := 0) rfl rfl, rpre hPc hK hN⟩ rfl rfl hl.1 rfl (lv_room (Nat.le_of_ble_eq_true rfl)) dX1_replace_16 ⟨Nat.zero_le _, Nat.zero_le _⟩) ?_
    refine lv_if_ne (tgt := 24) hx hb dX1_replace_19 (by decide) (fun c_2 => ?_) (fun c_2 => ?_)
    · have hF := hF.trans (if_neg c_2)
      refine lv_aload_n hx hb dX1_replace_24 rfl (lv_at hl 0 rfl) ?_
      refine va_get (D := D) hx hb hts inX1 hown hK hP 0 rfl rfl 0 (by decide) (hts _ kw109) (fun _ h9 => h9) rfl dX1_replace_25 ?_
      refine lv_iload_n hx hb dX1_replace_28 rfl (lv_at hl 1 rfl) ?_
      refine lv_iload_n hx hb dX1_replace_29 rfl (lv_at hl 2 rfl) ?_
      refine va_iast hx hb hK hP hD hS 1 0 rfl rfl (has_in hL c_2) dX1_replace_30 (fun H locs hP hD hS => ?_)
      have hP : va_P D vwCl [(h0, .inr (1, [.ref h0_words, .int v_size])), (h0_words, .inl (cI, 400, .inl (upd v_words x1.toNatClampNeg x2)))] H := hP
      have hD : va_D _ [(h0, .inr (1, [.ref h0_words, .int v_size])), (h0_words, .inl (cI, 400, .inl (upd v_words x1.toNatClampNeg x2)))] := hD
      refine lv_iconst (v := 1) hx hb dX1_replace_31 (by decide) ?_
      exact wretz hx hb hr hlocks (Or.inr rfl) (by rw [hF]) (by rw [hF]; exact hP) hS dX1_replace_32
    · have hF := hF.trans (if_pos c_2)
      refine lv_iconst (v := 0) hx hb dX1_replace_22 (by decide) ?_
      exact wretz hx hb hr hlocks (Or.inl rfl) (by rw [hF]) (by rw [hF]; exact hP) hS dX1_replace_23
  · have hF := hF.trans (if_pos c_1)
    refine lv_aload_n hx hb dX1_replace_8 rfl (lv_at hl 0 rfl) ?_
    refine lv_iload_n hx hb dX1_replace_9 rfl (lv_at hl 2 rfl) ?_
    have hPc : va_P D vwCl [(h0, .inr (1, [.ref h0_words, .int v_size])), (h0_words, .inl (cI, 400, .inl v_words))] _ := hP.sub [0, 1] rfl
    refine wback (ws' := [(h0, .inr (1, [.ref h0_words, .int ((fX1_append x2 v_size v_words).2.1)])), (h0_words, .inl (cI, 400, .inl ((fX1_append x2 v_size v_words).2.2)))]) [0, 1] (va_runV (As := [.int x2]) (rest := []) ⟨hx, hb, hml, hown, hts⟩ (ctX1_append l D cI cZ h0 h0_words x2 v_size v_words hL) ⟨(cB hts kw322 kw399 kw54 pmX1_append ⟨Nat.le_of_ble_eq_true rfl, Nat.le_of_ble_eq_true rfl⟩), hts _ kw321, hts _ kw10⟩ ⟨wPc_blind, va_recv hK hP (ci := 1) (q0 := 0) rfl rfl, wpre hPc hK hN (hD.sub (ws' := [(h0, .inr (1, [.ref h0_words, .int v_size])), (h0_words, .inl (cI, 400, .inl v_words))]) [0, 1] (by decide) rfl)⟩ rfl rfl hl.1 rfl (lv_room (Nat.le_of_ble_eq_true rfl)) dX1_replace_10 ⟨Nat.zero_le _, Nat.zero_le _⟩) hP hD hS rfl rfl rfl rfl (fun H locs hP hD hS => ?_)
    exact wretz hx hb hr hlocks z_append (by rw [hF]) (by rw [hF]; exact hP) hS dX1_replace_13
theorem okL_replace {x1 x2 size : Int32} {words : Nat → Int32} (h : okN 400 size) : okN 400 (fX1_replace x1 x2 size words).2.1 := by
  rw [fX1_replace_eq]; unfold fX1_replace_d
  split
  · exact okL_append h
  · split
    · exact h
    · exact h
theorem z_replace {x1 x2 size : Int32} {words : Nat → Int32} : (fX1_replace x1 x2 size words).1 = 0 ∨ (fX1_replace x1 x2 size words).1 = 1 := by
  rw [fX1_replace_eq]; unfold fX1_replace_d
  split
  · exact z_append
  · split
    · exact Or.inl rfl
    · exact Or.inr rfl

-- LeastCost$Log.shorten
theorem pmX1_shorten : mFit yX1_shorten 1 := ⟨by decide +kernel, by decide +kernel, by decide +kernel⟩
noncomputable def fX1_shorten_d (x1 : Int32) (v_size : Int32) : Int32 × Int32 :=
  (if (fX5_isWithin x1 0 v_size) = 0 then (0, v_size) else (1, x1))
theorem fX1_shorten_ex : ∃ f : Int32 → Int32 → (Int32 × Int32), ∀ (x1 : Int32) (v_size : Int32), f x1 v_size = fX1_shorten_d x1 v_size := ⟨fX1_shorten_d, fun _ _ => rfl⟩
noncomputable def fX1_shorten : Int32 → Int32 → (Int32 × Int32) := Classical.choose fX1_shorten_ex
theorem fX1_shorten_eq (x1 : Int32) (v_size : Int32) : fX1_shorten x1 v_size = fX1_shorten_d x1 v_size := Classical.choose_spec fX1_shorten_ex x1 v_size
set_option maxHeartbeats 1000000 in
set_option maxRecDepth 100000 in
theorem ctX1_shorten (l : Launch) (D : va_G) (cI cZ : ClassId) (h0 h0_words : Nat) (x1 : Int32) (v_size : Int32) : Met l yX1_shorten (gw yX1_shorten cX1_shorten 2 (some .boolean)) { frames := 1, cells := 0, slots := 0, locals := 22 } (wPc D cI cZ [.ref h0, .int x1] [(h0, .inr (1, [.ref h0_words, .int v_size]))]) (wQ D (some (.int ((fX1_shorten x1 v_size).1))) [(h0, .inr (1, [.ref h0_words, .int v_size]))] [(h0, .inr (1, [.ref h0_words, .int ((fX1_shorten x1 v_size).2)]))]) 0 0 (aw [(h0, .inr (1, [.ref h0_words, .int v_size]))]) := by
  refine wMet (by decide) (Nat.le_of_ble_eq_true rfl) ?_
  intro p e s m below meth c hx hb hr hlocks hml hown hts hP hK hN hD hS ls hl
  have hl : lv_has ls 2 [(0, .ref h0), (1, .int x1)] := hl
  have hF := (fX1_shorten_eq x1 v_size).trans (fX1_shorten_d.eq_1 x1 v_size)
  refine lv_iload_n hx hb dX1_shorten_0 rfl (lv_at hl 1 rfl) ?_
  refine lv_iconst (v := 0) hx hb dX1_shorten_1 (by decide) ?_
  refine lv_aload_n hx hb dX1_shorten_2 rfl (lv_at hl 0 rfl) ?_
  refine va_get (D := D) hx hb hts inX1 hown hK hP 0 rfl rfl 1 (by decide) (hts _ kw110) (fun _ h9 => h9) rfl dX1_shorten_3 ?_
  have hPc : va_P D vwCl [] _ := hP.sub [] rfl
  refine rback (va_runSN (As := [.int x1, .int 0, .int v_size]) (rest := []) ⟨hx, hb, hml, hown, hts⟩ (ctX5_isWithin l D cI cZ x1 0 v_size) ⟨(cN hts kw254 (hN _ kn38) kw52 pmX5_isWithin ⟨Nat.le_of_ble_eq_true rfl, Nat.le_of_ble_eq_true rfl⟩), hts _ kw253, trivial⟩ ⟨rPc_blind, rpre hPc hK hN⟩ rfl rfl hl.1 rfl (lv_room (Nat.le_of_ble_eq_true rfl)) dX1_shorten_6 ⟨Nat.zero_le _, Nat.zero_le _⟩) ?_
  refine lv_if_ne (tgt := 14) hx hb dX1_shorten_9 (by decide) (fun c_1 => ?_) (fun c_1 => ?_)
  · have hF := hF.trans (if_neg c_1)
    refine lv_aload_n hx hb dX1_shorten_14 rfl (lv_at hl 0 rfl) ?_
    refine lv_iload_n hx hb dX1_shorten_15 rfl (lv_at hl 1 rfl) ?_
    refine va_put (D := D) (v := .int x1) (ty := .int) hx hb hts inX1 tyX1 tyX1_ok nmX1 hown hK hP hD hS 0 rfl rfl 1 (by decide) (hts _ kw110) (fun _ h9 => h9) rfl (by decide +kernel) rfl rfl (Nat.le_of_ble_eq_true rfl) dX1_shorten_16 (fun H locs hP hD hS => ?_)
    have hP : va_P D vwCl [(h0, .inr (1, [.ref h0_words, .int x1]))] H := hP
    have hD : va_D _ [(h0, .inr (1, [.ref h0_words, .int x1]))] := hD
    refine lv_iconst (v := 1) hx hb dX1_shorten_19 (by decide) ?_
    exact wretz hx hb hr hlocks (Or.inr rfl) (by rw [hF]) (by rw [hF]; exact hP) hS dX1_shorten_20
  · have hF := hF.trans (if_pos c_1)
    refine lv_iconst (v := 0) hx hb dX1_shorten_12 (by decide) ?_
    exact wretz hx hb hr hlocks (Or.inl rfl) (by rw [hF]) (by rw [hF]; exact hP) hS dX1_shorten_13
theorem isWithin_of {a b c : Int32} (h : ¬ fX5_isWithin a b c = 0) : ¬ a < b ∧ ¬ c < a := by
  rw [fX5_isWithin_eq] at h; unfold fX5_isWithin_d at h
  by_cases h1 : a < b
  · rw [if_pos h1] at h; exact absurd rfl h
  · rw [if_neg h1] at h
    by_cases h2 : c < a
    · rw [if_pos h2] at h; exact absurd rfl h
    · exact ⟨h1, h2⟩
theorem okN_of {N : Nat} {x M : Int32} (hM : okN N M) (hN : N < 2 ^ 31) (h0 : ¬ x < 0) (h1 : ¬ M < x) : okN N x := by
  obtain ⟨n, rfl, hn⟩ := hM
  obtain ⟨j, hj, rfl⟩ := nI_of h0
  exact ⟨j, rfl, by have := k_nlt hj h1; omega⟩
theorem okL_shorten {x1 size : Int32} (h : okN 400 size) : okN 400 (fX1_shorten x1 size).2 := by
  rw [fX1_shorten_eq]; unfold fX1_shorten_d
  split
  · exact h
  · rename_i c
    have := isWithin_of c
    exact okN_of h (by decide) this.1 this.2
end
section
-- LeastCost$Search.isDone
theorem pmX3_isDone : mFit yX3_isDone 0 := ⟨by decide +kernel, by decide +kernel, by decide +kernel⟩
noncomputable def fX3_isDone_d (v_state : Int32) : Int32 :=
  (if v_state = 1 then 1 else 0)
theorem fX3_isDone_ex : ∃ f : Int32 → Int32, ∀ (v_state : Int32), f v_state = fX3_isDone_d v_state := ⟨fX3_isDone_d, fun _ => rfl⟩
noncomputable def fX3_isDone : Int32 → Int32 := Classical.choose fX3_isDone_ex
theorem fX3_isDone_eq (v_state : Int32) : fX3_isDone v_state = fX3_isDone_d v_state := Classical.choose_spec fX3_isDone_ex v_state
set_option maxHeartbeats 1000000 in
set_option maxRecDepth 100000 in
theorem ctX3_isDone (l : Launch) (D : va_G) (cI cZ : ClassId) (h0 h0_problem h0_log h0_setting h0_choices h0_onesBefore h0_zerosBefore : Nat) (v_depth v_bestCost v_bestOnes v_stepsMade v_state : Int32) : Met l yX3_isDone (gw yX3_isDone cX3_isDone 1 (some .boolean)) { frames := 0, cells := 0, slots := 0, locals := 0 } (rPc D cI cZ [.ref h0] [(h0, .inr (3, [.ref h0_problem, .ref h0_log, .ref h0_setting, .ref h0_choices, .ref h0_onesBefore, .ref h0_zerosBefore, .int v_depth, .int v_bestCost, .int v_bestOnes, .int v_stepsMade, .int v_state]))]) (rQ (fX3_isDone v_state)) 0 0 (fun _ => False) := by
  refine rMet (by decide) (Nat.le_of_ble_eq_true rfl) ?_
  intro p e s m below meth c hx hb hr hlocks hml hown hts hP hK hN ls hl
  have hl : lv_has ls 1 [(0, .ref h0)] := hl
  have hF := (fX3_isDone_eq v_state).trans (fX3_isDone_d.eq_1 v_state)
  refine lv_aload_n hx hb dX3_isDone_0 rfl (lv_at hl 0 rfl) ?_
  refine va_get (D := D) hx hb hts inX3 hown hK hP 0 rfl rfl 10 (by decide) (hts _ kw156) (fun _ h9 => h9) rfl dX3_isDone_1 ?_
  refine lv_iconst (v := 1) hx hb dX3_isDone_4 (by decide) ?_
  refine lv_icmp_ne (tgt := 12) hx hb dX3_isDone_5 (by decide) (fun c_1 => ?_) (fun c_1 => ?_)
  · have hF := hF.trans (if_neg c_1)
    refine lv_iconst (v := 0) hx hb dX3_isDone_12 (by decide) ?_
    exact rretz hx hb hr hlocks (Or.inl rfl) hF.symm dX3_isDone_13
  · have hF := hF.trans (if_pos c_1)
    refine lv_iconst (v := 1) hx hb dX3_isDone_8 (by decide) ?_
    refine lv_goto (tgt := 13) hx hb dX3_isDone_9 (by decide) ?_
    exact rretz hx hb hr hlocks (Or.inr rfl) hF.symm dX3_isDone_13

-- LeastCost$Search.writes
theorem pmX3_writes : mFit yX3_writes 1 := ⟨by decide +kernel, by decide +kernel, by decide +kernel⟩
noncomputable def fX3_writes_d (x1 : Int32) (v_state : Int32) (v_log_size : Int32) (v_log_words : Nat → Int32) : Int32 × Int32 × Int32 × (Nat → Int32) :=
  (if ((fX1_append x1 v_log_size v_log_words).1) = 0 then ((fX1_append x1 v_log_size v_log_words).1, (-2), (fX1_append x1 v_log_size v_log_words).2.1, (fX1_append x1 v_log_size v_log_words).2.2) else ((fX1_append x1 v_log_size v_log_words).1, v_state, (fX1_append x1 v_log_size v_log_words).2.1, (fX1_append x1 v_log_size v_log_words).2.2))
theorem fX3_writes_ex : ∃ f : Int32 → Int32 → Int32 → (Nat → Int32) → (Int32 × Int32 × Int32 × (Nat → Int32)), ∀ (x1 : Int32) (v_state : Int32) (v_log_size : Int32) (v_log_words : Nat → Int32), f x1 v_state v_log_size v_log_words = fX3_writes_d x1 v_state v_log_size v_log_words := ⟨fX3_writes_d, fun _ _ _ _ => rfl⟩
noncomputable def fX3_writes : Int32 → Int32 → Int32 → (Nat → Int32) → (Int32 × Int32 × Int32 × (Nat → Int32)) := Classical.choose fX3_writes_ex
theorem fX3_writes_eq (x1 : Int32) (v_state : Int32) (v_log_size : Int32) (v_log_words : Nat → Int32) : fX3_writes x1 v_state v_log_size v_log_words = fX3_writes_d x1 v_state v_log_size v_log_words := Classical.choose_spec fX3_writes_ex x1 v_state v_log_size v_log_words
set_option maxHeartbeats 1000000 in
set_option maxRecDepth 100000 in
theorem ctX3_writes (l : Launch) (D : va_G) (cI cZ : ClassId) (h0 h0_problem h0_log h0_setting h0_choices h0_onesBefore h0_zerosBefore h0_log_words : Nat) (x1 : Int32) (v_depth v_bestCost v_bestOnes v_stepsMade v_state v_log_size : Int32) (v_log_words : Nat → Int32) (hL : okN 400 v_log_size) : Met l yX3_writes (gw yX3_writes cX3_writes 3 (some .boolean)) { frames := 1, cells := 0, slots := 0, locals := 21 } (wPc D cI cZ [.ref h0, .int x1] [(h0, .inr (3, [.ref h0_problem, .ref h0_log, .ref h0_setting, .ref h0_choices, .ref h0_onesBefore, .ref h0_zerosBefore, .int v_depth, .int v_bestCost, .int v_bestOnes, .int v_stepsMade, .int v_state])), (h0_log, .inr (1, [.ref h0_log_words, .int v_log_size])), (h0_log_words, .inl (cI, 400, .inl v_log_words))]) (wQ D (some (.int ((fX3_writes x1 v_state v_log_size v_log_words).1))) [(h0, .inr (3, [.ref h0_problem, .ref h0_log, .ref h0_setting, .ref h0_choices, .ref h0_onesBefore, .ref h0_zerosBefore, .int v_depth, .int v_bestCost, .int v_bestOnes, .int v_stepsMade, .int v_state])), (h0_log, .inr (1, [.ref h0_log_words, .int v_log_size])), (h0_log_words, .inl (cI, 400, .inl v_log_words))] [(h0, .inr (3, [.ref h0_problem, .ref h0_log, .ref h0_setting, .ref h0_choices, .ref h0_onesBefore, .ref h0_zerosBefore, .int v_depth, .int v_bestCost, .int v_bestOnes, .int v_stepsMade, .int ((fX3_writes x1 v_state v_log_size v_log_words).2.1)])), (h0_log, .inr (1, [.ref h0_log_words, .int ((fX3_writes x1 v_state v_log_size v_log_words).2.2.1)])), (h0_log_words, .inl (cI, 400, .inl ((fX3_writes x1 v_state v_log_size v_log_words).2.2.2)))]) 0 0 (aw [(h0, .inr (3, [.ref h0_problem, .ref h0_log, .ref h0_setting, .ref h0_choices, .ref h0_onesBefore, .ref h0_zerosBefore, .int v_depth, .int v_bestCost, .int v_bestOnes, .int v_stepsMade, .int v_state])), (h0_log, .inr (1, [.ref h0_log_words, .int v_log_size])), (h0_log_words, .inl (cI, 400, .inl v_log_words))]) := by
  refine wMet (by decide) (Nat.le_of_ble_eq_true rfl) ?_
  intro p e s m below meth c hx hb hr hlocks hml hown hts hP hK hN hD hS ls hl
  have hl : lv_has ls 3 [(0, .ref h0), (1, .int x1)] := hl
  have hF := (fX3_writes_eq x1 v_state v_log_size v_log_words).trans (fX3_writes_d.eq_1 x1 v_state v_log_size v_log_words)
  refine lv_aload_n hx hb dX3_writes_0 rfl (lv_at hl 0 rfl) ?_
  refine va_get (D := D) hx hb hts inX3 hown hK hP 0 rfl rfl 1 (by decide) (hts _ kw144) (fun _ h9 => h9) rfl dX3_writes_1 ?_
  refine lv_iload_n hx hb dX3_writes_4 rfl (lv_at hl 1 rfl) ?_
  have hPc : va_P D vwCl [(h0_log, .inr (1, [.ref h0_log_words, .int v_log_size])), (h0_log_words, .inl (cI, 400, .inl v_log_words))] _ := hP.sub [1, 2] rfl
  refine wback (ws' := [(h0, .inr (3, [.ref h0_problem, .ref h0_log, .ref h0_setting, .ref h0_choices, .ref h0_onesBefore, .ref h0_zerosBefore, .int v_depth, .int v_bestCost, .int v_bestOnes, .int v_stepsMade, .int v_state])), (h0_log, .inr (1, [.ref h0_log_words, .int ((fX1_append x1 v_log_size v_log_words).2.1)])), (h0_log_words, .inl (cI, 400, .inl ((fX1_append x1 v_log_size v_log_words).2.2)))]) [1, 2] (va_runVN (As := [.int x1]) (rest := []) ⟨hx, hb, hml, hown, hts⟩ (ctX1_append l D cI cZ h0_log h0_log_words x1 v_log_size v_log_words hL) ⟨(cN hts kw322 (hN _ kn25) kw54 pmX1_append ⟨Nat.le_of_ble_eq_true rfl, Nat.le_of_ble_eq_true rfl⟩), hts _ kw321, hts _ kw10⟩ ⟨wPc_blind, va_recv hK hP (ci := 1) (q0 := 1) rfl rfl, wpre hPc hK hN (hD.sub (ws' := [(h0_log, .inr (1, [.ref h0_log_words, .int v_log_size])), (h0_log_words, .inl (cI, 400, .inl v_log_words))]) [1, 2] (by decide) rfl)⟩ rfl rfl hl.1 rfl (lv_room (Nat.le_of_ble_eq_true rfl)) dX3_writes_5 ⟨Nat.zero_le _, Nat.zero_le _⟩) hP hD hS rfl rfl rfl rfl (fun H locs hP hD hS => ?_)
  refine lv_istore_n (lv' := [(2, .int ((fX1_append x1 v_log_size v_log_words).1)), (0, .ref h0), (1, .int x1)]) hx hb dX3_writes_8 rfl hl (by decide) rfl (fun ls hl => ?_)
  refine lv_iload_n hx hb dX3_writes_9 rfl (lv_at hl 0 rfl) ?_
  refine lv_if_ne (tgt := 19) hx hb dX3_writes_10 (by decide) (fun c_1 => ?_) (fun c_1 => ?_)
  · have hF := hF.trans (if_neg c_1)
    refine lv_iload_n hx hb dX3_writes_19 rfl (lv_at hl 0 rfl) ?_
    exact wretz hx hb hr hlocks z_append (by rw [hF]) (by rw [hF]; exact hP) hS dX3_writes_20
  · have hF := hF.trans (if_pos c_1)
    refine lv_aload_n hx hb dX3_writes_13 rfl (lv_at hl 1 rfl) ?_
    refine lv_bipush (v := (-2)) hx hb dX3_writes_14 (by decide) ?_
    refine va_put (D := D) (v := .int (-2)) (ty := .int) hx hb hts inX3 tyX3 tyX3_ok nmX3 hown hK hP hD hS 0 rfl rfl 10 (by decide) (hts _ kw156) (fun _ h9 => h9) rfl (by decide +kernel) rfl rfl (Nat.le_of_ble_eq_true rfl) dX3_writes_16 (fun H locs hP hD hS => ?_)
    have hP : va_P D vwCl [(h0, .inr (3, [.ref h0_problem, .ref h0_log, .ref h0_setting, .ref h0_choices, .ref h0_onesBefore, .ref h0_zerosBefore, .int v_depth, .int v_bestCost, .int v_bestOnes, .int v_stepsMade, .int (-2)])), (h0_log, .inr (1, [.ref h0_log_words, .int ((fX1_append x1 v_log_size v_log_words).2.1)])), (h0_log_words, .inl (cI, 400, .inl ((fX1_append x1 v_log_size v_log_words).2.2)))] H := hP
    have hD : va_D _ [(h0, .inr (3, [.ref h0_problem, .ref h0_log, .ref h0_setting, .ref h0_choices, .ref h0_onesBefore, .ref h0_zerosBefore, .int v_depth, .int v_bestCost, .int v_bestOnes, .int v_stepsMade, .int (-2)])), (h0_log, .inr (1, [.ref h0_log_words, .int ((fX1_append x1 v_log_size v_log_words).2.1)])), (h0_log_words, .inl (cI, 400, .inl ((fX1_append x1 v_log_size v_log_words).2.2)))] := hD
    refine lv_iload_n hx hb dX3_writes_19 rfl (lv_at hl 0 rfl) ?_
    exact wretz hx hb hr hlocks z_append (by rw [hF]) (by rw [hF]; exact hP) hS dX3_writes_20
theorem okL_writes {x st size : Int32} {words : Nat → Int32} (h : okN 400 size) : okN 400 (fX3_writes x st size words).2.2.1 := by
  rw [fX3_writes_eq]; unfold fX3_writes_d
  split <;> exact okL_append h

-- LeastCost$Search.finish
theorem pmX3_finish : mFit yX3_finish 0 := ⟨by decide +kernel, by decide +kernel, by decide +kernel⟩
noncomputable def fX3_finish_d (v_bestCost : Int32) (v_bestOnes : Int32) (v_state : Int32) (v_log_size : Int32) (v_log_words : Nat → Int32) : Int32 × Int32 × (Nat → Int32) :=
  (if ((fX3_writes v_bestCost v_state v_log_size v_log_words).1) = 0 then ((fX3_writes v_bestCost v_state v_log_size v_log_words).2.1, (fX3_writes v_bestCost v_state v_log_size v_log_words).2.2.1, (fX3_writes v_bestCost v_state v_log_size v_log_words).2.2.2) else (if ((fX3_writes v_bestOnes ((fX3_writes v_bestCost v_state v_log_size v_log_words).2.1) ((fX3_writes v_bestCost v_state v_log_size v_log_words).2.2.1) ((fX3_writes v_bestCost v_state v_log_size v_log_words).2.2.2)).1) = 0 then ((fX3_writes v_bestOnes ((fX3_writes v_bestCost v_state v_log_size v_log_words).2.1) ((fX3_writes v_bestCost v_state v_log_size v_log_words).2.2.1) ((fX3_writes v_bestCost v_state v_log_size v_log_words).2.2.2)).2.1, (fX3_writes v_bestOnes ((fX3_writes v_bestCost v_state v_log_size v_log_words).2.1) ((fX3_writes v_bestCost v_state v_log_size v_log_words).2.2.1) ((fX3_writes v_bestCost v_state v_log_size v_log_words).2.2.2)).2.2.1, (fX3_writes v_bestOnes ((fX3_writes v_bestCost v_state v_log_size v_log_words).2.1) ((fX3_writes v_bestCost v_state v_log_size v_log_words).2.2.1) ((fX3_writes v_bestCost v_state v_log_size v_log_words).2.2.2)).2.2.2) else (1, (fX3_writes v_bestOnes ((fX3_writes v_bestCost v_state v_log_size v_log_words).2.1) ((fX3_writes v_bestCost v_state v_log_size v_log_words).2.2.1) ((fX3_writes v_bestCost v_state v_log_size v_log_words).2.2.2)).2.2.1, (fX3_writes v_bestOnes ((fX3_writes v_bestCost v_state v_log_size v_log_words).2.1) ((fX3_writes v_bestCost v_state v_log_size v_log_words).2.2.1) ((fX3_writes v_bestCost v_state v_log_size v_log_words).2.2.2)).2.2.2)))
theorem fX3_finish_ex : ∃ f : Int32 → Int32 → Int32 → Int32 → (Nat → Int32) → (Int32 × Int32 × (Nat → Int32)), ∀ (v_bestCost : Int32) (v_bestOnes : Int32) (v_state : Int32) (v_log_size : Int32) (v_log_words : Nat → Int32), f v_bestCost v_bestOnes v_state v_log_size v_log_words = fX3_finish_d v_bestCost v_bestOnes v_state v_log_size v_log_words := ⟨fX3_finish_d, fun _ _ _ _ _ => rfl⟩
noncomputable def fX3_finish : Int32 → Int32 → Int32 → Int32 → (Nat → Int32) → (Int32 × Int32 × (Nat → Int32)) := Classical.choose fX3_finish_ex
theorem fX3_finish_eq (v_bestCost : Int32) (v_bestOnes : Int32) (v_state : Int32) (v_log_size : Int32) (v_log_words : Nat → Int32) : fX3_finish v_bestCost v_bestOnes v_state v_log_size v_log_words = fX3_finish_d v_bestCost v_bestOnes v_state v_log_size v_log_words := Classical.choose_spec fX3_finish_ex v_bestCost v_bestOnes v_state v_log_size v_log_words
set_option maxHeartbeats 1000000 in
set_option maxRecDepth 100000 in
theorem ctX3_finish (l : Launch) (D : va_G) (cI cZ : ClassId) (h0 h0_problem h0_log h0_setting h0_choices h0_onesBefore h0_zerosBefore h0_log_words : Nat) (v_depth v_bestCost v_bestOnes v_stepsMade v_state v_log_size : Int32) (v_log_words : Nat → Int32) (hL : okN 400 v_log_size) : Met l yX3_finish (gw yX3_finish cX3_finish 1 none) { frames := 2, cells := 0, slots := 0, locals := 43 } (wPc D cI cZ [.ref h0] [(h0, .inr (3, [.ref h0_problem, .ref h0_log, .ref h0_setting, .ref h0_choices, .ref h0_onesBefore, .ref h0_zerosBefore, .int v_depth, .int v_bestCost, .int v_bestOnes, .int v_stepsMade, .int v_state])), (h0_log, .inr (1, [.ref h0_log_words, .int v_log_size])), (h0_log_words, .inl (cI, 400, .inl v_log_words))]) (wQ D none [(h0, .inr (3, [.ref h0_problem, .ref h0_log, .ref h0_setting, .ref h0_choices, .ref h0_onesBefore, .ref h0_zerosBefore, .int v_depth, .int v_bestCost, .int v_bestOnes, .int v_stepsMade, .int v_state])), (h0_log, .inr (1, [.ref h0_log_words, .int v_log_size])), (h0_log_words, .inl (cI, 400, .inl v_log_words))] [(h0, .inr (3, [.ref h0_problem, .ref h0_log, .ref h0_setting, .ref h0_choices, .ref h0_onesBefore, .ref h0_zerosBefore, .int v_depth, .int v_bestCost, .int v_bestOnes, .int v_stepsMade, .int ((fX3_finish v_bestCost v_bestOnes v_state v_log_size v_log_words).1)])), (h0_log, .inr (1, [.ref h0_log_words, .int ((fX3_finish v_bestCost v_bestOnes v_state v_log_size v_log_words).2.1)])), (h0_log_words, .inl (cI, 400, .inl ((fX3_finish v_bestCost v_bestOnes v_state v_log_size v_log_words).2.2)))]) 0 0 (aw [(h0, .inr (3, [.ref h0_problem, .ref h0_log, .ref h0_setting, .ref h0_choices, .ref h0_onesBefore, .ref h0_zerosBefore, .int v_depth, .int v_bestCost, .int v_bestOnes, .int v_stepsMade, .int v_state])), (h0_log, .inr (1, [.ref h0_log_words, .int v_log_size])), (h0_log_words, .inl (cI, 400, .inl v_log_words))]) := by
  refine wMet (by decide) (Nat.le_of_ble_eq_true rfl) ?_
  intro p e s m below meth c hx hb hr hlocks hml hown hts hP hK hN hD hS ls hl
  have hl : lv_has ls 1 [(0, .ref h0)] := hl
  have hF := (fX3_finish_eq v_bestCost v_bestOnes v_state v_log_size v_log_words).trans (fX3_finish_d.eq_1 v_bestCost v_bestOnes v_state v_log_size v_log_words)
  refine lv_aload_n hx hb dX3_finish_0 rfl (lv_at hl 0 rfl) ?_
  refine lv_aload_n hx hb dX3_finish_1 rfl (lv_at hl 0 rfl) ?_
  refine va_get (D := D) hx hb hts inX3 hown hK hP 0 rfl rfl 7 (by decide) (hts _ kw150) (fun _ h9 => h9) rfl dX3_finish_2 ?_
  have hPc : va_P D vwCl [(h0, .inr (3, [.ref h0_problem, .ref h0_log, .ref h0_setting, .ref h0_choices, .ref h0_onesBefore, .ref h0_zerosBefore, .int v_depth, .int v_bestCost, .int v_bestOnes, .int v_stepsMade, .int v_state])), (h0_log, .inr (1, [.ref h0_log_words, .int v_log_size])), (h0_log_words, .inl (cI, 400, .inl v_log_words))] _ := hP.sub [0, 1, 2] rfl
  refine wback (ws' := [(h0, .inr (3, [.ref h0_problem, .ref h0_log, .ref h0_setting, .ref h0_choices, .ref h0_onesBefore, .ref h0_zerosBefore, .int v_depth, .int v_bestCost, .int v_bestOnes, .int v_stepsMade, .int ((fX3_writes v_bestCost v_state v_log_size v_log_words).2.1)])), (h0_log, .inr (1, [.ref h0_log_words, .int ((fX3_writes v_bestCost v_state v_log_size v_log_words).2.2.1)])), (h0_log_words, .inl (cI, 400, .inl ((fX3_writes v_bestCost v_state v_log_size v_log_words).2.2.2)))]) [0, 1, 2] (va_runV (As := [.int v_bestCost]) (rest := []) ⟨hx, hb, hml, hown, hts⟩ (ctX3_writes l D cI cZ h0 h0_problem h0_log h0_setting h0_choices h0_onesBefore h0_zerosBefore h0_log_words v_bestCost v_depth v_bestCost v_bestOnes v_stepsMade v_state v_log_size v_log_words hL) ⟨(cB hts kw318 kw315 kw55 pmX3_writes ⟨Nat.le_of_ble_eq_true rfl, Nat.le_of_ble_eq_true rfl⟩), hts _ kw317, hts _ kw9⟩ ⟨wPc_blind, va_recv hK hP (ci := 3) (q0 := 0) rfl rfl, wpre hPc hK hN (hD.sub (ws' := [(h0, .inr (3, [.ref h0_problem, .ref h0_log, .ref h0_setting, .ref h0_choices, .ref h0_onesBefore, .ref h0_zerosBefore, .int v_depth, .int v_bestCost, .int v_bestOnes, .int v_stepsMade, .int v_state])), (h0_log, .inr (1, [.ref h0_log_words, .int v_log_size])), (h0_log_words, .inl (cI, 400, .inl v_log_words))]) [0, 1, 2] (by decide) rfl)⟩ rfl rfl hl.1 rfl (lv_room (Nat.le_of_ble_eq_true rfl)) dX3_finish_5 ⟨Nat.zero_le _, Nat.zero_le _⟩) hP hD hS rfl rfl rfl rfl (fun H locs hP hD hS => ?_)
  refine lv_if_eq (tgt := 27) hx hb dX3_finish_8 (by decide) (fun c_1 => ?_) (fun c_1 => ?_)
  · have hF := hF.trans (if_pos c_1)
    exact wretv hx hb hr hlocks (by rw [hF]; exact hP) hS dX3_finish_27
  · have hF := hF.trans (if_neg c_1)
    refine lv_aload_n hx hb dX3_finish_11 rfl (lv_at hl 0 rfl) ?_
    refine lv_aload_n hx hb dX3_finish_12 rfl (lv_at hl 0 rfl) ?_
    refine va_get (D := D) hx hb hts inX3 hown hK hP 0 rfl rfl 8 (by decide) (hts _ kw152) (fun _ h9 => h9) rfl dX3_finish_13 ?_
    have hPc : va_P D vwCl [(h0, .inr (3, [.ref h0_problem, .ref h0_log, .ref h0_setting, .ref h0_choices, .ref h0_onesBefore, .ref h0_zerosBefore, .int v_depth, .int v_bestCost, .int v_bestOnes, .int v_stepsMade, .int ((fX3_writes v_bestCost v_state v_log_size v_log_words).2.1)])), (h0_log, .inr (1, [.ref h0_log_words, .int ((fX3_writes v_bestCost v_state v_log_size v_log_words).2.2.1)])), (h0_log_words, .inl (cI, 400, .inl ((fX3_writes v_bestCost v_state v_log_size v_log_words).2.2.2)))] _ := hP.sub [0, 1, 2] rfl
    refine wback (ws' := [(h0, .inr (3, [.ref h0_problem, .ref h0_log, .ref h0_setting, .ref h0_choices, .ref h0_onesBefore, .ref h0_zerosBefore, .int v_depth, .int v_bestCost, .int v_bestOnes, .int v_stepsMade, .int ((fX3_writes v_bestOnes ((fX3_writes v_bestCost v_state v_log_size v_log_words).2.1) ((fX3_writes v_bestCost v_state v_log_size v_log_words).2.2.1) ((fX3_writes v_bestCost v_state v_log_size v_log_words).2.2.2)).2.1)])), (h0_log, .inr (1, [.ref h0_log_words, .int ((fX3_writes v_bestOnes ((fX3_writes v_bestCost v_state v_log_size v_log_words).2.1) ((fX3_writes v_bestCost v_state v_log_size v_log_words).2.2.1) ((fX3_writes v_bestCost v_state v_log_size v_log_words).2.2.2)).2.2.1)])), (h0_log_words, .inl (cI, 400, .inl ((fX3_writes v_bestOnes ((fX3_writes v_bestCost v_state v_log_size v_log_words).2.1) ((fX3_writes v_bestCost v_state v_log_size v_log_words).2.2.1) ((fX3_writes v_bestCost v_state v_log_size v_log_words).2.2.2)).2.2.2)))]) [0, 1, 2] (va_runV (As := [.int v_bestOnes]) (rest := []) ⟨hx, hb, hml, hown, hts⟩ (ctX3_writes l D cI cZ h0 h0_problem h0_log h0_setting h0_choices h0_onesBefore h0_zerosBefore h0_log_words v_bestOnes v_depth v_bestCost v_bestOnes v_stepsMade ((fX3_writes v_bestCost v_state v_log_size v_log_words).2.1) ((fX3_writes v_bestCost v_state v_log_size v_log_words).2.2.1) ((fX3_writes v_bestCost v_state v_log_size v_log_words).2.2.2) (okL_writes hL)) ⟨(cB hts kw318 kw315 kw55 pmX3_writes ⟨Nat.le_of_ble_eq_true rfl, Nat.le_of_ble_eq_true rfl⟩), hts _ kw317, hts _ kw9⟩ ⟨wPc_blind, va_recv hK hP (ci := 3) (q0 := 0) rfl rfl, wpre hPc hK hN (hD.sub (ws' := [(h0, .inr (3, [.ref h0_problem, .ref h0_log, .ref h0_setting, .ref h0_choices, .ref h0_onesBefore, .ref h0_zerosBefore, .int v_depth, .int v_bestCost, .int v_bestOnes, .int v_stepsMade, .int ((fX3_writes v_bestCost v_state v_log_size v_log_words).2.1)])), (h0_log, .inr (1, [.ref h0_log_words, .int ((fX3_writes v_bestCost v_state v_log_size v_log_words).2.2.1)])), (h0_log_words, .inl (cI, 400, .inl ((fX3_writes v_bestCost v_state v_log_size v_log_words).2.2.2)))]) [0, 1, 2] (by decide) rfl)⟩ rfl rfl hl.1 rfl (lv_room (Nat.le_of_ble_eq_true rfl)) dX3_finish_16 ⟨Nat.zero_le _, Nat.zero_le _⟩) hP hD hS rfl rfl rfl rfl (fun H locs hP hD hS => ?_)
    refine lv_if_eq (tgt := 27) hx hb dX3_finish_19 (by decide) (fun c_2 => ?_) (fun c_2 => ?_)
    · have hF := hF.trans (if_pos c_2)
      exact wretv hx hb hr hlocks (by rw [hF]; exact hP) hS dX3_finish_27
    · have hF := hF.trans (if_neg c_2)
      refine lv_aload_n hx hb dX3_finish_22 rfl (lv_at hl 0 rfl) ?_
      refine lv_iconst (v := 1) hx hb dX3_finish_23 (by decide) ?_
      refine va_put (D := D) (v := .int 1) (ty := .int) hx hb hts inX3 tyX3 tyX3_ok nmX3 hown hK hP hD hS 0 rfl rfl 10 (by decide) (hts _ kw156) (fun _ h9 => h9) rfl (by decide +kernel) rfl rfl (Nat.le_of_ble_eq_true rfl) dX3_finish_24 (fun H locs hP hD hS => ?_)
      have hP : va_P D vwCl [(h0, .inr (3, [.ref h0_problem, .ref h0_log, .ref h0_setting, .ref h0_choices, .ref h0_onesBefore, .ref h0_zerosBefore, .int v_depth, .int v_bestCost, .int v_bestOnes, .int v_stepsMade, .int 1])), (h0_log, .inr (1, [.ref h0_log_words, .int ((fX3_writes v_bestOnes ((fX3_writes v_bestCost v_state v_log_size v_log_words).2.1) ((fX3_writes v_bestCost v_state v_log_size v_log_words).2.2.1) ((fX3_writes v_bestCost v_state v_log_size v_log_words).2.2.2)).2.2.1)])), (h0_log_words, .inl (cI, 400, .inl ((fX3_writes v_bestOnes ((fX3_writes v_bestCost v_state v_log_size v_log_words).2.1) ((fX3_writes v_bestCost v_state v_log_size v_log_words).2.2.1) ((fX3_writes v_bestCost v_state v_log_size v_log_words).2.2.2)).2.2.2)))] H := hP
      have hD : va_D _ [(h0, .inr (3, [.ref h0_problem, .ref h0_log, .ref h0_setting, .ref h0_choices, .ref h0_onesBefore, .ref h0_zerosBefore, .int v_depth, .int v_bestCost, .int v_bestOnes, .int v_stepsMade, .int 1])), (h0_log, .inr (1, [.ref h0_log_words, .int ((fX3_writes v_bestOnes ((fX3_writes v_bestCost v_state v_log_size v_log_words).2.1) ((fX3_writes v_bestCost v_state v_log_size v_log_words).2.2.1) ((fX3_writes v_bestCost v_state v_log_size v_log_words).2.2.2)).2.2.1)])), (h0_log_words, .inl (cI, 400, .inl ((fX3_writes v_bestOnes ((fX3_writes v_bestCost v_state v_log_size v_log_words).2.1) ((fX3_writes v_bestCost v_state v_log_size v_log_words).2.2.1) ((fX3_writes v_bestCost v_state v_log_size v_log_words).2.2.2)).2.2.2)))] := hD
      exact wretv hx hb hr hlocks (by rw [hF]; exact hP) hS dX3_finish_27

-- LeastCost$Search.keepBest
theorem pmX3_keepBest : mFit yX3_keepBest 0 := ⟨by decide +kernel, by decide +kernel, by decide +kernel⟩
noncomputable def fX3_keepBest_d (v_bestCost : Int32) (v_bestOnes : Int32) (v_problem_costs : Nat → Int32) (v_setting_ones : Int32) : Int32 × Int32 :=
  (fX2_costOf v_setting_ones v_problem_costs, v_setting_ones)
theorem fX3_keepBest_ex : ∃ f : Int32 → Int32 → (Nat → Int32) → Int32 → (Int32 × Int32), ∀ (v_bestCost : Int32) (v_bestOnes : Int32) (v_problem_costs : Nat → Int32) (v_setting_ones : Int32), f v_bestCost v_bestOnes v_problem_costs v_setting_ones = fX3_keepBest_d v_bestCost v_bestOnes v_problem_costs v_setting_ones := ⟨fX3_keepBest_d, fun _ _ _ _ => rfl⟩
noncomputable def fX3_keepBest : Int32 → Int32 → (Nat → Int32) → Int32 → (Int32 × Int32) := Classical.choose fX3_keepBest_ex
theorem fX3_keepBest_eq (v_bestCost : Int32) (v_bestOnes : Int32) (v_problem_costs : Nat → Int32) (v_setting_ones : Int32) : fX3_keepBest v_bestCost v_bestOnes v_problem_costs v_setting_ones = fX3_keepBest_d v_bestCost v_bestOnes v_problem_costs v_setting_ones := Classical.choose_spec fX3_keepBest_ex v_bestCost v_bestOnes v_problem_costs v_setting_ones
set_option maxHeartbeats 1000000 in
set_option maxRecDepth 100000 in
theorem ctX3_keepBest (l : Launch) (D : va_G) (cI cZ : ClassId) (h0 h0_problem h0_log h0_setting h0_choices h0_onesBefore h0_zerosBefore h0_problem_costs h0_problem_coefficients h0_problem_literals h0_problem_bits h0_problem_firsts h0_problem_bounds : Nat) (v_depth v_bestCost v_bestOnes v_stepsMade v_state v_problem_terms v_problem_constraints v_problem_taken v_setting_ones v_setting_zeros : Int32) (v_problem_costs : Nat → Int32) : Met l yX3_keepBest (gw yX3_keepBest cX3_keepBest 1 none) { frames := 1, cells := 0, slots := 0, locals := 23 } (wPc D cI cZ [.ref h0] [(h0, .inr (3, [.ref h0_problem, .ref h0_log, .ref h0_setting, .ref h0_choices, .ref h0_onesBefore, .ref h0_zerosBefore, .int v_depth, .int v_bestCost, .int v_bestOnes, .int v_stepsMade, .int v_state])), (h0_problem, .inr (2, [.ref h0_problem_costs, .ref h0_problem_coefficients, .ref h0_problem_literals, .ref h0_problem_bits, .ref h0_problem_firsts, .ref h0_problem_bounds, .int v_problem_terms, .int v_problem_constraints, .int v_problem_taken])), (h0_problem_costs, .inl (cI, 17, .inl v_problem_costs)), (h0_setting, .inr (4, [.int v_setting_ones, .int v_setting_zeros]))]) (wQ D none [(h0, .inr (3, [.ref h0_problem, .ref h0_log, .ref h0_setting, .ref h0_choices, .ref h0_onesBefore, .ref h0_zerosBefore, .int v_depth, .int v_bestCost, .int v_bestOnes, .int v_stepsMade, .int v_state])), (h0_problem, .inr (2, [.ref h0_problem_costs, .ref h0_problem_coefficients, .ref h0_problem_literals, .ref h0_problem_bits, .ref h0_problem_firsts, .ref h0_problem_bounds, .int v_problem_terms, .int v_problem_constraints, .int v_problem_taken])), (h0_problem_costs, .inl (cI, 17, .inl v_problem_costs)), (h0_setting, .inr (4, [.int v_setting_ones, .int v_setting_zeros]))] [(h0, .inr (3, [.ref h0_problem, .ref h0_log, .ref h0_setting, .ref h0_choices, .ref h0_onesBefore, .ref h0_zerosBefore, .int v_depth, .int ((fX3_keepBest v_bestCost v_bestOnes v_problem_costs v_setting_ones).1), .int ((fX3_keepBest v_bestCost v_bestOnes v_problem_costs v_setting_ones).2), .int v_stepsMade, .int v_state])), (h0_problem, .inr (2, [.ref h0_problem_costs, .ref h0_problem_coefficients, .ref h0_problem_literals, .ref h0_problem_bits, .ref h0_problem_firsts, .ref h0_problem_bounds, .int v_problem_terms, .int v_problem_constraints, .int v_problem_taken])), (h0_problem_costs, .inl (cI, 17, .inl v_problem_costs)), (h0_setting, .inr (4, [.int v_setting_ones, .int v_setting_zeros]))]) 0 0 (aw [(h0, .inr (3, [.ref h0_problem, .ref h0_log, .ref h0_setting, .ref h0_choices, .ref h0_onesBefore, .ref h0_zerosBefore, .int v_depth, .int v_bestCost, .int v_bestOnes, .int v_stepsMade, .int v_state])), (h0_problem, .inr (2, [.ref h0_problem_costs, .ref h0_problem_coefficients, .ref h0_problem_literals, .ref h0_problem_bits, .ref h0_problem_firsts, .ref h0_problem_bounds, .int v_problem_terms, .int v_problem_constraints, .int v_problem_taken])), (h0_problem_costs, .inl (cI, 17, .inl v_problem_costs)), (h0_setting, .inr (4, [.int v_setting_ones, .int v_setting_zeros]))]) := by
  refine wMet (by decide) (Nat.le_of_ble_eq_true rfl) ?_
  intro p e s m below meth c hx hb hr hlocks hml hown hts hP hK hN hD hS ls hl
  have hl : lv_has ls 1 [(0, .ref h0)] := hl
  have hF := (fX3_keepBest_eq v_bestCost v_bestOnes v_problem_costs v_setting_ones).trans (fX3_keepBest_d.eq_1 v_bestCost v_bestOnes v_problem_costs v_setting_ones)
  refine lv_aload_n hx hb dX3_keepBest_0 rfl (lv_at hl 0 rfl) ?_
  refine lv_aload_n hx hb dX3_keepBest_1 rfl (lv_at hl 0 rfl) ?_
  refine va_get (D := D) hx hb hts inX3 hown hK hP 0 rfl rfl 2 (by decide) (hts _ kw145) (fun _ h9 => h9) rfl dX3_keepBest_2 ?_
  refine va_getN (D := D) hx hb hts inX4 hown hK hP 3 rfl rfl 0 (by decide) (va_Nw.use (nwl_tab _ kn8) (hN _ kn8)) (fun _ h9 => h9) rfl dX3_keepBest_5 ?_
  refine va_put (D := D) (v := .int v_setting_ones) (ty := .int) hx hb hts inX3 tyX3 tyX3_ok nmX3 hown hK hP hD hS 0 rfl rfl 8 (by decide) (hts _ kw152) (fun _ h9 => h9) rfl (by decide +kernel) rfl rfl (Nat.le_of_ble_eq_true rfl) dX3_keepBest_8 (fun H locs hP hD hS => ?_)
  have hP : va_P D vwCl [(h0, .inr (3, [.ref h0_problem, .ref h0_log, .ref h0_setting, .ref h0_choices, .ref h0_onesBefore, .ref h0_zerosBefore, .int v_depth, .int v_bestCost, .int v_setting_ones, .int v_stepsMade, .int v_state])), (h0_problem, .inr (2, [.ref h0_problem_costs, .ref h0_problem_coefficients, .ref h0_problem_literals, .ref h0_problem_bits, .ref h0_problem_firsts, .ref h0_problem_bounds, .int v_problem_terms, .int v_problem_constraints, .int v_problem_taken])), (h0_problem_costs, .inl (cI, 17, .inl v_problem_costs)), (h0_setting, .inr (4, [.int v_setting_ones, .int v_setting_zeros]))] H := hP
  have hD : va_D _ [(h0, .inr (3, [.ref h0_problem, .ref h0_log, .ref h0_setting, .ref h0_choices, .ref h0_onesBefore, .ref h0_zerosBefore, .int v_depth, .int v_bestCost, .int v_setting_ones, .int v_stepsMade, .int v_state])), (h0_problem, .inr (2, [.ref h0_problem_costs, .ref h0_problem_coefficients, .ref h0_problem_literals, .ref h0_problem_bits, .ref h0_problem_firsts, .ref h0_problem_bounds, .int v_problem_terms, .int v_problem_constraints, .int v_problem_taken])), (h0_problem_costs, .inl (cI, 17, .inl v_problem_costs)), (h0_setting, .inr (4, [.int v_setting_ones, .int v_setting_zeros]))] := hD
  refine lv_aload_n hx hb dX3_keepBest_11 rfl (lv_at hl 0 rfl) ?_
  refine lv_aload_n hx hb dX3_keepBest_12 rfl (lv_at hl 0 rfl) ?_
  refine va_get (D := D) hx hb hts inX3 hown hK hP 0 rfl rfl 0 (by decide) (hts _ kw143) (fun _ h9 => h9) rfl dX3_keepBest_13 ?_
  refine lv_aload_n hx hb dX3_keepBest_16 rfl (lv_at hl 0 rfl) ?_
  refine va_get (D := D) hx hb hts inX3 hown hK hP 0 rfl rfl 8 (by decide) (hts _ kw152) (fun _ h9 => h9) rfl dX3_keepBest_17 ?_
  have hPc : va_P D vwCl [(h0_problem, .inr (2, [.ref h0_problem_costs, .ref h0_problem_coefficients, .ref h0_problem_literals, .ref h0_problem_bits, .ref h0_problem_firsts, .ref h0_problem_bounds, .int v_problem_terms, .int v_problem_constraints, .int v_problem_taken])), (h0_problem_costs, .inl (cI, 17, .inl v_problem_costs))] _ := hP.sub [1, 2] rfl
  refine rback (va_runVN (As := [.int v_setting_ones]) (rest := [.ref h0]) ⟨hx, hb, hml, hown, hts⟩ (ctX2_costOf l D cI cZ h0_problem h0_problem_costs h0_problem_coefficients h0_problem_literals h0_problem_bits h0_problem_firsts h0_problem_bounds v_setting_ones v_problem_terms v_problem_constraints v_problem_taken v_problem_costs) ⟨(cN hts kw310 (hN _ kn32) kw53 pmX2_costOf ⟨Nat.le_of_ble_eq_true rfl, Nat.le_of_ble_eq_true rfl⟩), hts _ kw309, hts _ kw7⟩ ⟨rPc_blind, va_recv hK hP (ci := 2) (q0 := 1) rfl rfl, rpre hPc hK hN⟩ rfl rfl hl.1 rfl (lv_room (Nat.le_of_ble_eq_true rfl)) dX3_keepBest_20 ⟨Nat.zero_le _, Nat.zero_le _⟩) ?_
  refine va_put (D := D) (v := .int (fX2_costOf v_setting_ones v_problem_costs)) (ty := .int) hx hb hts inX3 tyX3 tyX3_ok nmX3 hown hK hP hD hS 0 rfl rfl 7 (by decide) (hts _ kw150) (fun _ h9 => h9) rfl (by decide +kernel) rfl rfl (Nat.le_of_ble_eq_true rfl) dX3_keepBest_23 (fun H locs hP hD hS => ?_)
  have hP : va_P D vwCl [(h0, .inr (3, [.ref h0_problem, .ref h0_log, .ref h0_setting, .ref h0_choices, .ref h0_onesBefore, .ref h0_zerosBefore, .int v_depth, .int (fX2_costOf v_setting_ones v_problem_costs), .int v_setting_ones, .int v_stepsMade, .int v_state])), (h0_problem, .inr (2, [.ref h0_problem_costs, .ref h0_problem_coefficients, .ref h0_problem_literals, .ref h0_problem_bits, .ref h0_problem_firsts, .ref h0_problem_bounds, .int v_problem_terms, .int v_problem_constraints, .int v_problem_taken])), (h0_problem_costs, .inl (cI, 17, .inl v_problem_costs)), (h0_setting, .inr (4, [.int v_setting_ones, .int v_setting_zeros]))] H := hP
  have hD : va_D _ [(h0, .inr (3, [.ref h0_problem, .ref h0_log, .ref h0_setting, .ref h0_choices, .ref h0_onesBefore, .ref h0_zerosBefore, .int v_depth, .int (fX2_costOf v_setting_ones v_problem_costs), .int v_setting_ones, .int v_stepsMade, .int v_state])), (h0_problem, .inr (2, [.ref h0_problem_costs, .ref h0_problem_coefficients, .ref h0_problem_literals, .ref h0_problem_bits, .ref h0_problem_firsts, .ref h0_problem_bounds, .int v_problem_terms, .int v_problem_constraints, .int v_problem_taken])), (h0_problem_costs, .inl (cI, 17, .inl v_problem_costs)), (h0_setting, .inr (4, [.int v_setting_ones, .int v_setting_zeros]))] := hD
  exact wretv hx hb hr hlocks (by rw [hF]; exact hP) hS dX3_keepBest_26

-- LeastCost$Search.goBack
theorem pmX3_goBack : mFit yX3_goBack 0 := ⟨by decide +kernel, by decide +kernel, by decide +kernel⟩
noncomputable def fX3_goBack_d (v_depth : Int32) (v_bestCost : Int32) (v_bestOnes : Int32) (v_state : Int32) (v_log_size : Int32) (v_log_words : Nat → Int32) (v_setting_ones : Int32) (v_setting_zeros : Int32) (v_choices : Nat → Int32) (v_onesBefore : Nat → Int32) (v_zerosBefore : Nat → Int32) : Int32 × Int32 × Int32 × (Nat → Int32) × Int32 × Int32 :=
  (if ((fX3_writes 0 v_state v_log_size v_log_words).1) = 0 then (v_depth, (fX3_writes 0 v_state v_log_size v_log_words).2.1, (fX3_writes 0 v_state v_log_size v_log_words).2.2.1, (fX3_writes 0 v_state v_log_size v_log_words).2.2.2, v_setting_ones, v_setting_zeros) else (if v_depth = 0 then (v_depth, (fX3_finish v_bestCost v_bestOnes ((fX3_writes 0 v_state v_log_size v_log_words).2.1) ((fX3_writes 0 v_state v_log_size v_log_words).2.2.1) ((fX3_writes 0 v_state v_log_size v_log_words).2.2.2)).1, (fX3_finish v_bestCost v_bestOnes ((fX3_writes 0 v_state v_log_size v_log_words).2.1) ((fX3_writes 0 v_state v_log_size v_log_words).2.2.1) ((fX3_writes 0 v_state v_log_size v_log_words).2.2.2)).2.1, (fX3_finish v_bestCost v_bestOnes ((fX3_writes 0 v_state v_log_size v_log_words).2.1) ((fX3_writes 0 v_state v_log_size v_log_words).2.2.1) ((fX3_writes 0 v_state v_log_size v_log_words).2.2.2)).2.2, v_setting_ones, v_setting_zeros) else (v_depth - 1, (fX3_writes 0 v_state v_log_size v_log_words).2.1, (fX3_writes 0 v_state v_log_size v_log_words).2.2.1, (fX3_writes 0 v_state v_log_size v_log_words).2.2.2, (fX4_makeTrue (v_choices (v_depth - 1).toNatClampNeg) ((fX4_become (v_onesBefore (v_depth - 1).toNatClampNeg) (v_zerosBefore (v_depth - 1).toNatClampNeg) v_setting_ones v_setting_zeros).1) ((fX4_become (v_onesBefore (v_depth - 1).toNatClampNeg) (v_zerosBefore (v_depth - 1).toNatClampNeg) v_setting_ones v_setting_zeros).2)).1, (fX4_makeTrue (v_choices (v_depth - 1).toNatClampNeg) ((fX4_become (v_onesBefore (v_depth - 1).toNatClampNeg) (v_zerosBefore (v_depth - 1).toNatClampNeg) v_setting_ones v_setting_zeros).1) ((fX4_become (v_onesBefore (v_depth - 1).toNatClampNeg) (v_zerosBefore (v_depth - 1).toNatClampNeg) v_setting_ones v_setting_zeros).2)).2)))
theorem fX3_goBack_ex : ∃ f : Int32 → Int32 → Int32 → Int32 → Int32 → (Nat → Int32) → Int32 → Int32 → (Nat → Int32) → (Nat → Int32) → (Nat → Int32) → (Int32 × Int32 × Int32 × (Nat → Int32) × Int32 × Int32), ∀ (v_depth : Int32) (v_bestCost : Int32) (v_bestOnes : Int32) (v_state : Int32) (v_log_size : Int32) (v_log_words : Nat → Int32) (v_setting_ones : Int32) (v_setting_zeros : Int32) (v_choices : Nat → Int32) (v_onesBefore : Nat → Int32) (v_zerosBefore : Nat → Int32), f v_depth v_bestCost v_bestOnes v_state v_log_size v_log_words v_setting_ones v_setting_zeros v_choices v_onesBefore v_zerosBefore = fX3_goBack_d v_depth v_bestCost v_bestOnes v_state v_log_size v_log_words v_setting_ones v_setting_zeros v_choices v_onesBefore v_zerosBefore := ⟨fX3_goBack_d, fun _ _ _ _ _ _ _ _ _ _ _ => rfl⟩
noncomputable def fX3_goBack : Int32 → Int32 → Int32 → Int32 → Int32 → (Nat → Int32) → Int32 → Int32 → (Nat → Int32) → (Nat → Int32) → (Nat → Int32) → (Int32 × Int32 × Int32 × (Nat → Int32) × Int32 × Int32) := Classical.choose fX3_goBack_ex
theorem fX3_goBack_eq (v_depth : Int32) (v_bestCost : Int32) (v_bestOnes : Int32) (v_state : Int32) (v_log_size : Int32) (v_log_words : Nat → Int32) (v_setting_ones : Int32) (v_setting_zeros : Int32) (v_choices : Nat → Int32) (v_onesBefore : Nat → Int32) (v_zerosBefore : Nat → Int32) : fX3_goBack v_depth v_bestCost v_bestOnes v_state v_log_size v_log_words v_setting_ones v_setting_zeros v_choices v_onesBefore v_zerosBefore = fX3_goBack_d v_depth v_bestCost v_bestOnes v_state v_log_size v_log_words v_setting_ones v_setting_zeros v_choices v_onesBefore v_zerosBefore := Classical.choose_spec fX3_goBack_ex v_depth v_bestCost v_bestOnes v_state v_log_size v_log_words v_setting_ones v_setting_zeros v_choices v_onesBefore v_zerosBefore
set_option maxHeartbeats 1000000 in
set_option maxRecDepth 100000 in
theorem ctX3_goBack (l : Launch) (D : va_G) (cI cZ : ClassId) (h0 h0_problem h0_log h0_setting h0_choices h0_onesBefore h0_zerosBefore h0_log_words : Nat) (v_depth v_bestCost v_bestOnes v_stepsMade v_state v_log_size v_setting_ones v_setting_zeros : Int32) (v_log_words v_choices v_onesBefore v_zerosBefore : Nat → Int32) (hL : okN 400 v_log_size) (hDp : okN 16 v_depth) : Met l yX3_goBack (gw yX3_goBack cX3_goBack 1 none) { frames := 3, cells := 0, slots := 0, locals := 63 } (wPc D cI cZ [.ref h0] [(h0, .inr (3, [.ref h0_problem, .ref h0_log, .ref h0_setting, .ref h0_choices, .ref h0_onesBefore, .ref h0_zerosBefore, .int v_depth, .int v_bestCost, .int v_bestOnes, .int v_stepsMade, .int v_state])), (h0_log, .inr (1, [.ref h0_log_words, .int v_log_size])), (h0_log_words, .inl (cI, 400, .inl v_log_words)), (h0_setting, .inr (4, [.int v_setting_ones, .int v_setting_zeros])), (h0_choices, .inl (cI, 16, .inl v_choices)), (h0_onesBefore, .inl (cI, 16, .inl v_onesBefore)), (h0_zerosBefore, .inl (cI, 16, .inl v_zerosBefore))]) (wQ D none [(h0, .inr (3, [.ref h0_problem, .ref h0_log, .ref h0_setting, .ref h0_choices, .ref h0_onesBefore, .ref h0_zerosBefore, .int v_depth, .int v_bestCost, .int v_bestOnes, .int v_stepsMade, .int v_state])), (h0_log, .inr (1, [.ref h0_log_words, .int v_log_size])), (h0_log_words, .inl (cI, 400, .inl v_log_words)), (h0_setting, .inr (4, [.int v_setting_ones, .int v_setting_zeros])), (h0_choices, .inl (cI, 16, .inl v_choices)), (h0_onesBefore, .inl (cI, 16, .inl v_onesBefore)), (h0_zerosBefore, .inl (cI, 16, .inl v_zerosBefore))] [(h0, .inr (3, [.ref h0_problem, .ref h0_log, .ref h0_setting, .ref h0_choices, .ref h0_onesBefore, .ref h0_zerosBefore, .int ((fX3_goBack v_depth v_bestCost v_bestOnes v_state v_log_size v_log_words v_setting_ones v_setting_zeros v_choices v_onesBefore v_zerosBefore).1), .int v_bestCost, .int v_bestOnes, .int v_stepsMade, .int ((fX3_goBack v_depth v_bestCost v_bestOnes v_state v_log_size v_log_words v_setting_ones v_setting_zeros v_choices v_onesBefore v_zerosBefore).2.1)])), (h0_log, .inr (1, [.ref h0_log_words, .int ((fX3_goBack v_depth v_bestCost v_bestOnes v_state v_log_size v_log_words v_setting_ones v_setting_zeros v_choices v_onesBefore v_zerosBefore).2.2.1)])), (h0_log_words, .inl (cI, 400, .inl ((fX3_goBack v_depth v_bestCost v_bestOnes v_state v_log_size v_log_words v_setting_ones v_setting_zeros v_choices v_onesBefore v_zerosBefore).2.2.2.1))), (h0_setting, .inr (4, [.int ((fX3_goBack v_depth v_bestCost v_bestOnes v_state v_log_size v_log_words v_setting_ones v_setting_zeros v_choices v_onesBefore v_zerosBefore).2.2.2.2.1), .int ((fX3_goBack v_depth v_bestCost v_bestOnes v_state v_log_size v_log_words v_setting_ones v_setting_zeros v_choices v_onesBefore v_zerosBefore).2.2.2.2.2)])), (h0_choices, .inl (cI, 16, .inl v_choices)), (h0_onesBefore, .inl (cI, 16, .inl v_onesBefore)), (h0_zerosBefore, .inl (cI, 16, .inl v_zerosBefore))]) 0 0 (aw [(h0, .inr (3, [.ref h0_problem, .ref h0_log, .ref h0_setting, .ref h0_choices, .ref h0_onesBefore, .ref h0_zerosBefore, .int v_depth, .int v_bestCost, .int v_bestOnes, .int v_stepsMade, .int v_state])), (h0_log, .inr (1, [.ref h0_log_words, .int v_log_size])), (h0_log_words, .inl (cI, 400, .inl v_log_words)), (h0_setting, .inr (4, [.int v_setting_ones, .int v_setting_zeros])), (h0_choices, .inl (cI, 16, .inl v_choices)), (h0_onesBefore, .inl (cI, 16, .inl v_onesBefore)), (h0_zerosBefore, .inl (cI, 16, .inl v_zerosBefore))]) := by
  refine wMet (by decide) (Nat.le_of_ble_eq_true rfl) ?_
  intro p e s m below meth c hx hb hr hlocks hml hown hts hP hK hN hD hS ls hl
  have hl : lv_has ls 1 [(0, .ref h0)] := hl
  have hF := (fX3_goBack_eq v_depth v_bestCost v_bestOnes v_state v_log_size v_log_words v_setting_ones v_setting_zeros v_choices v_onesBefore v_zerosBefore).trans (fX3_goBack_d.eq_1 v_depth v_bestCost v_bestOnes v_state v_log_size v_log_words v_setting_ones v_setting_zeros v_choices v_onesBefore v_zerosBefore)
  refine lv_aload_n hx hb dX3_goBack_0 rfl (lv_at hl 0 rfl) ?_
  refine lv_iconst (v := 0) hx hb dX3_goBack_1 (by decide) ?_
  have hPc : va_P D vwCl [(h0, .inr (3, [.ref h0_problem, .ref h0_log, .ref h0_setting, .ref h0_choices, .ref h0_onesBefore, .ref h0_zerosBefore, .int v_depth, .int v_bestCost, .int v_bestOnes, .int v_stepsMade, .int v_state])), (h0_log, .inr (1, [.ref h0_log_words, .int v_log_size])), (h0_log_words, .inl (cI, 400, .inl v_log_words))] _ := hP.sub [0, 1, 2] rfl
  refine wback (ws' := [(h0, .inr (3, [.ref h0_problem, .ref h0_log, .ref h0_setting, .ref h0_choices, .ref h0_onesBefore, .ref h0_zerosBefore, .int v_depth, .int v_bestCost, .int v_bestOnes, .int v_stepsMade, .int ((fX3_writes 0 v_state v_log_size v_log_words).2.1)])), (h0_log, .inr (1, [.ref h0_log_words, .int ((fX3_writes 0 v_state v_log_size v_log_words).2.2.1)])), (h0_log_words, .inl (cI, 400, .inl ((fX3_writes 0 v_state v_log_size v_log_words).2.2.2))), (h0_setting, .inr (4, [.int v_setting_ones, .int v_setting_zeros])), (h0_choices, .inl (cI, 16, .inl v_choices)), (h0_onesBefore, .inl (cI, 16, .inl v_onesBefore)), (h0_zerosBefore, .inl (cI, 16, .inl v_zerosBefore))]) [0, 1, 2] (va_runV (As := [.int 0]) (rest := []) ⟨hx, hb, hml, hown, hts⟩ (ctX3_writes l D cI cZ h0 h0_problem h0_log h0_setting h0_choices h0_onesBefore h0_zerosBefore h0_log_words 0 v_depth v_bestCost v_bestOnes v_stepsMade v_state v_log_size v_log_words hL) ⟨(cB hts kw318 kw315 kw55 pmX3_writes ⟨Nat.le_of_ble_eq_true rfl, Nat.le_of_ble_eq_true rfl⟩), hts _ kw317, hts _ kw9⟩ ⟨wPc_blind, va_recv hK hP (ci := 3) (q0 := 0) rfl rfl, wpre hPc hK hN (hD.sub (ws' := [(h0, .inr (3, [.ref h0_problem, .ref h0_log, .ref h0_setting, .ref h0_choices, .ref h0_onesBefore, .ref h0_zerosBefore, .int v_depth, .int v_bestCost, .int v_bestOnes, .int v_stepsMade, .int v_state])), (h0_log, .inr (1, [.ref h0_log_words, .int v_log_size])), (h0_log_words, .inl (cI, 400, .inl v_log_words))]) [0, 1, 2] (by decide) rfl)⟩ rfl rfl hl.1 rfl (lv_room (Nat.le_of_ble_eq_true rfl)) dX3_goBack_2 ⟨Nat.zero_le _, Nat.zero_le _⟩) hP hD hS rfl rfl rfl rfl (fun H locs hP hD hS => ?_)
  refine lv_if_ne (tgt := 9) hx hb dX3_goBack_5 (by decide) (fun c_1 => ?_) (fun c_1 => ?_)
  · have hF := hF.trans (if_neg c_1)
    refine lv_aload_n hx hb dX3_goBack_9 rfl (lv_at hl 0 rfl) ?_
    refine va_get (D := D) hx hb hts inX3 hown hK hP 0 rfl rfl 6 (by decide) (hts _ kw149) (fun _ h9 => h9) rfl dX3_goBack_10 ?_
    refine lv_if_ne (tgt := 21) hx hb dX3_goBack_13 (by decide) (fun c_2 => ?_) (fun c_2 => ?_)
    · have hF := hF.trans (if_neg c_2)
      refine lv_aload_n hx hb dX3_goBack_21 rfl (lv_at hl 0 rfl) ?_
      refine lv_dup hx hb dX3_goBack_22 rfl ?_
      refine va_get (D := D) hx hb hts inX3 hown hK hP 0 rfl rfl 6 (by decide) (hts _ kw149) (fun _ h9 => h9) rfl dX3_goBack_23 ?_
      refine lv_iconst (v := 1) hx hb dX3_goBack_26 (by decide) ?_
      refine lv_isub hx hb dX3_goBack_27 ?_
      refine va_put (D := D) (v := .int (v_depth - 1)) (ty := .int) hx hb hts inX3 tyX3 tyX3_ok nmX3 hown hK hP hD hS 0 rfl rfl 6 (by decide) (hts _ kw149) (fun _ h9 => h9) rfl (by decide +kernel) rfl rfl (Nat.le_of_ble_eq_true rfl) dX3_goBack_28 (fun H locs hP hD hS => ?_)
      have hP : va_P D vwCl [(h0, .inr (3, [.ref h0_problem, .ref h0_log, .ref h0_setting, .ref h0_choices, .ref h0_onesBefore, .ref h0_zerosBefore, .int (v_depth - 1), .int v_bestCost, .int v_bestOnes, .int v_stepsMade, .int ((fX3_writes 0 v_state v_log_size v_log_words).2.1)])), (h0_log, .inr (1, [.ref h0_log_words, .int ((fX3_writes 0 v_state v_log_size v_log_words).2.2.1)])), (h0_log_words, .inl (cI, 400, .inl ((fX3_writes 0 v_state v_log_size v_log_words).2.2.2))), (h0_setting, .inr (4, [.int v_setting_ones, .int v_setting_zeros])), (h0_choices, .inl (cI, 16, .inl v_choices)), (h0_onesBefore, .inl (cI, 16, .inl v_onesBefore)), (h0_zerosBefore, .inl (cI, 16, .inl v_zerosBefore))] H := hP
      have hD : va_D _ [(h0, .inr (3, [.ref h0_problem, .ref h0_log, .ref h0_setting, .ref h0_choices, .ref h0_onesBefore, .ref h0_zerosBefore, .int (v_depth - 1), .int v_bestCost, .int v_bestOnes, .int v_stepsMade, .int ((fX3_writes 0 v_state v_log_size v_log_words).2.1)])), (h0_log, .inr (1, [.ref h0_log_words, .int ((fX3_writes 0 v_state v_log_size v_log_words).2.2.1)])), (h0_log_words, .inl (cI, 400, .inl ((fX3_writes 0 v_state v_log_size v_log_words).2.2.2))), (h0_setting, .inr (4, [.int v_setting_ones, .int v_setting_zeros])), (h0_choices, .inl (cI, 16, .inl v_choices)), (h0_onesBefore, .inl (cI, 16, .inl v_onesBefore)), (h0_zerosBefore, .inl (cI, 16, .inl v_zerosBefore))] := hD
      refine lv_aload_n hx hb dX3_goBack_31 rfl (lv_at hl 0 rfl) ?_
      refine va_get (D := D) hx hb hts inX3 hown hK hP 0 rfl rfl 2 (by decide) (hts _ kw145) (fun _ h9 => h9) rfl dX3_goBack_32 ?_
      refine lv_aload_n hx hb dX3_goBack_35 rfl (lv_at hl 0 rfl) ?_
      refine va_get (D := D) hx hb hts inX3 hown hK hP 0 rfl rfl 4 (by decide) (hts _ kw147) (fun _ h9 => h9) rfl dX3_goBack_36 ?_
      refine lv_aload_n hx hb dX3_goBack_39 rfl (lv_at hl 0 rfl) ?_
      refine va_get (D := D) hx hb hts inX3 hown hK hP 0 rfl rfl 6 (by decide) (hts _ kw149) (fun _ h9 => h9) rfl dX3_goBack_40 ?_
      refine va_iald hx hb hK hP 5 0 rfl rfl (okN_p hDp (by decide) c_2).2 dX3_goBack_43 ?_
      refine lv_aload_n hx hb dX3_goBack_44 rfl (lv_at hl 0 rfl) ?_
      refine va_get (D := D) hx hb hts inX3 hown hK hP 0 rfl rfl 5 (by decide) (hts _ kw148) (fun _ h9 => h9) rfl dX3_goBack_45 ?_
      refine lv_aload_n hx hb dX3_goBack_48 rfl (lv_at hl 0 rfl) ?_
      refine va_get (D := D) hx hb hts inX3 hown hK hP 0 rfl rfl 6 (by decide) (hts _ kw149) (fun _ h9 => h9) rfl dX3_goBack_49 ?_
      refine va_iald hx hb hK hP 6 0 rfl rfl (okN_p hDp (by decide) c_2).2 dX3_goBack_52 ?_
      have hPc : va_P D vwCl [(h0_setting, .inr (4, [.int v_setting_ones, .int v_setting_zeros]))] _ := hP.sub [3] rfl
      refine wback (ws' := [(h0, .inr (3, [.ref h0_problem, .ref h0_log, .ref h0_setting, .ref h0_choices, .ref h0_onesBefore, .ref h0_zerosBefore, .int (v_depth - 1), .int v_bestCost, .int v_bestOnes, .int v_stepsMade, .int ((fX3_writes 0 v_state v_log_size v_log_words).2.1)])), (h0_log, .inr (1, [.ref h0_log_words, .int ((fX3_writes 0 v_state v_log_size v_log_words).2.2.1)])), (h0_log_words, .inl (cI, 400, .inl ((fX3_writes 0 v_state v_log_size v_log_words).2.2.2))), (h0_setting, .inr (4, [.int ((fX4_become (v_onesBefore (v_depth - 1).toNatClampNeg) (v_zerosBefore (v_depth - 1).toNatClampNeg) v_setting_ones v_setting_zeros).1), .int ((fX4_become (v_onesBefore (v_depth - 1).toNatClampNeg) (v_zerosBefore (v_depth - 1).toNatClampNeg) v_setting_ones v_setting_zeros).2)])), (h0_choices, .inl (cI, 16, .inl v_choices)), (h0_onesBefore, .inl (cI, 16, .inl v_onesBefore)), (h0_zerosBefore, .inl (cI, 16, .inl v_zerosBefore))]) [3] (va_runVN (As := [.int (v_onesBefore (v_depth - 1).toNatClampNeg), .int (v_zerosBefore (v_depth - 1).toNatClampNeg)]) (rest := []) ⟨hx, hb, hml, hown, hts⟩ (ctX4_become l D cI cZ h0_setting (v_onesBefore (v_depth - 1).toNatClampNeg) (v_zerosBefore (v_depth - 1).toNatClampNeg) v_setting_ones v_setting_zeros) ⟨(cN hts kw330 (hN _ kn26) kw56 pmX4_become ⟨Nat.le_of_ble_eq_true rfl, Nat.le_of_ble_eq_true rfl⟩), hts _ kw329, hts _ kw12⟩ ⟨wPc_blind, va_recv hK hP (ci := 4) (q0 := 3) rfl rfl, wpre hPc hK hN (hD.sub (ws' := [(h0_setting, .inr (4, [.int v_setting_ones, .int v_setting_zeros]))]) [3] (by decide) rfl)⟩ rfl rfl hl.1 rfl (lv_room (Nat.le_of_ble_eq_true rfl)) dX3_goBack_53 ⟨Nat.zero_le _, Nat.zero_le _⟩) hP hD hS rfl rfl rfl rfl (fun H locs hP hD hS => ?_)
      refine lv_aload_n hx hb dX3_goBack_56 rfl (lv_at hl 0 rfl) ?_
      refine va_get (D := D) hx hb hts inX3 hown hK hP 0 rfl rfl 2 (by decide) (hts _ kw145) (fun _ h9 => h9) rfl dX3_goBack_57 ?_
      refine lv_aload_n hx hb dX3_goBack_60 rfl (lv_at hl 0 rfl) ?_
      refine va_get (D := D) hx hb hts inX3 hown hK hP 0 rfl rfl 3 (by decide) (hts _ kw146) (fun _ h9 => h9) rfl dX3_goBack_61 ?_
      refine lv_aload_n hx hb dX3_goBack_64 rfl (lv_at hl 0 rfl) ?_
      refine va_get (D := D) hx hb hts inX3 hown hK hP 0 rfl rfl 6 (by decide) (hts _ kw149) (fun _ h9 => h9) rfl dX3_goBack_65 ?_
      refine va_iald hx hb hK hP 4 0 rfl rfl (okN_p hDp (by decide) c_2).2 dX3_goBack_68 ?_
      have hPc : va_P D vwCl [(h0_setting, .inr (4, [.int ((fX4_become (v_onesBefore (v_depth - 1).toNatClampNeg) (v_zerosBefore (v_depth - 1).toNatClampNeg) v_setting_ones v_setting_zeros).1), .int ((fX4_become (v_onesBefore (v_depth - 1).toNatClampNeg) (v_zerosBefore (v_depth - 1).toNatClampNeg) v_setting_ones v_setting_zeros).2)]))] _ := hP.sub [3] rfl
      refine wback (ws' := [(h0, .inr (3, [.ref h0_problem, .ref h0_log, .ref h0_setting, .ref h0_choices, .ref h0_onesBefore, .ref h0_zerosBefore, .int (v_depth - 1), .int v_bestCost, .int v_bestOnes, .int v_stepsMade, .int ((fX3_writes 0 v_state v_log_size v_log_words).2.1)])), (h0_log, .inr (1, [.ref h0_log_words, .int ((fX3_writes 0 v_state v_log_size v_log_words).2.2.1)])), (h0_log_words, .inl (cI, 400, .inl ((fX3_writes 0 v_state v_log_size v_log_words).2.2.2))), (h0_setting, .inr (4, [.int ((fX4_makeTrue (v_choices (v_depth - 1).toNatClampNeg) ((fX4_become (v_onesBefore (v_depth - 1).toNatClampNeg) (v_zerosBefore (v_depth - 1).toNatClampNeg) v_setting_ones v_setting_zeros).1) ((fX4_become (v_onesBefore (v_depth - 1).toNatClampNeg) (v_zerosBefore (v_depth - 1).toNatClampNeg) v_setting_ones v_setting_zeros).2)).1), .int ((fX4_makeTrue (v_choices (v_depth - 1).toNatClampNeg) ((fX4_become (v_onesBefore (v_depth - 1).toNatClampNeg) (v_zerosBefore (v_depth - 1).toNatClampNeg) v_setting_ones v_setting_zeros).1) ((fX4_become (v_onesBefore (v_depth - 1).toNatClampNeg) (v_zerosBefore (v_depth - 1).toNatClampNeg) v_setting_ones v_setting_zeros).2)).2)])), (h0_choices, .inl (cI, 16, .inl v_choices)), (h0_onesBefore, .inl (cI, 16, .inl v_onesBefore)), (h0_zerosBefore, .inl (cI, 16, .inl v_zerosBefore))]) [3] (va_runVN (As := [.int (v_choices (v_depth - 1).toNatClampNeg)]) (rest := []) ⟨hx, hb, hml, hown, hts⟩ (ctX4_makeTrue l D cI cZ h0_setting (v_choices (v_depth - 1).toNatClampNeg) ((fX4_become (v_onesBefore (v_depth - 1).toNatClampNeg) (v_zerosBefore (v_depth - 1).toNatClampNeg) v_setting_ones v_setting_zeros).1) ((fX4_become (v_onesBefore (v_depth - 1).toNatClampNeg) (v_zerosBefore (v_depth - 1).toNatClampNeg) v_setting_ones v_setting_zeros).2)) ⟨(cN hts kw334 (hN _ kn27) kw56 pmX4_makeTrue ⟨Nat.le_of_ble_eq_true rfl, Nat.le_of_ble_eq_true rfl⟩), hts _ kw333, hts _ kw13⟩ ⟨wPc_blind, va_recv hK hP (ci := 4) (q0 := 3) rfl rfl, wpre hPc hK hN (hD.sub (ws' := [(h0_setting, .inr (4, [.int ((fX4_become (v_onesBefore (v_depth - 1).toNatClampNeg) (v_zerosBefore (v_depth - 1).toNatClampNeg) v_setting_ones v_setting_zeros).1), .int ((fX4_become (v_onesBefore (v_depth - 1).toNatClampNeg) (v_zerosBefore (v_depth - 1).toNatClampNeg) v_setting_ones v_setting_zeros).2)]))]) [3] (by decide) rfl)⟩ rfl rfl hl.1 rfl (lv_room (Nat.le_of_ble_eq_true rfl)) dX3_goBack_69 ⟨Nat.zero_le _, Nat.zero_le _⟩) hP hD hS rfl rfl rfl rfl (fun H locs hP hD hS => ?_)
      exact wretv hx hb hr hlocks (by rw [hF]; exact hP) hS dX3_goBack_72
    · have hF := hF.trans (if_pos c_2)
      refine lv_aload_n hx hb dX3_goBack_16 rfl (lv_at hl 0 rfl) ?_
      have hPc : va_P D vwCl [(h0, .inr (3, [.ref h0_problem, .ref h0_log, .ref h0_setting, .ref h0_choices, .ref h0_onesBefore, .ref h0_zerosBefore, .int v_depth, .int v_bestCost, .int v_bestOnes, .int v_stepsMade, .int ((fX3_writes 0 v_state v_log_size v_log_words).2.1)])), (h0_log, .inr (1, [.ref h0_log_words, .int ((fX3_writes 0 v_state v_log_size v_log_words).2.2.1)])), (h0_log_words, .inl (cI, 400, .inl ((fX3_writes 0 v_state v_log_size v_log_words).2.2.2)))] _ := hP.sub [0, 1, 2] rfl
      refine wback (ws' := [(h0, .inr (3, [.ref h0_problem, .ref h0_log, .ref h0_setting, .ref h0_choices, .ref h0_onesBefore, .ref h0_zerosBefore, .int v_depth, .int v_bestCost, .int v_bestOnes, .int v_stepsMade, .int ((fX3_finish v_bestCost v_bestOnes ((fX3_writes 0 v_state v_log_size v_log_words).2.1) ((fX3_writes 0 v_state v_log_size v_log_words).2.2.1) ((fX3_writes 0 v_state v_log_size v_log_words).2.2.2)).1)])), (h0_log, .inr (1, [.ref h0_log_words, .int ((fX3_finish v_bestCost v_bestOnes ((fX3_writes 0 v_state v_log_size v_log_words).2.1) ((fX3_writes 0 v_state v_log_size v_log_words).2.2.1) ((fX3_writes 0 v_state v_log_size v_log_words).2.2.2)).2.1)])), (h0_log_words, .inl (cI, 400, .inl ((fX3_finish v_bestCost v_bestOnes ((fX3_writes 0 v_state v_log_size v_log_words).2.1) ((fX3_writes 0 v_state v_log_size v_log_words).2.2.1) ((fX3_writes 0 v_state v_log_size v_log_words).2.2.2)).2.2))), (h0_setting, .inr (4, [.int v_setting_ones, .int v_setting_zeros])), (h0_choices, .inl (cI, 16, .inl v_choices)), (h0_onesBefore, .inl (cI, 16, .inl v_onesBefore)), (h0_zerosBefore, .inl (cI, 16, .inl v_zerosBefore))]) [0, 1, 2] (va_runV (As := []) (rest := []) ⟨hx, hb, hml, hown, hts⟩ (ctX3_finish l D cI cZ h0 h0_problem h0_log h0_setting h0_choices h0_onesBefore h0_zerosBefore h0_log_words v_depth v_bestCost v_bestOnes v_stepsMade ((fX3_writes 0 v_state v_log_size v_log_words).2.1) ((fX3_writes 0 v_state v_log_size v_log_words).2.2.1) ((fX3_writes 0 v_state v_log_size v_log_words).2.2.2) (okL_writes hL)) ⟨(cB hts kw326 kw323 kw55 pmX3_finish ⟨Nat.le_of_ble_eq_true rfl, Nat.le_of_ble_eq_true rfl⟩), hts _ kw325, hts _ kw11⟩ ⟨wPc_blind, va_recv hK hP (ci := 3) (q0 := 0) rfl rfl, wpre hPc hK hN (hD.sub (ws' := [(h0, .inr (3, [.ref h0_problem, .ref h0_log, .ref h0_setting, .ref h0_choices, .ref h0_onesBefore, .ref h0_zerosBefore, .int v_depth, .int v_bestCost, .int v_bestOnes, .int v_stepsMade, .int ((fX3_writes 0 v_state v_log_size v_log_words).2.1)])), (h0_log, .inr (1, [.ref h0_log_words, .int ((fX3_writes 0 v_state v_log_size v_log_words).2.2.1)])), (h0_log_words, .inl (cI, 400, .inl ((fX3_writes 0 v_state v_log_size v_log_words).2.2.2)))]) [0, 1, 2] (by decide) rfl)⟩ rfl rfl hl.1 rfl (lv_room (Nat.le_of_ble_eq_true rfl)) dX3_goBack_17 ⟨Nat.zero_le _, Nat.zero_le _⟩) hP hD hS rfl rfl rfl rfl (fun H locs hP hD hS => ?_)
      exact wretv hx hb hr hlocks (by rw [hF]; exact hP) hS dX3_goBack_20
  · have hF := hF.trans (if_pos c_1)
    exact wretv hx hb hr hlocks (by rw [hF]; exact hP) hS dX3_goBack_8

-- LeastCost$Search.choose
theorem pmX3_choose : mFit yX3_choose 1 := ⟨by decide +kernel, by decide +kernel, by decide +kernel⟩
noncomputable def fX3_choose_d (x1 : Int32) (v_depth : Int32) (v_state : Int32) (v_log_size : Int32) (v_log_words : Nat → Int32) (v_setting_ones : Int32) (v_setting_zeros : Int32) (v_choices : Nat → Int32) (v_onesBefore : Nat → Int32) (v_zerosBefore : Nat → Int32) : Int32 × Int32 × Int32 × (Nat → Int32) × Int32 × Int32 × (Nat → Int32) × (Nat → Int32) × (Nat → Int32) :=
  (if 16 ≤ v_depth then (v_depth, v_state, v_log_size, v_log_words, v_setting_ones, v_setting_zeros, v_choices, v_onesBefore, v_zerosBefore) else (if ((fX3_writes x1 v_state v_log_size v_log_words).1) = 0 then (v_depth, (fX3_writes x1 v_state v_log_size v_log_words).2.1, (fX3_writes x1 v_state v_log_size v_log_words).2.2.1, (fX3_writes x1 v_state v_log_size v_log_words).2.2.2, v_setting_ones, v_setting_zeros, v_choices, v_onesBefore, v_zerosBefore) else (v_depth + 1, (fX3_writes x1 v_state v_log_size v_log_words).2.1, (fX3_writes x1 v_state v_log_size v_log_words).2.2.1, (fX3_writes x1 v_state v_log_size v_log_words).2.2.2, (fX4_makeTrue (-x1) v_setting_ones v_setting_zeros).1, (fX4_makeTrue (-x1) v_setting_ones v_setting_zeros).2, (upd v_choices v_depth.toNatClampNeg x1), (upd v_onesBefore v_depth.toNatClampNeg v_setting_ones), (upd v_zerosBefore v_depth.toNatClampNeg v_setting_zeros))))
theorem fX3_choose_ex : ∃ f : Int32 → Int32 → Int32 → Int32 → (Nat → Int32) → Int32 → Int32 → (Nat → Int32) → (Nat → Int32) → (Nat → Int32) → (Int32 × Int32 × Int32 × (Nat → Int32) × Int32 × Int32 × (Nat → Int32) × (Nat → Int32) × (Nat → Int32)), ∀ (x1 : Int32) (v_depth : Int32) (v_state : Int32) (v_log_size : Int32) (v_log_words : Nat → Int32) (v_setting_ones : Int32) (v_setting_zeros : Int32) (v_choices : Nat → Int32) (v_onesBefore : Nat → Int32) (v_zerosBefore : Nat → Int32), f x1 v_depth v_state v_log_size v_log_words v_setting_ones v_setting_zeros v_choices v_onesBefore v_zerosBefore = fX3_choose_d x1 v_depth v_state v_log_size v_log_words v_setting_ones v_setting_zeros v_choices v_onesBefore v_zerosBefore := ⟨fX3_choose_d, fun _ _ _ _ _ _ _ _ _ _ => rfl⟩
noncomputable def fX3_choose : Int32 → Int32 → Int32 → Int32 → (Nat → Int32) → Int32 → Int32 → (Nat → Int32) → (Nat → Int32) → (Nat → Int32) → (Int32 × Int32 × Int32 × (Nat → Int32) × Int32 × Int32 × (Nat → Int32) × (Nat → Int32) × (Nat → Int32)) := Classical.choose fX3_choose_ex
theorem fX3_choose_eq (x1 : Int32) (v_depth : Int32) (v_state : Int32) (v_log_size : Int32) (v_log_words : Nat → Int32) (v_setting_ones : Int32) (v_setting_zeros : Int32) (v_choices : Nat → Int32) (v_onesBefore : Nat → Int32) (v_zerosBefore : Nat → Int32) : fX3_choose x1 v_depth v_state v_log_size v_log_words v_setting_ones v_setting_zeros v_choices v_onesBefore v_zerosBefore = fX3_choose_d x1 v_depth v_state v_log_size v_log_words v_setting_ones v_setting_zeros v_choices v_onesBefore v_zerosBefore := Classical.choose_spec fX3_choose_ex x1 v_depth v_state v_log_size v_log_words v_setting_ones v_setting_zeros v_choices v_onesBefore v_zerosBefore
set_option maxHeartbeats 1000000 in
set_option maxRecDepth 100000 in
theorem ctX3_choose (l : Launch) (D : va_G) (cI cZ : ClassId) (h0 h0_problem h0_log h0_setting h0_choices h0_onesBefore h0_zerosBefore h0_log_words : Nat) (x1 : Int32) (v_depth v_bestCost v_bestOnes v_stepsMade v_state v_log_size v_setting_ones v_setting_zeros : Int32) (v_log_words v_choices v_onesBefore v_zerosBefore : Nat → Int32) (hL : okN 400 v_log_size) (hDp : okN 16 v_depth) : Met l yX3_choose (gw yX3_choose cX3_choose 2 none) { frames := 2, cells := 0, slots := 0, locals := 43 } (wPc D cI cZ [.ref h0, .int x1] [(h0, .inr (3, [.ref h0_problem, .ref h0_log, .ref h0_setting, .ref h0_choices, .ref h0_onesBefore, .ref h0_zerosBefore, .int v_depth, .int v_bestCost, .int v_bestOnes, .int v_stepsMade, .int v_state])), (h0_log, .inr (1, [.ref h0_log_words, .int v_log_size])), (h0_log_words, .inl (cI, 400, .inl v_log_words)), (h0_setting, .inr (4, [.int v_setting_ones, .int v_setting_zeros])), (h0_choices, .inl (cI, 16, .inl v_choices)), (h0_onesBefore, .inl (cI, 16, .inl v_onesBefore)), (h0_zerosBefore, .inl (cI, 16, .inl v_zerosBefore))]) (wQ D none [(h0, .inr (3, [.ref h0_problem, .ref h0_log, .ref h0_setting, .ref h0_choices, .ref h0_onesBefore, .ref h0_zerosBefore, .int v_depth, .int v_bestCost, .int v_bestOnes, .int v_stepsMade, .int v_state])), (h0_log, .inr (1, [.ref h0_log_words, .int v_log_size])), (h0_log_words, .inl (cI, 400, .inl v_log_words)), (h0_setting, .inr (4, [.int v_setting_ones, .int v_setting_zeros])), (h0_choices, .inl (cI, 16, .inl v_choices)), (h0_onesBefore, .inl (cI, 16, .inl v_onesBefore)), (h0_zerosBefore, .inl (cI, 16, .inl v_zerosBefore))] [(h0, .inr (3, [.ref h0_problem, .ref h0_log, .ref h0_setting, .ref h0_choices, .ref h0_onesBefore, .ref h0_zerosBefore, .int ((fX3_choose x1 v_depth v_state v_log_size v_log_words v_setting_ones v_setting_zeros v_choices v_onesBefore v_zerosBefore).1), .int v_bestCost, .int v_bestOnes, .int v_stepsMade, .int ((fX3_choose x1 v_depth v_state v_log_size v_log_words v_setting_ones v_setting_zeros v_choices v_onesBefore v_zerosBefore).2.1)])), (h0_log, .inr (1, [.ref h0_log_words, .int ((fX3_choose x1 v_depth v_state v_log_size v_log_words v_setting_ones v_setting_zeros v_choices v_onesBefore v_zerosBefore).2.2.1)])), (h0_log_words, .inl (cI, 400, .inl ((fX3_choose x1 v_depth v_state v_log_size v_log_words v_setting_ones v_setting_zeros v_choices v_onesBefore v_zerosBefore).2.2.2.1))), (h0_setting, .inr (4, [.int ((fX3_choose x1 v_depth v_state v_log_size v_log_words v_setting_ones v_setting_zeros v_choices v_onesBefore v_zerosBefore).2.2.2.2.1), .int ((fX3_choose x1 v_depth v_state v_log_size v_log_words v_setting_ones v_setting_zeros v_choices v_onesBefore v_zerosBefore).2.2.2.2.2.1)])), (h0_choices, .inl (cI, 16, .inl ((fX3_choose x1 v_depth v_state v_log_size v_log_words v_setting_ones v_setting_zeros v_choices v_onesBefore v_zerosBefore).2.2.2.2.2.2.1))), (h0_onesBefore, .inl (cI, 16, .inl ((fX3_choose x1 v_depth v_state v_log_size v_log_words v_setting_ones v_setting_zeros v_choices v_onesBefore v_zerosBefore).2.2.2.2.2.2.2.1))), (h0_zerosBefore, .inl (cI, 16, .inl ((fX3_choose x1 v_depth v_state v_log_size v_log_words v_setting_ones v_setting_zeros v_choices v_onesBefore v_zerosBefore).2.2.2.2.2.2.2.2)))]) 0 0 (aw [(h0, .inr (3, [.ref h0_problem, .ref h0_log, .ref h0_setting, .ref h0_choices, .ref h0_onesBefore, .ref h0_zerosBefore, .int v_depth, .int v_bestCost, .int v_bestOnes, .int v_stepsMade, .int v_state])), (h0_log, .inr (1, [.ref h0_log_words, .int v_log_size])), (h0_log_words, .inl (cI, 400, .inl v_log_words)), (h0_setting, .inr (4, [.int v_setting_ones, .int v_setting_zeros])), (h0_choices, .inl (cI, 16, .inl v_choices)), (h0_onesBefore, .inl (cI, 16, .inl v_onesBefore)), (h0_zerosBefore, .inl (cI, 16, .inl v_zerosBefore))]) := by
  refine wMet (by decide) (Nat.le_of_ble_eq_true rfl) ?_
  intro p e s m below meth c hx hb hr hlocks hml hown hts hP hK hN hD hS ls hl
  have hl : lv_has ls 2 [(0, .ref h0), (1, .int x1)] := hl
  have hF := (fX3_choose_eq x1 v_depth v_state v_log_size v_log_words v_setting_ones v_setting_zeros v_choices v_onesBefore v_zerosBefore).trans (fX3_choose_d.eq_1 x1 v_depth v_state v_log_size v_log_words v_setting_ones v_setting_zeros v_choices v_onesBefore v_zerosBefore)
  refine lv_aload_n hx hb dX3_choose_0 rfl (lv_at hl 0 rfl) ?_
  refine va_get (D := D) hx hb hts inX3 hown hK hP 0 rfl rfl 6 (by decide) (hts _ kw149) (fun _ h9 => h9) rfl dX3_choose_1 ?_
  refine lv_bipush (v := 16) hx hb dX3_choose_4 (by decide) ?_
  refine lv_icmp_ge (tgt := 17) hx hb dX3_choose_6 (by decide) (fun c_1 => ?_) (fun c_1 => ?_)
  · have hF := hF.trans (if_pos c_1)
    exact wretv hx hb hr hlocks (by rw [hF]; exact hP) hS dX3_choose_17
  · have hF := hF.trans (if_neg c_1)
    refine lv_aload_n hx hb dX3_choose_9 rfl (lv_at hl 0 rfl) ?_
    refine lv_iload_n hx hb dX3_choose_10 rfl (lv_at hl 1 rfl) ?_
    have hPc : va_P D vwCl [(h0, .inr (3, [.ref h0_problem, .ref h0_log, .ref h0_setting, .ref h0_choices, .ref h0_onesBefore, .ref h0_zerosBefore, .int v_depth, .int v_bestCost, .int v_bestOnes, .int v_stepsMade, .int v_state])), (h0_log, .inr (1, [.ref h0_log_words, .int v_log_size])), (h0_log_words, .inl (cI, 400, .inl v_log_words))] _ := hP.sub [0, 1, 2] rfl
    refine wback (ws' := [(h0, .inr (3, [.ref h0_problem, .ref h0_log, .ref h0_setting, .ref h0_choices, .ref h0_onesBefore, .ref h0_zerosBefore, .int v_depth, .int v_bestCost, .int v_bestOnes, .int v_stepsMade, .int ((fX3_writes x1 v_state v_log_size v_log_words).2.1)])), (h0_log, .inr (1, [.ref h0_log_words, .int ((fX3_writes x1 v_state v_log_size v_log_words).2.2.1)])), (h0_log_words, .inl (cI, 400, .inl ((fX3_writes x1 v_state v_log_size v_log_words).2.2.2))), (h0_setting, .inr (4, [.int v_setting_ones, .int v_setting_zeros])), (h0_choices, .inl (cI, 16, .inl v_choices)), (h0_onesBefore, .inl (cI, 16, .inl v_onesBefore)), (h0_zerosBefore, .inl (cI, 16, .inl v_zerosBefore))]) [0, 1, 2] (va_runV (As := [.int x1]) (rest := []) ⟨hx, hb, hml, hown, hts⟩ (ctX3_writes l D cI cZ h0 h0_problem h0_log h0_setting h0_choices h0_onesBefore h0_zerosBefore h0_log_words x1 v_depth v_bestCost v_bestOnes v_stepsMade v_state v_log_size v_log_words hL) ⟨(cB hts kw318 kw315 kw55 pmX3_writes ⟨Nat.le_of_ble_eq_true rfl, Nat.le_of_ble_eq_true rfl⟩), hts _ kw317, hts _ kw9⟩ ⟨wPc_blind, va_recv hK hP (ci := 3) (q0 := 0) rfl rfl, wpre hPc hK hN (hD.sub (ws' := [(h0, .inr (3, [.ref h0_problem, .ref h0_log, .ref h0_setting, .ref h0_choices, .ref h0_onesBefore, .ref h0_zerosBefore, .int v_depth, .int v_bestCost, .int v_bestOnes, .int v_stepsMade, .int v_state])), (h0_log, .inr (1, [.ref h0_log_words, .int v_log_size])), (h0_log_words, .inl (cI, 400, .inl v_log_words))]) [0, 1, 2] (by decide) rfl)⟩ rfl rfl hl.1 rfl (lv_room (Nat.le_of_ble_eq_true rfl)) dX3_choose_11 ⟨Nat.zero_le _, Nat.zero_le _⟩) hP hD hS rfl rfl rfl rfl (fun H locs hP hD hS => ?_)
    refine lv_if_ne (tgt := 18) hx hb dX3_choose_14 (by decide) (fun c_2 => ?_) (fun c_2 => ?_)
    · have hF := hF.trans (if_neg c_2)
      refine lv_aload_n hx hb dX3_choose_18 rfl (lv_at hl 0 rfl) ?_
      refine va_get (D := D) hx hb hts inX3 hown hK hP 0 rfl rfl 3 (by decide) (hts _ kw146) (fun _ h9 => h9) rfl dX3_choose_19 ?_
      refine lv_aload_n hx hb dX3_choose_22 rfl (lv_at hl 0 rfl) ?_
      refine va_get (D := D) hx hb hts inX3 hown hK hP 0 rfl rfl 6 (by decide) (hts _ kw149) (fun _ h9 => h9) rfl dX3_choose_23 ?_
      refine lv_iload_n hx hb dX3_choose_26 rfl (lv_at hl 1 rfl) ?_
      refine va_iast hx hb hK hP hD hS 4 0 rfl rfl (okN_in hDp (by decide) (k_lt_of c_1)) dX3_choose_27 (fun H locs hP hD hS => ?_)
      have hP : va_P D vwCl [(h0, .inr (3, [.ref h0_problem, .ref h0_log, .ref h0_setting, .ref h0_choices, .ref h0_onesBefore, .ref h0_zerosBefore, .int v_depth, .int v_bestCost, .int v_bestOnes, .int v_stepsMade, .int ((fX3_writes x1 v_state v_log_size v_log_words).2.1)])), (h0_log, .inr (1, [.ref h0_log_words, .int ((fX3_writes x1 v_state v_log_size v_log_words).2.2.1)])), (h0_log_words, .inl (cI, 400, .inl ((fX3_writes x1 v_state v_log_size v_log_words).2.2.2))), (h0_setting, .inr (4, [.int v_setting_ones, .int v_setting_zeros])), (h0_choices, .inl (cI, 16, .inl (upd v_choices v_depth.toNatClampNeg x1))), (h0_onesBefore, .inl (cI, 16, .inl v_onesBefore)), (h0_zerosBefore, .inl (cI, 16, .inl v_zerosBefore))] H := hP
      have hD : va_D _ [(h0, .inr (3, [.ref h0_problem, .ref h0_log, .ref h0_setting, .ref h0_choices, .ref h0_onesBefore, .ref h0_zerosBefore, .int v_depth, .int v_bestCost, .int v_bestOnes, .int v_stepsMade, .int ((fX3_writes x1 v_state v_log_size v_log_words).2.1)])), (h0_log, .inr (1, [.ref h0_log_words, .int ((fX3_writes x1 v_state v_log_size v_log_words).2.2.1)])), (h0_log_words, .inl (cI, 400, .inl ((fX3_writes x1 v_state v_log_size v_log_words).2.2.2))), (h0_setting, .inr (4, [.int v_setting_ones, .int v_setting_zeros])), (h0_choices, .inl (cI, 16, .inl (upd v_choices v_depth.toNatClampNeg x1))), (h0_onesBefore, .inl (cI, 16, .inl v_onesBefore)), (h0_zerosBefore, .inl (cI, 16, .inl v_zerosBefore))] := hD
      refine lv_aload_n hx hb dX3_choose_28 rfl (lv_at hl 0 rfl) ?_
      refine va_get (D := D) hx hb hts inX3 hown hK hP 0 rfl rfl 4 (by decide) (hts _ kw147) (fun _ h9 => h9) rfl dX3_choose_29 ?_
      refine lv_aload_n hx hb dX3_choose_32 rfl (lv_at hl 0 rfl) ?_
      refine va_get (D := D) hx hb hts inX3 hown hK hP 0 rfl rfl 6 (by decide) (hts _ kw149) (fun _ h9 => h9) rfl dX3_choose_33 ?_
      refine lv_aload_n hx hb dX3_choose_36 rfl (lv_at hl 0 rfl) ?_
      refine va_get (D := D) hx hb hts inX3 hown hK hP 0 rfl rfl 2 (by decide) (hts _ kw145) (fun _ h9 => h9) rfl dX3_choose_37 ?_
      refine va_getN (D := D) hx hb hts inX4 hown hK hP 3 rfl rfl 0 (by decide) (va_Nw.use (nwl_tab _ kn8) (hN _ kn8)) (fun _ h9 => h9) rfl dX3_choose_40 ?_
      refine va_iast hx hb hK hP hD hS 5 0 rfl rfl (okN_in hDp (by decide) (k_lt_of c_1)) dX3_choose_43 (fun H locs hP hD hS => ?_)
      have hP : va_P D vwCl [(h0, .inr (3, [.ref h0_problem, .ref h0_log, .ref h0_setting, .ref h0_choices, .ref h0_onesBefore, .ref h0_zerosBefore, .int v_depth, .int v_bestCost, .int v_bestOnes, .int v_stepsMade, .int ((fX3_writes x1 v_state v_log_size v_log_words).2.1)])), (h0_log, .inr (1, [.ref h0_log_words, .int ((fX3_writes x1 v_state v_log_size v_log_words).2.2.1)])), (h0_log_words, .inl (cI, 400, .inl ((fX3_writes x1 v_state v_log_size v_log_words).2.2.2))), (h0_setting, .inr (4, [.int v_setting_ones, .int v_setting_zeros])), (h0_choices, .inl (cI, 16, .inl (upd v_choices v_depth.toNatClampNeg x1))), (h0_onesBefore, .inl (cI, 16, .inl (upd v_onesBefore v_depth.toNatClampNeg v_setting_ones))), (h0_zerosBefore, .inl (cI, 16, .inl v_zerosBefore))] H := hP
      have hD : va_D _ [(h0, .inr (3, [.ref h0_problem, .ref h0_log, .ref h0_setting, .ref h0_choices, .ref h0_onesBefore, .ref h0_zerosBefore, .int v_depth, .int v_bestCost, .int v_bestOnes, .int v_stepsMade, .int ((fX3_writes x1 v_state v_log_size v_log_words).2.1)])), (h0_log, .inr (1, [.ref h0_log_words, .int ((fX3_writes x1 v_state v_log_size v_log_words).2.2.1)])), (h0_log_words, .inl (cI, 400, .inl ((fX3_writes x1 v_state v_log_size v_log_words).2.2.2))), (h0_setting, .inr (4, [.int v_setting_ones, .int v_setting_zeros])), (h0_choices, .inl (cI, 16, .inl (upd v_choices v_depth.toNatClampNeg x1))), (h0_onesBefore, .inl (cI, 16, .inl (upd v_onesBefore v_depth.toNatClampNeg v_setting_ones))), (h0_zerosBefore, .inl (cI, 16, .inl v_zerosBefore))] := hD
      refine lv_aload_n hx hb dX3_choose_44 rfl (lv_at hl 0 rfl) ?_
      refine va_get (D := D) hx hb hts inX3 hown hK hP 0 rfl rfl 5 (by decide) (hts _ kw148) (fun _ h9 => h9) rfl dX3_choose_45 ?_
      refine lv_aload_n hx hb dX3_choose_48 rfl (lv_at hl 0 rfl) ?_
      refine va_get (D := D) hx hb hts inX3 hown hK hP 0 rfl rfl 6 (by decide) (hts _ kw149) (fun _ h9 => h9) rfl dX3_choose_49 ?_
      refine lv_aload_n hx hb dX3_choose_52 rfl (lv_at hl 0 rfl) ?_
      refine va_get (D := D) hx hb hts inX3 hown hK hP 0 rfl rfl 2 (by decide) (hts _ kw145) (fun _ h9 => h9) rfl dX3_choose_53 ?_
      refine va_getN (D := D) hx hb hts inX4 hown hK hP 3 rfl rfl 1 (by decide) (va_Nw.use (nwl_tab _ kn11) (hN _ kn11)) (fun _ h9 => h9) rfl dX3_choose_56 ?_
      refine va_iast hx hb hK hP hD hS 6 0 rfl rfl (okN_in hDp (by decide) (k_lt_of c_1)) dX3_choose_59 (fun H locs hP hD hS => ?_)
      have hP : va_P D vwCl [(h0, .inr (3, [.ref h0_problem, .ref h0_log, .ref h0_setting, .ref h0_choices, .ref h0_onesBefore, .ref h0_zerosBefore, .int v_depth, .int v_bestCost, .int v_bestOnes, .int v_stepsMade, .int ((fX3_writes x1 v_state v_log_size v_log_words).2.1)])), (h0_log, .inr (1, [.ref h0_log_words, .int ((fX3_writes x1 v_state v_log_size v_log_words).2.2.1)])), (h0_log_words, .inl (cI, 400, .inl ((fX3_writes x1 v_state v_log_size v_log_words).2.2.2))), (h0_setting, .inr (4, [.int v_setting_ones, .int v_setting_zeros])), (h0_choices, .inl (cI, 16, .inl (upd v_choices v_depth.toNatClampNeg x1))), (h0_onesBefore, .inl (cI, 16, .inl (upd v_onesBefore v_depth.toNatClampNeg v_setting_ones))), (h0_zerosBefore, .inl (cI, 16, .inl (upd v_zerosBefore v_depth.toNatClampNeg v_setting_zeros)))] H := hP
      have hD : va_D _ [(h0, .inr (3, [.ref h0_problem, .ref h0_log, .ref h0_setting, .ref h0_choices, .ref h0_onesBefore, .ref h0_zerosBefore, .int v_depth, .int v_bestCost, .int v_bestOnes, .int v_stepsMade, .int ((fX3_writes x1 v_state v_log_size v_log_words).2.1)])), (h0_log, .inr (1, [.ref h0_log_words, .int ((fX3_writes x1 v_state v_log_size v_log_words).2.2.1)])), (h0_log_words, .inl (cI, 400, .inl ((fX3_writes x1 v_state v_log_size v_log_words).2.2.2))), (h0_setting, .inr (4, [.int v_setting_ones, .int v_setting_zeros])), (h0_choices, .inl (cI, 16, .inl (upd v_choices v_depth.toNatClampNeg x1))), (h0_onesBefore, .inl (cI, 16, .inl (upd v_onesBefore v_depth.toNatClampNeg v_setting_ones))), (h0_zerosBefore, .inl (cI, 16, .inl (upd v_zerosBefore v_depth.toNatClampNeg v_setting_zeros)))] := hD
      refine lv_aload_n hx hb dX3_choose_60 rfl (lv_at hl 0 rfl) ?_
      refine lv_dup hx hb dX3_choose_61 rfl ?_
      refine va_get (D := D) hx hb hts inX3 hown hK hP 0 rfl rfl 6 (by decide) (hts _ kw149) (fun _ h9 => h9) rfl dX3_choose_62 ?_
      refine lv_iconst (v := 1) hx hb dX3_choose_65 (by decide) ?_
      refine lv_iadd hx hb dX3_choose_66 ?_
      refine va_put (D := D) (v := .int (v_depth + 1)) (ty := .int) hx hb hts inX3 tyX3 tyX3_ok nmX3 hown hK hP hD hS 0 rfl rfl 6 (by decide) (hts _ kw149) (fun _ h9 => h9) rfl (by decide +kernel) rfl rfl (Nat.le_of_ble_eq_true rfl) dX3_choose_67 (fun H locs hP hD hS => ?_)
      have hP : va_P D vwCl [(h0, .inr (3, [.ref h0_problem, .ref h0_log, .ref h0_setting, .ref h0_choices, .ref h0_onesBefore, .ref h0_zerosBefore, .int (v_depth + 1), .int v_bestCost, .int v_bestOnes, .int v_stepsMade, .int ((fX3_writes x1 v_state v_log_size v_log_words).2.1)])), (h0_log, .inr (1, [.ref h0_log_words, .int ((fX3_writes x1 v_state v_log_size v_log_words).2.2.1)])), (h0_log_words, .inl (cI, 400, .inl ((fX3_writes x1 v_state v_log_size v_log_words).2.2.2))), (h0_setting, .inr (4, [.int v_setting_ones, .int v_setting_zeros])), (h0_choices, .inl (cI, 16, .inl (upd v_choices v_depth.toNatClampNeg x1))), (h0_onesBefore, .inl (cI, 16, .inl (upd v_onesBefore v_depth.toNatClampNeg v_setting_ones))), (h0_zerosBefore, .inl (cI, 16, .inl (upd v_zerosBefore v_depth.toNatClampNeg v_setting_zeros)))] H := hP
      have hD : va_D _ [(h0, .inr (3, [.ref h0_problem, .ref h0_log, .ref h0_setting, .ref h0_choices, .ref h0_onesBefore, .ref h0_zerosBefore, .int (v_depth + 1), .int v_bestCost, .int v_bestOnes, .int v_stepsMade, .int ((fX3_writes x1 v_state v_log_size v_log_words).2.1)])), (h0_log, .inr (1, [.ref h0_log_words, .int ((fX3_writes x1 v_state v_log_size v_log_words).2.2.1)])), (h0_log_words, .inl (cI, 400, .inl ((fX3_writes x1 v_state v_log_size v_log_words).2.2.2))), (h0_setting, .inr (4, [.int v_setting_ones, .int v_setting_zeros])), (h0_choices, .inl (cI, 16, .inl (upd v_choices v_depth.toNatClampNeg x1))), (h0_onesBefore, .inl (cI, 16, .inl (upd v_onesBefore v_depth.toNatClampNeg v_setting_ones))), (h0_zerosBefore, .inl (cI, 16, .inl (upd v_zerosBefore v_depth.toNatClampNeg v_setting_zeros)))] := hD
      refine lv_aload_n hx hb dX3_choose_70 rfl (lv_at hl 0 rfl) ?_
      refine va_get (D := D) hx hb hts inX3 hown hK hP 0 rfl rfl 2 (by decide) (hts _ kw145) (fun _ h9 => h9) rfl dX3_choose_71 ?_
      refine lv_iload_n hx hb dX3_choose_74 rfl (lv_at hl 1 rfl) ?_
      refine lv_ineg hx hb dX3_choose_75 ?_
      have hPc : va_P D vwCl [(h0_setting, .inr (4, [.int v_setting_ones, .int v_setting_zeros]))] _ := hP.sub [3] rfl
      refine wback (ws' := [(h0, .inr (3, [.ref h0_problem, .ref h0_log, .ref h0_setting, .ref h0_choices, .ref h0_onesBefore, .ref h0_zerosBefore, .int (v_depth + 1), .int v_bestCost, .int v_bestOnes, .int v_stepsMade, .int ((fX3_writes x1 v_state v_log_size v_log_words).2.1)])), (h0_log, .inr (1, [.ref h0_log_words, .int ((fX3_writes x1 v_state v_log_size v_log_words).2.2.1)])), (h0_log_words, .inl (cI, 400, .inl ((fX3_writes x1 v_state v_log_size v_log_words).2.2.2))), (h0_setting, .inr (4, [.int ((fX4_makeTrue (-x1) v_setting_ones v_setting_zeros).1), .int ((fX4_makeTrue (-x1) v_setting_ones v_setting_zeros).2)])), (h0_choices, .inl (cI, 16, .inl (upd v_choices v_depth.toNatClampNeg x1))), (h0_onesBefore, .inl (cI, 16, .inl (upd v_onesBefore v_depth.toNatClampNeg v_setting_ones))), (h0_zerosBefore, .inl (cI, 16, .inl (upd v_zerosBefore v_depth.toNatClampNeg v_setting_zeros)))]) [3] (va_runVN (As := [.int (-x1)]) (rest := []) ⟨hx, hb, hml, hown, hts⟩ (ctX4_makeTrue l D cI cZ h0_setting (-x1) v_setting_ones v_setting_zeros) ⟨(cN hts kw334 (hN _ kn27) kw56 pmX4_makeTrue ⟨Nat.le_of_ble_eq_true rfl, Nat.le_of_ble_eq_true rfl⟩), hts _ kw333, hts _ kw13⟩ ⟨wPc_blind, va_recv hK hP (ci := 4) (q0 := 3) rfl rfl, wpre hPc hK hN (hD.sub (ws' := [(h0_setting, .inr (4, [.int v_setting_ones, .int v_setting_zeros]))]) [3] (by decide) rfl)⟩ rfl rfl hl.1 rfl (lv_room (Nat.le_of_ble_eq_true rfl)) dX3_choose_76 ⟨Nat.zero_le _, Nat.zero_le _⟩) hP hD hS rfl rfl rfl rfl (fun H locs hP hD hS => ?_)
      exact wretv hx hb hr hlocks (by rw [hF]; exact hP) hS dX3_choose_79
    · have hF := hF.trans (if_pos c_2)
      exact wretv hx hb hr hlocks (by rw [hF]; exact hP) hS dX3_choose_17

theorem okL_finish {v_bestCost : Int32} {v_bestOnes : Int32} {v_state : Int32} {v_log_size : Int32} {v_log_words : Nat → Int32} (hL : okN 400 v_log_size) : okN 400 ((fX3_finish v_bestCost v_bestOnes v_state v_log_size v_log_words).2.1) := by
  rw [fX3_finish_eq]; unfold fX3_finish_d
  repeat' split
  all_goals first | exact okL_writes (okL_writes hL) | exact okL_writes hL | exact hL

theorem okL_goBack {v_depth : Int32} {v_bestCost : Int32} {v_bestOnes : Int32} {v_state : Int32} {v_log_size : Int32} {v_log_words : Nat → Int32} {v_setting_ones : Int32} {v_setting_zeros : Int32} {v_choices : Nat → Int32} {v_onesBefore : Nat → Int32} {v_zerosBefore : Nat → Int32} (hL : okN 400 v_log_size) : okN 400 ((fX3_goBack v_depth v_bestCost v_bestOnes v_state v_log_size v_log_words v_setting_ones v_setting_zeros v_choices v_onesBefore v_zerosBefore).2.2.1) := by
  rw [fX3_goBack_eq]; unfold fX3_goBack_d
  repeat' split
  all_goals first | exact okL_finish (okL_writes hL) | exact okL_writes hL | exact hL

theorem okD_goBack {v_depth : Int32} {v_bestCost : Int32} {v_bestOnes : Int32} {v_state : Int32} {v_log_size : Int32} {v_log_words : Nat → Int32} {v_setting_ones : Int32} {v_setting_zeros : Int32} {v_choices : Nat → Int32} {v_onesBefore : Nat → Int32} {v_zerosBefore : Nat → Int32} (hDp : okN 16 v_depth) : okN 16 ((fX3_goBack v_depth v_bestCost v_bestOnes v_state v_log_size v_log_words v_setting_ones v_setting_zeros v_choices v_onesBefore v_zerosBefore).1) := by
  rw [fX3_goBack_eq]; unfold fX3_goBack_d
  repeat' split
  all_goals first | exact hDp | (rename_i c; exact (okN_p hDp (by decide) c).1)

theorem okL_choose {x1 : Int32} {v_depth : Int32} {v_state : Int32} {v_log_size : Int32} {v_log_words : Nat → Int32} {v_setting_ones : Int32} {v_setting_zeros : Int32} {v_choices : Nat → Int32} {v_onesBefore : Nat → Int32} {v_zerosBefore : Nat → Int32} (hL : okN 400 v_log_size) : okN 400 ((fX3_choose x1 v_depth v_state v_log_size v_log_words v_setting_ones v_setting_zeros v_choices v_onesBefore v_zerosBefore).2.2.1) := by
  rw [fX3_choose_eq]; unfold fX3_choose_d
  repeat' split
  all_goals first | exact hL | exact okL_writes hL

theorem okD_choose {x1 : Int32} {v_depth : Int32} {v_state : Int32} {v_log_size : Int32} {v_log_words : Nat → Int32} {v_setting_ones : Int32} {v_setting_zeros : Int32} {v_choices : Nat → Int32} {v_onesBefore : Nat → Int32} {v_zerosBefore : Nat → Int32} (hDp : okN 16 v_depth) : okN 16 ((fX3_choose x1 v_depth v_state v_log_size v_log_words v_setting_ones v_setting_zeros v_choices v_onesBefore v_zerosBefore).1) := by
  rw [fX3_choose_eq]; unfold fX3_choose_d
  repeat' split
  all_goals first | exact hDp | (rename_i c d; exact okN_s hDp (by decide) (k_lt_of c))
end
section
-- LeastCost$Search.step
theorem pmX3_step : mFit yX3_step 0 := ⟨by decide +kernel, by decide +kernel, by decide +kernel⟩
noncomputable def fX3_step_d (v_depth : Int32) (v_bestCost : Int32) (v_bestOnes : Int32) (v_stepsMade : Int32) (v_state : Int32) (v_problem_constraints : Int32) (v_problem_costs : Nat → Int32) (v_problem_coefficients : Nat → Int32) (v_problem_literals : Nat → Int32) (v_problem_bits : Nat → Int32) (v_problem_firsts : Nat → Int32) (v_problem_bounds : Nat → Int32) (v_log_size : Int32) (v_log_words : Nat → Int32) (v_setting_ones : Int32) (v_setting_zeros : Int32) (v_choices : Nat → Int32) (v_onesBefore : Nat → Int32) (v_zerosBefore : Nat → Int32) : Int32 × Int32 × Int32 × Int32 × Int32 × Int32 × (Nat → Int32) × Int32 × Int32 × (Nat → Int32) × (Nat → Int32) × (Nat → Int32) :=
  (if (fX2_isBroken (fX5_limitBelow v_bestCost) v_problem_constraints v_problem_costs v_problem_coefficients v_problem_literals v_problem_bits v_problem_firsts v_problem_bounds v_setting_ones v_setting_zeros) = 0 then (if (fX2_forcedLiteral (fX5_limitBelow v_bestCost) v_problem_constraints v_problem_costs v_problem_coefficients v_problem_literals v_problem_bits v_problem_firsts v_problem_bounds v_setting_ones v_setting_zeros) = 0 then (if (fX4_leastNotSet v_setting_ones v_setting_zeros) = 0 then (v_depth, (fX3_keepBest v_bestCost v_bestOnes v_problem_costs v_setting_ones).1, (fX3_keepBest v_bestCost v_bestOnes v_problem_costs v_setting_ones).2, v_stepsMade + 1, v_state, v_log_size, v_log_words, v_setting_ones, v_setting_zeros, v_choices, v_onesBefore, v_zerosBefore) else ((fX3_choose (fX4_leastNotSet v_setting_ones v_setting_zeros) v_depth v_state v_log_size v_log_words v_setting_ones v_setting_zeros v_choices v_onesBefore v_zerosBefore).1, v_bestCost, v_bestOnes, v_stepsMade + 1, (fX3_choose (fX4_leastNotSet v_setting_ones v_setting_zeros) v_depth v_state v_log_size v_log_words v_setting_ones v_setting_zeros v_choices v_onesBefore v_zerosBefore).2.1, (fX3_choose (fX4_leastNotSet v_setting_ones v_setting_zeros) v_depth v_state v_log_size v_log_words v_setting_ones v_setting_zeros v_choices v_onesBefore v_zerosBefore).2.2.1, (fX3_choose (fX4_leastNotSet v_setting_ones v_setting_zeros) v_depth v_state v_log_size v_log_words v_setting_ones v_setting_zeros v_choices v_onesBefore v_zerosBefore).2.2.2.1, (fX3_choose (fX4_leastNotSet v_setting_ones v_setting_zeros) v_depth v_state v_log_size v_log_words v_setting_ones v_setting_zeros v_choices v_onesBefore v_zerosBefore).2.2.2.2.1, (fX3_choose (fX4_leastNotSet v_setting_ones v_setting_zeros) v_depth v_state v_log_size v_log_words v_setting_ones v_setting_zeros v_choices v_onesBefore v_zerosBefore).2.2.2.2.2.1, (fX3_choose (fX4_leastNotSet v_setting_ones v_setting_zeros) v_depth v_state v_log_size v_log_words v_setting_ones v_setting_zeros v_choices v_onesBefore v_zerosBefore).2.2.2.2.2.2.1, (fX3_choose (fX4_leastNotSet v_setting_ones v_setting_zeros) v_depth v_state v_log_size v_log_words v_setting_ones v_setting_zeros v_choices v_onesBefore v_zerosBefore).2.2.2.2.2.2.2.1, (fX3_choose (fX4_leastNotSet v_setting_ones v_setting_zeros) v_depth v_state v_log_size v_log_words v_setting_ones v_setting_zeros v_choices v_onesBefore v_zerosBefore).2.2.2.2.2.2.2.2)) else (v_depth, v_bestCost, v_bestOnes, v_stepsMade + 1, v_state, v_log_size, v_log_words, (fX4_makeTrue (fX2_forcedLiteral (fX5_limitBelow v_bestCost) v_problem_constraints v_problem_costs v_problem_coefficients v_problem_literals v_problem_bits v_problem_firsts v_problem_bounds v_setting_ones v_setting_zeros) v_setting_ones v_setting_zeros).1, (fX4_makeTrue (fX2_forcedLiteral (fX5_limitBelow v_bestCost) v_problem_constraints v_problem_costs v_problem_coefficients v_problem_literals v_problem_bits v_problem_firsts v_problem_bounds v_setting_ones v_setting_zeros) v_setting_ones v_setting_zeros).2, v_choices, v_onesBefore, v_zerosBefore)) else ((fX3_goBack v_depth v_bestCost v_bestOnes v_state v_log_size v_log_words v_setting_ones v_setting_zeros v_choices v_onesBefore v_zerosBefore).1, v_bestCost, v_bestOnes, v_stepsMade + 1, (fX3_goBack v_depth v_bestCost v_bestOnes v_state v_log_size v_log_words v_setting_ones v_setting_zeros v_choices v_onesBefore v_zerosBefore).2.1, (fX3_goBack v_depth v_bestCost v_bestOnes v_state v_log_size v_log_words v_setting_ones v_setting_zeros v_choices v_onesBefore v_zerosBefore).2.2.1, (fX3_goBack v_depth v_bestCost v_bestOnes v_state v_log_size v_log_words v_setting_ones v_setting_zeros v_choices v_onesBefore v_zerosBefore).2.2.2.1, (fX3_goBack v_depth v_bestCost v_bestOnes v_state v_log_size v_log_words v_setting_ones v_setting_zeros v_choices v_onesBefore v_zerosBefore).2.2.2.2.1, (fX3_goBack v_depth v_bestCost v_bestOnes v_state v_log_size v_log_words v_setting_ones v_setting_zeros v_choices v_onesBefore v_zerosBefore).2.2.2.2.2, v_choices, v_onesBefore, v_zerosBefore))
theorem fX3_step_ex : ∃ f : Int32 → Int32 → Int32 → Int32 → Int32 → Int32 → (Nat → Int32) → (Nat → Int32) → (Nat → Int32) → (Nat → Int32) → (Nat → Int32) → (Nat → Int32) → Int32 → (Nat → Int32) → Int32 → Int32 → (Nat → Int32) → (Nat → Int32) → (Nat → Int32) → (Int32 × Int32 × Int32 × Int32 × Int32 × Int32 × (Nat → Int32) × Int32 × Int32 × (Nat → Int32) × (Nat → Int32) × (Nat → Int32)), ∀ (v_depth : Int32) (v_bestCost : Int32) (v_bestOnes : Int32) (v_stepsMade : Int32) (v_state : Int32) (v_problem_constraints : Int32) (v_problem_costs : Nat → Int32) (v_problem_coefficients : Nat → Int32) (v_problem_literals : Nat → Int32) (v_problem_bits : Nat → Int32) (v_problem_firsts : Nat → Int32) (v_problem_bounds : Nat → Int32) (v_log_size : Int32) (v_log_words : Nat → Int32) (v_setting_ones : Int32) (v_setting_zeros : Int32) (v_choices : Nat → Int32) (v_onesBefore : Nat → Int32) (v_zerosBefore : Nat → Int32), f v_depth v_bestCost v_bestOnes v_stepsMade v_state v_problem_constraints v_problem_costs v_problem_coefficients v_problem_literals v_problem_bits v_problem_firsts v_problem_bounds v_log_size v_log_words v_setting_ones v_setting_zeros v_choices v_onesBefore v_zerosBefore = fX3_step_d v_depth v_bestCost v_bestOnes v_stepsMade v_state v_problem_constraints v_problem_costs v_problem_coefficients v_problem_literals v_problem_bits v_problem_firsts v_problem_bounds v_log_size v_log_words v_setting_ones v_setting_zeros v_choices v_onesBefore v_zerosBefore := ⟨fX3_step_d, fun _ _ _ _ _ _ _ _ _ _ _ _ _ _ _ _ _ _ _ => rfl⟩
noncomputable def fX3_step : Int32 → Int32 → Int32 → Int32 → Int32 → Int32 → (Nat → Int32) → (Nat → Int32) → (Nat → Int32) → (Nat → Int32) → (Nat → Int32) → (Nat → Int32) → Int32 → (Nat → Int32) → Int32 → Int32 → (Nat → Int32) → (Nat → Int32) → (Nat → Int32) → (Int32 × Int32 × Int32 × Int32 × Int32 × Int32 × (Nat → Int32) × Int32 × Int32 × (Nat → Int32) × (Nat → Int32) × (Nat → Int32)) := Classical.choose fX3_step_ex
theorem fX3_step_eq (v_depth : Int32) (v_bestCost : Int32) (v_bestOnes : Int32) (v_stepsMade : Int32) (v_state : Int32) (v_problem_constraints : Int32) (v_problem_costs : Nat → Int32) (v_problem_coefficients : Nat → Int32) (v_problem_literals : Nat → Int32) (v_problem_bits : Nat → Int32) (v_problem_firsts : Nat → Int32) (v_problem_bounds : Nat → Int32) (v_log_size : Int32) (v_log_words : Nat → Int32) (v_setting_ones : Int32) (v_setting_zeros : Int32) (v_choices : Nat → Int32) (v_onesBefore : Nat → Int32) (v_zerosBefore : Nat → Int32) : fX3_step v_depth v_bestCost v_bestOnes v_stepsMade v_state v_problem_constraints v_problem_costs v_problem_coefficients v_problem_literals v_problem_bits v_problem_firsts v_problem_bounds v_log_size v_log_words v_setting_ones v_setting_zeros v_choices v_onesBefore v_zerosBefore = fX3_step_d v_depth v_bestCost v_bestOnes v_stepsMade v_state v_problem_constraints v_problem_costs v_problem_coefficients v_problem_literals v_problem_bits v_problem_firsts v_problem_bounds v_log_size v_log_words v_setting_ones v_setting_zeros v_choices v_onesBefore v_zerosBefore := Classical.choose_spec fX3_step_ex v_depth v_bestCost v_bestOnes v_stepsMade v_state v_problem_constraints v_problem_costs v_problem_coefficients v_problem_literals v_problem_bits v_problem_firsts v_problem_bounds v_log_size v_log_words v_setting_ones v_setting_zeros v_choices v_onesBefore v_zerosBefore
set_option maxHeartbeats 1000000 in
set_option maxRecDepth 100000 in
theorem ctX3_step (l : Launch) (D : va_G) (cI cZ : ClassId) (h0 h0_problem h0_log h0_setting h0_choices h0_onesBefore h0_zerosBefore h0_problem_costs h0_problem_coefficients h0_problem_literals h0_problem_bits h0_problem_firsts h0_problem_bounds h0_log_words : Nat) (v_depth v_bestCost v_bestOnes v_stepsMade v_state v_problem_terms v_problem_constraints v_problem_taken v_log_size v_setting_ones v_setting_zeros : Int32) (v_problem_costs v_problem_coefficients v_problem_literals v_problem_bits v_problem_firsts v_problem_bounds v_log_words v_choices v_onesBefore v_zerosBefore : Nat → Int32) (hO : okP v_problem_firsts v_problem_constraints) (hL : okN 400 v_log_size) (hDp : okN 16 v_depth) : Met l yX3_step (gw yX3_step cX3_step 4 none) { frames := 4, cells := 0, slots := 0, locals := 94 } (wPc D cI cZ [.ref h0] [(h0, .inr (3, [.ref h0_problem, .ref h0_log, .ref h0_setting, .ref h0_choices, .ref h0_onesBefore, .ref h0_zerosBefore, .int v_depth, .int v_bestCost, .int v_bestOnes, .int v_stepsMade, .int v_state])), (h0_problem, .inr (2, [.ref h0_problem_costs, .ref h0_problem_coefficients, .ref h0_problem_literals, .ref h0_problem_bits, .ref h0_problem_firsts, .ref h0_problem_bounds, .int v_problem_terms, .int v_problem_constraints, .int v_problem_taken])), (h0_problem_costs, .inl (cI, 17, .inl v_problem_costs)), (h0_problem_coefficients, .inl (cI, 120, .inl v_problem_coefficients)), (h0_problem_literals, .inl (cI, 120, .inl v_problem_literals)), (h0_problem_bits, .inl (cI, 120, .inl v_problem_bits)), (h0_problem_firsts, .inl (cI, 21, .inl v_problem_firsts)), (h0_problem_bounds, .inl (cI, 20, .inl v_problem_bounds)), (h0_log, .inr (1, [.ref h0_log_words, .int v_log_size])), (h0_log_words, .inl (cI, 400, .inl v_log_words)), (h0_setting, .inr (4, [.int v_setting_ones, .int v_setting_zeros])), (h0_choices, .inl (cI, 16, .inl v_choices)), (h0_onesBefore, .inl (cI, 16, .inl v_onesBefore)), (h0_zerosBefore, .inl (cI, 16, .inl v_zerosBefore))]) (wQ D none [(h0, .inr (3, [.ref h0_problem, .ref h0_log, .ref h0_setting, .ref h0_choices, .ref h0_onesBefore, .ref h0_zerosBefore, .int v_depth, .int v_bestCost, .int v_bestOnes, .int v_stepsMade, .int v_state])), (h0_problem, .inr (2, [.ref h0_problem_costs, .ref h0_problem_coefficients, .ref h0_problem_literals, .ref h0_problem_bits, .ref h0_problem_firsts, .ref h0_problem_bounds, .int v_problem_terms, .int v_problem_constraints, .int v_problem_taken])), (h0_problem_costs, .inl (cI, 17, .inl v_problem_costs)), (h0_problem_coefficients, .inl (cI, 120, .inl v_problem_coefficients)), (h0_problem_literals, .inl (cI, 120, .inl v_problem_literals)), (h0_problem_bits, .inl (cI, 120, .inl v_problem_bits)), (h0_problem_firsts, .inl (cI, 21, .inl v_problem_firsts)), (h0_problem_bounds, .inl (cI, 20, .inl v_problem_bounds)), (h0_log, .inr (1, [.ref h0_log_words, .int v_log_size])), (h0_log_words, .inl (cI, 400, .inl v_log_words)), (h0_setting, .inr (4, [.int v_setting_ones, .int v_setting_zeros])), (h0_choices, .inl (cI, 16, .inl v_choices)), (h0_onesBefore, .inl (cI, 16, .inl v_onesBefore)), (h0_zerosBefore, .inl (cI, 16, .inl v_zerosBefore))] [(h0, .inr (3, [.ref h0_problem, .ref h0_log, .ref h0_setting, .ref h0_choices, .ref h0_onesBefore, .ref h0_zerosBefore, .int ((fX3_step v_depth v_bestCost v_bestOnes v_stepsMade v_state v_problem_constraints v_problem_costs v_problem_coefficients v_problem_literals v_problem_bits v_problem_firsts v_problem_bounds v_log_size v_log_words v_setting_ones v_setting_zeros v_choices v_onesBefore v_zerosBefore).1), .int ((fX3_step v_depth v_bestCost v_bestOnes v_stepsMade v_state v_problem_constraints v_problem_costs v_problem_coefficients v_problem_literals v_problem_bits v_problem_firsts v_problem_bounds v_log_size v_log_words v_setting_ones v_setting_zeros v_choices v_onesBefore v_zerosBefore).2.1), .int ((fX3_step v_depth v_bestCost v_bestOnes v_stepsMade v_state v_problem_constraints v_problem_costs v_problem_coefficients v_problem_literals v_problem_bits v_problem_firsts v_problem_bounds v_log_size v_log_words v_setting_ones v_setting_zeros v_choices v_onesBefore v_zerosBefore).2.2.1), .int ((fX3_step v_depth v_bestCost v_bestOnes v_stepsMade v_state v_problem_constraints v_problem_costs v_problem_coefficients v_problem_literals v_problem_bits v_problem_firsts v_problem_bounds v_log_size v_log_words v_setting_ones v_setting_zeros v_choices v_onesBefore v_zerosBefore).2.2.2.1), .int ((fX3_step v_depth v_bestCost v_bestOnes v_stepsMade v_state v_problem_constraints v_problem_costs v_problem_coefficients v_problem_literals v_problem_bits v_problem_firsts v_problem_bounds v_log_size v_log_words v_setting_ones v_setting_zeros v_choices v_onesBefore v_zerosBefore).2.2.2.2.1)])), (h0_problem, .inr (2, [.ref h0_problem_costs, .ref h0_problem_coefficients, .ref h0_problem_literals, .ref h0_problem_bits, .ref h0_problem_firsts, .ref h0_problem_bounds, .int v_problem_terms, .int v_problem_constraints, .int v_problem_taken])), (h0_problem_costs, .inl (cI, 17, .inl v_problem_costs)), (h0_problem_coefficients, .inl (cI, 120, .inl v_problem_coefficients)), (h0_problem_literals, .inl (cI, 120, .inl v_problem_literals)), (h0_problem_bits, .inl (cI, 120, .inl v_problem_bits)), (h0_problem_firsts, .inl (cI, 21, .inl v_problem_firsts)), (h0_problem_bounds, .inl (cI, 20, .inl v_problem_bounds)), (h0_log, .inr (1, [.ref h0_log_words, .int ((fX3_step v_depth v_bestCost v_bestOnes v_stepsMade v_state v_problem_constraints v_problem_costs v_problem_coefficients v_problem_literals v_problem_bits v_problem_firsts v_problem_bounds v_log_size v_log_words v_setting_ones v_setting_zeros v_choices v_onesBefore v_zerosBefore).2.2.2.2.2.1)])), (h0_log_words, .inl (cI, 400, .inl ((fX3_step v_depth v_bestCost v_bestOnes v_stepsMade v_state v_problem_constraints v_problem_costs v_problem_coefficients v_problem_literals v_problem_bits v_problem_firsts v_problem_bounds v_log_size v_log_words v_setting_ones v_setting_zeros v_choices v_onesBefore v_zerosBefore).2.2.2.2.2.2.1))), (h0_setting, .inr (4, [.int ((fX3_step v_depth v_bestCost v_bestOnes v_stepsMade v_state v_problem_constraints v_problem_costs v_problem_coefficients v_problem_literals v_problem_bits v_problem_firsts v_problem_bounds v_log_size v_log_words v_setting_ones v_setting_zeros v_choices v_onesBefore v_zerosBefore).2.2.2.2.2.2.2.1), .int ((fX3_step v_depth v_bestCost v_bestOnes v_stepsMade v_state v_problem_constraints v_problem_costs v_problem_coefficients v_problem_literals v_problem_bits v_problem_firsts v_problem_bounds v_log_size v_log_words v_setting_ones v_setting_zeros v_choices v_onesBefore v_zerosBefore).2.2.2.2.2.2.2.2.1)])), (h0_choices, .inl (cI, 16, .inl ((fX3_step v_depth v_bestCost v_bestOnes v_stepsMade v_state v_problem_constraints v_problem_costs v_problem_coefficients v_problem_literals v_problem_bits v_problem_firsts v_problem_bounds v_log_size v_log_words v_setting_ones v_setting_zeros v_choices v_onesBefore v_zerosBefore).2.2.2.2.2.2.2.2.2.1))), (h0_onesBefore, .inl (cI, 16, .inl ((fX3_step v_depth v_bestCost v_bestOnes v_stepsMade v_state v_problem_constraints v_problem_costs v_problem_coefficients v_problem_literals v_problem_bits v_problem_firsts v_problem_bounds v_log_size v_log_words v_setting_ones v_setting_zeros v_choices v_onesBefore v_zerosBefore).2.2.2.2.2.2.2.2.2.2.1))), (h0_zerosBefore, .inl (cI, 16, .inl ((fX3_step v_depth v_bestCost v_bestOnes v_stepsMade v_state v_problem_constraints v_problem_costs v_problem_coefficients v_problem_literals v_problem_bits v_problem_firsts v_problem_bounds v_log_size v_log_words v_setting_ones v_setting_zeros v_choices v_onesBefore v_zerosBefore).2.2.2.2.2.2.2.2.2.2.2)))]) 0 0 (aw [(h0, .inr (3, [.ref h0_problem, .ref h0_log, .ref h0_setting, .ref h0_choices, .ref h0_onesBefore, .ref h0_zerosBefore, .int v_depth, .int v_bestCost, .int v_bestOnes, .int v_stepsMade, .int v_state])), (h0_problem, .inr (2, [.ref h0_problem_costs, .ref h0_problem_coefficients, .ref h0_problem_literals, .ref h0_problem_bits, .ref h0_problem_firsts, .ref h0_problem_bounds, .int v_problem_terms, .int v_problem_constraints, .int v_problem_taken])), (h0_problem_costs, .inl (cI, 17, .inl v_problem_costs)), (h0_problem_coefficients, .inl (cI, 120, .inl v_problem_coefficients)), (h0_problem_literals, .inl (cI, 120, .inl v_problem_literals)), (h0_problem_bits, .inl (cI, 120, .inl v_problem_bits)), (h0_problem_firsts, .inl (cI, 21, .inl v_problem_firsts)), (h0_problem_bounds, .inl (cI, 20, .inl v_problem_bounds)), (h0_log, .inr (1, [.ref h0_log_words, .int v_log_size])), (h0_log_words, .inl (cI, 400, .inl v_log_words)), (h0_setting, .inr (4, [.int v_setting_ones, .int v_setting_zeros])), (h0_choices, .inl (cI, 16, .inl v_choices)), (h0_onesBefore, .inl (cI, 16, .inl v_onesBefore)), (h0_zerosBefore, .inl (cI, 16, .inl v_zerosBefore))]) := by
  refine wMet (by decide) (Nat.le_of_ble_eq_true rfl) ?_
  intro p e s m below meth c hx hb hr hlocks hml hown hts hP hK hN hD hS ls hl
  have hl : lv_has ls 4 [(0, .ref h0)] := hl
  have hF := (fX3_step_eq v_depth v_bestCost v_bestOnes v_stepsMade v_state v_problem_constraints v_problem_costs v_problem_coefficients v_problem_literals v_problem_bits v_problem_firsts v_problem_bounds v_log_size v_log_words v_setting_ones v_setting_zeros v_choices v_onesBefore v_zerosBefore).trans (fX3_step_d.eq_1 v_depth v_bestCost v_bestOnes v_stepsMade v_state v_problem_constraints v_problem_costs v_problem_coefficients v_problem_literals v_problem_bits v_problem_firsts v_problem_bounds v_log_size v_log_words v_setting_ones v_setting_zeros v_choices v_onesBefore v_zerosBefore)
  refine lv_aload_n hx hb dX3_step_0 rfl (lv_at hl 0 rfl) ?_
  refine lv_dup hx hb dX3_step_1 rfl ?_
  refine va_get (D := D) hx hb hts inX3 hown hK hP 0 rfl rfl 9 (by decide) (hts _ kw154) (fun _ h9 => h9) rfl dX3_step_2 ?_
  refine lv_iconst (v := 1) hx hb dX3_step_5 (by decide) ?_
  refine lv_iadd hx hb dX3_step_6 ?_
  refine va_put (D := D) (v := .int (v_stepsMade + 1)) (ty := .int) hx hb hts inX3 tyX3 tyX3_ok nmX3 hown hK hP hD hS 0 rfl rfl 9 (by decide) (hts _ kw154) (fun _ h9 => h9) rfl (by decide +kernel) rfl rfl (Nat.le_of_ble_eq_true rfl) dX3_step_7 (fun H locs hP hD hS => ?_)
  have hP : va_P D vwCl [(h0, .inr (3, [.ref h0_problem, .ref h0_log, .ref h0_setting, .ref h0_choices, .ref h0_onesBefore, .ref h0_zerosBefore, .int v_depth, .int v_bestCost, .int v_bestOnes, .int (v_stepsMade + 1), .int v_state])), (h0_problem, .inr (2, [.ref h0_problem_costs, .ref h0_problem_coefficients, .ref h0_problem_literals, .ref h0_problem_bits, .ref h0_problem_firsts, .ref h0_problem_bounds, .int v_problem_terms, .int v_problem_constraints, .int v_problem_taken])), (h0_problem_costs, .inl (cI, 17, .inl v_problem_costs)), (h0_problem_coefficients, .inl (cI, 120, .inl v_problem_coefficients)), (h0_problem_literals, .inl (cI, 120, .inl v_problem_literals)), (h0_problem_bits, .inl (cI, 120, .inl v_problem_bits)), (h0_problem_firsts, .inl (cI, 21, .inl v_problem_firsts)), (h0_problem_bounds, .inl (cI, 20, .inl v_problem_bounds)), (h0_log, .inr (1, [.ref h0_log_words, .int v_log_size])), (h0_log_words, .inl (cI, 400, .inl v_log_words)), (h0_setting, .inr (4, [.int v_setting_ones, .int v_setting_zeros])), (h0_choices, .inl (cI, 16, .inl v_choices)), (h0_onesBefore, .inl (cI, 16, .inl v_onesBefore)), (h0_zerosBefore, .inl (cI, 16, .inl v_zerosBefore))] H := hP
  have hD : va_D _ [(h0, .inr (3, [.ref h0_problem, .ref h0_log, .ref h0_setting, .ref h0_choices, .ref h0_onesBefore, .ref h0_zerosBefore, .int v_depth, .int v_bestCost, .int v_bestOnes, .int (v_stepsMade + 1), .int v_state])), (h0_problem, .inr (2, [.ref h0_problem_costs, .ref h0_problem_coefficients, .ref h0_problem_literals, .ref h0_problem_bits, .ref h0_problem_firsts, .ref h0_problem_bounds, .int v_problem_terms, .int v_problem_constraints, .int v_problem_taken])), (h0_problem_costs, .inl (cI, 17, .inl v_problem_costs)), (h0_problem_coefficients, .inl (cI, 120, .inl v_problem_coefficients)), (h0_problem_literals, .inl (cI, 120, .inl v_problem_literals)), (h0_problem_bits, .inl (cI, 120, .inl v_problem_bits)), (h0_problem_firsts, .inl (cI, 21, .inl v_problem_firsts)), (h0_problem_bounds, .inl (cI, 20, .inl v_problem_bounds)), (h0_log, .inr (1, [.ref h0_log_words, .int v_log_size])), (h0_log_words, .inl (cI, 400, .inl v_log_words)), (h0_setting, .inr (4, [.int v_setting_ones, .int v_setting_zeros])), (h0_choices, .inl (cI, 16, .inl v_choices)), (h0_onesBefore, .inl (cI, 16, .inl v_onesBefore)), (h0_zerosBefore, .inl (cI, 16, .inl v_zerosBefore))] := hD
  refine lv_aload_n hx hb dX3_step_10 rfl (lv_at hl 0 rfl) ?_
  refine va_get (D := D) hx hb hts inX3 hown hK hP 0 rfl rfl 7 (by decide) (hts _ kw150) (fun _ h9 => h9) rfl dX3_step_11 ?_
  have hPc : va_P D vwCl [] _ := hP.sub [] rfl
  refine rback (va_runSN (As := [.int v_bestCost]) (rest := []) ⟨hx, hb, hml, hown, hts⟩ (ctX5_limitBelow l D cI cZ v_bestCost) ⟨(cN hts kw293 (hN _ kn23) kw52 pmX5_limitBelow ⟨Nat.le_of_ble_eq_true rfl, Nat.le_of_ble_eq_true rfl⟩), hts _ kw292, trivial⟩ ⟨rPc_blind, rpre hPc hK hN⟩ rfl rfl hl.1 rfl (lv_room (Nat.le_of_ble_eq_true rfl)) dX3_step_14 ⟨Nat.zero_le _, Nat.zero_le _⟩) ?_
  refine lv_istore_n (lv' := [(1, .int (fX5_limitBelow v_bestCost)), (0, .ref h0)]) hx hb dX3_step_17 rfl hl (by decide) rfl (fun ls hl => ?_)
  refine lv_aload_n hx hb dX3_step_18 rfl (lv_at hl 1 rfl) ?_
  refine va_get (D := D) hx hb hts inX3 hown hK hP 0 rfl rfl 0 (by decide) (hts _ kw143) (fun _ h9 => h9) rfl dX3_step_19 ?_
  refine lv_aload_n hx hb dX3_step_22 rfl (lv_at hl 1 rfl) ?_
  refine va_get (D := D) hx hb hts inX3 hown hK hP 0 rfl rfl 2 (by decide) (hts _ kw145) (fun _ h9 => h9) rfl dX3_step_23 ?_
  refine lv_iload_n hx hb dX3_step_26 rfl (lv_at hl 0 rfl) ?_
  have hPc : va_P D vwCl [(h0_problem, .inr (2, [.ref h0_problem_costs, .ref h0_problem_coefficients, .ref h0_problem_literals, .ref h0_problem_bits, .ref h0_problem_firsts, .ref h0_problem_bounds, .int v_problem_terms, .int v_problem_constraints, .int v_problem_taken])), (h0_problem_costs, .inl (cI, 17, .inl v_problem_costs)), (h0_problem_coefficients, .inl (cI, 120, .inl v_problem_coefficients)), (h0_problem_literals, .inl (cI, 120, .inl v_problem_literals)), (h0_problem_bits, .inl (cI, 120, .inl v_problem_bits)), (h0_problem_firsts, .inl (cI, 21, .inl v_problem_firsts)), (h0_problem_bounds, .inl (cI, 20, .inl v_problem_bounds)), (h0_setting, .inr (4, [.int v_setting_ones, .int v_setting_zeros]))] _ := hP.sub [1, 2, 3, 4, 5, 6, 7, 10] rfl
  refine rback (va_runVN (As := [.ref h0_setting, .int (fX5_limitBelow v_bestCost)]) (rest := []) ⟨hx, hb, hml, hown, hts⟩ (ctX2_isBroken l D cI cZ h0_problem h0_problem_costs h0_problem_coefficients h0_problem_literals h0_problem_bits h0_problem_firsts h0_problem_bounds h0_setting (fX5_limitBelow v_bestCost) v_problem_terms v_problem_constraints v_problem_taken v_setting_ones v_setting_zeros v_problem_costs v_problem_coefficients v_problem_literals v_problem_bits v_problem_firsts v_problem_bounds hO) ⟨(cN hts kw298 (hN _ kn24) kw53 pmX2_isBroken ⟨Nat.le_of_ble_eq_true rfl, Nat.le_of_ble_eq_true rfl⟩), hts _ kw297, hts _ kw4⟩ ⟨rPc_blind, va_recv hK hP (ci := 2) (q0 := 1) rfl rfl, rpre hPc hK hN⟩ rfl rfl hl.1 rfl (lv_room (Nat.le_of_ble_eq_true rfl)) dX3_step_27 ⟨Nat.zero_le _, Nat.zero_le _⟩) ?_
  refine lv_if_eq (tgt := 38) hx hb dX3_step_30 (by decide) (fun c_1 => ?_) (fun c_1 => ?_)
  · have hF := hF.trans (if_pos c_1)
    refine lv_aload_n hx hb dX3_step_38 rfl (lv_at hl 1 rfl) ?_
    refine va_get (D := D) hx hb hts inX3 hown hK hP 0 rfl rfl 0 (by decide) (hts _ kw143) (fun _ h9 => h9) rfl dX3_step_39 ?_
    refine lv_aload_n hx hb dX3_step_42 rfl (lv_at hl 1 rfl) ?_
    refine va_get (D := D) hx hb hts inX3 hown hK hP 0 rfl rfl 2 (by decide) (hts _ kw145) (fun _ h9 => h9) rfl dX3_step_43 ?_
    refine lv_iload_n hx hb dX3_step_46 rfl (lv_at hl 0 rfl) ?_
    have hPc : va_P D vwCl [(h0_problem, .inr (2, [.ref h0_problem_costs, .ref h0_problem_coefficients, .ref h0_problem_literals, .ref h0_problem_bits, .ref h0_problem_firsts, .ref h0_problem_bounds, .int v_problem_terms, .int v_problem_constraints, .int v_problem_taken])), (h0_problem_costs, .inl (cI, 17, .inl v_problem_costs)), (h0_problem_coefficients, .inl (cI, 120, .inl v_problem_coefficients)), (h0_problem_literals, .inl (cI, 120, .inl v_problem_literals)), (h0_problem_bits, .inl (cI, 120, .inl v_problem_bits)), (h0_problem_firsts, .inl (cI, 21, .inl v_problem_firsts)), (h0_problem_bounds, .inl (cI, 20, .inl v_problem_bounds)), (h0_setting, .inr (4, [.int v_setting_ones, .int v_setting_zeros]))] _ := hP.sub [1, 2, 3, 4, 5, 6, 7, 10] rfl
    refine rback (va_runVN (As := [.ref h0_setting, .int (fX5_limitBelow v_bestCost)]) (rest := []) ⟨hx, hb, hml, hown, hts⟩ (ctX2_forcedLiteral l D cI cZ h0_problem h0_problem_costs h0_problem_coefficients h0_problem_literals h0_problem_bits h0_problem_firsts h0_problem_bounds h0_setting (fX5_limitBelow v_bestCost) v_problem_terms v_problem_constraints v_problem_taken v_setting_ones v_setting_zeros v_problem_costs v_problem_coefficients v_problem_literals v_problem_bits v_problem_firsts v_problem_bounds hO) ⟨(cN hts kw340 (hN _ kn30) kw53 pmX2_forcedLiteral ⟨Nat.le_of_ble_eq_true rfl, Nat.le_of_ble_eq_true rfl⟩), hts _ kw339, hts _ kw14⟩ ⟨rPc_blind, va_recv hK hP (ci := 2) (q0 := 1) rfl rfl, rpre hPc hK hN⟩ rfl rfl hl.1 rfl (lv_room (Nat.le_of_ble_eq_true rfl)) dX3_step_47 ⟨Nat.zero_le _, Nat.zero_le _⟩) ?_
    refine lv_istore_n (lv' := [(2, .int (fX2_forcedLiteral (fX5_limitBelow v_bestCost) v_problem_constraints v_problem_costs v_problem_coefficients v_problem_literals v_problem_bits v_problem_firsts v_problem_bounds v_setting_ones v_setting_zeros)), (1, .int (fX5_limitBelow v_bestCost)), (0, .ref h0)]) hx hb dX3_step_50 rfl hl (by decide) rfl (fun ls hl => ?_)
    refine lv_iload_n hx hb dX3_step_51 rfl (lv_at hl 0 rfl) ?_
    refine lv_if_eq (tgt := 64) hx hb dX3_step_52 (by decide) (fun c_2 => ?_) (fun c_2 => ?_)
    · have hF := hF.trans (if_pos c_2)
      refine lv_aload_n hx hb dX3_step_64 rfl (lv_at hl 2 rfl) ?_
      refine va_get (D := D) hx hb hts inX3 hown hK hP 0 rfl rfl 2 (by decide) (hts _ kw145) (fun _ h9 => h9) rfl dX3_step_65 ?_
      have hPc : va_P D vwCl [(h0_setting, .inr (4, [.int v_setting_ones, .int v_setting_zeros]))] _ := hP.sub [10] rfl
      refine rback (va_runVN (As := []) (rest := []) ⟨hx, hb, hml, hown, hts⟩ (ctX4_leastNotSet l D cI cZ h0_setting v_setting_ones v_setting_zeros) ⟨(cN hts kw352 (hN _ kn31) kw56 pmX4_leastNotSet ⟨Nat.le_of_ble_eq_true rfl, Nat.le_of_ble_eq_true rfl⟩), hts _ kw351, hts _ kw17⟩ ⟨rPc_blind, va_recv hK hP (ci := 4) (q0 := 10) rfl rfl, rpre hPc hK hN⟩ rfl rfl hl.1 rfl (lv_room (Nat.le_of_ble_eq_true rfl)) dX3_step_68 ⟨Nat.zero_le _, Nat.zero_le _⟩) ?_
      refine lv_istore_n (lv' := [(3, .int (fX4_leastNotSet v_setting_ones v_setting_zeros)), (2, .int (fX2_forcedLiteral (fX5_limitBelow v_bestCost) v_problem_constraints v_problem_costs v_problem_coefficients v_problem_literals v_problem_bits v_problem_firsts v_problem_bounds v_setting_ones v_setting_zeros)), (1, .int (fX5_limitBelow v_bestCost)), (0, .ref h0)]) hx hb dX3_step_71 rfl hl (by decide) rfl (fun ls hl => ?_)
      refine lv_iload_n hx hb dX3_step_72 rfl (lv_at hl 0 rfl) ?_
      refine lv_if_eq (tgt := 84) hx hb dX3_step_73 (by decide) (fun c_3 => ?_) (fun c_3 => ?_)
      · have hF := hF.trans (if_pos c_3)
        refine lv_aload_n hx hb dX3_step_84 rfl (lv_at hl 3 rfl) ?_
        have hPc : va_P D vwCl [(h0, .inr (3, [.ref h0_problem, .ref h0_log, .ref h0_setting, .ref h0_choices, .ref h0_onesBefore, .ref h0_zerosBefore, .int v_depth, .int v_bestCost, .int v_bestOnes, .int (v_stepsMade + 1), .int v_state])), (h0_problem, .inr (2, [.ref h0_problem_costs, .ref h0_problem_coefficients, .ref h0_problem_literals, .ref h0_problem_bits, .ref h0_problem_firsts, .ref h0_problem_bounds, .int v_problem_terms, .int v_problem_constraints, .int v_problem_taken])), (h0_problem_costs, .inl (cI, 17, .inl v_problem_costs)), (h0_setting, .inr (4, [.int v_setting_ones, .int v_setting_zeros]))] _ := hP.sub [0, 1, 2, 10] rfl
        refine wback (ws' := [(h0, .inr (3, [.ref h0_problem, .ref h0_log, .ref h0_setting, .ref h0_choices, .ref h0_onesBefore, .ref h0_zerosBefore, .int v_depth, .int ((fX3_keepBest v_bestCost v_bestOnes v_problem_costs v_setting_ones).1), .int ((fX3_keepBest v_bestCost v_bestOnes v_problem_costs v_setting_ones).2), .int (v_stepsMade + 1), .int v_state])), (h0_problem, .inr (2, [.ref h0_problem_costs, .ref h0_problem_coefficients, .ref h0_problem_literals, .ref h0_problem_bits, .ref h0_problem_firsts, .ref h0_problem_bounds, .int v_problem_terms, .int v_problem_constraints, .int v_problem_taken])), (h0_problem_costs, .inl (cI, 17, .inl v_problem_costs)), (h0_problem_coefficients, .inl (cI, 120, .inl v_problem_coefficients)), (h0_problem_literals, .inl (cI, 120, .inl v_problem_literals)), (h0_problem_bits, .inl (cI, 120, .inl v_problem_bits)), (h0_problem_firsts, .inl (cI, 21, .inl v_problem_firsts)), (h0_problem_bounds, .inl (cI, 20, .inl v_problem_bounds)), (h0_log, .inr (1, [.ref h0_log_words, .int v_log_size])), (h0_log_words, .inl (cI, 400, .inl v_log_words)), (h0_setting, .inr (4, [.int v_setting_ones, .int v_setting_zeros])), (h0_choices, .inl (cI, 16, .inl v_choices)), (h0_onesBefore, .inl (cI, 16, .inl v_onesBefore)), (h0_zerosBefore, .inl (cI, 16, .inl v_zerosBefore))]) [0, 1, 2, 10] (va_runV (As := []) (rest := []) ⟨hx, hb, hml, hown, hts⟩ (ctX3_keepBest l D cI cZ h0 h0_problem h0_log h0_setting h0_choices h0_onesBefore h0_zerosBefore h0_problem_costs h0_problem_coefficients h0_problem_literals h0_problem_bits h0_problem_firsts h0_problem_bounds v_depth v_bestCost v_bestOnes (v_stepsMade + 1) v_state v_problem_terms v_problem_constraints v_problem_taken v_setting_ones v_setting_zeros v_problem_costs) ⟨(cB hts kw360 kw357 kw55 pmX3_keepBest ⟨Nat.le_of_ble_eq_true rfl, Nat.le_of_ble_eq_true rfl⟩), hts _ kw359, hts _ kw19⟩ ⟨wPc_blind, va_recv hK hP (ci := 3) (q0 := 0) rfl rfl, wpre hPc hK hN (hD.sub (ws' := [(h0, .inr (3, [.ref h0_problem, .ref h0_log, .ref h0_setting, .ref h0_choices, .ref h0_onesBefore, .ref h0_zerosBefore, .int v_depth, .int v_bestCost, .int v_bestOnes, .int (v_stepsMade + 1), .int v_state])), (h0_problem, .inr (2, [.ref h0_problem_costs, .ref h0_problem_coefficients, .ref h0_problem_literals, .ref h0_problem_bits, .ref h0_problem_firsts, .ref h0_problem_bounds, .int v_problem_terms, .int v_problem_constraints, .int v_problem_taken])), (h0_problem_costs, .inl (cI, 17, .inl v_problem_costs)), (h0_setting, .inr (4, [.int v_setting_ones, .int v_setting_zeros]))]) [0, 1, 2, 10] (by decide) rfl)⟩ rfl rfl hl.1 rfl (lv_room (Nat.le_of_ble_eq_true rfl)) dX3_step_85 ⟨Nat.zero_le _, Nat.zero_le _⟩) hP hD hS rfl rfl rfl rfl (fun H locs hP hD hS => ?_)
        exact wretv hx hb hr hlocks (by rw [hF]; exact hP) hS dX3_step_88
      · have hF := hF.trans (if_neg c_3)
        refine lv_aload_n hx hb dX3_step_76 rfl (lv_at hl 3 rfl) ?_
        refine lv_iload_n hx hb dX3_step_77 rfl (lv_at hl 0 rfl) ?_
        have hPc : va_P D vwCl [(h0, .inr (3, [.ref h0_problem, .ref h0_log, .ref h0_setting, .ref h0_choices, .ref h0_onesBefore, .ref h0_zerosBefore, .int v_depth, .int v_bestCost, .int v_bestOnes, .int (v_stepsMade + 1), .int v_state])), (h0_log, .inr (1, [.ref h0_log_words, .int v_log_size])), (h0_log_words, .inl (cI, 400, .inl v_log_words)), (h0_setting, .inr (4, [.int v_setting_ones, .int v_setting_zeros])), (h0_choices, .inl (cI, 16, .inl v_choices)), (h0_onesBefore, .inl (cI, 16, .inl v_onesBefore)), (h0_zerosBefore, .inl (cI, 16, .inl v_zerosBefore))] _ := hP.sub [0, 8, 9, 10, 11, 12, 13] rfl
        refine wback (ws' := [(h0, .inr (3, [.ref h0_problem, .ref h0_log, .ref h0_setting, .ref h0_choices, .ref h0_onesBefore, .ref h0_zerosBefore, .int ((fX3_choose (fX4_leastNotSet v_setting_ones v_setting_zeros) v_depth v_state v_log_size v_log_words v_setting_ones v_setting_zeros v_choices v_onesBefore v_zerosBefore).1), .int v_bestCost, .int v_bestOnes, .int (v_stepsMade + 1), .int ((fX3_choose (fX4_leastNotSet v_setting_ones v_setting_zeros) v_depth v_state v_log_size v_log_words v_setting_ones v_setting_zeros v_choices v_onesBefore v_zerosBefore).2.1)])), (h0_problem, .inr (2, [.ref h0_problem_costs, .ref h0_problem_coefficients, .ref h0_problem_literals, .ref h0_problem_bits, .ref h0_problem_firsts, .ref h0_problem_bounds, .int v_problem_terms, .int v_problem_constraints, .int v_problem_taken])), (h0_problem_costs, .inl (cI, 17, .inl v_problem_costs)), (h0_problem_coefficients, .inl (cI, 120, .inl v_problem_coefficients)), (h0_problem_literals, .inl (cI, 120, .inl v_problem_literals)), (h0_problem_bits, .inl (cI, 120, .inl v_problem_bits)), (h0_problem_firsts, .inl (cI, 21, .inl v_problem_firsts)), (h0_problem_bounds, .inl (cI, 20, .inl v_problem_bounds)), (h0_log, .inr (1, [.ref h0_log_words, .int ((fX3_choose (fX4_leastNotSet v_setting_ones v_setting_zeros) v_depth v_state v_log_size v_log_words v_setting_ones v_setting_zeros v_choices v_onesBefore v_zerosBefore).2.2.1)])), (h0_log_words, .inl (cI, 400, .inl ((fX3_choose (fX4_leastNotSet v_setting_ones v_setting_zeros) v_depth v_state v_log_size v_log_words v_setting_ones v_setting_zeros v_choices v_onesBefore v_zerosBefore).2.2.2.1))), (h0_setting, .inr (4, [.int ((fX3_choose (fX4_leastNotSet v_setting_ones v_setting_zeros) v_depth v_state v_log_size v_log_words v_setting_ones v_setting_zeros v_choices v_onesBefore v_zerosBefore).2.2.2.2.1), .int ((fX3_choose (fX4_leastNotSet v_setting_ones v_setting_zeros) v_depth v_state v_log_size v_log_words v_setting_ones v_setting_zeros v_choices v_onesBefore v_zerosBefore).2.2.2.2.2.1)])), (h0_choices, .inl (cI, 16, .inl ((fX3_choose (fX4_leastNotSet v_setting_ones v_setting_zeros) v_depth v_state v_log_size v_log_words v_setting_ones v_setting_zeros v_choices v_onesBefore v_zerosBefore).2.2.2.2.2.2.1))), (h0_onesBefore, .inl (cI, 16, .inl ((fX3_choose (fX4_leastNotSet v_setting_ones v_setting_zeros) v_depth v_state v_log_size v_log_words v_setting_ones v_setting_zeros v_choices v_onesBefore v_zerosBefore).2.2.2.2.2.2.2.1))), (h0_zerosBefore, .inl (cI, 16, .inl ((fX3_choose (fX4_leastNotSet v_setting_ones v_setting_zeros) v_depth v_state v_log_size v_log_words v_setting_ones v_setting_zeros v_choices v_onesBefore v_zerosBefore).2.2.2.2.2.2.2.2)))]) [0, 8, 9, 10, 11, 12, 13] (va_runV (As := [.int (fX4_leastNotSet v_setting_ones v_setting_zeros)]) (rest := []) ⟨hx, hb, hml, hown, hts⟩ (ctX3_choose l D cI cZ h0 h0_problem h0_log h0_setting h0_choices h0_onesBefore h0_zerosBefore h0_log_words (fX4_leastNotSet v_setting_ones v_setting_zeros) v_depth v_bestCost v_bestOnes (v_stepsMade + 1) v_state v_log_size v_setting_ones v_setting_zeros v_log_words v_choices v_onesBefore v_zerosBefore hL hDp) ⟨(cB hts kw356 kw353 kw55 pmX3_choose ⟨Nat.le_of_ble_eq_true rfl, Nat.le_of_ble_eq_true rfl⟩), hts _ kw355, hts _ kw18⟩ ⟨wPc_blind, va_recv hK hP (ci := 3) (q0 := 0) rfl rfl, wpre hPc hK hN (hD.sub (ws' := [(h0, .inr (3, [.ref h0_problem, .ref h0_log, .ref h0_setting, .ref h0_choices, .ref h0_onesBefore, .ref h0_zerosBefore, .int v_depth, .int v_bestCost, .int v_bestOnes, .int (v_stepsMade + 1), .int v_state])), (h0_log, .inr (1, [.ref h0_log_words, .int v_log_size])), (h0_log_words, .inl (cI, 400, .inl v_log_words)), (h0_setting, .inr (4, [.int v_setting_ones, .int v_setting_zeros])), (h0_choices, .inl (cI, 16, .inl v_choices)), (h0_onesBefore, .inl (cI, 16, .inl v_onesBefore)), (h0_zerosBefore, .inl (cI, 16, .inl v_zerosBefore))]) [0, 8, 9, 10, 11, 12, 13] (by decide) rfl)⟩ rfl rfl hl.1 rfl (lv_room (Nat.le_of_ble_eq_true rfl)) dX3_step_78 ⟨Nat.zero_le _, Nat.zero_le _⟩) hP hD hS rfl rfl rfl rfl (fun H locs hP hD hS => ?_)
        refine lv_goto (tgt := 88) hx hb dX3_step_81 (by decide) ?_
        exact wretv hx hb hr hlocks (by rw [hF]; exact hP) hS dX3_step_88
    · have hF := hF.trans (if_neg c_2)
      refine lv_aload_n hx hb dX3_step_55 rfl (lv_at hl 2 rfl) ?_
      refine va_get (D := D) hx hb hts inX3 hown hK hP 0 rfl rfl 2 (by decide) (hts _ kw145) (fun _ h9 => h9) rfl dX3_step_56 ?_
      refine lv_iload_n hx hb dX3_step_59 rfl (lv_at hl 0 rfl) ?_
      have hPc : va_P D vwCl [(h0_setting, .inr (4, [.int v_setting_ones, .int v_setting_zeros]))] _ := hP.sub [10] rfl
      refine wback (ws' := [(h0, .inr (3, [.ref h0_problem, .ref h0_log, .ref h0_setting, .ref h0_choices, .ref h0_onesBefore, .ref h0_zerosBefore, .int v_depth, .int v_bestCost, .int v_bestOnes, .int (v_stepsMade + 1), .int v_state])), (h0_problem, .inr (2, [.ref h0_problem_costs, .ref h0_problem_coefficients, .ref h0_problem_literals, .ref h0_problem_bits, .ref h0_problem_firsts, .ref h0_problem_bounds, .int v_problem_terms, .int v_problem_constraints, .int v_problem_taken])), (h0_problem_costs, .inl (cI, 17, .inl v_problem_costs)), (h0_problem_coefficients, .inl (cI, 120, .inl v_problem_coefficients)), (h0_problem_literals, .inl (cI, 120, .inl v_problem_literals)), (h0_problem_bits, .inl (cI, 120, .inl v_problem_bits)), (h0_problem_firsts, .inl (cI, 21, .inl v_problem_firsts)), (h0_problem_bounds, .inl (cI, 20, .inl v_problem_bounds)), (h0_log, .inr (1, [.ref h0_log_words, .int v_log_size])), (h0_log_words, .inl (cI, 400, .inl v_log_words)), (h0_setting, .inr (4, [.int ((fX4_makeTrue (fX2_forcedLiteral (fX5_limitBelow v_bestCost) v_problem_constraints v_problem_costs v_problem_coefficients v_problem_literals v_problem_bits v_problem_firsts v_problem_bounds v_setting_ones v_setting_zeros) v_setting_ones v_setting_zeros).1), .int ((fX4_makeTrue (fX2_forcedLiteral (fX5_limitBelow v_bestCost) v_problem_constraints v_problem_costs v_problem_coefficients v_problem_literals v_problem_bits v_problem_firsts v_problem_bounds v_setting_ones v_setting_zeros) v_setting_ones v_setting_zeros).2)])), (h0_choices, .inl (cI, 16, .inl v_choices)), (h0_onesBefore, .inl (cI, 16, .inl v_onesBefore)), (h0_zerosBefore, .inl (cI, 16, .inl v_zerosBefore))]) [10] (va_runVN (As := [.int (fX2_forcedLiteral (fX5_limitBelow v_bestCost) v_problem_constraints v_problem_costs v_problem_coefficients v_problem_literals v_problem_bits v_problem_firsts v_problem_bounds v_setting_ones v_setting_zeros)]) (rest := []) ⟨hx, hb, hml, hown, hts⟩ (ctX4_makeTrue l D cI cZ h0_setting (fX2_forcedLiteral (fX5_limitBelow v_bestCost) v_problem_constraints v_problem_costs v_problem_coefficients v_problem_literals v_problem_bits v_problem_firsts v_problem_bounds v_setting_ones v_setting_zeros) v_setting_ones v_setting_zeros) ⟨(cN hts kw334 (hN _ kn27) kw56 pmX4_makeTrue ⟨Nat.le_of_ble_eq_true rfl, Nat.le_of_ble_eq_true rfl⟩), hts _ kw333, hts _ kw13⟩ ⟨wPc_blind, va_recv hK hP (ci := 4) (q0 := 10) rfl rfl, wpre hPc hK hN (hD.sub (ws' := [(h0_setting, .inr (4, [.int v_setting_ones, .int v_setting_zeros]))]) [10] (by decide) rfl)⟩ rfl rfl hl.1 rfl (lv_room (Nat.le_of_ble_eq_true rfl)) dX3_step_60 ⟨Nat.zero_le _, Nat.zero_le _⟩) hP hD hS rfl rfl rfl rfl (fun H locs hP hD hS => ?_)
      exact wretv hx hb hr hlocks (by rw [hF]; exact hP) hS dX3_step_63
  · have hF := hF.trans (if_neg c_1)
    refine lv_aload_n hx hb dX3_step_33 rfl (lv_at hl 1 rfl) ?_
    have hPc : va_P D vwCl [(h0, .inr (3, [.ref h0_problem, .ref h0_log, .ref h0_setting, .ref h0_choices, .ref h0_onesBefore, .ref h0_zerosBefore, .int v_depth, .int v_bestCost, .int v_bestOnes, .int (v_stepsMade + 1), .int v_state])), (h0_log, .inr (1, [.ref h0_log_words, .int v_log_size])), (h0_log_words, .inl (cI, 400, .inl v_log_words)), (h0_setting, .inr (4, [.int v_setting_ones, .int v_setting_zeros])), (h0_choices, .inl (cI, 16, .inl v_choices)), (h0_onesBefore, .inl (cI, 16, .inl v_onesBefore)), (h0_zerosBefore, .inl (cI, 16, .inl v_zerosBefore))] _ := hP.sub [0, 8, 9, 10, 11, 12, 13] rfl
    refine wback (ws' := [(h0, .inr (3, [.ref h0_problem, .ref h0_log, .ref h0_setting, .ref h0_choices, .ref h0_onesBefore, .ref h0_zerosBefore, .int ((fX3_goBack v_depth v_bestCost v_bestOnes v_state v_log_size v_log_words v_setting_ones v_setting_zeros v_choices v_onesBefore v_zerosBefore).1), .int v_bestCost, .int v_bestOnes, .int (v_stepsMade + 1), .int ((fX3_goBack v_depth v_bestCost v_bestOnes v_state v_log_size v_log_words v_setting_ones v_setting_zeros v_choices v_onesBefore v_zerosBefore).2.1)])), (h0_problem, .inr (2, [.ref h0_problem_costs, .ref h0_problem_coefficients, .ref h0_problem_literals, .ref h0_problem_bits, .ref h0_problem_firsts, .ref h0_problem_bounds, .int v_problem_terms, .int v_problem_constraints, .int v_problem_taken])), (h0_problem_costs, .inl (cI, 17, .inl v_problem_costs)), (h0_problem_coefficients, .inl (cI, 120, .inl v_problem_coefficients)), (h0_problem_literals, .inl (cI, 120, .inl v_problem_literals)), (h0_problem_bits, .inl (cI, 120, .inl v_problem_bits)), (h0_problem_firsts, .inl (cI, 21, .inl v_problem_firsts)), (h0_problem_bounds, .inl (cI, 20, .inl v_problem_bounds)), (h0_log, .inr (1, [.ref h0_log_words, .int ((fX3_goBack v_depth v_bestCost v_bestOnes v_state v_log_size v_log_words v_setting_ones v_setting_zeros v_choices v_onesBefore v_zerosBefore).2.2.1)])), (h0_log_words, .inl (cI, 400, .inl ((fX3_goBack v_depth v_bestCost v_bestOnes v_state v_log_size v_log_words v_setting_ones v_setting_zeros v_choices v_onesBefore v_zerosBefore).2.2.2.1))), (h0_setting, .inr (4, [.int ((fX3_goBack v_depth v_bestCost v_bestOnes v_state v_log_size v_log_words v_setting_ones v_setting_zeros v_choices v_onesBefore v_zerosBefore).2.2.2.2.1), .int ((fX3_goBack v_depth v_bestCost v_bestOnes v_state v_log_size v_log_words v_setting_ones v_setting_zeros v_choices v_onesBefore v_zerosBefore).2.2.2.2.2)])), (h0_choices, .inl (cI, 16, .inl v_choices)), (h0_onesBefore, .inl (cI, 16, .inl v_onesBefore)), (h0_zerosBefore, .inl (cI, 16, .inl v_zerosBefore))]) [0, 8, 9, 10, 11, 12, 13] (va_runV (As := []) (rest := []) ⟨hx, hb, hml, hown, hts⟩ (ctX3_goBack l D cI cZ h0 h0_problem h0_log h0_setting h0_choices h0_onesBefore h0_zerosBefore h0_log_words v_depth v_bestCost v_bestOnes (v_stepsMade + 1) v_state v_log_size v_setting_ones v_setting_zeros v_log_words v_choices v_onesBefore v_zerosBefore hL hDp) ⟨(cB hts kw314 kw311 kw55 pmX3_goBack ⟨Nat.le_of_ble_eq_true rfl, Nat.le_of_ble_eq_true rfl⟩), hts _ kw313, hts _ kw8⟩ ⟨wPc_blind, va_recv hK hP (ci := 3) (q0 := 0) rfl rfl, wpre hPc hK hN (hD.sub (ws' := [(h0, .inr (3, [.ref h0_problem, .ref h0_log, .ref h0_setting, .ref h0_choices, .ref h0_onesBefore, .ref h0_zerosBefore, .int v_depth, .int v_bestCost, .int v_bestOnes, .int (v_stepsMade + 1), .int v_state])), (h0_log, .inr (1, [.ref h0_log_words, .int v_log_size])), (h0_log_words, .inl (cI, 400, .inl v_log_words)), (h0_setting, .inr (4, [.int v_setting_ones, .int v_setting_zeros])), (h0_choices, .inl (cI, 16, .inl v_choices)), (h0_onesBefore, .inl (cI, 16, .inl v_onesBefore)), (h0_zerosBefore, .inl (cI, 16, .inl v_zerosBefore))]) [0, 8, 9, 10, 11, 12, 13] (by decide) rfl)⟩ rfl rfl hl.1 rfl (lv_room (Nat.le_of_ble_eq_true rfl)) dX3_step_34 ⟨Nat.zero_le _, Nat.zero_le _⟩) hP hD hS rfl rfl rfl rfl (fun H locs hP hD hS => ?_)
    exact wretv hx hb hr hlocks (by rw [hF]; exact hP) hS dX3_step_37

theorem okL_step {v_depth : Int32} {v_bestCost : Int32} {v_bestOnes : Int32} {v_stepsMade : Int32} {v_state : Int32} {v_problem_constraints : Int32} {v_problem_costs : Nat → Int32} {v_problem_coefficients : Nat → Int32} {v_problem_literals : Nat → Int32} {v_problem_bits : Nat → Int32} {v_problem_firsts : Nat → Int32} {v_problem_bounds : Nat → Int32} {v_log_size : Int32} {v_log_words : Nat → Int32} {v_setting_ones : Int32} {v_setting_zeros : Int32} {v_choices : Nat → Int32} {v_onesBefore : Nat → Int32} {v_zerosBefore : Nat → Int32} (hL : okN 400 v_log_size) : okN 400 ((fX3_step v_depth v_bestCost v_bestOnes v_stepsMade v_state v_problem_constraints v_problem_costs v_problem_coefficients v_problem_literals v_problem_bits v_problem_firsts v_problem_bounds v_log_size v_log_words v_setting_ones v_setting_zeros v_choices v_onesBefore v_zerosBefore).2.2.2.2.2.1) := by
  rw [fX3_step_eq]; unfold fX3_step_d
  repeat' split
  all_goals first | exact hL | exact okL_goBack hL | exact okL_choose hL

theorem okD_step {v_depth : Int32} {v_bestCost : Int32} {v_bestOnes : Int32} {v_stepsMade : Int32} {v_state : Int32} {v_problem_constraints : Int32} {v_problem_costs : Nat → Int32} {v_problem_coefficients : Nat → Int32} {v_problem_literals : Nat → Int32} {v_problem_bits : Nat → Int32} {v_problem_firsts : Nat → Int32} {v_problem_bounds : Nat → Int32} {v_log_size : Int32} {v_log_words : Nat → Int32} {v_setting_ones : Int32} {v_setting_zeros : Int32} {v_choices : Nat → Int32} {v_onesBefore : Nat → Int32} {v_zerosBefore : Nat → Int32} (hDp : okN 16 v_depth) : okN 16 ((fX3_step v_depth v_bestCost v_bestOnes v_stepsMade v_state v_problem_constraints v_problem_costs v_problem_coefficients v_problem_literals v_problem_bits v_problem_firsts v_problem_bounds v_log_size v_log_words v_setting_ones v_setting_zeros v_choices v_onesBefore v_zerosBefore).1) := by
  rw [fX3_step_eq]; unfold fX3_step_d
  repeat' split
  all_goals first | exact hDp | exact okD_goBack hDp | exact okD_choose hDp

-- LeastCost$Search.advance
theorem k_le2 {x y : Int32} {k b : Nat} (ek : x = nI k) (eb : y = nI b) (hk : k < 2 ^ 31) (c : ¬ y ≤ x) : k < b := by
  subst ek; subst eb
  exact k_nle hk c
theorem pmX3_advance : mFit yX3_advance 1 := ⟨by decide +kernel, by decide +kernel, by decide +kernel⟩
noncomputable def fX3_advance_L2 (x1 : Int32) (v_depth : Int32) (v_bestCost : Int32) (v_bestOnes : Int32) (v_stepsMade : Int32) (v_state : Int32) (v_problem_constraints : Int32) (v_problem_costs : Nat → Int32) (v_problem_coefficients : Nat → Int32) (v_problem_literals : Nat → Int32) (v_problem_bits : Nat → Int32) (v_problem_firsts : Nat → Int32) (v_problem_bounds : Nat → Int32) (v_log_size : Int32) (v_log_words : Nat → Int32) (v_setting_ones : Int32) (v_setting_zeros : Int32) (v_choices : Nat → Int32) (v_onesBefore : Nat → Int32) (v_zerosBefore : Nat → Int32) : Nat → Int32 → Int32 → Int32 → Int32 → Int32 → Int32 → Int32 → (Nat → Int32) → Int32 → Int32 → (Nat → Int32) → (Nat → Int32) → (Nat → Int32) → Int32 × Int32 × Int32 × Int32 × Int32 × Int32 × Int32 × (Nat → Int32) × Int32 × Int32 × (Nat → Int32) × (Nat → Int32) × (Nat → Int32)
  | 0, l2, v_depth', v_bestCost', v_bestOnes', v_stepsMade', v_state', v_log_size', v_log_words', v_setting_ones', v_setting_zeros', v_choices', v_onesBefore', v_zerosBefore' => (0, v_depth', v_bestCost', v_bestOnes', v_stepsMade', v_state', v_log_size', v_log_words', v_setting_ones', v_setting_zeros', v_choices', v_onesBefore', v_zerosBefore')
  | n + 1, l2, v_depth', v_bestCost', v_bestOnes', v_stepsMade', v_state', v_log_size', v_log_words', v_setting_ones', v_setting_zeros', v_choices', v_onesBefore', v_zerosBefore' => (if x1 ≤ l2 then (v_state', v_depth', v_bestCost', v_bestOnes', v_stepsMade', v_state', v_log_size', v_log_words', v_setting_ones', v_setting_zeros', v_choices', v_onesBefore', v_zerosBefore') else (if v_state' = 2 then fX3_advance_L2 x1 v_depth v_bestCost v_bestOnes v_stepsMade v_state v_problem_constraints v_problem_costs v_problem_coefficients v_problem_literals v_problem_bits v_problem_firsts v_problem_bounds v_log_size v_log_words v_setting_ones v_setting_zeros v_choices v_onesBefore v_zerosBefore n (l2 + 1) ((fX3_step v_depth' v_bestCost' v_bestOnes' v_stepsMade' v_state' v_problem_constraints v_problem_costs v_problem_coefficients v_problem_literals v_problem_bits v_problem_firsts v_problem_bounds v_log_size' v_log_words' v_setting_ones' v_setting_zeros' v_choices' v_onesBefore' v_zerosBefore').1) ((fX3_step v_depth' v_bestCost' v_bestOnes' v_stepsMade' v_state' v_problem_constraints v_problem_costs v_problem_coefficients v_problem_literals v_problem_bits v_problem_firsts v_problem_bounds v_log_size' v_log_words' v_setting_ones' v_setting_zeros' v_choices' v_onesBefore' v_zerosBefore').2.1) ((fX3_step v_depth' v_bestCost' v_bestOnes' v_stepsMade' v_state' v_problem_constraints v_problem_costs v_problem_coefficients v_problem_literals v_problem_bits v_problem_firsts v_problem_bounds v_log_size' v_log_words' v_setting_ones' v_setting_zeros' v_choices' v_onesBefore' v_zerosBefore').2.2.1) ((fX3_step v_depth' v_bestCost' v_bestOnes' v_stepsMade' v_state' v_problem_constraints v_problem_costs v_problem_coefficients v_problem_literals v_problem_bits v_problem_firsts v_problem_bounds v_log_size' v_log_words' v_setting_ones' v_setting_zeros' v_choices' v_onesBefore' v_zerosBefore').2.2.2.1) ((fX3_step v_depth' v_bestCost' v_bestOnes' v_stepsMade' v_state' v_problem_constraints v_problem_costs v_problem_coefficients v_problem_literals v_problem_bits v_problem_firsts v_problem_bounds v_log_size' v_log_words' v_setting_ones' v_setting_zeros' v_choices' v_onesBefore' v_zerosBefore').2.2.2.2.1) ((fX3_step v_depth' v_bestCost' v_bestOnes' v_stepsMade' v_state' v_problem_constraints v_problem_costs v_problem_coefficients v_problem_literals v_problem_bits v_problem_firsts v_problem_bounds v_log_size' v_log_words' v_setting_ones' v_setting_zeros' v_choices' v_onesBefore' v_zerosBefore').2.2.2.2.2.1) ((fX3_step v_depth' v_bestCost' v_bestOnes' v_stepsMade' v_state' v_problem_constraints v_problem_costs v_problem_coefficients v_problem_literals v_problem_bits v_problem_firsts v_problem_bounds v_log_size' v_log_words' v_setting_ones' v_setting_zeros' v_choices' v_onesBefore' v_zerosBefore').2.2.2.2.2.2.1) ((fX3_step v_depth' v_bestCost' v_bestOnes' v_stepsMade' v_state' v_problem_constraints v_problem_costs v_problem_coefficients v_problem_literals v_problem_bits v_problem_firsts v_problem_bounds v_log_size' v_log_words' v_setting_ones' v_setting_zeros' v_choices' v_onesBefore' v_zerosBefore').2.2.2.2.2.2.2.1) ((fX3_step v_depth' v_bestCost' v_bestOnes' v_stepsMade' v_state' v_problem_constraints v_problem_costs v_problem_coefficients v_problem_literals v_problem_bits v_problem_firsts v_problem_bounds v_log_size' v_log_words' v_setting_ones' v_setting_zeros' v_choices' v_onesBefore' v_zerosBefore').2.2.2.2.2.2.2.2.1) ((fX3_step v_depth' v_bestCost' v_bestOnes' v_stepsMade' v_state' v_problem_constraints v_problem_costs v_problem_coefficients v_problem_literals v_problem_bits v_problem_firsts v_problem_bounds v_log_size' v_log_words' v_setting_ones' v_setting_zeros' v_choices' v_onesBefore' v_zerosBefore').2.2.2.2.2.2.2.2.2.1) ((fX3_step v_depth' v_bestCost' v_bestOnes' v_stepsMade' v_state' v_problem_constraints v_problem_costs v_problem_coefficients v_problem_literals v_problem_bits v_problem_firsts v_problem_bounds v_log_size' v_log_words' v_setting_ones' v_setting_zeros' v_choices' v_onesBefore' v_zerosBefore').2.2.2.2.2.2.2.2.2.2.1) ((fX3_step v_depth' v_bestCost' v_bestOnes' v_stepsMade' v_state' v_problem_constraints v_problem_costs v_problem_coefficients v_problem_literals v_problem_bits v_problem_firsts v_problem_bounds v_log_size' v_log_words' v_setting_ones' v_setting_zeros' v_choices' v_onesBefore' v_zerosBefore').2.2.2.2.2.2.2.2.2.2.2) else (v_state', v_depth', v_bestCost', v_bestOnes', v_stepsMade', v_state', v_log_size', v_log_words', v_setting_ones', v_setting_zeros', v_choices', v_onesBefore', v_zerosBefore')))
noncomputable def fX3_advance_d (x1 : Int32) (v_depth : Int32) (v_bestCost : Int32) (v_bestOnes : Int32) (v_stepsMade : Int32) (v_state : Int32) (v_problem_constraints : Int32) (v_problem_costs : Nat → Int32) (v_problem_coefficients : Nat → Int32) (v_problem_literals : Nat → Int32) (v_problem_bits : Nat → Int32) (v_problem_firsts : Nat → Int32) (v_problem_bounds : Nat → Int32) (v_log_size : Int32) (v_log_words : Nat → Int32) (v_setting_ones : Int32) (v_setting_zeros : Int32) (v_choices : Nat → Int32) (v_onesBefore : Nat → Int32) (v_zerosBefore : Nat → Int32) : Int32 × Int32 × Int32 × Int32 × Int32 × Int32 × Int32 × (Nat → Int32) × Int32 × Int32 × (Nat → Int32) × (Nat → Int32) × (Nat → Int32) :=
  fX3_advance_L2 x1 v_depth v_bestCost v_bestOnes v_stepsMade v_state v_problem_constraints v_problem_costs v_problem_coefficients v_problem_literals v_problem_bits v_problem_firsts v_problem_bounds v_log_size v_log_words v_setting_ones v_setting_zeros v_choices v_onesBefore v_zerosBefore 2001 0 v_depth v_bestCost v_bestOnes v_stepsMade v_state v_log_size v_log_words v_setting_ones v_setting_zeros v_choices v_onesBefore v_zerosBefore
theorem fX3_advance_ex : ∃ f : Int32 → Int32 → Int32 → Int32 → Int32 → Int32 → Int32 → (Nat → Int32) → (Nat → Int32) → (Nat → Int32) → (Nat → Int32) → (Nat → Int32) → (Nat → Int32) → Int32 → (Nat → Int32) → Int32 → Int32 → (Nat → Int32) → (Nat → Int32) → (Nat → Int32) → (Int32 × Int32 × Int32 × Int32 × Int32 × Int32 × Int32 × (Nat → Int32) × Int32 × Int32 × (Nat → Int32) × (Nat → Int32) × (Nat → Int32)), ∀ (x1 : Int32) (v_depth : Int32) (v_bestCost : Int32) (v_bestOnes : Int32) (v_stepsMade : Int32) (v_state : Int32) (v_problem_constraints : Int32) (v_problem_costs : Nat → Int32) (v_problem_coefficients : Nat → Int32) (v_problem_literals : Nat → Int32) (v_problem_bits : Nat → Int32) (v_problem_firsts : Nat → Int32) (v_problem_bounds : Nat → Int32) (v_log_size : Int32) (v_log_words : Nat → Int32) (v_setting_ones : Int32) (v_setting_zeros : Int32) (v_choices : Nat → Int32) (v_onesBefore : Nat → Int32) (v_zerosBefore : Nat → Int32), f x1 v_depth v_bestCost v_bestOnes v_stepsMade v_state v_problem_constraints v_problem_costs v_problem_coefficients v_problem_literals v_problem_bits v_problem_firsts v_problem_bounds v_log_size v_log_words v_setting_ones v_setting_zeros v_choices v_onesBefore v_zerosBefore = fX3_advance_d x1 v_depth v_bestCost v_bestOnes v_stepsMade v_state v_problem_constraints v_problem_costs v_problem_coefficients v_problem_literals v_problem_bits v_problem_firsts v_problem_bounds v_log_size v_log_words v_setting_ones v_setting_zeros v_choices v_onesBefore v_zerosBefore := ⟨fX3_advance_d, fun _ _ _ _ _ _ _ _ _ _ _ _ _ _ _ _ _ _ _ _ => rfl⟩
noncomputable def fX3_advance : Int32 → Int32 → Int32 → Int32 → Int32 → Int32 → Int32 → (Nat → Int32) → (Nat → Int32) → (Nat → Int32) → (Nat → Int32) → (Nat → Int32) → (Nat → Int32) → Int32 → (Nat → Int32) → Int32 → Int32 → (Nat → Int32) → (Nat → Int32) → (Nat → Int32) → (Int32 × Int32 × Int32 × Int32 × Int32 × Int32 × Int32 × (Nat → Int32) × Int32 × Int32 × (Nat → Int32) × (Nat → Int32) × (Nat → Int32)) := Classical.choose fX3_advance_ex
theorem fX3_advance_eq (x1 : Int32) (v_depth : Int32) (v_bestCost : Int32) (v_bestOnes : Int32) (v_stepsMade : Int32) (v_state : Int32) (v_problem_constraints : Int32) (v_problem_costs : Nat → Int32) (v_problem_coefficients : Nat → Int32) (v_problem_literals : Nat → Int32) (v_problem_bits : Nat → Int32) (v_problem_firsts : Nat → Int32) (v_problem_bounds : Nat → Int32) (v_log_size : Int32) (v_log_words : Nat → Int32) (v_setting_ones : Int32) (v_setting_zeros : Int32) (v_choices : Nat → Int32) (v_onesBefore : Nat → Int32) (v_zerosBefore : Nat → Int32) : fX3_advance x1 v_depth v_bestCost v_bestOnes v_stepsMade v_state v_problem_constraints v_problem_costs v_problem_coefficients v_problem_literals v_problem_bits v_problem_firsts v_problem_bounds v_log_size v_log_words v_setting_ones v_setting_zeros v_choices v_onesBefore v_zerosBefore = fX3_advance_d x1 v_depth v_bestCost v_bestOnes v_stepsMade v_state v_problem_constraints v_problem_costs v_problem_coefficients v_problem_literals v_problem_bits v_problem_firsts v_problem_bounds v_log_size v_log_words v_setting_ones v_setting_zeros v_choices v_onesBefore v_zerosBefore := Classical.choose_spec fX3_advance_ex x1 v_depth v_bestCost v_bestOnes v_stepsMade v_state v_problem_constraints v_problem_costs v_problem_coefficients v_problem_literals v_problem_bits v_problem_firsts v_problem_bounds v_log_size v_log_words v_setting_ones v_setting_zeros v_choices v_onesBefore v_zerosBefore
set_option maxHeartbeats 1000000 in
set_option maxRecDepth 100000 in
theorem ctX3_advance (l : Launch) (D : va_G) (cI cZ : ClassId) (h0 h0_problem h0_log h0_setting h0_choices h0_onesBefore h0_zerosBefore h0_problem_costs h0_problem_coefficients h0_problem_literals h0_problem_bits h0_problem_firsts h0_problem_bounds h0_log_words : Nat) (x1 : Int32) (v_depth v_bestCost v_bestOnes v_stepsMade v_state v_problem_terms v_problem_constraints v_problem_taken v_log_size v_setting_ones v_setting_zeros : Int32) (v_problem_costs v_problem_coefficients v_problem_literals v_problem_bits v_problem_firsts v_problem_bounds v_log_words v_choices v_onesBefore v_zerosBefore : Nat → Int32) (hO : okP v_problem_firsts v_problem_constraints) (hL : okN 400 v_log_size) (hDp : okN 16 v_depth) (hfu : okN 2000 x1) : Met l yX3_advance (gw yX3_advance cX3_advance 3 (some .int)) { frames := 5, cells := 0, slots := 0, locals := 117 } (wPc D cI cZ [.ref h0, .int x1] [(h0, .inr (3, [.ref h0_problem, .ref h0_log, .ref h0_setting, .ref h0_choices, .ref h0_onesBefore, .ref h0_zerosBefore, .int v_depth, .int v_bestCost, .int v_bestOnes, .int v_stepsMade, .int v_state])), (h0_problem, .inr (2, [.ref h0_problem_costs, .ref h0_problem_coefficients, .ref h0_problem_literals, .ref h0_problem_bits, .ref h0_problem_firsts, .ref h0_problem_bounds, .int v_problem_terms, .int v_problem_constraints, .int v_problem_taken])), (h0_problem_costs, .inl (cI, 17, .inl v_problem_costs)), (h0_problem_coefficients, .inl (cI, 120, .inl v_problem_coefficients)), (h0_problem_literals, .inl (cI, 120, .inl v_problem_literals)), (h0_problem_bits, .inl (cI, 120, .inl v_problem_bits)), (h0_problem_firsts, .inl (cI, 21, .inl v_problem_firsts)), (h0_problem_bounds, .inl (cI, 20, .inl v_problem_bounds)), (h0_log, .inr (1, [.ref h0_log_words, .int v_log_size])), (h0_log_words, .inl (cI, 400, .inl v_log_words)), (h0_setting, .inr (4, [.int v_setting_ones, .int v_setting_zeros])), (h0_choices, .inl (cI, 16, .inl v_choices)), (h0_onesBefore, .inl (cI, 16, .inl v_onesBefore)), (h0_zerosBefore, .inl (cI, 16, .inl v_zerosBefore))]) (wQ D (some (.int ((fX3_advance x1 v_depth v_bestCost v_bestOnes v_stepsMade v_state v_problem_constraints v_problem_costs v_problem_coefficients v_problem_literals v_problem_bits v_problem_firsts v_problem_bounds v_log_size v_log_words v_setting_ones v_setting_zeros v_choices v_onesBefore v_zerosBefore).1))) [(h0, .inr (3, [.ref h0_problem, .ref h0_log, .ref h0_setting, .ref h0_choices, .ref h0_onesBefore, .ref h0_zerosBefore, .int v_depth, .int v_bestCost, .int v_bestOnes, .int v_stepsMade, .int v_state])), (h0_problem, .inr (2, [.ref h0_problem_costs, .ref h0_problem_coefficients, .ref h0_problem_literals, .ref h0_problem_bits, .ref h0_problem_firsts, .ref h0_problem_bounds, .int v_problem_terms, .int v_problem_constraints, .int v_problem_taken])), (h0_problem_costs, .inl (cI, 17, .inl v_problem_costs)), (h0_problem_coefficients, .inl (cI, 120, .inl v_problem_coefficients)), (h0_problem_literals, .inl (cI, 120, .inl v_problem_literals)), (h0_problem_bits, .inl (cI, 120, .inl v_problem_bits)), (h0_problem_firsts, .inl (cI, 21, .inl v_problem_firsts)), (h0_problem_bounds, .inl (cI, 20, .inl v_problem_bounds)), (h0_log, .inr (1, [.ref h0_log_words, .int v_log_size])), (h0_log_words, .inl (cI, 400, .inl v_log_words)), (h0_setting, .inr (4, [.int v_setting_ones, .int v_setting_zeros])), (h0_choices, .inl (cI, 16, .inl v_choices)), (h0_onesBefore, .inl (cI, 16, .inl v_onesBefore)), (h0_zerosBefore, .inl (cI, 16, .inl v_zerosBefore))] [(h0, .inr (3, [.ref h0_problem, .ref h0_log, .ref h0_setting, .ref h0_choices, .ref h0_onesBefore, .ref h0_zerosBefore, .int ((fX3_advance x1 v_depth v_bestCost v_bestOnes v_stepsMade v_state v_problem_constraints v_problem_costs v_problem_coefficients v_problem_literals v_problem_bits v_problem_firsts v_problem_bounds v_log_size v_log_words v_setting_ones v_setting_zeros v_choices v_onesBefore v_zerosBefore).2.1), .int ((fX3_advance x1 v_depth v_bestCost v_bestOnes v_stepsMade v_state v_problem_constraints v_problem_costs v_problem_coefficients v_problem_literals v_problem_bits v_problem_firsts v_problem_bounds v_log_size v_log_words v_setting_ones v_setting_zeros v_choices v_onesBefore v_zerosBefore).2.2.1), .int ((fX3_advance x1 v_depth v_bestCost v_bestOnes v_stepsMade v_state v_problem_constraints v_problem_costs v_problem_coefficients v_problem_literals v_problem_bits v_problem_firsts v_problem_bounds v_log_size v_log_words v_setting_ones v_setting_zeros v_choices v_onesBefore v_zerosBefore).2.2.2.1), .int ((fX3_advance x1 v_depth v_bestCost v_bestOnes v_stepsMade v_state v_problem_constraints v_problem_costs v_problem_coefficients v_problem_literals v_problem_bits v_problem_firsts v_problem_bounds v_log_size v_log_words v_setting_ones v_setting_zeros v_choices v_onesBefore v_zerosBefore).2.2.2.2.1), .int ((fX3_advance x1 v_depth v_bestCost v_bestOnes v_stepsMade v_state v_problem_constraints v_problem_costs v_problem_coefficients v_problem_literals v_problem_bits v_problem_firsts v_problem_bounds v_log_size v_log_words v_setting_ones v_setting_zeros v_choices v_onesBefore v_zerosBefore).2.2.2.2.2.1)])), (h0_problem, .inr (2, [.ref h0_problem_costs, .ref h0_problem_coefficients, .ref h0_problem_literals, .ref h0_problem_bits, .ref h0_problem_firsts, .ref h0_problem_bounds, .int v_problem_terms, .int v_problem_constraints, .int v_problem_taken])), (h0_problem_costs, .inl (cI, 17, .inl v_problem_costs)), (h0_problem_coefficients, .inl (cI, 120, .inl v_problem_coefficients)), (h0_problem_literals, .inl (cI, 120, .inl v_problem_literals)), (h0_problem_bits, .inl (cI, 120, .inl v_problem_bits)), (h0_problem_firsts, .inl (cI, 21, .inl v_problem_firsts)), (h0_problem_bounds, .inl (cI, 20, .inl v_problem_bounds)), (h0_log, .inr (1, [.ref h0_log_words, .int ((fX3_advance x1 v_depth v_bestCost v_bestOnes v_stepsMade v_state v_problem_constraints v_problem_costs v_problem_coefficients v_problem_literals v_problem_bits v_problem_firsts v_problem_bounds v_log_size v_log_words v_setting_ones v_setting_zeros v_choices v_onesBefore v_zerosBefore).2.2.2.2.2.2.1)])), (h0_log_words, .inl (cI, 400, .inl ((fX3_advance x1 v_depth v_bestCost v_bestOnes v_stepsMade v_state v_problem_constraints v_problem_costs v_problem_coefficients v_problem_literals v_problem_bits v_problem_firsts v_problem_bounds v_log_size v_log_words v_setting_ones v_setting_zeros v_choices v_onesBefore v_zerosBefore).2.2.2.2.2.2.2.1))), (h0_setting, .inr (4, [.int ((fX3_advance x1 v_depth v_bestCost v_bestOnes v_stepsMade v_state v_problem_constraints v_problem_costs v_problem_coefficients v_problem_literals v_problem_bits v_problem_firsts v_problem_bounds v_log_size v_log_words v_setting_ones v_setting_zeros v_choices v_onesBefore v_zerosBefore).2.2.2.2.2.2.2.2.1), .int ((fX3_advance x1 v_depth v_bestCost v_bestOnes v_stepsMade v_state v_problem_constraints v_problem_costs v_problem_coefficients v_problem_literals v_problem_bits v_problem_firsts v_problem_bounds v_log_size v_log_words v_setting_ones v_setting_zeros v_choices v_onesBefore v_zerosBefore).2.2.2.2.2.2.2.2.2.1)])), (h0_choices, .inl (cI, 16, .inl ((fX3_advance x1 v_depth v_bestCost v_bestOnes v_stepsMade v_state v_problem_constraints v_problem_costs v_problem_coefficients v_problem_literals v_problem_bits v_problem_firsts v_problem_bounds v_log_size v_log_words v_setting_ones v_setting_zeros v_choices v_onesBefore v_zerosBefore).2.2.2.2.2.2.2.2.2.2.1))), (h0_onesBefore, .inl (cI, 16, .inl ((fX3_advance x1 v_depth v_bestCost v_bestOnes v_stepsMade v_state v_problem_constraints v_problem_costs v_problem_coefficients v_problem_literals v_problem_bits v_problem_firsts v_problem_bounds v_log_size v_log_words v_setting_ones v_setting_zeros v_choices v_onesBefore v_zerosBefore).2.2.2.2.2.2.2.2.2.2.2.1))), (h0_zerosBefore, .inl (cI, 16, .inl ((fX3_advance x1 v_depth v_bestCost v_bestOnes v_stepsMade v_state v_problem_constraints v_problem_costs v_problem_coefficients v_problem_literals v_problem_bits v_problem_firsts v_problem_bounds v_log_size v_log_words v_setting_ones v_setting_zeros v_choices v_onesBefore v_zerosBefore).2.2.2.2.2.2.2.2.2.2.2.2)))]) 0 0 (aw [(h0, .inr (3, [.ref h0_problem, .ref h0_log, .ref h0_setting, .ref h0_choices, .ref h0_onesBefore, .ref h0_zerosBefore, .int v_depth, .int v_bestCost, .int v_bestOnes, .int v_stepsMade, .int v_state])), (h0_problem, .inr (2, [.ref h0_problem_costs, .ref h0_problem_coefficients, .ref h0_problem_literals, .ref h0_problem_bits, .ref h0_problem_firsts, .ref h0_problem_bounds, .int v_problem_terms, .int v_problem_constraints, .int v_problem_taken])), (h0_problem_costs, .inl (cI, 17, .inl v_problem_costs)), (h0_problem_coefficients, .inl (cI, 120, .inl v_problem_coefficients)), (h0_problem_literals, .inl (cI, 120, .inl v_problem_literals)), (h0_problem_bits, .inl (cI, 120, .inl v_problem_bits)), (h0_problem_firsts, .inl (cI, 21, .inl v_problem_firsts)), (h0_problem_bounds, .inl (cI, 20, .inl v_problem_bounds)), (h0_log, .inr (1, [.ref h0_log_words, .int v_log_size])), (h0_log_words, .inl (cI, 400, .inl v_log_words)), (h0_setting, .inr (4, [.int v_setting_ones, .int v_setting_zeros])), (h0_choices, .inl (cI, 16, .inl v_choices)), (h0_onesBefore, .inl (cI, 16, .inl v_onesBefore)), (h0_zerosBefore, .inl (cI, 16, .inl v_zerosBefore))]) := by
  refine wMet (by decide) (Nat.le_of_ble_eq_true rfl) ?_
  intro p e s m below meth c hx hb hr hlocks hml hown hts hP hK hN hD hS ls hl
  have hl : lv_has ls 3 [(0, .ref h0), (1, .int x1)] := hl
  have hF := (fX3_advance_eq x1 v_depth v_bestCost v_bestOnes v_stepsMade v_state v_problem_constraints v_problem_costs v_problem_coefficients v_problem_literals v_problem_bits v_problem_firsts v_problem_bounds v_log_size v_log_words v_setting_ones v_setting_zeros v_choices v_onesBefore v_zerosBefore).trans (fX3_advance_d.eq_1 x1 v_depth v_bestCost v_bestOnes v_stepsMade v_state v_problem_constraints v_problem_costs v_problem_coefficients v_problem_literals v_problem_bits v_problem_firsts v_problem_bounds v_log_size v_log_words v_setting_ones v_setting_zeros v_choices v_onesBefore v_zerosBefore)
  obtain ⟨fu, efu, hfu2⟩ := hfu
  refine lv_iconst (v := 0) hx hb dX3_advance_0 (by decide) ?_
  refine lv_istore_n (lv' := [(2, .int 0), (0, .ref h0), (1, .int x1)]) hx hb dX3_advance_1 rfl hl (by decide) rfl (fun ls hl => ?_)
  have loop : ∀ (n : Nat) (k : Nat) (l2 : Int32) (v_depth' : Int32) (v_bestCost' : Int32) (v_bestOnes' : Int32) (v_stepsMade' : Int32) (v_state' : Int32) (v_log_size' : Int32) (v_log_words' : (Nat → Int32)) (v_setting_ones' : Int32) (v_setting_zeros' : Int32) (v_choices' : (Nat → Int32)) (v_onesBefore' : (Nat → Int32)) (v_zerosBefore' : (Nat → Int32)) , l2 = nI k ∧ k ≤ 2000 ∧ 2000 < k + n → okN 400 v_log_size' → okN 16 v_depth' → fX3_advance x1 v_depth v_bestCost v_bestOnes v_stepsMade v_state v_problem_constraints v_problem_costs v_problem_coefficients v_problem_literals v_problem_bits v_problem_firsts v_problem_bounds v_log_size v_log_words v_setting_ones v_setting_zeros v_choices v_onesBefore v_zerosBefore = fX3_advance_L2 x1 v_depth v_bestCost v_bestOnes v_stepsMade v_state v_problem_constraints v_problem_costs v_problem_coefficients v_problem_literals v_problem_bits v_problem_firsts v_problem_bounds v_log_size v_log_words v_setting_ones v_setting_zeros v_choices v_onesBefore v_zerosBefore n l2 v_depth' v_bestCost' v_bestOnes' v_stepsMade' v_state' v_log_size' v_log_words' v_setting_ones' v_setting_zeros' v_choices' v_onesBefore' v_zerosBefore' → ∀ (H : Heap) (locs : List Loc), va_P D vwCl [(h0, .inr (3, [.ref h0_problem, .ref h0_log, .ref h0_setting, .ref h0_choices, .ref h0_onesBefore, .ref h0_zerosBefore, .int v_depth', .int v_bestCost', .int v_bestOnes', .int v_stepsMade', .int v_state'])), (h0_problem, .inr (2, [.ref h0_problem_costs, .ref h0_problem_coefficients, .ref h0_problem_literals, .ref h0_problem_bits, .ref h0_problem_firsts, .ref h0_problem_bounds, .int v_problem_terms, .int v_problem_constraints, .int v_problem_taken])), (h0_problem_costs, .inl (cI, 17, .inl v_problem_costs)), (h0_problem_coefficients, .inl (cI, 120, .inl v_problem_coefficients)), (h0_problem_literals, .inl (cI, 120, .inl v_problem_literals)), (h0_problem_bits, .inl (cI, 120, .inl v_problem_bits)), (h0_problem_firsts, .inl (cI, 21, .inl v_problem_firsts)), (h0_problem_bounds, .inl (cI, 20, .inl v_problem_bounds)), (h0_log, .inr (1, [.ref h0_log_words, .int v_log_size'])), (h0_log_words, .inl (cI, 400, .inl v_log_words')), (h0_setting, .inr (4, [.int v_setting_ones', .int v_setting_zeros'])), (h0_choices, .inl (cI, 16, .inl v_choices')), (h0_onesBefore, .inl (cI, 16, .inl v_onesBefore')), (h0_zerosBefore, .inl (cI, 16, .inl v_zerosBefore'))] H → va_D (aw [(h0, .inr (3, [.ref h0_problem, .ref h0_log, .ref h0_setting, .ref h0_choices, .ref h0_onesBefore, .ref h0_zerosBefore, .int v_depth, .int v_bestCost, .int v_bestOnes, .int v_stepsMade, .int v_state])), (h0_problem, .inr (2, [.ref h0_problem_costs, .ref h0_problem_coefficients, .ref h0_problem_literals, .ref h0_problem_bits, .ref h0_problem_firsts, .ref h0_problem_bounds, .int v_problem_terms, .int v_problem_constraints, .int v_problem_taken])), (h0_problem_costs, .inl (cI, 17, .inl v_problem_costs)), (h0_problem_coefficients, .inl (cI, 120, .inl v_problem_coefficients)), (h0_problem_literals, .inl (cI, 120, .inl v_problem_literals)), (h0_problem_bits, .inl (cI, 120, .inl v_problem_bits)), (h0_problem_firsts, .inl (cI, 21, .inl v_problem_firsts)), (h0_problem_bounds, .inl (cI, 20, .inl v_problem_bounds)), (h0_log, .inr (1, [.ref h0_log_words, .int v_log_size])), (h0_log_words, .inl (cI, 400, .inl v_log_words)), (h0_setting, .inr (4, [.int v_setting_ones, .int v_setting_zeros])), (h0_choices, .inl (cI, 16, .inl v_choices)), (h0_onesBefore, .inl (cI, 16, .inl v_onesBefore)), (h0_zerosBefore, .inl (cI, 16, .inl v_zerosBefore))]) [(h0, .inr (3, [.ref h0_problem, .ref h0_log, .ref h0_setting, .ref h0_choices, .ref h0_onesBefore, .ref h0_zerosBefore, .int v_depth', .int v_bestCost', .int v_bestOnes', .int v_stepsMade', .int v_state'])), (h0_problem, .inr (2, [.ref h0_problem_costs, .ref h0_problem_coefficients, .ref h0_problem_literals, .ref h0_problem_bits, .ref h0_problem_firsts, .ref h0_problem_bounds, .int v_problem_terms, .int v_problem_constraints, .int v_problem_taken])), (h0_problem_costs, .inl (cI, 17, .inl v_problem_costs)), (h0_problem_coefficients, .inl (cI, 120, .inl v_problem_coefficients)), (h0_problem_literals, .inl (cI, 120, .inl v_problem_literals)), (h0_problem_bits, .inl (cI, 120, .inl v_problem_bits)), (h0_problem_firsts, .inl (cI, 21, .inl v_problem_firsts)), (h0_problem_bounds, .inl (cI, 20, .inl v_problem_bounds)), (h0_log, .inr (1, [.ref h0_log_words, .int v_log_size'])), (h0_log_words, .inl (cI, 400, .inl v_log_words')), (h0_setting, .inr (4, [.int v_setting_ones', .int v_setting_zeros'])), (h0_choices, .inl (cI, 16, .inl v_choices')), (h0_onesBefore, .inl (cI, 16, .inl v_onesBefore')), (h0_zerosBefore, .inl (cI, 16, .inl v_zerosBefore'))] → va_S (aw [(h0, .inr (3, [.ref h0_problem, .ref h0_log, .ref h0_setting, .ref h0_choices, .ref h0_onesBefore, .ref h0_zerosBefore, .int v_depth, .int v_bestCost, .int v_bestOnes, .int v_stepsMade, .int v_state])), (h0_problem, .inr (2, [.ref h0_problem_costs, .ref h0_problem_coefficients, .ref h0_problem_literals, .ref h0_problem_bits, .ref h0_problem_firsts, .ref h0_problem_bounds, .int v_problem_terms, .int v_problem_constraints, .int v_problem_taken])), (h0_problem_costs, .inl (cI, 17, .inl v_problem_costs)), (h0_problem_coefficients, .inl (cI, 120, .inl v_problem_coefficients)), (h0_problem_literals, .inl (cI, 120, .inl v_problem_literals)), (h0_problem_bits, .inl (cI, 120, .inl v_problem_bits)), (h0_problem_firsts, .inl (cI, 21, .inl v_problem_firsts)), (h0_problem_bounds, .inl (cI, 20, .inl v_problem_bounds)), (h0_log, .inr (1, [.ref h0_log_words, .int v_log_size])), (h0_log_words, .inl (cI, 400, .inl v_log_words)), (h0_setting, .inr (4, [.int v_setting_ones, .int v_setting_zeros])), (h0_choices, .inl (cI, 16, .inl v_choices)), (h0_onesBefore, .inl (cI, 16, .inl v_onesBefore)), (h0_zerosBefore, .inl (cI, 16, .inl v_zerosBefore))]) s.heap H locs → ∀ ls : Array Slot, lv_has ls 3 [(2, .int l2), (0, .ref h0), (1, .int x1)] → W p l e { frames := 5, cells := 0, slots := 0, locals := 117 } s m [.ref h0, .int x1].toArray below meth c H locs 0 0 (MQ below (wQ D (some (.int ((fX3_advance x1 v_depth v_bestCost v_bestOnes v_stepsMade v_state v_problem_constraints v_problem_costs v_problem_coefficients v_problem_literals v_problem_bits v_problem_firsts v_problem_bounds v_log_size v_log_words v_setting_ones v_setting_zeros v_choices v_onesBefore v_zerosBefore).1))) [(h0, .inr (3, [.ref h0_problem, .ref h0_log, .ref h0_setting, .ref h0_choices, .ref h0_onesBefore, .ref h0_zerosBefore, .int v_depth, .int v_bestCost, .int v_bestOnes, .int v_stepsMade, .int v_state])), (h0_problem, .inr (2, [.ref h0_problem_costs, .ref h0_problem_coefficients, .ref h0_problem_literals, .ref h0_problem_bits, .ref h0_problem_firsts, .ref h0_problem_bounds, .int v_problem_terms, .int v_problem_constraints, .int v_problem_taken])), (h0_problem_costs, .inl (cI, 17, .inl v_problem_costs)), (h0_problem_coefficients, .inl (cI, 120, .inl v_problem_coefficients)), (h0_problem_literals, .inl (cI, 120, .inl v_problem_literals)), (h0_problem_bits, .inl (cI, 120, .inl v_problem_bits)), (h0_problem_firsts, .inl (cI, 21, .inl v_problem_firsts)), (h0_problem_bounds, .inl (cI, 20, .inl v_problem_bounds)), (h0_log, .inr (1, [.ref h0_log_words, .int v_log_size])), (h0_log_words, .inl (cI, 400, .inl v_log_words)), (h0_setting, .inr (4, [.int v_setting_ones, .int v_setting_zeros])), (h0_choices, .inl (cI, 16, .inl v_choices)), (h0_onesBefore, .inl (cI, 16, .inl v_onesBefore)), (h0_zerosBefore, .inl (cI, 16, .inl v_zerosBefore))] [(h0, .inr (3, [.ref h0_problem, .ref h0_log, .ref h0_setting, .ref h0_choices, .ref h0_onesBefore, .ref h0_zerosBefore, .int ((fX3_advance x1 v_depth v_bestCost v_bestOnes v_stepsMade v_state v_problem_constraints v_problem_costs v_problem_coefficients v_problem_literals v_problem_bits v_problem_firsts v_problem_bounds v_log_size v_log_words v_setting_ones v_setting_zeros v_choices v_onesBefore v_zerosBefore).2.1), .int ((fX3_advance x1 v_depth v_bestCost v_bestOnes v_stepsMade v_state v_problem_constraints v_problem_costs v_problem_coefficients v_problem_literals v_problem_bits v_problem_firsts v_problem_bounds v_log_size v_log_words v_setting_ones v_setting_zeros v_choices v_onesBefore v_zerosBefore).2.2.1), .int ((fX3_advance x1 v_depth v_bestCost v_bestOnes v_stepsMade v_state v_problem_constraints v_problem_costs v_problem_coefficients v_problem_literals v_problem_bits v_problem_firsts v_problem_bounds v_log_size v_log_words v_setting_ones v_setting_zeros v_choices v_onesBefore v_zerosBefore).2.2.2.1), .int ((fX3_advance x1 v_depth v_bestCost v_bestOnes v_stepsMade v_state v_problem_constraints v_problem_costs v_problem_coefficients v_problem_literals v_problem_bits v_problem_firsts v_problem_bounds v_log_size v_log_words v_setting_ones v_setting_zeros v_choices v_onesBefore v_zerosBefore).2.2.2.2.1), .int ((fX3_advance x1 v_depth v_bestCost v_bestOnes v_stepsMade v_state v_problem_constraints v_problem_costs v_problem_coefficients v_problem_literals v_problem_bits v_problem_firsts v_problem_bounds v_log_size v_log_words v_setting_ones v_setting_zeros v_choices v_onesBefore v_zerosBefore).2.2.2.2.2.1)])), (h0_problem, .inr (2, [.ref h0_problem_costs, .ref h0_problem_coefficients, .ref h0_problem_literals, .ref h0_problem_bits, .ref h0_problem_firsts, .ref h0_problem_bounds, .int v_problem_terms, .int v_problem_constraints, .int v_problem_taken])), (h0_problem_costs, .inl (cI, 17, .inl v_problem_costs)), (h0_problem_coefficients, .inl (cI, 120, .inl v_problem_coefficients)), (h0_problem_literals, .inl (cI, 120, .inl v_problem_literals)), (h0_problem_bits, .inl (cI, 120, .inl v_problem_bits)), (h0_problem_firsts, .inl (cI, 21, .inl v_problem_firsts)), (h0_problem_bounds, .inl (cI, 20, .inl v_problem_bounds)), (h0_log, .inr (1, [.ref h0_log_words, .int ((fX3_advance x1 v_depth v_bestCost v_bestOnes v_stepsMade v_state v_problem_constraints v_problem_costs v_problem_coefficients v_problem_literals v_problem_bits v_problem_firsts v_problem_bounds v_log_size v_log_words v_setting_ones v_setting_zeros v_choices v_onesBefore v_zerosBefore).2.2.2.2.2.2.1)])), (h0_log_words, .inl (cI, 400, .inl ((fX3_advance x1 v_depth v_bestCost v_bestOnes v_stepsMade v_state v_problem_constraints v_problem_costs v_problem_coefficients v_problem_literals v_problem_bits v_problem_firsts v_problem_bounds v_log_size v_log_words v_setting_ones v_setting_zeros v_choices v_onesBefore v_zerosBefore).2.2.2.2.2.2.2.1))), (h0_setting, .inr (4, [.int ((fX3_advance x1 v_depth v_bestCost v_bestOnes v_stepsMade v_state v_problem_constraints v_problem_costs v_problem_coefficients v_problem_literals v_problem_bits v_problem_firsts v_problem_bounds v_log_size v_log_words v_setting_ones v_setting_zeros v_choices v_onesBefore v_zerosBefore).2.2.2.2.2.2.2.2.1), .int ((fX3_advance x1 v_depth v_bestCost v_bestOnes v_stepsMade v_state v_problem_constraints v_problem_costs v_problem_coefficients v_problem_literals v_problem_bits v_problem_firsts v_problem_bounds v_log_size v_log_words v_setting_ones v_setting_zeros v_choices v_onesBefore v_zerosBefore).2.2.2.2.2.2.2.2.2.1)])), (h0_choices, .inl (cI, 16, .inl ((fX3_advance x1 v_depth v_bestCost v_bestOnes v_stepsMade v_state v_problem_constraints v_problem_costs v_problem_coefficients v_problem_literals v_problem_bits v_problem_firsts v_problem_bounds v_log_size v_log_words v_setting_ones v_setting_zeros v_choices v_onesBefore v_zerosBefore).2.2.2.2.2.2.2.2.2.2.1))), (h0_onesBefore, .inl (cI, 16, .inl ((fX3_advance x1 v_depth v_bestCost v_bestOnes v_stepsMade v_state v_problem_constraints v_problem_costs v_problem_coefficients v_problem_literals v_problem_bits v_problem_firsts v_problem_bounds v_log_size v_log_words v_setting_ones v_setting_zeros v_choices v_onesBefore v_zerosBefore).2.2.2.2.2.2.2.2.2.2.2.1))), (h0_zerosBefore, .inl (cI, 16, .inl ((fX3_advance x1 v_depth v_bestCost v_bestOnes v_stepsMade v_state v_problem_constraints v_problem_costs v_problem_coefficients v_problem_literals v_problem_bits v_problem_firsts v_problem_bounds v_log_size v_log_words v_setting_ones v_setting_zeros v_choices v_onesBefore v_zerosBefore).2.2.2.2.2.2.2.2.2.2.2.2)))]) [.ref h0, .int x1].toArray s 0 0 (aw [(h0, .inr (3, [.ref h0_problem, .ref h0_log, .ref h0_setting, .ref h0_choices, .ref h0_onesBefore, .ref h0_zerosBefore, .int v_depth, .int v_bestCost, .int v_bestOnes, .int v_stepsMade, .int v_state])), (h0_problem, .inr (2, [.ref h0_problem_costs, .ref h0_problem_coefficients, .ref h0_problem_literals, .ref h0_problem_bits, .ref h0_problem_firsts, .ref h0_problem_bounds, .int v_problem_terms, .int v_problem_constraints, .int v_problem_taken])), (h0_problem_costs, .inl (cI, 17, .inl v_problem_costs)), (h0_problem_coefficients, .inl (cI, 120, .inl v_problem_coefficients)), (h0_problem_literals, .inl (cI, 120, .inl v_problem_literals)), (h0_problem_bits, .inl (cI, 120, .inl v_problem_bits)), (h0_problem_firsts, .inl (cI, 21, .inl v_problem_firsts)), (h0_problem_bounds, .inl (cI, 20, .inl v_problem_bounds)), (h0_log, .inr (1, [.ref h0_log_words, .int v_log_size])), (h0_log_words, .inl (cI, 400, .inl v_log_words)), (h0_setting, .inr (4, [.int v_setting_ones, .int v_setting_zeros])), (h0_choices, .inl (cI, 16, .inl v_choices)), (h0_onesBefore, .inl (cI, 16, .inl v_onesBefore)), (h0_zerosBefore, .inl (cI, 16, .inl v_zerosBefore))])) (F0 m 2 ls []) := by
    intro n
    induction n with
    | zero =>
      intro k l2 v_depth' v_bestCost' v_bestOnes' v_stepsMade' v_state' v_log_size' v_log_words' v_setting_ones' v_setting_zeros' v_choices' v_onesBefore' v_zerosBefore' hk hL2 hD2 hF
      exact (by obtain ⟨_, h2, h3⟩ := hk; exact absurd h3 (by omega))
    | succ n ih =>
      intro k l2 v_depth' v_bestCost' v_bestOnes' v_stepsMade' v_state' v_log_size' v_log_words' v_setting_ones' v_setting_zeros' v_choices' v_onesBefore' v_zerosBefore' hk hL2 hD2 hF H locs hP hD hS ls hl
      have hF := hF.trans (fX3_advance_L2.eq_2 ..)
      obtain ⟨ek, hk1, hk2⟩ := hk
      refine lv_iload_n hx hb dX3_advance_2 rfl (lv_at hl 0 rfl) ?_
      refine lv_iload_n hx hb dX3_advance_3 rfl (lv_at hl 2 rfl) ?_
      refine lv_icmp_ge (tgt := 25) hx hb dX3_advance_4 (by decide) (fun c_1 => ?_) (fun c_1 => ?_)
      · have hF := hF.trans (if_pos c_1)
        refine lv_aload_n hx hb dX3_advance_25 rfl (lv_at hl 1 rfl) ?_
        refine va_get (D := D) hx hb hts inX3 hown hK hP 0 rfl rfl 10 (by decide) (hts _ kw156) (fun _ h9 => h9) rfl dX3_advance_26 ?_
        exact wreti hx hb hr hlocks (by rw [hF]) (by rw [hF]; exact hP) hS dX3_advance_29
      · have hF := hF.trans (if_neg c_1)
        refine lv_aload_n hx hb dX3_advance_7 rfl (lv_at hl 1 rfl) ?_
        refine va_get (D := D) hx hb hts inX3 hown hK hP 0 rfl rfl 10 (by decide) (hts _ kw156) (fun _ h9 => h9) rfl dX3_advance_8 ?_
        refine lv_iconst (v := 2) hx hb dX3_advance_11 (by decide) ?_
        refine lv_icmp_ne (tgt := 25) hx hb dX3_advance_12 (by decide) (fun c_2 => ?_) (fun c_2 => ?_)
        · have hF := hF.trans (if_neg c_2)
          refine lv_aload_n hx hb dX3_advance_25 rfl (lv_at hl 1 rfl) ?_
          refine va_get (D := D) hx hb hts inX3 hown hK hP 0 rfl rfl 10 (by decide) (hts _ kw156) (fun _ h9 => h9) rfl dX3_advance_26 ?_
          exact wreti hx hb hr hlocks (by rw [hF]) (by rw [hF]; exact hP) hS dX3_advance_29
        · have hF := hF.trans (if_pos c_2)
          refine lv_aload_n hx hb dX3_advance_15 rfl (lv_at hl 1 rfl) ?_
          have hPc : va_P D vwCl [(h0, .inr (3, [.ref h0_problem, .ref h0_log, .ref h0_setting, .ref h0_choices, .ref h0_onesBefore, .ref h0_zerosBefore, .int v_depth', .int v_bestCost', .int v_bestOnes', .int v_stepsMade', .int v_state'])), (h0_problem, .inr (2, [.ref h0_problem_costs, .ref h0_problem_coefficients, .ref h0_problem_literals, .ref h0_problem_bits, .ref h0_problem_firsts, .ref h0_problem_bounds, .int v_problem_terms, .int v_problem_constraints, .int v_problem_taken])), (h0_problem_costs, .inl (cI, 17, .inl v_problem_costs)), (h0_problem_coefficients, .inl (cI, 120, .inl v_problem_coefficients)), (h0_problem_literals, .inl (cI, 120, .inl v_problem_literals)), (h0_problem_bits, .inl (cI, 120, .inl v_problem_bits)), (h0_problem_firsts, .inl (cI, 21, .inl v_problem_firsts)), (h0_problem_bounds, .inl (cI, 20, .inl v_problem_bounds)), (h0_log, .inr (1, [.ref h0_log_words, .int v_log_size'])), (h0_log_words, .inl (cI, 400, .inl v_log_words')), (h0_setting, .inr (4, [.int v_setting_ones', .int v_setting_zeros'])), (h0_choices, .inl (cI, 16, .inl v_choices')), (h0_onesBefore, .inl (cI, 16, .inl v_onesBefore')), (h0_zerosBefore, .inl (cI, 16, .inl v_zerosBefore'))] _ := hP.sub [0, 1, 2, 3, 4, 5, 6, 7, 8, 9, 10, 11, 12, 13] rfl
          refine wback (ws' := [(h0, .inr (3, [.ref h0_problem, .ref h0_log, .ref h0_setting, .ref h0_choices, .ref h0_onesBefore, .ref h0_zerosBefore, .int ((fX3_step v_depth' v_bestCost' v_bestOnes' v_stepsMade' v_state' v_problem_constraints v_problem_costs v_problem_coefficients v_problem_literals v_problem_bits v_problem_firsts v_problem_bounds v_log_size' v_log_words' v_setting_ones' v_setting_zeros' v_choices' v_onesBefore' v_zerosBefore').1), .int ((fX3_step v_depth' v_bestCost' v_bestOnes' v_stepsMade' v_state' v_problem_constraints v_problem_costs v_problem_coefficients v_problem_literals v_problem_bits v_problem_firsts v_problem_bounds v_log_size' v_log_words' v_setting_ones' v_setting_zeros' v_choices' v_onesBefore' v_zerosBefore').2.1), .int ((fX3_step v_depth' v_bestCost' v_bestOnes' v_stepsMade' v_state' v_problem_constraints v_problem_costs v_problem_coefficients v_problem_literals v_problem_bits v_problem_firsts v_problem_bounds v_log_size' v_log_words' v_setting_ones' v_setting_zeros' v_choices' v_onesBefore' v_zerosBefore').2.2.1), .int ((fX3_step v_depth' v_bestCost' v_bestOnes' v_stepsMade' v_state' v_problem_constraints v_problem_costs v_problem_coefficients v_problem_literals v_problem_bits v_problem_firsts v_problem_bounds v_log_size' v_log_words' v_setting_ones' v_setting_zeros' v_choices' v_onesBefore' v_zerosBefore').2.2.2.1), .int ((fX3_step v_depth' v_bestCost' v_bestOnes' v_stepsMade' v_state' v_problem_constraints v_problem_costs v_problem_coefficients v_problem_literals v_problem_bits v_problem_firsts v_problem_bounds v_log_size' v_log_words' v_setting_ones' v_setting_zeros' v_choices' v_onesBefore' v_zerosBefore').2.2.2.2.1)])), (h0_problem, .inr (2, [.ref h0_problem_costs, .ref h0_problem_coefficients, .ref h0_problem_literals, .ref h0_problem_bits, .ref h0_problem_firsts, .ref h0_problem_bounds, .int v_problem_terms, .int v_problem_constraints, .int v_problem_taken])), (h0_problem_costs, .inl (cI, 17, .inl v_problem_costs)), (h0_problem_coefficients, .inl (cI, 120, .inl v_problem_coefficients)), (h0_problem_literals, .inl (cI, 120, .inl v_problem_literals)), (h0_problem_bits, .inl (cI, 120, .inl v_problem_bits)), (h0_problem_firsts, .inl (cI, 21, .inl v_problem_firsts)), (h0_problem_bounds, .inl (cI, 20, .inl v_problem_bounds)), (h0_log, .inr (1, [.ref h0_log_words, .int ((fX3_step v_depth' v_bestCost' v_bestOnes' v_stepsMade' v_state' v_problem_constraints v_problem_costs v_problem_coefficients v_problem_literals v_problem_bits v_problem_firsts v_problem_bounds v_log_size' v_log_words' v_setting_ones' v_setting_zeros' v_choices' v_onesBefore' v_zerosBefore').2.2.2.2.2.1)])), (h0_log_words, .inl (cI, 400, .inl ((fX3_step v_depth' v_bestCost' v_bestOnes' v_stepsMade' v_state' v_problem_constraints v_problem_costs v_problem_coefficients v_problem_literals v_problem_bits v_problem_firsts v_problem_bounds v_log_size' v_log_words' v_setting_ones' v_setting_zeros' v_choices' v_onesBefore' v_zerosBefore').2.2.2.2.2.2.1))), (h0_setting, .inr (4, [.int ((fX3_step v_depth' v_bestCost' v_bestOnes' v_stepsMade' v_state' v_problem_constraints v_problem_costs v_problem_coefficients v_problem_literals v_problem_bits v_problem_firsts v_problem_bounds v_log_size' v_log_words' v_setting_ones' v_setting_zeros' v_choices' v_onesBefore' v_zerosBefore').2.2.2.2.2.2.2.1), .int ((fX3_step v_depth' v_bestCost' v_bestOnes' v_stepsMade' v_state' v_problem_constraints v_problem_costs v_problem_coefficients v_problem_literals v_problem_bits v_problem_firsts v_problem_bounds v_log_size' v_log_words' v_setting_ones' v_setting_zeros' v_choices' v_onesBefore' v_zerosBefore').2.2.2.2.2.2.2.2.1)])), (h0_choices, .inl (cI, 16, .inl ((fX3_step v_depth' v_bestCost' v_bestOnes' v_stepsMade' v_state' v_problem_constraints v_problem_costs v_problem_coefficients v_problem_literals v_problem_bits v_problem_firsts v_problem_bounds v_log_size' v_log_words' v_setting_ones' v_setting_zeros' v_choices' v_onesBefore' v_zerosBefore').2.2.2.2.2.2.2.2.2.1))), (h0_onesBefore, .inl (cI, 16, .inl ((fX3_step v_depth' v_bestCost' v_bestOnes' v_stepsMade' v_state' v_problem_constraints v_problem_costs v_problem_coefficients v_problem_literals v_problem_bits v_problem_firsts v_problem_bounds v_log_size' v_log_words' v_setting_ones' v_setting_zeros' v_choices' v_onesBefore' v_zerosBefore').2.2.2.2.2.2.2.2.2.2.1))), (h0_zerosBefore, .inl (cI, 16, .inl ((fX3_step v_depth' v_bestCost' v_bestOnes' v_stepsMade' v_state' v_problem_constraints v_problem_costs v_problem_coefficients v_problem_literals v_problem_bits v_problem_firsts v_problem_bounds v_log_size' v_log_words' v_setting_ones' v_setting_zeros' v_choices' v_onesBefore' v_zerosBefore').2.2.2.2.2.2.2.2.2.2.2)))]) [0, 1, 2, 3, 4, 5, 6, 7, 8, 9, 10, 11, 12, 13] (va_runV (As := []) (rest := []) ⟨hx, hb, hml, hown, hts⟩ (ctX3_step l D cI cZ h0 h0_problem h0_log h0_setting h0_choices h0_onesBefore h0_zerosBefore h0_problem_costs h0_problem_coefficients h0_problem_literals h0_problem_bits h0_problem_firsts h0_problem_bounds h0_log_words v_depth' v_bestCost' v_bestOnes' v_stepsMade' v_state' v_problem_terms v_problem_constraints v_problem_taken v_log_size' v_setting_ones' v_setting_zeros' v_problem_costs v_problem_coefficients v_problem_literals v_problem_bits v_problem_firsts v_problem_bounds v_log_words' v_choices' v_onesBefore' v_zerosBefore' hO hL2 hD2) ⟨(cB hts kw290 kw287 kw55 pmX3_step ⟨Nat.le_of_ble_eq_true rfl, Nat.le_of_ble_eq_true rfl⟩), hts _ kw289, hts _ kw3⟩ ⟨wPc_blind, va_recv hK hP (ci := 3) (q0 := 0) rfl rfl, wpre hPc hK hN (hD.sub (ws' := [(h0, .inr (3, [.ref h0_problem, .ref h0_log, .ref h0_setting, .ref h0_choices, .ref h0_onesBefore, .ref h0_zerosBefore, .int v_depth', .int v_bestCost', .int v_bestOnes', .int v_stepsMade', .int v_state'])), (h0_problem, .inr (2, [.ref h0_problem_costs, .ref h0_problem_coefficients, .ref h0_problem_literals, .ref h0_problem_bits, .ref h0_problem_firsts, .ref h0_problem_bounds, .int v_problem_terms, .int v_problem_constraints, .int v_problem_taken])), (h0_problem_costs, .inl (cI, 17, .inl v_problem_costs)), (h0_problem_coefficients, .inl (cI, 120, .inl v_problem_coefficients)), (h0_problem_literals, .inl (cI, 120, .inl v_problem_literals)), (h0_problem_bits, .inl (cI, 120, .inl v_problem_bits)), (h0_problem_firsts, .inl (cI, 21, .inl v_problem_firsts)), (h0_problem_bounds, .inl (cI, 20, .inl v_problem_bounds)), (h0_log, .inr (1, [.ref h0_log_words, .int v_log_size'])), (h0_log_words, .inl (cI, 400, .inl v_log_words')), (h0_setting, .inr (4, [.int v_setting_ones', .int v_setting_zeros'])), (h0_choices, .inl (cI, 16, .inl v_choices')), (h0_onesBefore, .inl (cI, 16, .inl v_onesBefore')), (h0_zerosBefore, .inl (cI, 16, .inl v_zerosBefore'))]) [0, 1, 2, 3, 4, 5, 6, 7, 8, 9, 10, 11, 12, 13] (by decide) rfl)⟩ rfl rfl hl.1 rfl (lv_room (Nat.le_of_ble_eq_true rfl)) dX3_advance_16 ⟨Nat.zero_le _, Nat.zero_le _⟩) hP hD hS rfl rfl rfl rfl (fun H locs hP hD hS => ?_)
          refine lv_iinc (v := l2 + 1) (lv' := [(2, .int (l2 + 1)), (0, .ref h0), (1, .int x1)]) hx hb dX3_advance_19 hl (k := 0) rfl rfl (by decide) rfl (fun ls hl => ?_)
          refine lv_goto (tgt := 2) hx hb dX3_advance_22 (by decide) ?_
          exact ih (k + 1) (l2 + 1) ((fX3_step v_depth' v_bestCost' v_bestOnes' v_stepsMade' v_state' v_problem_constraints v_problem_costs v_problem_coefficients v_problem_literals v_problem_bits v_problem_firsts v_problem_bounds v_log_size' v_log_words' v_setting_ones' v_setting_zeros' v_choices' v_onesBefore' v_zerosBefore').1) ((fX3_step v_depth' v_bestCost' v_bestOnes' v_stepsMade' v_state' v_problem_constraints v_problem_costs v_problem_coefficients v_problem_literals v_problem_bits v_problem_firsts v_problem_bounds v_log_size' v_log_words' v_setting_ones' v_setting_zeros' v_choices' v_onesBefore' v_zerosBefore').2.1) ((fX3_step v_depth' v_bestCost' v_bestOnes' v_stepsMade' v_state' v_problem_constraints v_problem_costs v_problem_coefficients v_problem_literals v_problem_bits v_problem_firsts v_problem_bounds v_log_size' v_log_words' v_setting_ones' v_setting_zeros' v_choices' v_onesBefore' v_zerosBefore').2.2.1) ((fX3_step v_depth' v_bestCost' v_bestOnes' v_stepsMade' v_state' v_problem_constraints v_problem_costs v_problem_coefficients v_problem_literals v_problem_bits v_problem_firsts v_problem_bounds v_log_size' v_log_words' v_setting_ones' v_setting_zeros' v_choices' v_onesBefore' v_zerosBefore').2.2.2.1) ((fX3_step v_depth' v_bestCost' v_bestOnes' v_stepsMade' v_state' v_problem_constraints v_problem_costs v_problem_coefficients v_problem_literals v_problem_bits v_problem_firsts v_problem_bounds v_log_size' v_log_words' v_setting_ones' v_setting_zeros' v_choices' v_onesBefore' v_zerosBefore').2.2.2.2.1) ((fX3_step v_depth' v_bestCost' v_bestOnes' v_stepsMade' v_state' v_problem_constraints v_problem_costs v_problem_coefficients v_problem_literals v_problem_bits v_problem_firsts v_problem_bounds v_log_size' v_log_words' v_setting_ones' v_setting_zeros' v_choices' v_onesBefore' v_zerosBefore').2.2.2.2.2.1) ((fX3_step v_depth' v_bestCost' v_bestOnes' v_stepsMade' v_state' v_problem_constraints v_problem_costs v_problem_coefficients v_problem_literals v_problem_bits v_problem_firsts v_problem_bounds v_log_size' v_log_words' v_setting_ones' v_setting_zeros' v_choices' v_onesBefore' v_zerosBefore').2.2.2.2.2.2.1) ((fX3_step v_depth' v_bestCost' v_bestOnes' v_stepsMade' v_state' v_problem_constraints v_problem_costs v_problem_coefficients v_problem_literals v_problem_bits v_problem_firsts v_problem_bounds v_log_size' v_log_words' v_setting_ones' v_setting_zeros' v_choices' v_onesBefore' v_zerosBefore').2.2.2.2.2.2.2.1) ((fX3_step v_depth' v_bestCost' v_bestOnes' v_stepsMade' v_state' v_problem_constraints v_problem_costs v_problem_coefficients v_problem_literals v_problem_bits v_problem_firsts v_problem_bounds v_log_size' v_log_words' v_setting_ones' v_setting_zeros' v_choices' v_onesBefore' v_zerosBefore').2.2.2.2.2.2.2.2.1) ((fX3_step v_depth' v_bestCost' v_bestOnes' v_stepsMade' v_state' v_problem_constraints v_problem_costs v_problem_coefficients v_problem_literals v_problem_bits v_problem_firsts v_problem_bounds v_log_size' v_log_words' v_setting_ones' v_setting_zeros' v_choices' v_onesBefore' v_zerosBefore').2.2.2.2.2.2.2.2.2.1) ((fX3_step v_depth' v_bestCost' v_bestOnes' v_stepsMade' v_state' v_problem_constraints v_problem_costs v_problem_coefficients v_problem_literals v_problem_bits v_problem_firsts v_problem_bounds v_log_size' v_log_words' v_setting_ones' v_setting_zeros' v_choices' v_onesBefore' v_zerosBefore').2.2.2.2.2.2.2.2.2.2.1) ((fX3_step v_depth' v_bestCost' v_bestOnes' v_stepsMade' v_state' v_problem_constraints v_problem_costs v_problem_coefficients v_problem_literals v_problem_bits v_problem_firsts v_problem_bounds v_log_size' v_log_words' v_setting_ones' v_setting_zeros' v_choices' v_onesBefore' v_zerosBefore').2.2.2.2.2.2.2.2.2.2.2) ⟨k_s ek, by have := k_le2 ek efu (by omega) c_1; omega, by omega⟩ (okL_step hL2) (okD_step hD2) hF H locs hP hD hS ls (lv_sub hl [0, 1, 2] rfl)
  exact loop 2001 0 0 v_depth v_bestCost v_bestOnes v_stepsMade v_state v_log_size v_log_words v_setting_ones v_setting_zeros v_choices v_onesBefore v_zerosBefore ⟨rfl, by omega, by omega⟩ hL hDp hF _ _ hP hD hS ls (lv_sub hl [0, 1, 2] rfl)
end
