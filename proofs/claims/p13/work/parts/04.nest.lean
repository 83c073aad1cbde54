def nwl : List Cond := [
  Cond.methodLinkNest RX5 11 yX2_init RX5,
  Cond.fieldLinkNest RX5 51 "LeastCost$Problem" "costs" "[I" RX5,
  Cond.methodLinkNest RX5 18 yX1_init RX5,
  Cond.fieldLinkNest RX0 54 "LeastCost$Log" "size" "I" RX5,
  Cond.fieldLinkNest RX5 84 "LeastCost$Log" "size" "I" RX5,
  Cond.methodLinkNest RX5 25 yX3_init RX5,
  Cond.methodLinkNest RX3 11 yX4_init RX5,
  Cond.fieldLinkNest RX2 52 "LeastCost$Setting" "ones" "I" RX5,
  Cond.fieldLinkNest RX3 97 "LeastCost$Setting" "ones" "I" RX5,
  Cond.fieldLinkNest RX0 122 "LeastCost$Setting" "ones" "I" RX5,
  Cond.fieldLinkNest RX2 47 "LeastCost$Setting" "zeros" "I" RX5,
  Cond.fieldLinkNest RX3 103 "LeastCost$Setting" "zeros" "I" RX5,
  Cond.fieldLinkNest RX0 125 "LeastCost$Setting" "zeros" "I" RX5,
  Cond.fieldLinkNest RX5 74 "LeastCost$Search" "bestCost" "I" RX5,
  Cond.fieldLinkNest RX5 78 "LeastCost$Search" "bestOnes" "I" RX5,
  Cond.fieldLinkNest RX5 102 "LeastCost$Search" "stepsMade" "I" RX5,
  Cond.methodLinkNest RX5 34 yX0_init RX5,
  Cond.methodLinkNest RX0 11 yX4_init RX5,
  Cond.methodLinkNest RX5 59 yX2_addTerm RX5,
  Cond.methodLinkNest RX2 30 yX5_variableOf RX5,
  Cond.methodLinkNest RX2 34 yX5_bitOf RX5,
  Cond.methodLinkNest RX5 64 yX2_makeConstraint RX5,
  Cond.methodLinkNest RX5 67 yX3_advance RX5,
  Cond.methodLinkNest RX3 49 yX5_limitBelow RX5,
  Cond.methodLinkNest RX3 53 yX2_isBroken RX5,
  Cond.methodLinkNest RX3 106 yX1_append RX5,
  Cond.methodLinkNest RX3 90 yX4_become RX5,
  Cond.methodLinkNest RX3 66 yX4_makeTrue RX5,
  Cond.methodLinkNest RX4 18 yX5_variableOf RX5,
  Cond.methodLinkNest RX4 22 yX5_bitOf RX5,
  Cond.methodLinkNest RX3 62 yX2_forcedLiteral RX5,
  Cond.methodLinkNest RX3 70 yX4_leastNotSet RX5,
  Cond.methodLinkNest RX3 100 yX2_costOf RX5,
  Cond.methodLinkNest RX5 70 yX3_isDone RX5,
  Cond.methodLinkNest RX5 87 yX1_wordAt RX5,
  Cond.methodLinkNest RX5 90 yX1_replace RX5,
  Cond.methodLinkNest RX5 93 yX0_beginAnew RX5,
  Cond.methodLinkNest RX5 96 yX1_shorten RX5,
  Cond.methodLinkNest RX1 26 yX5_isWithin RX5,
  Cond.methodLinkNest RX5 99 yX0_readOn RX5,
  Cond.methodLinkNest RX0 87 yX1_wordAt RX5,
  Cond.methodLinkNest RX0 91 yX4_become RX5,
  Cond.methodLinkNest RX0 96 yX2_isBroken RX5,
  Cond.methodLinkNest RX0 102 yX2_costOf RX5,
  Cond.methodLinkNest RX0 70 yX5_limitBelow RX5,
  Cond.methodLinkNest RX0 128 yX2_forcedLiteral RX5,
  Cond.methodLinkNest RX0 132 yX4_makeTrue RX5,
  Cond.methodLinkNest RX0 108 yX5_isVariable RX5,
  Cond.methodLinkNest RX0 119 yX5_bitOf RX5]
theorem kn0 : Cond.methodLinkNest RX5 11 yX2_init RX5 ∈ nwl := List.mem_of_getElem? (i := 0) rfl
theorem kn1 : Cond.fieldLinkNest RX5 51 "LeastCost$Problem" "costs" "[I" RX5 ∈ nwl := List.mem_of_getElem? (i := 1) rfl
theorem kn2 : Cond.methodLinkNest RX5 18 yX1_init RX5 ∈ nwl := List.mem_of_getElem? (i := 2) rfl
theorem kn3 : Cond.fieldLinkNest RX0 54 "LeastCost$Log" "size" "I" RX5 ∈ nwl := List.mem_of_getElem? (i := 3) rfl
theorem kn4 : Cond.fieldLinkNest RX5 84 "LeastCost$Log" "size" "I" RX5 ∈ nwl := List.mem_of_getElem? (i := 4) rfl
theorem kn5 : Cond.methodLinkNest RX5 25 yX3_init RX5 ∈ nwl := List.mem_of_getElem? (i := 5) rfl
theorem kn6 : Cond.methodLinkNest RX3 11 yX4_init RX5 ∈ nwl := List.mem_of_getElem? (i := 6) rfl
theorem kn7 : Cond.fieldLinkNest RX2 52 "LeastCost$Setting" "ones" "I" RX5 ∈ nwl := List.mem_of_getElem? (i := 7) rfl
theorem kn8 : Cond.fieldLinkNest RX3 97 "LeastCost$Setting" "ones" "I" RX5 ∈ nwl := List.mem_of_getElem? (i := 8) rfl
theorem kn9 : Cond.fieldLinkNest RX0 122 "LeastCost$Setting" "ones" "I" RX5 ∈ nwl := List.mem_of_getElem? (i := 9) rfl
theorem kn10 : Cond.fieldLinkNest RX2 47 "LeastCost$Setting" "zeros" "I" RX5 ∈ nwl := List.mem_of_getElem? (i := 10) rfl
theorem kn11 : Cond.fieldLinkNest RX3 103 "LeastCost$Setting" "zeros" "I" RX5 ∈ nwl := List.mem_of_getElem? (i := 11) rfl
theorem kn12 : Cond.fieldLinkNest RX0 125 "LeastCost$Setting" "zeros" "I" RX5 ∈ nwl := List.mem_of_getElem? (i := 12) rfl
theorem kn13 : Cond.fieldLinkNest RX5 74 "LeastCost$Search" "bestCost" "I" RX5 ∈ nwl := List.mem_of_getElem? (i := 13) rfl
theorem kn14 : Cond.fieldLinkNest RX5 78 "LeastCost$Search" "bestOnes" "I" RX5 ∈ nwl := List.mem_of_getElem? (i := 14) rfl
theorem kn15 : Cond.fieldLinkNest RX5 102 "LeastCost$Search" "stepsMade" "I" RX5 ∈ nwl := List.mem_of_getElem? (i := 15) rfl
theorem kn16 : Cond.methodLinkNest RX5 34 yX0_init RX5 ∈ nwl := List.mem_of_getElem? (i := 16) rfl
theorem kn17 : Cond.methodLinkNest RX0 11 yX4_init RX5 ∈ nwl := List.mem_of_getElem? (i := 17) rfl
theorem kn18 : Cond.methodLinkNest RX5 59 yX2_addTerm RX5 ∈ nwl := List.mem_of_getElem? (i := 18) rfl
theorem kn19 : Cond.methodLinkNest RX2 30 yX5_variableOf RX5 ∈ nwl := List.mem_of_getElem? (i := 19) rfl
theorem kn20 : Cond.methodLinkNest RX2 34 yX5_bitOf RX5 ∈ nwl := List.mem_of_getElem? (i := 20) rfl
theorem kn21 : Cond.methodLinkNest RX5 64 yX2_makeConstraint RX5 ∈ nwl := List.mem_of_getElem? (i := 21) rfl
theorem kn22 : Cond.methodLinkNest RX5 67 yX3_advance RX5 ∈ nwl := List.mem_of_getElem? (i := 22) rfl
theorem kn23 : Cond.methodLinkNest RX3 49 yX5_limitBelow RX5 ∈ nwl := List.mem_of_getElem? (i := 23) rfl
theorem kn24 : Cond.methodLinkNest RX3 53 yX2_isBroken RX5 ∈ nwl := List.mem_of_getElem? (i := 24) rfl
theorem kn25 : Cond.methodLinkNest RX3 106 yX1_append RX5 ∈ nwl := List.mem_of_getElem? (i := 25) rfl
theorem kn26 : Cond.methodLinkNest RX3 90 yX4_become RX5 ∈ nwl := List.mem_of_getElem? (i := 26) rfl
theorem kn27 : Cond.methodLinkNest RX3 66 yX4_makeTrue RX5 ∈ nwl := List.mem_of_getElem? (i := 27) rfl
theorem kn28 : Cond.methodLinkNest RX4 18 yX5_variableOf RX5 ∈ nwl := List.mem_of_getElem? (i := 28) rfl
theorem kn29 : Cond.methodLinkNest RX4 22 yX5_bitOf RX5 ∈ nwl := List.mem_of_getElem? (i := 29) rfl
theorem kn30 : Cond.methodLinkNest RX3 62 yX2_forcedLiteral RX5 ∈ nwl := List.mem_of_getElem? (i := 30) rfl
theorem kn31 : Cond.methodLinkNest RX3 70 yX4_leastNotSet RX5 ∈ nwl := List.mem_of_getElem? (i := 31) rfl
theorem kn32 : Cond.methodLinkNest RX3 100 yX2_costOf RX5 ∈ nwl := List.mem_of_getElem? (i := 32) rfl
theorem kn33 : Cond.methodLinkNest RX5 70 yX3_isDone RX5 ∈ nwl := List.mem_of_getElem? (i := 33) rfl
theorem kn34 : Cond.methodLinkNest RX5 87 yX1_wordAt RX5 ∈ nwl := List.mem_of_getElem? (i := 34) rfl
theorem kn35 : Cond.methodLinkNest RX5 90 yX1_replace RX5 ∈ nwl := List.mem_of_getElem? (i := 35) rfl
theorem kn36 : Cond.methodLinkNest RX5 93 yX0_beginAnew RX5 ∈ nwl := List.mem_of_getElem? (i := 36) rfl
theorem kn37 : Cond.methodLinkNest RX5 96 yX1_shorten RX5 ∈ nwl := List.mem_of_getElem? (i := 37) rfl
theorem kn38 : Cond.methodLinkNest RX1 26 yX5_isWithin RX5 ∈ nwl := List.mem_of_getElem? (i := 38) rfl
theorem kn39 : Cond.methodLinkNest RX5 99 yX0_readOn RX5 ∈ nwl := List.mem_of_getElem? (i := 39) rfl
theorem kn40 : Cond.methodLinkNest RX0 87 yX1_wordAt RX5 ∈ nwl := List.mem_of_getElem? (i := 40) rfl
theorem kn41 : Cond.methodLinkNest RX0 91 yX4_become RX5 ∈ nwl := List.mem_of_getElem? (i := 41) rfl
theorem kn42 : Cond.methodLinkNest RX0 96 yX2_isBroken RX5 ∈ nwl := List.mem_of_getElem? (i := 42) rfl
theorem kn43 : Cond.methodLinkNest RX0 102 yX2_costOf RX5 ∈ nwl := List.mem_of_getElem? (i := 43) rfl
theorem kn44 : Cond.methodLinkNest RX0 70 yX5_limitBelow RX5 ∈ nwl := List.mem_of_getElem? (i := 44) rfl
theorem kn45 : Cond.methodLinkNest RX0 128 yX2_forcedLiteral RX5 ∈ nwl := List.mem_of_getElem? (i := 45) rfl
theorem kn46 : Cond.methodLinkNest RX0 132 yX4_makeTrue RX5 ∈ nwl := List.mem_of_getElem? (i := 46) rfl
theorem kn47 : Cond.methodLinkNest RX0 108 yX5_isVariable RX5 ∈ nwl := List.mem_of_getElem? (i := 47) rfl
theorem kn48 : Cond.methodLinkNest RX0 119 yX5_bitOf RX5 ∈ nwl := List.mem_of_getElem? (i := 48) rfl
set_option maxRecDepth 20000 in
theorem kt0 : Cond.methodLinkNest RX5 11 yX2_init RX5 ∈ lw_tbl := List.mem_of_getElem? (i := 69) (by decide +kernel)
set_option maxRecDepth 20000 in
theorem kt1 : Cond.fieldLinkNest RX5 51 "LeastCost$Problem" "costs" "[I" RX5 ∈ lw_tbl := List.mem_of_getElem? (i := 74) (by decide +kernel)
set_option maxRecDepth 20000 in
theorem kt2 : Cond.methodLinkNest RX5 18 yX1_init RX5 ∈ lw_tbl := List.mem_of_getElem? (i := 105) (by decide +kernel)
set_option maxRecDepth 20000 in
theorem kt3 : Cond.fieldLinkNest RX0 54 "LeastCost$Log" "size" "I" RX5 ∈ lw_tbl := List.mem_of_getElem? (i := 111) (by decide +kernel)
set_option maxRecDepth 20000 in
theorem kt4 : Cond.fieldLinkNest RX5 84 "LeastCost$Log" "size" "I" RX5 ∈ lw_tbl := List.mem_of_getElem? (i := 112) (by decide +kernel)
set_option maxRecDepth 20000 in
theorem kt5 : Cond.methodLinkNest RX5 25 yX3_init RX5 ∈ lw_tbl := List.mem_of_getElem? (i := 120) (by decide +kernel)
set_option maxRecDepth 20000 in
theorem kt6 : Cond.methodLinkNest RX3 11 yX4_init RX5 ∈ lw_tbl := List.mem_of_getElem? (i := 126) (by decide +kernel)
set_option maxRecDepth 20000 in
theorem kt7 : Cond.fieldLinkNest RX2 52 "LeastCost$Setting" "ones" "I" RX5 ∈ lw_tbl := List.mem_of_getElem? (i := 131) (by decide +kernel)
set_option maxRecDepth 20000 in
theorem kt8 : Cond.fieldLinkNest RX3 97 "LeastCost$Setting" "ones" "I" RX5 ∈ lw_tbl := List.mem_of_getElem? (i := 132) (by decide +kernel)
set_option maxRecDepth 20000 in
theorem kt9 : Cond.fieldLinkNest RX0 122 "LeastCost$Setting" "ones" "I" RX5 ∈ lw_tbl := List.mem_of_getElem? (i := 133) (by decide +kernel)
set_option maxRecDepth 20000 in
theorem kt10 : Cond.fieldLinkNest RX2 47 "LeastCost$Setting" "zeros" "I" RX5 ∈ lw_tbl := List.mem_of_getElem? (i := 135) (by decide +kernel)
set_option maxRecDepth 20000 in
theorem kt11 : Cond.fieldLinkNest RX3 103 "LeastCost$Setting" "zeros" "I" RX5 ∈ lw_tbl := List.mem_of_getElem? (i := 136) (by decide +kernel)
set_option maxRecDepth 20000 in
theorem kt12 : Cond.fieldLinkNest RX0 125 "LeastCost$Setting" "zeros" "I" RX5 ∈ lw_tbl := List.mem_of_getElem? (i := 137) (by decide +kernel)
set_option maxRecDepth 20000 in
theorem kt13 : Cond.fieldLinkNest RX5 74 "LeastCost$Search" "bestCost" "I" RX5 ∈ lw_tbl := List.mem_of_getElem? (i := 151) (by decide +kernel)
set_option maxRecDepth 20000 in
theorem kt14 : Cond.fieldLinkNest RX5 78 "LeastCost$Search" "bestOnes" "I" RX5 ∈ lw_tbl := List.mem_of_getElem? (i := 153) (by decide +kernel)
set_option maxRecDepth 20000 in
theorem kt15 : Cond.fieldLinkNest RX5 102 "LeastCost$Search" "stepsMade" "I" RX5 ∈ lw_tbl := List.mem_of_getElem? (i := 155) (by decide +kernel)
set_option maxRecDepth 20000 in
theorem kt16 : Cond.methodLinkNest RX5 34 yX0_init RX5 ∈ lw_tbl := List.mem_of_getElem? (i := 182) (by decide +kernel)
set_option maxRecDepth 20000 in
theorem kt17 : Cond.methodLinkNest RX0 11 yX4_init RX5 ∈ lw_tbl := List.mem_of_getElem? (i := 187) (by decide +kernel)
set_option maxRecDepth 20000 in
theorem kt18 : Cond.methodLinkNest RX5 59 yX2_addTerm RX5 ∈ lw_tbl := List.mem_of_getElem? (i := 262) (by decide +kernel)
set_option maxRecDepth 20000 in
theorem kt19 : Cond.methodLinkNest RX2 30 yX5_variableOf RX5 ∈ lw_tbl := List.mem_of_getElem? (i := 266) (by decide +kernel)
set_option maxRecDepth 20000 in
theorem kt20 : Cond.methodLinkNest RX2 34 yX5_bitOf RX5 ∈ lw_tbl := List.mem_of_getElem? (i := 267) (by decide +kernel)
set_option maxRecDepth 20000 in
theorem kt21 : Cond.methodLinkNest RX5 64 yX2_makeConstraint RX5 ∈ lw_tbl := List.mem_of_getElem? (i := 275) (by decide +kernel)
set_option maxRecDepth 20000 in
theorem kt22 : Cond.methodLinkNest RX5 67 yX3_advance RX5 ∈ lw_tbl := List.mem_of_getElem? (i := 283) (by decide +kernel)
set_option maxRecDepth 20000 in
theorem kt23 : Cond.methodLinkNest RX3 49 yX5_limitBelow RX5 ∈ lw_tbl := List.mem_of_getElem? (i := 291) (by decide +kernel)
set_option maxRecDepth 20000 in
theorem kt24 : Cond.methodLinkNest RX3 53 yX2_isBroken RX5 ∈ lw_tbl := List.mem_of_getElem? (i := 295) (by decide +kernel)
set_option maxRecDepth 20000 in
theorem kt25 : Cond.methodLinkNest RX3 106 yX1_append RX5 ∈ lw_tbl := List.mem_of_getElem? (i := 319) (by decide +kernel)
set_option maxRecDepth 20000 in
theorem kt26 : Cond.methodLinkNest RX3 90 yX4_become RX5 ∈ lw_tbl := List.mem_of_getElem? (i := 327) (by decide +kernel)
set_option maxRecDepth 20000 in
theorem kt27 : Cond.methodLinkNest RX3 66 yX4_makeTrue RX5 ∈ lw_tbl := List.mem_of_getElem? (i := 331) (by decide +kernel)
set_option maxRecDepth 20000 in
theorem kt28 : Cond.methodLinkNest RX4 18 yX5_variableOf RX5 ∈ lw_tbl := List.mem_of_getElem? (i := 335) (by decide +kernel)
set_option maxRecDepth 20000 in
theorem kt29 : Cond.methodLinkNest RX4 22 yX5_bitOf RX5 ∈ lw_tbl := List.mem_of_getElem? (i := 336) (by decide +kernel)
set_option maxRecDepth 20000 in
theorem kt30 : Cond.methodLinkNest RX3 62 yX2_forcedLiteral RX5 ∈ lw_tbl := List.mem_of_getElem? (i := 337) (by decide +kernel)
set_option maxRecDepth 20000 in
theorem kt31 : Cond.methodLinkNest RX3 70 yX4_leastNotSet RX5 ∈ lw_tbl := List.mem_of_getElem? (i := 349) (by decide +kernel)
set_option maxRecDepth 20000 in
theorem kt32 : Cond.methodLinkNest RX3 100 yX2_costOf RX5 ∈ lw_tbl := List.mem_of_getElem? (i := 361) (by decide +kernel)
set_option maxRecDepth 20000 in
theorem kt33 : Cond.methodLinkNest RX5 70 yX3_isDone RX5 ∈ lw_tbl := List.mem_of_getElem? (i := 366) (by decide +kernel)
set_option maxRecDepth 20000 in
theorem kt34 : Cond.methodLinkNest RX5 87 yX1_wordAt RX5 ∈ lw_tbl := List.mem_of_getElem? (i := 383) (by decide +kernel)
set_option maxRecDepth 20000 in
theorem kt35 : Cond.methodLinkNest RX5 90 yX1_replace RX5 ∈ lw_tbl := List.mem_of_getElem? (i := 395) (by decide +kernel)
set_option maxRecDepth 20000 in
theorem kt36 : Cond.methodLinkNest RX5 93 yX0_beginAnew RX5 ∈ lw_tbl := List.mem_of_getElem? (i := 400) (by decide +kernel)
set_option maxRecDepth 20000 in
theorem kt37 : Cond.methodLinkNest RX5 96 yX1_shorten RX5 ∈ lw_tbl := List.mem_of_getElem? (i := 408) (by decide +kernel)
set_option maxRecDepth 20000 in
theorem kt38 : Cond.methodLinkNest RX1 26 yX5_isWithin RX5 ∈ lw_tbl := List.mem_of_getElem? (i := 412) (by decide +kernel)
set_option maxRecDepth 20000 in
theorem kt39 : Cond.methodLinkNest RX5 99 yX0_readOn RX5 ∈ lw_tbl := List.mem_of_getElem? (i := 417) (by decide +kernel)
set_option maxRecDepth 20000 in
theorem kt40 : Cond.methodLinkNest RX0 87 yX1_wordAt RX5 ∈ lw_tbl := List.mem_of_getElem? (i := 433) (by decide +kernel)
set_option maxRecDepth 20000 in
theorem kt41 : Cond.methodLinkNest RX0 91 yX4_become RX5 ∈ lw_tbl := List.mem_of_getElem? (i := 435) (by decide +kernel)
set_option maxRecDepth 20000 in
theorem kt42 : Cond.methodLinkNest RX0 96 yX2_isBroken RX5 ∈ lw_tbl := List.mem_of_getElem? (i := 437) (by decide +kernel)
set_option maxRecDepth 20000 in
theorem kt43 : Cond.methodLinkNest RX0 102 yX2_costOf RX5 ∈ lw_tbl := List.mem_of_getElem? (i := 438) (by decide +kernel)
set_option maxRecDepth 20000 in
theorem kt44 : Cond.methodLinkNest RX0 70 yX5_limitBelow RX5 ∈ lw_tbl := List.mem_of_getElem? (i := 439) (by decide +kernel)
set_option maxRecDepth 20000 in
theorem kt45 : Cond.methodLinkNest RX0 128 yX2_forcedLiteral RX5 ∈ lw_tbl := List.mem_of_getElem? (i := 448) (by decide +kernel)
set_option maxRecDepth 20000 in
theorem kt46 : Cond.methodLinkNest RX0 132 yX4_makeTrue RX5 ∈ lw_tbl := List.mem_of_getElem? (i := 449) (by decide +kernel)
set_option maxRecDepth 20000 in
theorem kt47 : Cond.methodLinkNest RX0 108 yX5_isVariable RX5 ∈ lw_tbl := List.mem_of_getElem? (i := 458) (by decide +kernel)
set_option maxRecDepth 20000 in
theorem kt48 : Cond.methodLinkNest RX0 119 yX5_bitOf RX5 ∈ lw_tbl := List.mem_of_getElem? (i := 463) (by decide +kernel)
theorem nwl_in : ∀ w ∈ nwl, w ∈ lw_tbl := List.forall_mem_cons.mpr ⟨kt0, List.forall_mem_cons.mpr ⟨kt1, List.forall_mem_cons.mpr ⟨kt2, List.forall_mem_cons.mpr ⟨kt3, List.forall_mem_cons.mpr ⟨kt4, List.forall_mem_cons.mpr ⟨kt5, List.forall_mem_cons.mpr ⟨kt6, List.forall_mem_cons.mpr ⟨kt7, List.forall_mem_cons.mpr ⟨kt8, List.forall_mem_cons.mpr ⟨kt9, List.forall_mem_cons.mpr ⟨kt10, List.forall_mem_cons.mpr ⟨kt11, List.forall_mem_cons.mpr ⟨kt12, List.forall_mem_cons.mpr ⟨kt13, List.forall_mem_cons.mpr ⟨kt14, List.forall_mem_cons.mpr ⟨kt15, List.forall_mem_cons.mpr ⟨kt16, List.forall_mem_cons.mpr ⟨kt17, List.forall_mem_cons.mpr ⟨kt18, List.forall_mem_cons.mpr ⟨kt19, List.forall_mem_cons.mpr ⟨kt20, List.forall_mem_cons.mpr ⟨kt21, List.forall_mem_cons.mpr ⟨kt22, List.forall_mem_cons.mpr ⟨kt23, List.forall_mem_cons.mpr ⟨kt24, List.forall_mem_cons.mpr ⟨kt25, List.forall_mem_cons.mpr ⟨kt26, List.forall_mem_cons.mpr ⟨kt27, List.forall_mem_cons.mpr ⟨kt28, List.forall_mem_cons.mpr ⟨kt29, List.forall_mem_cons.mpr ⟨kt30, List.forall_mem_cons.mpr ⟨kt31, List.forall_mem_cons.mpr ⟨kt32, List.forall_mem_cons.mpr ⟨kt33, List.forall_mem_cons.mpr ⟨kt34, List.forall_mem_cons.mpr ⟨kt35, List.forall_mem_cons.mpr ⟨kt36, List.forall_mem_cons.mpr ⟨kt37, List.forall_mem_cons.mpr ⟨kt38, List.forall_mem_cons.mpr ⟨kt39, List.forall_mem_cons.mpr ⟨kt40, List.forall_mem_cons.mpr ⟨kt41, List.forall_mem_cons.mpr ⟨kt42, List.forall_mem_cons.mpr ⟨kt43, List.forall_mem_cons.mpr ⟨kt44, List.forall_mem_cons.mpr ⟨kt45, List.forall_mem_cons.mpr ⟨kt46, List.forall_mem_cons.mpr ⟨kt47, List.forall_mem_cons.mpr ⟨kt48, fun _ h => absurd h List.not_mem_nil⟩⟩⟩⟩⟩⟩⟩⟩⟩⟩⟩⟩⟩⟩⟩⟩⟩⟩⟩⟩⟩⟩⟩⟩⟩⟩⟩⟩⟩⟩⟩⟩⟩⟩⟩⟩⟩⟩⟩⟩⟩⟩⟩⟩⟩⟩⟩⟩⟩
