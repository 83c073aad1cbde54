set_option maxRecDepth 20000 in
theorem kw51 : Cond.initialized RL ∈ GL := List.mem_filter.mpr ⟨List.mem_of_getElem? (i := 51) (by decide +kernel), rfl⟩
set_option maxRecDepth 20000 in
theorem kw52 : Cond.initialized RX5 ∈ GL := List.mem_filter.mpr ⟨List.mem_of_getElem? (i := 52) (by decide +kernel), rfl⟩
set_option maxRecDepth 20000 in
theorem kw53 : Cond.initialized RX2 ∈ GL := List.mem_filter.mpr ⟨List.mem_of_getElem? (i := 53) (by decide +kernel), rfl⟩
set_option maxRecDepth 20000 in
theorem kw54 : Cond.initialized RX1 ∈ GL := List.mem_filter.mpr ⟨List.mem_of_getElem? (i := 54) (by decide +kernel), rfl⟩
set_option maxRecDepth 20000 in
theorem kw55 : Cond.initialized RX3 ∈ GL := List.mem_filter.mpr ⟨List.mem_of_getElem? (i := 55) (by decide +kernel), rfl⟩
set_option maxRecDepth 20000 in
theorem kw56 : Cond.initialized RX4 ∈ GL := List.mem_filter.mpr ⟨List.mem_of_getElem? (i := 56) (by decide +kernel), rfl⟩
set_option maxRecDepth 20000 in
theorem kw57 : Cond.initialized RX0 ∈ GL := List.mem_filter.mpr ⟨List.mem_of_getElem? (i := 57) (by decide +kernel), rfl⟩
set_option maxRecDepth 20000 in
theorem kw58 : Cond.initialized RX6 ∈ GL := List.mem_filter.mpr ⟨List.mem_of_getElem? (i := 58) (by decide +kernel), rfl⟩
set_option maxRecDepth 20000 in
theorem kw59 : Cond.classLink RL 7 RX5 ∈ GL := List.mem_filter.mpr ⟨List.mem_of_getElem? (i := 59) (by decide +kernel), rfl⟩
set_option maxRecDepth 20000 in
theorem kw60 : Cond.instantiable RX5 5 ∈ GL := List.mem_filter.mpr ⟨List.mem_of_getElem? (i := 60) (by decide +kernel), rfl⟩
set_option maxRecDepth 20000 in
theorem kw61 : Cond.methodLink RL 9 yX5_init ∈ GL := List.mem_filter.mpr ⟨List.mem_of_getElem? (i := 61) (by decide +kernel), rfl⟩
set_option maxRecDepth 20000 in
theorem kw62 : Cond.instanceMethod yX5_init ∈ GL := List.mem_filter.mpr ⟨List.mem_of_getElem? (i := 62) (by decide +kernel), rfl⟩
set_option maxRecDepth 20000 in
theorem kw63 : Cond.code yX5_init cX5_init 1 none ∈ GL := List.mem_filter.mpr ⟨List.mem_of_getElem? (i := 63) rfl, rfl⟩
set_option maxRecDepth 20000 in
theorem kw64 : Cond.methodLink RX5 3 objectInit ∈ GL := List.mem_filter.mpr ⟨List.mem_of_getElem? (i := 64) (by decide +kernel), rfl⟩
set_option maxRecDepth 20000 in
theorem kw65 : Cond.instanceMethod objectInit ∈ GL := List.mem_filter.mpr ⟨List.mem_of_getElem? (i := 65) (by decide +kernel), rfl⟩
set_option maxRecDepth 20000 in
theorem kw66 : Cond.code objectInit ⟨#[0xb1]⟩ 1 none ∈ GL := List.mem_filter.mpr ⟨List.mem_of_getElem? (i := 66) rfl, rfl⟩
set_option maxRecDepth 20000 in
theorem kw67 : Cond.classLink RX5 9 RX2 ∈ GL := List.mem_filter.mpr ⟨List.mem_of_getElem? (i := 67) (by decide +kernel), rfl⟩
set_option maxRecDepth 20000 in
theorem kw68 : Cond.instantiable RX2 9 ∈ GL := List.mem_filter.mpr ⟨List.mem_of_getElem? (i := 68) (by decide +kernel), rfl⟩
set_option maxRecDepth 20000 in
theorem kw70 : Cond.instanceMethod yX2_init ∈ GL := List.mem_filter.mpr ⟨List.mem_of_getElem? (i := 70) (by decide +kernel), rfl⟩
set_option maxRecDepth 20000 in
theorem kw71 : Cond.code yX2_init cX2_init 1 none ∈ GL := List.mem_filter.mpr ⟨List.mem_of_getElem? (i := 71) rfl, rfl⟩
set_option maxRecDepth 20000 in
theorem kw72 : Cond.methodLink RX2 3 objectInit ∈ GL := List.mem_filter.mpr ⟨List.mem_of_getElem? (i := 72) (by decide +kernel), rfl⟩
set_option maxRecDepth 20000 in
theorem kw73 : Cond.fieldLink RX2 9 "LeastCost$Problem" "costs" "[I" ∈ GL := List.mem_filter.mpr ⟨List.mem_of_getElem? (i := 73) (by decide +kernel), rfl⟩
set_option maxRecDepth 20000 in
theorem kw75 : Cond.fieldLink RX2 15 "LeastCost$Problem" "coefficients" "[I" ∈ GL := List.mem_filter.mpr ⟨List.mem_of_getElem? (i := 75) (by decide +kernel), rfl⟩
set_option maxRecDepth 20000 in
theorem kw76 : Cond.fieldLink RX2 18 "LeastCost$Problem" "literals" "[I" ∈ GL := List.mem_filter.mpr ⟨List.mem_of_getElem? (i := 76) (by decide +kernel), rfl⟩
set_option maxRecDepth 20000 in
theorem kw77 : Cond.fieldLink RX2 21 "LeastCost$Problem" "bits" "[I" ∈ GL := List.mem_filter.mpr ⟨List.mem_of_getElem? (i := 77) (by decide +kernel), rfl⟩
set_option maxRecDepth 20000 in
theorem kw78 : Cond.fieldLink RX2 24 "LeastCost$Problem" "firsts" "[I" ∈ GL := List.mem_filter.mpr ⟨List.mem_of_getElem? (i := 78) (by decide +kernel), rfl⟩
set_option maxRecDepth 20000 in
theorem kw79 : Cond.fieldLink RX2 27 "LeastCost$Problem" "bounds" "[I" ∈ GL := List.mem_filter.mpr ⟨List.mem_of_getElem? (i := 79) (by decide +kernel), rfl⟩
set_option maxRecDepth 20000 in
theorem kw80 : Cond.fieldLink RX2 41 "LeastCost$Problem" "terms" "I" ∈ GL := List.mem_filter.mpr ⟨List.mem_of_getElem? (i := 80) (by decide +kernel), rfl⟩
set_option maxRecDepth 20000 in
theorem kw81 : Cond.fieldLink RX2 37 "LeastCost$Problem" "constraints" "I" ∈ GL := List.mem_filter.mpr ⟨List.mem_of_getElem? (i := 81) (by decide +kernel), rfl⟩
set_option maxRecDepth 20000 in
theorem kw82 : Cond.fieldLink RX2 44 "LeastCost$Problem" "taken" "I" ∈ GL := List.mem_filter.mpr ⟨List.mem_of_getElem? (i := 82) (by decide +kernel), rfl⟩
set_option maxRecDepth 20000 in
theorem kw102 : Cond.arrayClass .int ∈ GL := List.mem_filter.mpr ⟨List.mem_of_getElem? (i := 102) (by decide +kernel), rfl⟩
set_option maxRecDepth 20000 in
theorem kw103 : Cond.classLink RX5 16 RX1 ∈ GL := List.mem_filter.mpr ⟨List.mem_of_getElem? (i := 103) (by decide +kernel), rfl⟩
set_option maxRecDepth 20000 in
theorem kw104 : Cond.instantiable RX1 2 ∈ GL := List.mem_filter.mpr ⟨List.mem_of_getElem? (i := 104) (by decide +kernel), rfl⟩
set_option maxRecDepth 20000 in
theorem kw106 : Cond.instanceMethod yX1_init ∈ GL := List.mem_filter.mpr ⟨List.mem_of_getElem? (i := 106) (by decide +kernel), rfl⟩
set_option maxRecDepth 20000 in
theorem kw107 : Cond.code yX1_init cX1_init 1 none ∈ GL := List.mem_filter.mpr ⟨List.mem_of_getElem? (i := 107) rfl, rfl⟩
set_option maxRecDepth 20000 in
theorem kw108 : Cond.methodLink RX1 3 objectInit ∈ GL := List.mem_filter.mpr ⟨List.mem_of_getElem? (i := 108) (by decide +kernel), rfl⟩
set_option maxRecDepth 20000 in
theorem kw109 : Cond.fieldLink RX1 9 "LeastCost$Log" "words" "[I" ∈ GL := List.mem_filter.mpr ⟨List.mem_of_getElem? (i := 109) (by decide +kernel), rfl⟩
set_option maxRecDepth 20000 in
theorem kw110 : Cond.fieldLink RX1 15 "LeastCost$Log" "size" "I" ∈ GL := List.mem_filter.mpr ⟨List.mem_of_getElem? (i := 110) (by decide +kernel), rfl⟩
set_option maxRecDepth 20000 in
theorem kw118 : Cond.classLink RX5 23 RX3 ∈ GL := List.mem_filter.mpr ⟨List.mem_of_getElem? (i := 118) (by decide +kernel), rfl⟩
set_option maxRecDepth 20000 in
theorem kw119 : Cond.instantiable RX3 11 ∈ GL := List.mem_filter.mpr ⟨List.mem_of_getElem? (i := 119) (by decide +kernel), rfl⟩
set_option maxRecDepth 20000 in
theorem kw121 : Cond.instanceMethod yX3_init ∈ GL := List.mem_filter.mpr ⟨List.mem_of_getElem? (i := 121) (by decide +kernel), rfl⟩
set_option maxRecDepth 20000 in
theorem kw122 : Cond.code yX3_init cX3_init 3 none ∈ GL := List.mem_filter.mpr ⟨List.mem_of_getElem? (i := 122) rfl, rfl⟩
set_option maxRecDepth 20000 in
theorem kw123 : Cond.methodLink RX3 3 objectInit ∈ GL := List.mem_filter.mpr ⟨List.mem_of_getElem? (i := 123) (by decide +kernel), rfl⟩
set_option maxRecDepth 20000 in
theorem kw124 : Cond.classLink RX3 9 RX4 ∈ GL := List.mem_filter.mpr ⟨List.mem_of_getElem? (i := 124) (by decide +kernel), rfl⟩
set_option maxRecDepth 20000 in
theorem kw125 : Cond.instantiable RX4 2 ∈ GL := List.mem_filter.mpr ⟨List.mem_of_getElem? (i := 125) (by decide +kernel), rfl⟩
set_option maxRecDepth 20000 in
theorem kw127 : Cond.instanceMethod yX4_init ∈ GL := List.mem_filter.mpr ⟨List.mem_of_getElem? (i := 127) (by decide +kernel), rfl⟩
set_option maxRecDepth 20000 in
theorem kw128 : Cond.code yX4_init cX4_init 1 none ∈ GL := List.mem_filter.mpr ⟨List.mem_of_getElem? (i := 128) rfl, rfl⟩
set_option maxRecDepth 20000 in
theorem kw129 : Cond.methodLink RX4 3 objectInit ∈ GL := List.mem_filter.mpr ⟨List.mem_of_getElem? (i := 129) (by decide +kernel), rfl⟩
set_option maxRecDepth 20000 in
theorem kw130 : Cond.fieldLink RX4 9 "LeastCost$Setting" "ones" "I" ∈ GL := List.mem_filter.mpr ⟨List.mem_of_getElem? (i := 130) (by decide +kernel), rfl⟩
set_option maxRecDepth 20000 in
theorem kw134 : Cond.fieldLink RX4 15 "LeastCost$Setting" "zeros" "I" ∈ GL := List.mem_filter.mpr ⟨List.mem_of_getElem? (i := 134) (by decide +kernel), rfl⟩
set_option maxRecDepth 20000 in
theorem kw143 : Cond.fieldLink RX3 35 "LeastCost$Search" "problem" "LLeastCost$Problem;" ∈ GL := List.mem_filter.mpr ⟨List.mem_of_getElem? (i := 143) (by decide +kernel), rfl⟩
set_option maxRecDepth 20000 in
theorem kw144 : Cond.fieldLink RX3 39 "LeastCost$Search" "log" "LLeastCost$Log;" ∈ GL := List.mem_filter.mpr ⟨List.mem_of_getElem? (i := 144) (by decide +kernel), rfl⟩
set_option maxRecDepth 20000 in
theorem kw145 : Cond.fieldLink RX3 12 "LeastCost$Search" "setting" "LLeastCost$Setting;" ∈ GL := List.mem_filter.mpr ⟨List.mem_of_getElem? (i := 145) (by decide +kernel), rfl⟩
set_option maxRecDepth 20000 in
theorem kw146 : Cond.fieldLink RX3 18 "LeastCost$Search" "choices" "[I" ∈ GL := List.mem_filter.mpr ⟨List.mem_of_getElem? (i := 146) (by decide +kernel), rfl⟩
set_option maxRecDepth 20000 in
theorem kw147 : Cond.fieldLink RX3 22 "LeastCost$Search" "onesBefore" "[I" ∈ GL := List.mem_filter.mpr ⟨List.mem_of_getElem? (i := 147) (by decide +kernel), rfl⟩
set_option maxRecDepth 20000 in
theorem kw148 : Cond.fieldLink RX3 25 "LeastCost$Search" "zerosBefore" "[I" ∈ GL := List.mem_filter.mpr ⟨List.mem_of_getElem? (i := 148) (by decide +kernel), rfl⟩
set_option maxRecDepth 20000 in
theorem kw149 : Cond.fieldLink RX3 84 "LeastCost$Search" "depth" "I" ∈ GL := List.mem_filter.mpr ⟨List.mem_of_getElem? (i := 149) (by decide +kernel), rfl⟩
set_option maxRecDepth 20000 in
theorem kw150 : Cond.fieldLink RX3 28 "LeastCost$Search" "bestCost" "I" ∈ GL := List.mem_filter.mpr ⟨List.mem_of_getElem? (i := 150) (by decide +kernel), rfl⟩
set_option maxRecDepth 20000 in
theorem kw152 : Cond.fieldLink RX3 94 "LeastCost$Search" "bestOnes" "I" ∈ GL := List.mem_filter.mpr ⟨List.mem_of_getElem? (i := 152) (by decide +kernel), rfl⟩
set_option maxRecDepth 20000 in
theorem kw154 : Cond.fieldLink RX3 46 "LeastCost$Search" "stepsMade" "I" ∈ GL := List.mem_filter.mpr ⟨List.mem_of_getElem? (i := 154) (by decide +kernel), rfl⟩
set_option maxRecDepth 20000 in
theorem kw156 : Cond.fieldLink RX3 32 "LeastCost$Search" "state" "I" ∈ GL := List.mem_filter.mpr ⟨List.mem_of_getElem? (i := 156) (by decide +kernel), rfl⟩
set_option maxRecDepth 20000 in
theorem kw180 : Cond.classLink RX5 32 RX0 ∈ GL := List.mem_filter.mpr ⟨List.mem_of_getElem? (i := 180) (by decide +kernel), rfl⟩
set_option maxRecDepth 20000 in
theorem kw181 : Cond.instantiable RX0 13 ∈ GL := List.mem_filter.mpr ⟨List.mem_of_getElem? (i := 181) (by decide +kernel), rfl⟩
set_option maxRecDepth 20000 in
theorem kw183 : Cond.instanceMethod yX0_init ∈ GL := List.mem_filter.mpr ⟨List.mem_of_getElem? (i := 183) (by decide +kernel), rfl⟩
set_option maxRecDepth 20000 in
theorem kw184 : Cond.code yX0_init cX0_init 3 none ∈ GL := List.mem_filter.mpr ⟨List.mem_of_getElem? (i := 184) rfl, rfl⟩
set_option maxRecDepth 20000 in
theorem kw185 : Cond.methodLink RX0 3 objectInit ∈ GL := List.mem_filter.mpr ⟨List.mem_of_getElem? (i := 185) (by decide +kernel), rfl⟩
set_option maxRecDepth 20000 in
theorem kw186 : Cond.classLink RX0 9 RX4 ∈ GL := List.mem_filter.mpr ⟨List.mem_of_getElem? (i := 186) (by decide +kernel), rfl⟩
set_option maxRecDepth 20000 in
theorem kw188 : Cond.fieldLink RX0 33 "LeastCost$Checker" "problem" "LLeastCost$Problem;" ∈ GL := List.mem_filter.mpr ⟨List.mem_of_getElem? (i := 188) (by decide +kernel), rfl⟩
set_option maxRecDepth 20000 in
theorem kw189 : Cond.fieldLink RX0 37 "LeastCost$Checker" "log" "LLeastCost$Log;" ∈ GL := List.mem_filter.mpr ⟨List.mem_of_getElem? (i := 189) (by decide +kernel), rfl⟩
set_option maxRecDepth 20000 in
theorem kw190 : Cond.fieldLink RX0 12 "LeastCost$Checker" "setting" "LLeastCost$Setting;" ∈ GL := List.mem_filter.mpr ⟨List.mem_of_getElem? (i := 190) (by decide +kernel), rfl⟩
set_option maxRecDepth 20000 in
theorem kw191 : Cond.fieldLink RX0 18 "LeastCost$Checker" "waitingOnes" "[I" ∈ GL := List.mem_filter.mpr ⟨List.mem_of_getElem? (i := 191) (by decide +kernel), rfl⟩
set_option maxRecDepth 20000 in
theorem kw192 : Cond.fieldLink RX0 22 "LeastCost$Checker" "waitingZeros" "[I" ∈ GL := List.mem_filter.mpr ⟨List.mem_of_getElem? (i := 192) (by decide +kernel), rfl⟩
set_option maxRecDepth 20000 in
theorem kw193 : Cond.fieldLink RX0 25 "LeastCost$Checker" "waitingBroken" "[Z" ∈ GL := List.mem_filter.mpr ⟨List.mem_of_getElem? (i := 193) (by decide +kernel), rfl⟩
set_option maxRecDepth 20000 in
theorem kw194 : Cond.fieldLink RX0 80 "LeastCost$Checker" "waiting" "I" ∈ GL := List.mem_filter.mpr ⟨List.mem_of_getElem? (i := 194) (by decide +kernel), rfl⟩
set_option maxRecDepth 20000 in
theorem kw195 : Cond.fieldLink RX0 116 "LeastCost$Checker" "broken" "Z" ∈ GL := List.mem_filter.mpr ⟨List.mem_of_getElem? (i := 195) (by decide +kernel), rfl⟩
set_option maxRecDepth 20000 in
theorem kw196 : Cond.fieldLink RX0 74 "LeastCost$Checker" "limit" "I" ∈ GL := List.mem_filter.mpr ⟨List.mem_of_getElem? (i := 196) (by decide +kernel), rfl⟩
set_option maxRecDepth 20000 in
theorem kw197 : Cond.fieldLink RX0 77 "LeastCost$Checker" "position" "I" ∈ GL := List.mem_filter.mpr ⟨List.mem_of_getElem? (i := 197) (by decide +kernel), rfl⟩
set_option maxRecDepth 20000 in
theorem kw198 : Cond.fieldLink RX0 59 "LeastCost$Checker" "treeSize" "I" ∈ GL := List.mem_filter.mpr ⟨List.mem_of_getElem? (i := 198) (by decide +kernel), rfl⟩
set_option maxRecDepth 20000 in
theorem kw199 : Cond.fieldLink RX0 41 "LeastCost$Checker" "begun" "Z" ∈ GL := List.mem_filter.mpr ⟨List.mem_of_getElem? (i := 199) (by decide +kernel), rfl⟩
set_option maxRecDepth 20000 in
theorem kw200 : Cond.fieldLink RX0 29 "LeastCost$Checker" "verdict" "I" ∈ GL := List.mem_filter.mpr ⟨List.mem_of_getElem? (i := 200) (by decide +kernel), rfl⟩
set_option maxRecDepth 20000 in
theorem kw228 : Cond.arrayClass .boolean ∈ GL := List.mem_filter.mpr ⟨List.mem_of_getElem? (i := 228) (by decide +kernel), rfl⟩
set_option maxRecDepth 20000 in
theorem kw229 : Cond.fieldLink RX5 12 "LeastCost" "problem" "LLeastCost$Problem;" ∈ GL := List.mem_filter.mpr ⟨List.mem_of_getElem? (i := 229) (by decide +kernel), rfl⟩
set_option maxRecDepth 20000 in
theorem kw230 : Cond.fieldLink RX5 19 "LeastCost" "log" "LLeastCost$Log;" ∈ GL := List.mem_filter.mpr ⟨List.mem_of_getElem? (i := 230) (by decide +kernel), rfl⟩
set_option maxRecDepth 20000 in
theorem kw231 : Cond.fieldLink RX5 28 "LeastCost" "search" "LLeastCost$Search;" ∈ GL := List.mem_filter.mpr ⟨List.mem_of_getElem? (i := 231) (by decide +kernel), rfl⟩
set_option maxRecDepth 20000 in
theorem kw232 : Cond.fieldLink RX5 35 "LeastCost" "checker" "LLeastCost$Checker;" ∈ GL := List.mem_filter.mpr ⟨List.mem_of_getElem? (i := 232) (by decide +kernel), rfl⟩
set_option maxRecDepth 20000 in
theorem kw233 : Cond.fieldLink RX5 39 "LeastCost" "started" "Z" ∈ GL := List.mem_filter.mpr ⟨List.mem_of_getElem? (i := 233) (by decide +kernel), rfl⟩
set_option maxRecDepth 20000 in
theorem kw245 : Cond.methodLink RL 13 yX5_setCost ∈ GL := List.mem_filter.mpr ⟨List.mem_of_getElem? (i := 245) (by decide +kernel), rfl⟩
set_option maxRecDepth 20000 in
theorem kw246 : Cond.instanceMethod yX5_setCost ∈ GL := List.mem_filter.mpr ⟨List.mem_of_getElem? (i := 246) (by decide +kernel), rfl⟩
set_option maxRecDepth 20000 in
theorem kw247 : Cond.selects RX5 yX5_setCost yX5_setCost ∈ GL := List.mem_filter.mpr ⟨List.mem_of_getElem? (i := 247) (by decide +kernel), rfl⟩
set_option maxRecDepth 20000 in
theorem kw248 : Cond.code yX5_setCost cX5_setCost 3 (some .int) ∈ GL := List.mem_filter.mpr ⟨List.mem_of_getElem? (i := 248) rfl, rfl⟩
set_option maxRecDepth 20000 in
theorem kw249 : Cond.methodLink RX5 43 yX5_isVariable ∈ GL := List.mem_filter.mpr ⟨List.mem_of_getElem? (i := 249) (by decide +kernel), rfl⟩
set_option maxRecDepth 20000 in
theorem kw250 : Cond.static yX5_isVariable ∈ GL := List.mem_filter.mpr ⟨List.mem_of_getElem? (i := 250) (by decide +kernel), rfl⟩
set_option maxRecDepth 20000 in
theorem kw251 : Cond.code yX5_isVariable cX5_isVariable 1 (some .boolean) ∈ GL := List.mem_filter.mpr ⟨List.mem_of_getElem? (i := 251) rfl, rfl⟩
set_option maxRecDepth 20000 in
theorem kw252 : Cond.methodLink RX5 47 yX5_isWithin ∈ GL := List.mem_filter.mpr ⟨List.mem_of_getElem? (i := 252) (by decide +kernel), rfl⟩
set_option maxRecDepth 20000 in
theorem kw253 : Cond.static yX5_isWithin ∈ GL := List.mem_filter.mpr ⟨List.mem_of_getElem? (i := 253) (by decide +kernel), rfl⟩
set_option maxRecDepth 20000 in
theorem kw254 : Cond.code yX5_isWithin cX5_isWithin 3 (some .boolean) ∈ GL := List.mem_filter.mpr ⟨List.mem_of_getElem? (i := 254) rfl, rfl⟩
set_option maxRecDepth 20000 in
theorem kw255 : Cond.methodLink RL 18 yX5_term ∈ GL := List.mem_filter.mpr ⟨List.mem_of_getElem? (i := 255) (by decide +kernel), rfl⟩
set_option maxRecDepth 20000 in
theorem kw256 : Cond.instanceMethod yX5_term ∈ GL := List.mem_filter.mpr ⟨List.mem_of_getElem? (i := 256) (by decide +kernel), rfl⟩
set_option maxRecDepth 20000 in
theorem kw257 : Cond.selects RX5 yX5_term yX5_term ∈ GL := List.mem_filter.mpr ⟨List.mem_of_getElem? (i := 257) (by decide +kernel), rfl⟩
set_option maxRecDepth 20000 in
theorem kw258 : Cond.code yX5_term cX5_term 3 (some .int) ∈ GL := List.mem_filter.mpr ⟨List.mem_of_getElem? (i := 258) rfl, rfl⟩
set_option maxRecDepth 20000 in
theorem kw259 : Cond.methodLink RX5 55 yX5_variableOf ∈ GL := List.mem_filter.mpr ⟨List.mem_of_getElem? (i := 259) (by decide +kernel), rfl⟩
set_option maxRecDepth 20000 in
theorem kw260 : Cond.static yX5_variableOf ∈ GL := List.mem_filter.mpr ⟨List.mem_of_getElem? (i := 260) (by decide +kernel), rfl⟩
set_option maxRecDepth 20000 in
theorem kw261 : Cond.code yX5_variableOf cX5_variableOf 1 (some .int) ∈ GL := List.mem_filter.mpr ⟨List.mem_of_getElem? (i := 261) rfl, rfl⟩
set_option maxRecDepth 20000 in
theorem kw264 : Cond.instanceMethod yX2_addTerm ∈ GL := List.mem_filter.mpr ⟨List.mem_of_getElem? (i := 264) (by decide +kernel), rfl⟩
set_option maxRecDepth 20000 in
theorem kw265 : Cond.code yX2_addTerm cX2_addTerm 4 (some .boolean) ∈ GL := List.mem_filter.mpr ⟨List.mem_of_getElem? (i := 265) rfl, rfl⟩
set_option maxRecDepth 20000 in
theorem kw268 : Cond.static yX5_bitOf ∈ GL := List.mem_filter.mpr ⟨List.mem_of_getElem? (i := 268) (by decide +kernel), rfl⟩
set_option maxRecDepth 20000 in
theorem kw269 : Cond.code yX5_bitOf cX5_bitOf 1 (some .int) ∈ GL := List.mem_filter.mpr ⟨List.mem_of_getElem? (i := 269) rfl, rfl⟩
set_option maxRecDepth 20000 in
theorem kw270 : Cond.methodLink RL 22 yX5_end ∈ GL := List.mem_filter.mpr ⟨List.mem_of_getElem? (i := 270) (by decide +kernel), rfl⟩
set_option maxRecDepth 20000 in
theorem kw271 : Cond.instanceMethod yX5_end ∈ GL := List.mem_filter.mpr ⟨List.mem_of_getElem? (i := 271) (by decide +kernel), rfl⟩
set_option maxRecDepth 20000 in
theorem kw272 : Cond.selects RX5 yX5_end yX5_end ∈ GL := List.mem_filter.mpr ⟨List.mem_of_getElem? (i := 272) (by decide +kernel), rfl⟩
set_option maxRecDepth 20000 in
theorem kw273 : Cond.code yX5_end cX5_end 2 (some .int) ∈ GL := List.mem_filter.mpr ⟨List.mem_of_getElem? (i := 273) rfl, rfl⟩
set_option maxRecDepth 20000 in
theorem kw274 : Cond.constant RX5 63 (1073741824) ∈ GL := List.mem_filter.mpr ⟨List.mem_of_getElem? (i := 274) (by decide +kernel), rfl⟩
set_option maxRecDepth 20000 in
theorem kw277 : Cond.instanceMethod yX2_makeConstraint ∈ GL := List.mem_filter.mpr ⟨List.mem_of_getElem? (i := 277) (by decide +kernel), rfl⟩
set_option maxRecDepth 20000 in
theorem kw278 : Cond.code yX2_makeConstraint cX2_makeConstraint 3 (some .int) ∈ GL := List.mem_filter.mpr ⟨List.mem_of_getElem? (i := 278) rfl, rfl⟩
set_option maxRecDepth 20000 in
theorem kw279 : Cond.methodLink RL 27 yX5_run ∈ GL := List.mem_filter.mpr ⟨List.mem_of_getElem? (i := 279) (by decide +kernel), rfl⟩
set_option maxRecDepth 20000 in
theorem kw280 : Cond.instanceMethod yX5_run ∈ GL := List.mem_filter.mpr ⟨List.mem_of_getElem? (i := 280) (by decide +kernel), rfl⟩
set_option maxRecDepth 20000 in
theorem kw281 : Cond.selects RX5 yX5_run yX5_run ∈ GL := List.mem_filter.mpr ⟨List.mem_of_getElem? (i := 281) (by decide +kernel), rfl⟩
set_option maxRecDepth 20000 in
theorem kw282 : Cond.code yX5_run cX5_run 2 (some .int) ∈ GL := List.mem_filter.mpr ⟨List.mem_of_getElem? (i := 282) rfl, rfl⟩
set_option maxRecDepth 20000 in
theorem kw285 : Cond.instanceMethod yX3_advance ∈ GL := List.mem_filter.mpr ⟨List.mem_of_getElem? (i := 285) (by decide +kernel), rfl⟩
set_option maxRecDepth 20000 in
theorem kw286 : Cond.code yX3_advance cX3_advance 3 (some .int) ∈ GL := List.mem_filter.mpr ⟨List.mem_of_getElem? (i := 286) rfl, rfl⟩
set_option maxRecDepth 20000 in
theorem kw287 : Cond.methodLink RX3 43 yX3_step ∈ GL := List.mem_filter.mpr ⟨List.mem_of_getElem? (i := 287) (by decide +kernel), rfl⟩
set_option maxRecDepth 20000 in
theorem kw289 : Cond.instanceMethod yX3_step ∈ GL := List.mem_filter.mpr ⟨List.mem_of_getElem? (i := 289) (by decide +kernel), rfl⟩
set_option maxRecDepth 20000 in
theorem kw290 : Cond.code yX3_step cX3_step 4 none ∈ GL := List.mem_filter.mpr ⟨List.mem_of_getElem? (i := 290) rfl, rfl⟩
set_option maxRecDepth 20000 in
theorem kw292 : Cond.static yX5_limitBelow ∈ GL := List.mem_filter.mpr ⟨List.mem_of_getElem? (i := 292) (by decide +kernel), rfl⟩
set_option maxRecDepth 20000 in
theorem kw293 : Cond.code yX5_limitBelow cX5_limitBelow 1 (some .int) ∈ GL := List.mem_filter.mpr ⟨List.mem_of_getElem? (i := 293) rfl, rfl⟩
set_option maxRecDepth 20000 in
theorem kw294 : Cond.constant RX5 105 (2097152) ∈ GL := List.mem_filter.mpr ⟨List.mem_of_getElem? (i := 294) (by decide +kernel), rfl⟩
set_option maxRecDepth 20000 in
theorem kw297 : Cond.instanceMethod yX2_isBroken ∈ GL := List.mem_filter.mpr ⟨List.mem_of_getElem? (i := 297) (by decide +kernel), rfl⟩
set_option maxRecDepth 20000 in
theorem kw298 : Cond.code yX2_isBroken cX2_isBroken 4 (some .boolean) ∈ GL := List.mem_filter.mpr ⟨List.mem_of_getElem? (i := 298) rfl, rfl⟩
set_option maxRecDepth 20000 in
theorem kw299 : Cond.methodLink RX2 58 yX2_slackOf ∈ GL := List.mem_filter.mpr ⟨List.mem_of_getElem? (i := 299) (by decide +kernel), rfl⟩
set_option maxRecDepth 20000 in
theorem kw301 : Cond.instanceMethod yX2_slackOf ∈ GL := List.mem_filter.mpr ⟨List.mem_of_getElem? (i := 301) (by decide +kernel), rfl⟩
set_option maxRecDepth 20000 in
theorem kw302 : Cond.code yX2_slackOf cX2_slackOf 6 (some .int) ∈ GL := List.mem_filter.mpr ⟨List.mem_of_getElem? (i := 302) rfl, rfl⟩
set_option maxRecDepth 20000 in
theorem kw303 : Cond.methodLink RX2 62 yX2_limitSlack ∈ GL := List.mem_filter.mpr ⟨List.mem_of_getElem? (i := 303) (by decide +kernel), rfl⟩
set_option maxRecDepth 20000 in
theorem kw305 : Cond.instanceMethod yX2_limitSlack ∈ GL := List.mem_filter.mpr ⟨List.mem_of_getElem? (i := 305) (by decide +kernel), rfl⟩
set_option maxRecDepth 20000 in
theorem kw306 : Cond.code yX2_limitSlack cX2_limitSlack 3 (some .int) ∈ GL := List.mem_filter.mpr ⟨List.mem_of_getElem? (i := 306) rfl, rfl⟩
set_option maxRecDepth 20000 in
theorem kw307 : Cond.methodLink RX2 55 yX2_costOf ∈ GL := List.mem_filter.mpr ⟨List.mem_of_getElem? (i := 307) (by decide +kernel), rfl⟩
set_option maxRecDepth 20000 in
theorem kw309 : Cond.instanceMethod yX2_costOf ∈ GL := List.mem_filter.mpr ⟨List.mem_of_getElem? (i := 309) (by decide +kernel), rfl⟩
set_option maxRecDepth 20000 in
theorem kw310 : Cond.code yX2_costOf cX2_costOf 4 (some .int) ∈ GL := List.mem_filter.mpr ⟨List.mem_of_getElem? (i := 310) rfl, rfl⟩
set_option maxRecDepth 20000 in
theorem kw311 : Cond.methodLink RX3 59 yX3_goBack ∈ GL := List.mem_filter.mpr ⟨List.mem_of_getElem? (i := 311) (by decide +kernel), rfl⟩
set_option maxRecDepth 20000 in
theorem kw313 : Cond.instanceMethod yX3_goBack ∈ GL := List.mem_filter.mpr ⟨List.mem_of_getElem? (i := 313) (by decide +kernel), rfl⟩
set_option maxRecDepth 20000 in
theorem kw314 : Cond.code yX3_goBack cX3_goBack 1 none ∈ GL := List.mem_filter.mpr ⟨List.mem_of_getElem? (i := 314) rfl, rfl⟩
set_option maxRecDepth 20000 in
theorem kw315 : Cond.methodLink RX3 80 yX3_writes ∈ GL := List.mem_filter.mpr ⟨List.mem_of_getElem? (i := 315) (by decide +kernel), rfl⟩
set_option maxRecDepth 20000 in
theorem kw317 : Cond.instanceMethod yX3_writes ∈ GL := List.mem_filter.mpr ⟨List.mem_of_getElem? (i := 317) (by decide +kernel), rfl⟩
set_option maxRecDepth 20000 in
theorem kw318 : Cond.code yX3_writes cX3_writes 3 (some .boolean) ∈ GL := List.mem_filter.mpr ⟨List.mem_of_getElem? (i := 318) rfl, rfl⟩
set_option maxRecDepth 20000 in
theorem kw321 : Cond.instanceMethod yX1_append ∈ GL := List.mem_filter.mpr ⟨List.mem_of_getElem? (i := 321) (by decide +kernel), rfl⟩
set_option maxRecDepth 20000 in
theorem kw322 : Cond.code yX1_append cX1_append 2 (some .boolean) ∈ GL := List.mem_filter.mpr ⟨List.mem_of_getElem? (i := 322) rfl, rfl⟩
set_option maxRecDepth 20000 in
theorem kw323 : Cond.methodLink RX3 87 yX3_finish ∈ GL := List.mem_filter.mpr ⟨List.mem_of_getElem? (i := 323) (by decide +kernel), rfl⟩
set_option maxRecDepth 20000 in
theorem kw325 : Cond.instanceMethod yX3_finish ∈ GL := List.mem_filter.mpr ⟨List.mem_of_getElem? (i := 325) (by decide +kernel), rfl⟩
set_option maxRecDepth 20000 in
theorem kw326 : Cond.code yX3_finish cX3_finish 1 none ∈ GL := List.mem_filter.mpr ⟨List.mem_of_getElem? (i := 326) rfl, rfl⟩
set_option maxRecDepth 20000 in
theorem kw329 : Cond.instanceMethod yX4_become ∈ GL := List.mem_filter.mpr ⟨List.mem_of_getElem? (i := 329) (by decide +kernel), rfl⟩
set_option maxRecDepth 20000 in
theorem kw330 : Cond.code yX4_become cX4_become 3 none ∈ GL := List.mem_filter.mpr ⟨List.mem_of_getElem? (i := 330) rfl, rfl⟩
set_option maxRecDepth 20000 in
theorem kw333 : Cond.instanceMethod yX4_makeTrue ∈ GL := List.mem_filter.mpr ⟨List.mem_of_getElem? (i := 333) (by decide +kernel), rfl⟩
set_option maxRecDepth 20000 in
theorem kw334 : Cond.code yX4_makeTrue cX4_makeTrue 3 none ∈ GL := List.mem_filter.mpr ⟨List.mem_of_getElem? (i := 334) rfl, rfl⟩
set_option maxRecDepth 20000 in
theorem kw339 : Cond.instanceMethod yX2_forcedLiteral ∈ GL := List.mem_filter.mpr ⟨List.mem_of_getElem? (i := 339) (by decide +kernel), rfl⟩
set_option maxRecDepth 20000 in
theorem kw340 : Cond.code yX2_forcedLiteral cX2_forcedLiteral 5 (some .int) ∈ GL := List.mem_filter.mpr ⟨List.mem_of_getElem? (i := 340) rfl, rfl⟩
set_option maxRecDepth 20000 in
theorem kw341 : Cond.methodLink RX2 66 yX2_forcedBy ∈ GL := List.mem_filter.mpr ⟨List.mem_of_getElem? (i := 341) (by decide +kernel), rfl⟩
set_option maxRecDepth 20000 in
theorem kw343 : Cond.instanceMethod yX2_forcedBy ∈ GL := List.mem_filter.mpr ⟨List.mem_of_getElem? (i := 343) (by decide +kernel), rfl⟩
set_option maxRecDepth 20000 in
theorem kw344 : Cond.code yX2_forcedBy cX2_forcedBy 6 (some .int) ∈ GL := List.mem_filter.mpr ⟨List.mem_of_getElem? (i := 344) rfl, rfl⟩
set_option maxRecDepth 20000 in
theorem kw345 : Cond.methodLink RX2 69 yX2_forcedByLimit ∈ GL := List.mem_filter.mpr ⟨List.mem_of_getElem? (i := 345) (by decide +kernel), rfl⟩
set_option maxRecDepth 20000 in
theorem kw347 : Cond.instanceMethod yX2_forcedByLimit ∈ GL := List.mem_filter.mpr ⟨List.mem_of_getElem? (i := 347) (by decide +kernel), rfl⟩
set_option maxRecDepth 20000 in
theorem kw348 : Cond.code yX2_forcedByLimit cX2_forcedByLimit 6 (some .int) ∈ GL := List.mem_filter.mpr ⟨List.mem_of_getElem? (i := 348) rfl, rfl⟩
set_option maxRecDepth 20000 in
theorem kw351 : Cond.instanceMethod yX4_leastNotSet ∈ GL := List.mem_filter.mpr ⟨List.mem_of_getElem? (i := 351) (by decide +kernel), rfl⟩
set_option maxRecDepth 20000 in
theorem kw352 : Cond.code yX4_leastNotSet cX4_leastNotSet 3 (some .int) ∈ GL := List.mem_filter.mpr ⟨List.mem_of_getElem? (i := 352) rfl, rfl⟩
set_option maxRecDepth 20000 in
theorem kw353 : Cond.methodLink RX3 74 yX3_choose ∈ GL := List.mem_filter.mpr ⟨List.mem_of_getElem? (i := 353) (by decide +kernel), rfl⟩
set_option maxRecDepth 20000 in
theorem kw355 : Cond.instanceMethod yX3_choose ∈ GL := List.mem_filter.mpr ⟨List.mem_of_getElem? (i := 355) (by decide +kernel), rfl⟩
set_option maxRecDepth 20000 in
theorem kw356 : Cond.code yX3_choose cX3_choose 2 none ∈ GL := List.mem_filter.mpr ⟨List.mem_of_getElem? (i := 356) rfl, rfl⟩
set_option maxRecDepth 20000 in
theorem kw357 : Cond.methodLink RX3 77 yX3_keepBest ∈ GL := List.mem_filter.mpr ⟨List.mem_of_getElem? (i := 357) (by decide +kernel), rfl⟩
set_option maxRecDepth 20000 in
theorem kw359 : Cond.instanceMethod yX3_keepBest ∈ GL := List.mem_filter.mpr ⟨List.mem_of_getElem? (i := 359) (by decide +kernel), rfl⟩
set_option maxRecDepth 20000 in
theorem kw360 : Cond.code yX3_keepBest cX3_keepBest 1 none ∈ GL := List.mem_filter.mpr ⟨List.mem_of_getElem? (i := 360) rfl, rfl⟩
set_option maxRecDepth 20000 in
theorem kw362 : Cond.methodLink RL 31 yX5_optimum ∈ GL := List.mem_filter.mpr ⟨List.mem_of_getElem? (i := 362) (by decide +kernel), rfl⟩
set_option maxRecDepth 20000 in
theorem kw363 : Cond.instanceMethod yX5_optimum ∈ GL := List.mem_filter.mpr ⟨List.mem_of_getElem? (i := 363) (by decide +kernel), rfl⟩
set_option maxRecDepth 20000 in
theorem kw364 : Cond.selects RX5 yX5_optimum yX5_optimum ∈ GL := List.mem_filter.mpr ⟨List.mem_of_getElem? (i := 364) (by decide +kernel), rfl⟩
set_option maxRecDepth 20000 in
theorem kw365 : Cond.code yX5_optimum cX5_optimum 1 (some .int) ∈ GL := List.mem_filter.mpr ⟨List.mem_of_getElem? (i := 365) rfl, rfl⟩
set_option maxRecDepth 20000 in
theorem kw368 : Cond.instanceMethod yX3_isDone ∈ GL := List.mem_filter.mpr ⟨List.mem_of_getElem? (i := 368) (by decide +kernel), rfl⟩
set_option maxRecDepth 20000 in
theorem kw369 : Cond.code yX3_isDone cX3_isDone 1 (some .boolean) ∈ GL := List.mem_filter.mpr ⟨List.mem_of_getElem? (i := 369) rfl, rfl⟩
set_option maxRecDepth 20000 in
theorem kw370 : Cond.methodLink RL 36 yX5_value ∈ GL := List.mem_filter.mpr ⟨List.mem_of_getElem? (i := 370) (by decide +kernel), rfl⟩
set_option maxRecDepth 20000 in
theorem kw371 : Cond.instanceMethod yX5_value ∈ GL := List.mem_filter.mpr ⟨List.mem_of_getElem? (i := 371) (by decide +kernel), rfl⟩
set_option maxRecDepth 20000 in
theorem kw372 : Cond.selects RX5 yX5_value yX5_value ∈ GL := List.mem_filter.mpr ⟨List.mem_of_getElem? (i := 372) (by decide +kernel), rfl⟩
set_option maxRecDepth 20000 in
theorem kw373 : Cond.code yX5_value cX5_value 2 (some .int) ∈ GL := List.mem_filter.mpr ⟨List.mem_of_getElem? (i := 373) rfl, rfl⟩
set_option maxRecDepth 20000 in
theorem kw374 : Cond.methodLink RX5 81 yX5_bitOf ∈ GL := List.mem_filter.mpr ⟨List.mem_of_getElem? (i := 374) (by decide +kernel), rfl⟩
set_option maxRecDepth 20000 in
theorem kw375 : Cond.methodLink RL 40 yX5_logSize ∈ GL := List.mem_filter.mpr ⟨List.mem_of_getElem? (i := 375) (by decide +kernel), rfl⟩
set_option maxRecDepth 20000 in
theorem kw376 : Cond.instanceMethod yX5_logSize ∈ GL := List.mem_filter.mpr ⟨List.mem_of_getElem? (i := 376) (by decide +kernel), rfl⟩
set_option maxRecDepth 20000 in
theorem kw377 : Cond.selects RX5 yX5_logSize yX5_logSize ∈ GL := List.mem_filter.mpr ⟨List.mem_of_getElem? (i := 377) (by decide +kernel), rfl⟩
set_option maxRecDepth 20000 in
theorem kw378 : Cond.code yX5_logSize cX5_logSize 1 (some .int) ∈ GL := List.mem_filter.mpr ⟨List.mem_of_getElem? (i := 378) rfl, rfl⟩
set_option maxRecDepth 20000 in
theorem kw379 : Cond.methodLink RL 44 yX5_logAt ∈ GL := List.mem_filter.mpr ⟨List.mem_of_getElem? (i := 379) (by decide +kernel), rfl⟩
set_option maxRecDepth 20000 in
theorem kw380 : Cond.instanceMethod yX5_logAt ∈ GL := List.mem_filter.mpr ⟨List.mem_of_getElem? (i := 380) (by decide +kernel), rfl⟩
set_option maxRecDepth 20000 in
theorem kw381 : Cond.selects RX5 yX5_logAt yX5_logAt ∈ GL := List.mem_filter.mpr ⟨List.mem_of_getElem? (i := 381) (by decide +kernel), rfl⟩
set_option maxRecDepth 20000 in
theorem kw382 : Cond.code yX5_logAt cX5_logAt 2 (some .int) ∈ GL := List.mem_filter.mpr ⟨List.mem_of_getElem? (i := 382) rfl, rfl⟩
set_option maxRecDepth 20000 in
theorem kw385 : Cond.instanceMethod yX1_wordAt ∈ GL := List.mem_filter.mpr ⟨List.mem_of_getElem? (i := 385) (by decide +kernel), rfl⟩
set_option maxRecDepth 20000 in
theorem kw386 : Cond.code yX1_wordAt cX1_wordAt 2 (some .int) ∈ GL := List.mem_filter.mpr ⟨List.mem_of_getElem? (i := 386) rfl, rfl⟩
set_option maxRecDepth 20000 in
theorem kw387 : Cond.methodLink RX1 19 yX1_has ∈ GL := List.mem_filter.mpr ⟨List.mem_of_getElem? (i := 387) (by decide +kernel), rfl⟩
set_option maxRecDepth 20000 in
theorem kw389 : Cond.instanceMethod yX1_has ∈ GL := List.mem_filter.mpr ⟨List.mem_of_getElem? (i := 389) (by decide +kernel), rfl⟩
set_option maxRecDepth 20000 in
theorem kw390 : Cond.code yX1_has cX1_has 2 (some .boolean) ∈ GL := List.mem_filter.mpr ⟨List.mem_of_getElem? (i := 390) rfl, rfl⟩
set_option maxRecDepth 20000 in
theorem kw391 : Cond.methodLink RL 48 yX5_poke ∈ GL := List.mem_filter.mpr ⟨List.mem_of_getElem? (i := 391) (by decide +kernel), rfl⟩
set_option maxRecDepth 20000 in
theorem kw392 : Cond.instanceMethod yX5_poke ∈ GL := List.mem_filter.mpr ⟨List.mem_of_getElem? (i := 392) (by decide +kernel), rfl⟩
set_option maxRecDepth 20000 in
theorem kw393 : Cond.selects RX5 yX5_poke yX5_poke ∈ GL := List.mem_filter.mpr ⟨List.mem_of_getElem? (i := 393) (by decide +kernel), rfl⟩
set_option maxRecDepth 20000 in
theorem kw394 : Cond.code yX5_poke cX5_poke 3 (some .int) ∈ GL := List.mem_filter.mpr ⟨List.mem_of_getElem? (i := 394) rfl, rfl⟩
set_option maxRecDepth 20000 in
theorem kw397 : Cond.instanceMethod yX1_replace ∈ GL := List.mem_filter.mpr ⟨List.mem_of_getElem? (i := 397) (by decide +kernel), rfl⟩
set_option maxRecDepth 20000 in
theorem kw398 : Cond.code yX1_replace cX1_replace 3 (some .boolean) ∈ GL := List.mem_filter.mpr ⟨List.mem_of_getElem? (i := 398) rfl, rfl⟩
set_option maxRecDepth 20000 in
theorem kw399 : Cond.methodLink RX1 23 yX1_append ∈ GL := List.mem_filter.mpr ⟨List.mem_of_getElem? (i := 399) (by decide +kernel), rfl⟩
set_option maxRecDepth 20000 in
theorem kw402 : Cond.instanceMethod yX0_beginAnew ∈ GL := List.mem_filter.mpr ⟨List.mem_of_getElem? (i := 402) (by decide +kernel), rfl⟩
set_option maxRecDepth 20000 in
theorem kw403 : Cond.code yX0_beginAnew cX0_beginAnew 1 none ∈ GL := List.mem_filter.mpr ⟨List.mem_of_getElem? (i := 403) rfl, rfl⟩
set_option maxRecDepth 20000 in
theorem kw404 : Cond.methodLink RL 52 yX5_cut ∈ GL := List.mem_filter.mpr ⟨List.mem_of_getElem? (i := 404) (by decide +kernel), rfl⟩
set_option maxRecDepth 20000 in
theorem kw405 : Cond.instanceMethod yX5_cut ∈ GL := List.mem_filter.mpr ⟨List.mem_of_getElem? (i := 405) (by decide +kernel), rfl⟩
set_option maxRecDepth 20000 in
theorem kw406 : Cond.selects RX5 yX5_cut yX5_cut ∈ GL := List.mem_filter.mpr ⟨List.mem_of_getElem? (i := 406) (by decide +kernel), rfl⟩
set_option maxRecDepth 20000 in
theorem kw407 : Cond.code yX5_cut cX5_cut 2 (some .int) ∈ GL := List.mem_filter.mpr ⟨List.mem_of_getElem? (i := 407) rfl, rfl⟩
set_option maxRecDepth 20000 in
theorem kw410 : Cond.instanceMethod yX1_shorten ∈ GL := List.mem_filter.mpr ⟨List.mem_of_getElem? (i := 410) (by decide +kernel), rfl⟩
set_option maxRecDepth 20000 in
theorem kw411 : Cond.code yX1_shorten cX1_shorten 2 (some .boolean) ∈ GL := List.mem_filter.mpr ⟨List.mem_of_getElem? (i := 411) rfl, rfl⟩
set_option maxRecDepth 20000 in
theorem kw413 : Cond.methodLink RL 56 yX5_check ∈ GL := List.mem_filter.mpr ⟨List.mem_of_getElem? (i := 413) (by decide +kernel), rfl⟩
set_option maxRecDepth 20000 in
theorem kw414 : Cond.instanceMethod yX5_check ∈ GL := List.mem_filter.mpr ⟨List.mem_of_getElem? (i := 414) (by decide +kernel), rfl⟩
set_option maxRecDepth 20000 in
theorem kw415 : Cond.selects RX5 yX5_check yX5_check ∈ GL := List.mem_filter.mpr ⟨List.mem_of_getElem? (i := 415) (by decide +kernel), rfl⟩
set_option maxRecDepth 20000 in
theorem kw416 : Cond.code yX5_check cX5_check 2 (some .int) ∈ GL := List.mem_filter.mpr ⟨List.mem_of_getElem? (i := 416) rfl, rfl⟩
set_option maxRecDepth 20000 in
theorem kw419 : Cond.instanceMethod yX0_readOn ∈ GL := List.mem_filter.mpr ⟨List.mem_of_getElem? (i := 419) (by decide +kernel), rfl⟩
set_option maxRecDepth 20000 in
theorem kw420 : Cond.code yX0_readOn cX0_readOn 3 (some .int) ∈ GL := List.mem_filter.mpr ⟨List.mem_of_getElem? (i := 420) rfl, rfl⟩
set_option maxRecDepth 20000 in
theorem kw421 : Cond.methodLink RX0 45 yX0_begin ∈ GL := List.mem_filter.mpr ⟨List.mem_of_getElem? (i := 421) (by decide +kernel), rfl⟩
set_option maxRecDepth 20000 in
theorem kw423 : Cond.instanceMethod yX0_begin ∈ GL := List.mem_filter.mpr ⟨List.mem_of_getElem? (i := 423) (by decide +kernel), rfl⟩
set_option maxRecDepth 20000 in
theorem kw424 : Cond.code yX0_begin cX0_begin 1 none ∈ GL := List.mem_filter.mpr ⟨List.mem_of_getElem? (i := 424) rfl, rfl⟩
set_option maxRecDepth 20000 in
theorem kw425 : Cond.methodLink RX0 62 yX0_claimHolds ∈ GL := List.mem_filter.mpr ⟨List.mem_of_getElem? (i := 425) (by decide +kernel), rfl⟩
set_option maxRecDepth 20000 in
theorem kw427 : Cond.instanceMethod yX0_claimHolds ∈ GL := List.mem_filter.mpr ⟨List.mem_of_getElem? (i := 427) (by decide +kernel), rfl⟩
set_option maxRecDepth 20000 in
theorem kw428 : Cond.code yX0_claimHolds cX0_claimHolds 2 (some .boolean) ∈ GL := List.mem_filter.mpr ⟨List.mem_of_getElem? (i := 428) rfl, rfl⟩
set_option maxRecDepth 20000 in
theorem kw429 : Cond.methodLink RX0 66 yX0_claim ∈ GL := List.mem_filter.mpr ⟨List.mem_of_getElem? (i := 429) (by decide +kernel), rfl⟩
set_option maxRecDepth 20000 in
theorem kw431 : Cond.instanceMethod yX0_claim ∈ GL := List.mem_filter.mpr ⟨List.mem_of_getElem? (i := 431) (by decide +kernel), rfl⟩
set_option maxRecDepth 20000 in
theorem kw432 : Cond.code yX0_claim cX0_claim 1 (some .int) ∈ GL := List.mem_filter.mpr ⟨List.mem_of_getElem? (i := 432) rfl, rfl⟩
set_option maxRecDepth 20000 in
theorem kw434 : Cond.constant RX0 90 (65535) ∈ GL := List.mem_filter.mpr ⟨List.mem_of_getElem? (i := 434) (by decide +kernel), rfl⟩
set_option maxRecDepth 20000 in
theorem kw436 : Cond.constant RX0 95 (2097152) ∈ GL := List.mem_filter.mpr ⟨List.mem_of_getElem? (i := 436) (by decide +kernel), rfl⟩
set_option maxRecDepth 20000 in
theorem kw440 : Cond.methodLink RX0 83 yX0_enterTree ∈ GL := List.mem_filter.mpr ⟨List.mem_of_getElem? (i := 440) (by decide +kernel), rfl⟩
set_option maxRecDepth 20000 in
theorem kw442 : Cond.instanceMethod yX0_enterTree ∈ GL := List.mem_filter.mpr ⟨List.mem_of_getElem? (i := 442) (by decide +kernel), rfl⟩
set_option maxRecDepth 20000 in
theorem kw443 : Cond.code yX0_enterTree cX0_enterTree 4 none ∈ GL := List.mem_filter.mpr ⟨List.mem_of_getElem? (i := 443) rfl, rfl⟩
set_option maxRecDepth 20000 in
theorem kw444 : Cond.methodLink RX0 48 yX0_setWhatIsForced ∈ GL := List.mem_filter.mpr ⟨List.mem_of_getElem? (i := 444) (by decide +kernel), rfl⟩
set_option maxRecDepth 20000 in
theorem kw446 : Cond.instanceMethod yX0_setWhatIsForced ∈ GL := List.mem_filter.mpr ⟨List.mem_of_getElem? (i := 446) (by decide +kernel), rfl⟩
set_option maxRecDepth 20000 in
theorem kw447 : Cond.code yX0_setWhatIsForced cX0_setWhatIsForced 3 none ∈ GL := List.mem_filter.mpr ⟨List.mem_of_getElem? (i := 447) rfl, rfl⟩
set_option maxRecDepth 20000 in
theorem kw450 : Cond.methodLink RX0 51 yX0_readWord ∈ GL := List.mem_filter.mpr ⟨List.mem_of_getElem? (i := 450) (by decide +kernel), rfl⟩
set_option maxRecDepth 20000 in
theorem kw452 : Cond.instanceMethod yX0_readWord ∈ GL := List.mem_filter.mpr ⟨List.mem_of_getElem? (i := 452) (by decide +kernel), rfl⟩
set_option maxRecDepth 20000 in
theorem kw453 : Cond.code yX0_readWord cX0_readWord 2 none ∈ GL := List.mem_filter.mpr ⟨List.mem_of_getElem? (i := 453) rfl, rfl⟩
set_option maxRecDepth 20000 in
theorem kw454 : Cond.methodLink RX0 105 yX0_closeTree ∈ GL := List.mem_filter.mpr ⟨List.mem_of_getElem? (i := 454) (by decide +kernel), rfl⟩
set_option maxRecDepth 20000 in
theorem kw456 : Cond.instanceMethod yX0_closeTree ∈ GL := List.mem_filter.mpr ⟨List.mem_of_getElem? (i := 456) (by decide +kernel), rfl⟩
set_option maxRecDepth 20000 in
theorem kw457 : Cond.code yX0_closeTree cX0_closeTree 1 none ∈ GL := List.mem_filter.mpr ⟨List.mem_of_getElem? (i := 457) rfl, rfl⟩
set_option maxRecDepth 20000 in
theorem kw459 : Cond.methodLink RX0 112 yX0_splitTree ∈ GL := List.mem_filter.mpr ⟨List.mem_of_getElem? (i := 459) (by decide +kernel), rfl⟩
set_option maxRecDepth 20000 in
theorem kw461 : Cond.instanceMethod yX0_splitTree ∈ GL := List.mem_filter.mpr ⟨List.mem_of_getElem? (i := 461) (by decide +kernel), rfl⟩
set_option maxRecDepth 20000 in
theorem kw462 : Cond.code yX0_splitTree cX0_splitTree 3 none ∈ GL := List.mem_filter.mpr ⟨List.mem_of_getElem? (i := 462) rfl, rfl⟩
set_option maxRecDepth 20000 in
theorem kw464 : Cond.methodLink RL 60 yX5_steps ∈ GL := List.mem_filter.mpr ⟨List.mem_of_getElem? (i := 464) (by decide +kernel), rfl⟩
set_option maxRecDepth 20000 in
theorem kw465 : Cond.instanceMethod yX5_steps ∈ GL := List.mem_filter.mpr ⟨List.mem_of_getElem? (i := 465) (by decide +kernel), rfl⟩
set_option maxRecDepth 20000 in
theorem kw466 : Cond.selects RX5 yX5_steps yX5_steps ∈ GL := List.mem_filter.mpr ⟨List.mem_of_getElem? (i := 466) (by decide +kernel), rfl⟩
set_option maxRecDepth 20000 in
theorem kw467 : Cond.code yX5_steps cX5_steps 1 (some .int) ∈ GL := List.mem_filter.mpr ⟨List.mem_of_getElem? (i := 467) rfl, rfl⟩
set_option maxRecDepth 20000 in
theorem kw468 : Cond.classLink RL 10 RX6 ∈ GL := List.mem_filter.mpr ⟨List.mem_of_getElem? (i := 468) (by decide +kernel), rfl⟩
set_option maxRecDepth 20000 in
theorem kw469 : Cond.instantiable RX6 30 ∈ GL := List.mem_filter.mpr ⟨List.mem_of_getElem? (i := 469) (by decide +kernel), rfl⟩
set_option maxRecDepth 20000 in
theorem kw470 : Cond.methodLink RL 12 yX6_init ∈ GL := List.mem_filter.mpr ⟨List.mem_of_getElem? (i := 470) (by decide +kernel), rfl⟩
set_option maxRecDepth 20000 in
theorem kw471 : Cond.instanceMethod yX6_init ∈ GL := List.mem_filter.mpr ⟨List.mem_of_getElem? (i := 471) (by decide +kernel), rfl⟩
set_option maxRecDepth 20000 in
theorem kw472 : Cond.code yX6_init cX6_init 1 none ∈ GL := List.mem_filter.mpr ⟨List.mem_of_getElem? (i := 472) rfl, rfl⟩
set_option maxRecDepth 20000 in
theorem kw473 : Cond.methodLink RX6 1 objectInit ∈ GL := List.mem_filter.mpr ⟨List.mem_of_getElem? (i := 473) (by decide +kernel), rfl⟩
set_option maxRecDepth 20000 in
theorem kw474 : Cond.fieldLink RX6 7 "LeastCostModel" "costs" "[I" ∈ GL := List.mem_filter.mpr ⟨List.mem_of_getElem? (i := 474) (by decide +kernel), rfl⟩
set_option maxRecDepth 20000 in
theorem kw475 : Cond.fieldLink RX6 13 "LeastCostModel" "factors" "[I" ∈ GL := List.mem_filter.mpr ⟨List.mem_of_getElem? (i := 475) (by decide +kernel), rfl⟩
set_option maxRecDepth 20000 in
theorem kw476 : Cond.fieldLink RX6 16 "LeastCostModel" "literals" "[I" ∈ GL := List.mem_filter.mpr ⟨List.mem_of_getElem? (i := 476) (by decide +kernel), rfl⟩
set_option maxRecDepth 20000 in
theorem kw477 : Cond.fieldLink RX6 19 "LeastCostModel" "begins" "[I" ∈ GL := List.mem_filter.mpr ⟨List.mem_of_getElem? (i := 477) (by decide +kernel), rfl⟩
set_option maxRecDepth 20000 in
theorem kw478 : Cond.fieldLink RX6 22 "LeastCostModel" "bounds" "[I" ∈ GL := List.mem_filter.mpr ⟨List.mem_of_getElem? (i := 478) (by decide +kernel), rfl⟩
set_option maxRecDepth 20000 in
theorem kw479 : Cond.fieldLink RX6 65 "LeastCostModel" "constraints" "I" ∈ GL := List.mem_filter.mpr ⟨List.mem_of_getElem? (i := 479) (by decide +kernel), rfl⟩
set_option maxRecDepth 20000 in
theorem kw480 : Cond.fieldLink RX6 62 "LeastCostModel" "terms" "I" ∈ GL := List.mem_filter.mpr ⟨List.mem_of_getElem? (i := 480) (by decide +kernel), rfl⟩
set_option maxRecDepth 20000 in
theorem kw481 : Cond.fieldLink RX6 54 "LeastCostModel" "begun" "Z" ∈ GL := List.mem_filter.mpr ⟨List.mem_of_getElem? (i := 481) (by decide +kernel), rfl⟩
set_option maxRecDepth 20000 in
theorem kw482 : Cond.fieldLink RX6 116 "LeastCostModel" "done" "Z" ∈ GL := List.mem_filter.mpr ⟨List.mem_of_getElem? (i := 482) (by decide +kernel), rfl⟩
set_option maxRecDepth 20000 in
theorem kw483 : Cond.fieldLink RX6 96 "LeastCostModel" "over" "Z" ∈ GL := List.mem_filter.mpr ⟨List.mem_of_getElem? (i := 483) (by decide +kernel), rfl⟩
set_option maxRecDepth 20000 in
theorem kw484 : Cond.fieldLink RX6 69 "LeastCostModel" "set" "I" ∈ GL := List.mem_filter.mpr ⟨List.mem_of_getElem? (i := 484) (by decide +kernel), rfl⟩
set_option maxRecDepth 20000 in
theorem kw485 : Cond.fieldLink RX6 72 "LeastCostModel" "ones" "I" ∈ GL := List.mem_filter.mpr ⟨List.mem_of_getElem? (i := 485) (by decide +kernel), rfl⟩
set_option maxRecDepth 20000 in
theorem kw486 : Cond.fieldLink RX6 25 "LeastCostModel" "trail" "[I" ∈ GL := List.mem_filter.mpr ⟨List.mem_of_getElem? (i := 486) (by decide +kernel), rfl⟩
set_option maxRecDepth 20000 in
theorem kw487 : Cond.fieldLink RX6 28 "LeastCostModel" "choice" "[Z" ∈ GL := List.mem_filter.mpr ⟨List.mem_of_getElem? (i := 487) (by decide +kernel), rfl⟩
set_option maxRecDepth 20000 in
theorem kw488 : Cond.fieldLink RX6 103 "LeastCostModel" "depth" "I" ∈ GL := List.mem_filter.mpr ⟨List.mem_of_getElem? (i := 488) (by decide +kernel), rfl⟩
set_option maxRecDepth 20000 in
theorem kw489 : Cond.fieldLink RX6 133 "LeastCostModel" "searchSet" "I" ∈ GL := List.mem_filter.mpr ⟨List.mem_of_getElem? (i := 489) (by decide +kernel), rfl⟩
set_option maxRecDepth 20000 in
theorem kw490 : Cond.fieldLink RX6 136 "LeastCostModel" "searchOnes" "I" ∈ GL := List.mem_filter.mpr ⟨List.mem_of_getElem? (i := 490) (by decide +kernel), rfl⟩
set_option maxRecDepth 20000 in
theorem kw491 : Cond.fieldLink RX6 32 "LeastCostModel" "best" "I" ∈ GL := List.mem_filter.mpr ⟨List.mem_of_getElem? (i := 491) (by decide +kernel), rfl⟩
set_option maxRecDepth 20000 in
theorem kw492 : Cond.fieldLink RX6 113 "LeastCostModel" "bestOnes" "I" ∈ GL := List.mem_filter.mpr ⟨List.mem_of_getElem? (i := 492) (by decide +kernel), rfl⟩
set_option maxRecDepth 20000 in
theorem kw493 : Cond.fieldLink RX6 119 "LeastCostModel" "made" "I" ∈ GL := List.mem_filter.mpr ⟨List.mem_of_getElem? (i := 493) (by decide +kernel), rfl⟩
set_option maxRecDepth 20000 in
theorem kw494 : Cond.fieldLink RX6 36 "LeastCostModel" "log" "[I" ∈ GL := List.mem_filter.mpr ⟨List.mem_of_getElem? (i := 494) (by decide +kernel), rfl⟩
set_option maxRecDepth 20000 in
theorem kw495 : Cond.fieldLink RX6 93 "LeastCostModel" "size" "I" ∈ GL := List.mem_filter.mpr ⟨List.mem_of_getElem? (i := 495) (by decide +kernel), rfl⟩
set_option maxRecDepth 20000 in
theorem kw496 : Cond.fieldLink RX6 39 "LeastCostModel" "answer" "I" ∈ GL := List.mem_filter.mpr ⟨List.mem_of_getElem? (i := 496) (by decide +kernel), rfl⟩
set_option maxRecDepth 20000 in
theorem kw497 : Cond.fieldLink RX6 145 "LeastCostModel" "looked" "Z" ∈ GL := List.mem_filter.mpr ⟨List.mem_of_getElem? (i := 497) (by decide +kernel), rfl⟩
set_option maxRecDepth 20000 in
theorem kw498 : Cond.fieldLink RX6 148 "LeastCostModel" "place" "I" ∈ GL := List.mem_filter.mpr ⟨List.mem_of_getElem? (i := 498) (by decide +kernel), rfl⟩
set_option maxRecDepth 20000 in
theorem kw499 : Cond.fieldLink RX6 151 "LeastCostModel" "waiting" "I" ∈ GL := List.mem_filter.mpr ⟨List.mem_of_getElem? (i := 499) (by decide +kernel), rfl⟩
set_option maxRecDepth 20000 in
theorem kw500 : Cond.fieldLink RX6 42 "LeastCostModel" "waitSet" "[I" ∈ GL := List.mem_filter.mpr ⟨List.mem_of_getElem? (i := 500) (by decide +kernel), rfl⟩
set_option maxRecDepth 20000 in
theorem kw501 : Cond.fieldLink RX6 45 "LeastCostModel" "waitOnes" "[I" ∈ GL := List.mem_filter.mpr ⟨List.mem_of_getElem? (i := 501) (by decide +kernel), rfl⟩
set_option maxRecDepth 20000 in
theorem kw502 : Cond.fieldLink RX6 48 "LeastCostModel" "waitDead" "[Z" ∈ GL := List.mem_filter.mpr ⟨List.mem_of_getElem? (i := 502) (by decide +kernel), rfl⟩
set_option maxRecDepth 20000 in
theorem kw564 : Cond.methodLink RL 17 yX6_setCost ∈ GL := List.mem_filter.mpr ⟨List.mem_of_getElem? (i := 564) (by decide +kernel), rfl⟩
set_option maxRecDepth 20000 in
theorem kw565 : Cond.instanceMethod yX6_setCost ∈ GL := List.mem_filter.mpr ⟨List.mem_of_getElem? (i := 565) (by decide +kernel), rfl⟩
set_option maxRecDepth 20000 in
theorem kw566 : Cond.selects RX6 yX6_setCost yX6_setCost ∈ GL := List.mem_filter.mpr ⟨List.mem_of_getElem? (i := 566) (by decide +kernel), rfl⟩
set_option maxRecDepth 20000 in
theorem kw567 : Cond.code yX6_setCost cX6_setCost 3 (some .int) ∈ GL := List.mem_filter.mpr ⟨List.mem_of_getElem? (i := 567) rfl, rfl⟩
set_option maxRecDepth 20000 in
theorem kw568 : Cond.methodLink RX6 58 yX6_isIn ∈ GL := List.mem_filter.mpr ⟨List.mem_of_getElem? (i := 568) (by decide +kernel), rfl⟩
set_option maxRecDepth 20000 in
theorem kw569 : Cond.static yX6_isIn ∈ GL := List.mem_filter.mpr ⟨List.mem_of_getElem? (i := 569) (by decide +kernel), rfl⟩
set_option maxRecDepth 20000 in
theorem kw570 : Cond.code yX6_isIn cX6_isIn 3 (some .boolean) ∈ GL := List.mem_filter.mpr ⟨List.mem_of_getElem? (i := 570) rfl, rfl⟩
set_option maxRecDepth 20000 in
theorem kw571 : Cond.methodLink RL 21 yX6_term ∈ GL := List.mem_filter.mpr ⟨List.mem_of_getElem? (i := 571) (by decide +kernel), rfl⟩
set_option maxRecDepth 20000 in
theorem kw572 : Cond.instanceMethod yX6_term ∈ GL := List.mem_filter.mpr ⟨List.mem_of_getElem? (i := 572) (by decide +kernel), rfl⟩
set_option maxRecDepth 20000 in
theorem kw573 : Cond.selects RX6 yX6_term yX6_term ∈ GL := List.mem_filter.mpr ⟨List.mem_of_getElem? (i := 573) (by decide +kernel), rfl⟩
set_option maxRecDepth 20000 in
theorem kw574 : Cond.code yX6_term cX6_term 6 (some .int) ∈ GL := List.mem_filter.mpr ⟨List.mem_of_getElem? (i := 574) rfl, rfl⟩
set_option maxRecDepth 20000 in
theorem kw575 : Cond.methodLink RL 26 yX6_end ∈ GL := List.mem_filter.mpr ⟨List.mem_of_getElem? (i := 575) (by decide +kernel), rfl⟩
set_option maxRecDepth 20000 in
theorem kw576 : Cond.instanceMethod yX6_end ∈ GL := List.mem_filter.mpr ⟨List.mem_of_getElem? (i := 576) (by decide +kernel), rfl⟩
set_option maxRecDepth 20000 in
theorem kw577 : Cond.selects RX6 yX6_end yX6_end ∈ GL := List.mem_filter.mpr ⟨List.mem_of_getElem? (i := 577) (by decide +kernel), rfl⟩
set_option maxRecDepth 20000 in
theorem kw578 : Cond.code yX6_end cX6_end 2 (some .int) ∈ GL := List.mem_filter.mpr ⟨List.mem_of_getElem? (i := 578) rfl, rfl⟩
set_option maxRecDepth 20000 in
theorem kw579 : Cond.constant RX6 68 (1073741824) ∈ GL := List.mem_filter.mpr ⟨List.mem_of_getElem? (i := 579) (by decide +kernel), rfl⟩
set_option maxRecDepth 20000 in
theorem kw580 : Cond.methodLink RL 30 yX6_run ∈ GL := List.mem_filter.mpr ⟨List.mem_of_getElem? (i := 580) (by decide +kernel), rfl⟩
set_option maxRecDepth 20000 in
theorem kw581 : Cond.instanceMethod yX6_run ∈ GL := List.mem_filter.mpr ⟨List.mem_of_getElem? (i := 581) (by decide +kernel), rfl⟩
set_option maxRecDepth 20000 in
theorem kw582 : Cond.selects RX6 yX6_run yX6_run ∈ GL := List.mem_filter.mpr ⟨List.mem_of_getElem? (i := 582) (by decide +kernel), rfl⟩
set_option maxRecDepth 20000 in
theorem kw583 : Cond.code yX6_run cX6_run 3 (some .int) ∈ GL := List.mem_filter.mpr ⟨List.mem_of_getElem? (i := 583) rfl, rfl⟩
set_option maxRecDepth 20000 in
theorem kw584 : Cond.methodLink RX6 139 yX6_step ∈ GL := List.mem_filter.mpr ⟨List.mem_of_getElem? (i := 584) (by decide +kernel), rfl⟩
set_option maxRecDepth 20000 in
theorem kw586 : Cond.instanceMethod yX6_step ∈ GL := List.mem_filter.mpr ⟨List.mem_of_getElem? (i := 586) (by decide +kernel), rfl⟩
set_option maxRecDepth 20000 in
theorem kw587 : Cond.code yX6_step cX6_step 4 none ∈ GL := List.mem_filter.mpr ⟨List.mem_of_getElem? (i := 587) rfl, rfl⟩
set_option maxRecDepth 20000 in
theorem kw588 : Cond.methodLink RX6 122 yX6_isBroken ∈ GL := List.mem_filter.mpr ⟨List.mem_of_getElem? (i := 588) (by decide +kernel), rfl⟩
set_option maxRecDepth 20000 in
theorem kw590 : Cond.instanceMethod yX6_isBroken ∈ GL := List.mem_filter.mpr ⟨List.mem_of_getElem? (i := 590) (by decide +kernel), rfl⟩
set_option maxRecDepth 20000 in
theorem kw591 : Cond.code yX6_isBroken cX6_isBroken 5 (some .boolean) ∈ GL := List.mem_filter.mpr ⟨List.mem_of_getElem? (i := 591) rfl, rfl⟩
set_option maxRecDepth 20000 in
theorem kw592 : Cond.methodLink RX6 85 yX6_cost ∈ GL := List.mem_filter.mpr ⟨List.mem_of_getElem? (i := 592) (by decide +kernel), rfl⟩
set_option maxRecDepth 20000 in
theorem kw594 : Cond.instanceMethod yX6_cost ∈ GL := List.mem_filter.mpr ⟨List.mem_of_getElem? (i := 594) (by decide +kernel), rfl⟩
set_option maxRecDepth 20000 in
theorem kw595 : Cond.code yX6_cost cX6_cost 3 (some .int) ∈ GL := List.mem_filter.mpr ⟨List.mem_of_getElem? (i := 595) rfl, rfl⟩
set_option maxRecDepth 20000 in
theorem kw596 : Cond.methodLink RX6 75 yX6_isSet ∈ GL := List.mem_filter.mpr ⟨List.mem_of_getElem? (i := 596) (by decide +kernel), rfl⟩
set_option maxRecDepth 20000 in
theorem kw598 : Cond.instanceMethod yX6_isSet ∈ GL := List.mem_filter.mpr ⟨List.mem_of_getElem? (i := 598) (by decide +kernel), rfl⟩
set_option maxRecDepth 20000 in
theorem kw599 : Cond.code yX6_isSet cX6_isSet 2 (some .boolean) ∈ GL := List.mem_filter.mpr ⟨List.mem_of_getElem? (i := 599) rfl, rfl⟩
set_option maxRecDepth 20000 in
theorem kw600 : Cond.methodLink RX6 79 yX6_isOne ∈ GL := List.mem_filter.mpr ⟨List.mem_of_getElem? (i := 600) (by decide +kernel), rfl⟩
set_option maxRecDepth 20000 in
theorem kw602 : Cond.instanceMethod yX6_isOne ∈ GL := List.mem_filter.mpr ⟨List.mem_of_getElem? (i := 602) (by decide +kernel), rfl⟩
set_option maxRecDepth 20000 in
theorem kw603 : Cond.code yX6_isOne cX6_isOne 2 (some .boolean) ∈ GL := List.mem_filter.mpr ⟨List.mem_of_getElem? (i := 603) rfl, rfl⟩
set_option maxRecDepth 20000 in
theorem kw604 : Cond.methodLink RX6 89 yX6_slack ∈ GL := List.mem_filter.mpr ⟨List.mem_of_getElem? (i := 604) (by decide +kernel), rfl⟩
set_option maxRecDepth 20000 in
theorem kw606 : Cond.instanceMethod yX6_slack ∈ GL := List.mem_filter.mpr ⟨List.mem_of_getElem? (i := 606) (by decide +kernel), rfl⟩
set_option maxRecDepth 20000 in
theorem kw607 : Cond.code yX6_slack cX6_slack 4 (some .int) ∈ GL := List.mem_filter.mpr ⟨List.mem_of_getElem? (i := 607) rfl, rfl⟩
set_option maxRecDepth 20000 in
theorem kw608 : Cond.methodLink RX6 82 yX6_isFalse ∈ GL := List.mem_filter.mpr ⟨List.mem_of_getElem? (i := 608) (by decide +kernel), rfl⟩
set_option maxRecDepth 20000 in
theorem kw610 : Cond.instanceMethod yX6_isFalse ∈ GL := List.mem_filter.mpr ⟨List.mem_of_getElem? (i := 610) (by decide +kernel), rfl⟩
set_option maxRecDepth 20000 in
theorem kw611 : Cond.code yX6_isFalse cX6_isFalse 3 (some .boolean) ∈ GL := List.mem_filter.mpr ⟨List.mem_of_getElem? (i := 611) rfl, rfl⟩
set_option maxRecDepth 20000 in
theorem kw612 : Cond.methodLink RX6 126 yX6_goBack ∈ GL := List.mem_filter.mpr ⟨List.mem_of_getElem? (i := 612) (by decide +kernel), rfl⟩
set_option maxRecDepth 20000 in
theorem kw614 : Cond.instanceMethod yX6_goBack ∈ GL := List.mem_filter.mpr ⟨List.mem_of_getElem? (i := 614) (by decide +kernel), rfl⟩
set_option maxRecDepth 20000 in
theorem kw615 : Cond.code yX6_goBack cX6_goBack 3 none ∈ GL := List.mem_filter.mpr ⟨List.mem_of_getElem? (i := 615) rfl, rfl⟩
set_option maxRecDepth 20000 in
theorem kw616 : Cond.methodLink RX6 106 yX6_write ∈ GL := List.mem_filter.mpr ⟨List.mem_of_getElem? (i := 616) (by decide +kernel), rfl⟩
set_option maxRecDepth 20000 in
theorem kw618 : Cond.instanceMethod yX6_write ∈ GL := List.mem_filter.mpr ⟨List.mem_of_getElem? (i := 618) (by decide +kernel), rfl⟩
set_option maxRecDepth 20000 in
theorem kw619 : Cond.code yX6_write cX6_write 2 (some .boolean) ∈ GL := List.mem_filter.mpr ⟨List.mem_of_getElem? (i := 619) rfl, rfl⟩
set_option maxRecDepth 20000 in
theorem kw620 : Cond.methodLink RX6 109 yX6_lay ∈ GL := List.mem_filter.mpr ⟨List.mem_of_getElem? (i := 620) (by decide +kernel), rfl⟩
set_option maxRecDepth 20000 in
theorem kw622 : Cond.instanceMethod yX6_lay ∈ GL := List.mem_filter.mpr ⟨List.mem_of_getElem? (i := 622) (by decide +kernel), rfl⟩
set_option maxRecDepth 20000 in
theorem kw623 : Cond.code yX6_lay cX6_lay 4 none ∈ GL := List.mem_filter.mpr ⟨List.mem_of_getElem? (i := 623) rfl, rfl⟩
set_option maxRecDepth 20000 in
theorem kw624 : Cond.methodLink RX6 99 yX6_put ∈ GL := List.mem_filter.mpr ⟨List.mem_of_getElem? (i := 624) (by decide +kernel), rfl⟩
set_option maxRecDepth 20000 in
theorem kw626 : Cond.instanceMethod yX6_put ∈ GL := List.mem_filter.mpr ⟨List.mem_of_getElem? (i := 626) (by decide +kernel), rfl⟩
set_option maxRecDepth 20000 in
theorem kw627 : Cond.code yX6_put cX6_put 3 none ∈ GL := List.mem_filter.mpr ⟨List.mem_of_getElem? (i := 627) rfl, rfl⟩
set_option maxRecDepth 20000 in
theorem kw628 : Cond.methodLink RX6 129 yX6_forced ∈ GL := List.mem_filter.mpr ⟨List.mem_of_getElem? (i := 628) (by decide +kernel), rfl⟩
set_option maxRecDepth 20000 in
theorem kw630 : Cond.instanceMethod yX6_forced ∈ GL := List.mem_filter.mpr ⟨List.mem_of_getElem? (i := 630) (by decide +kernel), rfl⟩
set_option maxRecDepth 20000 in
theorem kw631 : Cond.code yX6_forced cX6_forced 7 (some .int) ∈ GL := List.mem_filter.mpr ⟨List.mem_of_getElem? (i := 631) rfl, rfl⟩
set_option maxRecDepth 20000 in
theorem kw632 : Cond.methodLink RL 35 yX6_optimum ∈ GL := List.mem_filter.mpr ⟨List.mem_of_getElem? (i := 632) (by decide +kernel), rfl⟩
set_option maxRecDepth 20000 in
theorem kw633 : Cond.instanceMethod yX6_optimum ∈ GL := List.mem_filter.mpr ⟨List.mem_of_getElem? (i := 633) (by decide +kernel), rfl⟩
set_option maxRecDepth 20000 in
theorem kw634 : Cond.selects RX6 yX6_optimum yX6_optimum ∈ GL := List.mem_filter.mpr ⟨List.mem_of_getElem? (i := 634) (by decide +kernel), rfl⟩
set_option maxRecDepth 20000 in
theorem kw635 : Cond.code yX6_optimum cX6_optimum 1 (some .int) ∈ GL := List.mem_filter.mpr ⟨List.mem_of_getElem? (i := 635) rfl, rfl⟩
set_option maxRecDepth 20000 in
theorem kw636 : Cond.methodLink RL 39 yX6_value ∈ GL := List.mem_filter.mpr ⟨List.mem_of_getElem? (i := 636) (by decide +kernel), rfl⟩
set_option maxRecDepth 20000 in
theorem kw637 : Cond.instanceMethod yX6_value ∈ GL := List.mem_filter.mpr ⟨List.mem_of_getElem? (i := 637) (by decide +kernel), rfl⟩
set_option maxRecDepth 20000 in
theorem kw638 : Cond.selects RX6 yX6_value yX6_value ∈ GL := List.mem_filter.mpr ⟨List.mem_of_getElem? (i := 638) (by decide +kernel), rfl⟩
set_option maxRecDepth 20000 in
theorem kw639 : Cond.code yX6_value cX6_value 2 (some .int) ∈ GL := List.mem_filter.mpr ⟨List.mem_of_getElem? (i := 639) rfl, rfl⟩
set_option maxRecDepth 20000 in
theorem kw640 : Cond.methodLink RL 43 yX6_logSize ∈ GL := List.mem_filter.mpr ⟨List.mem_of_getElem? (i := 640) (by decide +kernel), rfl⟩
set_option maxRecDepth 20000 in
theorem kw641 : Cond.instanceMethod yX6_logSize ∈ GL := List.mem_filter.mpr ⟨List.mem_of_getElem? (i := 641) (by decide +kernel), rfl⟩
set_option maxRecDepth 20000 in
theorem kw642 : Cond.selects RX6 yX6_logSize yX6_logSize ∈ GL := List.mem_filter.mpr ⟨List.mem_of_getElem? (i := 642) (by decide +kernel), rfl⟩
set_option maxRecDepth 20000 in
theorem kw643 : Cond.code yX6_logSize cX6_logSize 1 (some .int) ∈ GL := List.mem_filter.mpr ⟨List.mem_of_getElem? (i := 643) rfl, rfl⟩
set_option maxRecDepth 20000 in
theorem kw644 : Cond.methodLink RL 47 yX6_logAt ∈ GL := List.mem_filter.mpr ⟨List.mem_of_getElem? (i := 644) (by decide +kernel), rfl⟩
set_option maxRecDepth 20000 in
theorem kw645 : Cond.instanceMethod yX6_logAt ∈ GL := List.mem_filter.mpr ⟨List.mem_of_getElem? (i := 645) (by decide +kernel), rfl⟩
set_option maxRecDepth 20000 in
theorem kw646 : Cond.selects RX6 yX6_logAt yX6_logAt ∈ GL := List.mem_filter.mpr ⟨List.mem_of_getElem? (i := 646) (by decide +kernel), rfl⟩
set_option maxRecDepth 20000 in
theorem kw647 : Cond.code yX6_logAt cX6_logAt 2 (some .int) ∈ GL := List.mem_filter.mpr ⟨List.mem_of_getElem? (i := 647) rfl, rfl⟩
set_option maxRecDepth 20000 in
theorem kw648 : Cond.methodLink RL 51 yX6_poke ∈ GL := List.mem_filter.mpr ⟨List.mem_of_getElem? (i := 648) (by decide +kernel), rfl⟩
set_option maxRecDepth 20000 in
theorem kw649 : Cond.instanceMethod yX6_poke ∈ GL := List.mem_filter.mpr ⟨List.mem_of_getElem? (i := 649) (by decide +kernel), rfl⟩
set_option maxRecDepth 20000 in
theorem kw650 : Cond.selects RX6 yX6_poke yX6_poke ∈ GL := List.mem_filter.mpr ⟨List.mem_of_getElem? (i := 650) (by decide +kernel), rfl⟩
set_option maxRecDepth 20000 in
theorem kw651 : Cond.code yX6_poke cX6_poke 3 (some .int) ∈ GL := List.mem_filter.mpr ⟨List.mem_of_getElem? (i := 651) rfl, rfl⟩
set_option maxRecDepth 20000 in
theorem kw652 : Cond.methodLink RX6 142 yX6_anew ∈ GL := List.mem_filter.mpr ⟨List.mem_of_getElem? (i := 652) (by decide +kernel), rfl⟩
set_option maxRecDepth 20000 in
theorem kw654 : Cond.instanceMethod yX6_anew ∈ GL := List.mem_filter.mpr ⟨List.mem_of_getElem? (i := 654) (by decide +kernel), rfl⟩
set_option maxRecDepth 20000 in
theorem kw655 : Cond.code yX6_anew cX6_anew 1 none ∈ GL := List.mem_filter.mpr ⟨List.mem_of_getElem? (i := 655) rfl, rfl⟩
set_option maxRecDepth 20000 in
theorem kw656 : Cond.methodLink RL 55 yX6_cut ∈ GL := List.mem_filter.mpr ⟨List.mem_of_getElem? (i := 656) (by decide +kernel), rfl⟩
set_option maxRecDepth 20000 in
theorem kw657 : Cond.instanceMethod yX6_cut ∈ GL := List.mem_filter.mpr ⟨List.mem_of_getElem? (i := 657) (by decide +kernel), rfl⟩
set_option maxRecDepth 20000 in
theorem kw658 : Cond.selects RX6 yX6_cut yX6_cut ∈ GL := List.mem_filter.mpr ⟨List.mem_of_getElem? (i := 658) (by decide +kernel), rfl⟩
set_option maxRecDepth 20000 in
theorem kw659 : Cond.code yX6_cut cX6_cut 2 (some .int) ∈ GL := List.mem_filter.mpr ⟨List.mem_of_getElem? (i := 659) rfl, rfl⟩
set_option maxRecDepth 20000 in
theorem kw660 : Cond.methodLink RL 59 yX6_check ∈ GL := List.mem_filter.mpr ⟨List.mem_of_getElem? (i := 660) (by decide +kernel), rfl⟩
set_option maxRecDepth 20000 in
theorem kw661 : Cond.instanceMethod yX6_check ∈ GL := List.mem_filter.mpr ⟨List.mem_of_getElem? (i := 661) (by decide +kernel), rfl⟩
set_option maxRecDepth 20000 in
theorem kw662 : Cond.selects RX6 yX6_check yX6_check ∈ GL := List.mem_filter.mpr ⟨List.mem_of_getElem? (i := 662) (by decide +kernel), rfl⟩
set_option maxRecDepth 20000 in
theorem kw663 : Cond.code yX6_check cX6_check 3 (some .int) ∈ GL := List.mem_filter.mpr ⟨List.mem_of_getElem? (i := 663) rfl, rfl⟩
set_option maxRecDepth 20000 in
theorem kw664 : Cond.methodLink RX6 159 yX6_look ∈ GL := List.mem_filter.mpr ⟨List.mem_of_getElem? (i := 664) (by decide +kernel), rfl⟩
set_option maxRecDepth 20000 in
theorem kw666 : Cond.instanceMethod yX6_look ∈ GL := List.mem_filter.mpr ⟨List.mem_of_getElem? (i := 666) (by decide +kernel), rfl⟩
set_option maxRecDepth 20000 in
theorem kw667 : Cond.code yX6_look cX6_look 2 none ∈ GL := List.mem_filter.mpr ⟨List.mem_of_getElem? (i := 667) rfl, rfl⟩
set_option maxRecDepth 20000 in
theorem kw668 : Cond.constant RX6 154 (65535) ∈ GL := List.mem_filter.mpr ⟨List.mem_of_getElem? (i := 668) (by decide +kernel), rfl⟩
set_option maxRecDepth 20000 in
theorem kw669 : Cond.methodLink RX6 162 yX6_word ∈ GL := List.mem_filter.mpr ⟨List.mem_of_getElem? (i := 669) (by decide +kernel), rfl⟩
set_option maxRecDepth 20000 in
theorem kw671 : Cond.instanceMethod yX6_word ∈ GL := List.mem_filter.mpr ⟨List.mem_of_getElem? (i := 671) (by decide +kernel), rfl⟩
set_option maxRecDepth 20000 in
theorem kw672 : Cond.code yX6_word cX6_word 8 none ∈ GL := List.mem_filter.mpr ⟨List.mem_of_getElem? (i := 672) rfl, rfl⟩
set_option maxRecDepth 20000 in
theorem kw673 : Cond.methodLink RX6 155 yX6_hold ∈ GL := List.mem_filter.mpr ⟨List.mem_of_getElem? (i := 673) (by decide +kernel), rfl⟩
set_option maxRecDepth 20000 in
theorem kw675 : Cond.instanceMethod yX6_hold ∈ GL := List.mem_filter.mpr ⟨List.mem_of_getElem? (i := 675) (by decide +kernel), rfl⟩
set_option maxRecDepth 20000 in
theorem kw676 : Cond.code yX6_hold cX6_hold 4 none ∈ GL := List.mem_filter.mpr ⟨List.mem_of_getElem? (i := 676) rfl, rfl⟩
set_option maxRecDepth 20000 in
theorem kw677 : Cond.methodLink RL 63 yX6_steps ∈ GL := List.mem_filter.mpr ⟨List.mem_of_getElem? (i := 677) (by decide +kernel), rfl⟩
set_option maxRecDepth 20000 in
theorem kw678 : Cond.instanceMethod yX6_steps ∈ GL := List.mem_filter.mpr ⟨List.mem_of_getElem? (i := 678) (by decide +kernel), rfl⟩
set_option maxRecDepth 20000 in
theorem kw679 : Cond.selects RX6 yX6_steps yX6_steps ∈ GL := List.mem_filter.mpr ⟨List.mem_of_getElem? (i := 679) (by decide +kernel), rfl⟩
set_option maxRecDepth 20000 in
theorem kw680 : Cond.code yX6_steps cX6_steps 1 (some .int) ∈ GL := List.mem_filter.mpr ⟨List.mem_of_getElem? (i := 680) rfl, rfl⟩
set_option maxRecDepth 20000 in
theorem kw0 : Cond.selects RX2 yX2_addTerm yX2_addTerm ∈ GL := List.mem_filter.mpr ⟨List.mem_of_getElem? (i := 0) (by decide +kernel), rfl⟩
set_option maxRecDepth 20000 in
theorem kw1 : Cond.selects RX2 yX2_makeConstraint yX2_makeConstraint ∈ GL := List.mem_filter.mpr ⟨List.mem_of_getElem? (i := 1) (by decide +kernel), rfl⟩
set_option maxRecDepth 20000 in
theorem kw2 : Cond.selects RX3 yX3_advance yX3_advance ∈ GL := List.mem_filter.mpr ⟨List.mem_of_getElem? (i := 2) (by decide +kernel), rfl⟩
set_option maxRecDepth 20000 in
theorem kw3 : Cond.selects RX3 yX3_step yX3_step ∈ GL := List.mem_filter.mpr ⟨List.mem_of_getElem? (i := 3) (by decide +kernel), rfl⟩
set_option maxRecDepth 20000 in
theorem kw4 : Cond.selects RX2 yX2_isBroken yX2_isBroken ∈ GL := List.mem_filter.mpr ⟨List.mem_of_getElem? (i := 4) (by decide +kernel), rfl⟩
set_option maxRecDepth 20000 in
theorem kw5 : Cond.selects RX2 yX2_slackOf yX2_slackOf ∈ GL := List.mem_filter.mpr ⟨List.mem_of_getElem? (i := 5) (by decide +kernel), rfl⟩
set_option maxRecDepth 20000 in
theorem kw6 : Cond.selects RX2 yX2_limitSlack yX2_limitSlack ∈ GL := List.mem_filter.mpr ⟨List.mem_of_getElem? (i := 6) (by decide +kernel), rfl⟩
set_option maxRecDepth 20000 in
theorem kw7 : Cond.selects RX2 yX2_costOf yX2_costOf ∈ GL := List.mem_filter.mpr ⟨List.mem_of_getElem? (i := 7) (by decide +kernel), rfl⟩
set_option maxRecDepth 20000 in
theorem kw8 : Cond.selects RX3 yX3_goBack yX3_goBack ∈ GL := List.mem_filter.mpr ⟨List.mem_of_getElem? (i := 8) (by decide +kernel), rfl⟩
set_option maxRecDepth 20000 in
theorem kw9 : Cond.selects RX3 yX3_writes yX3_writes ∈ GL := List.mem_filter.mpr ⟨List.mem_of_getElem? (i := 9) (by decide +kernel), rfl⟩
set_option maxRecDepth 20000 in
theorem kw10 : Cond.selects RX1 yX1_append yX1_append ∈ GL := List.mem_filter.mpr ⟨List.mem_of_getElem? (i := 10) (by decide +kernel), rfl⟩
set_option maxRecDepth 20000 in
theorem kw11 : Cond.selects RX3 yX3_finish yX3_finish ∈ GL := List.mem_filter.mpr ⟨List.mem_of_getElem? (i := 11) (by decide +kernel), rfl⟩
set_option maxRecDepth 20000 in
theorem kw12 : Cond.selects RX4 yX4_become yX4_become ∈ GL := List.mem_filter.mpr ⟨List.mem_of_getElem? (i := 12) (by decide +kernel), rfl⟩
set_option maxRecDepth 20000 in
theorem kw13 : Cond.selects RX4 yX4_makeTrue yX4_makeTrue ∈ GL := List.mem_filter.mpr ⟨List.mem_of_getElem? (i := 13) (by decide +kernel), rfl⟩
set_option maxRecDepth 20000 in
theorem kw14 : Cond.selects RX2 yX2_forcedLiteral yX2_forcedLiteral ∈ GL := List.mem_filter.mpr ⟨List.mem_of_getElem? (i := 14) (by decide +kernel), rfl⟩
set_option maxRecDepth 20000 in
theorem kw15 : Cond.selects RX2 yX2_forcedBy yX2_forcedBy ∈ GL := List.mem_filter.mpr ⟨List.mem_of_getElem? (i := 15) (by decide +kernel), rfl⟩
set_option maxRecDepth 20000 in
theorem kw16 : Cond.selects RX2 yX2_forcedByLimit yX2_forcedByLimit ∈ GL := List.mem_filter.mpr ⟨List.mem_of_getElem? (i := 16) (by decide +kernel), rfl⟩
set_option maxRecDepth 20000 in
theorem kw17 : Cond.selects RX4 yX4_leastNotSet yX4_leastNotSet ∈ GL := List.mem_filter.mpr ⟨List.mem_of_getElem? (i := 17) (by decide +kernel), rfl⟩
set_option maxRecDepth 20000 in
theorem kw18 : Cond.selects RX3 yX3_choose yX3_choose ∈ GL := List.mem_filter.mpr ⟨List.mem_of_getElem? (i := 18) (by decide +kernel), rfl⟩
set_option maxRecDepth 20000 in
theorem kw19 : Cond.selects RX3 yX3_keepBest yX3_keepBest ∈ GL := List.mem_filter.mpr ⟨List.mem_of_getElem? (i := 19) (by decide +kernel), rfl⟩
set_option maxRecDepth 20000 in
theorem kw20 : Cond.selects RX3 yX3_isDone yX3_isDone ∈ GL := List.mem_filter.mpr ⟨List.mem_of_getElem? (i := 20) (by decide +kernel), rfl⟩
set_option maxRecDepth 20000 in
theorem kw21 : Cond.selects RX1 yX1_wordAt yX1_wordAt ∈ GL := List.mem_filter.mpr ⟨List.mem_of_getElem? (i := 21) (by decide +kernel), rfl⟩
set_option maxRecDepth 20000 in
theorem kw22 : Cond.selects RX1 yX1_has yX1_has ∈ GL := List.mem_filter.mpr ⟨List.mem_of_getElem? (i := 22) (by decide +kernel), rfl⟩
set_option maxRecDepth 20000 in
theorem kw23 : Cond.selects RX1 yX1_replace yX1_replace ∈ GL := List.mem_filter.mpr ⟨List.mem_of_getElem? (i := 23) (by decide +kernel), rfl⟩
set_option maxRecDepth 20000 in
theorem kw24 : Cond.selects RX0 yX0_beginAnew yX0_beginAnew ∈ GL := List.mem_filter.mpr ⟨List.mem_of_getElem? (i := 24) (by decide +kernel), rfl⟩
set_option maxRecDepth 20000 in
theorem kw25 : Cond.selects RX1 yX1_shorten yX1_shorten ∈ GL := List.mem_filter.mpr ⟨List.mem_of_getElem? (i := 25) (by decide +kernel), rfl⟩
set_option maxRecDepth 20000 in
theorem kw26 : Cond.selects RX0 yX0_readOn yX0_readOn ∈ GL := List.mem_filter.mpr ⟨List.mem_of_getElem? (i := 26) (by decide +kernel), rfl⟩
set_option maxRecDepth 20000 in
theorem kw27 : Cond.selects RX0 yX0_begin yX0_begin ∈ GL := List.mem_filter.mpr ⟨List.mem_of_getElem? (i := 27) (by decide +kernel), rfl⟩
set_option maxRecDepth 20000 in
theorem kw28 : Cond.selects RX0 yX0_claimHolds yX0_claimHolds ∈ GL := List.mem_filter.mpr ⟨List.mem_of_getElem? (i := 28) (by decide +kernel), rfl⟩
set_option maxRecDepth 20000 in
theorem kw29 : Cond.selects RX0 yX0_claim yX0_claim ∈ GL := List.mem_filter.mpr ⟨List.mem_of_getElem? (i := 29) (by decide +kernel), rfl⟩
set_option maxRecDepth 20000 in
theorem kw30 : Cond.selects RX0 yX0_enterTree yX0_enterTree ∈ GL := List.mem_filter.mpr ⟨List.mem_of_getElem? (i := 30) (by decide +kernel), rfl⟩
set_option maxRecDepth 20000 in
theorem kw31 : Cond.selects RX0 yX0_setWhatIsForced yX0_setWhatIsForced ∈ GL := List.mem_filter.mpr ⟨List.mem_of_getElem? (i := 31) (by decide +kernel), rfl⟩
set_option maxRecDepth 20000 in
theorem kw32 : Cond.selects RX0 yX0_readWord yX0_readWord ∈ GL := List.mem_filter.mpr ⟨List.mem_of_getElem? (i := 32) (by decide +kernel), rfl⟩
set_option maxRecDepth 20000 in
theorem kw33 : Cond.selects RX0 yX0_closeTree yX0_closeTree ∈ GL := List.mem_filter.mpr ⟨List.mem_of_getElem? (i := 33) (by decide +kernel), rfl⟩
set_option maxRecDepth 20000 in
theorem kw34 : Cond.selects RX0 yX0_splitTree yX0_splitTree ∈ GL := List.mem_filter.mpr ⟨List.mem_of_getElem? (i := 34) (by decide +kernel), rfl⟩
set_option maxRecDepth 20000 in
theorem kw35 : Cond.selects RX6 yX6_step yX6_step ∈ GL := List.mem_filter.mpr ⟨List.mem_of_getElem? (i := 35) (by decide +kernel), rfl⟩
set_option maxRecDepth 20000 in
theorem kw36 : Cond.selects RX6 yX6_isBroken yX6_isBroken ∈ GL := List.mem_filter.mpr ⟨List.mem_of_getElem? (i := 36) (by decide +kernel), rfl⟩
set_option maxRecDepth 20000 in
theorem kw37 : Cond.selects RX6 yX6_cost yX6_cost ∈ GL := List.mem_filter.mpr ⟨List.mem_of_getElem? (i := 37) (by decide +kernel), rfl⟩
set_option maxRecDepth 20000 in
theorem kw38 : Cond.selects RX6 yX6_isSet yX6_isSet ∈ GL := List.mem_filter.mpr ⟨List.mem_of_getElem? (i := 38) (by decide +kernel), rfl⟩
set_option maxRecDepth 20000 in
theorem kw39 : Cond.selects RX6 yX6_isOne yX6_isOne ∈ GL := List.mem_filter.mpr ⟨List.mem_of_getElem? (i := 39) (by decide +kernel), rfl⟩
set_option maxRecDepth 20000 in
theorem kw40 : Cond.selects RX6 yX6_slack yX6_slack ∈ GL := List.mem_filter.mpr ⟨List.mem_of_getElem? (i := 40) (by decide +kernel), rfl⟩
set_option maxRecDepth 20000 in
theorem kw41 : Cond.selects RX6 yX6_isFalse yX6_isFalse ∈ GL := List.mem_filter.mpr ⟨List.mem_of_getElem? (i := 41) (by decide +kernel), rfl⟩
set_option maxRecDepth 20000 in
theorem kw42 : Cond.selects RX6 yX6_goBack yX6_goBack ∈ GL := List.mem_filter.mpr ⟨List.mem_of_getElem? (i := 42) (by decide +kernel), rfl⟩
set_option maxRecDepth 20000 in
theorem kw43 : Cond.selects RX6 yX6_write yX6_write ∈ GL := List.mem_filter.mpr ⟨List.mem_of_getElem? (i := 43) (by decide +kernel), rfl⟩
set_option maxRecDepth 20000 in
theorem kw44 : Cond.selects RX6 yX6_lay yX6_lay ∈ GL := List.mem_filter.mpr ⟨List.mem_of_getElem? (i := 44) (by decide +kernel), rfl⟩
set_option maxRecDepth 20000 in
theorem kw45 : Cond.selects RX6 yX6_put yX6_put ∈ GL := List.mem_filter.mpr ⟨List.mem_of_getElem? (i := 45) (by decide +kernel), rfl⟩
set_option maxRecDepth 20000 in
theorem kw46 : Cond.selects RX6 yX6_forced yX6_forced ∈ GL := List.mem_filter.mpr ⟨List.mem_of_getElem? (i := 46) (by decide +kernel), rfl⟩
set_option maxRecDepth 20000 in
theorem kw47 : Cond.selects RX6 yX6_anew yX6_anew ∈ GL := List.mem_filter.mpr ⟨List.mem_of_getElem? (i := 47) (by decide +kernel), rfl⟩
set_option maxRecDepth 20000 in
theorem kw48 : Cond.selects RX6 yX6_look yX6_look ∈ GL := List.mem_filter.mpr ⟨List.mem_of_getElem? (i := 48) (by decide +kernel), rfl⟩
set_option maxRecDepth 20000 in
theorem kw49 : Cond.selects RX6 yX6_word yX6_word ∈ GL := List.mem_filter.mpr ⟨List.mem_of_getElem? (i := 49) (by decide +kernel), rfl⟩
set_option maxRecDepth 20000 in
theorem kw50 : Cond.selects RX6 yX6_hold yX6_hold ∈ GL := List.mem_filter.mpr ⟨List.mem_of_getElem? (i := 50) (by decide +kernel), rfl⟩
set_option maxRecDepth 20000 in
theorem inX0_t : ∀ w ∈ u_ws RX0 TX0 13, w ∈ lw_tbl := by decide +kernel
theorem inX0 : ∀ w ∈ u_ws RX0 TX0 13, w ∈ GL := fun w h => List.mem_filter.mpr ⟨inX0_t w h, (show ∀ w ∈ u_ws RX0 TX0 13, goodWord w = true by decide +kernel) w h⟩
set_option maxRecDepth 20000 in
theorem inX1_t : ∀ w ∈ u_ws RX1 TX1 2, w ∈ lw_tbl := by decide +kernel
theorem inX1 : ∀ w ∈ u_ws RX1 TX1 2, w ∈ GL := fun w h => List.mem_filter.mpr ⟨inX1_t w h, (show ∀ w ∈ u_ws RX1 TX1 2, goodWord w = true by decide +kernel) w h⟩
set_option maxRecDepth 20000 in
theorem inX2_t : ∀ w ∈ u_ws RX2 TX2 9, w ∈ lw_tbl := by decide +kernel
theorem inX2 : ∀ w ∈ u_ws RX2 TX2 9, w ∈ GL := fun w h => List.mem_filter.mpr ⟨inX2_t w h, (show ∀ w ∈ u_ws RX2 TX2 9, goodWord w = true by decide +kernel) w h⟩
set_option maxRecDepth 20000 in
theorem inX3_t : ∀ w ∈ u_ws RX3 TX3 11, w ∈ lw_tbl := by decide +kernel
theorem inX3 : ∀ w ∈ u_ws RX3 TX3 11, w ∈ GL := fun w h => List.mem_filter.mpr ⟨inX3_t w h, (show ∀ w ∈ u_ws RX3 TX3 11, goodWord w = true by decide +kernel) w h⟩
set_option maxRecDepth 20000 in
theorem inX4_t : ∀ w ∈ u_ws RX4 TX4 2, w ∈ lw_tbl := by decide +kernel
theorem inX4 : ∀ w ∈ u_ws RX4 TX4 2, w ∈ GL := fun w h => List.mem_filter.mpr ⟨inX4_t w h, (show ∀ w ∈ u_ws RX4 TX4 2, goodWord w = true by decide +kernel) w h⟩
set_option maxRecDepth 20000 in
theorem inX5_t : ∀ w ∈ u_ws RX5 TX5 5, w ∈ lw_tbl := by decide +kernel
theorem inX5 : ∀ w ∈ u_ws RX5 TX5 5, w ∈ GL := fun w h => List.mem_filter.mpr ⟨inX5_t w h, (show ∀ w ∈ u_ws RX5 TX5 5, goodWord w = true by decide +kernel) w h⟩
set_option maxRecDepth 20000 in
theorem inX6_t : ∀ w ∈ u_ws RX6 TX6 30, w ∈ lw_tbl := by decide +kernel
theorem inX6 : ∀ w ∈ u_ws RX6 TX6 30, w ∈ GL := fun w h => List.mem_filter.mpr ⟨inX6_t w h, (show ∀ w ∈ u_ws RX6 TX6 30, goodWord w = true by decide +kernel) w h⟩
