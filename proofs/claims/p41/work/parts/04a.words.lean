theorem jgood_of {w : Cond} (h : (w.onTables && w.keeps) = true ∨ ∃ ty, w = .arrayClass ty) : goodWord w = true := by
  rcases h with h | ⟨ty, rfl⟩
  · cases w <;> first | exact h | rfl
  · rfl
theorem jm_0 : ∀ w ∈ k2_sels lw_privs, goodWord w = true → w ∈ jWS := fun w h hg => List.mem_filter.mpr ⟨List.mem_append_left _ h, hg⟩
theorem jm_1 : ∀ w ∈ tables_1_1, goodWord w = true → w ∈ jWS := fun w h hg => List.mem_filter.mpr ⟨List.mem_append_right _ (List.mem_append_left _ h), hg⟩
theorem jm_2 : ∀ w ∈ tables_1_2, goodWord w = true → w ∈ jWS := fun w h hg => List.mem_filter.mpr ⟨List.mem_append_right _ (List.mem_append_right _ (List.mem_append_left _ h)), hg⟩
theorem jm_3 : ∀ w ∈ tables_1_3, goodWord w = true → w ∈ jWS := fun w h hg => List.mem_filter.mpr ⟨List.mem_append_right _ (List.mem_append_right _ (List.mem_append_right _ (List.mem_append_left _ h))), hg⟩
theorem jm_4 : ∀ w ∈ tables_1_4, goodWord w = true → w ∈ jWS := fun w h hg => List.mem_filter.mpr ⟨List.mem_append_right _ (List.mem_append_right _ (List.mem_append_right _ (List.mem_append_right _ h))), hg⟩
def jgl_0 : List Cond := [.laysFinal "Triggerwright$Capture" "Triggerwright$Capture" "values" "[[I", .lays "Triggerwright$Capture" "Triggerwright$Capture" "triggerSample" "I", .lays "Triggerwright$Capture" "Triggerwright$Capture" "wanted" "I", .lays "Triggerwright$Capture" "Triggerwright$Capture" "taken" "I", .laysFinal "Triggerwright$Edge" "Triggerwright$Edge" "channel" "I", .laysFinal "Triggerwright$Edge" "Triggerwright$Edge" "level" "I", .laysFinal "Triggerwright$Edge" "Triggerwright$Edge" "hysteresis" "I", .laysFinal "Triggerwright$Edge" "Triggerwright$Edge" "rising" "Z", .lays "Triggerwright$Edge" "Triggerwright$Edge" "ready" "Z", .laysFinal "Triggerwright$Expression" "Triggerwright$Expression" "kinds" "[I", .laysFinal "Triggerwright$Expression" "Triggerwright$Expression" "details" "[I", .laysFinal "Triggerwright$Expression" "Triggerwright$Expression" "carried" "[I"]
set_option maxRecDepth 100000 in
theorem jgx_0 : GoodIn tables_1_1 jgl_0 := goodIn_r _ [69, 71, 73, 75, 178, 180, 182, 184, 186, 151, 153, 155] (by decide +kernel) (by decide +kernel)
theorem jg_0 : ∀ w ∈ jgl_0, w ∈ jWS := fun w h => jm_1 _ (jgx_0 w h).1 (jgood_of (jgx_0 w h).2)
def jgl_1 : List Cond := [.laysFinal "Triggerwright$Expression" "Triggerwright$Expression" "stack" "[I", .lays "Triggerwright$Expression" "Triggerwright$Expression" "parts" "I", .lays "Triggerwright$Expression" "Triggerwright$Expression" "height" "I", .laysFinal "Triggerwright$History" "Triggerwright$History" "values" "[[I", .lays "Triggerwright$History" "Triggerwright$History" "count" "I", .laysFinal "Triggerwright$Mask" "Triggerwright$Mask" "floor" "[I", .laysFinal "Triggerwright$Mask" "Triggerwright$Mask" "ceiling" "[I", .laysFinal "Triggerwright$Memory" "Triggerwright$Memory" "captures" "[LTriggerwright$Capture;", .lays "Triggerwright$Memory" "Triggerwright$Memory" "complete" "I", .lays "Triggerwright$Memory" "Triggerwright$Memory" "caught" "LTriggerwright$Capture;", .lays "Triggerwright$Memory" "Triggerwright$Memory" "armed" "Z", .lays "Triggerwright$Memory" "Triggerwright$Memory" "pre" "I"]
set_option maxRecDepth 100000 in
theorem jgx_1 : GoodIn tables_1_1 jgl_1 := goodIn_r _ [157, 159, 161, 41, 43, 132, 134, 98, 100, 102, 104, 106] (by decide +kernel) (by decide +kernel)
theorem jg_1 : ∀ w ∈ jgl_1, w ∈ jWS := fun w h => jm_1 _ (jgx_1 w h).1 (jgood_of (jgx_1 w h).2)
def jgl_2 : List Cond := [.lays "Triggerwright$Memory" "Triggerwright$Memory" "post" "I", .lays "Triggerwright$Memory" "Triggerwright$Memory" "holdoff" "I", .lays "Triggerwright$Memory" "Triggerwright$Memory" "triggered" "Z", .lays "Triggerwright$Memory" "Triggerwright$Memory" "latestTrigger" "I", .lays "Triggerwright$Memory" "Triggerwright$Memory" "failed" "I", .lays "Triggerwright$Memory" "Triggerwright$Memory" "offence" "I", .laysFinal "Triggerwright" "Triggerwright" "history" "LTriggerwright$History;", .laysFinal "Triggerwright" "Triggerwright" "memory" "LTriggerwright$Memory;", .laysFinal "Triggerwright" "Triggerwright" "mask" "LTriggerwright$Mask;", .laysFinal "Triggerwright" "Triggerwright" "expression" "LTriggerwright$Expression;", .laysFinal "Triggerwright" "Triggerwright" "row" "[I", .lays "Triggerwright" "Triggerwright" "condition" "LTriggerwright$Condition;"]
set_option maxRecDepth 100000 in
theorem jgx_2 : GoodIn tables_1_1 jgl_2 := goodIn_r _ [108, 110, 112, 114, 116, 118, 196, 198, 200, 202, 204, 206] (by decide +kernel) (by decide +kernel)
theorem jg_2 : ∀ w ∈ jgl_2, w ∈ jWS := fun w h => jm_1 _ (jgx_2 w h).1 (jgood_of (jgx_2 w h).2)
def jgl_3 : List Cond := [.laysFinal "Triggerwright$Runt" "Triggerwright$Runt" "channel" "I", .laysFinal "Triggerwright$Runt" "Triggerwright$Runt" "low" "I", .laysFinal "Triggerwright$Runt" "Triggerwright$Runt" "high" "I", .lays "Triggerwright$Runt" "Triggerwright$Runt" "sawOutside" "Z", .lays "Triggerwright$Runt" "Triggerwright$Runt" "inside" "Z", .lays "Triggerwright$Runt" "Triggerwright$Runt" "tooHigh" "Z", .laysFinal "Triggerwright$Sequence" "Triggerwright$Sequence" "firstLevel" "I", .laysFinal "Triggerwright$Sequence" "Triggerwright$Sequence" "secondLevel" "I", .laysFinal "Triggerwright$Sequence" "Triggerwright$Sequence" "span" "I", .lays "Triggerwright$Sequence" "Triggerwright$Sequence" "looked" "Z", .lays "Triggerwright$Sequence" "Triggerwright$Sequence" "firstBefore" "I", .lays "Triggerwright$Sequence" "Triggerwright$Sequence" "secondBefore" "I"]
set_option maxRecDepth 100000 in
theorem jgx_3 : GoodIn tables_1_2 jgl_3 := goodIn_r _ [121, 123, 125, 127, 129, 131, 152, 154, 156, 158, 160, 162] (by decide +kernel) (by decide +kernel)
theorem jg_3 : ∀ w ∈ jgl_3, w ∈ jWS := fun w h => jm_2 _ (jgx_3 w h).1 (jgood_of (jgx_3 w h).2)
def jgl_4 : List Cond := [.lays "Triggerwright$Sequence" "Triggerwright$Sequence" "remembers" "Z", .lays "Triggerwright$Sequence" "Triggerwright$Sequence" "remembered" "I", .laysFinal "Triggerwright$Width" "Triggerwright$Width" "channel" "I", .laysFinal "Triggerwright$Width" "Triggerwright$Width" "level" "I", .laysFinal "Triggerwright$Width" "Triggerwright$Width" "least" "I", .laysFinal "Triggerwright$Width" "Triggerwright$Width" "most" "I", .laysFinal "Triggerwright$Width" "Triggerwright$Width" "high" "Z", .lays "Triggerwright$Width" "Triggerwright$Width" "sawOutside" "Z", .lays "Triggerwright$Width" "Triggerwright$Width" "width" "I", .fieldLink "Triggerwright$Width" 7 "Triggerwright$Width" "channel" "I", .fieldLink "Triggerwright$Width" 13 "Triggerwright$Width" "level" "I", .fieldLink "Triggerwright$Width" 16 "Triggerwright$Width" "least" "I"]
set_option maxRecDepth 100000 in
theorem jgx_4 : GoodIn tables_1_2 jgl_4 := goodIn_r _ [164, 166, 90, 92, 94, 96, 98, 100, 102, 83, 84, 85] (by decide +kernel) (by decide +kernel)
theorem jg_4 : ∀ w ∈ jgl_4, w ∈ jWS := fun w h => jm_2 _ (jgx_4 w h).1 (jgood_of (jgx_4 w h).2)
def jgl_5 : List Cond := [.lays "Triggerwright" "Triggerwright" "firings" "I", .fieldLink "Triggerwright$History" 11 "Triggerwright$History" "values" "[[I", .fieldLink "Triggerwright$History" 16 "Triggerwright$History" "count" "I", .fieldLink "Triggerwright$Capture" 11 "Triggerwright$Capture" "values" "[[I", .fieldLink "Triggerwright$Capture" 16 "Triggerwright$Capture" "triggerSample" "I", .fieldLink "Triggerwright$Capture" 20 "Triggerwright$Capture" "wanted" "I", .fieldLink "Triggerwright$Capture" 23 "Triggerwright$Capture" "taken" "I", .fieldLink "Triggerwright$Memory" 11 "Triggerwright$Memory" "captures" "[LTriggerwright$Capture;", .fieldLink "Triggerwright$Memory" 36 "Triggerwright$Memory" "complete" "I", .fieldLink "Triggerwright$Memory" 32 "Triggerwright$Memory" "caught" "LTriggerwright$Capture;", .fieldLink "Triggerwright$Memory" 28 "Triggerwright$Memory" "armed" "Z", .fieldLink "Triggerwright$Memory" 17 "Triggerwright$Memory" "pre" "I"]
set_option maxRecDepth 100000 in
theorem jgx_5 : GoodIn tables_1_1 jgl_5 := goodIn_r _ [208, 37, 38, 61, 62, 64, 65, 78, 80, 82, 84, 86] (by decide +kernel) (by decide +kernel)
theorem jg_5 : ∀ w ∈ jgl_5, w ∈ jWS := fun w h => jm_1 _ (jgx_5 w h).1 (jgood_of (jgx_5 w h).2)
def jgl_6 : List Cond := [.fieldLink "Triggerwright$Memory" 21 "Triggerwright$Memory" "post" "I", .fieldLink "Triggerwright$Memory" 69 "Triggerwright$Memory" "holdoff" "I", .fieldLink "Triggerwright$Memory" 39 "Triggerwright$Memory" "triggered" "Z", .fieldLink "Triggerwright$Memory" 66 "Triggerwright$Memory" "latestTrigger" "I", .fieldLink "Triggerwright$Memory" 42 "Triggerwright$Memory" "failed" "I", .fieldLink "Triggerwright$Memory" 24 "Triggerwright$Memory" "offence" "I", .fieldLink "Triggerwright$Mask" 9 "Triggerwright$Mask" "floor" "[I", .fieldLink "Triggerwright$Mask" 15 "Triggerwright$Mask" "ceiling" "[I", .fieldLink "Triggerwright$Expression" 9 "Triggerwright$Expression" "kinds" "[I", .fieldLink "Triggerwright$Expression" 15 "Triggerwright$Expression" "details" "[I", .fieldLink "Triggerwright$Expression" 18 "Triggerwright$Expression" "carried" "[I", .fieldLink "Triggerwright$Expression" 21 "Triggerwright$Expression" "stack" "[I"]
set_option maxRecDepth 100000 in
theorem jgx_6 : GoodIn tables_1_1 jgl_6 := goodIn_r _ [88, 90, 92, 93, 94, 96, 130, 131, 143, 144, 145, 146] (by decide +kernel) (by decide +kernel)
theorem jg_6 : ∀ w ∈ jgl_6, w ∈ jWS := fun w h => jm_1 _ (jgx_6 w h).1 (jgood_of (jgx_6 w h).2)
def jgl_7 : List Cond := [.fieldLink "Triggerwright$Expression" 24 "Triggerwright$Expression" "parts" "I", .fieldLink "Triggerwright$Expression" 28 "Triggerwright$Expression" "height" "I", .fieldLink "Triggerwright$Edge" 7 "Triggerwright$Edge" "channel" "I", .fieldLink "Triggerwright$Edge" 13 "Triggerwright$Edge" "level" "I", .fieldLink "Triggerwright$Edge" 16 "Triggerwright$Edge" "hysteresis" "I", .fieldLink "Triggerwright$Edge" 19 "Triggerwright$Edge" "rising" "Z", .fieldLink "Triggerwright$Edge" 23 "Triggerwright$Edge" "ready" "Z", .fieldLink "Triggerwright" 12 "Triggerwright" "history" "LTriggerwright$History;", .fieldLink "Triggerwright" 19 "Triggerwright" "memory" "LTriggerwright$Memory;", .fieldLink "Triggerwright" 26 "Triggerwright" "mask" "LTriggerwright$Mask;", .fieldLink "Triggerwright" 33 "Triggerwright" "expression" "LTriggerwright$Expression;", .fieldLink "Triggerwright" 37 "Triggerwright" "row" "[I"]
set_option maxRecDepth 100000 in
theorem jgx_7 : GoodIn tables_1_1 jgl_7 := goodIn_r _ [147, 149, 173, 174, 175, 176, 177, 189, 190, 191, 192, 193] (by decide +kernel) (by decide +kernel)
theorem jg_7 : ∀ w ∈ jgl_7, w ∈ jWS := fun w h => jm_1 _ (jgx_7 w h).1 (jgood_of (jgx_7 w h).2)
def jgl_8 : List Cond := [.fieldLink "Triggerwright" 46 "Triggerwright" "condition" "LTriggerwright$Condition;", .fieldLink "Triggerwright" 111 "Triggerwright" "firings" "I", .initialized RX10, .methodLink RL 221 yX10_init, .instanceMethod yX10_init, .initialized RX4, .instanceMethod yX4_init, .initialized RX6, .methodLink RX10 18 yX6_init, .instanceMethod yX6_init, .initialized RX0, .instanceMethod yX0_init]
set_option maxRecDepth 100000 in
theorem jgx_8 : GoodIn tables_1_1 jgl_8 := goodIn_r _ [194, 195, 1, 23, 24, 2, 32, 3, 49, 50, 4, 57] (by decide +kernel) (by decide +kernel)
theorem jg_8 : ∀ w ∈ jgl_8, w ∈ jWS := fun w h => jm_1 _ (jgx_8 w h).1 (jgood_of (jgx_8 w h).2)
def jgl_9 : List Cond := [.fieldLink "Triggerwright$Width" 19 "Triggerwright$Width" "most" "I", .fieldLink "Triggerwright$Width" 22 "Triggerwright$Width" "high" "Z", .fieldLink "Triggerwright$Width" 29 "Triggerwright$Width" "sawOutside" "Z", .fieldLink "Triggerwright$Width" 26 "Triggerwright$Width" "width" "I", .fieldLink "Triggerwright$Runt" 7 "Triggerwright$Runt" "channel" "I", .fieldLink "Triggerwright$Runt" 13 "Triggerwright$Runt" "low" "I", .fieldLink "Triggerwright$Runt" 16 "Triggerwright$Runt" "high" "I", .fieldLink "Triggerwright$Runt" 26 "Triggerwright$Runt" "sawOutside" "Z", .fieldLink "Triggerwright$Runt" 19 "Triggerwright$Runt" "inside" "Z", .fieldLink "Triggerwright$Runt" 23 "Triggerwright$Runt" "tooHigh" "Z", .fieldLink "Triggerwright$Sequence" 7 "Triggerwright$Sequence" "firstLevel" "I", .fieldLink "Triggerwright$Sequence" 13 "Triggerwright$Sequence" "secondLevel" "I"]
set_option maxRecDepth 100000 in
theorem jgx_9 : GoodIn tables_1_2 jgl_9 := goodIn_r _ [86, 87, 88, 89, 115, 116, 117, 118, 119, 120, 144, 145] (by decide +kernel) (by decide +kernel)
theorem jg_9 : ∀ w ∈ jgl_9, w ∈ jWS := fun w h => jm_2 _ (jgx_9 w h).1 (jgood_of (jgx_9 w h).2)
def jgl_10 : List Cond := [.fieldLink "Triggerwright$Sequence" 16 "Triggerwright$Sequence" "span" "I", .fieldLink "Triggerwright$Sequence" 19 "Triggerwright$Sequence" "looked" "Z", .fieldLink "Triggerwright$Sequence" 23 "Triggerwright$Sequence" "firstBefore" "I", .fieldLink "Triggerwright$Sequence" 26 "Triggerwright$Sequence" "secondBefore" "I", .fieldLink "Triggerwright$Sequence" 29 "Triggerwright$Sequence" "remembers" "Z", .fieldLink "Triggerwright$Sequence" 32 "Triggerwright$Sequence" "remembered" "I", .methodLink RX10 54 yX10_checkValue, .static yX10_checkValue, .methodLink RL 14 yX10_setWidth, .instanceMethod yX10_setWidth, .selects RX10 yX10_setWidth yX10_setWidth, .methodLink RX10 63 yX9_init]
set_option maxRecDepth 100000 in
theorem jgx_10 : GoodIn tables_1_2 jgl_10 := goodIn_r _ [146, 147, 148, 149, 150, 151, 70, 71, 73, 74, 75, 79] (by decide +kernel) (by decide +kernel)
theorem jg_10 : ∀ w ∈ jgl_10, w ∈ jWS := fun w h => jm_2 _ (jgx_10 w h).1 (jgood_of (jgx_10 w h).2)
def jgl_12 : List Cond := [.initialized RX5, .methodLink RX10 25 yX5_init, .instanceMethod yX5_init, .initialized RJ7, .methodLink RX5 18 yJ7_fill_53178, .static yJ7_fill_53178, .initialized RX3, .instanceMethod yX3_init, .initialized RX2, .methodLink RX10 43 yX2_init, .instanceMethod yX2_init, .initialized RX1]
set_option maxRecDepth 100000 in
theorem jgx_12 : GoodIn tables_1_1 jgl_12 := goodIn_r _ [5, 123, 124, 6, 127, 128, 7, 140, 9, 166, 167, 8] (by decide +kernel) (by decide +kernel)
theorem jg_12 : ∀ w ∈ jgl_12, w ∈ jWS := fun w h => jm_1 _ (jgx_12 w h).1 (jgood_of (jgx_12 w h).2)
def jgl_13 : List Cond := [.instanceMethod yX1_init, .methodLink RL 188 yX10_arm, .instanceMethod yX10_arm, .selects RX10 yX10_arm yX10_arm, .methodLink RX10 97 yX6_beginAnew, .instanceMethod yX6_beginAnew, .selects RX6 yX6_beginAnew yX6_beginAnew, .methodLink RL 159 yX10_isArmed, .instanceMethod yX10_isArmed, .selects RX10 yX10_isArmed yX10_isArmed, .initialized RL, .methodLink RL 182 yL_sets]
set_option maxRecDepth 100000 in
theorem jgx_13 : GoodIn tables_1_1 jgl_13 := goodIn_r _ [170, 211, 212, 213, 215, 216, 217, 219, 220, 221, 0, 223] (by decide +kernel) (by decide +kernel)
theorem jg_13 : ∀ w ∈ jgl_13, w ∈ jWS := fun w h => jm_1 _ (jgx_13 w h).1 (jgood_of (jgx_13 w h).2)
def jgl_15 : List Cond := [.methodLink RL 33 yL_set, .static yL_set, .methodLink RL 8 yX10_setEdge, .instanceMethod yX10_setEdge, .selects RX10 yX10_setEdge yX10_setEdge, .methodLink RX10 50 yX10_checkChannel, .static yX10_checkChannel, .methodLink RX10 57 yX10_checkRange, .static yX10_checkRange, .initialized RX9, .initialized RX7, .initialized RX8]
set_option maxRecDepth 100000 in
theorem jgx_15 : GoodIn tables_1_1 jgl_15 := goodIn_r _ [228, 229, 231, 232, 233, 235, 236, 238, 239, 20, 18, 19] (by decide +kernel) (by decide +kernel)
theorem jg_15 : ∀ w ∈ jgl_15, w ∈ jWS := fun w h => jm_1 _ (jgx_15 w h).1 (jgood_of (jgx_15 w h).2)
def jgl_17 : List Cond := [.instanceMethod yX9_init, .methodLink RL 18 yX10_setRunt, .instanceMethod yX10_setRunt, .selects RX10 yX10_setRunt yX10_setRunt, .methodLink RX10 68 yX7_init, .instanceMethod yX7_init, .methodLink RL 22 yX10_setSequence, .instanceMethod yX10_setSequence, .selects RX10 yX10_setSequence yX10_setSequence, .methodLink RX10 72 yX8_init, .instanceMethod yX8_init, .methodLink RL 25 yX10_setLengths]
set_option maxRecDepth 100000 in
theorem jgx_17 : GoodIn tables_1_2 jgl_17 := goodIn_r _ [80, 105, 106, 107, 111, 112, 134, 135, 136, 140, 141, 169] (by decide +kernel) (by decide +kernel)
theorem jg_17 : ∀ w ∈ jgl_17, w ∈ jWS := fun w h => jm_2 _ (jgx_17 w h).1 (jgood_of (jgx_17 w h).2)
def jgl_18 : List Cond := [.instanceMethod yX10_setLengths, .selects RX10 yX10_setLengths yX10_setLengths, .methodLink RL 29 yX10_setMask, .instanceMethod yX10_setMask, .selects RX10 yX10_setMask yX10_setMask, .methodLink RX10 185 yX5_limit, .instanceMethod yX5_limit, .selects RX5 yX5_limit yX5_limit, .methodLink RL 212 yL_holds, .methodLink RL 43 yX10_setHoldoff, .instanceMethod yX10_setHoldoff, .selects RX10 yX10_setHoldoff yX10_setHoldoff]
set_option maxRecDepth 100000 in
theorem jgx_18 : GoodIn tables_1_2 jgl_18 := goodIn_r _ [170, 171, 189, 190, 191, 193, 194, 195, 197, 200, 201, 202] (by decide +kernel) (by decide +kernel)
theorem jg_18 : ∀ w ∈ jgl_18, w ∈ jWS := fun w h => jm_2 _ (jgx_18 w h).1 (jgood_of (jgx_18 w h).2)
def jgl_20 : List Cond := [.methodLink RL 179 yL_comes, .methodLink RL 47 yX10_push, .instanceMethod yX10_push, .selects RX10 yX10_push yX10_push, .methodLink RX10 104 yX10_takeRamp, .instanceMethod yX10_takeRamp, .methodLink RX10 114 yX10_kept, .static yX10_kept, .methodLink RX10 253 yJ9_min_f86c9, .static yJ9_min_f86c9, .methodLink RX10 256 yJ9_max_f86c9, .static yJ9_max_f86c9]
set_option maxRecDepth 100000 in
theorem jgx_20 : GoodIn tables_1_2 jgl_20 := goodIn_r _ [204, 207, 208, 209, 211, 213, 215, 216, 218, 219, 221, 222] (by decide +kernel) (by decide +kernel)
theorem jg_20 : ∀ w ∈ jgl_20, w ∈ jWS := fun w h => jm_2 _ (jgx_20 w h).1 (jgood_of (jgx_20 w h).2)
def jgl_21 : List Cond := [.selects RX10 yX10_takeRamp yX10_takeRamp, .selects RX10 yX10_takeSample yX10_takeSample, .selects RX6 yX6_mayTrigger yX6_mayTrigger, .selects RX6 yX6_startCatching yX6_startCatching, .selects RX10 yX10_checkRoom yX10_checkRoom, .selects RX10 yX10_checkOperands yX10_checkOperands, .selects RX10 yX10_checkRecord yX10_checkRecord, .selects RX10 yX10_checkPosition yX10_checkPosition, .selects RX10 yX10_checkTrace yX10_checkTrace, .selects RX10 yX10_fillRow yX10_fillRow, .selects RX3 yX3_compute yX3_compute, .selects RX3 yX3_ofOne yX3_ofOne]
set_option maxRecDepth 100000 in
theorem jgx_21 : GoodIn (k2_sels lw_privs) jgl_21 := goodIn_r _ [1, 2, 3, 4, 5, 6, 7, 8, 9, 10, 11, 12] (by decide +kernel) (by decide +kernel)
theorem jg_21 : ∀ w ∈ jgl_21, w ∈ jWS := fun w h => jm_0 _ (jgx_21 w h).1 (jgood_of (jgx_21 w h).2)
def jgl_22 : List Cond := [.initialized RJ9, .classLink RL 9 RX10, .instantiable RX10 7, .classLink RX10 9 RX4, .instantiable RX4 2, .classLink RX10 16 RX6, .instantiable RX6 11, .classLink RX6 9 RX0, .instantiable RX0 4, .classLink RX10 23 RX5, .instantiable RX5 2, .classLink RX10 30 RX3]
set_option maxRecDepth 100000 in
theorem jgx_22 : GoodIn tables_1_1 jgl_22 := goodIn_r _ [17, 21, 22, 29, 30, 47, 48, 53, 55, 121, 122, 137] (by decide +kernel) (by decide +kernel)
theorem jg_22 : ∀ w ∈ jgl_22, w ∈ jWS := fun w h => jm_1 _ (jgx_22 w h).1 (jgood_of (jgx_22 w h).2)
def jgl_23 : List Cond := [.methodLink RX10 118 yX10_takeSample, .instanceMethod yX10_takeSample, .methodLink RX10 122 ⟨RX1, "firesAt", "(III)Z"⟩, .sameMethod "Triggerwright$Condition" "Triggerwright$Condition" "firesAt" "(III)Z", .selects RX2 ⟨RX1, "firesAt", "(III)Z"⟩ yX2_firesAt, .instanceMethod yX2_firesAt, .selects RX7 ⟨RX1, "firesAt", "(III)Z"⟩ yX7_firesAt, .instanceMethod yX7_firesAt, .selects RX8 ⟨RX1, "firesAt", "(III)Z"⟩ yX8_firesAt, .instanceMethod yX8_firesAt, .classLink RX10 61 RX9, .instantiable RX9 7]
set_option maxRecDepth 100000 in
theorem jgx_23 : GoodIn tables_1_2 jgl_23 := goodIn_r _ [224, 226, 228, 230, 231, 232, 234, 235, 237, 238, 77, 78] (by decide +kernel) (by decide +kernel)
theorem jg_23 : ∀ w ∈ jgl_23, w ∈ jWS := fun w h => jm_2 _ (jgx_23 w h).1 (jgood_of (jgx_23 w h).2)
def jgl_25 : List Cond := [.methodLink RX10 128 yX6_takeSample, .instanceMethod yX6_takeSample, .selects RX6 yX6_takeSample yX6_takeSample, .methodLink RX6 50 yX6_mayTrigger, .instanceMethod yX6_mayTrigger, .methodLink RX6 54 yX6_startCatching, .instanceMethod yX6_startCatching, .methodLink RX6 72 yX0_begin, .instanceMethod yX0_begin, .selects RX0 yX0_begin yX0_begin, .methodLink RX6 75 yX4_back, .instanceMethod yX4_back]
set_option maxRecDepth 100000 in
theorem jgx_25 : GoodIn tables_1_3 jgl_25 := goodIn_r _ [3, 4, 5, 7, 9, 11, 13, 15, 16, 17, 19, 20] (by decide +kernel) (by decide +kernel)
theorem jg_25 : ∀ w ∈ jgl_25, w ∈ jWS := fun w h => jm_3 _ (jgx_25 w h).1 (jgood_of (jgx_25 w h).2)
def jgl_26 : List Cond := [.selects RX4 yX4_back yX4_back, .methodLink RX6 58 yX0_add, .instanceMethod yX0_add, .selects RX0 yX0_add yX0_add, .methodLink RX6 62 yX0_isFull, .instanceMethod yX0_isFull, .selects RX0 yX0_isFull yX0_isFull, .methodLink RX10 131 yX6_judgeLatest, .instanceMethod yX6_judgeLatest, .selects RX6 yX6_judgeLatest yX6_judgeLatest, .methodLink RX6 79 yX5_lowestOffence, .instanceMethod yX5_lowestOffence]
set_option maxRecDepth 100000 in
theorem jgx_26 : GoodIn tables_1_3 jgl_26 := goodIn_r _ [21, 23, 24, 25, 27, 28, 29, 31, 32, 33, 35, 36] (by decide +kernel) (by decide +kernel)
theorem jg_26 : ∀ w ∈ jgl_26, w ∈ jWS := fun w h => jm_3 _ (jgx_26 w h).1 (jgood_of (jgx_26 w h).2)
def jgl_27 : List Cond := [.selects RX5 yX5_lowestOffence yX5_lowestOffence, .methodLink RX5 30 yX0_at, .instanceMethod yX0_at, .selects RX0 yX0_at yX0_at, .methodLink RX10 135 yX4_add, .instanceMethod yX4_add, .selects RX4 yX4_add yX4_add, .methodLink RL 51 yX10_ramp, .instanceMethod yX10_ramp, .selects RX10 yX10_ramp yX10_ramp, .methodLink RL 194 yL_puts, .methodLink RL 70 yX10_putChannel]
set_option maxRecDepth 100000 in
theorem jgx_27 : GoodIn tables_1_3 jgl_27 := goodIn_r _ [37, 39, 40, 41, 43, 44, 45, 47, 48, 49, 51, 54] (by decide +kernel) (by decide +kernel)
theorem jg_27 : ∀ w ∈ jgl_27, w ∈ jWS := fun w h => jm_3 _ (jgx_27 w h).1 (jgood_of (jgx_27 w h).2)
def jgl_29 : List Cond := [.instanceMethod yX10_putChannel, .selects RX10 yX10_putChannel yX10_putChannel, .methodLink RX10 199 yX10_checkRoom, .instanceMethod yX10_checkRoom, .methodLink RX10 202 yX3_add, .instanceMethod yX3_add, .selects RX3 yX3_add yX3_add, .methodLink RL 73 yX10_putConstant, .instanceMethod yX10_putConstant, .selects RX10 yX10_putConstant yX10_putConstant, .methodLink RL 76 yX10_apply, .instanceMethod yX10_apply]
set_option maxRecDepth 100000 in
theorem jgx_29 : GoodIn tables_1_3 jgl_29 := goodIn_r _ [55, 56, 58, 60, 63, 64, 65, 67, 68, 69, 71, 72] (by decide +kernel) (by decide +kernel)
theorem jg_29 : ∀ w ∈ jgl_29, w ∈ jWS := fun w h => jm_3 _ (jgx_29 w h).1 (jgood_of (jgx_29 w h).2)
def jgl_30 : List Cond := [.selects RX10 yX10_apply yX10_apply, .methodLink RX10 204 yX10_checkOperands, .instanceMethod yX10_checkOperands, .methodLink RL 79 yX10_combine, .instanceMethod yX10_combine, .selects RX10 yX10_combine yX10_combine, .methodLink RL 222 yL_areAll, .static yL_areAll, .methodLink RL 146 yX10_records, .instanceMethod yX10_records, .selects RX10 yX10_records yX10_records, .methodLink RL 149 yX10_samples]
set_option maxRecDepth 100000 in
theorem jgx_30 : GoodIn tables_1_3 jgl_30 := goodIn_r _ [73, 75, 77, 80, 81, 82, 84, 85, 87, 88, 89, 91] (by decide +kernel) (by decide +kernel)
theorem jg_30 : ∀ w ∈ jgl_30, w ∈ jWS := fun w h => jm_3 _ (jgx_30 w h).1 (jgood_of (jgx_30 w h).2)
def jgl_31 : List Cond := [.instanceMethod yX10_samples, .selects RX10 yX10_samples yX10_samples, .methodLink RL 152 yX10_fired, .instanceMethod yX10_fired, .selects RX10 yX10_fired yX10_fired, .methodLink RL 155 yX10_isCatching, .instanceMethod yX10_isCatching, .selects RX10 yX10_isCatching yX10_isCatching, .methodLink RL 162 yX10_failures, .instanceMethod yX10_failures, .selects RX10 yX10_failures yX10_failures, .methodLink RL 165 yL_offence]
set_option maxRecDepth 100000 in
theorem jgx_31 : GoodIn tables_1_3 jgl_31 := goodIn_r _ [92, 93, 95, 96, 97, 99, 100, 101, 103, 104, 105, 107] (by decide +kernel) (by decide +kernel)
theorem jg_31 : ∀ w ∈ jgl_31, w ∈ jWS := fun w h => jm_3 _ (jgx_31 w h).1 (jgood_of (jgx_31 w h).2)
def jgl_33 : List Cond := [.methodLink RL 88 yX10_firstOffence, .instanceMethod yX10_firstOffence, .selects RX10 yX10_firstOffence yX10_firstOffence, .methodLink RL 169 yL_isRecord, .static yL_isRecord, .methodLink RL 111 yX10_length, .instanceMethod yX10_length, .selects RX10 yX10_length yX10_length, .methodLink RX10 139 yX10_checkRecord, .instanceMethod yX10_checkRecord, .methodLink RL 114 yX10_trigger, .instanceMethod yX10_trigger]
set_option maxRecDepth 100000 in
theorem jgx_33 : GoodIn tables_1_3 jgl_33 := goodIn_r _ [111, 112, 113, 131, 132, 134, 135, 136, 138, 140, 158, 159] (by decide +kernel) (by decide +kernel)
theorem jg_33 : ∀ w ∈ jgl_33, w ∈ jWS := fun w h => jm_3 _ (jgx_33 w h).1 (jgood_of (jgx_33 w h).2)
def jgl_34 : List Cond := [.selects RX10 yX10_trigger yX10_trigger, .methodLink RL 117 yL_value, .methodLink RL 55 yX10_value, .instanceMethod yX10_value, .selects RX10 yX10_value yX10_value, .methodLink RX10 154 yX10_checkPosition, .instanceMethod yX10_checkPosition, .methodLink RX10 158 yX0_at, .methodLink RL 120 yL_came, .static yL_came, .methodLink RL 124 yL_measured, .methodLink RL 94 yX10_least]
set_option maxRecDepth 100000 in
theorem jgx_34 : GoodIn tables_1_3 jgl_34 := goodIn_r _ [160, 162, 166, 167, 168, 170, 172, 175, 176, 177, 179, 182] (by decide +kernel) (by decide +kernel)
theorem jg_34 : ∀ w ∈ jgl_34, w ∈ jWS := fun w h => jm_3 _ (jgx_34 w h).1 (jgood_of (jgx_34 w h).2)
def jgl_36 : List Cond := [.instanceMethod yX10_least, .selects RX10 yX10_least yX10_least, .methodLink RX10 219 yX10_checkSource, .static yX10_checkSource, .methodLink RX10 213 yX10_checkTrace, .instanceMethod yX10_checkTrace, .methodLink RX10 216 yX10_fillRow, .instanceMethod yX10_fillRow, .methodLink RX10 234 yX3_fill, .instanceMethod yX3_fill, .selects RX3 yX3_fill yX3_fill, .methodLink RX3 31 yJ7_fill_53178]
set_option maxRecDepth 100000 in
theorem jgx_36 : GoodIn tables_1_3 jgl_36 := goodIn_r _ [183, 184, 186, 187, 189, 191, 194, 196, 198, 199, 200, 202] (by decide +kernel) (by decide +kernel)
theorem jg_36 : ∀ w ∈ jgl_36, w ∈ jWS := fun w h => jm_3 _ (jgx_36 w h).1 (jgood_of (jgx_36 w h).2)
def jgl_37 : List Cond := [.methodLink RX3 42 yX3_compute, .instanceMethod yX3_compute, .methodLink RX3 46 yX3_ofTwo, .static yX3_ofTwo, .methodLink RX3 63 yX3_keptResult, .static yX3_keptResult, .methodLink RX3 67 yJ9_min_7cf53, .static yJ9_min_7cf53, .methodLink RX3 70 yJ9_max_7cf53, .static yJ9_max_7cf53, .methodLink RX3 50 yX3_ofOne, .instanceMethod yX3_ofOne]
set_option maxRecDepth 100000 in
theorem jgx_37 : GoodIn tables_1_3 jgl_37 := goodIn_r _ [203, 205, 207, 208, 210, 211, 216, 217, 219, 220, 222, 224] (by decide +kernel) (by decide +kernel)
theorem jg_37 : ∀ w ∈ jgl_37, w ∈ jWS := fun w h => jm_3 _ (jgx_37 w h).1 (jgood_of (jgx_37 w h).2)
def jgl_39 : List Cond := [.methodLink RX3 57 yJ9_abs_0f7a4, .static yJ9_abs_0f7a4, .methodLink RX3 53 yX0_at, .methodLink RX10 170 yJ9_min_7cf53, .methodLink RL 97 yX10_greatest, .instanceMethod yX10_greatest, .selects RX10 yX10_greatest yX10_greatest, .methodLink RX10 175 yJ9_max_7cf53, .methodLink RL 100 yX10_crossings, .instanceMethod yX10_crossings, .selects RX10 yX10_crossings yX10_crossings, .selects RX9 ⟨RX1, "firesAt", "(III)Z"⟩ yX9_firesAt]
set_option maxRecDepth 100000 in
theorem jgx_39 : GoodIn tables_1_3 jgl_39 := goodIn_r _ [226, 227, 229, 230, 231, 232, 233, 235, 236, 237, 238, 0] (by decide +kernel) (by decide +kernel)
theorem jg_39 : ∀ w ∈ jgl_39, w ∈ jWS := fun w h => jm_3 _ (jgx_39 w h).1 (jgood_of (jgx_39 w h).2)
def jgl_41 : List Cond := [.methodLink RX10 222 yX10_crossesAt, .instanceMethod yX10_crossesAt, .methodLink RL 103 yX10_riseTime, .instanceMethod yX10_riseTime, .selects RX10 yX10_riseTime yX10_riseTime, .methodLink RL 128 yX10_average, .instanceMethod yX10_average, .selects RX10 yX10_average yX10_average, .methodLink RL 132 yL_rescanned, .methodLink RL 108 yX10_rescan, .instanceMethod yX10_rescan, .selects RX10 yX10_rescan yX10_rescan]
set_option maxRecDepth 100000 in
theorem jgx_41 : GoodIn tables_1_4 jgl_41 := goodIn_r _ [0, 2, 4, 5, 6, 14, 15, 16, 18, 21, 22, 23] (by decide +kernel) (by decide +kernel)
theorem jg_41 : ∀ w ∈ jgl_41, w ∈ jWS := fun w h => jm_4 _ (jgx_41 w h).1 (jgood_of (jgx_41 w h).2)
def jgl_42 : List Cond := [.selects RX10 yX10_crossesAt yX10_crossesAt, .selects RX10 yX10_checkGroup yX10_checkGroup]
set_option maxRecDepth 100000 in
theorem jgx_42 : GoodIn (k2_sels lw_privs) jgl_42 := goodIn_r _ [13, 14] (by decide +kernel) (by decide +kernel)
theorem jg_42 : ∀ w ∈ jgl_42, w ∈ jWS := fun w h => jm_0 _ (jgx_42 w h).1 (jgood_of (jgx_42 w h).2)
def jgl_43 : List Cond := [.methodLink RX2 26 yX2_init, .methodLink RX7 29 yX7_init, .methodLink RX8 35 yX8_init, .methodLink RX9 32 yX9_init, .methodLink RL 136 yL_isGrouped, .static yL_isGrouped, .methodLink RL 143 yL_grouped, .methodLink RL 60 yX10_low, .instanceMethod yX10_low, .selects RX10 yX10_low yX10_low, .methodLink RX10 162 yX10_checkGroup, .instanceMethod yX10_checkGroup]
set_option maxRecDepth 100000 in
theorem jgx_43 : GoodIn tables_1_4 jgl_43 := goodIn_r _ [32, 37, 42, 47, 48, 49, 51, 54, 55, 56, 58, 60] (by decide +kernel) (by decide +kernel)
theorem jg_43 : ∀ w ∈ jgl_43, w ∈ jWS := fun w h => jm_4 _ (jgx_43 w h).1 (jgood_of (jgx_43 w h).2)
def jgl_44 : List Cond := [.methodLink RX10 166 yX10_groupEnd, .static yX10_groupEnd, .methodLink RL 64 yX10_high, .instanceMethod yX10_high, .selects RX10 yX10_high yX10_high, .methodLink RL 67 yX10_mean, .instanceMethod yX10_mean, .selects RX10 yX10_mean yX10_mean, .methodLink RX10 178 yJ9_floorDiv_7cf53, .static yJ9_floorDiv_7cf53, .methodLink RL 140 yL_isRising, .static yL_isRising]
set_option maxRecDepth 100000 in
theorem jgx_44 : GoodIn tables_1_4 jgl_44 := goodIn_r _ [62, 63, 65, 66, 67, 69, 70, 71, 73, 74, 76, 77] (by decide +kernel) (by decide +kernel)
theorem jg_44 : ∀ w ∈ jgl_44, w ∈ jWS := fun w h => jm_4 _ (jgx_44 w h).1 (jgood_of (jgx_44 w h).2)
def jgl_46 : List Cond := [.methodLink RL 173 yL_traced, .methodLink RL 82 yX10_trace, .instanceMethod yX10_trace, .selects RX10 yX10_trace yX10_trace, .methodLink RL 226 yL_isDone, .static yL_isDone, .methodLink RL 197 yL_part, .static yL_part, .methodLink RL 201 yL_isCome, .static yL_isCome, .methodLink RL 205 yL_isSet, .static yL_isSet]
set_option maxRecDepth 100000 in
theorem jgx_46 : GoodIn tables_1_4 jgl_46 := goodIn_r _ [79, 82, 83, 84, 88, 89, 91, 92, 95, 96, 98, 99] (by decide +kernel) (by decide +kernel)
theorem jg_46 : ∀ w ∈ jgl_46, w ∈ jWS := fun w h => jm_4 _ (jgx_46 w h).1 (jgood_of (jgx_46 w h).2)
def jgl_47 : List Cond := [.methodLink RL 209 yL_isArmed, .static yL_isArmed, .methodLink RL 185 yX10_disarm, .instanceMethod yX10_disarm, .selects RX10 yX10_disarm yX10_disarm, .methodLink RL 215 yX10_clearMask, .instanceMethod yX10_clearMask, .selects RX10 yX10_clearMask yX10_clearMask, .methodLink RL 218 yL_isPut, .static yL_isPut, .methodLink RL 191 yX10_clearTrace, .instanceMethod yX10_clearTrace]
set_option maxRecDepth 100000 in
theorem jgx_47 : GoodIn tables_1_4 jgl_47 := goodIn_r _ [101, 102, 104, 105, 106, 108, 109, 110, 112, 113, 115, 116] (by decide +kernel) (by decide +kernel)
theorem jg_47 : ∀ w ∈ jgl_47, w ∈ jWS := fun w h => jm_4 _ (jgx_47 w h).1 (jgood_of (jgx_47 w h).2)
def jgl_49 : List Cond := [.selects RX10 yX10_clearTrace yX10_clearTrace, .methodLink RX10 181 ⟨RX1, "begunAnew", "()LTriggerwright$Condition;"⟩, .sameMethod "Triggerwright$Condition" "Triggerwright$Condition" "begunAnew" "()LTriggerwright$Condition;", .selects RX2 ⟨RX1, "begunAnew", "()LTriggerwright$Condition;"⟩ yX2_begunAnew, .instanceMethod yX2_begunAnew, .selects RX7 ⟨RX1, "begunAnew", "()LTriggerwright$Condition;"⟩ yX7_begunAnew, .instanceMethod yX7_begunAnew, .selects RX8 ⟨RX1, "begunAnew", "()LTriggerwright$Condition;"⟩ yX8_begunAnew, .instanceMethod yX8_begunAnew, .selects RX9 ⟨RX1, "begunAnew", "()LTriggerwright$Condition;"⟩ yX9_begunAnew, .instanceMethod yX9_begunAnew, .classLink RX2 8 RX2]
set_option maxRecDepth 100000 in
theorem jgx_49 : GoodIn tables_1_4 jgl_49 := goodIn_r _ [117, 25, 27, 28, 29, 33, 34, 38, 39, 43, 44, 31] (by decide +kernel) (by decide +kernel)
theorem jg_49 : ∀ w ∈ jgl_49, w ∈ jWS := fun w h => jm_4 _ (jgx_49 w h).1 (jgood_of (jgx_49 w h).2)
def jgl_50 : List Cond := [.instanceMethod yX9_firesAt, .constant RX3 73 (-1000000), .constant RX3 74 (1000000), .classLink RL 92 "java/util/NoSuchElementException", .classLink RX10 194 "java/util/NoSuchElementException", .classLink RX10 240 "java/lang/IndexOutOfBoundsException", .classLink RL 58 "java/lang/IndexOutOfBoundsException"]
set_option maxRecDepth 100000 in
theorem jgx_50 : GoodIn tables_1_3 jgl_50 := goodIn_r _ [1, 213, 214, 110, 115, 142, 165] (by decide +kernel) (by decide +kernel)
theorem jg_50 : ∀ w ∈ jgl_50, w ∈ jWS := fun w h => jm_3 _ (jgx_50 w h).1 (jgood_of (jgx_50 w h).2)
def jgl_51 : List Cond := [.instantiable RX3 6, .classLink RX10 41 RX2, .instantiable RX2 5, .arrayClass .int, .methodLink RX10 3 ⟨"java/lang/Object", "<init>", "()V"⟩, .instanceMethod ⟨"java/lang/Object", "<init>", "()V"⟩, .methodLink RX4 3 ⟨"java/lang/Object", "<init>", "()V"⟩, .methodLink RX6 3 ⟨"java/lang/Object", "<init>", "()V"⟩, .methodLink RX0 3 ⟨"java/lang/Object", "<init>", "()V"⟩, .methodLink RX5 3 ⟨"java/lang/Object", "<init>", "()V"⟩, .methodLink RX3 3 ⟨"java/lang/Object", "<init>", "()V"⟩, .methodLink RX1 1 ⟨"java/lang/Object", "<init>", "()V"⟩]
set_option maxRecDepth 100000 in
theorem jgx_51 : GoodIn tables_1_1 jgl_51 := goodIn_r _ [138, 164, 165, 46, 26, 27, 34, 52, 59, 126, 142, 172] (by decide +kernel) (by decide +kernel)
theorem jg_51 : ∀ w ∈ jgl_51, w ∈ jWS := fun w h => jm_1 _ (jgx_51 w h).1 (jgood_of (jgx_51 w h).2)
def jgl_52 : List Cond := [.classLink RX10 66 RX7, .instantiable RX7 6, .classLink RX10 70 RX8, .instantiable RX8 8, .classLink RX10 227 "java/lang/IllegalArgumentException", .classLink RX10 77 "java/lang/IllegalStateException"]
set_option maxRecDepth 100000 in
theorem jgx_52 : GoodIn tables_1_2 jgl_52 := goodIn_r _ [109, 110, 138, 139, 1, 173] (by decide +kernel) (by decide +kernel)
theorem jg_52 : ∀ w ∈ jgl_52, w ∈ jWS := fun w h => jm_2 _ (jgx_52 w h).1 (jgood_of (jgx_52 w h).2)
def jgl_53 : List Cond := [.classLink RX7 8 RX7, .classLink RX8 8 RX8, .classLink RX9 8 RX9, .constant RL 86 (-2000000030), .constant RL 106 (-2000000020), .constant RL 87 (-2000000010), .constant RL 107 (-2000000005), .constant RL 177 (-1000000), .constant RL 178 (1000000), .constant RL 7 (2147483647)]
set_option maxRecDepth 100000 in
theorem jgx_53 : GoodIn tables_1_4 jgl_53 := goodIn_r _ [36, 41, 46, 10, 11, 12, 13, 86, 87, 94] (by decide +kernel) (by decide +kernel)
theorem jg_53 : ∀ w ∈ jgl_53, w ∈ jWS := fun w h => jm_4 _ (jgx_53 w h).1 (jgood_of (jgx_53 w h).2)
def jgl_54 : List Cond := [.initialized "java/lang/IllegalArgumentException", .initialized "java/lang/IllegalStateException", .initialized "java/lang/IndexOutOfBoundsException", .initialized "java/util/NoSuchElementException", .classLink RL 39 "java/lang/IllegalArgumentException", .classLink RL 41 "java/lang/IllegalStateException"]
set_option maxRecDepth 100000 in
theorem jgx_54 : GoodIn tables_1_1 jgl_54 := goodIn_r _ [15, 16, 14, 13, 226, 227] (by decide +kernel) (by decide +kernel)
theorem jg_54 : ∀ w ∈ jgl_54, w ∈ jWS := fun w h => jm_1 _ (jgx_54 w h).1 (jgood_of (jgx_54 w h).2)
