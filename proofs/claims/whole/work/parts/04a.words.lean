theorem jgood_of {w : Cond} (h : (w.onTables && w.keeps) = true ∨ ∃ ty, w = .arrayClass ty) : goodWord w = true := by
  rcases h with h | ⟨ty, rfl⟩
  · cases w <;> first | exact h | rfl
  · rfl
theorem jm_0 : ∀ w ∈ k2_sels lw_privs, goodWord w = true → w ∈ jWS := fun w h hg => List.mem_filter.mpr ⟨List.mem_append_left _ h, hg⟩
theorem jm_1 : ∀ w ∈ tables_1_1, goodWord w = true → w ∈ jWS := fun w h hg => List.mem_filter.mpr ⟨List.mem_append_right _ (List.mem_append_left _ h), hg⟩
theorem jm_2 : ∀ w ∈ tables_1_2, goodWord w = true → w ∈ jWS := fun w h hg => List.mem_filter.mpr ⟨List.mem_append_right _ (List.mem_append_right _ (List.mem_append_left _ h)), hg⟩
theorem jm_3 : ∀ w ∈ tables_1_3, goodWord w = true → w ∈ jWS := fun w h hg => List.mem_filter.mpr ⟨List.mem_append_right _ (List.mem_append_right _ (List.mem_append_right _ (List.mem_append_left _ h))), hg⟩
theorem jm_4 : ∀ w ∈ tables_1_4, goodWord w = true → w ∈ jWS := fun w h hg => List.mem_filter.mpr ⟨List.mem_append_right _ (List.mem_append_right _ (List.mem_append_right _ (List.mem_append_right _ (List.mem_append_left _ h)))), hg⟩
theorem jm_5 : ∀ w ∈ tables_1_5, goodWord w = true → w ∈ jWS := fun w h hg => List.mem_filter.mpr ⟨List.mem_append_right _ (List.mem_append_right _ (List.mem_append_right _ (List.mem_append_right _ (List.mem_append_right _ (List.mem_append_left _ h))))), hg⟩
theorem jm_6 : ∀ w ∈ tables_1_6, goodWord w = true → w ∈ jWS := fun w h hg => List.mem_filter.mpr ⟨List.mem_append_right _ (List.mem_append_right _ (List.mem_append_right _ (List.mem_append_right _ (List.mem_append_right _ (List.mem_append_right _ h))))), hg⟩
def jgl_0 : List Cond := [.laysFinal "Triggerwright$Capture" "Triggerwright$Capture" "values" "[[I", .lays "Triggerwright$Capture" "Triggerwright$Capture" "triggerSample" "I", .lays "Triggerwright$Capture" "Triggerwright$Capture" "wanted" "I", .lays "Triggerwright$Capture" "Triggerwright$Capture" "taken" "I", .laysFinal "Triggerwright$Edge" "Triggerwright$Edge" "channel" "I", .laysFinal "Triggerwright$Edge" "Triggerwright$Edge" "level" "I", .laysFinal "Triggerwright$Edge" "Triggerwright$Edge" "hysteresis" "I", .laysFinal "Triggerwright$Edge" "Triggerwright$Edge" "rising" "Z", .lays "Triggerwright$Edge" "Triggerwright$Edge" "ready" "Z", .laysFinal "Triggerwright$Expression" "Triggerwright$Expression" "kinds" "[I", .laysFinal "Triggerwright$Expression" "Triggerwright$Expression" "details" "[I", .laysFinal "Triggerwright$Expression" "Triggerwright$Expression" "carried" "[I"]
set_option maxRecDepth 100000 in
theorem jgx_0 : GoodIn tables_1_1 jgl_0 := goodIn_r _ [70, 72, 74, 76, 179, 181, 183, 185, 187, 152, 154, 156] (by decide +kernel) (by decide +kernel)
theorem jg_0 : ∀ w ∈ jgl_0, w ∈ jWS := fun w h => jm_1 _ (jgx_0 w h).1 (jgood_of (jgx_0 w h).2)
def jgl_1 : List Cond := [.laysFinal "Triggerwright$Expression" "Triggerwright$Expression" "stack" "[I", .lays "Triggerwright$Expression" "Triggerwright$Expression" "parts" "I", .lays "Triggerwright$Expression" "Triggerwright$Expression" "height" "I", .laysFinal "Triggerwright$History" "Triggerwright$History" "values" "[[I", .lays "Triggerwright$History" "Triggerwright$History" "count" "I", .laysFinal "Triggerwright$Mask" "Triggerwright$Mask" "floor" "[I", .laysFinal "Triggerwright$Mask" "Triggerwright$Mask" "ceiling" "[I", .laysFinal "Triggerwright$Memory" "Triggerwright$Memory" "captures" "[LTriggerwright$Capture;", .lays "Triggerwright$Memory" "Triggerwright$Memory" "complete" "I", .lays "Triggerwright$Memory" "Triggerwright$Memory" "caught" "LTriggerwright$Capture;", .lays "Triggerwright$Memory" "Triggerwright$Memory" "armed" "Z", .lays "Triggerwright$Memory" "Triggerwright$Memory" "pre" "I"]
set_option maxRecDepth 100000 in
theorem jgx_1 : GoodIn tables_1_1 jgl_1 := goodIn_r _ [158, 160, 162, 42, 44, 133, 135, 99, 101, 103, 105, 107] (by decide +kernel) (by decide +kernel)
theorem jg_1 : ∀ w ∈ jgl_1, w ∈ jWS := fun w h => jm_1 _ (jgx_1 w h).1 (jgood_of (jgx_1 w h).2)
def jgl_2 : List Cond := [.lays "Triggerwright$Memory" "Triggerwright$Memory" "post" "I", .lays "Triggerwright$Memory" "Triggerwright$Memory" "holdoff" "I", .lays "Triggerwright$Memory" "Triggerwright$Memory" "triggered" "Z", .lays "Triggerwright$Memory" "Triggerwright$Memory" "latestTrigger" "I", .lays "Triggerwright$Memory" "Triggerwright$Memory" "failed" "I", .lays "Triggerwright$Memory" "Triggerwright$Memory" "offence" "I", .laysFinal "Triggerwright" "Triggerwright" "history" "LTriggerwright$History;", .laysFinal "Triggerwright" "Triggerwright" "memory" "LTriggerwright$Memory;", .laysFinal "Triggerwright" "Triggerwright" "mask" "LTriggerwright$Mask;", .laysFinal "Triggerwright" "Triggerwright" "expression" "LTriggerwright$Expression;", .laysFinal "Triggerwright" "Triggerwright" "row" "[I", .lays "Triggerwright" "Triggerwright" "condition" "LTriggerwright$Condition;"]
set_option maxRecDepth 100000 in
theorem jgx_2 : GoodIn tables_1_1 jgl_2 := goodIn_r _ [109, 111, 113, 115, 117, 119, 197, 199, 201, 203, 205, 207] (by decide +kernel) (by decide +kernel)
theorem jg_2 : ∀ w ∈ jgl_2, w ∈ jWS := fun w h => jm_1 _ (jgx_2 w h).1 (jgood_of (jgx_2 w h).2)
def jgl_3 : List Cond := [.laysFinal "Triggerwright$Runt" "Triggerwright$Runt" "channel" "I", .laysFinal "Triggerwright$Runt" "Triggerwright$Runt" "low" "I", .laysFinal "Triggerwright$Runt" "Triggerwright$Runt" "high" "I", .lays "Triggerwright$Runt" "Triggerwright$Runt" "sawOutside" "Z", .lays "Triggerwright$Runt" "Triggerwright$Runt" "inside" "Z", .lays "Triggerwright$Runt" "Triggerwright$Runt" "tooHigh" "Z", .laysFinal "Triggerwright$Sequence" "Triggerwright$Sequence" "firstLevel" "I", .laysFinal "Triggerwright$Sequence" "Triggerwright$Sequence" "secondLevel" "I", .laysFinal "Triggerwright$Sequence" "Triggerwright$Sequence" "span" "I", .lays "Triggerwright$Sequence" "Triggerwright$Sequence" "looked" "Z", .lays "Triggerwright$Sequence" "Triggerwright$Sequence" "firstBefore" "I", .lays "Triggerwright$Sequence" "Triggerwright$Sequence" "secondBefore" "I"]
set_option maxRecDepth 100000 in
theorem jgx_3 : GoodIn tables_1_2 jgl_3 := goodIn_r _ [160, 162, 164, 166, 168, 170, 194, 196, 198, 200, 202, 204] (by decide +kernel) (by decide +kernel)
theorem jg_3 : ∀ w ∈ jgl_3, w ∈ jWS := fun w h => jm_2 _ (jgx_3 w h).1 (jgood_of (jgx_3 w h).2)
def jgl_4 : List Cond := [.lays "Triggerwright$Sequence" "Triggerwright$Sequence" "remembers" "Z", .lays "Triggerwright$Sequence" "Triggerwright$Sequence" "remembered" "I", .laysFinal "Triggerwright$Width" "Triggerwright$Width" "channel" "I", .laysFinal "Triggerwright$Width" "Triggerwright$Width" "level" "I", .laysFinal "Triggerwright$Width" "Triggerwright$Width" "least" "I", .laysFinal "Triggerwright$Width" "Triggerwright$Width" "most" "I", .laysFinal "Triggerwright$Width" "Triggerwright$Width" "high" "Z", .lays "Triggerwright$Width" "Triggerwright$Width" "sawOutside" "Z", .lays "Triggerwright$Width" "Triggerwright$Width" "width" "I", .fieldLink "Triggerwright$Width" 7 "Triggerwright$Width" "channel" "I", .fieldLink "Triggerwright$Width" 13 "Triggerwright$Width" "level" "I", .fieldLink "Triggerwright$Width" 16 "Triggerwright$Width" "least" "I"]
set_option maxRecDepth 100000 in
theorem jgx_4 : GoodIn tables_1_2 jgl_4 := goodIn_r _ [206, 208, 126, 128, 130, 132, 134, 136, 138, 119, 120, 121] (by decide +kernel) (by decide +kernel)
theorem jg_4 : ∀ w ∈ jgl_4, w ∈ jWS := fun w h => jm_2 _ (jgx_4 w h).1 (jgood_of (jgx_4 w h).2)
def jgl_5 : List Cond := [.lays "Triggerwright" "Triggerwright" "firings" "I", .fieldLink "Triggerwright$History" 11 "Triggerwright$History" "values" "[[I", .fieldLink "Triggerwright$History" 16 "Triggerwright$History" "count" "I", .fieldLink "Triggerwright$Capture" 11 "Triggerwright$Capture" "values" "[[I", .fieldLink "Triggerwright$Capture" 16 "Triggerwright$Capture" "triggerSample" "I", .fieldLink "Triggerwright$Capture" 20 "Triggerwright$Capture" "wanted" "I", .fieldLink "Triggerwright$Capture" 23 "Triggerwright$Capture" "taken" "I", .fieldLink "Triggerwright$Memory" 11 "Triggerwright$Memory" "captures" "[LTriggerwright$Capture;", .fieldLink "Triggerwright$Memory" 36 "Triggerwright$Memory" "complete" "I", .fieldLink "Triggerwright$Memory" 32 "Triggerwright$Memory" "caught" "LTriggerwright$Capture;", .fieldLink "Triggerwright$Memory" 28 "Triggerwright$Memory" "armed" "Z", .fieldLink "Triggerwright$Memory" 17 "Triggerwright$Memory" "pre" "I"]
set_option maxRecDepth 100000 in
theorem jgx_5 : GoodIn tables_1_1 jgl_5 := goodIn_r _ [209, 38, 39, 62, 63, 65, 66, 79, 81, 83, 85, 87] (by decide +kernel) (by decide +kernel)
theorem jg_5 : ∀ w ∈ jgl_5, w ∈ jWS := fun w h => jm_1 _ (jgx_5 w h).1 (jgood_of (jgx_5 w h).2)
def jgl_6 : List Cond := [.lays "TriggerwrightModel" "TriggerwrightModel" "kind" "I", .lays "TriggerwrightModel" "TriggerwrightModel" "channel" "I", .lays "TriggerwrightModel" "TriggerwrightModel" "level" "I", .lays "TriggerwrightModel" "TriggerwrightModel" "other" "I", .lays "TriggerwrightModel" "TriggerwrightModel" "most" "I", .lays "TriggerwrightModel" "TriggerwrightModel" "isUp" "Z", .lays "TriggerwrightModel" "TriggerwrightModel" "hasLooked" "Z", .lays "TriggerwrightModel" "TriggerwrightModel" "before" "I", .lays "TriggerwrightModel" "TriggerwrightModel" "beforeSecond" "I", .lays "TriggerwrightModel" "TriggerwrightModel" "isReady" "Z", .lays "TriggerwrightModel" "TriggerwrightModel" "many" "I", .lays "TriggerwrightModel" "TriggerwrightModel" "pulse" "I"]
set_option maxRecDepth 100000 in
theorem jgx_6 : GoodIn tables_1_4 jgl_6 := goodIn_r _ [187, 189, 191, 193, 195, 197, 199, 201, 203, 205, 207, 209] (by decide +kernel) (by decide +kernel)
theorem jg_6 : ∀ w ∈ jgl_6, w ∈ jWS := fun w h => jm_4 _ (jgx_6 w h).1 (jgood_of (jgx_6 w h).2)
def jgl_7 : List Cond := [.lays "TriggerwrightModel" "TriggerwrightModel" "isSeen" "Z", .lays "TriggerwrightModel" "TriggerwrightModel" "isOver" "Z", .lays "TriggerwrightModel" "TriggerwrightModel" "isRemembered" "Z", .lays "TriggerwrightModel" "TriggerwrightModel" "remembered" "I", .lays "TriggerwrightModel" "TriggerwrightModel" "position" "I", .lays "TriggerwrightModel" "TriggerwrightModel" "pre" "I", .lays "TriggerwrightModel" "TriggerwrightModel" "post" "I", .lays "TriggerwrightModel" "TriggerwrightModel" "holdoff" "I", .lays "TriggerwrightModel" "TriggerwrightModel" "isArmed" "Z", .lays "TriggerwrightModel" "TriggerwrightModel" "isCatching" "Z", .lays "TriggerwrightModel" "TriggerwrightModel" "hasTriggered" "Z", .lays "TriggerwrightModel" "TriggerwrightModel" "latest" "I"]
set_option maxRecDepth 100000 in
theorem jgx_7 : GoodIn tables_1_4 jgl_7 := goodIn_r _ [211, 213, 215, 217, 219, 221, 223, 225, 227, 229, 231, 233] (by decide +kernel) (by decide +kernel)
theorem jg_7 : ∀ w ∈ jgl_7, w ∈ jWS := fun w h => jm_4 _ (jgx_7 w h).1 (jgood_of (jgx_7 w h).2)
def jgl_8 : List Cond := [.lays "TriggerwrightModel" "TriggerwrightModel" "samples" "I", .lays "TriggerwrightModel" "TriggerwrightModel" "fired" "I", .laysFinal "TriggerwrightModel" "TriggerwrightModel" "first" "[I", .fieldLink "TriggerwrightModel" 9 "TriggerwrightModel" "kind" "I", .fieldLink "TriggerwrightModel" 92 "TriggerwrightModel" "channel" "I", .fieldLink "TriggerwrightModel" 95 "TriggerwrightModel" "level" "I", .fieldLink "TriggerwrightModel" 98 "TriggerwrightModel" "other" "I", .fieldLink "TriggerwrightModel" 101 "TriggerwrightModel" "most" "I", .fieldLink "TriggerwrightModel" 13 "TriggerwrightModel" "isUp" "Z", .fieldLink "TriggerwrightModel" 71 "TriggerwrightModel" "hasLooked" "Z", .fieldLink "TriggerwrightModel" 121 "TriggerwrightModel" "before" "I", .fieldLink "TriggerwrightModel" 124 "TriggerwrightModel" "beforeSecond" "I"]
set_option maxRecDepth 100000 in
theorem jgx_8 : GoodIn tables_1_4 jgl_8 := goodIn_r _ [235, 237, 239, 142, 143, 144, 145, 146, 147, 148, 149, 150] (by decide +kernel) (by decide +kernel)
theorem jg_8 : ∀ w ∈ jgl_8, w ∈ jWS := fun w h => jm_4 _ (jgx_8 w h).1 (jgood_of (jgx_8 w h).2)
def jgl_9 : List Cond := [.laysFinal "TriggerwrightModel" "TriggerwrightModel" "second" "[I", .lays "TriggerwrightModel" "TriggerwrightModel" "records" "I", .laysFinal "TriggerwrightModel" "TriggerwrightModel" "caught" "[I", .laysFinal "TriggerwrightModel" "TriggerwrightModel" "length" "[I", .laysFinal "TriggerwrightModel" "TriggerwrightModel" "trigger" "[I", .laysFinal "TriggerwrightModel" "TriggerwrightModel" "isMasked" "[Z", .laysFinal "TriggerwrightModel" "TriggerwrightModel" "low" "[I", .laysFinal "TriggerwrightModel" "TriggerwrightModel" "high" "[I", .lays "TriggerwrightModel" "TriggerwrightModel" "failures" "I", .lays "TriggerwrightModel" "TriggerwrightModel" "offence" "I", .lays "TriggerwrightModel" "TriggerwrightModel" "parts" "I", .laysFinal "TriggerwrightModel" "TriggerwrightModel" "part" "[I"]
set_option maxRecDepth 100000 in
theorem jgx_9 : GoodIn tables_1_5 jgl_9 := goodIn_r _ [1, 3, 5, 7, 9, 11, 13, 15, 17, 19, 21, 23] (by decide +kernel) (by decide +kernel)
theorem jg_9 : ∀ w ∈ jgl_9, w ∈ jWS := fun w h => jm_5 _ (jgx_9 w h).1 (jgood_of (jgx_9 w h).2)
def jgl_10 : List Cond := [.laysFinal "TriggerwrightModel" "TriggerwrightModel" "one" "[I", .laysFinal "TriggerwrightModel" "TriggerwrightModel" "two" "[I", .lays "TriggerwrightModel" "TriggerwrightModel" "deep" "I", .laysFinal "TriggerwrightModel" "TriggerwrightModel" "stack" "[I", .laysFinal "TriggerwrightModel" "TriggerwrightModel" "traces" "[I", .lays "TriggerwrightModel" "TriggerwrightModel" "thrown" "I", .methodLink RL 124 yX11_thrown, .instanceMethod yX11_thrown, .selects RX11 yX11_thrown yX11_thrown, .methodLink RL 123 yX11_setEdge, .instanceMethod yX11_setEdge, .selects RX11 yX11_setEdge yX11_setEdge]
set_option maxRecDepth 100000 in
theorem jgx_10 : GoodIn tables_1_5 jgl_10 := goodIn_r _ [25, 27, 29, 31, 33, 35, 39, 40, 41, 43, 44, 45] (by decide +kernel) (by decide +kernel)
theorem jg_10 : ∀ w ∈ jgl_10, w ∈ jWS := fun w h => jm_5 _ (jgx_10 w h).1 (jgood_of (jgx_10 w h).2)
def jgl_11 : List Cond := [.fieldLink "Triggerwright$Memory" 21 "Triggerwright$Memory" "post" "I", .fieldLink "Triggerwright$Memory" 69 "Triggerwright$Memory" "holdoff" "I", .fieldLink "Triggerwright$Memory" 39 "Triggerwright$Memory" "triggered" "Z", .fieldLink "Triggerwright$Memory" 66 "Triggerwright$Memory" "latestTrigger" "I", .fieldLink "Triggerwright$Memory" 42 "Triggerwright$Memory" "failed" "I", .fieldLink "Triggerwright$Memory" 24 "Triggerwright$Memory" "offence" "I", .fieldLink "Triggerwright$Mask" 9 "Triggerwright$Mask" "floor" "[I", .fieldLink "Triggerwright$Mask" 15 "Triggerwright$Mask" "ceiling" "[I", .fieldLink "Triggerwright$Expression" 9 "Triggerwright$Expression" "kinds" "[I", .fieldLink "Triggerwright$Expression" 15 "Triggerwright$Expression" "details" "[I", .fieldLink "Triggerwright$Expression" 18 "Triggerwright$Expression" "carried" "[I", .fieldLink "Triggerwright$Expression" 21 "Triggerwright$Expression" "stack" "[I"]
set_option maxRecDepth 100000 in
theorem jgx_11 : GoodIn tables_1_1 jgl_11 := goodIn_r _ [89, 91, 93, 94, 95, 97, 131, 132, 144, 145, 146, 147] (by decide +kernel) (by decide +kernel)
theorem jg_11 : ∀ w ∈ jgl_11, w ∈ jWS := fun w h => jm_1 _ (jgx_11 w h).1 (jgood_of (jgx_11 w h).2)
def jgl_12 : List Cond := [.fieldLink "Triggerwright$Expression" 24 "Triggerwright$Expression" "parts" "I", .fieldLink "Triggerwright$Expression" 28 "Triggerwright$Expression" "height" "I", .fieldLink "Triggerwright$Edge" 7 "Triggerwright$Edge" "channel" "I", .fieldLink "Triggerwright$Edge" 13 "Triggerwright$Edge" "level" "I", .fieldLink "Triggerwright$Edge" 16 "Triggerwright$Edge" "hysteresis" "I", .fieldLink "Triggerwright$Edge" 19 "Triggerwright$Edge" "rising" "Z", .fieldLink "Triggerwright$Edge" 23 "Triggerwright$Edge" "ready" "Z", .fieldLink "Triggerwright" 12 "Triggerwright" "history" "LTriggerwright$History;", .fieldLink "Triggerwright" 19 "Triggerwright" "memory" "LTriggerwright$Memory;", .fieldLink "Triggerwright" 26 "Triggerwright" "mask" "LTriggerwright$Mask;", .fieldLink "Triggerwright" 33 "Triggerwright" "expression" "LTriggerwright$Expression;", .fieldLink "Triggerwright" 37 "Triggerwright" "row" "[I"]
set_option maxRecDepth 100000 in
theorem jgx_12 : GoodIn tables_1_1 jgl_12 := goodIn_r _ [148, 150, 174, 175, 176, 177, 178, 190, 191, 192, 193, 194] (by decide +kernel) (by decide +kernel)
theorem jg_12 : ∀ w ∈ jgl_12, w ∈ jWS := fun w h => jm_1 _ (jgx_12 w h).1 (jgood_of (jgx_12 w h).2)
def jgl_13 : List Cond := [.fieldLink "Triggerwright" 46 "Triggerwright" "condition" "LTriggerwright$Condition;", .fieldLink "Triggerwright" 111 "Triggerwright" "firings" "I", .initialized RX10, .methodLink RL 114 yX10_init, .instanceMethod yX10_init, .initialized RX4, .instanceMethod yX4_init, .initialized RX6, .methodLink RX10 18 yX6_init, .instanceMethod yX6_init, .initialized RX0, .instanceMethod yX0_init]
set_option maxRecDepth 100000 in
theorem jgx_13 : GoodIn tables_1_1 jgl_13 := goodIn_r _ [195, 196, 1, 24, 25, 2, 33, 3, 50, 51, 4, 58] (by decide +kernel) (by decide +kernel)
theorem jg_13 : ∀ w ∈ jgl_13, w ∈ jWS := fun w h => jm_1 _ (jgx_13 w h).1 (jgood_of (jgx_13 w h).2)
def jgl_14 : List Cond := [.fieldLink "Triggerwright$Width" 19 "Triggerwright$Width" "most" "I", .fieldLink "Triggerwright$Width" 22 "Triggerwright$Width" "high" "Z", .fieldLink "Triggerwright$Width" 29 "Triggerwright$Width" "sawOutside" "Z", .fieldLink "Triggerwright$Width" 26 "Triggerwright$Width" "width" "I", .fieldLink "Triggerwright$Runt" 7 "Triggerwright$Runt" "channel" "I", .fieldLink "Triggerwright$Runt" 13 "Triggerwright$Runt" "low" "I", .fieldLink "Triggerwright$Runt" 16 "Triggerwright$Runt" "high" "I", .fieldLink "Triggerwright$Runt" 26 "Triggerwright$Runt" "sawOutside" "Z", .fieldLink "Triggerwright$Runt" 19 "Triggerwright$Runt" "inside" "Z", .fieldLink "Triggerwright$Runt" 23 "Triggerwright$Runt" "tooHigh" "Z", .fieldLink "Triggerwright$Sequence" 7 "Triggerwright$Sequence" "firstLevel" "I", .fieldLink "Triggerwright$Sequence" 13 "Triggerwright$Sequence" "secondLevel" "I"]
set_option maxRecDepth 100000 in
theorem jgx_14 : GoodIn tables_1_2 jgl_14 := goodIn_r _ [122, 123, 124, 125, 154, 155, 156, 157, 158, 159, 186, 187] (by decide +kernel) (by decide +kernel)
theorem jg_14 : ∀ w ∈ jgl_14, w ∈ jWS := fun w h => jm_2 _ (jgx_14 w h).1 (jgood_of (jgx_14 w h).2)
def jgl_15 : List Cond := [.fieldLink "Triggerwright$Sequence" 16 "Triggerwright$Sequence" "span" "I", .fieldLink "Triggerwright$Sequence" 19 "Triggerwright$Sequence" "looked" "Z", .fieldLink "Triggerwright$Sequence" 23 "Triggerwright$Sequence" "firstBefore" "I", .fieldLink "Triggerwright$Sequence" 26 "Triggerwright$Sequence" "secondBefore" "I", .fieldLink "Triggerwright$Sequence" 29 "Triggerwright$Sequence" "remembers" "Z", .fieldLink "Triggerwright$Sequence" 32 "Triggerwright$Sequence" "remembered" "I", .methodLink RL 179 yX10_records, .instanceMethod yX10_records, .selects RX10 yX10_records yX10_records, .methodLink RL 209 yX10_clearMask, .instanceMethod yX10_clearMask, .selects RX10 yX10_clearMask yX10_clearMask]
set_option maxRecDepth 100000 in
theorem jgx_15 : GoodIn tables_1_2 jgl_15 := goodIn_r _ [188, 189, 190, 191, 192, 193, 0, 1, 2, 4, 5, 6] (by decide +kernel) (by decide +kernel)
theorem jg_15 : ∀ w ∈ jgl_15, w ∈ jWS := fun w h => jm_2 _ (jgx_15 w h).1 (jgood_of (jgx_15 w h).2)
def jgl_16 : List Cond := [.fieldLink "TriggerwrightModel" 74 "TriggerwrightModel" "isReady" "Z", .fieldLink "TriggerwrightModel" 77 "TriggerwrightModel" "many" "I", .fieldLink "TriggerwrightModel" 118 "TriggerwrightModel" "pulse" "I", .fieldLink "TriggerwrightModel" 80 "TriggerwrightModel" "isSeen" "Z", .fieldLink "TriggerwrightModel" 83 "TriggerwrightModel" "isOver" "Z", .fieldLink "TriggerwrightModel" 86 "TriggerwrightModel" "isRemembered" "Z", .fieldLink "TriggerwrightModel" 127 "TriggerwrightModel" "remembered" "I", .fieldLink "TriggerwrightModel" 89 "TriggerwrightModel" "position" "I", .fieldLink "TriggerwrightModel" 17 "TriggerwrightModel" "pre" "I", .fieldLink "TriggerwrightModel" 20 "TriggerwrightModel" "post" "I", .fieldLink "TriggerwrightModel" 144 "TriggerwrightModel" "holdoff" "I", .fieldLink "TriggerwrightModel" 141 "TriggerwrightModel" "isArmed" "Z"]
set_option maxRecDepth 100000 in
theorem jgx_16 : GoodIn tables_1_4 jgl_16 := goodIn_r _ [151, 152, 153, 154, 155, 156, 157, 158, 159, 160, 161, 162] (by decide +kernel) (by decide +kernel)
theorem jg_16 : ∀ w ∈ jgl_16, w ∈ jWS := fun w h => jm_4 _ (jgx_16 w h).1 (jgood_of (jgx_16 w h).2)
def jgl_17 : List Cond := [.fieldLink "TriggerwrightModel" 150 "TriggerwrightModel" "isCatching" "Z", .fieldLink "TriggerwrightModel" 153 "TriggerwrightModel" "hasTriggered" "Z", .fieldLink "TriggerwrightModel" 165 "TriggerwrightModel" "latest" "I", .fieldLink "TriggerwrightModel" 159 "TriggerwrightModel" "samples" "I", .fieldLink "TriggerwrightModel" 171 "TriggerwrightModel" "fired" "I", .fieldLink "TriggerwrightModel" 23 "TriggerwrightModel" "first" "[I", .fieldLink "TriggerwrightModel" 27 "TriggerwrightModel" "second" "[I", .fieldLink "TriggerwrightModel" 147 "TriggerwrightModel" "records" "I", .fieldLink "TriggerwrightModel" 30 "TriggerwrightModel" "caught" "[I", .fieldLink "TriggerwrightModel" 33 "TriggerwrightModel" "length" "[I", .fieldLink "TriggerwrightModel" 36 "TriggerwrightModel" "trigger" "[I", .fieldLink "TriggerwrightModel" 39 "TriggerwrightModel" "isMasked" "[Z"]
set_option maxRecDepth 100000 in
theorem jgx_17 : GoodIn tables_1_4 jgl_17 := goodIn_r _ [163, 164, 165, 166, 167, 168, 169, 170, 171, 172, 173, 174] (by decide +kernel) (by decide +kernel)
theorem jg_17 : ∀ w ∈ jgl_17, w ∈ jWS := fun w h => jm_4 _ (jgx_17 w h).1 (jgood_of (jgx_17 w h).2)
def jgl_18 : List Cond := [.fieldLink "TriggerwrightModel" 43 "TriggerwrightModel" "low" "[I", .fieldLink "TriggerwrightModel" 46 "TriggerwrightModel" "high" "[I", .fieldLink "TriggerwrightModel" 156 "TriggerwrightModel" "failures" "I", .fieldLink "TriggerwrightModel" 162 "TriggerwrightModel" "offence" "I", .fieldLink "TriggerwrightModel" 205 "TriggerwrightModel" "parts" "I", .fieldLink "TriggerwrightModel" 49 "TriggerwrightModel" "part" "[I", .fieldLink "TriggerwrightModel" 52 "TriggerwrightModel" "one" "[I", .fieldLink "TriggerwrightModel" 55 "TriggerwrightModel" "two" "[I", .fieldLink "TriggerwrightModel" 208 "TriggerwrightModel" "deep" "I", .fieldLink "TriggerwrightModel" 58 "TriggerwrightModel" "stack" "[I", .fieldLink "TriggerwrightModel" 61 "TriggerwrightModel" "traces" "[I", .fieldLink "TriggerwrightModel" 64 "TriggerwrightModel" "thrown" "I"]
set_option maxRecDepth 100000 in
theorem jgx_18 : GoodIn tables_1_4 jgl_18 := goodIn_r _ [175, 176, 177, 178, 179, 180, 181, 182, 183, 184, 185, 186] (by decide +kernel) (by decide +kernel)
theorem jg_18 : ∀ w ∈ jgl_18, w ∈ jWS := fun w h => jm_4 _ (jgx_18 w h).1 (jgood_of (jgx_18 w h).2)
def jgl_20 : List Cond := [.initialized RX5, .methodLink RX10 25 yX5_init, .instanceMethod yX5_init, .initialized RJ7, .methodLink RX5 18 yJ7_fill_53178, .static yJ7_fill_53178, .initialized RX3, .instanceMethod yX3_init, .initialized RX2, .methodLink RX10 43 yX2_init, .instanceMethod yX2_init, .initialized RX1]
set_option maxRecDepth 100000 in
theorem jgx_20 : GoodIn tables_1_1 jgl_20 := goodIn_r _ [5, 124, 125, 6, 128, 129, 7, 141, 9, 167, 168, 8] (by decide +kernel) (by decide +kernel)
theorem jg_20 : ∀ w ∈ jgl_20, w ∈ jWS := fun w h => jm_1 _ (jgx_20 w h).1 (jgood_of (jgx_20 w h).2)
def jgl_21 : List Cond := [.instanceMethod yX1_init, .methodLink RL 146 yX10_arm, .instanceMethod yX10_arm, .selects RX10 yX10_arm yX10_arm, .methodLink RX10 97 yX6_beginAnew, .instanceMethod yX6_beginAnew, .selects RX6 yX6_beginAnew yX6_beginAnew, .methodLink RL 150 yX10_disarm, .instanceMethod yX10_disarm, .selects RX10 yX10_disarm yX10_disarm, .methodLink RL 155 yX10_isArmed, .instanceMethod yX10_isArmed]
set_option maxRecDepth 100000 in
theorem jgx_21 : GoodIn tables_1_1 jgl_21 := goodIn_r _ [171, 212, 213, 214, 216, 217, 218, 220, 221, 222, 224, 225] (by decide +kernel) (by decide +kernel)
theorem jg_21 : ∀ w ∈ jgl_21, w ∈ jWS := fun w h => jm_1 _ (jgx_21 w h).1 (jgood_of (jgx_21 w h).2)
def jgl_23 : List Cond := [.selects RX10 yX10_isArmed yX10_isArmed, .methodLink RL 159 yX10_isCatching, .instanceMethod yX10_isCatching, .selects RX10 yX10_isCatching yX10_isCatching, .methodLink RL 171 yX10_samples, .instanceMethod yX10_samples, .selects RX10 yX10_samples yX10_samples, .methodLink RL 175 yX10_fired, .instanceMethod yX10_fired, .selects RX10 yX10_fired yX10_fired, .initialized RL, .initialized RX9]
set_option maxRecDepth 100000 in
theorem jgx_23 : GoodIn tables_1_1 jgl_23 := goodIn_r _ [226, 228, 229, 230, 232, 233, 234, 236, 237, 238, 0, 15] (by decide +kernel) (by decide +kernel)
theorem jg_23 : ∀ w ∈ jgl_23, w ∈ jWS := fun w h => jm_1 _ (jgx_23 w h).1 (jgood_of (jgx_23 w h).2)
def jgl_25 : List Cond := [.methodLink RX10 185 yX5_limit, .instanceMethod yX5_limit, .selects RX5 yX5_limit yX5_limit, .methodLink RL 213 yX10_failures, .instanceMethod yX10_failures, .selects RX10 yX10_failures yX10_failures, .methodLink RL 233 yX10_clearTrace, .instanceMethod yX10_clearTrace, .selects RX10 yX10_clearTrace yX10_clearTrace, .methodLink RL 118 yL_setEdge, .methodLink RL 7 yX10_setEdge, .instanceMethod yX10_setEdge]
set_option maxRecDepth 100000 in
theorem jgx_25 : GoodIn tables_1_2 jgl_25 := goodIn_r _ [8, 9, 10, 12, 13, 14, 16, 17, 18, 20, 24, 25] (by decide +kernel) (by decide +kernel)
theorem jg_25 : ∀ w ∈ jgl_25, w ∈ jWS := fun w h => jm_2 _ (jgx_25 w h).1 (jgood_of (jgx_25 w h).2)
def jgl_26 : List Cond := [.selects RX10 yX10_setEdge yX10_setEdge, .methodLink RX10 50 yX10_checkChannel, .static yX10_checkChannel, .methodLink RX10 57 yX10_checkRange, .static yX10_checkRange, .methodLink RX10 54 yX10_checkValue, .static yX10_checkValue, .methodLink RL 127 yL_setWidth, .methodLink RL 15 yX10_setWidth, .instanceMethod yX10_setWidth, .selects RX10 yX10_setWidth yX10_setWidth, .methodLink RX10 63 yX9_init]
set_option maxRecDepth 100000 in
theorem jgx_26 : GoodIn tables_1_2 jgl_26 := goodIn_r _ [26, 28, 29, 31, 32, 103, 104, 106, 109, 110, 111, 115] (by decide +kernel) (by decide +kernel)
theorem jg_26 : ∀ w ∈ jgl_26, w ∈ jWS := fun w h => jm_2 _ (jgx_26 w h).1 (jgood_of (jgx_26 w h).2)
def jgl_28 : List Cond := [.instanceMethod yX9_init, .methodLink RL 131 yL_setRunt, .methodLink RL 19 yX10_setRunt, .instanceMethod yX10_setRunt, .selects RX10 yX10_setRunt yX10_setRunt, .methodLink RX10 68 yX7_init, .instanceMethod yX7_init, .methodLink RL 135 yL_setSequence, .methodLink RL 23 yX10_setSequence, .instanceMethod yX10_setSequence, .selects RX10 yX10_setSequence yX10_setSequence, .methodLink RX10 72 yX8_init]
set_option maxRecDepth 100000 in
theorem jgx_28 : GoodIn tables_1_2 jgl_28 := goodIn_r _ [116, 141, 144, 145, 146, 150, 151, 173, 176, 177, 178, 182] (by decide +kernel) (by decide +kernel)
theorem jg_28 : ∀ w ∈ jgl_28, w ∈ jWS := fun w h => jm_2 _ (jgx_28 w h).1 (jgood_of (jgx_28 w h).2)
def jgl_29 : List Cond := [.initialized RX7, .initialized RX8, .initialized RJ9, .initialized RX11, .classLink RL 8 RX10, .instantiable RX10 7, .classLink RX10 9 RX4, .instantiable RX4 2, .classLink RX10 16 RX6, .instantiable RX6 11, .classLink RX6 9 RX0, .instantiable RX0 4]
set_option maxRecDepth 100000 in
theorem jgx_29 : GoodIn tables_1_1 jgl_29 := goodIn_r _ [16, 17, 19, 10, 22, 23, 30, 31, 48, 49, 54, 56] (by decide +kernel) (by decide +kernel)
theorem jg_29 : ∀ w ∈ jgl_29, w ∈ jWS := fun w h => jm_1 _ (jgx_29 w h).1 (jgood_of (jgx_29 w h).2)
def jgl_30 : List Cond := [.instanceMethod yX8_init, .methodLink RL 138 yL_setLengths, .methodLink RL 26 yX10_setLengths, .instanceMethod yX10_setLengths, .selects RX10 yX10_setLengths yX10_setLengths, .methodLink RL 142 yL_setHoldoff, .methodLink RL 32 yX10_setHoldoff, .instanceMethod yX10_setHoldoff, .classLink RX10 61 RX9, .instantiable RX9 7, .classLink RX10 66 RX7, .instantiable RX7 6]
set_option maxRecDepth 100000 in
theorem jgx_30 : GoodIn tables_1_2 jgl_30 := goodIn_r _ [183, 211, 215, 216, 217, 235, 238, 239, 113, 114, 148, 149] (by decide +kernel) (by decide +kernel)
theorem jg_30 : ∀ w ∈ jgl_30, w ∈ jWS := fun w h => jm_2 _ (jgx_30 w h).1 (jgood_of (jgx_30 w h).2)
def jgl_32 : List Cond := [.selects RX10 yX10_setHoldoff yX10_setHoldoff, .methodLink RL 163 yL_push, .methodLink RL 36 yX10_push, .instanceMethod yX10_push, .selects RX10 yX10_push yX10_push, .methodLink RX10 104 yX10_takeRamp, .instanceMethod yX10_takeRamp, .methodLink RX10 114 yX10_kept, .static yX10_kept, .methodLink RX10 253 yJ9_min_f86c9, .static yJ9_min_f86c9, .methodLink RX10 256 yJ9_max_f86c9]
set_option maxRecDepth 100000 in
theorem jgx_32 : GoodIn tables_1_3 jgl_32 := goodIn_r _ [0, 2, 5, 6, 7, 9, 11, 13, 14, 16, 17, 19] (by decide +kernel) (by decide +kernel)
theorem jg_32 : ∀ w ∈ jgl_32, w ∈ jWS := fun w h => jm_3 _ (jgx_32 w h).1 (jgood_of (jgx_32 w h).2)
def jgl_33 : List Cond := [.selects RX10 yX10_takeRamp yX10_takeRamp, .selects RX10 yX10_takeSample yX10_takeSample, .selects RX6 yX6_mayTrigger yX6_mayTrigger, .selects RX6 yX6_startCatching yX6_startCatching, .selects RX10 yX10_checkRecord yX10_checkRecord, .selects RX10 yX10_checkPosition yX10_checkPosition, .selects RX10 yX10_checkGroup yX10_checkGroup, .selects RX10 yX10_checkRoom yX10_checkRoom, .selects RX10 yX10_checkOperands yX10_checkOperands, .selects RX10 yX10_checkTrace yX10_checkTrace, .selects RX10 yX10_fillRow yX10_fillRow, .selects RX3 yX3_compute yX3_compute]
set_option maxRecDepth 100000 in
theorem jgx_33 : GoodIn (k2_sels lw_privs) jgl_33 := goodIn_r _ [1, 2, 3, 4, 5, 6, 7, 8, 9, 10, 11, 12] (by decide +kernel) (by decide +kernel)
theorem jg_33 : ∀ w ∈ jgl_33, w ∈ jWS := fun w h => jm_0 _ (jgx_33 w h).1 (jgood_of (jgx_33 w h).2)
def jgl_34 : List Cond := [.static yJ9_max_f86c9, .methodLink RX10 118 yX10_takeSample, .instanceMethod yX10_takeSample, .methodLink RX10 128 yX6_takeSample, .instanceMethod yX6_takeSample, .selects RX6 yX6_takeSample yX6_takeSample, .methodLink RX6 50 yX6_mayTrigger, .instanceMethod yX6_mayTrigger, .methodLink RX6 54 yX6_startCatching, .instanceMethod yX6_startCatching, .methodLink RX6 72 yX0_begin, .instanceMethod yX0_begin]
set_option maxRecDepth 100000 in
theorem jgx_34 : GoodIn tables_1_3 jgl_34 := goodIn_r _ [20, 22, 24, 41, 42, 43, 45, 47, 49, 51, 53, 54] (by decide +kernel) (by decide +kernel)
theorem jg_34 : ∀ w ∈ jgl_34, w ∈ jWS := fun w h => jm_3 _ (jgx_34 w h).1 (jgood_of (jgx_34 w h).2)
def jgl_35 : List Cond := [.selects RX0 yX0_begin yX0_begin, .methodLink RX6 75 yX4_back, .instanceMethod yX4_back, .selects RX4 yX4_back yX4_back, .methodLink RX6 58 yX0_add, .instanceMethod yX0_add, .selects RX0 yX0_add yX0_add, .methodLink RX6 62 yX0_isFull, .instanceMethod yX0_isFull, .selects RX0 yX0_isFull yX0_isFull, .methodLink RX10 131 yX6_judgeLatest, .instanceMethod yX6_judgeLatest]
set_option maxRecDepth 100000 in
theorem jgx_35 : GoodIn tables_1_3 jgl_35 := goodIn_r _ [55, 57, 58, 59, 61, 62, 63, 65, 66, 67, 69, 70] (by decide +kernel) (by decide +kernel)
theorem jg_35 : ∀ w ∈ jgl_35, w ∈ jWS := fun w h => jm_3 _ (jgx_35 w h).1 (jgood_of (jgx_35 w h).2)
def jgl_37 : List Cond := [.selects RX6 yX6_judgeLatest yX6_judgeLatest, .methodLink RX6 79 yX5_lowestOffence, .instanceMethod yX5_lowestOffence, .selects RX5 yX5_lowestOffence yX5_lowestOffence, .methodLink RX5 30 yX0_at, .instanceMethod yX0_at, .selects RX0 yX0_at yX0_at, .methodLink RX10 135 yX4_add, .instanceMethod yX4_add, .selects RX4 yX4_add yX4_add, .methodLink RL 167 yL_ramp, .methodLink RL 40 yX10_ramp]
set_option maxRecDepth 100000 in
theorem jgx_37 : GoodIn tables_1_3 jgl_37 := goodIn_r _ [71, 73, 74, 75, 77, 78, 79, 81, 82, 83, 85, 88] (by decide +kernel) (by decide +kernel)
theorem jg_37 : ∀ w ∈ jgl_37, w ∈ jWS := fun w h => jm_3 _ (jgx_37 w h).1 (jgood_of (jgx_37 w h).2)
def jgl_38 : List Cond := [.instanceMethod yX10_ramp, .selects RX10 yX10_ramp yX10_ramp, .methodLink RL 183 yL_trigger, .methodLink RL 44 yX10_trigger, .instanceMethod yX10_trigger, .selects RX10 yX10_trigger yX10_trigger, .methodLink RX10 139 yX10_checkRecord, .instanceMethod yX10_checkRecord, .methodLink RL 186 yL_length, .methodLink RL 49 yX10_length, .instanceMethod yX10_length, .selects RX10 yX10_length yX10_length]
set_option maxRecDepth 100000 in
theorem jgx_38 : GoodIn tables_1_3 jgl_38 := goodIn_r _ [89, 90, 92, 96, 97, 98, 100, 102, 120, 123, 124, 125] (by decide +kernel) (by decide +kernel)
theorem jg_38 : ∀ w ∈ jgl_38, w ∈ jWS := fun w h => jm_3 _ (jgx_38 w h).1 (jgood_of (jgx_38 w h).2)
def jgl_40 : List Cond := [.methodLink RL 189 yL_value, .methodLink RL 52 yX10_value, .instanceMethod yX10_value, .selects RX10 yX10_value yX10_value, .methodLink RX10 154 yX10_checkPosition, .instanceMethod yX10_checkPosition, .methodLink RX10 158 yX0_at, .methodLink RL 192 yL_low, .methodLink RL 55 yX10_low, .instanceMethod yX10_low, .selects RX10 yX10_low yX10_low, .methodLink RX10 162 yX10_checkGroup]
set_option maxRecDepth 100000 in
theorem jgx_40 : GoodIn tables_1_3 jgl_40 := goodIn_r _ [127, 130, 131, 132, 134, 136, 139, 140, 143, 144, 145, 147] (by decide +kernel) (by decide +kernel)
theorem jg_40 : ∀ w ∈ jgl_40, w ∈ jWS := fun w h => jm_3 _ (jgx_40 w h).1 (jgood_of (jgx_40 w h).2)
def jgl_41 : List Cond := [.instanceMethod yX10_checkGroup, .methodLink RX10 166 yX10_groupEnd, .static yX10_groupEnd, .methodLink RX10 170 yJ9_min_7cf53, .static yJ9_min_7cf53, .methodLink RL 196 yL_high, .methodLink RL 59 yX10_high, .instanceMethod yX10_high, .selects RX10 yX10_high yX10_high, .methodLink RX10 175 yJ9_max_7cf53, .static yJ9_max_7cf53, .methodLink RL 199 yL_mean]
set_option maxRecDepth 100000 in
theorem jgx_41 : GoodIn tables_1_3 jgl_41 := goodIn_r _ [149, 151, 152, 154, 155, 157, 160, 161, 162, 164, 165, 167] (by decide +kernel) (by decide +kernel)
theorem jg_41 : ∀ w ∈ jgl_41, w ∈ jWS := fun w h => jm_3 _ (jgx_41 w h).1 (jgood_of (jgx_41 w h).2)
def jgl_43 : List Cond := [.methodLink RL 62 yX10_mean, .instanceMethod yX10_mean, .selects RX10 yX10_mean yX10_mean, .methodLink RX10 178 yJ9_floorDiv_7cf53, .static yJ9_floorDiv_7cf53, .methodLink RL 202 yL_rescan, .methodLink RL 65 yX10_rescan, .instanceMethod yX10_rescan, .selects RX10 yX10_rescan yX10_rescan, .methodLink RX2 26 yX2_init, .methodLink RX7 29 yX7_init, .methodLink RX8 35 yX8_init]
set_option maxRecDepth 100000 in
theorem jgx_43 : GoodIn tables_1_3 jgl_43 := goodIn_r _ [170, 171, 172, 174, 175, 177, 180, 181, 182, 191, 196, 201] (by decide +kernel) (by decide +kernel)
theorem jg_43 : ∀ w ∈ jgl_43, w ∈ jWS := fun w h => jm_3 _ (jgx_43 w h).1 (jgood_of (jgx_43 w h).2)
def jgl_44 : List Cond := [.methodLink RX9 32 yX9_init, .methodLink RL 205 yL_setMask, .methodLink RL 68 yX10_setMask, .instanceMethod yX10_setMask, .selects RX10 yX10_setMask yX10_setMask, .methodLink RL 217 yL_firstOffence, .methodLink RL 72 yX10_firstOffence, .instanceMethod yX10_firstOffence, .selects RX10 yX10_firstOffence yX10_firstOffence, .methodLink RL 221 yL_putChannel, .methodLink RX10 122 ⟨RX1, "firesAt", "(III)Z"⟩, .sameMethod "Triggerwright$Condition" "Triggerwright$Condition" "firesAt" "(III)Z"]
set_option maxRecDepth 100000 in
theorem jgx_44 : GoodIn tables_1_3 jgl_44 := goodIn_r _ [206, 207, 210, 211, 212, 214, 218, 219, 220, 238, 26, 28] (by decide +kernel) (by decide +kernel)
theorem jg_44 : ∀ w ∈ jgl_44, w ∈ jWS := fun w h => jm_3 _ (jgx_44 w h).1 (jgood_of (jgx_44 w h).2)
def jgl_46 : List Cond := [.methodLink RL 78 yX10_putChannel, .instanceMethod yX10_putChannel, .selects RX10 yX10_putChannel yX10_putChannel, .methodLink RX10 199 yX10_checkRoom, .instanceMethod yX10_checkRoom, .methodLink RX10 202 yX3_add, .instanceMethod yX3_add, .selects RX3 yX3_add yX3_add, .methodLink RL 224 yL_putConstant, .methodLink RL 81 yX10_putConstant, .instanceMethod yX10_putConstant, .selects RX10 yX10_putConstant yX10_putConstant]
set_option maxRecDepth 100000 in
theorem jgx_46 : GoodIn tables_1_4 jgl_46 := goodIn_r _ [1, 2, 3, 5, 7, 10, 11, 12, 14, 17, 18, 19] (by decide +kernel) (by decide +kernel)
theorem jg_46 : ∀ w ∈ jgl_46, w ∈ jWS := fun w h => jm_4 _ (jgx_46 w h).1 (jgood_of (jgx_46 w h).2)
def jgl_47 : List Cond := [.methodLink RL 227 yL_apply, .methodLink RL 84 yX10_apply, .instanceMethod yX10_apply, .selects RX10 yX10_apply yX10_apply, .methodLink RX10 204 yX10_checkOperands, .instanceMethod yX10_checkOperands, .methodLink RL 230 yL_combine, .methodLink RL 87 yX10_combine, .instanceMethod yX10_combine, .selects RX10 yX10_combine yX10_combine, .methodLink RL 237 yL_trace, .methodLink RL 90 yX10_trace]
set_option maxRecDepth 100000 in
theorem jgx_47 : GoodIn tables_1_4 jgl_47 := goodIn_r _ [21, 24, 25, 26, 28, 30, 33, 36, 37, 38, 40, 43] (by decide +kernel) (by decide +kernel)
theorem jg_47 : ∀ w ∈ jgl_47, w ∈ jWS := fun w h => jm_4 _ (jgx_47 w h).1 (jgood_of (jgx_47 w h).2)
def jgl_49 : List Cond := [.instanceMethod yX10_trace, .selects RX10 yX10_trace yX10_trace, .methodLink RX10 213 yX10_checkTrace, .instanceMethod yX10_checkTrace, .methodLink RX10 216 yX10_fillRow, .instanceMethod yX10_fillRow, .methodLink RX10 234 yX3_fill, .instanceMethod yX3_fill, .selects RX3 yX3_fill yX3_fill, .methodLink RX3 31 yJ7_fill_53178, .methodLink RX3 42 yX3_compute, .instanceMethod yX3_compute]
set_option maxRecDepth 100000 in
theorem jgx_49 : GoodIn tables_1_4 jgl_49 := goodIn_r _ [44, 45, 47, 49, 52, 54, 56, 57, 58, 60, 61, 63] (by decide +kernel) (by decide +kernel)
theorem jg_49 : ∀ w ∈ jgl_49, w ∈ jWS := fun w h => jm_4 _ (jgx_49 w h).1 (jgood_of (jgx_49 w h).2)
def jgl_50 : List Cond := [.methodLink RX3 46 yX3_ofTwo, .static yX3_ofTwo, .methodLink RX3 63 yX3_keptResult, .static yX3_keptResult, .methodLink RX3 67 yJ9_min_7cf53, .methodLink RX3 70 yJ9_max_7cf53, .methodLink RX3 50 yX3_ofOne, .instanceMethod yX3_ofOne, .methodLink RX3 57 yJ9_abs_0f7a4, .static yJ9_abs_0f7a4, .methodLink RX3 53 yX0_at, .methodLink RL 241 yL_least]
set_option maxRecDepth 100000 in
theorem jgx_50 : GoodIn tables_1_4 jgl_50 := goodIn_r _ [65, 66, 68, 69, 74, 75, 76, 78, 80, 81, 83, 84] (by decide +kernel) (by decide +kernel)
theorem jg_50 : ∀ w ∈ jgl_50, w ∈ jWS := fun w h => jm_4 _ (jgx_50 w h).1 (jgood_of (jgx_50 w h).2)
def jgl_51 : List Cond := [.selects RX3 yX3_ofOne yX3_ofOne, .selects RX10 yX10_crossesAt yX10_crossesAt, .selects RX11 yX11_fails yX11_fails, .selects RX11 yX11_sets yX11_sets, .selects RX11 yX11_begins yX11_begins, .selects RX11 yX11_takes yX11_takes, .selects RX11 yX11_looks yX11_looks, .selects RX11 yX11_isEdge yX11_isEdge, .selects RX11 yX11_isBehind yX11_isBehind, .selects RX11 yX11_isSequence yX11_isSequence, .selects RX11 yX11_completes yX11_completes, .selects RX11 yX11_tells yX11_tells]
set_option maxRecDepth 100000 in
theorem jgx_51 : GoodIn (k2_sels lw_privs) jgl_51 := goodIn_r _ [13, 14, 15, 16, 17, 18, 19, 20, 21, 22, 23, 24] (by decide +kernel) (by decide +kernel)
theorem jg_51 : ∀ w ∈ jgl_51, w ∈ jWS := fun w h => jm_0 _ (jgx_51 w h).1 (jgood_of (jgx_51 w h).2)
def jgl_52 : List Cond := [.methodLink RL 94 yX10_least, .instanceMethod yX10_least, .selects RX10 yX10_least yX10_least, .methodLink RX10 219 yX10_checkSource, .static yX10_checkSource, .methodLink RL 244 yL_greatest, .methodLink RL 97 yX10_greatest, .instanceMethod yX10_greatest, .selects RX10 yX10_greatest yX10_greatest, .methodLink RL 247 yL_average, .methodLink RL 100 yX10_average, .instanceMethod yX10_average]
set_option maxRecDepth 100000 in
theorem jgx_52 : GoodIn tables_1_4 jgl_52 := goodIn_r _ [87, 88, 89, 91, 92, 94, 97, 98, 99, 101, 104, 105] (by decide +kernel) (by decide +kernel)
theorem jg_52 : ∀ w ∈ jgl_52, w ∈ jWS := fun w h => jm_4 _ (jgx_52 w h).1 (jgood_of (jgx_52 w h).2)
def jgl_54 : List Cond := [.selects RX10 yX10_average yX10_average, .methodLink RL 251 yL_crossings, .methodLink RL 104 yX10_crossings, .instanceMethod yX10_crossings, .selects RX10 yX10_crossings yX10_crossings, .methodLink RX10 222 yX10_crossesAt, .instanceMethod yX10_crossesAt, .methodLink RL 254 yL_period, .methodLink RL 107 yX10_period, .instanceMethod yX10_period, .selects RX10 yX10_period yX10_period, .methodLink RL 258 yL_riseTime]
set_option maxRecDepth 100000 in
theorem jgx_54 : GoodIn tables_1_4 jgl_54 := goodIn_r _ [106, 108, 111, 112, 113, 115, 117, 119, 122, 123, 124, 127] (by decide +kernel) (by decide +kernel)
theorem jg_54 : ∀ w ∈ jgl_54, w ∈ jWS := fun w h => jm_4 _ (jgx_54 w h).1 (jgood_of (jgx_54 w h).2)
def jgl_55 : List Cond := [.methodLink RL 111 yX10_riseTime, .instanceMethod yX10_riseTime, .selects RX10 yX10_riseTime yX10_riseTime, .methodLink RL 117 yX11_init, .instanceMethod yX11_init, .classLink RL 115 RX11, .instantiable RX11 45, .constant RX3 73 (-1000000), .constant RX3 74 (1000000), .methodLink RX11 1 ⟨"java/lang/Object", "<init>", "()V"⟩]
set_option maxRecDepth 100000 in
theorem jgx_55 : GoodIn tables_1_4 jgl_55 := goodIn_r _ [130, 131, 132, 138, 139, 136, 137, 71, 72, 141] (by decide +kernel) (by decide +kernel)
theorem jg_55 : ∀ w ∈ jgl_55, w ∈ jWS := fun w h => jm_4 _ (jgx_55 w h).1 (jgood_of (jgx_55 w h).2)
def jgl_57 : List Cond := [.methodLink RX11 67 yX11_isIn, .static yX11_isIn, .methodLink RX11 107 yX11_isValue, .static yX11_isValue, .methodLink RX11 111 yX11_fails, .instanceMethod yX11_fails, .methodLink RX11 114 yX11_sets, .instanceMethod yX11_sets, .methodLink RX11 104 yX11_begins, .instanceMethod yX11_begins, .methodLink RL 130 yX11_setWidth, .instanceMethod yX11_setWidth]
set_option maxRecDepth 100000 in
theorem jgx_57 : GoodIn tables_1_5 jgl_57 := goodIn_r _ [47, 48, 50, 51, 53, 55, 57, 59, 61, 63, 65, 66] (by decide +kernel) (by decide +kernel)
theorem jg_57 : ∀ w ∈ jgl_57, w ∈ jWS := fun w h => jm_5 _ (jgx_57 w h).1 (jgood_of (jgx_57 w h).2)
def jgl_58 : List Cond := [.selects RX11 yX11_setWidth yX11_setWidth, .methodLink RL 134 yX11_setRunt, .instanceMethod yX11_setRunt, .selects RX11 yX11_setRunt yX11_setRunt, .methodLink RL 137 yX11_setSequence, .instanceMethod yX11_setSequence, .selects RX11 yX11_setSequence yX11_setSequence, .methodLink RL 141 yX11_setLengths, .instanceMethod yX11_setLengths, .selects RX11 yX11_setLengths yX11_setLengths, .methodLink RL 145 yX11_setHoldoff, .instanceMethod yX11_setHoldoff]
set_option maxRecDepth 100000 in
theorem jgx_58 : GoodIn tables_1_5 jgl_58 := goodIn_r _ [67, 69, 70, 71, 73, 74, 75, 77, 78, 79, 81, 82] (by decide +kernel) (by decide +kernel)
theorem jg_58 : ∀ w ∈ jgl_58, w ∈ jWS := fun w h => jm_5 _ (jgx_58 w h).1 (jgood_of (jgx_58 w h).2)
def jgl_59 : List Cond := [.selects RX11 yX11_setHoldoff yX11_setHoldoff, .methodLink RL 149 yX11_arm, .instanceMethod yX11_arm, .selects RX11 yX11_arm yX11_arm, .methodLink RL 154 yX11_disarm, .instanceMethod yX11_disarm, .selects RX11 yX11_disarm yX11_disarm, .methodLink RL 158 yX11_isArmed, .instanceMethod yX11_isArmed, .selects RX11 yX11_isArmed yX11_isArmed, .methodLink RL 162 yX11_isCatching, .instanceMethod yX11_isCatching]
set_option maxRecDepth 100000 in
theorem jgx_59 : GoodIn tables_1_5 jgl_59 := goodIn_r _ [83, 85, 86, 87, 89, 90, 91, 93, 94, 95, 97, 98] (by decide +kernel) (by decide +kernel)
theorem jg_59 : ∀ w ∈ jgl_59, w ∈ jWS := fun w h => jm_5 _ (jgx_59 w h).1 (jgood_of (jgx_59 w h).2)
def jgl_61 : List Cond := [.selects RX11 yX11_isCatching yX11_isCatching, .methodLink RL 166 yX11_push, .instanceMethod yX11_push, .selects RX11 yX11_push yX11_push, .methodLink RX11 177 yX11_takes, .instanceMethod yX11_takes, .methodLink RX11 168 yX11_looks, .instanceMethod yX11_looks, .methodLink RX11 130 yX11_isEdge, .instanceMethod yX11_isEdge, .methodLink RX11 133 yX11_isBehind, .instanceMethod yX11_isBehind]
set_option maxRecDepth 100000 in
theorem jgx_61 : GoodIn tables_1_5 jgl_61 := goodIn_r _ [99, 101, 102, 103, 105, 107, 109, 111, 113, 115, 117, 119] (by decide +kernel) (by decide +kernel)
theorem jg_61 : ∀ w ∈ jgl_61, w ∈ jWS := fun w h => jm_5 _ (jgx_61 w h).1 (jgood_of (jgx_61 w h).2)
def jgl_62 : List Cond := [.methodLink RX11 137 yX11_isSequence, .instanceMethod yX11_isSequence, .methodLink RX11 174 yX11_completes, .instanceMethod yX11_completes, .methodLink RL 170 yX11_ramp, .instanceMethod yX11_ramp, .selects RX11 yX11_ramp yX11_ramp, .methodLink RX11 181 yX11_held, .static yX11_held, .methodLink RL 174 yX11_samples, .instanceMethod yX11_samples, .selects RX11 yX11_samples yX11_samples]
set_option maxRecDepth 100000 in
theorem jgx_62 : GoodIn tables_1_5 jgl_62 := goodIn_r _ [121, 123, 125, 127, 129, 130, 131, 133, 134, 136, 137, 138] (by decide +kernel) (by decide +kernel)
theorem jg_62 : ∀ w ∈ jgl_62, w ∈ jWS := fun w h => jm_5 _ (jgx_62 w h).1 (jgood_of (jgx_62 w h).2)
def jgl_64 : List Cond := [.methodLink RX11 185 yX11_tells, .instanceMethod yX11_tells, .methodLink RL 178 yX11_fired, .instanceMethod yX11_fired, .selects RX11 yX11_fired yX11_fired, .methodLink RL 182 yX11_records, .instanceMethod yX11_records, .selects RX11 yX11_records yX11_records, .methodLink RL 185 yX11_trigger, .instanceMethod yX11_trigger, .selects RX11 yX11_trigger yX11_trigger, .methodLink RX11 189 yX11_isRecord]
set_option maxRecDepth 100000 in
theorem jgx_64 : GoodIn tables_1_5 jgl_64 := goodIn_r _ [140, 142, 144, 145, 146, 148, 149, 150, 152, 153, 154, 156] (by decide +kernel) (by decide +kernel)
theorem jg_64 : ∀ w ∈ jgl_64, w ∈ jWS := fun w h => jm_5 _ (jgx_64 w h).1 (jgood_of (jgx_64 w h).2)
def jgl_65 : List Cond := [.instanceMethod yX11_isRecord, .methodLink RL 188 yX11_length, .instanceMethod yX11_length, .selects RX11 yX11_length yX11_length, .methodLink RL 191 yX11_value, .instanceMethod yX11_value, .selects RX11 yX11_value yX11_value, .methodLink RX11 192 yX11_isPlace, .instanceMethod yX11_isPlace, .methodLink RX11 195 yX11_at, .instanceMethod yX11_at, .methodLink RL 195 yX11_low]
set_option maxRecDepth 100000 in
theorem jgx_65 : GoodIn tables_1_5 jgl_65 := goodIn_r _ [158, 160, 161, 162, 164, 165, 166, 168, 170, 172, 174, 176] (by decide +kernel) (by decide +kernel)
theorem jg_65 : ∀ w ∈ jgl_65, w ∈ jWS := fun w h => jm_5 _ (jgx_65 w h).1 (jgood_of (jgx_65 w h).2)
def jgl_66 : List Cond := [.selects RX11 yX11_isRecord yX11_isRecord, .selects RX11 yX11_isPlace yX11_isPlace, .selects RX11 yX11_at yX11_at, .selects RX11 yX11_isNoGroup yX11_isNoGroup, .selects RX11 yX11_end yX11_end, .selects RX11 yX11_puts yX11_puts, .selects RX11 yX11_works yX11_works, .selects RX11 yX11_tellsPart yX11_tellsPart, .selects RX11 yX11_bound yX11_bound, .selects RX11 yX11_isNoSource yX11_isNoSource, .selects RX11 yX11_of yX11_of, .selects RX11 yX11_crosses yX11_crosses]
set_option maxRecDepth 100000 in
theorem jgx_66 : GoodIn (k2_sels lw_privs) jgl_66 := goodIn_r _ [25, 26, 27, 28, 29, 30, 31, 32, 33, 34, 35, 36] (by decide +kernel) (by decide +kernel)
theorem jg_66 : ∀ w ∈ jgl_66, w ∈ jWS := fun w h => jm_0 _ (jgx_66 w h).1 (jgood_of (jgx_66 w h).2)
def jgl_67 : List Cond := [.instanceMethod yX11_low, .selects RX11 yX11_low yX11_low, .methodLink RX11 198 yX11_isNoGroup, .instanceMethod yX11_isNoGroup, .methodLink RX11 202 yX11_end, .instanceMethod yX11_end, .methodLink RL 198 yX11_high, .instanceMethod yX11_high, .selects RX11 yX11_high yX11_high, .methodLink RL 201 yX11_mean, .instanceMethod yX11_mean, .selects RX11 yX11_mean yX11_mean]
set_option maxRecDepth 100000 in
theorem jgx_67 : GoodIn tables_1_5 jgl_67 := goodIn_r _ [177, 178, 180, 182, 184, 186, 188, 189, 190, 192, 193, 194] (by decide +kernel) (by decide +kernel)
theorem jg_67 : ∀ w ∈ jgl_67, w ∈ jWS := fun w h => jm_5 _ (jgx_67 w h).1 (jgood_of (jgx_67 w h).2)
def jgl_69 : List Cond := [.methodLink RL 204 yX11_rescan, .instanceMethod yX11_rescan, .selects RX11 yX11_rescan yX11_rescan, .methodLink RL 208 yX11_setMask, .instanceMethod yX11_setMask, .selects RX11 yX11_setMask yX11_setMask, .methodLink RL 212 yX11_clearMask, .instanceMethod yX11_clearMask, .selects RX11 yX11_clearMask yX11_clearMask, .methodLink RL 216 yX11_failures, .instanceMethod yX11_failures, .selects RX11 yX11_failures yX11_failures]
set_option maxRecDepth 100000 in
theorem jgx_69 : GoodIn tables_1_5 jgl_69 := goodIn_r _ [196, 197, 198, 200, 201, 202, 204, 205, 206, 208, 209, 210] (by decide +kernel) (by decide +kernel)
theorem jg_69 : ∀ w ∈ jgl_69, w ∈ jWS := fun w h => jm_5 _ (jgx_69 w h).1 (jgood_of (jgx_69 w h).2)
def jgl_70 : List Cond := [.methodLink RL 220 yX11_firstOffence, .instanceMethod yX11_firstOffence, .selects RX11 yX11_firstOffence yX11_firstOffence, .methodLink RL 223 yX11_putChannel, .instanceMethod yX11_putChannel, .selects RX11 yX11_putChannel yX11_putChannel, .methodLink RX11 211 yX11_puts, .instanceMethod yX11_puts, .methodLink RL 226 yX11_putConstant, .instanceMethod yX11_putConstant, .selects RX11 yX11_putConstant yX11_putConstant, .methodLink RL 229 yX11_apply]
set_option maxRecDepth 100000 in
theorem jgx_70 : GoodIn tables_1_5 jgl_70 := goodIn_r _ [212, 213, 214, 216, 217, 218, 220, 222, 224, 225, 226, 228] (by decide +kernel) (by decide +kernel)
theorem jg_70 : ∀ w ∈ jgl_70, w ∈ jWS := fun w h => jm_5 _ (jgx_70 w h).1 (jgood_of (jgx_70 w h).2)
def jgl_72 : List Cond := [.instanceMethod yX11_apply, .selects RX11 yX11_apply yX11_apply, .methodLink RL 232 yX11_combine, .instanceMethod yX11_combine, .selects RX11 yX11_combine yX11_combine, .methodLink RL 236 yX11_clearTrace, .instanceMethod yX11_clearTrace, .selects RX11 yX11_clearTrace yX11_clearTrace, .arrayClass .boolean]
set_option maxRecDepth 100000 in
theorem jgx_72 : GoodIn tables_1_5 jgl_72 := goodIn_r _ [229, 230, 232, 233, 234, 236, 237, 238, 38] (by decide +kernel) (by decide +kernel)
theorem jg_72 : ∀ w ∈ jgl_72, w ∈ jWS := fun w h => jm_5 _ (jgx_72 w h).1 (jgood_of (jgx_72 w h).2)
def jgl_74 : List Cond := [.methodLink RL 240 yX11_trace, .instanceMethod yX11_trace, .selects RX11 yX11_trace yX11_trace, .methodLink RX11 227 yX11_works, .instanceMethod yX11_works, .methodLink RX11 224 yX11_tellsPart, .instanceMethod yX11_tellsPart, .methodLink RX11 220 yX11_bound, .instanceMethod yX11_bound, .methodLink RL 243 yX11_least, .instanceMethod yX11_least, .selects RX11 yX11_least yX11_least]
set_option maxRecDepth 100000 in
theorem jgx_74 : GoodIn tables_1_6 jgl_74 := goodIn_r _ [0, 1, 2, 4, 6, 8, 10, 12, 14, 20, 21, 22] (by decide +kernel) (by decide +kernel)
theorem jg_74 : ∀ w ∈ jgl_74, w ∈ jWS := fun w h => jm_6 _ (jgx_74 w h).1 (jgood_of (jgx_74 w h).2)
def jgl_75 : List Cond := [.methodLink RX11 231 yX11_isNoSource, .instanceMethod yX11_isNoSource, .methodLink RX11 235 yX11_of, .instanceMethod yX11_of, .methodLink RL 246 yX11_greatest, .instanceMethod yX11_greatest, .selects RX11 yX11_greatest yX11_greatest, .methodLink RL 250 yX11_average, .instanceMethod yX11_average, .selects RX11 yX11_average yX11_average, .methodLink RL 253 yX11_crossings, .instanceMethod yX11_crossings]
set_option maxRecDepth 100000 in
theorem jgx_75 : GoodIn tables_1_6 jgl_75 := goodIn_r _ [24, 26, 28, 30, 32, 33, 34, 36, 37, 38, 40, 41] (by decide +kernel) (by decide +kernel)
theorem jg_75 : ∀ w ∈ jgl_75, w ∈ jWS := fun w h => jm_6 _ (jgx_75 w h).1 (jgood_of (jgx_75 w h).2)
def jgl_76 : List Cond := [.selects RX11 yX11_crossings yX11_crossings, .methodLink RX11 242 yX11_crosses, .instanceMethod yX11_crosses, .methodLink RX11 238 yX11_crossing, .instanceMethod yX11_crossing, .methodLink RL 257 yX11_period, .instanceMethod yX11_period, .selects RX11 yX11_period yX11_period, .methodLink RL 260 yX11_riseTime, .instanceMethod yX11_riseTime, .selects RX11 yX11_riseTime yX11_riseTime, .arrayClass .long]
set_option maxRecDepth 100000 in
theorem jgx_76 : GoodIn tables_1_6 jgl_76 := goodIn_r _ [42, 44, 46, 48, 50, 52, 53, 54, 56, 57, 58, 60] (by decide +kernel) (by decide +kernel)
theorem jg_76 : ∀ w ∈ jgl_76, w ∈ jWS := fun w h => jm_6 _ (jgx_76 w h).1 (jgood_of (jgx_76 w h).2)
def jgl_77 : List Cond := [.selects RX11 yX11_crossing yX11_crossing]
set_option maxRecDepth 100000 in
theorem jgx_77 : GoodIn (k2_sels lw_privs) jgl_77 := goodIn_r _ [37] (by decide +kernel) (by decide +kernel)
theorem jg_77 : ∀ w ∈ jgl_77, w ∈ jWS := fun w h => jm_0 _ (jgx_77 w h).1 (jgood_of (jgx_77 w h).2)
def jgl_79 : List Cond := [.selects RX2 ⟨RX1, "firesAt", "(III)Z"⟩ yX2_firesAt, .instanceMethod yX2_firesAt, .selects RX7 ⟨RX1, "firesAt", "(III)Z"⟩ yX7_firesAt, .instanceMethod yX7_firesAt, .selects RX8 ⟨RX1, "firesAt", "(III)Z"⟩ yX8_firesAt, .instanceMethod yX8_firesAt, .selects RX9 ⟨RX1, "firesAt", "(III)Z"⟩ yX9_firesAt, .instanceMethod yX9_firesAt, .methodLink RX10 181 ⟨RX1, "begunAnew", "()LTriggerwright$Condition;"⟩, .sameMethod "Triggerwright$Condition" "Triggerwright$Condition" "begunAnew" "()LTriggerwright$Condition;", .selects RX2 ⟨RX1, "begunAnew", "()LTriggerwright$Condition;"⟩ yX2_begunAnew, .instanceMethod yX2_begunAnew]
set_option maxRecDepth 100000 in
theorem jgx_79 : GoodIn tables_1_3 jgl_79 := goodIn_r _ [29, 30, 32, 33, 35, 36, 38, 39, 184, 186, 187, 188] (by decide +kernel) (by decide +kernel)
theorem jg_79 : ∀ w ∈ jgl_79, w ∈ jWS := fun w h => jm_3 _ (jgx_79 w h).1 (jgood_of (jgx_79 w h).2)
def jgl_81 : List Cond := [.selects RX7 ⟨RX1, "begunAnew", "()LTriggerwright$Condition;"⟩ yX7_begunAnew, .instanceMethod yX7_begunAnew, .selects RX8 ⟨RX1, "begunAnew", "()LTriggerwright$Condition;"⟩ yX8_begunAnew, .instanceMethod yX8_begunAnew, .selects RX9 ⟨RX1, "begunAnew", "()LTriggerwright$Condition;"⟩ yX9_begunAnew, .instanceMethod yX9_begunAnew, .classLink RX2 8 RX2, .classLink RX7 8 RX7, .classLink RX8 8 RX8, .classLink RX9 8 RX9, .classLink RL 47 "java/lang/IndexOutOfBoundsException", .classLink RX10 240 "java/lang/IndexOutOfBoundsException"]
set_option maxRecDepth 100000 in
theorem jgx_81 : GoodIn tables_1_3 jgl_81 := goodIn_r _ [192, 193, 197, 198, 202, 203, 190, 195, 200, 205, 95, 104] (by decide +kernel) (by decide +kernel)
theorem jg_81 : ∀ w ∈ jgl_81, w ∈ jWS := fun w h => jm_3 _ (jgx_81 w h).1 (jgood_of (jgx_81 w h).2)
def jgl_82 : List Cond := [.classLink RX10 23 RX5, .instantiable RX5 2, .classLink RX10 30 RX3, .instantiable RX3 6, .classLink RX10 41 RX2, .instantiable RX2 5, .arrayClass .int, .methodLink RX10 3 ⟨"java/lang/Object", "<init>", "()V"⟩, .instanceMethod ⟨"java/lang/Object", "<init>", "()V"⟩, .methodLink RX4 3 ⟨"java/lang/Object", "<init>", "()V"⟩, .methodLink RX6 3 ⟨"java/lang/Object", "<init>", "()V"⟩, .methodLink RX0 3 ⟨"java/lang/Object", "<init>", "()V"⟩]
set_option maxRecDepth 100000 in
theorem jgx_82 : GoodIn tables_1_1 jgl_82 := goodIn_r _ [122, 123, 138, 139, 165, 166, 47, 27, 28, 35, 53, 60] (by decide +kernel) (by decide +kernel)
theorem jg_82 : ∀ w ∈ jgl_82, w ∈ jWS := fun w h => jm_1 _ (jgx_82 w h).1 (jgood_of (jgx_82 w h).2)
def jgl_83 : List Cond := [.classLink RX10 70 RX8, .instantiable RX8 8, .classLink RL 13 "java/lang/IllegalArgumentException", .classLink RX10 227 "java/lang/IllegalArgumentException", .classLink RL 30 "java/lang/IllegalStateException", .classLink RX10 77 "java/lang/IllegalStateException"]
set_option maxRecDepth 100000 in
theorem jgx_83 : GoodIn tables_1_2 jgl_83 := goodIn_r _ [180, 181, 23, 34, 214, 219] (by decide +kernel) (by decide +kernel)
theorem jg_83 : ∀ w ∈ jgl_83, w ∈ jWS := fun w h => jm_2 _ (jgx_83 w h).1 (jgood_of (jgx_83 w h).2)
def jgl_84 : List Cond := [.arrayClass .double, .constantLong RX11 214 (-1000000), .constant RX11 216 (-1000000), .constantLong RX11 217 (1000000), .constant RX11 219 (1000000)]
set_option maxRecDepth 100000 in
theorem jgx_84 : GoodIn tables_1_6 jgl_84 := goodIn_r _ [61, 16, 17, 18, 19] (by decide +kernel) (by decide +kernel)
theorem jg_84 : ∀ w ∈ jgl_84, w ∈ jWS := fun w h => jm_6 _ (jgx_84 w h).1 (jgood_of (jgx_84 w h).2)
def jgl_85 : List Cond := [.methodLink RX5 3 ⟨"java/lang/Object", "<init>", "()V"⟩, .methodLink RX3 3 ⟨"java/lang/Object", "<init>", "()V"⟩, .methodLink RX1 1 ⟨"java/lang/Object", "<init>", "()V"⟩, .initialized "java/lang/IllegalArgumentException", .initialized "java/lang/IllegalStateException", .initialized "java/lang/IndexOutOfBoundsException", .initialized "java/util/NoSuchElementException"]
set_option maxRecDepth 100000 in
theorem jgx_85 : GoodIn tables_1_1 jgl_85 := goodIn_r _ [127, 143, 173, 14, 18, 20, 21] (by decide +kernel) (by decide +kernel)
theorem jg_85 : ∀ w ∈ jgl_85, w ∈ jWS := fun w h => jm_1 _ (jgx_85 w h).1 (jgood_of (jgx_85 w h).2)
def jgl_86 : List Cond := [.classLink RL 76 "java/util/NoSuchElementException", .classLink RX10 194 "java/util/NoSuchElementException"]
set_option maxRecDepth 100000 in
theorem jgx_86 : GoodIn tables_1_3 jgl_86 := goodIn_r _ [217, 222] (by decide +kernel) (by decide +kernel)
theorem jg_86 : ∀ w ∈ jgl_86, w ∈ jWS := fun w h => jm_3 _ (jgx_86 w h).1 (jgood_of (jgx_86 w h).2)
