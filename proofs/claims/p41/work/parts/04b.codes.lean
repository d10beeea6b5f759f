def jgl_11 : List Cond := [.code yX10_init cX10_init 1 none, .code yX4_init cX4_init 1 none, .code yX6_init cX6_init 2 none, .code yX0_init cX0_init 1 none, .code yX5_init cX5_init 1 none, .code yJ7_fill_53178 cJ7_fill_53178 4 none, .code yX3_init cX3_init 1 none, .code yX2_init cX2_init 5 none, .code yX1_init cX1_init 1 none, .code yX10_arm cX10_arm 2 (some .int), .code yX6_beginAnew cX6_beginAnew 1 none, .code yX10_isArmed cX10_isArmed 1 (some .boolean)]
set_option maxRecDepth 100000 in
theorem jgx_11 : GoodIn tables_1_1 jgl_11 := goodIn_r _ [25, 33, 51, 58, 125, 129, 141, 168, 171, 214, 218, 222] rfl (by decide +kernel)
theorem jg_11 : ∀ w ∈ jgl_11, w ∈ jWS := fun w h => jm_1 _ (jgx_11 w h).1 (jgood_of (jgx_11 w h).2)
def jgl_14 : List Cond := [.codeWith yL_sets cL_sets 8 (some .int) [(0, 13, 14, 39), (0, 13, 19, 41)], .code yL_set cL_set 7 (some .int), .code yX10_setEdge cX10_setEdge 5 none, .code yX10_checkChannel cX10_checkChannel 1 none, .code ⟨"java/lang/Object", "<init>", "()V"⟩ object_method_1_code 1 none]
set_option maxRecDepth 100000 in
theorem jgx_14 : GoodIn tables_1_1 jgl_14 := goodIn_r _ [225, 230, 234, 237, 28] rfl (by decide +kernel)
theorem jg_14 : ∀ w ∈ jgl_14, w ∈ jWS := fun w h => jm_1 _ (jgx_14 w h).1 (jgood_of (jgx_14 w h).2)
def jgl_16 : List Cond := [.code yX10_checkRange cX10_checkRange 3 none, .code yX10_checkValue cX10_checkValue 1 none, .code yX10_setWidth cX10_setWidth 6 none, .code yX9_init cX9_init 6 none, .code yX10_setRunt cX10_setRunt 4 none, .code yX7_init cX7_init 4 none, .code yX10_setSequence cX10_setSequence 4 none, .code yX8_init cX8_init 4 none, .code yX10_setLengths cX10_setLengths 3 none, .code yX10_setMask cX10_setMask 5 none, .code yX5_limit cX5_limit 6 none, .codeWith yL_holds cL_holds 3 (some .int) [(0, 5, 6, 39)]]
set_option maxRecDepth 100000 in
theorem jgx_16 : GoodIn tables_1_2 jgl_16 := goodIn_r _ [0, 72, 76, 81, 108, 113, 137, 142, 172, 192, 196, 199] rfl (by decide +kernel)
theorem jg_16 : ∀ w ∈ jgl_16, w ∈ jWS := fun w h => jm_2 _ (jgx_16 w h).1 (jgood_of (jgx_16 w h).2)
def jgl_19 : List Cond := [.code yX10_setHoldoff cX10_setHoldoff 3 (some .int), .codeWith yL_comes cL_comes 7 (some .int) [(0, 31, 32, 39)], .code yX10_push cX10_push 4 (some .int), .code yX10_takeRamp cX10_takeRamp 10 (some .int), .code yX10_kept cX10_kept 4 (some .int), .code yJ9_min_f86c9 cJ9_min_f86c9 4 (some .long), .code yJ9_max_f86c9 cJ9_max_f86c9 4 (some .long), .code yX10_takeSample cX10_takeSample 5 (some .boolean), .code yX2_firesAt cX2_firesAt 7 (some .boolean), .code yX7_firesAt cX7_firesAt 6 (some .boolean), .code yX8_firesAt cX8_firesAt 7 (some .boolean)]
set_option maxRecDepth 100000 in
theorem jgx_19 : GoodIn tables_1_2 jgl_19 := goodIn_r _ [203, 206, 210, 214, 217, 220, 223, 227, 233, 236, 239] rfl (by decide +kernel)
theorem jg_19 : ∀ w ∈ jgl_19, w ∈ jWS := fun w h => jm_2 _ (jgx_19 w h).1 (jgood_of (jgx_19 w h).2)
def jgl_24 : List Cond := [.code yX6_takeSample cX6_takeSample 5 (some .boolean), .code yX6_mayTrigger cX6_mayTrigger 3 (some .boolean), .code yX6_startCatching cX6_startCatching 3 none, .code yX0_begin cX0_begin 3 none, .code yX4_back cX4_back 3 (some .int), .code yX0_add cX0_add 3 none, .code yX0_isFull cX0_isFull 1 (some .boolean), .code yX6_judgeLatest cX6_judgeLatest 4 none, .code yX5_lowestOffence cX5_lowestOffence 4 (some .int), .code yX0_at cX0_at 3 (some .int), .code yX4_add cX4_add 3 none, .code yX10_ramp cX10_ramp 6 (some .int)]
set_option maxRecDepth 100000 in
theorem jgx_24 : GoodIn tables_1_3 jgl_24 := goodIn_r _ [6, 10, 14, 18, 22, 26, 30, 34, 38, 42, 46, 50] rfl (by decide +kernel)
theorem jg_24 : ∀ w ∈ jgl_24, w ∈ jWS := fun w h => jm_3 _ (jgx_24 w h).1 (jgood_of (jgx_24 w h).2)
def jgl_28 : List Cond := [.codeWith yL_puts cL_puts 4 (some .int) [(0, 43, 44, 39), (0, 43, 48, 41)], .code yX10_putChannel cX10_putChannel 2 (some .int), .code yX10_checkRoom cX10_checkRoom 1 none, .code yX3_add cX3_add 4 (some .int), .code yX10_putConstant cX10_putConstant 2 (some .int), .code yX10_apply cX10_apply 2 (some .int), .code yX10_checkOperands cX10_checkOperands 2 none, .code yX10_combine cX10_combine 2 (some .int), .code yL_areAll cL_areAll 10 (some .boolean), .code yX10_records cX10_records 1 (some .int), .code yX10_samples cX10_samples 1 (some .int), .code yX10_fired cX10_fired 1 (some .int)]
set_option maxRecDepth 100000 in
theorem jgx_28 : GoodIn tables_1_3 jgl_28 := goodIn_r _ [53, 57, 61, 66, 70, 74, 78, 83, 86, 90, 94, 98] rfl (by decide +kernel)
theorem jg_28 : ∀ w ∈ jgl_28, w ∈ jWS := fun w h => jm_3 _ (jgx_28 w h).1 (jgood_of (jgx_28 w h).2)
def jgl_32 : List Cond := [.code yX10_isCatching cX10_isCatching 1 (some .boolean), .code yX10_failures cX10_failures 1 (some .int), .codeWith yL_offence cL_offence 2 (some .int) [(0, 4, 5, 92)], .code yX10_firstOffence cX10_firstOffence 1 (some .int), .code yL_isRecord cL_isRecord 18 (some .boolean), .code yX10_length cX10_length 2 (some .int), .code yX10_checkRecord cX10_checkRecord 2 none, .code yX10_trigger cX10_trigger 2 (some .int), .codeWith yL_value cL_value 5 (some .int) [(0, 7, 8, 58), (0, 7, 14, 39)], .code yX10_value cX10_value 4 (some .int), .code yX10_checkPosition cX10_checkPosition 4 none, .code yL_came cL_came 7 (some .int)]
set_option maxRecDepth 100000 in
theorem jgx_32 : GoodIn tables_1_3 jgl_32 := goodIn_r _ [102, 106, 109, 114, 133, 137, 141, 161, 164, 169, 173, 178] rfl (by decide +kernel)
theorem jg_32 : ∀ w ∈ jgl_32, w ∈ jWS := fun w h => jm_3 _ (jgx_32 w h).1 (jgood_of (jgx_32 w h).2)
def jgl_35 : List Cond := [.codeWith yL_measured cL_measured 7 (some .int) [(0, 53, 54, 58), (0, 53, 59, 39), (0, 53, 64, 41), (0, 53, 69, 92)], .code yX10_least cX10_least 6 (some .int), .code yX10_checkSource cX10_checkSource 1 none, .code yX10_checkTrace cX10_checkTrace 2 none, .code yX10_fillRow cX10_fillRow 5 (some .int), .code yX3_fill cX3_fill 4 none, .code yX3_compute cX3_compute 5 (some .int), .code yX3_ofTwo cX3_ofTwo 3 (some .int), .code yX3_keptResult cX3_keptResult 2 (some .int), .code yJ9_min_7cf53 cJ9_min_7cf53 2 (some .int), .code yJ9_max_7cf53 cJ9_max_7cf53 2 (some .int), .code yX3_ofOne cX3_ofOne 5 (some .int)]
set_option maxRecDepth 100000 in
theorem jgx_35 : GoodIn tables_1_3 jgl_35 := goodIn_r _ [181, 185, 188, 192, 197, 201, 206, 209, 212, 218, 221, 225] rfl (by decide +kernel)
theorem jg_35 : ∀ w ∈ jgl_35, w ∈ jWS := fun w h => jm_3 _ (jgx_35 w h).1 (jgood_of (jgx_35 w h).2)
def jgl_38 : List Cond := [.code yJ9_abs_0f7a4 cJ9_abs_0f7a4 1 (some .int), .code yX10_greatest cX10_greatest 6 (some .int), .code yX10_crossings cX10_crossings 7 (some .int), .code yX9_firesAt cX9_firesAt 7 (some .boolean)]
set_option maxRecDepth 100000 in
theorem jgx_38 : GoodIn tables_1_3 jgl_38 := goodIn_r _ [228, 234, 239, 2] rfl (by decide +kernel)
theorem jg_38 : ∀ w ∈ jgl_38, w ∈ jWS := fun w h => jm_3 _ (jgx_38 w h).1 (jgood_of (jgx_38 w h).2)
def jgl_40 : List Cond := [.code yX10_crossesAt cX10_crossesAt 3 (some .boolean), .code yX10_riseTime cX10_riseTime 8 (some .int), .code yX10_average cX10_average 6 (some .double), .codeWith yL_rescanned cL_rescanned 3 (some .int) [(0, 5, 6, 58)], .code yX10_rescan cX10_rescan 6 (some .int), .code yL_isGrouped cL_isGrouped 14 (some .boolean), .codeWith yL_grouped cL_grouped 7 (some .int) [(0, 45, 46, 39), (0, 45, 52, 58)], .code yX10_low cX10_low 10 (some .int), .code yX10_checkGroup cX10_checkGroup 5 none, .code yX10_groupEnd cX10_groupEnd 3 (some .int), .code yX10_high cX10_high 10 (some .int), .code yX10_mean cX10_mean 10 (some .int)]
set_option maxRecDepth 100000 in
theorem jgx_40 : GoodIn tables_1_4 jgl_40 := goodIn_r _ [3, 7, 17, 20, 24, 50, 53, 57, 61, 64, 68, 72] rfl (by decide +kernel)
theorem jg_40 : ∀ w ∈ jgl_40, w ∈ jWS := fun w h => jm_4 _ (jgx_40 w h).1 (jgood_of (jgx_40 w h).2)
def jgl_45 : List Cond := [.code yJ9_floorDiv_7cf53 cJ9_floorDiv_7cf53 3 (some .int), .code yL_isRising cL_isRising 7 (some .boolean), .codeWith yL_traced cL_traced 4 (some .int) [(0, 6, 7, 58), (0, 6, 11, 41)], .code yX10_trace cX10_trace 3 (some .int), .code yL_isDone cL_isDone 18 (some .boolean), .code yL_part cL_part 4 (some .int), .code yL_isCome cL_isCome 19 (some .boolean), .code yL_isSet cL_isSet 12 (some .boolean), .code yL_isArmed cL_isArmed 11 (some .boolean), .code yX10_disarm cX10_disarm 2 (some .boolean), .code yX10_clearMask cX10_clearMask 1 none, .code yL_isPut cL_isPut 7 (some .boolean)]
set_option maxRecDepth 100000 in
theorem jgx_45 : GoodIn tables_1_4 jgl_45 := goodIn_r _ [75, 78, 81, 85, 90, 93, 97, 100, 103, 107, 111, 114] rfl (by decide +kernel)
theorem jg_45 : ∀ w ∈ jgl_45, w ∈ jWS := fun w h => jm_4 _ (jgx_45 w h).1 (jgood_of (jgx_45 w h).2)
def jgl_48 : List Cond := [.code yX10_clearTrace cX10_clearTrace 2 (some .int), .code yX2_begunAnew cX2_begunAnew 1 (some (.object "Triggerwright$Condition")), .code yX7_begunAnew cX7_begunAnew 1 (some (.object "Triggerwright$Condition")), .code yX8_begunAnew cX8_begunAnew 1 (some (.object "Triggerwright$Condition")), .code yX9_begunAnew cX9_begunAnew 1 (some (.object "Triggerwright$Condition"))]
set_option maxRecDepth 100000 in
theorem jgx_48 : GoodIn tables_1_4 jgl_48 := goodIn_r _ [118, 30, 35, 40, 45] rfl (by decide +kernel)
theorem jg_48 : ∀ w ∈ jgl_48, w ∈ jWS := fun w h => jm_4 _ (jgx_48 w h).1 (jgood_of (jgx_48 w h).2)
