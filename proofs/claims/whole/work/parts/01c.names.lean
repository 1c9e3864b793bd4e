def wsX7_remembered_r3 : List Cond := [Cond.code yX7_firstRow cX7_firstRow 3 (some .int)]
def wsX7_remembered : List Cond := .code yX7_remembered cX7_remembered 3 (some .int) :: ((wsX7_remembered_r1 ++ (wsX7_remembered_r2 ++ wsX7_remembered_r3)) ++ wsX70)
def wsX7_count_r1 : List Cond := [Cond.fieldLink RX7 7 "LoopMemoModel" "s" "[I", Cond.fieldLink RX7 122 "LoopMemoModel" "typed" "I", Cond.fieldLink RX7 35 "LoopMemoModel" "pasts" "I", Cond.methodLink RX7 109 yX7_known, Cond.instanceMethod yX7_known, Cond.selects RX7 yX7_known yX7_known, Cond.initialized RX7, Cond.code yX7_known cX7_known 3 (some .int), Cond.methodLink RX7 66 yX7_isKnown, Cond.instanceMethod yX7_isKnown, Cond.selects RX7 yX7_isKnown yX7_isKnown, Cond.code yX7_isKnown cX7_isKnown 2 (some .boolean), Cond.methodLink RX7 76 yX7_weights, Cond.instanceMethod yX7_weights, Cond.selects RX7 yX7_weights yX7_weights, Cond.code yX7_weights cX7_weights 3 (some .int), Cond.methodLink RX7 57 yX7_weight, Cond.instanceMethod yX7_weight, Cond.selects RX7 yX7_weight yX7_weight, Cond.code yX7_weight cX7_weight 2 (some .int), Cond.methodLink RX7 54 yX7_found, Cond.instanceMethod yX7_found, Cond.selects RX7 yX7_found yX7_found, Cond.code yX7_found cX7_found 4 (some .int)]
def wsX7_count_r2 : List Cond := [Cond.methodLink RX7 50 yX7_isFound, Cond.instanceMethod yX7_isFound, Cond.selects RX7 yX7_isFound yX7_isFound, Cond.code yX7_isFound cX7_isFound 3 (some .boolean), Cond.methodLink RX7 43 yX7_innerKey, Cond.instanceMethod yX7_innerKey, Cond.selects RX7 yX7_innerKey yX7_innerKey, Cond.code yX7_innerKey cX7_innerKey 2 (some .int), Cond.methodLink RX7 47 yX7_innerValue, Cond.instanceMethod yX7_innerValue, Cond.selects RX7 yX7_innerValue yX7_innerValue, Cond.code yX7_innerValue cX7_innerValue 2 (some .int), Cond.methodLink RX7 39 yX7_in, Cond.static yX7_in, Cond.code yX7_in cX7_in 3 (some .boolean)]
def wsX7_count : List Cond := .code yX7_count cX7_count 2 (some .int) :: ((wsX7_count_r1 ++ wsX7_count_r2) ++ wsX70)
def wsX7_total : List Cond := .code yX7_total cX7_total 4 (some .int) :: ([.fieldLink RX7 7 "LoopMemoModel" "s" "[I", .methodLink RX7 39 yX7_in, .static yX7_in, .initialized RX7, .code yX7_in cX7_in 3 (some .boolean), .methodLink RX7 60 yX7_sum, .instanceMethod yX7_sum, .selects RX7 yX7_sum yX7_sum, .code yX7_sum cX7_sum 4 (some .int), .methodLink RX7 50 yX7_isFound, .instanceMethod yX7_isFound, .selects RX7 yX7_isFound yX7_isFound, .code yX7_isFound cX7_isFound 3 (some .boolean), .methodLink RX7 43 yX7_innerKey, .instanceMethod yX7_innerKey, .selects RX7 yX7_innerKey yX7_innerKey, .code yX7_innerKey cX7_innerKey 2 (some .int), .methodLink RX7 47 yX7_innerValue, .instanceMethod yX7_innerValue, .selects RX7 yX7_innerValue yX7_innerValue, .code yX7_innerValue cX7_innerValue 2 (some .int)] ++ wsX70)
def wsX7_rate : List Cond := .code yX7_rate cX7_rate 4 (some .double) :: ([.fieldLink RX7 7 "LoopMemoModel" "s" "[I"] ++ wsX70)
def wsX7_ifBound_r1 : List Cond := [Cond.fieldLink RX7 7 "LoopMemoModel" "s" "[I", Cond.methodLink RX7 39 yX7_in, Cond.static yX7_in, Cond.initialized RX7, Cond.code yX7_in cX7_in 3 (some .boolean), Cond.methodLink RX7 175 yX7_putsAside, Cond.instanceMethod yX7_putsAside, Cond.selects RX7 yX7_putsAside yX7_putsAside, Cond.code yX7_putsAside cX7_putsAside 2 none, Cond.fieldLink RX7 19 "LoopMemoModel" "spare" "[I", Cond.methodLink RX7 118 yX7_sets, Cond.instanceMethod yX7_sets, Cond.selects RX7 yX7_sets yX7_sets, Cond.code yX7_sets cX7_sets 3 (some .int), Cond.methodLink RX7 86 yX7_makesRoom, Cond.instanceMethod yX7_makesRoom, Cond.selects RX7 yX7_makesRoom yX7_makesRoom, Cond.code yX7_makesRoom cX7_makesRoom 4 (some .int), Cond.methodLink RX7 73 yX7_first, Cond.instanceMethod yX7_first, Cond.selects RX7 yX7_first yX7_first, Cond.code yX7_first cX7_first 4 (some .int), Cond.methodLink RX7 66 yX7_isKnown, Cond.instanceMethod yX7_isKnown]
def wsX7_ifBound_r2 : List Cond := [Cond.selects RX7 yX7_isKnown yX7_isKnown, Cond.code yX7_isKnown cX7_isKnown 2 (some .boolean), Cond.methodLink RX7 70 yX7_isAhead, Cond.instanceMethod yX7_isAhead, Cond.selects RX7 yX7_isAhead yX7_isAhead, Cond.code yX7_isAhead cX7_isAhead 4 (some .boolean), Cond.methodLink RX7 76 yX7_weights, Cond.instanceMethod yX7_weights, Cond.selects RX7 yX7_weights yX7_weights, Cond.code yX7_weights cX7_weights 3 (some .int), Cond.methodLink RX7 57 yX7_weight, Cond.instanceMethod yX7_weight, Cond.selects RX7 yX7_weight yX7_weight, Cond.code yX7_weight cX7_weight 2 (some .int), Cond.methodLink RX7 54 yX7_found, Cond.instanceMethod yX7_found, Cond.selects RX7 yX7_found yX7_found, Cond.code yX7_found cX7_found 4 (some .int), Cond.methodLink RX7 50 yX7_isFound, Cond.instanceMethod yX7_isFound, Cond.selects RX7 yX7_isFound yX7_isFound, Cond.code yX7_isFound cX7_isFound 3 (some .boolean), Cond.methodLink RX7 43 yX7_innerKey, Cond.instanceMethod yX7_innerKey]
def wsX7_ifBound_r3 : List Cond := [Cond.selects RX7 yX7_innerKey yX7_innerKey, Cond.code yX7_innerKey cX7_innerKey 2 (some .int), Cond.methodLink RX7 47 yX7_innerValue, Cond.instanceMethod yX7_innerValue, Cond.selects RX7 yX7_innerValue yX7_innerValue, Cond.code yX7_innerValue cX7_innerValue 2 (some .int), Cond.methodLink RX7 83 yX7_throwsAll, Cond.instanceMethod yX7_throwsAll, Cond.selects RX7 yX7_throwsAll yX7_throwsAll, Cond.code yX7_throwsAll cX7_throwsAll 3 (some .int), Cond.methodLink RX7 80 yX7_throwsOut, Cond.instanceMethod yX7_throwsOut, Cond.selects RX7 yX7_throwsOut yX7_throwsOut, Cond.code yX7_throwsOut cX7_throwsOut 2 (some .int), Cond.methodLink RX7 115 yX7_steps, Cond.instanceMethod yX7_steps, Cond.selects RX7 yX7_steps yX7_steps, Cond.code yX7_steps cX7_steps 5 (some .int), Cond.methodLink RX7 112 yX7_looks, Cond.instanceMethod yX7_looks, Cond.selects RX7 yX7_looks yX7_looks, Cond.code yX7_looks cX7_looks 2 (some .int), Cond.methodLink RX7 60 yX7_sum, Cond.instanceMethod yX7_sum]
def wsX7_ifBound_r4 : List Cond := [Cond.selects RX7 yX7_sum yX7_sum, Cond.code yX7_sum cX7_sum 4 (some .int), Cond.methodLink RX7 178 yX7_putsBack, Cond.instanceMethod yX7_putsBack, Cond.selects RX7 yX7_putsBack yX7_putsBack, Cond.code yX7_putsBack cX7_putsBack 2 none]
def wsX7_ifBound : List Cond := .code yX7_ifBound cX7_ifBound 9 (some .int) :: ((wsX7_ifBound_r1 ++ (wsX7_ifBound_r2 ++ (wsX7_ifBound_r3 ++ wsX7_ifBound_r4))) ++ wsX70)
def wsX7_swaps : List Cond := .code yX7_swaps cX7_swaps 5 none :: ([.fieldLink RX7 7 "LoopMemoModel" "s" "[I"] ++ wsX70)
def wsX7_sorts : List Cond := .code yX7_sorts cX7_sorts 3 none :: ([.fieldLink RX7 7 "LoopMemoModel" "s" "[I", .methodLink RX7 181 yX7_swaps, .instanceMethod yX7_swaps, .selects RX7 yX7_swaps yX7_swaps, .initialized RX7, .code yX7_swaps cX7_swaps 5 none] ++ wsX70)
def wsX7_turns : List Cond := .code yX7_turns cX7_turns 3 none :: ([.fieldLink RX7 7 "LoopMemoModel" "s" "[I", .methodLink RX7 181 yX7_swaps, .instanceMethod yX7_swaps, .selects RX7 yX7_swaps yX7_swaps, .initialized RX7, .code yX7_swaps cX7_swaps 5 none] ++ wsX70)
def wsX7_ifOrdered_r1 : List Cond := [Cond.methodLink RX7 39 yX7_in, Cond.static yX7_in, Cond.initialized RX7, Cond.code yX7_in cX7_in 3 (some .boolean), Cond.methodLink RX7 175 yX7_putsAside, Cond.instanceMethod yX7_putsAside, Cond.selects RX7 yX7_putsAside yX7_putsAside, Cond.code yX7_putsAside cX7_putsAside 2 none, Cond.fieldLink RX7 19 "LoopMemoModel" "spare" "[I", Cond.fieldLink RX7 7 "LoopMemoModel" "s" "[I", Cond.methodLink RX7 184 yX7_sorts, Cond.instanceMethod yX7_sorts, Cond.selects RX7 yX7_sorts yX7_sorts, Cond.code yX7_sorts cX7_sorts 3 none, Cond.methodLink RX7 181 yX7_swaps, Cond.instanceMethod yX7_swaps, Cond.selects RX7 yX7_swaps yX7_swaps, Cond.code yX7_swaps cX7_swaps 5 none, Cond.methodLink RX7 187 yX7_turns, Cond.instanceMethod yX7_turns, Cond.selects RX7 yX7_turns yX7_turns, Cond.code yX7_turns cX7_turns 3 none, Cond.methodLink RX7 115 yX7_steps, Cond.instanceMethod yX7_steps]
def wsX7_ifOrdered_r2 : List Cond := [Cond.selects RX7 yX7_steps yX7_steps, Cond.code yX7_steps cX7_steps 5 (some .int), Cond.methodLink RX7 112 yX7_looks, Cond.instanceMethod yX7_looks, Cond.selects RX7 yX7_looks yX7_looks, Cond.code yX7_looks cX7_looks 2 (some .int), Cond.methodLink RX7 66 yX7_isKnown, Cond.instanceMethod yX7_isKnown, Cond.selects RX7 yX7_isKnown yX7_isKnown, Cond.code yX7_isKnown cX7_isKnown 2 (some .boolean), Cond.methodLink RX7 57 yX7_weight, Cond.instanceMethod yX7_weight, Cond.selects RX7 yX7_weight yX7_weight, Cond.code yX7_weight cX7_weight 2 (some .int), Cond.methodLink RX7 54 yX7_found, Cond.instanceMethod yX7_found, Cond.selects RX7 yX7_found yX7_found, Cond.code yX7_found cX7_found 4 (some .int), Cond.methodLink RX7 50 yX7_isFound, Cond.instanceMethod yX7_isFound, Cond.selects RX7 yX7_isFound yX7_isFound, Cond.code yX7_isFound cX7_isFound 3 (some .boolean), Cond.methodLink RX7 43 yX7_innerKey, Cond.instanceMethod yX7_innerKey]
def wsX7_ifOrdered_r3 : List Cond := [Cond.selects RX7 yX7_innerKey yX7_innerKey, Cond.code yX7_innerKey cX7_innerKey 2 (some .int), Cond.methodLink RX7 47 yX7_innerValue, Cond.instanceMethod yX7_innerValue, Cond.selects RX7 yX7_innerValue yX7_innerValue, Cond.code yX7_innerValue cX7_innerValue 2 (some .int), Cond.methodLink RX7 86 yX7_makesRoom, Cond.instanceMethod yX7_makesRoom, Cond.selects RX7 yX7_makesRoom yX7_makesRoom, Cond.code yX7_makesRoom cX7_makesRoom 4 (some .int), Cond.methodLink RX7 73 yX7_first, Cond.instanceMethod yX7_first, Cond.selects RX7 yX7_first yX7_first, Cond.code yX7_first cX7_first 4 (some .int), Cond.methodLink RX7 70 yX7_isAhead, Cond.instanceMethod yX7_isAhead, Cond.selects RX7 yX7_isAhead yX7_isAhead, Cond.code yX7_isAhead cX7_isAhead 4 (some .boolean), Cond.methodLink RX7 76 yX7_weights, Cond.instanceMethod yX7_weights, Cond.selects RX7 yX7_weights yX7_weights, Cond.code yX7_weights cX7_weights 3 (some .int), Cond.methodLink RX7 60 yX7_sum, Cond.instanceMethod yX7_sum]
def wsX7_ifOrdered_r4 : List Cond := [Cond.selects RX7 yX7_sum yX7_sum, Cond.code yX7_sum cX7_sum 4 (some .int), Cond.methodLink RX7 178 yX7_putsBack, Cond.instanceMethod yX7_putsBack, Cond.selects RX7 yX7_putsBack yX7_putsBack, Cond.code yX7_putsBack cX7_putsBack 2 none]
def wsX7_ifOrdered : List Cond := .code yX7_ifOrdered cX7_ifOrdered 3 (some .int) :: ((wsX7_ifOrdered_r1 ++ (wsX7_ifOrdered_r2 ++ (wsX7_ifOrdered_r3 ++ wsX7_ifOrdered_r4))) ++ wsX70)
def wsX7_leastBound_r1 : List Cond := [Cond.methodLink RX7 190 yX7_ifBound, Cond.instanceMethod yX7_ifBound, Cond.selects RX7 yX7_ifBound yX7_ifBound, Cond.initialized RX7, Cond.code yX7_ifBound cX7_ifBound 9 (some .int), Cond.fieldLink RX7 7 "LoopMemoModel" "s" "[I", Cond.methodLink RX7 39 yX7_in, Cond.static yX7_in, Cond.code yX7_in cX7_in 3 (some .boolean), Cond.methodLink RX7 175 yX7_putsAside, Cond.instanceMethod yX7_putsAside, Cond.selects RX7 yX7_putsAside yX7_putsAside, Cond.code yX7_putsAside cX7_putsAside 2 none, Cond.fieldLink RX7 19 "LoopMemoModel" "spare" "[I", Cond.methodLink RX7 118 yX7_sets, Cond.instanceMethod yX7_sets, Cond.selects RX7 yX7_sets yX7_sets, Cond.code yX7_sets cX7_sets 3 (some .int), Cond.methodLink RX7 86 yX7_makesRoom, Cond.instanceMethod yX7_makesRoom, Cond.selects RX7 yX7_makesRoom yX7_makesRoom, Cond.code yX7_makesRoom cX7_makesRoom 4 (some .int), Cond.methodLink RX7 73 yX7_first, Cond.instanceMethod yX7_first]
def wsX7_leastBound_r2 : List Cond := [Cond.selects RX7 yX7_first yX7_first, Cond.code yX7_first cX7_first 4 (some .int), Cond.methodLink RX7 66 yX7_isKnown, Cond.instanceMethod yX7_isKnown, Cond.selects RX7 yX7_isKnown yX7_isKnown, Cond.code yX7_isKnown cX7_isKnown 2 (some .boolean), Cond.methodLink RX7 70 yX7_isAhead, Cond.instanceMethod yX7_isAhead, Cond.selects RX7 yX7_isAhead yX7_isAhead, Cond.code yX7_isAhead cX7_isAhead 4 (some .boolean), Cond.methodLink RX7 76 yX7_weights, Cond.instanceMethod yX7_weights, Cond.selects RX7 yX7_weights yX7_weights, Cond.code yX7_weights cX7_weights 3 (some .int), Cond.methodLink RX7 57 yX7_weight, Cond.instanceMethod yX7_weight, Cond.selects RX7 yX7_weight yX7_weight, Cond.code yX7_weight cX7_weight 2 (some .int), Cond.methodLink RX7 54 yX7_found, Cond.instanceMethod yX7_found, Cond.selects RX7 yX7_found yX7_found, Cond.code yX7_found cX7_found 4 (some .int), Cond.methodLink RX7 50 yX7_isFound, Cond.instanceMethod yX7_isFound]
def wsX7_leastBound_r3 : List Cond := [Cond.selects RX7 yX7_isFound yX7_isFound, Cond.code yX7_isFound cX7_isFound 3 (some .boolean), Cond.methodLink RX7 43 yX7_innerKey, Cond.instanceMethod yX7_innerKey, Cond.selects RX7 yX7_innerKey yX7_innerKey, Cond.code yX7_innerKey cX7_innerKey 2 (some .int), Cond.methodLink RX7 47 yX7_innerValue, Cond.instanceMethod yX7_innerValue, Cond.selects RX7 yX7_innerValue yX7_innerValue, Cond.code yX7_innerValue cX7_innerValue 2 (some .int), Cond.methodLink RX7 83 yX7_throwsAll, Cond.instanceMethod yX7_throwsAll, Cond.selects RX7 yX7_throwsAll yX7_throwsAll, Cond.code yX7_throwsAll cX7_throwsAll 3 (some .int), Cond.methodLink RX7 80 yX7_throwsOut, Cond.instanceMethod yX7_throwsOut, Cond.selects RX7 yX7_throwsOut yX7_throwsOut, Cond.code yX7_throwsOut cX7_throwsOut 2 (some .int), Cond.methodLink RX7 115 yX7_steps, Cond.instanceMethod yX7_steps, Cond.selects RX7 yX7_steps yX7_steps, Cond.code yX7_steps cX7_steps 5 (some .int), Cond.methodLink RX7 112 yX7_looks, Cond.instanceMethod yX7_looks]
def wsX7_leastBound_r4 : List Cond := [Cond.selects RX7 yX7_looks yX7_looks, Cond.code yX7_looks cX7_looks 2 (some .int), Cond.methodLink RX7 60 yX7_sum, Cond.instanceMethod yX7_sum, Cond.selects RX7 yX7_sum yX7_sum, Cond.code yX7_sum cX7_sum 4 (some .int), Cond.methodLink RX7 178 yX7_putsBack, Cond.instanceMethod yX7_putsBack, Cond.selects RX7 yX7_putsBack yX7_putsBack, Cond.code yX7_putsBack cX7_putsBack 2 none]
def wsX7_leastBound : List Cond := .code yX7_leastBound cX7_leastBound 5 (some .int) :: ((wsX7_leastBound_r1 ++ (wsX7_leastBound_r2 ++ (wsX7_leastBound_r3 ++ wsX7_leastBound_r4))) ++ wsX70)
def wsX7_undo : List Cond := .code yX7_undo cX7_undo 2 (some .int) :: ([.fieldLink RX7 35 "LoopMemoModel" "pasts" "I", .fieldLink RX7 7 "LoopMemoModel" "s" "[I", .fieldLink RX7 13 "LoopMemoModel" "past" "[I"] ++ wsX70)
def wsX7_save : List Cond := .code yX7_save cX7_save 2 (some .int) :: ([.fieldLink RX7 193 "LoopMemoModel" "isKept" "Z", .fieldLink RX7 16 "LoopMemoModel" "kept" "[I", .fieldLink RX7 7 "LoopMemoModel" "s" "[I", .methodLink RX7 109 yX7_known, .instanceMethod yX7_known, .selects RX7 yX7_known yX7_known, .initialized RX7, .code yX7_known cX7_known 3 (some .int), .methodLink RX7 66 yX7_isKnown, .instanceMethod yX7_isKnown, .selects RX7 yX7_isKnown yX7_isKnown, .code yX7_isKnown cX7_isKnown 2 (some .boolean)] ++ wsX70)
def wsX7_restore : List Cond := .code yX7_restore cX7_restore 2 (some .int) :: ([.fieldLink RX7 193 "LoopMemoModel" "isKept" "Z", .fieldLink RX7 7 "LoopMemoModel" "s" "[I", .fieldLink RX7 16 "LoopMemoModel" "kept" "[I", .methodLink RX7 96 yX7_changes, .instanceMethod yX7_changes, .selects RX7 yX7_changes yX7_changes, .initialized RX7, .code yX7_changes cX7_changes 2 none, .fieldLink RX7 31 "LoopMemoModel" "runs" "Z", .fieldLink RX7 35 "LoopMemoModel" "pasts" "I", .fieldLink RX7 13 "LoopMemoModel" "past" "[I", .methodLink RX7 109 yX7_known, .instanceMethod yX7_known, .selects RX7 yX7_known yX7_known, .code yX7_known cX7_known 3 (some .int), .methodLink RX7 66 yX7_isKnown, .instanceMethod yX7_isKnown, .selects RX7 yX7_isKnown yX7_isKnown, .code yX7_isKnown cX7_isKnown 2 (some .boolean)] ++ wsX70)
def wsJ9_min_7cf53 : List Cond := .code yJ9_min_7cf53 cJ9_min_7cf53 2 (some .int) :: ([])
theorem inJx8e188 : ∀ w ∈ wsJx8e1880, w ∈ lw_tbl := by decide +kernel
theorem inJ9 : ∀ w ∈ wsJ90, w ∈ lw_tbl := by decide +kernel
theorem inJ10 : ∀ w ∈ wsJ100, w ∈ lw_tbl := by decide +kernel
theorem dX0_init_0 : decode cX0_init 0 = .ok (.aload_n 0, 1) := by decide +kernel
theorem dX0_init_1 : decode cX0_init 1 = .ok (.invokespecial 3, 3) := by decide +kernel
theorem dX0_init_4 : decode cX0_init 4 = .ok (.aload_n 0, 1) := by decide +kernel
theorem dX0_init_5 : decode cX0_init 5 = .ok (.bipush 10, 2) := by decide +kernel
theorem dX0_init_7 : decode cX0_init 7 = .ok (.newarray .int, 2) := by decide +kernel
theorem dX0_init_9 : decode cX0_init 9 = .ok (.putfield 9, 3) := by decide +kernel
theorem dX0_init_12 : decode cX0_init 12 = .ok (.aload_n 0, 1) := by decide +kernel
theorem dX0_init_13 : decode cX0_init 13 = .ok (.bipush 10, 2) := by decide +kernel
theorem dX0_init_15 : decode cX0_init 15 = .ok (.newarray .int, 2) := by decide +kernel
theorem dX0_init_17 : decode cX0_init 17 = .ok (.putfield 15, 3) := by decide +kernel
theorem dX0_init_20 : decode cX0_init 20 = .ok (.aload_n 0, 1) := by decide +kernel
theorem dX0_init_21 : decode cX0_init 21 = .ok (.bipush 10, 2) := by decide +kernel
theorem dX0_init_23 : decode cX0_init 23 = .ok (.newarray .int, 2) := by decide +kernel
theorem dX0_init_25 : decode cX0_init 25 = .ok (.putfield 18, 3) := by decide +kernel
theorem dX0_init_28 : decode cX0_init 28 = .ok (.return_, 1) := by decide +kernel
set_option maxRecDepth 20000 in
theorem ggX0_copyFrom_X6_copyNumbers : GoodIn wsX0_copyFrom wsX6_copyNumbers := goodIn_r _ [6, 7, 8, 9, 10, 11, 12, 13, 14] (by decide +kernel) (by decide +kernel)
set_option maxRecDepth 20000 in
theorem gX0_copyFrom_X6_copyNumbers_n21 : GoodIn wsX0_copyFrom (wsX6_copyNumbers) := ggX0_copyFrom_X6_copyNumbers
theorem dX0_copyFrom_0 : decode cX0_copyFrom 0 = .ok (.aload_n 1, 1) := by decide +kernel
theorem dX0_copyFrom_1 : decode cX0_copyFrom 1 = .ok (.getfield 9, 3) := by decide +kernel
theorem dX0_copyFrom_4 : decode cX0_copyFrom 4 = .ok (.aload_n 0, 1) := by decide +kernel
theorem dX0_copyFrom_5 : decode cX0_copyFrom 5 = .ok (.getfield 9, 3) := by decide +kernel
theorem dX0_copyFrom_8 : decode cX0_copyFrom 8 = .ok (.invokestatic 21, 3) := by decide +kernel
theorem dX0_copyFrom_11 : decode cX0_copyFrom 11 = .ok (.aload_n 1, 1) := by decide +kernel
theorem dX0_copyFrom_12 : decode cX0_copyFrom 12 = .ok (.getfield 15, 3) := by decide +kernel
theorem dX0_copyFrom_15 : decode cX0_copyFrom 15 = .ok (.aload_n 0, 1) := by decide +kernel
theorem dX0_copyFrom_16 : decode cX0_copyFrom 16 = .ok (.getfield 15, 3) := by decide +kernel
theorem dX0_copyFrom_19 : decode cX0_copyFrom 19 = .ok (.invokestatic 21, 3) := by decide +kernel
theorem dX0_copyFrom_22 : decode cX0_copyFrom 22 = .ok (.aload_n 1, 1) := by decide +kernel
theorem dX0_copyFrom_23 : decode cX0_copyFrom 23 = .ok (.getfield 18, 3) := by decide +kernel
theorem dX0_copyFrom_26 : decode cX0_copyFrom 26 = .ok (.aload_n 0, 1) := by decide +kernel
theorem dX0_copyFrom_27 : decode cX0_copyFrom 27 = .ok (.getfield 18, 3) := by decide +kernel
theorem dX0_copyFrom_30 : decode cX0_copyFrom 30 = .ok (.invokestatic 21, 3) := by decide +kernel
theorem dX0_copyFrom_33 : decode cX0_copyFrom 33 = .ok (.return_, 1) := by decide +kernel
set_option maxRecDepth 20000 in
theorem ggX0_find_X5_size : GoodIn wsX0_find wsX5_size := goodIn_r _ [8, 9, 23, 24, 25] (by decide +kernel) (by decide +kernel)
set_option maxRecDepth 20000 in
theorem gX0_find_X5_size : GoodIn wsX0_find (wsV RX0 25 RX5 yX5_size wsX5_size) := goodIn_app (goodIn_of _ (by decide +kernel)) ggX0_find_X5_size
set_option maxRecDepth 20000 in
theorem ggX0_find_X5_value : GoodIn wsX0_find wsX5_value := goodIn_r _ [13, 14, 23, 24, 25] (by decide +kernel) (by decide +kernel)
set_option maxRecDepth 20000 in
theorem gX0_find_X5_value : GoodIn wsX0_find (wsV RX0 31 RX5 yX5_value wsX5_value) := goodIn_app (goodIn_of _ (by decide +kernel)) ggX0_find_X5_value
set_option maxRecDepth 20000 in
theorem ggX0_find_X5_key : GoodIn wsX0_find wsX5_key := goodIn_r _ [18, 19, 23, 24, 25] (by decide +kernel) (by decide +kernel)
set_option maxRecDepth 20000 in
theorem gX0_find_X5_key : GoodIn wsX0_find (wsV RX0 35 RX5 yX5_key wsX5_key) := goodIn_app (goodIn_of _ (by decide +kernel)) ggX0_find_X5_key
theorem dX0_find_0 : decode cX0_find 0 = .ok (.iconst 0, 1) := by decide +kernel
theorem dX0_find_1 : decode cX0_find 1 = .ok (.istore 4, 2) := by decide +kernel
theorem dX0_find_3 : decode cX0_find 3 = .ok (.iload 4, 2) := by decide +kernel
theorem dX0_find_5 : decode cX0_find 5 = .ok (.bipush 10, 2) := by decide +kernel
theorem dX0_find_7 : decode cX0_find 7 = .ok (.if_icmp .ge 25, 3) := by decide +kernel
theorem dX0_find_10 : decode cX0_find 10 = .ok (.aload_n 0, 1) := by decide +kernel
theorem dX0_find_11 : decode cX0_find 11 = .ok (.getfield 9, 3) := by decide +kernel
theorem dX0_find_14 : decode cX0_find 14 = .ok (.iload 4, 2) := by decide +kernel
theorem dX0_find_16 : decode cX0_find 16 = .ok (.iconst 0, 1) := by decide +kernel
theorem dX0_find_17 : decode cX0_find 17 = .ok (.iastore, 1) := by decide +kernel
theorem dX0_find_18 : decode cX0_find 18 = .ok (.aload_n 0, 1) := by decide +kernel
theorem dX0_find_19 : decode cX0_find 19 = .ok (.getfield 15, 3) := by decide +kernel
theorem dX0_find_22 : decode cX0_find 22 = .ok (.iload 4, 2) := by decide +kernel
theorem dX0_find_24 : decode cX0_find 24 = .ok (.iconst 0, 1) := by decide +kernel
theorem dX0_find_25 : decode cX0_find 25 = .ok (.iastore, 1) := by decide +kernel
theorem dX0_find_26 : decode cX0_find 26 = .ok (.iinc 4 1, 3) := by decide +kernel
theorem dX0_find_29 : decode cX0_find 29 = .ok (.goto (-26), 3) := by decide +kernel
theorem dX0_find_32 : decode cX0_find 32 = .ok (.aload_n 1, 1) := by decide +kernel
theorem dX0_find_33 : decode cX0_find 33 = .ok (.invokevirtual 25, 3) := by decide +kernel
theorem dX0_find_36 : decode cX0_find 36 = .ok (.iconst 1, 1) := by decide +kernel
theorem dX0_find_37 : decode cX0_find 37 = .ok (.isub, 1) := by decide +kernel
theorem dX0_find_38 : decode cX0_find 38 = .ok (.istore 4, 2) := by decide +kernel
theorem dX0_find_40 : decode cX0_find 40 = .ok (.iload 4, 2) := by decide +kernel
theorem dX0_find_42 : decode cX0_find 42 = .ok (.ifCond .lt 81, 3) := by decide +kernel
theorem dX0_find_45 : decode cX0_find 45 = .ok (.aload_n 1, 1) := by decide +kernel
theorem dX0_find_46 : decode cX0_find 46 = .ok (.iload 4, 2) := by decide +kernel
theorem dX0_find_48 : decode cX0_find 48 = .ok (.invokevirtual 31, 3) := by decide +kernel
theorem dX0_find_51 : decode cX0_find 51 = .ok (.istore 5, 2) := by decide +kernel
theorem dX0_find_53 : decode cX0_find 53 = .ok (.aload_n 1, 1) := by decide +kernel
theorem dX0_find_54 : decode cX0_find 54 = .ok (.iload 4, 2) := by decide +kernel
theorem dX0_find_56 : decode cX0_find 56 = .ok (.invokevirtual 35, 3) := by decide +kernel
theorem dX0_find_59 : decode cX0_find 59 = .ok (.istore 6, 2) := by decide +kernel
theorem dX0_find_61 : decode cX0_find 61 = .ok (.iload 6, 2) := by decide +kernel
theorem dX0_find_63 : decode cX0_find 63 = .ok (.ifCond .lt 54, 3) := by decide +kernel
theorem dX0_find_66 : decode cX0_find 66 = .ok (.iload 6, 2) := by decide +kernel
theorem dX0_find_68 : decode cX0_find 68 = .ok (.bipush 10, 2) := by decide +kernel
theorem dX0_find_70 : decode cX0_find 70 = .ok (.if_icmp .ge 47, 3) := by decide +kernel
theorem dX0_find_73 : decode cX0_find 73 = .ok (.iload 5, 2) := by decide +kernel
theorem dX0_find_75 : decode cX0_find 75 = .ok (.iload_n 2, 1) := by decide +kernel
theorem dX0_find_76 : decode cX0_find 76 = .ok (.if_icmp .lt 41, 3) := by decide +kernel
theorem dX0_find_79 : decode cX0_find 79 = .ok (.iload 5, 2) := by decide +kernel
theorem dX0_find_81 : decode cX0_find 81 = .ok (.iload_n 3, 1) := by decide +kernel
theorem dX0_find_82 : decode cX0_find 82 = .ok (.if_icmp .gt 35, 3) := by decide +kernel
theorem dX0_find_85 : decode cX0_find 85 = .ok (.aload_n 0, 1) := by decide +kernel
theorem dX0_find_86 : decode cX0_find 86 = .ok (.getfield 9, 3) := by decide +kernel
theorem dX0_find_89 : decode cX0_find 89 = .ok (.iload 6, 2) := by decide +kernel
theorem dX0_find_91 : decode cX0_find 91 = .ok (.dup2, 1) := by decide +kernel
theorem dX0_find_92 : decode cX0_find 92 = .ok (.iaload, 1) := by decide +kernel
theorem dX0_find_93 : decode cX0_find 93 = .ok (.iconst 1, 1) := by decide +kernel
theorem dX0_find_94 : decode cX0_find 94 = .ok (.iadd, 1) := by decide +kernel
theorem dX0_find_95 : decode cX0_find 95 = .ok (.iastore, 1) := by decide +kernel
theorem dX0_find_96 : decode cX0_find 96 = .ok (.aload_n 0, 1) := by decide +kernel
theorem dX0_find_97 : decode cX0_find 97 = .ok (.getfield 15, 3) := by decide +kernel
theorem dX0_find_100 : decode cX0_find 100 = .ok (.iload 6, 2) := by decide +kernel
theorem dX0_find_102 : decode cX0_find 102 = .ok (.dup2, 1) := by decide +kernel
theorem dX0_find_103 : decode cX0_find 103 = .ok (.iaload, 1) := by decide +kernel
theorem dX0_find_104 : decode cX0_find 104 = .ok (.iload 5, 2) := by decide +kernel
theorem dX0_find_106 : decode cX0_find 106 = .ok (.iadd, 1) := by decide +kernel
theorem dX0_find_107 : decode cX0_find 107 = .ok (.iastore, 1) := by decide +kernel
theorem dX0_find_108 : decode cX0_find 108 = .ok (.aload_n 0, 1) := by decide +kernel
theorem dX0_find_109 : decode cX0_find 109 = .ok (.getfield 18, 3) := by decide +kernel
theorem dX0_find_112 : decode cX0_find 112 = .ok (.iload 6, 2) := by decide +kernel
theorem dX0_find_114 : decode cX0_find 114 = .ok (.iload 4, 2) := by decide +kernel
theorem dX0_find_116 : decode cX0_find 116 = .ok (.iastore, 1) := by decide +kernel
theorem dX0_find_117 : decode cX0_find 117 = .ok (.iinc 4 (-1), 3) := by decide +kernel
theorem dX0_find_120 : decode cX0_find 120 = .ok (.goto (-80), 3) := by decide +kernel
theorem dX0_find_123 : decode cX0_find 123 = .ok (.return_, 1) := by decide +kernel
theorem dX0_weight_0 : decode cX0_weight 0 = .ok (.iconst 2, 1) := by decide +kernel
theorem dX0_weight_1 : decode cX0_weight 1 = .ok (.iload_n 1, 1) := by decide +kernel
theorem dX0_weight_2 : decode cX0_weight 2 = .ok (.ifCond .lt 21, 3) := by decide +kernel
theorem dX0_weight_5 : decode cX0_weight 5 = .ok (.iload_n 1, 1) := by decide +kernel
theorem dX0_weight_6 : decode cX0_weight 6 = .ok (.aload_n 0, 1) := by decide +kernel
theorem dX0_weight_7 : decode cX0_weight 7 = .ok (.getfield 9, 3) := by decide +kernel
theorem dX0_weight_10 : decode cX0_weight 10 = .ok (.arraylength, 1) := by decide +kernel
theorem dX0_weight_11 : decode cX0_weight 11 = .ok (.if_icmp .ge 12, 3) := by decide +kernel
theorem dX0_weight_14 : decode cX0_weight 14 = .ok (.aload_n 0, 1) := by decide +kernel
theorem dX0_weight_15 : decode cX0_weight 15 = .ok (.getfield 9, 3) := by decide +kernel
theorem dX0_weight_18 : decode cX0_weight 18 = .ok (.iload_n 1, 1) := by decide +kernel
theorem dX0_weight_19 : decode cX0_weight 19 = .ok (.iaload, 1) := by decide +kernel
theorem dX0_weight_20 : decode cX0_weight 20 = .ok (.goto 4, 3) := by decide +kernel
theorem dX0_weight_23 : decode cX0_weight 23 = .ok (.iconst 0, 1) := by decide +kernel
theorem dX0_weight_24 : decode cX0_weight 24 = .ok (.iadd, 1) := by decide +kernel
theorem dX0_weight_25 : decode cX0_weight 25 = .ok (.ireturn, 1) := by decide +kernel
theorem dX0_sum_0 : decode cX0_sum 0 = .ok (.iload_n 1, 1) := by decide +kernel
theorem dX0_sum_1 : decode cX0_sum 1 = .ok (.ifCond .lt 21, 3) := by decide +kernel
theorem dX0_sum_4 : decode cX0_sum 4 = .ok (.iload_n 1, 1) := by decide +kernel
theorem dX0_sum_5 : decode cX0_sum 5 = .ok (.aload_n 0, 1) := by decide +kernel
theorem dX0_sum_6 : decode cX0_sum 6 = .ok (.getfield 15, 3) := by decide +kernel
theorem dX0_sum_9 : decode cX0_sum 9 = .ok (.arraylength, 1) := by decide +kernel
theorem dX0_sum_10 : decode cX0_sum 10 = .ok (.if_icmp .ge 12, 3) := by decide +kernel
theorem dX0_sum_13 : decode cX0_sum 13 = .ok (.aload_n 0, 1) := by decide +kernel
theorem dX0_sum_14 : decode cX0_sum 14 = .ok (.getfield 15, 3) := by decide +kernel
theorem dX0_sum_17 : decode cX0_sum 17 = .ok (.iload_n 1, 1) := by decide +kernel
theorem dX0_sum_18 : decode cX0_sum 18 = .ok (.iaload, 1) := by decide +kernel
theorem dX0_sum_19 : decode cX0_sum 19 = .ok (.goto 4, 3) := by decide +kernel
theorem dX0_sum_22 : decode cX0_sum 22 = .ok (.iconst 0, 1) := by decide +kernel
theorem dX0_sum_23 : decode cX0_sum 23 = .ok (.ireturn, 1) := by decide +kernel
set_option maxRecDepth 20000 in
theorem ggX0_tell_X0_weight : GoodIn wsX0_tell wsX0_weight := goodIn_r _ [8, 1, 9, 10, 11] (by decide +kernel) (by decide +kernel)
set_option maxRecDepth 20000 in
theorem gX0_tell_X0_weight : GoodIn wsX0_tell (wsV RX0 38 RX0 yX0_weight wsX0_weight) := goodIn_app (goodIn_of _ (by decide +kernel)) ggX0_tell_X0_weight
theorem dX0_tell_0 : decode cX0_tell 0 = .ok (.iload_n 1, 1) := by decide +kernel
theorem dX0_tell_1 : decode cX0_tell 1 = .ok (.ifCond .lt 9, 3) := by decide +kernel
theorem dX0_tell_4 : decode cX0_tell 4 = .ok (.iload_n 1, 1) := by decide +kernel
theorem dX0_tell_5 : decode cX0_tell 5 = .ok (.bipush 10, 2) := by decide +kernel
theorem dX0_tell_7 : decode cX0_tell 7 = .ok (.if_icmp .lt 5, 3) := by decide +kernel
theorem dX0_tell_10 : decode cX0_tell 10 = .ok (.iconst (-1), 1) := by decide +kernel
theorem dX0_tell_11 : decode cX0_tell 11 = .ok (.ireturn, 1) := by decide +kernel
theorem dX0_tell_12 : decode cX0_tell 12 = .ok (.iload_n 2, 1) := by decide +kernel
theorem dX0_tell_13 : decode cX0_tell 13 = .ok (.tableswitch 47 0 2 #[27, 34, 40], 27) := by decide +kernel
theorem dX0_tell_40 : decode cX0_tell 40 = .ok (.aload_n 0, 1) := by decide +kernel
theorem dX0_tell_41 : decode cX0_tell 41 = .ok (.getfield 9, 3) := by decide +kernel
theorem dX0_tell_44 : decode cX0_tell 44 = .ok (.iload_n 1, 1) := by decide +kernel
theorem dX0_tell_45 : decode cX0_tell 45 = .ok (.iaload, 1) := by decide +kernel
theorem dX0_tell_46 : decode cX0_tell 46 = .ok (.ireturn, 1) := by decide +kernel
theorem dX0_tell_47 : decode cX0_tell 47 = .ok (.aload_n 0, 1) := by decide +kernel
theorem dX0_tell_48 : decode cX0_tell 48 = .ok (.iload_n 1, 1) := by decide +kernel
theorem dX0_tell_49 : decode cX0_tell 49 = .ok (.invokevirtual 38, 3) := by decide +kernel
theorem dX0_tell_52 : decode cX0_tell 52 = .ok (.ireturn, 1) := by decide +kernel
theorem dX0_tell_53 : decode cX0_tell 53 = .ok (.aload_n 0, 1) := by decide +kernel
theorem dX0_tell_54 : decode cX0_tell 54 = .ok (.getfield 15, 3) := by decide +kernel
theorem dX0_tell_57 : decode cX0_tell 57 = .ok (.iload_n 1, 1) := by decide +kernel
theorem dX0_tell_58 : decode cX0_tell 58 = .ok (.iaload, 1) := by decide +kernel
theorem dX0_tell_59 : decode cX0_tell 59 = .ok (.ireturn, 1) := by decide +kernel
theorem dX0_tell_60 : decode cX0_tell 60 = .ok (.aload_n 0, 1) := by decide +kernel
theorem dX0_tell_61 : decode cX0_tell 61 = .ok (.getfield 9, 3) := by decide +kernel
theorem dX0_tell_64 : decode cX0_tell 64 = .ok (.iload_n 1, 1) := by decide +kernel
theorem dX0_tell_65 : decode cX0_tell 65 = .ok (.iaload, 1) := by decide +kernel
theorem dX0_tell_66 : decode cX0_tell 66 = .ok (.ifCond .ne 8, 3) := by decide +kernel
theorem dX0_tell_69 : decode cX0_tell 69 = .ok (.bipush (-4), 2) := by decide +kernel
theorem dX0_tell_71 : decode cX0_tell 71 = .ok (.goto 9, 3) := by decide +kernel
theorem dX0_tell_74 : decode cX0_tell 74 = .ok (.aload_n 0, 1) := by decide +kernel
theorem dX0_tell_75 : decode cX0_tell 75 = .ok (.getfield 18, 3) := by decide +kernel
theorem dX0_tell_78 : decode cX0_tell 78 = .ok (.iload_n 1, 1) := by decide +kernel
theorem dX0_tell_79 : decode cX0_tell 79 = .ok (.iaload, 1) := by decide +kernel
theorem dX0_tell_80 : decode cX0_tell 80 = .ok (.ireturn, 1) := by decide +kernel
set_option maxRecDepth 20000 in
theorem ggX1_init_X4_init : GoodIn wsX1_init wsX4_init := goodIn_r _ [10, 11, 2, 3, 12, 13, 14, 15, 16, 17, 18, 19, 20, 21, 22, 23, 24, 25, 26, 27, 28, 29, 30, 31, 32, 33, 34, 35, 36, 37, 38, 39, 40, 41, 42, 43, 44, 45, 46, 47, 48, 49, 50, 51, 52, 53, 54, 66, 67, 68, 58, 59, 60, 61, 62, 63, 64, 65, 69, 70, 71, 72, 73, 74, 75] (by decide +kernel) (by decide +kernel)
set_option maxRecDepth 20000 in
theorem gX1_init_X4_init : GoodIn wsX1_init (wsX4_init) := ggX1_init_X4_init
theorem dX1_init_0 : decode cX1_init 0 = .ok (.aload_n 0, 1) := by decide +kernel
theorem dX1_init_1 : decode cX1_init 1 = .ok (.invokespecial 3, 3) := by decide +kernel
theorem dX1_init_4 : decode cX1_init 4 = .ok (.aload_n 0, 1) := by decide +kernel
theorem dX1_init_5 : decode cX1_init 5 = .ok (.iconst 5, 1) := by decide +kernel
theorem dX1_init_6 : decode cX1_init 6 = .ok (.anewarray 11, 3) := by decide +kernel
theorem dX1_init_9 : decode cX1_init 9 = .ok (.putfield 13, 3) := by decide +kernel
theorem dX1_init_12 : decode cX1_init 12 = .ok (.iconst 0, 1) := by decide +kernel
theorem dX1_init_13 : decode cX1_init 13 = .ok (.istore_n 1, 1) := by decide +kernel
theorem dX1_init_14 : decode cX1_init 14 = .ok (.iload_n 1, 1) := by decide +kernel
theorem dX1_init_15 : decode cX1_init 15 = .ok (.iconst 5, 1) := by decide +kernel
theorem dX1_init_16 : decode cX1_init 16 = .ok (.if_icmp .ge 22, 3) := by decide +kernel
theorem dX1_init_19 : decode cX1_init 19 = .ok (.aload_n 0, 1) := by decide +kernel
theorem dX1_init_20 : decode cX1_init 20 = .ok (.getfield 13, 3) := by decide +kernel
theorem dX1_init_23 : decode cX1_init 23 = .ok (.iload_n 1, 1) := by decide +kernel
theorem dX1_init_24 : decode cX1_init 24 = .ok (.new 11, 3) := by decide +kernel
theorem dX1_init_27 : decode cX1_init 27 = .ok (.dup, 1) := by decide +kernel
theorem dX1_init_28 : decode cX1_init 28 = .ok (.invokespecial 17, 3) := by decide +kernel
theorem dX1_init_31 : decode cX1_init 31 = .ok (.aastore, 1) := by decide +kernel
theorem dX1_init_32 : decode cX1_init 32 = .ok (.iinc 1 1, 3) := by decide +kernel
theorem dX1_init_35 : decode cX1_init 35 = .ok (.goto (-21), 3) := by decide +kernel
theorem dX1_init_38 : decode cX1_init 38 = .ok (.return_, 1) := by decide +kernel
theorem dX1_size_0 : decode cX1_size 0 = .ok (.aload_n 0, 1) := by decide +kernel
theorem dX1_size_1 : decode cX1_size 1 = .ok (.getfield 18, 3) := by decide +kernel
theorem dX1_size_4 : decode cX1_size 4 = .ok (.ireturn, 1) := by decide +kernel
set_option maxRecDepth 20000 in
theorem ggX1_prepare_X1_slot : GoodIn wsX1_prepare wsX1_slot := goodIn_r _ [6, 7, 57, 58, 59] (by decide +kernel) (by decide +kernel)
set_option maxRecDepth 20000 in
theorem gX1_prepare_X1_slot : GoodIn wsX1_prepare (wsV RX1 25 RX1 yX1_slot wsX1_slot) := goodIn_app (goodIn_of _ (by decide +kernel)) ggX1_prepare_X1_slot
set_option maxRecDepth 20000 in
theorem ggX1_prepare_X4_copyFrom : GoodIn wsX1_prepare wsX4_copyFrom := goodIn_r _ [12, 13, 14, 15, 16, 17, 18, 19, 20, 21, 22, 23, 24, 25, 26, 27, 28, 29, 30, 31, 32, 33, 34, 35, 36, 37, 38, 39, 40, 41, 42, 43, 44, 45, 46, 47, 48, 49, 50, 51, 52, 53, 54, 55, 56, 60, 61, 62, 63, 64, 65, 66, 67, 68, 69, 70, 71, 72, 73, 74, 75, 76, 77] (by decide +kernel) (by decide +kernel)
set_option maxRecDepth 20000 in
theorem gX1_prepare_X4_copyFrom : GoodIn wsX1_prepare (wsV RX1 29 RX4 yX4_copyFrom wsX4_copyFrom) := goodIn_app (goodIn_of _ (by decide +kernel)) ggX1_prepare_X4_copyFrom
theorem dX1_prepare_0 : decode cX1_prepare 0 = .ok (.aload_n 0, 1) := by decide +kernel
theorem dX1_prepare_1 : decode cX1_prepare 1 = .ok (.aload_n 0, 1) := by decide +kernel
theorem dX1_prepare_2 : decode cX1_prepare 2 = .ok (.getfield 22, 3) := by decide +kernel
theorem dX1_prepare_5 : decode cX1_prepare 5 = .ok (.invokevirtual 25, 3) := by decide +kernel
theorem dX1_prepare_8 : decode cX1_prepare 8 = .ok (.astore_n 2, 1) := by decide +kernel
theorem dX1_prepare_9 : decode cX1_prepare 9 = .ok (.aload_n 2, 1) := by decide +kernel
theorem dX1_prepare_10 : decode cX1_prepare 10 = .ok (.ifnull 8, 3) := by decide +kernel
theorem dX1_prepare_13 : decode cX1_prepare 13 = .ok (.aload_n 2, 1) := by decide +kernel
theorem dX1_prepare_14 : decode cX1_prepare 14 = .ok (.aload_n 1, 1) := by decide +kernel
theorem dX1_prepare_15 : decode cX1_prepare 15 = .ok (.invokevirtual 29, 3) := by decide +kernel
theorem dX1_prepare_18 : decode cX1_prepare 18 = .ok (.return_, 1) := by decide +kernel
theorem dX1_commit_0 : decode cX1_commit 0 = .ok (.iload_n 1, 1) := by decide +kernel
theorem dX1_commit_1 : decode cX1_commit 1 = .ok (.ifCond .lt 29, 3) := by decide +kernel
theorem dX1_commit_4 : decode cX1_commit 4 = .ok (.aload_n 0, 1) := by decide +kernel
theorem dX1_commit_5 : decode cX1_commit 5 = .ok (.aload_n 0, 1) := by decide +kernel
theorem dX1_commit_6 : decode cX1_commit 6 = .ok (.getfield 22, 3) := by decide +kernel
theorem dX1_commit_9 : decode cX1_commit 9 = .ok (.iconst 1, 1) := by decide +kernel
theorem dX1_commit_10 : decode cX1_commit 10 = .ok (.iadd, 1) := by decide +kernel
theorem dX1_commit_11 : decode cX1_commit 11 = .ok (.iconst 5, 1) := by decide +kernel
theorem dX1_commit_12 : decode cX1_commit 12 = .ok (.irem, 1) := by decide +kernel
theorem dX1_commit_13 : decode cX1_commit 13 = .ok (.putfield 22, 3) := by decide +kernel
theorem dX1_commit_16 : decode cX1_commit 16 = .ok (.aload_n 0, 1) := by decide +kernel
theorem dX1_commit_17 : decode cX1_commit 17 = .ok (.aload_n 0, 1) := by decide +kernel
theorem dX1_commit_18 : decode cX1_commit 18 = .ok (.getfield 18, 3) := by decide +kernel
theorem dX1_commit_21 : decode cX1_commit 21 = .ok (.iconst 1, 1) := by decide +kernel
theorem dX1_commit_22 : decode cX1_commit 22 = .ok (.iadd, 1) := by decide +kernel
theorem dX1_commit_23 : decode cX1_commit 23 = .ok (.iconst 4, 1) := by decide +kernel
theorem dX1_commit_24 : decode cX1_commit 24 = .ok (.invokestatic 33, 3) := by decide +kernel
theorem dX1_commit_27 : decode cX1_commit 27 = .ok (.putfield 18, 3) := by decide +kernel
theorem dX1_commit_30 : decode cX1_commit 30 = .ok (.iload_n 1, 1) := by decide +kernel
theorem dX1_commit_31 : decode cX1_commit 31 = .ok (.ireturn, 1) := by decide +kernel
set_option maxRecDepth 20000 in
theorem ggX1_pop_X1_slot : GoodIn wsX1_pop wsX1_slot := goodIn_r _ [7, 8, 9, 10, 11] (by decide +kernel) (by decide +kernel)
set_option maxRecDepth 20000 in
theorem gX1_pop_X1_slot : GoodIn wsX1_pop (wsV RX1 25 RX1 yX1_slot wsX1_slot) := goodIn_app (goodIn_of _ (by decide +kernel)) ggX1_pop_X1_slot
theorem dX1_pop_0 : decode cX1_pop 0 = .ok (.aload_n 0, 1) := by decide +kernel
theorem dX1_pop_1 : decode cX1_pop 1 = .ok (.getfield 18, 3) := by decide +kernel
theorem dX1_pop_4 : decode cX1_pop 4 = .ok (.ifCond .ne 5, 3) := by decide +kernel
theorem dX1_pop_7 : decode cX1_pop 7 = .ok (.aconst_null, 1) := by decide +kernel
theorem dX1_pop_8 : decode cX1_pop 8 = .ok (.areturn, 1) := by decide +kernel
theorem dX1_pop_9 : decode cX1_pop 9 = .ok (.aload_n 0, 1) := by decide +kernel
theorem dX1_pop_10 : decode cX1_pop 10 = .ok (.aload_n 0, 1) := by decide +kernel
theorem dX1_pop_11 : decode cX1_pop 11 = .ok (.getfield 22, 3) := by decide +kernel
theorem dX1_pop_14 : decode cX1_pop 14 = .ok (.iconst 5, 1) := by decide +kernel
theorem dX1_pop_15 : decode cX1_pop 15 = .ok (.iadd, 1) := by decide +kernel
theorem dX1_pop_16 : decode cX1_pop 16 = .ok (.iconst 1, 1) := by decide +kernel
theorem dX1_pop_17 : decode cX1_pop 17 = .ok (.isub, 1) := by decide +kernel
theorem dX1_pop_18 : decode cX1_pop 18 = .ok (.iconst 5, 1) := by decide +kernel
theorem dX1_pop_19 : decode cX1_pop 19 = .ok (.irem, 1) := by decide +kernel
theorem dX1_pop_20 : decode cX1_pop 20 = .ok (.putfield 22, 3) := by decide +kernel
theorem dX1_pop_23 : decode cX1_pop 23 = .ok (.aload_n 0, 1) := by decide +kernel
theorem dX1_pop_24 : decode cX1_pop 24 = .ok (.dup, 1) := by decide +kernel
theorem dX1_pop_25 : decode cX1_pop 25 = .ok (.getfield 18, 3) := by decide +kernel
theorem dX1_pop_28 : decode cX1_pop 28 = .ok (.iconst 1, 1) := by decide +kernel
theorem dX1_pop_29 : decode cX1_pop 29 = .ok (.isub, 1) := by decide +kernel
theorem dX1_pop_30 : decode cX1_pop 30 = .ok (.putfield 18, 3) := by decide +kernel
theorem dX1_pop_33 : decode cX1_pop 33 = .ok (.aload_n 0, 1) := by decide +kernel
theorem dX1_pop_34 : decode cX1_pop 34 = .ok (.aload_n 0, 1) := by decide +kernel
theorem dX1_pop_35 : decode cX1_pop 35 = .ok (.getfield 22, 3) := by decide +kernel
theorem dX1_pop_38 : decode cX1_pop 38 = .ok (.invokevirtual 25, 3) := by decide +kernel
theorem dX1_pop_41 : decode cX1_pop 41 = .ok (.areturn, 1) := by decide +kernel
theorem dX1_slot_0 : decode cX1_slot 0 = .ok (.iload_n 1, 1) := by decide +kernel
theorem dX1_slot_1 : decode cX1_slot 1 = .ok (.ifCond .lt 21, 3) := by decide +kernel
theorem dX1_slot_4 : decode cX1_slot 4 = .ok (.iload_n 1, 1) := by decide +kernel
theorem dX1_slot_5 : decode cX1_slot 5 = .ok (.aload_n 0, 1) := by decide +kernel
theorem dX1_slot_6 : decode cX1_slot 6 = .ok (.getfield 13, 3) := by decide +kernel
theorem dX1_slot_9 : decode cX1_slot 9 = .ok (.arraylength, 1) := by decide +kernel
theorem dX1_slot_10 : decode cX1_slot 10 = .ok (.if_icmp .ge 12, 3) := by decide +kernel
theorem dX1_slot_13 : decode cX1_slot 13 = .ok (.aload_n 0, 1) := by decide +kernel
theorem dX1_slot_14 : decode cX1_slot 14 = .ok (.getfield 13, 3) := by decide +kernel
theorem dX1_slot_17 : decode cX1_slot 17 = .ok (.iload_n 1, 1) := by decide +kernel
theorem dX1_slot_18 : decode cX1_slot 18 = .ok (.aaload, 1) := by decide +kernel
theorem dX1_slot_19 : decode cX1_slot 19 = .ok (.goto 4, 3) := by decide +kernel
theorem dX1_slot_22 : decode cX1_slot 22 = .ok (.aconst_null, 1) := by decide +kernel
theorem dX1_slot_23 : decode cX1_slot 23 = .ok (.areturn, 1) := by decide +kernel
theorem dX2_init_0 : decode cX2_init 0 = .ok (.aload_n 0, 1) := by decide +kernel
theorem dX2_init_1 : decode cX2_init 1 = .ok (.invokespecial 3, 3) := by decide +kernel
theorem dX2_init_4 : decode cX2_init 4 = .ok (.aload_n 0, 1) := by decide +kernel
theorem dX2_init_5 : decode cX2_init 5 = .ok (.bipush 10, 2) := by decide +kernel
theorem dX2_init_7 : decode cX2_init 7 = .ok (.newarray .int, 2) := by decide +kernel
theorem dX2_init_9 : decode cX2_init 9 = .ok (.putfield 9, 3) := by decide +kernel
theorem dX2_init_12 : decode cX2_init 12 = .ok (.aload_n 0, 1) := by decide +kernel
theorem dX2_init_13 : decode cX2_init 13 = .ok (.bipush 10, 2) := by decide +kernel
theorem dX2_init_15 : decode cX2_init 15 = .ok (.newarray .int, 2) := by decide +kernel
theorem dX2_init_17 : decode cX2_init 17 = .ok (.putfield 15, 3) := by decide +kernel
theorem dX2_init_20 : decode cX2_init 20 = .ok (.aload_n 0, 1) := by decide +kernel
theorem dX2_init_21 : decode cX2_init 21 = .ok (.bipush 10, 2) := by decide +kernel
theorem dX2_init_23 : decode cX2_init 23 = .ok (.newarray .int, 2) := by decide +kernel
theorem dX2_init_25 : decode cX2_init 25 = .ok (.putfield 18, 3) := by decide +kernel
theorem dX2_init_28 : decode cX2_init 28 = .ok (.return_, 1) := by decide +kernel
set_option maxRecDepth 20000 in
theorem ggX2_copyFrom_X6_copyNumbers : GoodIn wsX2_copyFrom wsX6_copyNumbers := goodIn_r _ [7, 8, 9, 10, 11, 12, 13, 14, 15] (by decide +kernel) (by decide +kernel)
set_option maxRecDepth 20000 in
theorem gX2_copyFrom_X6_copyNumbers_n21 : GoodIn wsX2_copyFrom (wsX6_copyNumbers) := ggX2_copyFrom_X6_copyNumbers
theorem dX2_copyFrom_0 : decode cX2_copyFrom 0 = .ok (.aload_n 1, 1) := by decide +kernel
theorem dX2_copyFrom_1 : decode cX2_copyFrom 1 = .ok (.getfield 9, 3) := by decide +kernel
theorem dX2_copyFrom_4 : decode cX2_copyFrom 4 = .ok (.aload_n 0, 1) := by decide +kernel
theorem dX2_copyFrom_5 : decode cX2_copyFrom 5 = .ok (.getfield 9, 3) := by decide +kernel
theorem dX2_copyFrom_8 : decode cX2_copyFrom 8 = .ok (.invokestatic 21, 3) := by decide +kernel
theorem dX2_copyFrom_11 : decode cX2_copyFrom 11 = .ok (.aload_n 1, 1) := by decide +kernel
theorem dX2_copyFrom_12 : decode cX2_copyFrom 12 = .ok (.getfield 15, 3) := by decide +kernel
theorem dX2_copyFrom_15 : decode cX2_copyFrom 15 = .ok (.aload_n 0, 1) := by decide +kernel
theorem dX2_copyFrom_16 : decode cX2_copyFrom 16 = .ok (.getfield 15, 3) := by decide +kernel
theorem dX2_copyFrom_19 : decode cX2_copyFrom 19 = .ok (.invokestatic 21, 3) := by decide +kernel
theorem dX2_copyFrom_22 : decode cX2_copyFrom 22 = .ok (.aload_n 1, 1) := by decide +kernel
theorem dX2_copyFrom_23 : decode cX2_copyFrom 23 = .ok (.getfield 18, 3) := by decide +kernel
theorem dX2_copyFrom_26 : decode cX2_copyFrom 26 = .ok (.aload_n 0, 1) := by decide +kernel
theorem dX2_copyFrom_27 : decode cX2_copyFrom 27 = .ok (.getfield 18, 3) := by decide +kernel
theorem dX2_copyFrom_30 : decode cX2_copyFrom 30 = .ok (.invokestatic 21, 3) := by decide +kernel
theorem dX2_copyFrom_33 : decode cX2_copyFrom 33 = .ok (.aload_n 0, 1) := by decide +kernel
theorem dX2_copyFrom_34 : decode cX2_copyFrom 34 = .ok (.aload_n 1, 1) := by decide +kernel
theorem dX2_copyFrom_35 : decode cX2_copyFrom 35 = .ok (.getfield 25, 3) := by decide +kernel
theorem dX2_copyFrom_38 : decode cX2_copyFrom 38 = .ok (.putfield 25, 3) := by decide +kernel
theorem dX2_copyFrom_41 : decode cX2_copyFrom 41 = .ok (.return_, 1) := by decide +kernel
theorem dX2_holds_0 : decode cX2_holds 0 = .ok (.iload_n 1, 1) := by decide +kernel
theorem dX2_holds_1 : decode cX2_holds 1 = .ok (.ifCond .lt 25, 3) := by decide +kernel
theorem dX2_holds_4 : decode cX2_holds 4 = .ok (.iload_n 1, 1) := by decide +kernel
theorem dX2_holds_5 : decode cX2_holds 5 = .ok (.aload_n 0, 1) := by decide +kernel
theorem dX2_holds_6 : decode cX2_holds 6 = .ok (.getfield 9, 3) := by decide +kernel
theorem dX2_holds_9 : decode cX2_holds 9 = .ok (.arraylength, 1) := by decide +kernel
theorem dX2_holds_10 : decode cX2_holds 10 = .ok (.if_icmp .ge 16, 3) := by decide +kernel
theorem dX2_holds_13 : decode cX2_holds 13 = .ok (.aload_n 0, 1) := by decide +kernel
theorem dX2_holds_14 : decode cX2_holds 14 = .ok (.getfield 9, 3) := by decide +kernel
theorem dX2_holds_17 : decode cX2_holds 17 = .ok (.iload_n 1, 1) := by decide +kernel
theorem dX2_holds_18 : decode cX2_holds 18 = .ok (.iaload, 1) := by decide +kernel
theorem dX2_holds_19 : decode cX2_holds 19 = .ok (.ifCond .le 7, 3) := by decide +kernel
theorem dX2_holds_22 : decode cX2_holds 22 = .ok (.iconst 1, 1) := by decide +kernel
theorem dX2_holds_23 : decode cX2_holds 23 = .ok (.goto 4, 3) := by decide +kernel
theorem dX2_holds_26 : decode cX2_holds 26 = .ok (.iconst 0, 1) := by decide +kernel
theorem dX2_holds_27 : decode cX2_holds 27 = .ok (.ireturn, 1) := by decide +kernel
theorem dX2_uses_0 : decode cX2_uses 0 = .ok (.iload_n 1, 1) := by decide +kernel
theorem dX2_uses_1 : decode cX2_uses 1 = .ok (.ifCond .lt 21, 3) := by decide +kernel
theorem dX2_uses_4 : decode cX2_uses 4 = .ok (.iload_n 1, 1) := by decide +kernel
theorem dX2_uses_5 : decode cX2_uses 5 = .ok (.aload_n 0, 1) := by decide +kernel
theorem dX2_uses_6 : decode cX2_uses 6 = .ok (.getfield 9, 3) := by decide +kernel
theorem dX2_uses_9 : decode cX2_uses 9 = .ok (.arraylength, 1) := by decide +kernel
theorem dX2_uses_10 : decode cX2_uses 10 = .ok (.if_icmp .ge 12, 3) := by decide +kernel
theorem dX2_uses_13 : decode cX2_uses 13 = .ok (.aload_n 0, 1) := by decide +kernel
theorem dX2_uses_14 : decode cX2_uses 14 = .ok (.getfield 9, 3) := by decide +kernel
theorem dX2_uses_17 : decode cX2_uses 17 = .ok (.iload_n 1, 1) := by decide +kernel
theorem dX2_uses_18 : decode cX2_uses 18 = .ok (.iaload, 1) := by decide +kernel
theorem dX2_uses_19 : decode cX2_uses 19 = .ok (.goto 4, 3) := by decide +kernel
theorem dX2_uses_22 : decode cX2_uses 22 = .ok (.iconst 0, 1) := by decide +kernel
theorem dX2_uses_23 : decode cX2_uses 23 = .ok (.ireturn, 1) := by decide +kernel
theorem dX2_size_0 : decode cX2_size 0 = .ok (.iconst 0, 1) := by decide +kernel
theorem dX2_size_1 : decode cX2_size 1 = .ok (.istore_n 1, 1) := by decide +kernel
theorem dX2_size_2 : decode cX2_size 2 = .ok (.iconst 0, 1) := by decide +kernel
theorem dX2_size_3 : decode cX2_size 3 = .ok (.istore_n 2, 1) := by decide +kernel
theorem dX2_size_4 : decode cX2_size 4 = .ok (.iload_n 2, 1) := by decide +kernel
theorem dX2_size_5 : decode cX2_size 5 = .ok (.bipush 10, 2) := by decide +kernel
theorem dX2_size_7 : decode cX2_size 7 = .ok (.if_icmp .ge 26, 3) := by decide +kernel
theorem dX2_size_10 : decode cX2_size 10 = .ok (.iload_n 1, 1) := by decide +kernel
theorem dX2_size_11 : decode cX2_size 11 = .ok (.aload_n 0, 1) := by decide +kernel
theorem dX2_size_12 : decode cX2_size 12 = .ok (.getfield 9, 3) := by decide +kernel
theorem dX2_size_15 : decode cX2_size 15 = .ok (.iload_n 2, 1) := by decide +kernel
theorem dX2_size_16 : decode cX2_size 16 = .ok (.iaload, 1) := by decide +kernel
theorem dX2_size_17 : decode cX2_size 17 = .ok (.ifCond .le 7, 3) := by decide +kernel
theorem dX2_size_20 : decode cX2_size 20 = .ok (.iconst 1, 1) := by decide +kernel
theorem dX2_size_21 : decode cX2_size 21 = .ok (.goto 4, 3) := by decide +kernel
theorem dX2_size_24 : decode cX2_size 24 = .ok (.iconst 0, 1) := by decide +kernel
theorem dX2_size_25 : decode cX2_size 25 = .ok (.iadd, 1) := by decide +kernel
theorem dX2_size_26 : decode cX2_size 26 = .ok (.istore_n 1, 1) := by decide +kernel
theorem dX2_size_27 : decode cX2_size 27 = .ok (.iinc 2 1, 3) := by decide +kernel
theorem dX2_size_30 : decode cX2_size 30 = .ok (.goto (-26), 3) := by decide +kernel
theorem dX2_size_33 : decode cX2_size 33 = .ok (.iload_n 1, 1) := by decide +kernel
theorem dX2_size_34 : decode cX2_size 34 = .ok (.ireturn, 1) := by decide +kernel
theorem dX2_take_0 : decode cX2_take 0 = .ok (.iload_n 1, 1) := by decide +kernel
theorem dX2_take_1 : decode cX2_take 1 = .ok (.ifCond .lt 46, 3) := by decide +kernel
theorem dX2_take_4 : decode cX2_take 4 = .ok (.iload_n 1, 1) := by decide +kernel
theorem dX2_take_5 : decode cX2_take 5 = .ok (.bipush 10, 2) := by decide +kernel
theorem dX2_take_7 : decode cX2_take 7 = .ok (.if_icmp .ge 40, 3) := by decide +kernel
theorem dX2_take_10 : decode cX2_take 10 = .ok (.aload_n 0, 1) := by decide +kernel
theorem dX2_take_11 : decode cX2_take 11 = .ok (.dup, 1) := by decide +kernel
theorem dX2_take_12 : decode cX2_take 12 = .ok (.getfield 25, 3) := by decide +kernel
theorem dX2_take_15 : decode cX2_take 15 = .ok (.iconst 1, 1) := by decide +kernel
theorem dX2_take_16 : decode cX2_take 16 = .ok (.iadd, 1) := by decide +kernel
theorem dX2_take_17 : decode cX2_take 17 = .ok (.putfield 25, 3) := by decide +kernel
theorem dX2_take_20 : decode cX2_take 20 = .ok (.aload_n 0, 1) := by decide +kernel
theorem dX2_take_21 : decode cX2_take 21 = .ok (.getfield 9, 3) := by decide +kernel
theorem dX2_take_24 : decode cX2_take 24 = .ok (.iload_n 1, 1) := by decide +kernel
theorem dX2_take_25 : decode cX2_take 25 = .ok (.iconst 1, 1) := by decide +kernel
theorem dX2_take_26 : decode cX2_take 26 = .ok (.iastore, 1) := by decide +kernel
theorem dX2_take_27 : decode cX2_take 27 = .ok (.aload_n 0, 1) := by decide +kernel
theorem dX2_take_28 : decode cX2_take 28 = .ok (.getfield 18, 3) := by decide +kernel
theorem dX2_take_31 : decode cX2_take 31 = .ok (.iload_n 1, 1) := by decide +kernel
theorem dX2_take_32 : decode cX2_take 32 = .ok (.aload_n 0, 1) := by decide +kernel
theorem dX2_take_33 : decode cX2_take 33 = .ok (.getfield 25, 3) := by decide +kernel
theorem dX2_take_36 : decode cX2_take 36 = .ok (.iastore, 1) := by decide +kernel
theorem dX2_take_37 : decode cX2_take 37 = .ok (.aload_n 0, 1) := by decide +kernel
theorem dX2_take_38 : decode cX2_take 38 = .ok (.getfield 15, 3) := by decide +kernel
theorem dX2_take_41 : decode cX2_take 41 = .ok (.iload_n 1, 1) := by decide +kernel
theorem dX2_take_42 : decode cX2_take 42 = .ok (.aload_n 0, 1) := by decide +kernel
theorem dX2_take_43 : decode cX2_take 43 = .ok (.getfield 25, 3) := by decide +kernel
theorem dX2_take_46 : decode cX2_take 46 = .ok (.iastore, 1) := by decide +kernel
theorem dX2_take_47 : decode cX2_take 47 = .ok (.return_, 1) := by decide +kernel
theorem dX2_touch_0 : decode cX2_touch 0 = .ok (.iload_n 1, 1) := by decide +kernel
theorem dX2_touch_1 : decode cX2_touch 1 = .ok (.ifCond .lt 39, 3) := by decide +kernel
theorem dX2_touch_4 : decode cX2_touch 4 = .ok (.iload_n 1, 1) := by decide +kernel
theorem dX2_touch_5 : decode cX2_touch 5 = .ok (.bipush 10, 2) := by decide +kernel
theorem dX2_touch_7 : decode cX2_touch 7 = .ok (.if_icmp .ge 33, 3) := by decide +kernel
theorem dX2_touch_10 : decode cX2_touch 10 = .ok (.aload_n 0, 1) := by decide +kernel
theorem dX2_touch_11 : decode cX2_touch 11 = .ok (.dup, 1) := by decide +kernel
theorem dX2_touch_12 : decode cX2_touch 12 = .ok (.getfield 25, 3) := by decide +kernel
theorem dX2_touch_15 : decode cX2_touch 15 = .ok (.iconst 1, 1) := by decide +kernel
theorem dX2_touch_16 : decode cX2_touch 16 = .ok (.iadd, 1) := by decide +kernel
theorem dX2_touch_17 : decode cX2_touch 17 = .ok (.putfield 25, 3) := by decide +kernel
theorem dX2_touch_20 : decode cX2_touch 20 = .ok (.aload_n 0, 1) := by decide +kernel
theorem dX2_touch_21 : decode cX2_touch 21 = .ok (.getfield 9, 3) := by decide +kernel
theorem dX2_touch_24 : decode cX2_touch 24 = .ok (.iload_n 1, 1) := by decide +kernel
theorem dX2_touch_25 : decode cX2_touch 25 = .ok (.dup2, 1) := by decide +kernel
theorem dX2_touch_26 : decode cX2_touch 26 = .ok (.iaload, 1) := by decide +kernel
theorem dX2_touch_27 : decode cX2_touch 27 = .ok (.iconst 1, 1) := by decide +kernel
theorem dX2_touch_28 : decode cX2_touch 28 = .ok (.iadd, 1) := by decide +kernel
theorem dX2_touch_29 : decode cX2_touch 29 = .ok (.iastore, 1) := by decide +kernel
theorem dX2_touch_30 : decode cX2_touch 30 = .ok (.aload_n 0, 1) := by decide +kernel
theorem dX2_touch_31 : decode cX2_touch 31 = .ok (.getfield 15, 3) := by decide +kernel
theorem dX2_touch_34 : decode cX2_touch 34 = .ok (.iload_n 1, 1) := by decide +kernel
theorem dX2_touch_35 : decode cX2_touch 35 = .ok (.aload_n 0, 1) := by decide +kernel
theorem dX2_touch_36 : decode cX2_touch 36 = .ok (.getfield 25, 3) := by decide +kernel
theorem dX2_touch_39 : decode cX2_touch 39 = .ok (.iastore, 1) := by decide +kernel
theorem dX2_touch_40 : decode cX2_touch 40 = .ok (.return_, 1) := by decide +kernel
theorem dX2_lose_0 : decode cX2_lose 0 = .ok (.iload_n 1, 1) := by decide +kernel
theorem dX2_lose_1 : decode cX2_lose 1 = .ok (.ifCond .lt 19, 3) := by decide +kernel
theorem dX2_lose_4 : decode cX2_lose 4 = .ok (.iload_n 1, 1) := by decide +kernel
theorem dX2_lose_5 : decode cX2_lose 5 = .ok (.aload_n 0, 1) := by decide +kernel
theorem dX2_lose_6 : decode cX2_lose 6 = .ok (.getfield 9, 3) := by decide +kernel
theorem dX2_lose_9 : decode cX2_lose 9 = .ok (.arraylength, 1) := by decide +kernel
theorem dX2_lose_10 : decode cX2_lose 10 = .ok (.if_icmp .ge 10, 3) := by decide +kernel
theorem dX2_lose_13 : decode cX2_lose 13 = .ok (.aload_n 0, 1) := by decide +kernel
theorem dX2_lose_14 : decode cX2_lose 14 = .ok (.getfield 9, 3) := by decide +kernel
theorem dX2_lose_17 : decode cX2_lose 17 = .ok (.iload_n 1, 1) := by decide +kernel
theorem dX2_lose_18 : decode cX2_lose 18 = .ok (.iconst 0, 1) := by decide +kernel
theorem dX2_lose_19 : decode cX2_lose 19 = .ok (.iastore, 1) := by decide +kernel
theorem dX2_lose_20 : decode cX2_lose 20 = .ok (.return_, 1) := by decide +kernel
set_option maxRecDepth 20000 in
theorem ggX2_loseAll_X2_size : GoodIn wsX2_loseAll wsX2_size := goodIn_r _ [6, 1, 7, 8, 9, 10] (by decide +kernel) (by decide +kernel)
set_option maxRecDepth 20000 in
theorem gX2_loseAll_X2_size : GoodIn wsX2_loseAll (wsV RX2 29 RX2 yX2_size wsX2_size) := goodIn_app (goodIn_of _ (by decide +kernel)) ggX2_loseAll_X2_size
theorem dX2_loseAll_0 : decode cX2_loseAll 0 = .ok (.aload_n 0, 1) := by decide +kernel
theorem dX2_loseAll_1 : decode cX2_loseAll 1 = .ok (.invokevirtual 29, 3) := by decide +kernel
theorem dX2_loseAll_4 : decode cX2_loseAll 4 = .ok (.istore_n 1, 1) := by decide +kernel
theorem dX2_loseAll_5 : decode cX2_loseAll 5 = .ok (.iconst 0, 1) := by decide +kernel
theorem dX2_loseAll_6 : decode cX2_loseAll 6 = .ok (.istore_n 2, 1) := by decide +kernel
theorem dX2_loseAll_7 : decode cX2_loseAll 7 = .ok (.iload_n 2, 1) := by decide +kernel
theorem dX2_loseAll_8 : decode cX2_loseAll 8 = .ok (.bipush 10, 2) := by decide +kernel
theorem dX2_loseAll_10 : decode cX2_loseAll 10 = .ok (.if_icmp .ge 16, 3) := by decide +kernel
theorem dX2_loseAll_13 : decode cX2_loseAll 13 = .ok (.aload_n 0, 1) := by decide +kernel
theorem dX2_loseAll_14 : decode cX2_loseAll 14 = .ok (.getfield 9, 3) := by decide +kernel
theorem dX2_loseAll_17 : decode cX2_loseAll 17 = .ok (.iload_n 2, 1) := by decide +kernel
theorem dX2_loseAll_18 : decode cX2_loseAll 18 = .ok (.iconst 0, 1) := by decide +kernel
theorem dX2_loseAll_19 : decode cX2_loseAll 19 = .ok (.iastore, 1) := by decide +kernel
theorem dX2_loseAll_20 : decode cX2_loseAll 20 = .ok (.iinc 2 1, 3) := by decide +kernel
theorem dX2_loseAll_23 : decode cX2_loseAll 23 = .ok (.goto (-16), 3) := by decide +kernel
theorem dX2_loseAll_26 : decode cX2_loseAll 26 = .ok (.iload_n 1, 1) := by decide +kernel
theorem dX2_loseAll_27 : decode cX2_loseAll 27 = .ok (.ireturn, 1) := by decide +kernel
set_option maxRecDepth 20000 in
theorem ggX2_firstOut_X2_rank : GoodIn wsX2_firstOut wsX2_rank := goodIn_r _ [6, 7, 1, 8, 9, 10, 11, 12] (by decide +kernel) (by decide +kernel)
set_option maxRecDepth 20000 in
theorem gX2_firstOut_X2_rank : GoodIn wsX2_firstOut (wsV RX2 33 RX2 yX2_rank wsX2_rank) := goodIn_app (goodIn_of _ (by decide +kernel)) ggX2_firstOut_X2_rank
theorem dX2_firstOut_0 : decode cX2_firstOut 0 = .ok (.iconst (-1), 1) := by decide +kernel
theorem dX2_firstOut_1 : decode cX2_firstOut 1 = .ok (.istore_n 3, 1) := by decide +kernel
theorem dX2_firstOut_2 : decode cX2_firstOut 2 = .ok (.iconst 0, 1) := by decide +kernel
theorem dX2_firstOut_3 : decode cX2_firstOut 3 = .ok (.istore 4, 2) := by decide +kernel
theorem dX2_firstOut_5 : decode cX2_firstOut 5 = .ok (.iload 4, 2) := by decide +kernel
theorem dX2_firstOut_7 : decode cX2_firstOut 7 = .ok (.bipush 10, 2) := by decide +kernel
theorem dX2_firstOut_9 : decode cX2_firstOut 9 = .ok (.if_icmp .ge 50, 3) := by decide +kernel
theorem dX2_firstOut_12 : decode cX2_firstOut 12 = .ok (.aload_n 0, 1) := by decide +kernel
theorem dX2_firstOut_13 : decode cX2_firstOut 13 = .ok (.getfield 9, 3) := by decide +kernel
theorem dX2_firstOut_16 : decode cX2_firstOut 16 = .ok (.iload 4, 2) := by decide +kernel
theorem dX2_firstOut_18 : decode cX2_firstOut 18 = .ok (.iaload, 1) := by decide +kernel
theorem dX2_firstOut_19 : decode cX2_firstOut 19 = .ok (.ifCond .le 34, 3) := by decide +kernel
theorem dX2_firstOut_22 : decode cX2_firstOut 22 = .ok (.iload 4, 2) := by decide +kernel
theorem dX2_firstOut_24 : decode cX2_firstOut 24 = .ok (.iload_n 2, 1) := by decide +kernel
theorem dX2_firstOut_25 : decode cX2_firstOut 25 = .ok (.if_icmp .eq 28, 3) := by decide +kernel
theorem dX2_firstOut_28 : decode cX2_firstOut 28 = .ok (.iload_n 3, 1) := by decide +kernel
theorem dX2_firstOut_29 : decode cX2_firstOut 29 = .ok (.iconst (-1), 1) := by decide +kernel
theorem dX2_firstOut_30 : decode cX2_firstOut 30 = .ok (.if_icmp .eq 20, 3) := by decide +kernel
theorem dX2_firstOut_33 : decode cX2_firstOut 33 = .ok (.aload_n 0, 1) := by decide +kernel
theorem dX2_firstOut_34 : decode cX2_firstOut 34 = .ok (.iload 4, 2) := by decide +kernel
theorem dX2_firstOut_36 : decode cX2_firstOut 36 = .ok (.iload_n 1, 1) := by decide +kernel
theorem dX2_firstOut_37 : decode cX2_firstOut 37 = .ok (.invokevirtual 33, 3) := by decide +kernel
theorem dX2_firstOut_40 : decode cX2_firstOut 40 = .ok (.aload_n 0, 1) := by decide +kernel
theorem dX2_firstOut_41 : decode cX2_firstOut 41 = .ok (.iload_n 3, 1) := by decide +kernel
theorem dX2_firstOut_42 : decode cX2_firstOut 42 = .ok (.iload_n 1, 1) := by decide +kernel
theorem dX2_firstOut_43 : decode cX2_firstOut 43 = .ok (.invokevirtual 33, 3) := by decide +kernel
theorem dX2_firstOut_46 : decode cX2_firstOut 46 = .ok (.lcmp, 1) := by decide +kernel
theorem dX2_firstOut_47 : decode cX2_firstOut 47 = .ok (.ifCond .ge 6, 3) := by decide +kernel
theorem dX2_firstOut_50 : decode cX2_firstOut 50 = .ok (.iload 4, 2) := by decide +kernel
theorem dX2_firstOut_52 : decode cX2_firstOut 52 = .ok (.istore_n 3, 1) := by decide +kernel
theorem dX2_firstOut_53 : decode cX2_firstOut 53 = .ok (.iinc 4 1, 3) := by decide +kernel
theorem dX2_firstOut_56 : decode cX2_firstOut 56 = .ok (.goto (-51), 3) := by decide +kernel
theorem dX2_firstOut_59 : decode cX2_firstOut 59 = .ok (.iload_n 3, 1) := by decide +kernel
theorem dX2_firstOut_60 : decode cX2_firstOut 60 = .ok (.ireturn, 1) := by decide +kernel
set_option maxRecDepth 20000 in
theorem ggX2_placeOf_X2_rank : GoodIn wsX2_placeOf wsX2_rank := goodIn_r _ [6, 7, 1, 8, 9, 10, 11, 12] (by decide +kernel) (by decide +kernel)
set_option maxRecDepth 20000 in
theorem gX2_placeOf_X2_rank : GoodIn wsX2_placeOf (wsV RX2 33 RX2 yX2_rank wsX2_rank) := goodIn_app (goodIn_of _ (by decide +kernel)) ggX2_placeOf_X2_rank
theorem dX2_placeOf_0 : decode cX2_placeOf 0 = .ok (.iconst 0, 1) := by decide +kernel
theorem dX2_placeOf_1 : decode cX2_placeOf 1 = .ok (.istore_n 3, 1) := by decide +kernel
theorem dX2_placeOf_2 : decode cX2_placeOf 2 = .ok (.iconst 0, 1) := by decide +kernel
theorem dX2_placeOf_3 : decode cX2_placeOf 3 = .ok (.istore 4, 2) := by decide +kernel
theorem dX2_placeOf_5 : decode cX2_placeOf 5 = .ok (.iload 4, 2) := by decide +kernel
theorem dX2_placeOf_7 : decode cX2_placeOf 7 = .ok (.bipush 10, 2) := by decide +kernel
theorem dX2_placeOf_9 : decode cX2_placeOf 9 = .ok (.if_icmp .ge 39, 3) := by decide +kernel
theorem dX2_placeOf_12 : decode cX2_placeOf 12 = .ok (.aload_n 0, 1) := by decide +kernel
theorem dX2_placeOf_13 : decode cX2_placeOf 13 = .ok (.getfield 9, 3) := by decide +kernel
theorem dX2_placeOf_16 : decode cX2_placeOf 16 = .ok (.iload 4, 2) := by decide +kernel
theorem dX2_placeOf_18 : decode cX2_placeOf 18 = .ok (.iaload, 1) := by decide +kernel
theorem dX2_placeOf_19 : decode cX2_placeOf 19 = .ok (.ifCond .le 23, 3) := by decide +kernel
theorem dX2_placeOf_22 : decode cX2_placeOf 22 = .ok (.aload_n 0, 1) := by decide +kernel
theorem dX2_placeOf_23 : decode cX2_placeOf 23 = .ok (.iload 4, 2) := by decide +kernel
theorem dX2_placeOf_25 : decode cX2_placeOf 25 = .ok (.iload_n 2, 1) := by decide +kernel
theorem dX2_placeOf_26 : decode cX2_placeOf 26 = .ok (.invokevirtual 33, 3) := by decide +kernel
theorem dX2_placeOf_29 : decode cX2_placeOf 29 = .ok (.aload_n 0, 1) := by decide +kernel
theorem dX2_placeOf_30 : decode cX2_placeOf 30 = .ok (.iload_n 1, 1) := by decide +kernel
theorem dX2_placeOf_31 : decode cX2_placeOf 31 = .ok (.iload_n 2, 1) := by decide +kernel
theorem dX2_placeOf_32 : decode cX2_placeOf 32 = .ok (.invokevirtual 33, 3) := by decide +kernel
theorem dX2_placeOf_35 : decode cX2_placeOf 35 = .ok (.lcmp, 1) := by decide +kernel
theorem dX2_placeOf_36 : decode cX2_placeOf 36 = .ok (.ifCond .ge 6, 3) := by decide +kernel
theorem dX2_placeOf_39 : decode cX2_placeOf 39 = .ok (.iinc 3 1, 3) := by decide +kernel
theorem dX2_placeOf_42 : decode cX2_placeOf 42 = .ok (.iinc 4 1, 3) := by decide +kernel
theorem dX2_placeOf_45 : decode cX2_placeOf 45 = .ok (.goto (-40), 3) := by decide +kernel
theorem dX2_placeOf_48 : decode cX2_placeOf 48 = .ok (.iload_n 3, 1) := by decide +kernel
theorem dX2_placeOf_49 : decode cX2_placeOf 49 = .ok (.ireturn, 1) := by decide +kernel
theorem dX2_rank_0 : decode cX2_rank 0 = .ok (.iload_n 1, 1) := by decide +kernel
theorem dX2_rank_1 : decode cX2_rank 1 = .ok (.ifCond .lt 9, 3) := by decide +kernel
theorem dX2_rank_4 : decode cX2_rank 4 = .ok (.iload_n 1, 1) := by decide +kernel
theorem dX2_rank_5 : decode cX2_rank 5 = .ok (.bipush 10, 2) := by decide +kernel
theorem dX2_rank_7 : decode cX2_rank 7 = .ok (.if_icmp .lt 5, 3) := by decide +kernel
theorem dX2_rank_10 : decode cX2_rank 10 = .ok (.lconst 0, 1) := by decide +kernel
theorem dX2_rank_11 : decode cX2_rank 11 = .ok (.lreturn, 1) := by decide +kernel
theorem dX2_rank_12 : decode cX2_rank 12 = .ok (.iload_n 2, 1) := by decide +kernel
theorem dX2_rank_13 : decode cX2_rank 13 = .ok (.iconst 2, 1) := by decide +kernel
theorem dX2_rank_14 : decode cX2_rank 14 = .ok (.if_icmp .ne 11, 3) := by decide +kernel
theorem dX2_rank_17 : decode cX2_rank 17 = .ok (.aload_n 0, 1) := by decide +kernel
theorem dX2_rank_18 : decode cX2_rank 18 = .ok (.getfield 18, 3) := by decide +kernel
theorem dX2_rank_21 : decode cX2_rank 21 = .ok (.iload_n 1, 1) := by decide +kernel
theorem dX2_rank_22 : decode cX2_rank 22 = .ok (.iaload, 1) := by decide +kernel
theorem dX2_rank_23 : decode cX2_rank 23 = .ok (.i2l, 1) := by decide +kernel
theorem dX2_rank_24 : decode cX2_rank 24 = .ok (.lreturn, 1) := by decide +kernel
theorem dX2_rank_25 : decode cX2_rank 25 = .ok (.iload_n 2, 1) := by decide +kernel
theorem dX2_rank_26 : decode cX2_rank 26 = .ok (.iconst 1, 1) := by decide +kernel
theorem dX2_rank_27 : decode cX2_rank 27 = .ok (.if_icmp .ne 16, 3) := by decide +kernel
theorem dX2_rank_30 : decode cX2_rank 30 = .ok (.aload_n 0, 1) := by decide +kernel
theorem dX2_rank_31 : decode cX2_rank 31 = .ok (.getfield 9, 3) := by decide +kernel
theorem dX2_rank_34 : decode cX2_rank 34 = .ok (.iload_n 1, 1) := by decide +kernel
theorem dX2_rank_35 : decode cX2_rank 35 = .ok (.iaload, 1) := by decide +kernel
theorem dX2_rank_36 : decode cX2_rank 36 = .ok (.i2l, 1) := by decide +kernel
theorem dX2_rank_37 : decode cX2_rank 37 = .ok (.bipush 32, 2) := by decide +kernel
theorem dX2_rank_39 : decode cX2_rank 39 = .ok (.lshl, 1) := by decide +kernel
theorem dX2_rank_40 : decode cX2_rank 40 = .ok (.goto 4, 3) := by decide +kernel
theorem dX2_rank_43 : decode cX2_rank 43 = .ok (.lconst 0, 1) := by decide +kernel
theorem dX2_rank_44 : decode cX2_rank 44 = .ok (.aload_n 0, 1) := by decide +kernel
theorem dX2_rank_45 : decode cX2_rank 45 = .ok (.getfield 15, 3) := by decide +kernel
theorem dX2_rank_48 : decode cX2_rank 48 = .ok (.iload_n 1, 1) := by decide +kernel
theorem dX2_rank_49 : decode cX2_rank 49 = .ok (.iaload, 1) := by decide +kernel
theorem dX2_rank_50 : decode cX2_rank 50 = .ok (.i2l, 1) := by decide +kernel
theorem dX2_rank_51 : decode cX2_rank 51 = .ok (.ladd, 1) := by decide +kernel
theorem dX2_rank_52 : decode cX2_rank 52 = .ok (.lreturn, 1) := by decide +kernel
theorem dX3_init_0 : decode cX3_init 0 = .ok (.aload_n 0, 1) := by decide +kernel
theorem dX3_init_1 : decode cX3_init 1 = .ok (.invokespecial 3, 3) := by decide +kernel
theorem dX3_init_4 : decode cX3_init 4 = .ok (.aload_n 0, 1) := by decide +kernel
theorem dX3_init_5 : decode cX3_init 5 = .ok (.bipush 60, 2) := by decide +kernel
theorem dX3_init_7 : decode cX3_init 7 = .ok (.newarray .int, 2) := by decide +kernel
theorem dX3_init_9 : decode cX3_init 9 = .ok (.putfield 9, 3) := by decide +kernel
theorem dX3_init_12 : decode cX3_init 12 = .ok (.return_, 1) := by decide +kernel
theorem dX3_size_0 : decode cX3_size 0 = .ok (.aload_n 0, 1) := by decide +kernel
theorem dX3_size_1 : decode cX3_size 1 = .ok (.getfield 15, 3) := by decide +kernel
theorem dX3_size_4 : decode cX3_size 4 = .ok (.ireturn, 1) := by decide +kernel
theorem dX3_push_0 : decode cX3_push 0 = .ok (.iload_n 1, 1) := by decide +kernel
theorem dX3_push_1 : decode cX3_push 1 = .ok (.bipush 33, 2) := by decide +kernel
theorem dX3_push_3 : decode cX3_push 3 = .ok (.if_icmp .lt 9, 3) := by decide +kernel
theorem dX3_push_6 : decode cX3_push 6 = .ok (.iload_n 1, 1) := by decide +kernel
theorem dX3_push_7 : decode cX3_push 7 = .ok (.bipush 126, 2) := by decide +kernel
theorem dX3_push_9 : decode cX3_push 9 = .ok (.if_icmp .le 5, 3) := by decide +kernel
theorem dX3_push_12 : decode cX3_push 12 = .ok (.iconst (-1), 1) := by decide +kernel
theorem dX3_push_13 : decode cX3_push 13 = .ok (.ireturn, 1) := by decide +kernel
theorem dX3_push_14 : decode cX3_push 14 = .ok (.aload_n 0, 1) := by decide +kernel
theorem dX3_push_15 : decode cX3_push 15 = .ok (.getfield 15, 3) := by decide +kernel
theorem dX3_push_18 : decode cX3_push 18 = .ok (.ifCond .lt 15, 3) := by decide +kernel
theorem dX3_push_21 : decode cX3_push 21 = .ok (.aload_n 0, 1) := by decide +kernel
theorem dX3_push_22 : decode cX3_push 22 = .ok (.getfield 15, 3) := by decide +kernel
theorem dX3_push_25 : decode cX3_push 25 = .ok (.aload_n 0, 1) := by decide +kernel
theorem dX3_push_26 : decode cX3_push 26 = .ok (.getfield 9, 3) := by decide +kernel
theorem dX3_push_29 : decode cX3_push 29 = .ok (.arraylength, 1) := by decide +kernel
theorem dX3_push_30 : decode cX3_push 30 = .ok (.if_icmp .lt 6, 3) := by decide +kernel
theorem dX3_push_33 : decode cX3_push 33 = .ok (.bipush (-3), 2) := by decide +kernel
theorem dX3_push_35 : decode cX3_push 35 = .ok (.ireturn, 1) := by decide +kernel
theorem dX3_push_36 : decode cX3_push 36 = .ok (.aload_n 0, 1) := by decide +kernel
theorem dX3_push_37 : decode cX3_push 37 = .ok (.getfield 9, 3) := by decide +kernel
theorem dX3_push_40 : decode cX3_push 40 = .ok (.aload_n 0, 1) := by decide +kernel
theorem dX3_push_41 : decode cX3_push 41 = .ok (.getfield 15, 3) := by decide +kernel
theorem dX3_push_44 : decode cX3_push 44 = .ok (.iload_n 1, 1) := by decide +kernel
theorem dX3_push_45 : decode cX3_push 45 = .ok (.iastore, 1) := by decide +kernel
theorem dX3_push_46 : decode cX3_push 46 = .ok (.aload_n 0, 1) := by decide +kernel
theorem dX3_push_47 : decode cX3_push 47 = .ok (.dup, 1) := by decide +kernel
theorem dX3_push_48 : decode cX3_push 48 = .ok (.getfield 15, 3) := by decide +kernel
theorem dX3_push_51 : decode cX3_push 51 = .ok (.iconst 1, 1) := by decide +kernel
theorem dX3_push_52 : decode cX3_push 52 = .ok (.iadd, 1) := by decide +kernel
theorem dX3_push_53 : decode cX3_push 53 = .ok (.putfield 15, 3) := by decide +kernel
theorem dX3_push_56 : decode cX3_push 56 = .ok (.aload_n 0, 1) := by decide +kernel
theorem dX3_push_57 : decode cX3_push 57 = .ok (.getfield 15, 3) := by decide +kernel
theorem dX3_push_60 : decode cX3_push 60 = .ok (.ireturn, 1) := by decide +kernel
theorem dX3_empty_0 : decode cX3_empty 0 = .ok (.aload_n 0, 1) := by decide +kernel
theorem dX3_empty_1 : decode cX3_empty 1 = .ok (.getfield 15, 3) := by decide +kernel
theorem dX3_empty_4 : decode cX3_empty 4 = .ok (.istore_n 1, 1) := by decide +kernel
theorem dX3_empty_5 : decode cX3_empty 5 = .ok (.aload_n 0, 1) := by decide +kernel
theorem dX3_empty_6 : decode cX3_empty 6 = .ok (.iconst 0, 1) := by decide +kernel
theorem dX3_empty_7 : decode cX3_empty 7 = .ok (.putfield 15, 3) := by decide +kernel
theorem dX3_empty_10 : decode cX3_empty 10 = .ok (.iload_n 1, 1) := by decide +kernel
theorem dX3_empty_11 : decode cX3_empty 11 = .ok (.ireturn, 1) := by decide +kernel
set_option maxRecDepth 20000 in
theorem ggX3_findFault_X3_open : GoodIn wsX3_findFault wsX3_open := goodIn_r _ [8, 9, 2, 39, 40, 41, 42, 43, 44, 45, 46, 47] (by decide +kernel) (by decide +kernel)
set_option maxRecDepth 20000 in
theorem gX3_findFault_X3_open : GoodIn wsX3_findFault (wsV RX3 19 RX3 yX3_open wsX3_open) := goodIn_app (goodIn_of _ (by decide +kernel)) ggX3_findFault_X3_open
set_option maxRecDepth 20000 in
theorem ggX3_findFault_X3_next : GoodIn wsX3_findFault wsX3_next := goodIn_r _ [13, 2, 9, 14, 15, 16, 17, 7, 18, 19, 20, 21, 22, 3, 23, 24, 25, 26, 27, 28, 29, 30, 31, 32, 33, 34, 35, 36, 37, 38, 39, 40, 41, 42, 43, 44, 45, 46, 47] (by decide +kernel) (by decide +kernel)
set_option maxRecDepth 20000 in
theorem gX3_findFault_X3_next : GoodIn wsX3_findFault (wsV RX3 26 RX3 yX3_next wsX3_next) := goodIn_app (goodIn_of _ (by decide +kernel)) ggX3_findFault_X3_next
theorem dX3_findFault_0 : decode cX3_findFault 0 = .ok (.aload_n 0, 1) := by decide +kernel
theorem dX3_findFault_1 : decode cX3_findFault 1 = .ok (.iload_n 1, 1) := by decide +kernel
theorem dX3_findFault_2 : decode cX3_findFault 2 = .ok (.invokevirtual 19, 3) := by decide +kernel
theorem dX3_findFault_5 : decode cX3_findFault 5 = .ok (.aload_n 0, 1) := by decide +kernel
theorem dX3_findFault_6 : decode cX3_findFault 6 = .ok (.iconst 0, 1) := by decide +kernel
theorem dX3_findFault_7 : decode cX3_findFault 7 = .ok (.putfield 23, 3) := by decide +kernel
theorem dX3_findFault_10 : decode cX3_findFault 10 = .ok (.aload_n 0, 1) := by decide +kernel
theorem dX3_findFault_11 : decode cX3_findFault 11 = .ok (.getfield 23, 3) := by decide +kernel
theorem dX3_findFault_14 : decode cX3_findFault 14 = .ok (.bipush 60, 2) := by decide +kernel
theorem dX3_findFault_16 : decode cX3_findFault 16 = .ok (.if_icmp .ge 34, 3) := by decide +kernel
theorem dX3_findFault_19 : decode cX3_findFault 19 = .ok (.aload_n 0, 1) := by decide +kernel
theorem dX3_findFault_20 : decode cX3_findFault 20 = .ok (.invokevirtual 26, 3) := by decide +kernel
theorem dX3_findFault_23 : decode cX3_findFault 23 = .ok (.ifCond .eq 27, 3) := by decide +kernel
theorem dX3_findFault_26 : decode cX3_findFault 26 = .ok (.aload_n 0, 1) := by decide +kernel
theorem dX3_findFault_27 : decode cX3_findFault 27 = .ok (.dup, 1) := by decide +kernel
theorem dX3_findFault_28 : decode cX3_findFault 28 = .ok (.getfield 23, 3) := by decide +kernel
theorem dX3_findFault_31 : decode cX3_findFault 31 = .ok (.iconst 1, 1) := by decide +kernel
theorem dX3_findFault_32 : decode cX3_findFault 32 = .ok (.iadd, 1) := by decide +kernel
theorem dX3_findFault_33 : decode cX3_findFault 33 = .ok (.putfield 23, 3) := by decide +kernel
theorem dX3_findFault_36 : decode cX3_findFault 36 = .ok (.aload_n 0, 1) := by decide +kernel
theorem dX3_findFault_37 : decode cX3_findFault 37 = .ok (.getfield 30, 3) := by decide +kernel
theorem dX3_findFault_40 : decode cX3_findFault 40 = .ok (.aload_n 0, 1) := by decide +kernel
theorem dX3_findFault_41 : decode cX3_findFault 41 = .ok (.getfield 15, 3) := by decide +kernel
theorem dX3_findFault_44 : decode cX3_findFault 44 = .ok (.if_icmp .ne (-34), 3) := by decide +kernel
theorem dX3_findFault_47 : decode cX3_findFault 47 = .ok (.bipush (-4), 2) := by decide +kernel
theorem dX3_findFault_49 : decode cX3_findFault 49 = .ok (.ireturn, 1) := by decide +kernel
theorem dX3_findFault_50 : decode cX3_findFault 50 = .ok (.aload_n 0, 1) := by decide +kernel
theorem dX3_findFault_51 : decode cX3_findFault 51 = .ok (.getfield 30, 3) := by decide +kernel
theorem dX3_findFault_54 : decode cX3_findFault 54 = .ok (.ireturn, 1) := by decide +kernel
theorem dX3_items_0 : decode cX3_items 0 = .ok (.aload_n 0, 1) := by decide +kernel
theorem dX3_items_1 : decode cX3_items 1 = .ok (.getfield 23, 3) := by decide +kernel
theorem dX3_items_4 : decode cX3_items 4 = .ok (.ireturn, 1) := by decide +kernel
theorem dX3_open_0 : decode cX3_open 0 = .ok (.aload_n 0, 1) := by decide +kernel
theorem dX3_open_1 : decode cX3_open 1 = .ok (.iload_n 1, 1) := by decide +kernel
theorem dX3_open_2 : decode cX3_open 2 = .ok (.putfield 33, 3) := by decide +kernel
theorem dX3_open_5 : decode cX3_open 5 = .ok (.aload_n 0, 1) := by decide +kernel
theorem dX3_open_6 : decode cX3_open 6 = .ok (.iconst 0, 1) := by decide +kernel
theorem dX3_open_7 : decode cX3_open 7 = .ok (.putfield 30, 3) := by decide +kernel
theorem dX3_open_10 : decode cX3_open 10 = .ok (.return_, 1) := by decide +kernel
set_option maxRecDepth 20000 in
theorem ggX3_next_X3_takes : GoodIn wsX3_next wsX3_takes := goodIn_r _ [8, 1, 9, 10, 11, 7, 12, 13, 14, 30, 31, 32, 33, 34, 35, 36, 37, 38] (by decide +kernel) (by decide +kernel)
set_option maxRecDepth 20000 in
theorem gX3_next_X3_takes : GoodIn wsX3_next (wsV RX3 37 RX3 yX3_takes wsX3_takes) := goodIn_app (goodIn_of _ (by decide +kernel)) ggX3_next_X3_takes
set_option maxRecDepth 20000 in
theorem ggX3_next_X3_readDeed : GoodIn wsX3_next wsX3_readDeed := goodIn_r _ [18, 1, 19, 20, 3, 9, 10, 11, 7, 12, 13, 14, 21, 22, 23, 24, 25, 26, 27, 28, 29, 4, 5, 6, 8, 30, 31, 32, 33, 34, 35, 36, 37, 38] (by decide +kernel) (by decide +kernel)
set_option maxRecDepth 20000 in
theorem gX3_next_X3_readDeed : GoodIn wsX3_next (wsV RX3 44 RX3 yX3_readDeed wsX3_readDeed) := goodIn_app (goodIn_of _ (by decide +kernel)) ggX3_next_X3_readDeed
set_option maxRecDepth 20000 in
theorem ggX3_next_X3_readRow : GoodIn wsX3_next wsX3_readRow := goodIn_r _ [28, 20, 29, 21, 22, 23, 7, 24, 1, 9, 10, 11, 12, 13, 14, 4, 5, 6, 8, 30, 31, 32, 33, 34, 35, 36, 37, 38] (by decide +kernel) (by decide +kernel)
set_option maxRecDepth 20000 in
theorem gX3_next_X3_readRow : GoodIn wsX3_next (wsV RX3 47 RX3 yX3_readRow wsX3_readRow) := goodIn_app (goodIn_of _ (by decide +kernel)) ggX3_next_X3_readRow
theorem dX3_next_0 : decode cX3_next 0 = .ok (.aload_n 0, 1) := by decide +kernel
theorem dX3_next_1 : decode cX3_next 1 = .ok (.getfield 30, 3) := by decide +kernel
theorem dX3_next_4 : decode cX3_next 4 = .ok (.ifCond .le 26, 3) := by decide +kernel
theorem dX3_next_7 : decode cX3_next 7 = .ok (.aload_n 0, 1) := by decide +kernel
theorem dX3_next_8 : decode cX3_next 8 = .ok (.aload_n 0, 1) := by decide +kernel
theorem dX3_next_9 : decode cX3_next 9 = .ok (.getfield 33, 3) := by decide +kernel
theorem dX3_next_12 : decode cX3_next 12 = .ok (.ifCond .eq 8, 3) := by decide +kernel
theorem dX3_next_15 : decode cX3_next 15 = .ok (.bipush 59, 2) := by decide +kernel
theorem dX3_next_17 : decode cX3_next 17 = .ok (.goto 5, 3) := by decide +kernel
theorem dX3_next_20 : decode cX3_next 20 = .ok (.bipush 44, 2) := by decide +kernel
theorem dX3_next_22 : decode cX3_next 22 = .ok (.invokevirtual 37, 3) := by decide +kernel
theorem dX3_next_25 : decode cX3_next 25 = .ok (.ifCond .ne 5, 3) := by decide +kernel
theorem dX3_next_28 : decode cX3_next 28 = .ok (.iconst 0, 1) := by decide +kernel
theorem dX3_next_29 : decode cX3_next 29 = .ok (.ireturn, 1) := by decide +kernel
theorem dX3_next_30 : decode cX3_next 30 = .ok (.aload_n 0, 1) := by decide +kernel
theorem dX3_next_31 : decode cX3_next 31 = .ok (.aload_n 0, 1) := by decide +kernel
theorem dX3_next_32 : decode cX3_next 32 = .ok (.getfield 30, 3) := by decide +kernel
theorem dX3_next_35 : decode cX3_next 35 = .ok (.putfield 41, 3) := by decide +kernel
theorem dX3_next_38 : decode cX3_next 38 = .ok (.aload_n 0, 1) := by decide +kernel
theorem dX3_next_39 : decode cX3_next 39 = .ok (.getfield 33, 3) := by decide +kernel
theorem dX3_next_42 : decode cX3_next 42 = .ok (.ifCond .eq 10, 3) := by decide +kernel
theorem dX3_next_45 : decode cX3_next 45 = .ok (.aload_n 0, 1) := by decide +kernel
theorem dX3_next_46 : decode cX3_next 46 = .ok (.invokevirtual 44, 3) := by decide +kernel
theorem dX3_next_49 : decode cX3_next 49 = .ok (.goto 7, 3) := by decide +kernel
theorem dX3_next_52 : decode cX3_next 52 = .ok (.aload_n 0, 1) := by decide +kernel
theorem dX3_next_53 : decode cX3_next 53 = .ok (.invokevirtual 47, 3) := by decide +kernel
theorem dX3_next_56 : decode cX3_next 56 = .ok (.ireturn, 1) := by decide +kernel
theorem dX3_start_0 : decode cX3_start 0 = .ok (.aload_n 0, 1) := by decide +kernel
theorem dX3_start_1 : decode cX3_start 1 = .ok (.getfield 41, 3) := by decide +kernel
theorem dX3_start_4 : decode cX3_start 4 = .ok (.ireturn, 1) := by decide +kernel
theorem dX3_sign_0 : decode cX3_sign 0 = .ok (.aload_n 0, 1) := by decide +kernel
theorem dX3_sign_1 : decode cX3_sign 1 = .ok (.getfield 50, 3) := by decide +kernel
theorem dX3_sign_4 : decode cX3_sign 4 = .ok (.ireturn, 1) := by decide +kernel
theorem dX3_first_0 : decode cX3_first 0 = .ok (.aload_n 0, 1) := by decide +kernel
theorem dX3_first_1 : decode cX3_first 1 = .ok (.getfield 53, 3) := by decide +kernel
theorem dX3_first_4 : decode cX3_first 4 = .ok (.ireturn, 1) := by decide +kernel
theorem dX3_second_0 : decode cX3_second 0 = .ok (.aload_n 0, 1) := by decide +kernel
theorem dX3_second_1 : decode cX3_second 1 = .ok (.getfield 56, 3) := by decide +kernel
theorem dX3_second_4 : decode cX3_second 4 = .ok (.ireturn, 1) := by decide +kernel
set_option maxRecDepth 20000 in
theorem ggX3_readDeed_X3_code : GoodIn wsX3_readDeed wsX3_code := goodIn_r _ [9, 10, 11, 25, 26, 27, 28, 29, 30, 31, 32, 33] (by decide +kernel) (by decide +kernel)
set_option maxRecDepth 20000 in
theorem gX3_readDeed_X3_code : GoodIn wsX3_readDeed (wsV RX3 59 RX3 yX3_code wsX3_code) := goodIn_app (goodIn_of _ (by decide +kernel)) ggX3_readDeed_X3_code
set_option maxRecDepth 20000 in
theorem ggX3_readDeed_X3_readNumber : GoodIn wsX3_readDeed wsX3_readNumber := goodIn_r _ [15, 1, 5, 6, 7, 8, 9, 10, 11, 25, 26, 27, 28, 29, 30, 31, 32, 33] (by decide +kernel) (by decide +kernel)
set_option maxRecDepth 20000 in
theorem gX3_readDeed_X3_readNumber : GoodIn wsX3_readDeed (wsV RX3 63 RX3 yX3_readNumber wsX3_readNumber) := goodIn_app (goodIn_of _ (by decide +kernel)) ggX3_readDeed_X3_readNumber
set_option maxRecDepth 20000 in
theorem ggX3_readDeed_X3_readRow : GoodIn wsX3_readDeed wsX3_readRow := goodIn_r _ [19, 3, 20, 12, 13, 14, 8, 15, 1, 5, 6, 7, 9, 10, 11, 21, 22, 23, 24, 25, 26, 27, 28, 29, 30, 31, 32, 33] (by decide +kernel) (by decide +kernel)
set_option maxRecDepth 20000 in
theorem gX3_readDeed_X3_readRow : GoodIn wsX3_readDeed (wsV RX3 47 RX3 yX3_readRow wsX3_readRow) := goodIn_app (goodIn_of _ (by decide +kernel)) ggX3_readDeed_X3_readRow
theorem dX3_readDeed_0 : decode cX3_readDeed 0 = .ok (.aload_n 0, 1) := by decide +kernel
theorem dX3_readDeed_1 : decode cX3_readDeed 1 = .ok (.aload_n 0, 1) := by decide +kernel
theorem dX3_readDeed_2 : decode cX3_readDeed 2 = .ok (.aload_n 0, 1) := by decide +kernel
theorem dX3_readDeed_3 : decode cX3_readDeed 3 = .ok (.getfield 30, 3) := by decide +kernel
theorem dX3_readDeed_6 : decode cX3_readDeed 6 = .ok (.invokevirtual 59, 3) := by decide +kernel
theorem dX3_readDeed_9 : decode cX3_readDeed 9 = .ok (.putfield 50, 3) := by decide +kernel
theorem dX3_readDeed_12 : decode cX3_readDeed 12 = .ok (.aload_n 0, 1) := by decide +kernel
theorem dX3_readDeed_13 : decode cX3_readDeed 13 = .ok (.dup, 1) := by decide +kernel
theorem dX3_readDeed_14 : decode cX3_readDeed 14 = .ok (.getfield 30, 3) := by decide +kernel
theorem dX3_readDeed_17 : decode cX3_readDeed 17 = .ok (.iconst 1, 1) := by decide +kernel
theorem dX3_readDeed_18 : decode cX3_readDeed 18 = .ok (.iadd, 1) := by decide +kernel
theorem dX3_readDeed_19 : decode cX3_readDeed 19 = .ok (.putfield 30, 3) := by decide +kernel
theorem dX3_readDeed_22 : decode cX3_readDeed 22 = .ok (.aload_n 0, 1) := by decide +kernel
theorem dX3_readDeed_23 : decode cX3_readDeed 23 = .ok (.getfield 50, 3) := by decide +kernel
theorem dX3_readDeed_26 : decode cX3_readDeed 26 = .ok (.lookupswitch 97 #[(43, 90), (45, 66), (114, 95), (115, 42)], 42) := by decide +kernel
theorem dX3_readDeed_68 : decode cX3_readDeed 68 = .ok (.aload_n 0, 1) := by decide +kernel
theorem dX3_readDeed_69 : decode cX3_readDeed 69 = .ok (.aload_n 0, 1) := by decide +kernel
theorem dX3_readDeed_70 : decode cX3_readDeed 70 = .ok (.iconst 1, 1) := by decide +kernel
theorem dX3_readDeed_71 : decode cX3_readDeed 71 = .ok (.bipush 20, 2) := by decide +kernel
theorem dX3_readDeed_73 : decode cX3_readDeed 73 = .ok (.invokevirtual 63, 3) := by decide +kernel
theorem dX3_readDeed_76 : decode cX3_readDeed 76 = .ok (.putfield 53, 3) := by decide +kernel
theorem dX3_readDeed_79 : decode cX3_readDeed 79 = .ok (.aload_n 0, 1) := by decide +kernel
theorem dX3_readDeed_80 : decode cX3_readDeed 80 = .ok (.getfield 53, 3) := by decide +kernel
theorem dX3_readDeed_83 : decode cX3_readDeed 83 = .ok (.ifCond .lt 7, 3) := by decide +kernel
theorem dX3_readDeed_86 : decode cX3_readDeed 86 = .ok (.iconst 1, 1) := by decide +kernel
theorem dX3_readDeed_87 : decode cX3_readDeed 87 = .ok (.goto 4, 3) := by decide +kernel
theorem dX3_readDeed_90 : decode cX3_readDeed 90 = .ok (.iconst 0, 1) := by decide +kernel
theorem dX3_readDeed_91 : decode cX3_readDeed 91 = .ok (.ireturn, 1) := by decide +kernel
theorem dX3_readDeed_92 : decode cX3_readDeed 92 = .ok (.aload_n 0, 1) := by decide +kernel
theorem dX3_readDeed_93 : decode cX3_readDeed 93 = .ok (.aload_n 0, 1) := by decide +kernel
theorem dX3_readDeed_94 : decode cX3_readDeed 94 = .ok (.iconst 0, 1) := by decide +kernel
theorem dX3_readDeed_95 : decode cX3_readDeed 95 = .ok (.bipush 19, 2) := by decide +kernel
theorem dX3_readDeed_97 : decode cX3_readDeed 97 = .ok (.invokevirtual 63, 3) := by decide +kernel
theorem dX3_readDeed_100 : decode cX3_readDeed 100 = .ok (.putfield 53, 3) := by decide +kernel
theorem dX3_readDeed_103 : decode cX3_readDeed 103 = .ok (.aload_n 0, 1) := by decide +kernel
theorem dX3_readDeed_104 : decode cX3_readDeed 104 = .ok (.getfield 53, 3) := by decide +kernel
theorem dX3_readDeed_107 : decode cX3_readDeed 107 = .ok (.ifCond .lt 7, 3) := by decide +kernel
theorem dX3_readDeed_110 : decode cX3_readDeed 110 = .ok (.iconst 1, 1) := by decide +kernel
theorem dX3_readDeed_111 : decode cX3_readDeed 111 = .ok (.goto 4, 3) := by decide +kernel
theorem dX3_readDeed_114 : decode cX3_readDeed 114 = .ok (.iconst 0, 1) := by decide +kernel
theorem dX3_readDeed_115 : decode cX3_readDeed 115 = .ok (.ireturn, 1) := by decide +kernel
theorem dX3_readDeed_116 : decode cX3_readDeed 116 = .ok (.aload_n 0, 1) := by decide +kernel
theorem dX3_readDeed_117 : decode cX3_readDeed 117 = .ok (.invokevirtual 47, 3) := by decide +kernel
theorem dX3_readDeed_120 : decode cX3_readDeed 120 = .ok (.ireturn, 1) := by decide +kernel
theorem dX3_readDeed_121 : decode cX3_readDeed 121 = .ok (.iconst 1, 1) := by decide +kernel
theorem dX3_readDeed_122 : decode cX3_readDeed 122 = .ok (.ireturn, 1) := by decide +kernel
theorem dX3_readDeed_123 : decode cX3_readDeed 123 = .ok (.aload_n 0, 1) := by decide +kernel
theorem dX3_readDeed_124 : decode cX3_readDeed 124 = .ok (.aload_n 0, 1) := by decide +kernel
theorem dX3_readDeed_125 : decode cX3_readDeed 125 = .ok (.getfield 41, 3) := by decide +kernel
theorem dX3_readDeed_128 : decode cX3_readDeed 128 = .ok (.putfield 30, 3) := by decide +kernel
theorem dX3_readDeed_131 : decode cX3_readDeed 131 = .ok (.iconst 0, 1) := by decide +kernel
theorem dX3_readDeed_132 : decode cX3_readDeed 132 = .ok (.ireturn, 1) := by decide +kernel
set_option maxRecDepth 20000 in
theorem ggX3_readRow_X3_readNumber : GoodIn wsX3_readRow wsX3_readNumber := goodIn_r _ [7, 8, 9, 10, 11, 6, 12, 13, 14, 19, 20, 21, 22, 23, 24, 25, 26, 27] (by decide +kernel) (by decide +kernel)
set_option maxRecDepth 20000 in
theorem gX3_readRow_X3_readNumber : GoodIn wsX3_readRow (wsV RX3 63 RX3 yX3_readNumber wsX3_readNumber) := goodIn_app (goodIn_of _ (by decide +kernel)) ggX3_readRow_X3_readNumber
set_option maxRecDepth 20000 in
theorem ggX3_readRow_X3_takes : GoodIn wsX3_readRow wsX3_takes := goodIn_r _ [18, 8, 9, 10, 11, 6, 12, 13, 14, 19, 20, 21, 22, 23, 24, 25, 26, 27] (by decide +kernel) (by decide +kernel)
set_option maxRecDepth 20000 in
theorem gX3_readRow_X3_takes : GoodIn wsX3_readRow (wsV RX3 37 RX3 yX3_takes wsX3_takes) := goodIn_app (goodIn_of _ (by decide +kernel)) ggX3_readRow_X3_takes
theorem dX3_readRow_0 : decode cX3_readRow 0 = .ok (.aload_n 0, 1) := by decide +kernel
theorem dX3_readRow_1 : decode cX3_readRow 1 = .ok (.aload_n 0, 1) := by decide +kernel
theorem dX3_readRow_2 : decode cX3_readRow 2 = .ok (.iconst 0, 1) := by decide +kernel
theorem dX3_readRow_3 : decode cX3_readRow 3 = .ok (.bipush 9, 2) := by decide +kernel
theorem dX3_readRow_5 : decode cX3_readRow 5 = .ok (.invokevirtual 63, 3) := by decide +kernel
theorem dX3_readRow_8 : decode cX3_readRow 8 = .ok (.putfield 53, 3) := by decide +kernel
theorem dX3_readRow_11 : decode cX3_readRow 11 = .ok (.aload_n 0, 1) := by decide +kernel
theorem dX3_readRow_12 : decode cX3_readRow 12 = .ok (.getfield 53, 3) := by decide +kernel
theorem dX3_readRow_15 : decode cX3_readRow 15 = .ok (.ifCond .lt 12, 3) := by decide +kernel
theorem dX3_readRow_18 : decode cX3_readRow 18 = .ok (.aload_n 0, 1) := by decide +kernel
theorem dX3_readRow_19 : decode cX3_readRow 19 = .ok (.bipush 58, 2) := by decide +kernel
theorem dX3_readRow_21 : decode cX3_readRow 21 = .ok (.invokevirtual 37, 3) := by decide +kernel
theorem dX3_readRow_24 : decode cX3_readRow 24 = .ok (.ifCond .ne 5, 3) := by decide +kernel
theorem dX3_readRow_27 : decode cX3_readRow 27 = .ok (.iconst 0, 1) := by decide +kernel
theorem dX3_readRow_28 : decode cX3_readRow 28 = .ok (.ireturn, 1) := by decide +kernel
theorem dX3_readRow_29 : decode cX3_readRow 29 = .ok (.aload_n 0, 1) := by decide +kernel
theorem dX3_readRow_30 : decode cX3_readRow 30 = .ok (.aload_n 0, 1) := by decide +kernel
theorem dX3_readRow_31 : decode cX3_readRow 31 = .ok (.iconst 0, 1) := by decide +kernel
theorem dX3_readRow_32 : decode cX3_readRow 32 = .ok (.bipush 99, 2) := by decide +kernel
theorem dX3_readRow_34 : decode cX3_readRow 34 = .ok (.invokevirtual 63, 3) := by decide +kernel
theorem dX3_readRow_37 : decode cX3_readRow 37 = .ok (.putfield 56, 3) := by decide +kernel
theorem dX3_readRow_40 : decode cX3_readRow 40 = .ok (.aload_n 0, 1) := by decide +kernel
theorem dX3_readRow_41 : decode cX3_readRow 41 = .ok (.getfield 56, 3) := by decide +kernel
theorem dX3_readRow_44 : decode cX3_readRow 44 = .ok (.ifCond .lt 7, 3) := by decide +kernel
theorem dX3_readRow_47 : decode cX3_readRow 47 = .ok (.iconst 1, 1) := by decide +kernel
theorem dX3_readRow_48 : decode cX3_readRow 48 = .ok (.goto 4, 3) := by decide +kernel
theorem dX3_readRow_51 : decode cX3_readRow 51 = .ok (.iconst 0, 1) := by decide +kernel
theorem dX3_readRow_52 : decode cX3_readRow 52 = .ok (.ireturn, 1) := by decide +kernel
set_option maxRecDepth 20000 in
theorem ggX3_readNumber_X3_code : GoodIn wsX3_readNumber wsX3_code := goodIn_r _ [6, 7, 8, 9, 10, 11, 12, 13, 14, 15, 16, 17] (by decide +kernel) (by decide +kernel)
set_option maxRecDepth 20000 in
theorem gX3_readNumber_X3_code : GoodIn wsX3_readNumber (wsV RX3 59 RX3 yX3_code wsX3_code) := goodIn_app (goodIn_of _ (by decide +kernel)) ggX3_readNumber_X3_code
theorem dX3_readNumber_0 : decode cX3_readNumber 0 = .ok (.aload_n 0, 1) := by decide +kernel
theorem dX3_readNumber_1 : decode cX3_readNumber 1 = .ok (.aload_n 0, 1) := by decide +kernel
theorem dX3_readNumber_2 : decode cX3_readNumber 2 = .ok (.getfield 30, 3) := by decide +kernel
theorem dX3_readNumber_5 : decode cX3_readNumber 5 = .ok (.invokevirtual 59, 3) := by decide +kernel
theorem dX3_readNumber_8 : decode cX3_readNumber 8 = .ok (.bipush 48, 2) := by decide +kernel
theorem dX3_readNumber_10 : decode cX3_readNumber 10 = .ok (.isub, 1) := by decide +kernel
theorem dX3_readNumber_11 : decode cX3_readNumber 11 = .ok (.istore_n 3, 1) := by decide +kernel
theorem dX3_readNumber_12 : decode cX3_readNumber 12 = .ok (.iload_n 3, 1) := by decide +kernel
theorem dX3_readNumber_13 : decode cX3_readNumber 13 = .ok (.iload_n 1, 1) := by decide +kernel
theorem dX3_readNumber_14 : decode cX3_readNumber 14 = .ok (.if_icmp .lt 9, 3) := by decide +kernel
theorem dX3_readNumber_17 : decode cX3_readNumber 17 = .ok (.iload_n 3, 1) := by decide +kernel
theorem dX3_readNumber_18 : decode cX3_readNumber 18 = .ok (.bipush 9, 2) := by decide +kernel
theorem dX3_readNumber_20 : decode cX3_readNumber 20 = .ok (.if_icmp .le 6, 3) := by decide +kernel
theorem dX3_readNumber_23 : decode cX3_readNumber 23 = .ok (.bipush (-4), 2) := by decide +kernel
theorem dX3_readNumber_25 : decode cX3_readNumber 25 = .ok (.ireturn, 1) := by decide +kernel
theorem dX3_readNumber_26 : decode cX3_readNumber 26 = .ok (.aload_n 0, 1) := by decide +kernel
theorem dX3_readNumber_27 : decode cX3_readNumber 27 = .ok (.dup, 1) := by decide +kernel
theorem dX3_readNumber_28 : decode cX3_readNumber 28 = .ok (.getfield 30, 3) := by decide +kernel
theorem dX3_readNumber_31 : decode cX3_readNumber 31 = .ok (.iconst 1, 1) := by decide +kernel
theorem dX3_readNumber_32 : decode cX3_readNumber 32 = .ok (.iadd, 1) := by decide +kernel
theorem dX3_readNumber_33 : decode cX3_readNumber 33 = .ok (.putfield 30, 3) := by decide +kernel
theorem dX3_readNumber_36 : decode cX3_readNumber 36 = .ok (.aload_n 0, 1) := by decide +kernel
theorem dX3_readNumber_37 : decode cX3_readNumber 37 = .ok (.aload_n 0, 1) := by decide +kernel
theorem dX3_readNumber_38 : decode cX3_readNumber 38 = .ok (.getfield 30, 3) := by decide +kernel
theorem dX3_readNumber_41 : decode cX3_readNumber 41 = .ok (.invokevirtual 59, 3) := by decide +kernel
theorem dX3_readNumber_44 : decode cX3_readNumber 44 = .ok (.bipush 48, 2) := by decide +kernel
theorem dX3_readNumber_46 : decode cX3_readNumber 46 = .ok (.isub, 1) := by decide +kernel
theorem dX3_readNumber_47 : decode cX3_readNumber 47 = .ok (.istore 4, 2) := by decide +kernel
theorem dX3_readNumber_49 : decode cX3_readNumber 49 = .ok (.iload_n 3, 1) := by decide +kernel
theorem dX3_readNumber_50 : decode cX3_readNumber 50 = .ok (.ifCond .eq 26, 3) := by decide +kernel
theorem dX3_readNumber_53 : decode cX3_readNumber 53 = .ok (.iload 4, 2) := by decide +kernel
theorem dX3_readNumber_55 : decode cX3_readNumber 55 = .ok (.ifCond .lt 21, 3) := by decide +kernel
theorem dX3_readNumber_58 : decode cX3_readNumber 58 = .ok (.iload 4, 2) := by decide +kernel
theorem dX3_readNumber_60 : decode cX3_readNumber 60 = .ok (.bipush 9, 2) := by decide +kernel
theorem dX3_readNumber_62 : decode cX3_readNumber 62 = .ok (.if_icmp .gt 14, 3) := by decide +kernel
theorem dX3_readNumber_65 : decode cX3_readNumber 65 = .ok (.bipush 10, 2) := by decide +kernel
theorem dX3_readNumber_67 : decode cX3_readNumber 67 = .ok (.iload_n 3, 1) := by decide +kernel
theorem dX3_readNumber_68 : decode cX3_readNumber 68 = .ok (.imul, 1) := by decide +kernel
theorem dX3_readNumber_69 : decode cX3_readNumber 69 = .ok (.iload 4, 2) := by decide +kernel
theorem dX3_readNumber_71 : decode cX3_readNumber 71 = .ok (.iadd, 1) := by decide +kernel
theorem dX3_readNumber_72 : decode cX3_readNumber 72 = .ok (.iload_n 2, 1) := by decide +kernel
theorem dX3_readNumber_73 : decode cX3_readNumber 73 = .ok (.if_icmp .le 5, 3) := by decide +kernel
theorem dX3_readNumber_76 : decode cX3_readNumber 76 = .ok (.iload_n 3, 1) := by decide +kernel
theorem dX3_readNumber_77 : decode cX3_readNumber 77 = .ok (.ireturn, 1) := by decide +kernel
theorem dX3_readNumber_78 : decode cX3_readNumber 78 = .ok (.aload_n 0, 1) := by decide +kernel
theorem dX3_readNumber_79 : decode cX3_readNumber 79 = .ok (.dup, 1) := by decide +kernel
theorem dX3_readNumber_80 : decode cX3_readNumber 80 = .ok (.getfield 30, 3) := by decide +kernel
theorem dX3_readNumber_83 : decode cX3_readNumber 83 = .ok (.iconst 1, 1) := by decide +kernel
theorem dX3_readNumber_84 : decode cX3_readNumber 84 = .ok (.iadd, 1) := by decide +kernel
theorem dX3_readNumber_85 : decode cX3_readNumber 85 = .ok (.putfield 30, 3) := by decide +kernel
theorem dX3_readNumber_88 : decode cX3_readNumber 88 = .ok (.bipush 10, 2) := by decide +kernel
theorem dX3_readNumber_90 : decode cX3_readNumber 90 = .ok (.iload_n 3, 1) := by decide +kernel
theorem dX3_readNumber_91 : decode cX3_readNumber 91 = .ok (.imul, 1) := by decide +kernel
theorem dX3_readNumber_92 : decode cX3_readNumber 92 = .ok (.iload 4, 2) := by decide +kernel
theorem dX3_readNumber_94 : decode cX3_readNumber 94 = .ok (.iadd, 1) := by decide +kernel
theorem dX3_readNumber_95 : decode cX3_readNumber 95 = .ok (.ireturn, 1) := by decide +kernel
set_option maxRecDepth 20000 in
theorem ggX3_takes_X3_code : GoodIn wsX3_takes wsX3_code := goodIn_r _ [6, 7, 8, 9, 10, 11, 12, 13, 14, 15, 16, 17] (by decide +kernel) (by decide +kernel)
set_option maxRecDepth 20000 in
theorem gX3_takes_X3_code : GoodIn wsX3_takes (wsV RX3 59 RX3 yX3_code wsX3_code) := goodIn_app (goodIn_of _ (by decide +kernel)) ggX3_takes_X3_code
theorem dX3_takes_0 : decode cX3_takes 0 = .ok (.aload_n 0, 1) := by decide +kernel
theorem dX3_takes_1 : decode cX3_takes 1 = .ok (.aload_n 0, 1) := by decide +kernel
theorem dX3_takes_2 : decode cX3_takes 2 = .ok (.getfield 30, 3) := by decide +kernel
theorem dX3_takes_5 : decode cX3_takes 5 = .ok (.invokevirtual 59, 3) := by decide +kernel
theorem dX3_takes_8 : decode cX3_takes 8 = .ok (.iload_n 1, 1) := by decide +kernel
theorem dX3_takes_9 : decode cX3_takes 9 = .ok (.if_icmp .eq 5, 3) := by decide +kernel
theorem dX3_takes_12 : decode cX3_takes 12 = .ok (.iconst 0, 1) := by decide +kernel
theorem dX3_takes_13 : decode cX3_takes 13 = .ok (.ireturn, 1) := by decide +kernel
theorem dX3_takes_14 : decode cX3_takes 14 = .ok (.aload_n 0, 1) := by decide +kernel
theorem dX3_takes_15 : decode cX3_takes 15 = .ok (.dup, 1) := by decide +kernel
theorem dX3_takes_16 : decode cX3_takes 16 = .ok (.getfield 30, 3) := by decide +kernel
theorem dX3_takes_19 : decode cX3_takes 19 = .ok (.iconst 1, 1) := by decide +kernel
theorem dX3_takes_20 : decode cX3_takes 20 = .ok (.iadd, 1) := by decide +kernel
theorem dX3_takes_21 : decode cX3_takes 21 = .ok (.putfield 30, 3) := by decide +kernel
theorem dX3_takes_24 : decode cX3_takes 24 = .ok (.iconst 1, 1) := by decide +kernel
theorem dX3_takes_25 : decode cX3_takes 25 = .ok (.ireturn, 1) := by decide +kernel
theorem dX3_code_0 : decode cX3_code 0 = .ok (.iload_n 1, 1) := by decide +kernel
theorem dX3_code_1 : decode cX3_code 1 = .ok (.ifCond .lt 29, 3) := by decide +kernel
theorem dX3_code_4 : decode cX3_code 4 = .ok (.iload_n 1, 1) := by decide +kernel
theorem dX3_code_5 : decode cX3_code 5 = .ok (.aload_n 0, 1) := by decide +kernel
theorem dX3_code_6 : decode cX3_code 6 = .ok (.getfield 15, 3) := by decide +kernel
theorem dX3_code_9 : decode cX3_code 9 = .ok (.if_icmp .ge 21, 3) := by decide +kernel
theorem dX3_code_12 : decode cX3_code 12 = .ok (.iload_n 1, 1) := by decide +kernel
theorem dX3_code_13 : decode cX3_code 13 = .ok (.aload_n 0, 1) := by decide +kernel
theorem dX3_code_14 : decode cX3_code 14 = .ok (.getfield 9, 3) := by decide +kernel
theorem dX3_code_17 : decode cX3_code 17 = .ok (.arraylength, 1) := by decide +kernel
theorem dX3_code_18 : decode cX3_code 18 = .ok (.if_icmp .ge 12, 3) := by decide +kernel
theorem dX3_code_21 : decode cX3_code 21 = .ok (.aload_n 0, 1) := by decide +kernel
theorem dX3_code_22 : decode cX3_code 22 = .ok (.getfield 9, 3) := by decide +kernel
theorem dX3_code_25 : decode cX3_code 25 = .ok (.iload_n 1, 1) := by decide +kernel
theorem dX3_code_26 : decode cX3_code 26 = .ok (.iaload, 1) := by decide +kernel
theorem dX3_code_27 : decode cX3_code 27 = .ok (.goto 4, 3) := by decide +kernel
theorem dX3_code_30 : decode cX3_code 30 = .ok (.iconst 0, 1) := by decide +kernel
theorem dX3_code_31 : decode cX3_code 31 = .ok (.ireturn, 1) := by decide +kernel
set_option maxRecDepth 20000 in
theorem ggX4_init_X5_init : GoodIn wsX4_init wsX5_init := goodIn_r _ [29, 30, 2, 3, 25, 31, 32, 47, 48, 49] (by decide +kernel) (by decide +kernel)
set_option maxRecDepth 20000 in
theorem gX4_init_X5_init : GoodIn wsX4_init (wsX5_init) := ggX4_init_X5_init
set_option maxRecDepth 20000 in
theorem ggX4_init_X0_init : GoodIn wsX4_init wsX0_init := goodIn_r _ [35, 36, 2, 3, 25, 37, 38, 39, 58, 59, 60] (by decide +kernel) (by decide +kernel)
set_option maxRecDepth 20000 in
theorem gX4_init_X0_init : GoodIn wsX4_init (wsX0_init) := ggX4_init_X0_init
set_option maxRecDepth 20000 in
theorem ggX4_init_X2_init : GoodIn wsX4_init wsX2_init := goodIn_r _ [42, 43, 2, 3, 25, 44, 45, 46, 61, 62, 63, 64] (by decide +kernel) (by decide +kernel)
set_option maxRecDepth 20000 in
theorem gX4_init_X2_init : GoodIn wsX4_init (wsX2_init) := ggX4_init_X2_init
theorem dX4_init_0 : decode cX4_init 0 = .ok (.aload_n 0, 1) := by decide +kernel
theorem dX4_init_1 : decode cX4_init 1 = .ok (.invokespecial 3, 3) := by decide +kernel
theorem dX4_init_4 : decode cX4_init 4 = .ok (.aload_n 0, 1) := by decide +kernel
theorem dX4_init_5 : decode cX4_init 5 = .ok (.new 9, 3) := by decide +kernel
theorem dX4_init_8 : decode cX4_init 8 = .ok (.dup, 1) := by decide +kernel
theorem dX4_init_9 : decode cX4_init 9 = .ok (.invokespecial 11, 3) := by decide +kernel
theorem dX4_init_12 : decode cX4_init 12 = .ok (.putfield 12, 3) := by decide +kernel
theorem dX4_init_15 : decode cX4_init 15 = .ok (.aload_n 0, 1) := by decide +kernel
theorem dX4_init_16 : decode cX4_init 16 = .ok (.new 9, 3) := by decide +kernel
theorem dX4_init_19 : decode cX4_init 19 = .ok (.dup, 1) := by decide +kernel
theorem dX4_init_20 : decode cX4_init 20 = .ok (.invokespecial 11, 3) := by decide +kernel
theorem dX4_init_23 : decode cX4_init 23 = .ok (.putfield 18, 3) := by decide +kernel
theorem dX4_init_26 : decode cX4_init 26 = .ok (.aload_n 0, 1) := by decide +kernel
theorem dX4_init_27 : decode cX4_init 27 = .ok (.new 21, 3) := by decide +kernel
theorem dX4_init_30 : decode cX4_init 30 = .ok (.dup, 1) := by decide +kernel
theorem dX4_init_31 : decode cX4_init 31 = .ok (.invokespecial 23, 3) := by decide +kernel
theorem dX4_init_34 : decode cX4_init 34 = .ok (.putfield 24, 3) := by decide +kernel
theorem dX4_init_37 : decode cX4_init 37 = .ok (.aload_n 0, 1) := by decide +kernel
theorem dX4_init_38 : decode cX4_init 38 = .ok (.new 28, 3) := by decide +kernel
theorem dX4_init_41 : decode cX4_init 41 = .ok (.dup, 1) := by decide +kernel
theorem dX4_init_42 : decode cX4_init 42 = .ok (.invokespecial 30, 3) := by decide +kernel
theorem dX4_init_45 : decode cX4_init 45 = .ok (.putfield 31, 3) := by decide +kernel
theorem dX4_init_48 : decode cX4_init 48 = .ok (.aload_n 0, 1) := by decide +kernel
theorem dX4_init_49 : decode cX4_init 49 = .ok (.getstatic 35, 3) := by decide +kernel
theorem dX4_init_52 : decode cX4_init 52 = .ok (.invokevirtual 39, 3) := by decide +kernel
theorem dX4_init_55 : decode cX4_init 55 = .ok (.checkcast 40, 3) := by decide +kernel
theorem dX4_init_58 : decode cX4_init 58 = .ok (.putfield 44, 3) := by decide +kernel
theorem dX4_init_61 : decode cX4_init 61 = .ok (.aload_n 0, 1) := by decide +kernel
theorem dX4_init_62 : decode cX4_init 62 = .ok (.bipush 7, 2) := by decide +kernel
theorem dX4_init_64 : decode cX4_init 64 = .ok (.newarray .int, 2) := by decide +kernel
theorem dX4_init_66 : decode cX4_init 66 = .ok (.putfield 47, 3) := by decide +kernel
theorem dX4_init_69 : decode cX4_init 69 = .ok (.return_, 1) := by decide +kernel
set_option maxRecDepth 20000 in
theorem ggX4_copyFrom_X5_copyFrom : GoodIn wsX4_copyFrom wsX5_copyFrom := goodIn_r _ [13, 14, 15, 16, 17, 18, 19, 20, 21, 22, 23, 24, 25, 26, 27, 53, 54, 55] (by decide +kernel) (by decide +kernel)
set_option maxRecDepth 20000 in
theorem gX4_copyFrom_X5_copyFrom : GoodIn wsX4_copyFrom (wsV RX4 50 RX5 yX5_copyFrom wsX5_copyFrom) := goodIn_app (goodIn_of _ (by decide +kernel)) ggX4_copyFrom_X5_copyFrom
set_option maxRecDepth 20000 in
theorem ggX4_copyFrom_X0_copyFrom : GoodIn wsX4_copyFrom wsX0_copyFrom := goodIn_r _ [32, 33, 34, 35, 17, 18, 19, 20, 21, 22, 23, 24, 25, 26, 27, 56, 57, 58] (by decide +kernel) (by decide +kernel)
set_option maxRecDepth 20000 in
theorem gX4_copyFrom_X0_copyFrom : GoodIn wsX4_copyFrom (wsV RX4 54 RX0 yX0_copyFrom wsX0_copyFrom) := goodIn_app (goodIn_of _ (by decide +kernel)) ggX4_copyFrom_X0_copyFrom
set_option maxRecDepth 20000 in
theorem ggX4_copyFrom_X2_copyFrom : GoodIn wsX4_copyFrom wsX2_copyFrom := goodIn_r _ [40, 41, 42, 43, 44, 17, 18, 19, 20, 21, 22, 23, 24, 25, 26, 27, 59, 60, 61, 62] (by decide +kernel) (by decide +kernel)
set_option maxRecDepth 20000 in
theorem gX4_copyFrom_X2_copyFrom : GoodIn wsX4_copyFrom (wsV RX4 57 RX2 yX2_copyFrom wsX2_copyFrom) := goodIn_app (goodIn_of _ (by decide +kernel)) ggX4_copyFrom_X2_copyFrom
set_option maxRecDepth 20000 in
theorem ggX4_copyFrom_X6_copyNumbers : GoodIn wsX4_copyFrom wsX6_copyNumbers := goodIn_r _ [19, 20, 21, 22, 23, 24, 25, 26, 27] (by decide +kernel) (by decide +kernel)
set_option maxRecDepth 20000 in
theorem gX4_copyFrom_X6_copyNumbers_n60 : GoodIn wsX4_copyFrom (wsX6_copyNumbers) := ggX4_copyFrom_X6_copyNumbers
theorem dX4_copyFrom_0 : decode cX4_copyFrom 0 = .ok (.aload_n 0, 1) := by decide +kernel
theorem dX4_copyFrom_1 : decode cX4_copyFrom 1 = .ok (.getfield 12, 3) := by decide +kernel
theorem dX4_copyFrom_4 : decode cX4_copyFrom 4 = .ok (.aload_n 1, 1) := by decide +kernel
theorem dX4_copyFrom_5 : decode cX4_copyFrom 5 = .ok (.getfield 12, 3) := by decide +kernel
theorem dX4_copyFrom_8 : decode cX4_copyFrom 8 = .ok (.invokevirtual 50, 3) := by decide +kernel
theorem dX4_copyFrom_11 : decode cX4_copyFrom 11 = .ok (.aload_n 0, 1) := by decide +kernel
theorem dX4_copyFrom_12 : decode cX4_copyFrom 12 = .ok (.getfield 18, 3) := by decide +kernel
theorem dX4_copyFrom_15 : decode cX4_copyFrom 15 = .ok (.aload_n 1, 1) := by decide +kernel
theorem dX4_copyFrom_16 : decode cX4_copyFrom 16 = .ok (.getfield 18, 3) := by decide +kernel
theorem dX4_copyFrom_19 : decode cX4_copyFrom 19 = .ok (.invokevirtual 50, 3) := by decide +kernel
theorem dX4_copyFrom_22 : decode cX4_copyFrom 22 = .ok (.aload_n 0, 1) := by decide +kernel
theorem dX4_copyFrom_23 : decode cX4_copyFrom 23 = .ok (.getfield 24, 3) := by decide +kernel
theorem dX4_copyFrom_26 : decode cX4_copyFrom 26 = .ok (.aload_n 1, 1) := by decide +kernel
theorem dX4_copyFrom_27 : decode cX4_copyFrom 27 = .ok (.getfield 24, 3) := by decide +kernel
theorem dX4_copyFrom_30 : decode cX4_copyFrom 30 = .ok (.invokevirtual 54, 3) := by decide +kernel
theorem dX4_copyFrom_33 : decode cX4_copyFrom 33 = .ok (.aload_n 0, 1) := by decide +kernel
theorem dX4_copyFrom_34 : decode cX4_copyFrom 34 = .ok (.getfield 31, 3) := by decide +kernel
theorem dX4_copyFrom_37 : decode cX4_copyFrom 37 = .ok (.aload_n 1, 1) := by decide +kernel
theorem dX4_copyFrom_38 : decode cX4_copyFrom 38 = .ok (.getfield 31, 3) := by decide +kernel
theorem dX4_copyFrom_41 : decode cX4_copyFrom 41 = .ok (.invokevirtual 57, 3) := by decide +kernel
theorem dX4_copyFrom_44 : decode cX4_copyFrom 44 = .ok (.aload_n 1, 1) := by decide +kernel
theorem dX4_copyFrom_45 : decode cX4_copyFrom 45 = .ok (.getfield 44, 3) := by decide +kernel
theorem dX4_copyFrom_48 : decode cX4_copyFrom 48 = .ok (.aload_n 0, 1) := by decide +kernel
theorem dX4_copyFrom_49 : decode cX4_copyFrom 49 = .ok (.getfield 44, 3) := by decide +kernel
theorem dX4_copyFrom_52 : decode cX4_copyFrom 52 = .ok (.invokestatic 60, 3) := by decide +kernel
theorem dX4_copyFrom_55 : decode cX4_copyFrom 55 = .ok (.aload_n 1, 1) := by decide +kernel
theorem dX4_copyFrom_56 : decode cX4_copyFrom 56 = .ok (.getfield 47, 3) := by decide +kernel
theorem dX4_copyFrom_59 : decode cX4_copyFrom 59 = .ok (.aload_n 0, 1) := by decide +kernel
theorem dX4_copyFrom_60 : decode cX4_copyFrom 60 = .ok (.getfield 47, 3) := by decide +kernel
theorem dX4_copyFrom_63 : decode cX4_copyFrom 63 = .ok (.invokestatic 60, 3) := by decide +kernel
theorem dX4_copyFrom_66 : decode cX4_copyFrom 66 = .ok (.aload_n 0, 1) := by decide +kernel
theorem dX4_copyFrom_67 : decode cX4_copyFrom 67 = .ok (.aload_n 1, 1) := by decide +kernel
theorem dX4_copyFrom_68 : decode cX4_copyFrom 68 = .ok (.getfield 64, 3) := by decide +kernel
theorem dX4_copyFrom_71 : decode cX4_copyFrom 71 = .ok (.putfield 64, 3) := by decide +kernel
theorem dX4_copyFrom_74 : decode cX4_copyFrom 74 = .ok (.aload_n 0, 1) := by decide +kernel
theorem dX4_copyFrom_75 : decode cX4_copyFrom 75 = .ok (.aload_n 1, 1) := by decide +kernel
theorem dX4_copyFrom_76 : decode cX4_copyFrom 76 = .ok (.getfield 68, 3) := by decide +kernel
theorem dX4_copyFrom_79 : decode cX4_copyFrom 79 = .ok (.putfield 68, 3) := by decide +kernel
theorem dX4_copyFrom_82 : decode cX4_copyFrom 82 = .ok (.return_, 1) := by decide +kernel
theorem dX4_table_0 : decode cX4_table 0 = .ok (.iload_n 1, 1) := by decide +kernel
theorem dX4_table_1 : decode cX4_table 1 = .ok (.ifCond .eq 10, 3) := by decide +kernel
theorem dX4_table_4 : decode cX4_table 4 = .ok (.aload_n 0, 1) := by decide +kernel
theorem dX4_table_5 : decode cX4_table 5 = .ok (.getfield 18, 3) := by decide +kernel
theorem dX4_table_8 : decode cX4_table 8 = .ok (.goto 7, 3) := by decide +kernel
theorem dX4_table_11 : decode cX4_table 11 = .ok (.aload_n 0, 1) := by decide +kernel
theorem dX4_table_12 : decode cX4_table 12 = .ok (.getfield 12, 3) := by decide +kernel
theorem dX4_table_15 : decode cX4_table 15 = .ok (.areturn, 1) := by decide +kernel
theorem dX4_answers_0 : decode cX4_answers 0 = .ok (.aload_n 0, 1) := by decide +kernel
theorem dX4_answers_1 : decode cX4_answers 1 = .ok (.getfield 24, 3) := by decide +kernel
theorem dX4_answers_4 : decode cX4_answers 4 = .ok (.areturn, 1) := by decide +kernel
theorem dX4_memo_0 : decode cX4_memo 0 = .ok (.aload_n 0, 1) := by decide +kernel
theorem dX4_memo_1 : decode cX4_memo 1 = .ok (.getfield 31, 3) := by decide +kernel
theorem dX4_memo_4 : decode cX4_memo 4 = .ok (.areturn, 1) := by decide +kernel
theorem dX4_setting_0 : decode cX4_setting 0 = .ok (.iload_n 1, 1) := by decide +kernel
theorem dX4_setting_1 : decode cX4_setting 1 = .ok (.ifCond .lt 21, 3) := by decide +kernel
theorem dX4_setting_4 : decode cX4_setting 4 = .ok (.iload_n 1, 1) := by decide +kernel
theorem dX4_setting_5 : decode cX4_setting 5 = .ok (.aload_n 0, 1) := by decide +kernel
theorem dX4_setting_6 : decode cX4_setting 6 = .ok (.getfield 44, 3) := by decide +kernel
theorem dX4_setting_9 : decode cX4_setting 9 = .ok (.arraylength, 1) := by decide +kernel
theorem dX4_setting_10 : decode cX4_setting 10 = .ok (.if_icmp .ge 12, 3) := by decide +kernel
theorem dX4_setting_13 : decode cX4_setting 13 = .ok (.aload_n 0, 1) := by decide +kernel
theorem dX4_setting_14 : decode cX4_setting 14 = .ok (.getfield 44, 3) := by decide +kernel
theorem dX4_setting_17 : decode cX4_setting 17 = .ok (.iload_n 1, 1) := by decide +kernel
theorem dX4_setting_18 : decode cX4_setting 18 = .ok (.iaload, 1) := by decide +kernel
theorem dX4_setting_19 : decode cX4_setting 19 = .ok (.goto 4, 3) := by decide +kernel
theorem dX4_setting_22 : decode cX4_setting 22 = .ok (.iconst 0, 1) := by decide +kernel
theorem dX4_setting_23 : decode cX4_setting 23 = .ok (.ireturn, 1) := by decide +kernel
theorem dX4_tally_0 : decode cX4_tally 0 = .ok (.iload_n 1, 1) := by decide +kernel
theorem dX4_tally_1 : decode cX4_tally 1 = .ok (.ifCond .lt 21, 3) := by decide +kernel
theorem dX4_tally_4 : decode cX4_tally 4 = .ok (.iload_n 1, 1) := by decide +kernel
theorem dX4_tally_5 : decode cX4_tally 5 = .ok (.aload_n 0, 1) := by decide +kernel
theorem dX4_tally_6 : decode cX4_tally 6 = .ok (.getfield 47, 3) := by decide +kernel
theorem dX4_tally_9 : decode cX4_tally 9 = .ok (.arraylength, 1) := by decide +kernel
theorem dX4_tally_10 : decode cX4_tally 10 = .ok (.if_icmp .ge 12, 3) := by decide +kernel
theorem dX4_tally_13 : decode cX4_tally 13 = .ok (.aload_n 0, 1) := by decide +kernel
theorem dX4_tally_14 : decode cX4_tally 14 = .ok (.getfield 47, 3) := by decide +kernel
theorem dX4_tally_17 : decode cX4_tally 17 = .ok (.iload_n 1, 1) := by decide +kernel
theorem dX4_tally_18 : decode cX4_tally 18 = .ok (.iaload, 1) := by decide +kernel
theorem dX4_tally_19 : decode cX4_tally 19 = .ok (.goto 4, 3) := by decide +kernel
theorem dX4_tally_22 : decode cX4_tally 22 = .ok (.iconst 0, 1) := by decide +kernel
theorem dX4_tally_23 : decode cX4_tally 23 = .ok (.ireturn, 1) := by decide +kernel
theorem dX4_place_0 : decode cX4_place 0 = .ok (.aload_n 0, 1) := by decide +kernel
theorem dX4_place_1 : decode cX4_place 1 = .ok (.getfield 64, 3) := by decide +kernel
theorem dX4_place_4 : decode cX4_place 4 = .ok (.ireturn, 1) := by decide +kernel
theorem dX4_totalSoFar_0 : decode cX4_totalSoFar 0 = .ok (.aload_n 0, 1) := by decide +kernel
theorem dX4_totalSoFar_1 : decode cX4_totalSoFar 1 = .ok (.getfield 68, 3) := by decide +kernel
theorem dX4_totalSoFar_4 : decode cX4_totalSoFar 4 = .ok (.ireturn, 1) := by decide +kernel
theorem dX4_isDone_0 : decode cX4_isDone 0 = .ok (.iload_n 1, 1) := by decide +kernel
theorem dX4_isDone_1 : decode cX4_isDone 1 = .ok (.aload_n 0, 1) := by decide +kernel
theorem dX4_isDone_2 : decode cX4_isDone 2 = .ok (.getfield 64, 3) := by decide +kernel
theorem dX4_isDone_5 : decode cX4_isDone 5 = .ok (.if_icmp .ge 7, 3) := by decide +kernel
theorem dX4_isDone_8 : decode cX4_isDone 8 = .ok (.iconst 1, 1) := by decide +kernel
theorem dX4_isDone_9 : decode cX4_isDone 9 = .ok (.goto 4, 3) := by decide +kernel
theorem dX4_isDone_12 : decode cX4_isDone 12 = .ok (.iconst 0, 1) := by decide +kernel
theorem dX4_isDone_13 : decode cX4_isDone 13 = .ok (.ireturn, 1) := by decide +kernel
set_option maxRecDepth 20000 in
theorem ggX4_isInRememberedAnswer_X5_key : GoodIn wsX4_isInRememberedAnswer wsX5_key := goodIn_r _ [7, 8, 34, 35, 36] (by decide +kernel) (by decide +kernel)
set_option maxRecDepth 20000 in
theorem gX4_isInRememberedAnswer_X5_key : GoodIn wsX4_isInRememberedAnswer (wsV RX4 71 RX5 yX5_key wsX5_key) := goodIn_app (goodIn_of _ (by decide +kernel)) ggX4_isInRememberedAnswer_X5_key
set_option maxRecDepth 20000 in
theorem ggX4_isInRememberedAnswer_X2_holds : GoodIn wsX4_isInRememberedAnswer wsX2_holds := goodIn_r _ [13, 14, 37, 38, 39, 40] (by decide +kernel) (by decide +kernel)
set_option maxRecDepth 20000 in
theorem gX4_isInRememberedAnswer_X2_holds : GoodIn wsX4_isInRememberedAnswer (wsV RX4 75 RX2 yX2_holds wsX2_holds) := goodIn_app (goodIn_of _ (by decide +kernel)) ggX4_isInRememberedAnswer_X2_holds
set_option maxRecDepth 20000 in
theorem ggX4_isInRememberedAnswer_X5_value : GoodIn wsX4_isInRememberedAnswer wsX5_value := goodIn_r _ [18, 19, 34, 35, 36] (by decide +kernel) (by decide +kernel)
set_option maxRecDepth 20000 in
theorem gX4_isInRememberedAnswer_X5_value : GoodIn wsX4_isInRememberedAnswer (wsV RX4 79 RX5 yX5_value wsX5_value) := goodIn_app (goodIn_of _ (by decide +kernel)) ggX4_isInRememberedAnswer_X5_value
set_option maxRecDepth 20000 in
theorem ggX4_isInRememberedAnswer_X4_isInBand : GoodIn wsX4_isInRememberedAnswer wsX4_isInBand := goodIn_r _ [24, 25, 26, 27, 28, 29, 30, 31, 32, 33] (by decide +kernel) (by decide +kernel)
set_option maxRecDepth 20000 in
theorem gX4_isInRememberedAnswer_X4_isInBand : GoodIn wsX4_isInRememberedAnswer (wsV RX4 82 RX4 yX4_isInBand wsX4_isInBand) := goodIn_app (goodIn_of _ (by decide +kernel)) ggX4_isInRememberedAnswer_X4_isInBand
theorem dX4_isInRememberedAnswer_0 : decode cX4_isInRememberedAnswer 0 = .ok (.aload_n 0, 1) := by decide +kernel
theorem dX4_isInRememberedAnswer_1 : decode cX4_isInRememberedAnswer 1 = .ok (.getfield 31, 3) := by decide +kernel
theorem dX4_isInRememberedAnswer_4 : decode cX4_isInRememberedAnswer 4 = .ok (.aload_n 0, 1) := by decide +kernel
theorem dX4_isInRememberedAnswer_5 : decode cX4_isInRememberedAnswer 5 = .ok (.getfield 18, 3) := by decide +kernel
theorem dX4_isInRememberedAnswer_8 : decode cX4_isInRememberedAnswer 8 = .ok (.iload_n 1, 1) := by decide +kernel
theorem dX4_isInRememberedAnswer_9 : decode cX4_isInRememberedAnswer 9 = .ok (.invokevirtual 71, 3) := by decide +kernel
theorem dX4_isInRememberedAnswer_12 : decode cX4_isInRememberedAnswer 12 = .ok (.invokevirtual 75, 3) := by decide +kernel
theorem dX4_isInRememberedAnswer_15 : decode cX4_isInRememberedAnswer 15 = .ok (.ifCond .eq 22, 3) := by decide +kernel
theorem dX4_isInRememberedAnswer_18 : decode cX4_isInRememberedAnswer 18 = .ok (.aload_n 0, 1) := by decide +kernel
theorem dX4_isInRememberedAnswer_19 : decode cX4_isInRememberedAnswer 19 = .ok (.aload_n 0, 1) := by decide +kernel
theorem dX4_isInRememberedAnswer_20 : decode cX4_isInRememberedAnswer 20 = .ok (.getfield 18, 3) := by decide +kernel
theorem dX4_isInRememberedAnswer_23 : decode cX4_isInRememberedAnswer 23 = .ok (.iload_n 1, 1) := by decide +kernel
theorem dX4_isInRememberedAnswer_24 : decode cX4_isInRememberedAnswer 24 = .ok (.invokevirtual 79, 3) := by decide +kernel
theorem dX4_isInRememberedAnswer_27 : decode cX4_isInRememberedAnswer 27 = .ok (.invokevirtual 82, 3) := by decide +kernel
theorem dX4_isInRememberedAnswer_30 : decode cX4_isInRememberedAnswer 30 = .ok (.ifCond .eq 7, 3) := by decide +kernel
theorem dX4_isInRememberedAnswer_33 : decode cX4_isInRememberedAnswer 33 = .ok (.iconst 1, 1) := by decide +kernel
theorem dX4_isInRememberedAnswer_34 : decode cX4_isInRememberedAnswer 34 = .ok (.goto 4, 3) := by decide +kernel
theorem dX4_isInRememberedAnswer_37 : decode cX4_isInRememberedAnswer 37 = .ok (.iconst 0, 1) := by decide +kernel
theorem dX4_isInRememberedAnswer_38 : decode cX4_isInRememberedAnswer 38 = .ok (.ireturn, 1) := by decide +kernel
set_option maxRecDepth 20000 in
theorem ggX4_insertRow_X6_isRow : GoodIn wsX4_insertRow wsX6_isRow := goodIn_r _ [3, 4, 5, 2, 6, 7, 8, 9] (by decide +kernel) (by decide +kernel)
set_option maxRecDepth 20000 in
theorem gX4_insertRow_X6_isRow_n85 : GoodIn wsX4_insertRow (wsX6_isRow) := ggX4_insertRow_X6_isRow
set_option maxRecDepth 20000 in
theorem ggX4_insertRow_X4_table : GoodIn wsX4_insertRow wsX4_table := goodIn_r _ [14, 15, 16, 88, 89, 90, 91, 92, 93, 94, 95] (by decide +kernel) (by decide +kernel)
set_option maxRecDepth 20000 in
theorem gX4_insertRow_X4_table : GoodIn wsX4_insertRow (wsV RX4 89 RX4 yX4_table wsX4_table) := goodIn_app (goodIn_of _ (by decide +kernel)) ggX4_insertRow_X4_table
set_option maxRecDepth 20000 in
theorem ggX4_insertRow_X5_size : GoodIn wsX4_insertRow wsX5_size := goodIn_r _ [21, 22, 96, 97, 98] (by decide +kernel) (by decide +kernel)
set_option maxRecDepth 20000 in
theorem gX4_insertRow_X5_size : GoodIn wsX4_insertRow (wsV RX4 93 RX5 yX5_size wsX5_size) := goodIn_app (goodIn_of _ (by decide +kernel)) ggX4_insertRow_X5_size
set_option maxRecDepth 20000 in
theorem ggX4_insertRow_X5_push : GoodIn wsX4_insertRow wsX5_push := goodIn_r _ [26, 22, 27, 28, 29, 20, 30, 31, 32, 96, 97, 98] (by decide +kernel) (by decide +kernel)
set_option maxRecDepth 20000 in
theorem gX4_insertRow_X5_push : GoodIn wsX4_insertRow (wsV RX4 97 RX5 yX5_push wsX5_push) := goodIn_app (goodIn_of _ (by decide +kernel)) ggX4_insertRow_X5_push
set_option maxRecDepth 20000 in
theorem ggX4_insertRow_X4_keepTrue : GoodIn wsX4_insertRow wsX4_keepTrue := goodIn_r _ [36, 37, 38, 39, 40, 13, 41, 42, 15, 43, 44, 45, 46, 47, 48, 49, 50, 51, 18, 19, 20, 21, 22, 52, 53, 54, 55, 32, 56, 57, 58, 59, 31, 60, 61, 62, 63, 64, 65, 66, 67, 68, 69, 70, 71, 72, 73, 74, 75, 76, 77, 78, 79, 80, 81, 82, 83, 84, 85, 86, 87, 88, 89, 90, 91, 92, 93, 94, 95, 99, 100, 101, 96, 97, 98, 102, 103, 104, 105] (by decide +kernel) (by decide +kernel)
set_option maxRecDepth 20000 in
theorem gX4_insertRow_X4_keepTrue : GoodIn wsX4_insertRow (wsV RX4 101 RX4 yX4_keepTrue wsX4_keepTrue) := goodIn_app (goodIn_of _ (by decide +kernel)) ggX4_insertRow_X4_keepTrue
theorem dX4_insertRow_0 : decode cX4_insertRow 0 = .ok (.iload_n 2, 1) := by decide +kernel
theorem dX4_insertRow_1 : decode cX4_insertRow 1 = .ok (.iload_n 3, 1) := by decide +kernel
theorem dX4_insertRow_2 : decode cX4_insertRow 2 = .ok (.invokestatic 85, 3) := by decide +kernel
theorem dX4_insertRow_5 : decode cX4_insertRow 5 = .ok (.ifCond .ne 5, 3) := by decide +kernel
theorem dX4_insertRow_8 : decode cX4_insertRow 8 = .ok (.iconst (-1), 1) := by decide +kernel
theorem dX4_insertRow_9 : decode cX4_insertRow 9 = .ok (.ireturn, 1) := by decide +kernel
theorem dX4_insertRow_10 : decode cX4_insertRow 10 = .ok (.aload_n 0, 1) := by decide +kernel
theorem dX4_insertRow_11 : decode cX4_insertRow 11 = .ok (.iload_n 1, 1) := by decide +kernel
theorem dX4_insertRow_12 : decode cX4_insertRow 12 = .ok (.invokevirtual 89, 3) := by decide +kernel
theorem dX4_insertRow_15 : decode cX4_insertRow 15 = .ok (.astore 4, 2) := by decide +kernel
theorem dX4_insertRow_17 : decode cX4_insertRow 17 = .ok (.aload 4, 2) := by decide +kernel
theorem dX4_insertRow_19 : decode cX4_insertRow 19 = .ok (.invokevirtual 93, 3) := by decide +kernel
theorem dX4_insertRow_22 : decode cX4_insertRow 22 = .ok (.bipush 20, 2) := by decide +kernel
theorem dX4_insertRow_24 : decode cX4_insertRow 24 = .ok (.if_icmp .lt 6, 3) := by decide +kernel
theorem dX4_insertRow_27 : decode cX4_insertRow 27 = .ok (.bipush (-3), 2) := by decide +kernel
theorem dX4_insertRow_29 : decode cX4_insertRow 29 = .ok (.ireturn, 1) := by decide +kernel
theorem dX4_insertRow_30 : decode cX4_insertRow 30 = .ok (.aload 4, 2) := by decide +kernel
theorem dX4_insertRow_32 : decode cX4_insertRow 32 = .ok (.iload_n 2, 1) := by decide +kernel
theorem dX4_insertRow_33 : decode cX4_insertRow 33 = .ok (.iload_n 3, 1) := by decide +kernel
theorem dX4_insertRow_34 : decode cX4_insertRow 34 = .ok (.invokevirtual 97, 3) := by decide +kernel
theorem dX4_insertRow_37 : decode cX4_insertRow 37 = .ok (.iload_n 1, 1) := by decide +kernel
theorem dX4_insertRow_38 : decode cX4_insertRow 38 = .ok (.ifCond .eq 9, 3) := by decide +kernel
theorem dX4_insertRow_41 : decode cX4_insertRow 41 = .ok (.aload_n 0, 1) := by decide +kernel
theorem dX4_insertRow_42 : decode cX4_insertRow 42 = .ok (.iload_n 2, 1) := by decide +kernel
theorem dX4_insertRow_43 : decode cX4_insertRow 43 = .ok (.iload_n 2, 1) := by decide +kernel
theorem dX4_insertRow_44 : decode cX4_insertRow 44 = .ok (.invokevirtual 101, 3) := by decide +kernel
theorem dX4_insertRow_47 : decode cX4_insertRow 47 = .ok (.aload 4, 2) := by decide +kernel
theorem dX4_insertRow_49 : decode cX4_insertRow 49 = .ok (.invokevirtual 93, 3) := by decide +kernel
theorem dX4_insertRow_52 : decode cX4_insertRow 52 = .ok (.iconst 1, 1) := by decide +kernel
theorem dX4_insertRow_53 : decode cX4_insertRow 53 = .ok (.isub, 1) := by decide +kernel
theorem dX4_insertRow_54 : decode cX4_insertRow 54 = .ok (.ireturn, 1) := by decide +kernel
set_option maxRecDepth 20000 in
theorem ggX4_removeRow_X4_table : GoodIn wsX4_removeRow wsX4_table := goodIn_r _ [6, 7, 8, 92, 93, 94, 95, 96, 97, 98, 99] (by decide +kernel) (by decide +kernel)
set_option maxRecDepth 20000 in
theorem gX4_removeRow_X4_table : GoodIn wsX4_removeRow (wsV RX4 89 RX4 yX4_table wsX4_table) := goodIn_app (goodIn_of _ (by decide +kernel)) ggX4_removeRow_X4_table
set_option maxRecDepth 20000 in
theorem ggX4_removeRow_X5_has : GoodIn wsX4_removeRow wsX5_has := goodIn_r _ [13, 14, 100, 101, 102] (by decide +kernel) (by decide +kernel)
set_option maxRecDepth 20000 in
theorem gX4_removeRow_X5_has : GoodIn wsX4_removeRow (wsV RX4 104 RX5 yX5_has wsX5_has) := goodIn_app (goodIn_of _ (by decide +kernel)) ggX4_removeRow_X5_has
set_option maxRecDepth 20000 in
theorem ggX4_removeRow_X5_key : GoodIn wsX4_removeRow wsX5_key := goodIn_r _ [18, 19, 100, 101, 102] (by decide +kernel) (by decide +kernel)
set_option maxRecDepth 20000 in
theorem gX4_removeRow_X5_key : GoodIn wsX4_removeRow (wsV RX4 71 RX5 yX5_key wsX5_key) := goodIn_app (goodIn_of _ (by decide +kernel)) ggX4_removeRow_X5_key
set_option maxRecDepth 20000 in
theorem ggX4_removeRow_X5_takeOut : GoodIn wsX4_removeRow wsX5_takeOut := goodIn_r _ [23, 14, 24, 10, 11, 12, 13, 25, 16, 17, 18, 19, 26, 27, 28, 29, 30, 31, 32, 33, 34, 100, 101, 102] (by decide +kernel) (by decide +kernel)
set_option maxRecDepth 20000 in
theorem gX4_removeRow_X5_takeOut : GoodIn wsX4_removeRow (wsV RX4 107 RX5 yX5_takeOut wsX5_takeOut) := goodIn_app (goodIn_of _ (by decide +kernel)) ggX4_removeRow_X5_takeOut
set_option maxRecDepth 20000 in
theorem ggX4_removeRow_X4_keepTrue : GoodIn wsX4_removeRow wsX4_keepTrue := goodIn_r _ [38, 39, 40, 41, 42, 5, 43, 44, 7, 45, 46, 47, 48, 49, 50, 51, 52, 53, 54, 55, 12, 56, 14, 57, 27, 28, 29, 30, 58, 16, 17, 18, 19, 59, 60, 61, 62, 63, 64, 65, 66, 67, 68, 69, 70, 71, 72, 73, 74, 75, 76, 77, 78, 79, 80, 81, 82, 83, 84, 85, 86, 92, 93, 94, 95, 96, 97, 98, 99, 103, 104, 105, 100, 101, 102, 106, 107, 108, 109] (by decide +kernel) (by decide +kernel)
set_option maxRecDepth 20000 in
theorem gX4_removeRow_X4_keepTrue : GoodIn wsX4_removeRow (wsV RX4 101 RX4 yX4_keepTrue wsX4_keepTrue) := goodIn_app (goodIn_of _ (by decide +kernel)) ggX4_removeRow_X4_keepTrue
set_option maxRecDepth 20000 in
theorem ggX4_removeRow_X4_isDone : GoodIn wsX4_removeRow wsX4_isDone := goodIn_r _ [90, 1, 92, 93, 94, 95, 96, 97, 98, 99] (by decide +kernel) (by decide +kernel)
set_option maxRecDepth 20000 in
theorem gX4_removeRow_X4_isDone : GoodIn wsX4_removeRow (wsV RX4 111 RX4 yX4_isDone wsX4_isDone) := goodIn_app (goodIn_of _ (by decide +kernel)) ggX4_removeRow_X4_isDone
set_option maxRecDepth 20000 in
theorem ggX4_removeRow_X5_size : GoodIn wsX4_removeRow wsX5_size := goodIn_r _ [56, 14, 100, 101, 102] (by decide +kernel) (by decide +kernel)
set_option maxRecDepth 20000 in
theorem gX4_removeRow_X5_size : GoodIn wsX4_removeRow (wsV RX4 93 RX5 yX5_size wsX5_size) := goodIn_app (goodIn_of _ (by decide +kernel)) ggX4_removeRow_X5_size
theorem dX4_removeRow_0 : decode cX4_removeRow 0 = .ok (.aload_n 0, 1) := by decide +kernel
theorem dX4_removeRow_1 : decode cX4_removeRow 1 = .ok (.iload_n 1, 1) := by decide +kernel
theorem dX4_removeRow_2 : decode cX4_removeRow 2 = .ok (.invokevirtual 89, 3) := by decide +kernel
theorem dX4_removeRow_5 : decode cX4_removeRow 5 = .ok (.astore_n 3, 1) := by decide +kernel
theorem dX4_removeRow_6 : decode cX4_removeRow 6 = .ok (.aload_n 3, 1) := by decide +kernel
theorem dX4_removeRow_7 : decode cX4_removeRow 7 = .ok (.iload_n 2, 1) := by decide +kernel
theorem dX4_removeRow_8 : decode cX4_removeRow 8 = .ok (.invokevirtual 104, 3) := by decide +kernel
theorem dX4_removeRow_11 : decode cX4_removeRow 11 = .ok (.ifCond .ne 5, 3) := by decide +kernel
theorem dX4_removeRow_14 : decode cX4_removeRow 14 = .ok (.iconst (-1), 1) := by decide +kernel
theorem dX4_removeRow_15 : decode cX4_removeRow 15 = .ok (.ireturn, 1) := by decide +kernel
theorem dX4_removeRow_16 : decode cX4_removeRow 16 = .ok (.aload_n 3, 1) := by decide +kernel
theorem dX4_removeRow_17 : decode cX4_removeRow 17 = .ok (.iload_n 2, 1) := by decide +kernel
theorem dX4_removeRow_18 : decode cX4_removeRow 18 = .ok (.invokevirtual 71, 3) := by decide +kernel
theorem dX4_removeRow_21 : decode cX4_removeRow 21 = .ok (.istore 4, 2) := by decide +kernel
theorem dX4_removeRow_23 : decode cX4_removeRow 23 = .ok (.aload_n 3, 1) := by decide +kernel
theorem dX4_removeRow_24 : decode cX4_removeRow 24 = .ok (.iload_n 2, 1) := by decide +kernel
theorem dX4_removeRow_25 : decode cX4_removeRow 25 = .ok (.invokevirtual 107, 3) := by decide +kernel
theorem dX4_removeRow_28 : decode cX4_removeRow 28 = .ok (.iload_n 1, 1) := by decide +kernel
theorem dX4_removeRow_29 : decode cX4_removeRow 29 = .ok (.ifCond .eq 14, 3) := by decide +kernel
theorem dX4_removeRow_32 : decode cX4_removeRow 32 = .ok (.aload_n 0, 1) := by decide +kernel
theorem dX4_removeRow_33 : decode cX4_removeRow 33 = .ok (.iload 4, 2) := by decide +kernel
theorem dX4_removeRow_35 : decode cX4_removeRow 35 = .ok (.iload 4, 2) := by decide +kernel
theorem dX4_removeRow_37 : decode cX4_removeRow 37 = .ok (.invokevirtual 101, 3) := by decide +kernel
theorem dX4_removeRow_40 : decode cX4_removeRow 40 = .ok (.goto 21, 3) := by decide +kernel
theorem dX4_removeRow_43 : decode cX4_removeRow 43 = .ok (.aload_n 0, 1) := by decide +kernel
theorem dX4_removeRow_44 : decode cX4_removeRow 44 = .ok (.iload_n 2, 1) := by decide +kernel
theorem dX4_removeRow_45 : decode cX4_removeRow 45 = .ok (.invokevirtual 111, 3) := by decide +kernel
theorem dX4_removeRow_48 : decode cX4_removeRow 48 = .ok (.ifCond .eq 13, 3) := by decide +kernel
theorem dX4_removeRow_51 : decode cX4_removeRow 51 = .ok (.aload_n 0, 1) := by decide +kernel
theorem dX4_removeRow_52 : decode cX4_removeRow 52 = .ok (.dup, 1) := by decide +kernel
theorem dX4_removeRow_53 : decode cX4_removeRow 53 = .ok (.getfield 64, 3) := by decide +kernel
theorem dX4_removeRow_56 : decode cX4_removeRow 56 = .ok (.iconst 1, 1) := by decide +kernel
theorem dX4_removeRow_57 : decode cX4_removeRow 57 = .ok (.isub, 1) := by decide +kernel
theorem dX4_removeRow_58 : decode cX4_removeRow 58 = .ok (.putfield 64, 3) := by decide +kernel
theorem dX4_removeRow_61 : decode cX4_removeRow 61 = .ok (.aload_n 3, 1) := by decide +kernel
theorem dX4_removeRow_62 : decode cX4_removeRow 62 = .ok (.invokevirtual 93, 3) := by decide +kernel
theorem dX4_removeRow_65 : decode cX4_removeRow 65 = .ok (.ireturn, 1) := by decide +kernel
set_option maxRecDepth 20000 in
theorem ggX4_rewriteRow_X5_has : GoodIn wsX4_rewriteRow wsX5_has := goodIn_r _ [7, 8, 92, 93, 94] (by decide +kernel) (by decide +kernel)
set_option maxRecDepth 20000 in
theorem gX4_rewriteRow_X5_has : GoodIn wsX4_rewriteRow (wsV RX4 104 RX5 yX5_has wsX5_has) := goodIn_app (goodIn_of _ (by decide +kernel)) ggX4_rewriteRow_X5_has
set_option maxRecDepth 20000 in
theorem ggX4_rewriteRow_X6_isRow : GoodIn wsX4_rewriteRow wsX6_isRow := goodIn_r _ [11, 12, 13, 10, 14, 15, 16, 17] (by decide +kernel) (by decide +kernel)
set_option maxRecDepth 20000 in
theorem gX4_rewriteRow_X6_isRow_n85 : GoodIn wsX4_rewriteRow (wsX6_isRow) := ggX4_rewriteRow_X6_isRow
set_option maxRecDepth 20000 in
theorem ggX4_rewriteRow_X5_key : GoodIn wsX4_rewriteRow wsX5_key := goodIn_r _ [21, 22, 92, 93, 94] (by decide +kernel) (by decide +kernel)
set_option maxRecDepth 20000 in
theorem gX4_rewriteRow_X5_key : GoodIn wsX4_rewriteRow (wsV RX4 71 RX5 yX5_key wsX5_key) := goodIn_app (goodIn_of _ (by decide +kernel)) ggX4_rewriteRow_X5_key
set_option maxRecDepth 20000 in
theorem ggX4_rewriteRow_X5_put : GoodIn wsX4_rewriteRow wsX5_put := goodIn_r _ [26, 22, 27, 92, 93, 94] (by decide +kernel) (by decide +kernel)
set_option maxRecDepth 20000 in
theorem gX4_rewriteRow_X5_put : GoodIn wsX4_rewriteRow (wsV RX4 114 RX5 yX5_put wsX5_put) := goodIn_app (goodIn_of _ (by decide +kernel)) ggX4_rewriteRow_X5_put
set_option maxRecDepth 20000 in
theorem ggX4_rewriteRow_X4_keepTrue : GoodIn wsX4_rewriteRow wsX4_keepTrue := goodIn_r _ [32, 33, 34, 35, 36, 31, 37, 38, 1, 39, 40, 41, 42, 43, 44, 45, 46, 47, 48, 49, 6, 50, 8, 51, 52, 53, 54, 27, 55, 19, 20, 21, 22, 56, 57, 58, 59, 2, 60, 61, 62, 63, 64, 65, 66, 67, 68, 69, 70, 71, 72, 73, 74, 75, 76, 77, 78, 79, 80, 81, 82, 84, 85, 86, 87, 88, 89, 90, 91, 95, 96, 97, 92, 93, 94, 98, 99, 100, 101] (by decide +kernel) (by decide +kernel)
set_option maxRecDepth 20000 in
theorem gX4_rewriteRow_X4_keepTrue : GoodIn wsX4_rewriteRow (wsV RX4 101 RX4 yX4_keepTrue wsX4_keepTrue) := goodIn_app (goodIn_of _ (by decide +kernel)) ggX4_rewriteRow_X4_keepTrue
set_option maxRecDepth 20000 in
theorem ggX4_rewriteRow_X2_size : GoodIn wsX4_rewriteRow wsX2_size := goodIn_r _ [70, 66, 98, 99, 100, 101] (by decide +kernel) (by decide +kernel)
set_option maxRecDepth 20000 in
theorem gX4_rewriteRow_X2_size : GoodIn wsX4_rewriteRow (wsV RX4 118 RX2 yX2_size wsX2_size) := goodIn_app (goodIn_of _ (by decide +kernel)) ggX4_rewriteRow_X2_size
theorem dX4_rewriteRow_0 : decode cX4_rewriteRow 0 = .ok (.aload_n 0, 1) := by decide +kernel
theorem dX4_rewriteRow_1 : decode cX4_rewriteRow 1 = .ok (.getfield 18, 3) := by decide +kernel
theorem dX4_rewriteRow_4 : decode cX4_rewriteRow 4 = .ok (.iload_n 1, 1) := by decide +kernel
theorem dX4_rewriteRow_5 : decode cX4_rewriteRow 5 = .ok (.invokevirtual 104, 3) := by decide +kernel
theorem dX4_rewriteRow_8 : decode cX4_rewriteRow 8 = .ok (.ifCond .eq 11, 3) := by decide +kernel
theorem dX4_rewriteRow_11 : decode cX4_rewriteRow 11 = .ok (.iload_n 2, 1) := by decide +kernel
theorem dX4_rewriteRow_12 : decode cX4_rewriteRow 12 = .ok (.iload_n 3, 1) := by decide +kernel
theorem dX4_rewriteRow_13 : decode cX4_rewriteRow 13 = .ok (.invokestatic 85, 3) := by decide +kernel
theorem dX4_rewriteRow_16 : decode cX4_rewriteRow 16 = .ok (.ifCond .ne 5, 3) := by decide +kernel
theorem dX4_rewriteRow_19 : decode cX4_rewriteRow 19 = .ok (.iconst (-1), 1) := by decide +kernel
theorem dX4_rewriteRow_20 : decode cX4_rewriteRow 20 = .ok (.ireturn, 1) := by decide +kernel
theorem dX4_rewriteRow_21 : decode cX4_rewriteRow 21 = .ok (.aload_n 0, 1) := by decide +kernel
theorem dX4_rewriteRow_22 : decode cX4_rewriteRow 22 = .ok (.getfield 18, 3) := by decide +kernel
theorem dX4_rewriteRow_25 : decode cX4_rewriteRow 25 = .ok (.iload_n 1, 1) := by decide +kernel
theorem dX4_rewriteRow_26 : decode cX4_rewriteRow 26 = .ok (.invokevirtual 71, 3) := by decide +kernel
theorem dX4_rewriteRow_29 : decode cX4_rewriteRow 29 = .ok (.istore 4, 2) := by decide +kernel
theorem dX4_rewriteRow_31 : decode cX4_rewriteRow 31 = .ok (.aload_n 0, 1) := by decide +kernel
theorem dX4_rewriteRow_32 : decode cX4_rewriteRow 32 = .ok (.getfield 18, 3) := by decide +kernel
theorem dX4_rewriteRow_35 : decode cX4_rewriteRow 35 = .ok (.iload_n 1, 1) := by decide +kernel
theorem dX4_rewriteRow_36 : decode cX4_rewriteRow 36 = .ok (.iload_n 2, 1) := by decide +kernel
theorem dX4_rewriteRow_37 : decode cX4_rewriteRow 37 = .ok (.iload_n 3, 1) := by decide +kernel
theorem dX4_rewriteRow_38 : decode cX4_rewriteRow 38 = .ok (.invokevirtual 114, 3) := by decide +kernel
theorem dX4_rewriteRow_41 : decode cX4_rewriteRow 41 = .ok (.aload_n 0, 1) := by decide +kernel
theorem dX4_rewriteRow_42 : decode cX4_rewriteRow 42 = .ok (.iload 4, 2) := by decide +kernel
theorem dX4_rewriteRow_44 : decode cX4_rewriteRow 44 = .ok (.iload_n 2, 1) := by decide +kernel
theorem dX4_rewriteRow_45 : decode cX4_rewriteRow 45 = .ok (.invokevirtual 101, 3) := by decide +kernel
theorem dX4_rewriteRow_48 : decode cX4_rewriteRow 48 = .ok (.aload_n 0, 1) := by decide +kernel
theorem dX4_rewriteRow_49 : decode cX4_rewriteRow 49 = .ok (.getfield 31, 3) := by decide +kernel
theorem dX4_rewriteRow_52 : decode cX4_rewriteRow 52 = .ok (.invokevirtual 118, 3) := by decide +kernel
theorem dX4_rewriteRow_55 : decode cX4_rewriteRow 55 = .ok (.ireturn, 1) := by decide +kernel
set_option maxRecDepth 20000 in
theorem ggX4_walk_X5_size : GoodIn wsX4_walk wsX5_size := goodIn_r _ [10, 11, 86, 87, 88] (by decide +kernel) (by decide +kernel)
set_option maxRecDepth 20000 in
theorem gX4_walk_X5_size : GoodIn wsX4_walk (wsV RX4 93 RX5 yX5_size wsX5_size) := goodIn_app (goodIn_of _ (by decide +kernel)) ggX4_walk_X5_size
set_option maxRecDepth 20000 in
theorem ggX4_walk_X5_key : GoodIn wsX4_walk wsX5_key := goodIn_r _ [15, 16, 86, 87, 88] (by decide +kernel) (by decide +kernel)
set_option maxRecDepth 20000 in
theorem gX4_walk_X5_key : GoodIn wsX4_walk (wsV RX4 71 RX5 yX5_key wsX5_key) := goodIn_app (goodIn_of _ (by decide +kernel)) ggX4_walk_X5_key
set_option maxRecDepth 20000 in
theorem ggX4_walk_X4_lookUp : GoodIn wsX4_walk wsX4_lookUp := goodIn_r _ [21, 22, 3, 23, 5, 24, 25, 26, 27, 28, 29, 30, 31, 32, 33, 34, 35, 36, 6, 7, 8, 9, 10, 11, 37, 38, 39, 40, 41, 42, 43, 44, 45, 46, 47, 48, 49, 50, 20, 51, 52, 53, 54, 55, 56, 57, 58, 59, 60, 61, 62, 63, 64, 65, 66, 67, 78, 79, 80, 81, 82, 83, 84, 85, 89, 90, 91, 92, 86, 87, 88, 93, 94, 95] (by decide +kernel) (by decide +kernel)
set_option maxRecDepth 20000 in
theorem gX4_walk_X4_lookUp : GoodIn wsX4_walk (wsV RX4 119 RX4 yX4_lookUp wsX4_lookUp) := goodIn_app (goodIn_of _ (by decide +kernel)) ggX4_walk_X4_lookUp
set_option maxRecDepth 20000 in
theorem ggX4_walk_X5_value : GoodIn wsX4_walk wsX5_value := goodIn_r _ [71, 72, 86, 87, 88] (by decide +kernel) (by decide +kernel)
set_option maxRecDepth 20000 in
theorem gX4_walk_X5_value : GoodIn wsX4_walk (wsV RX4 79 RX5 yX5_value wsX5_value) := goodIn_app (goodIn_of _ (by decide +kernel)) ggX4_walk_X5_value
set_option maxRecDepth 20000 in
theorem ggX4_walk_X0_sum : GoodIn wsX4_walk wsX0_sum := goodIn_r _ [76, 77, 93, 94, 95] (by decide +kernel) (by decide +kernel)
set_option maxRecDepth 20000 in
theorem gX4_walk_X0_sum : GoodIn wsX4_walk (wsV RX4 122 RX0 yX0_sum wsX0_sum) := goodIn_app (goodIn_of _ (by decide +kernel)) ggX4_walk_X0_sum
theorem dX4_walk_0 : decode cX4_walk 0 = .ok (.iload_n 1, 1) := by decide +kernel
theorem dX4_walk_1 : decode cX4_walk 1 = .ok (.iconst 1, 1) := by decide +kernel
theorem dX4_walk_2 : decode cX4_walk 2 = .ok (.if_icmp .lt 9, 3) := by decide +kernel
theorem dX4_walk_5 : decode cX4_walk 5 = .ok (.iload_n 1, 1) := by decide +kernel
theorem dX4_walk_6 : decode cX4_walk 6 = .ok (.bipush 20, 2) := by decide +kernel
theorem dX4_walk_8 : decode cX4_walk 8 = .ok (.if_icmp .le 5, 3) := by decide +kernel
theorem dX4_walk_11 : decode cX4_walk 11 = .ok (.iconst (-1), 1) := by decide +kernel
theorem dX4_walk_12 : decode cX4_walk 12 = .ok (.ireturn, 1) := by decide +kernel
theorem dX4_walk_13 : decode cX4_walk 13 = .ok (.aload_n 0, 1) := by decide +kernel
theorem dX4_walk_14 : decode cX4_walk 14 = .ok (.getfield 64, 3) := by decide +kernel
theorem dX4_walk_17 : decode cX4_walk 17 = .ok (.aload_n 0, 1) := by decide +kernel
theorem dX4_walk_18 : decode cX4_walk 18 = .ok (.getfield 12, 3) := by decide +kernel
theorem dX4_walk_21 : decode cX4_walk 21 = .ok (.invokevirtual 93, 3) := by decide +kernel
theorem dX4_walk_24 : decode cX4_walk 24 = .ok (.if_icmp .lt 6, 3) := by decide +kernel
theorem dX4_walk_27 : decode cX4_walk 27 = .ok (.bipush (-2), 2) := by decide +kernel
theorem dX4_walk_29 : decode cX4_walk 29 = .ok (.ireturn, 1) := by decide +kernel
theorem dX4_walk_30 : decode cX4_walk 30 = .ok (.aload_n 0, 1) := by decide +kernel
theorem dX4_walk_31 : decode cX4_walk 31 = .ok (.getfield 47, 3) := by decide +kernel
theorem dX4_walk_34 : decode cX4_walk 34 = .ok (.iconst 2, 1) := by decide +kernel
theorem dX4_walk_35 : decode cX4_walk 35 = .ok (.iaload, 1) := by decide +kernel
theorem dX4_walk_36 : decode cX4_walk 36 = .ok (.istore_n 2, 1) := by decide +kernel
theorem dX4_walk_37 : decode cX4_walk 37 = .ok (.iconst 0, 1) := by decide +kernel
theorem dX4_walk_38 : decode cX4_walk 38 = .ok (.istore_n 3, 1) := by decide +kernel
theorem dX4_walk_39 : decode cX4_walk 39 = .ok (.iload_n 3, 1) := by decide +kernel
theorem dX4_walk_40 : decode cX4_walk 40 = .ok (.iload_n 1, 1) := by decide +kernel
theorem dX4_walk_41 : decode cX4_walk 41 = .ok (.if_icmp .ge 82, 3) := by decide +kernel
theorem dX4_walk_44 : decode cX4_walk 44 = .ok (.aload_n 0, 1) := by decide +kernel
theorem dX4_walk_45 : decode cX4_walk 45 = .ok (.getfield 64, 3) := by decide +kernel
theorem dX4_walk_48 : decode cX4_walk 48 = .ok (.aload_n 0, 1) := by decide +kernel
theorem dX4_walk_49 : decode cX4_walk 49 = .ok (.getfield 12, 3) := by decide +kernel
theorem dX4_walk_52 : decode cX4_walk 52 = .ok (.invokevirtual 93, 3) := by decide +kernel
theorem dX4_walk_55 : decode cX4_walk 55 = .ok (.if_icmp .ge 68, 3) := by decide +kernel
theorem dX4_walk_58 : decode cX4_walk 58 = .ok (.aload_n 0, 1) := by decide +kernel
theorem dX4_walk_59 : decode cX4_walk 59 = .ok (.getfield 12, 3) := by decide +kernel
theorem dX4_walk_62 : decode cX4_walk 62 = .ok (.aload_n 0, 1) := by decide +kernel
theorem dX4_walk_63 : decode cX4_walk 63 = .ok (.getfield 64, 3) := by decide +kernel
theorem dX4_walk_66 : decode cX4_walk 66 = .ok (.invokevirtual 71, 3) := by decide +kernel
theorem dX4_walk_69 : decode cX4_walk 69 = .ok (.istore 4, 2) := by decide +kernel
theorem dX4_walk_71 : decode cX4_walk 71 = .ok (.aload_n 0, 1) := by decide +kernel
theorem dX4_walk_72 : decode cX4_walk 72 = .ok (.iload 4, 2) := by decide +kernel
theorem dX4_walk_74 : decode cX4_walk 74 = .ok (.invokevirtual 119, 3) := by decide +kernel
theorem dX4_walk_77 : decode cX4_walk 77 = .ok (.aload_n 0, 1) := by decide +kernel
theorem dX4_walk_78 : decode cX4_walk 78 = .ok (.dup, 1) := by decide +kernel
theorem dX4_walk_79 : decode cX4_walk 79 = .ok (.getfield 68, 3) := by decide +kernel
theorem dX4_walk_82 : decode cX4_walk 82 = .ok (.aload_n 0, 1) := by decide +kernel
theorem dX4_walk_83 : decode cX4_walk 83 = .ok (.getfield 12, 3) := by decide +kernel
theorem dX4_walk_86 : decode cX4_walk 86 = .ok (.aload_n 0, 1) := by decide +kernel
theorem dX4_walk_87 : decode cX4_walk 87 = .ok (.getfield 64, 3) := by decide +kernel
theorem dX4_walk_90 : decode cX4_walk 90 = .ok (.invokevirtual 79, 3) := by decide +kernel
theorem dX4_walk_93 : decode cX4_walk 93 = .ok (.aload_n 0, 1) := by decide +kernel
theorem dX4_walk_94 : decode cX4_walk 94 = .ok (.getfield 24, 3) := by decide +kernel
theorem dX4_walk_97 : decode cX4_walk 97 = .ok (.iload 4, 2) := by decide +kernel
theorem dX4_walk_99 : decode cX4_walk 99 = .ok (.invokevirtual 122, 3) := by decide +kernel
theorem dX4_walk_102 : decode cX4_walk 102 = .ok (.imul, 1) := by decide +kernel
theorem dX4_walk_103 : decode cX4_walk 103 = .ok (.iadd, 1) := by decide +kernel
theorem dX4_walk_104 : decode cX4_walk 104 = .ok (.putfield 68, 3) := by decide +kernel
theorem dX4_walk_107 : decode cX4_walk 107 = .ok (.aload_n 0, 1) := by decide +kernel
theorem dX4_walk_108 : decode cX4_walk 108 = .ok (.dup, 1) := by decide +kernel
theorem dX4_walk_109 : decode cX4_walk 109 = .ok (.getfield 64, 3) := by decide +kernel
theorem dX4_walk_112 : decode cX4_walk 112 = .ok (.iconst 1, 1) := by decide +kernel
theorem dX4_walk_113 : decode cX4_walk 113 = .ok (.iadd, 1) := by decide +kernel
theorem dX4_walk_114 : decode cX4_walk 114 = .ok (.putfield 64, 3) := by decide +kernel
theorem dX4_walk_117 : decode cX4_walk 117 = .ok (.iinc 3 1, 3) := by decide +kernel
theorem dX4_walk_120 : decode cX4_walk 120 = .ok (.goto (-81), 3) := by decide +kernel
theorem dX4_walk_123 : decode cX4_walk 123 = .ok (.aload_n 0, 1) := by decide +kernel
theorem dX4_walk_124 : decode cX4_walk 124 = .ok (.getfield 47, 3) := by decide +kernel
theorem dX4_walk_127 : decode cX4_walk 127 = .ok (.iconst 2, 1) := by decide +kernel
theorem dX4_walk_128 : decode cX4_walk 128 = .ok (.iaload, 1) := by decide +kernel
theorem dX4_walk_129 : decode cX4_walk 129 = .ok (.iload_n 2, 1) := by decide +kernel
theorem dX4_walk_130 : decode cX4_walk 130 = .ok (.isub, 1) := by decide +kernel
theorem dX4_walk_131 : decode cX4_walk 131 = .ok (.ireturn, 1) := by decide +kernel
theorem dX4_beginAgain_0 : decode cX4_beginAgain 0 = .ok (.aload_n 0, 1) := by decide +kernel
theorem dX4_beginAgain_1 : decode cX4_beginAgain 1 = .ok (.getfield 68, 3) := by decide +kernel
theorem dX4_beginAgain_4 : decode cX4_beginAgain 4 = .ok (.istore_n 1, 1) := by decide +kernel
theorem dX4_beginAgain_5 : decode cX4_beginAgain 5 = .ok (.aload_n 0, 1) := by decide +kernel
theorem dX4_beginAgain_6 : decode cX4_beginAgain 6 = .ok (.iconst 0, 1) := by decide +kernel
theorem dX4_beginAgain_7 : decode cX4_beginAgain 7 = .ok (.putfield 64, 3) := by decide +kernel
theorem dX4_beginAgain_10 : decode cX4_beginAgain 10 = .ok (.aload_n 0, 1) := by decide +kernel
theorem dX4_beginAgain_11 : decode cX4_beginAgain 11 = .ok (.iconst 0, 1) := by decide +kernel
theorem dX4_beginAgain_12 : decode cX4_beginAgain 12 = .ok (.putfield 68, 3) := by decide +kernel
theorem dX4_beginAgain_15 : decode cX4_beginAgain 15 = .ok (.iload_n 1, 1) := by decide +kernel
theorem dX4_beginAgain_16 : decode cX4_beginAgain 16 = .ok (.ireturn, 1) := by decide +kernel
set_option maxRecDepth 20000 in
theorem ggX4_throwAllOut_X2_loseAll : GoodIn wsX4_throwAllOut wsX2_loseAll := goodIn_r _ [7, 8, 9, 10, 11, 6, 12, 21, 22, 23, 24] (by decide +kernel) (by decide +kernel)
set_option maxRecDepth 20000 in
theorem gX4_throwAllOut_X2_loseAll : GoodIn wsX4_throwAllOut (wsV RX4 125 RX2 yX2_loseAll wsX2_loseAll) := goodIn_app (goodIn_of _ (by decide +kernel)) ggX4_throwAllOut_X2_loseAll
theorem dX4_throwAllOut_0 : decode cX4_throwAllOut 0 = .ok (.aload_n 0, 1) := by decide +kernel
theorem dX4_throwAllOut_1 : decode cX4_throwAllOut 1 = .ok (.getfield 31, 3) := by decide +kernel
theorem dX4_throwAllOut_4 : decode cX4_throwAllOut 4 = .ok (.invokevirtual 125, 3) := by decide +kernel
theorem dX4_throwAllOut_7 : decode cX4_throwAllOut 7 = .ok (.istore_n 1, 1) := by decide +kernel
theorem dX4_throwAllOut_8 : decode cX4_throwAllOut 8 = .ok (.aload_n 0, 1) := by decide +kernel
theorem dX4_throwAllOut_9 : decode cX4_throwAllOut 9 = .ok (.getfield 47, 3) := by decide +kernel
theorem dX4_throwAllOut_12 : decode cX4_throwAllOut 12 = .ok (.iconst 4, 1) := by decide +kernel
theorem dX4_throwAllOut_13 : decode cX4_throwAllOut 13 = .ok (.dup2, 1) := by decide +kernel
theorem dX4_throwAllOut_14 : decode cX4_throwAllOut 14 = .ok (.iaload, 1) := by decide +kernel
theorem dX4_throwAllOut_15 : decode cX4_throwAllOut 15 = .ok (.iload_n 1, 1) := by decide +kernel
theorem dX4_throwAllOut_16 : decode cX4_throwAllOut 16 = .ok (.iadd, 1) := by decide +kernel
theorem dX4_throwAllOut_17 : decode cX4_throwAllOut 17 = .ok (.iastore, 1) := by decide +kernel
theorem dX4_throwAllOut_18 : decode cX4_throwAllOut 18 = .ok (.iload_n 1, 1) := by decide +kernel
theorem dX4_throwAllOut_19 : decode cX4_throwAllOut 19 = .ok (.ireturn, 1) := by decide +kernel
set_option maxRecDepth 20000 in
theorem ggX4_adjust_X4_makeRoom : GoodIn wsX4_adjust wsX4_makeRoom := goodIn_r _ [7, 2, 8, 9, 10, 11, 12, 13, 6, 14, 15, 16, 17, 18, 19, 20, 21, 22, 23, 24, 25, 26, 27, 28, 29, 30, 31, 32, 33, 34, 35, 36, 37, 38, 39, 40, 80, 81, 82, 83, 84, 85, 86, 87, 88, 89, 90, 91, 92, 93, 94] (by decide +kernel) (by decide +kernel)
set_option maxRecDepth 20000 in
theorem gX4_adjust_X4_makeRoom : GoodIn wsX4_adjust (wsV RX4 131 RX4 yX4_makeRoom wsX4_makeRoom) := goodIn_app (goodIn_of _ (by decide +kernel)) ggX4_adjust_X4_makeRoom
