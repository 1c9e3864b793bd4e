def wsL_areRows_r4 : List Cond := [Cond.fieldLink RX0 9 "LoopMemo$Answers" "rows" "[I", Cond.fieldLink RX0 15 "LoopMemo$Answers" "sums" "[I", Cond.fieldLink RX0 18 "LoopMemo$Answers" "firstRows" "[I", Cond.methodLink RX0 38 yX0_weight, Cond.instanceMethod yX0_weight, Cond.selects RX0 yX0_weight yX0_weight, Cond.code yX0_weight cX0_weight 2 (some .int), Cond.methodLink RL 56 yX6_remembered, Cond.instanceMethod yX6_remembered, Cond.selects RX6 yX6_remembered yX6_remembered, Cond.code yX6_remembered cX6_remembered 3 (some .int), Cond.methodLink RX6 159 yX4_memo, Cond.instanceMethod yX4_memo, Cond.selects RX4 yX4_memo yX4_memo, Cond.code yX4_memo cX4_memo 1 (some (.object "LoopMemo$Memo")), Cond.methodLink RX6 163 yX2_holds, Cond.methodLink RX6 168 yX2_uses, Cond.instanceMethod yX2_uses, Cond.selects RX2 yX2_uses yX2_uses, Cond.code yX2_uses cX2_uses 2 (some .int), Cond.methodLink RX6 171 yX4_setting, Cond.instanceMethod yX4_setting, Cond.selects RX4 yX4_setting yX4_setting, Cond.code yX4_setting cX4_setting 2 (some .int)]
def wsL_areRows_r5 : List Cond := [Cond.methodLink RX6 174 yX2_placeOf, Cond.instanceMethod yX2_placeOf, Cond.selects RX2 yX2_placeOf yX2_placeOf, Cond.code yX2_placeOf cX2_placeOf 5 (some .int), Cond.methodLink RX2 33 yX2_rank, Cond.instanceMethod yX2_rank, Cond.selects RX2 yX2_rank yX2_rank, Cond.code yX2_rank cX2_rank 3 (some .long), Cond.fieldLink RX2 18 "LoopMemo$Memo" "firstLooks" "[I", Cond.fieldLink RX2 15 "LoopMemo$Memo" "lastLooks" "[I", Cond.methodLink RL 31 yL_has, Cond.static yL_has, Cond.initialized RL, Cond.code yL_has cL_has 4 (some .boolean), Cond.methodLink RL 15 yL_weight, Cond.static yL_weight, Cond.code yL_weight cL_weight 7 (some .int), Cond.methodLink RL 67 yX6_total, Cond.instanceMethod yX6_total, Cond.selects RX6 yX6_total yX6_total, Cond.code yX6_total cX6_total 2 (some .int), Cond.methodLink RX6 192 yX4_totalByAnswers, Cond.instanceMethod yX4_totalByAnswers, Cond.selects RX4 yX4_totalByAnswers yX4_totalByAnswers]
def wsL_areRows_r6 : List Cond := [Cond.code yX4_totalByAnswers cX4_totalByAnswers 3 (some .int), Cond.methodLink RX4 93 yX5_size, Cond.instanceMethod yX5_size, Cond.selects RX5 yX5_size yX5_size, Cond.code yX5_size cX5_size 1 (some .int), Cond.methodLink RX4 122 yX0_sum, Cond.instanceMethod yX0_sum, Cond.selects RX0 yX0_sum yX0_sum, Cond.code yX0_sum cX0_sum 2 (some .int), Cond.methodLink RX6 195 yX4_totalByRows, Cond.instanceMethod yX4_totalByRows, Cond.selects RX4 yX4_totalByRows yX4_totalByRows, Cond.code yX4_totalByRows cX4_totalByRows 4 (some .int)]
def wsL_areRows : List Cond := .code yL_areRows cL_areRows 9 (some .boolean) :: ((wsL_areRows_r1 ++ (wsL_areRows_r2 ++ (wsL_areRows_r3 ++ (wsL_areRows_r4 ++ (wsL_areRows_r5 ++ wsL_areRows_r6))))) ++ wsX60 ++ wsX40 ++ wsX50 ++ wsX20 ++ wsX00)
def wsL_isRow_r1 : List Cond := [Cond.methodLink RL 70 yX6_add, Cond.instanceMethod yX6_add, Cond.selects RX6 yX6_add yX6_add, Cond.initialized RX6, Cond.code yX6_add cX6_add 4 (some .int), Cond.fieldLink RX6 25 "LoopMemo" "history" "LLoopMemo$History;", Cond.fieldLink RX6 10 "LoopMemo" "now" "LLoopMemo$State;", Cond.methodLink RX6 36 yX1_prepare, Cond.instanceMethod yX1_prepare, Cond.selects RX1 yX1_prepare yX1_prepare, Cond.initialized RX1, Cond.code yX1_prepare cX1_prepare 3 none, Cond.fieldLink RX1 22 "LoopMemo$History" "next" "I", Cond.methodLink RX1 25 yX1_slot, Cond.instanceMethod yX1_slot, Cond.selects RX1 yX1_slot yX1_slot, Cond.code yX1_slot cX1_slot 2 (some (.object "LoopMemo$State")), Cond.fieldLink RX1 13 "LoopMemo$History" "slots" "[LLoopMemo$State;", Cond.methodLink RX1 29 yX4_copyFrom, Cond.instanceMethod yX4_copyFrom, Cond.selects RX4 yX4_copyFrom yX4_copyFrom, Cond.initialized RX4, Cond.code yX4_copyFrom cX4_copyFrom 2 none, Cond.fieldLink RX4 12 "LoopMemo$State" "outer" "LLoopMemo$Table;"]
def wsL_isRow_r2 : List Cond := [Cond.fieldLink RX4 18 "LoopMemo$State" "inner" "LLoopMemo$Table;", Cond.fieldLink RX4 24 "LoopMemo$State" "answers" "LLoopMemo$Answers;", Cond.fieldLink RX4 31 "LoopMemo$State" "memo" "LLoopMemo$Memo;", Cond.fieldLink RX4 44 "LoopMemo$State" "settings" "[I", Cond.fieldLink RX4 47 "LoopMemo$State" "tallies" "[I", Cond.fieldLink RX4 64 "LoopMemo$State" "place" "I", Cond.fieldLink RX4 68 "LoopMemo$State" "total" "I", Cond.methodLink RX4 50 yX5_copyFrom, Cond.instanceMethod yX5_copyFrom, Cond.selects RX5 yX5_copyFrom yX5_copyFrom, Cond.initialized RX5, Cond.code yX5_copyFrom cX5_copyFrom 2 none, Cond.fieldLink RX5 9 "LoopMemo$Table" "keys" "[I", Cond.fieldLink RX5 15 "LoopMemo$Table" "values" "[I", Cond.fieldLink RX5 22 "LoopMemo$Table" "size" "I", Cond.static yX6_copyNumbers, Cond.code yX6_copyNumbers cX6_copyNumbers 2 none, Cond.methodLink RX6 117 Lib.Math.min.name, Cond.static Lib.Math.min.name, Cond.initialized "java/lang/Math", Cond.code Lib.Math.min.name Lib.Math.min.code 2 (some .int), Cond.methodLink RX6 225 arraycopyName, Cond.native arraycopyName, Cond.static arraycopyName]
def wsL_isRow_r3 : List Cond := [Cond.initialized "java/lang/System", Cond.methodLink RX4 54 yX0_copyFrom, Cond.instanceMethod yX0_copyFrom, Cond.selects RX0 yX0_copyFrom yX0_copyFrom, Cond.initialized RX0, Cond.code yX0_copyFrom cX0_copyFrom 2 none, Cond.fieldLink RX0 9 "LoopMemo$Answers" "rows" "[I", Cond.fieldLink RX0 15 "LoopMemo$Answers" "sums" "[I", Cond.fieldLink RX0 18 "LoopMemo$Answers" "firstRows" "[I", Cond.methodLink RX4 57 yX2_copyFrom, Cond.instanceMethod yX2_copyFrom, Cond.selects RX2 yX2_copyFrom yX2_copyFrom, Cond.initialized RX2, Cond.code yX2_copyFrom cX2_copyFrom 2 none, Cond.fieldLink RX2 9 "LoopMemo$Memo" "uses" "[I", Cond.fieldLink RX2 15 "LoopMemo$Memo" "lastLooks" "[I", Cond.fieldLink RX2 18 "LoopMemo$Memo" "firstLooks" "[I", Cond.fieldLink RX2 25 "LoopMemo$Memo" "looks" "I", Cond.methodLink RX6 40 yX4_insertRow, Cond.instanceMethod yX4_insertRow, Cond.selects RX4 yX4_insertRow yX4_insertRow, Cond.code yX4_insertRow cX4_insertRow 5 (some .int), Cond.static yX6_isRow, Cond.code yX6_isRow cX6_isRow 2 (some .boolean)]
def wsL_isRow_r4 : List Cond := [Cond.methodLink RX6 147 yX6_isKey, Cond.static yX6_isKey, Cond.code yX6_isKey cX6_isKey 1 (some .boolean), Cond.methodLink RX6 76 yX6_isWithin, Cond.static yX6_isWithin, Cond.code yX6_isWithin cX6_isWithin 2 (some .boolean), Cond.methodLink RX4 89 yX4_table, Cond.instanceMethod yX4_table, Cond.selects RX4 yX4_table yX4_table, Cond.code yX4_table cX4_table 2 (some (.object "LoopMemo$Table")), Cond.methodLink RX4 93 yX5_size, Cond.instanceMethod yX5_size, Cond.selects RX5 yX5_size yX5_size, Cond.code yX5_size cX5_size 1 (some .int), Cond.methodLink RX4 97 yX5_push, Cond.instanceMethod yX5_push, Cond.selects RX5 yX5_push yX5_push, Cond.code yX5_push cX5_push 3 none, Cond.methodLink RX5 26 yX5_put, Cond.instanceMethod yX5_put, Cond.selects RX5 yX5_put yX5_put, Cond.code yX5_put cX5_put 4 none, Cond.methodLink RX4 101 yX4_keepTrue, Cond.instanceMethod yX4_keepTrue]
def wsL_isRow_r5 : List Cond := [Cond.selects RX4 yX4_keepTrue yX4_keepTrue, Cond.code yX4_keepTrue cX4_keepTrue 3 none, Cond.methodLink RX4 134 yX4_findAnswers, Cond.instanceMethod yX4_findAnswers, Cond.selects RX4 yX4_findAnswers yX4_findAnswers, Cond.code yX4_findAnswers cX4_findAnswers 1 none, Cond.methodLink RX4 162 yX0_find, Cond.instanceMethod yX0_find, Cond.selects RX0 yX0_find yX0_find, Cond.code yX0_find cX0_find 7 none, Cond.methodLink RX0 25 yX5_size, Cond.methodLink RX0 31 yX5_value, Cond.instanceMethod yX5_value, Cond.selects RX5 yX5_value yX5_value, Cond.code yX5_value cX5_value 2 (some .int), Cond.methodLink RX0 35 yX5_key, Cond.instanceMethod yX5_key, Cond.selects RX5 yX5_key yX5_key, Cond.code yX5_key cX5_key 2 (some .int), Cond.methodLink RX4 137 yX4_throwAllOut, Cond.instanceMethod yX4_throwAllOut, Cond.selects RX4 yX4_throwAllOut yX4_throwAllOut, Cond.code yX4_throwAllOut cX4_throwAllOut 2 (some .int), Cond.methodLink RX4 125 yX2_loseAll]
def wsL_isRow_r6 : List Cond := [Cond.instanceMethod yX2_loseAll, Cond.selects RX2 yX2_loseAll yX2_loseAll, Cond.code yX2_loseAll cX2_loseAll 3 (some .int), Cond.methodLink RX2 29 yX2_size, Cond.instanceMethod yX2_size, Cond.selects RX2 yX2_size yX2_size, Cond.code yX2_size cX2_size 3 (some .int), Cond.methodLink RX4 159 yX4_keepAnswerTrue, Cond.instanceMethod yX4_keepAnswerTrue, Cond.selects RX4 yX4_keepAnswerTrue yX4_keepAnswerTrue, Cond.code yX4_keepAnswerTrue cX4_keepAnswerTrue 2 none, Cond.methodLink RX4 75 yX2_holds, Cond.instanceMethod yX2_holds, Cond.selects RX2 yX2_holds yX2_holds, Cond.code yX2_holds cX2_holds 2 (some .boolean), Cond.methodLink RX4 156 yX2_lose, Cond.instanceMethod yX2_lose, Cond.selects RX2 yX2_lose yX2_lose, Cond.code yX2_lose cX2_lose 2 none, Cond.methodLink RX6 44 yX1_commit, Cond.instanceMethod yX1_commit, Cond.selects RX1 yX1_commit yX1_commit, Cond.code yX1_commit cX1_commit 2 (some .int), Cond.fieldLink RX1 18 "LoopMemo$History" "size" "I"]
def wsL_isRow_r7 : List Cond := [Cond.methodLink RX1 33 Lib.Math.min.name, Cond.methodLink RL 73 yL_kept, Cond.static yL_kept, Cond.initialized RL, Cond.code yL_kept cL_kept 6 none, Cond.methodLink RL 31 yL_has, Cond.static yL_has, Cond.code yL_has cL_has 4 (some .boolean), Cond.methodLink RL 35 yL_goes, Cond.static yL_goes, Cond.code yL_goes cL_goes 6 (some .int), Cond.methodLink RL 9 yL_many, Cond.static yL_many, Cond.code yL_many cL_many 2 (some .int), Cond.methodLink RL 27 yL_out, Cond.static yL_out, Cond.code yL_out cL_out 5 none]
def wsL_isRow : List Cond := .code yL_isRow cL_isRow 11 (some .boolean) :: ((wsL_isRow_r1 ++ (wsL_isRow_r2 ++ (wsL_isRow_r3 ++ (wsL_isRow_r4 ++ (wsL_isRow_r5 ++ (wsL_isRow_r6 ++ wsL_isRow_r7)))))) ++ wsX60 ++ wsX10 ++ wsX40 ++ wsX50 ++ wsX00 ++ wsX20)
def wsL_isGone_r1 : List Cond := [Cond.methodLink RL 77 yX6_drop, Cond.instanceMethod yX6_drop, Cond.selects RX6 yX6_drop yX6_drop, Cond.initialized RX6, Cond.code yX6_drop cX6_drop 3 (some .int), Cond.fieldLink RX6 25 "LoopMemo" "history" "LLoopMemo$History;", Cond.fieldLink RX6 10 "LoopMemo" "now" "LLoopMemo$State;", Cond.methodLink RX6 36 yX1_prepare, Cond.instanceMethod yX1_prepare, Cond.selects RX1 yX1_prepare yX1_prepare, Cond.initialized RX1, Cond.code yX1_prepare cX1_prepare 3 none, Cond.fieldLink RX1 22 "LoopMemo$History" "next" "I", Cond.methodLink RX1 25 yX1_slot, Cond.instanceMethod yX1_slot, Cond.selects RX1 yX1_slot yX1_slot, Cond.code yX1_slot cX1_slot 2 (some (.object "LoopMemo$State")), Cond.fieldLink RX1 13 "LoopMemo$History" "slots" "[LLoopMemo$State;", Cond.methodLink RX1 29 yX4_copyFrom, Cond.instanceMethod yX4_copyFrom, Cond.selects RX4 yX4_copyFrom yX4_copyFrom, Cond.initialized RX4, Cond.code yX4_copyFrom cX4_copyFrom 2 none, Cond.fieldLink RX4 12 "LoopMemo$State" "outer" "LLoopMemo$Table;"]
def wsL_isGone_r2 : List Cond := [Cond.fieldLink RX4 18 "LoopMemo$State" "inner" "LLoopMemo$Table;", Cond.fieldLink RX4 24 "LoopMemo$State" "answers" "LLoopMemo$Answers;", Cond.fieldLink RX4 31 "LoopMemo$State" "memo" "LLoopMemo$Memo;", Cond.fieldLink RX4 44 "LoopMemo$State" "settings" "[I", Cond.fieldLink RX4 47 "LoopMemo$State" "tallies" "[I", Cond.fieldLink RX4 64 "LoopMemo$State" "place" "I", Cond.fieldLink RX4 68 "LoopMemo$State" "total" "I", Cond.methodLink RX4 50 yX5_copyFrom, Cond.instanceMethod yX5_copyFrom, Cond.selects RX5 yX5_copyFrom yX5_copyFrom, Cond.initialized RX5, Cond.code yX5_copyFrom cX5_copyFrom 2 none, Cond.fieldLink RX5 9 "LoopMemo$Table" "keys" "[I", Cond.fieldLink RX5 15 "LoopMemo$Table" "values" "[I", Cond.fieldLink RX5 22 "LoopMemo$Table" "size" "I", Cond.static yX6_copyNumbers, Cond.code yX6_copyNumbers cX6_copyNumbers 2 none, Cond.methodLink RX6 117 Lib.Math.min.name, Cond.static Lib.Math.min.name, Cond.initialized "java/lang/Math", Cond.code Lib.Math.min.name Lib.Math.min.code 2 (some .int), Cond.methodLink RX6 225 arraycopyName, Cond.native arraycopyName, Cond.static arraycopyName]
def wsL_isGone_r3 : List Cond := [Cond.initialized "java/lang/System", Cond.methodLink RX4 54 yX0_copyFrom, Cond.instanceMethod yX0_copyFrom, Cond.selects RX0 yX0_copyFrom yX0_copyFrom, Cond.initialized RX0, Cond.code yX0_copyFrom cX0_copyFrom 2 none, Cond.fieldLink RX0 9 "LoopMemo$Answers" "rows" "[I", Cond.fieldLink RX0 15 "LoopMemo$Answers" "sums" "[I", Cond.fieldLink RX0 18 "LoopMemo$Answers" "firstRows" "[I", Cond.methodLink RX4 57 yX2_copyFrom, Cond.instanceMethod yX2_copyFrom, Cond.selects RX2 yX2_copyFrom yX2_copyFrom, Cond.initialized RX2, Cond.code yX2_copyFrom cX2_copyFrom 2 none, Cond.fieldLink RX2 9 "LoopMemo$Memo" "uses" "[I", Cond.fieldLink RX2 15 "LoopMemo$Memo" "lastLooks" "[I", Cond.fieldLink RX2 18 "LoopMemo$Memo" "firstLooks" "[I", Cond.fieldLink RX2 25 "LoopMemo$Memo" "looks" "I", Cond.methodLink RX6 48 yX4_removeRow, Cond.instanceMethod yX4_removeRow, Cond.selects RX4 yX4_removeRow yX4_removeRow, Cond.code yX4_removeRow cX4_removeRow 5 (some .int), Cond.methodLink RX4 89 yX4_table, Cond.instanceMethod yX4_table]
def wsL_isGone_r4 : List Cond := [Cond.selects RX4 yX4_table yX4_table, Cond.code yX4_table cX4_table 2 (some (.object "LoopMemo$Table")), Cond.methodLink RX4 104 yX5_has, Cond.instanceMethod yX5_has, Cond.selects RX5 yX5_has yX5_has, Cond.code yX5_has cX5_has 2 (some .boolean), Cond.methodLink RX4 71 yX5_key, Cond.instanceMethod yX5_key, Cond.selects RX5 yX5_key yX5_key, Cond.code yX5_key cX5_key 2 (some .int), Cond.methodLink RX4 107 yX5_takeOut, Cond.instanceMethod yX5_takeOut, Cond.selects RX5 yX5_takeOut yX5_takeOut, Cond.code yX5_takeOut cX5_takeOut 3 none, Cond.methodLink RX5 30 yX5_has, Cond.methodLink RX5 34 yX5_key, Cond.methodLink RX5 38 yX5_value, Cond.instanceMethod yX5_value, Cond.selects RX5 yX5_value yX5_value, Cond.code yX5_value cX5_value 2 (some .int), Cond.methodLink RX5 26 yX5_put, Cond.instanceMethod yX5_put, Cond.selects RX5 yX5_put yX5_put, Cond.code yX5_put cX5_put 4 none]
def wsL_isGone_r5 : List Cond := [Cond.methodLink RX4 101 yX4_keepTrue, Cond.instanceMethod yX4_keepTrue, Cond.selects RX4 yX4_keepTrue yX4_keepTrue, Cond.code yX4_keepTrue cX4_keepTrue 3 none, Cond.methodLink RX4 134 yX4_findAnswers, Cond.instanceMethod yX4_findAnswers, Cond.selects RX4 yX4_findAnswers yX4_findAnswers, Cond.code yX4_findAnswers cX4_findAnswers 1 none, Cond.methodLink RX4 162 yX0_find, Cond.instanceMethod yX0_find, Cond.selects RX0 yX0_find yX0_find, Cond.code yX0_find cX0_find 7 none, Cond.methodLink RX0 25 yX5_size, Cond.instanceMethod yX5_size, Cond.selects RX5 yX5_size yX5_size, Cond.code yX5_size cX5_size 1 (some .int), Cond.methodLink RX0 31 yX5_value, Cond.methodLink RX0 35 yX5_key, Cond.methodLink RX4 137 yX4_throwAllOut, Cond.instanceMethod yX4_throwAllOut, Cond.selects RX4 yX4_throwAllOut yX4_throwAllOut, Cond.code yX4_throwAllOut cX4_throwAllOut 2 (some .int), Cond.methodLink RX4 125 yX2_loseAll, Cond.instanceMethod yX2_loseAll]
def wsL_isGone_r6 : List Cond := [Cond.selects RX2 yX2_loseAll yX2_loseAll, Cond.code yX2_loseAll cX2_loseAll 3 (some .int), Cond.methodLink RX2 29 yX2_size, Cond.instanceMethod yX2_size, Cond.selects RX2 yX2_size yX2_size, Cond.code yX2_size cX2_size 3 (some .int), Cond.methodLink RX4 159 yX4_keepAnswerTrue, Cond.instanceMethod yX4_keepAnswerTrue, Cond.selects RX4 yX4_keepAnswerTrue yX4_keepAnswerTrue, Cond.code yX4_keepAnswerTrue cX4_keepAnswerTrue 2 none, Cond.methodLink RX4 75 yX2_holds, Cond.instanceMethod yX2_holds, Cond.selects RX2 yX2_holds yX2_holds, Cond.code yX2_holds cX2_holds 2 (some .boolean), Cond.methodLink RX4 156 yX2_lose, Cond.instanceMethod yX2_lose, Cond.selects RX2 yX2_lose yX2_lose, Cond.code yX2_lose cX2_lose 2 none, Cond.methodLink RX4 111 yX4_isDone, Cond.instanceMethod yX4_isDone, Cond.selects RX4 yX4_isDone yX4_isDone, Cond.code yX4_isDone cX4_isDone 2 (some .boolean), Cond.methodLink RX4 93 yX5_size, Cond.methodLink RX6 44 yX1_commit]
def wsL_isGone_r7 : List Cond := [Cond.instanceMethod yX1_commit, Cond.selects RX1 yX1_commit yX1_commit, Cond.code yX1_commit cX1_commit 2 (some .int), Cond.fieldLink RX1 18 "LoopMemo$History" "size" "I", Cond.methodLink RX1 33 Lib.Math.min.name, Cond.methodLink RL 73 yL_kept, Cond.static yL_kept, Cond.initialized RL, Cond.code yL_kept cL_kept 6 none, Cond.methodLink RL 31 yL_has, Cond.static yL_has, Cond.code yL_has cL_has 4 (some .boolean), Cond.methodLink RL 35 yL_goes, Cond.static yL_goes, Cond.code yL_goes cL_goes 6 (some .int), Cond.methodLink RL 9 yL_many, Cond.static yL_many, Cond.code yL_many cL_many 2 (some .int), Cond.methodLink RL 27 yL_out, Cond.static yL_out, Cond.code yL_out cL_out 5 none]
def wsL_isGone : List Cond := .code yL_isGone cL_isGone 10 (some .boolean) :: ((wsL_isGone_r1 ++ (wsL_isGone_r2 ++ (wsL_isGone_r3 ++ (wsL_isGone_r4 ++ (wsL_isGone_r5 ++ (wsL_isGone_r6 ++ wsL_isGone_r7)))))) ++ wsX60 ++ wsX10 ++ wsX40 ++ wsX50 ++ wsX00 ++ wsX20)
def wsL_isSet_r1 : List Cond := [Cond.methodLink RL 39 yL_room, Cond.static yL_room, Cond.initialized RL, Cond.code yL_room cL_room 8 (some .int), Cond.methodLink RL 19 yL_first, Cond.static yL_first, Cond.code yL_first cL_first 9 (some .int), Cond.methodLink RL 9 yL_many, Cond.static yL_many, Cond.code yL_many cL_many 2 (some .int), Cond.methodLink RL 23 yL_weights, Cond.static yL_weights, Cond.code yL_weights cL_weights 5 (some .int), Cond.methodLink RL 15 yL_weight, Cond.static yL_weight, Cond.code yL_weight cL_weight 7 (some .int), Cond.methodLink RL 27 yL_out, Cond.static yL_out, Cond.code yL_out cL_out 5 none, Cond.methodLink RL 35 yL_goes, Cond.static yL_goes, Cond.code yL_goes cL_goes 6 (some .int), Cond.methodLink RL 81 yX6_set, Cond.instanceMethod yX6_set]
def wsL_isSet_r2 : List Cond := [Cond.selects RX6 yX6_set yX6_set, Cond.initialized RX6, Cond.code yX6_set cX6_set 3 (some .int), Cond.fieldLink RX6 25 "LoopMemo" "history" "LLoopMemo$History;", Cond.fieldLink RX6 10 "LoopMemo" "now" "LLoopMemo$State;", Cond.methodLink RX6 36 yX1_prepare, Cond.instanceMethod yX1_prepare, Cond.selects RX1 yX1_prepare yX1_prepare, Cond.initialized RX1, Cond.code yX1_prepare cX1_prepare 3 none, Cond.fieldLink RX1 22 "LoopMemo$History" "next" "I", Cond.methodLink RX1 25 yX1_slot, Cond.instanceMethod yX1_slot, Cond.selects RX1 yX1_slot yX1_slot, Cond.code yX1_slot cX1_slot 2 (some (.object "LoopMemo$State")), Cond.fieldLink RX1 13 "LoopMemo$History" "slots" "[LLoopMemo$State;", Cond.methodLink RX1 29 yX4_copyFrom, Cond.instanceMethod yX4_copyFrom, Cond.selects RX4 yX4_copyFrom yX4_copyFrom, Cond.initialized RX4, Cond.code yX4_copyFrom cX4_copyFrom 2 none, Cond.fieldLink RX4 12 "LoopMemo$State" "outer" "LLoopMemo$Table;", Cond.fieldLink RX4 18 "LoopMemo$State" "inner" "LLoopMemo$Table;", Cond.fieldLink RX4 24 "LoopMemo$State" "answers" "LLoopMemo$Answers;"]
def wsL_isSet_r3 : List Cond := [Cond.fieldLink RX4 31 "LoopMemo$State" "memo" "LLoopMemo$Memo;", Cond.fieldLink RX4 44 "LoopMemo$State" "settings" "[I", Cond.fieldLink RX4 47 "LoopMemo$State" "tallies" "[I", Cond.fieldLink RX4 64 "LoopMemo$State" "place" "I", Cond.fieldLink RX4 68 "LoopMemo$State" "total" "I", Cond.methodLink RX4 50 yX5_copyFrom, Cond.instanceMethod yX5_copyFrom, Cond.selects RX5 yX5_copyFrom yX5_copyFrom, Cond.initialized RX5, Cond.code yX5_copyFrom cX5_copyFrom 2 none, Cond.fieldLink RX5 9 "LoopMemo$Table" "keys" "[I", Cond.fieldLink RX5 15 "LoopMemo$Table" "values" "[I", Cond.fieldLink RX5 22 "LoopMemo$Table" "size" "I", Cond.static yX6_copyNumbers, Cond.code yX6_copyNumbers cX6_copyNumbers 2 none, Cond.methodLink RX6 117 Lib.Math.min.name, Cond.static Lib.Math.min.name, Cond.initialized "java/lang/Math", Cond.code Lib.Math.min.name Lib.Math.min.code 2 (some .int), Cond.methodLink RX6 225 arraycopyName, Cond.native arraycopyName, Cond.static arraycopyName, Cond.initialized "java/lang/System", Cond.methodLink RX4 54 yX0_copyFrom]
def wsL_isSet_r4 : List Cond := [Cond.instanceMethod yX0_copyFrom, Cond.selects RX0 yX0_copyFrom yX0_copyFrom, Cond.initialized RX0, Cond.code yX0_copyFrom cX0_copyFrom 2 none, Cond.fieldLink RX0 9 "LoopMemo$Answers" "rows" "[I", Cond.fieldLink RX0 15 "LoopMemo$Answers" "sums" "[I", Cond.fieldLink RX0 18 "LoopMemo$Answers" "firstRows" "[I", Cond.methodLink RX4 57 yX2_copyFrom, Cond.instanceMethod yX2_copyFrom, Cond.selects RX2 yX2_copyFrom yX2_copyFrom, Cond.initialized RX2, Cond.code yX2_copyFrom cX2_copyFrom 2 none, Cond.fieldLink RX2 9 "LoopMemo$Memo" "uses" "[I", Cond.fieldLink RX2 15 "LoopMemo$Memo" "lastLooks" "[I", Cond.fieldLink RX2 18 "LoopMemo$Memo" "firstLooks" "[I", Cond.fieldLink RX2 25 "LoopMemo$Memo" "looks" "I", Cond.methodLink RX6 66 yX4_adjust, Cond.instanceMethod yX4_adjust, Cond.selects RX4 yX4_adjust yX4_adjust, Cond.code yX4_adjust cX4_adjust 3 (some .int), Cond.fieldLink RX4 128 "LoopMemo$State" "HIGHEST_SETTINGS" "[I", Cond.methodLink RX4 131 yX4_makeRoom, Cond.instanceMethod yX4_makeRoom, Cond.selects RX4 yX4_makeRoom yX4_makeRoom]
def wsL_isSet_r5 : List Cond := [Cond.code yX4_makeRoom cX4_makeRoom 5 (some .int), Cond.methodLink RX4 149 yX4_weightTogether, Cond.instanceMethod yX4_weightTogether, Cond.selects RX4 yX4_weightTogether yX4_weightTogether, Cond.code yX4_weightTogether cX4_weightTogether 3 (some .int), Cond.methodLink RX4 75 yX2_holds, Cond.instanceMethod yX2_holds, Cond.selects RX2 yX2_holds yX2_holds, Cond.code yX2_holds cX2_holds 2 (some .boolean), Cond.methodLink RX4 140 yX0_weight, Cond.instanceMethod yX0_weight, Cond.selects RX0 yX0_weight yX0_weight, Cond.code yX0_weight cX0_weight 2 (some .int), Cond.methodLink RX4 152 yX2_firstOut, Cond.instanceMethod yX2_firstOut, Cond.selects RX2 yX2_firstOut yX2_firstOut, Cond.code yX2_firstOut cX2_firstOut 5 (some .int), Cond.methodLink RX2 33 yX2_rank, Cond.instanceMethod yX2_rank, Cond.selects RX2 yX2_rank yX2_rank, Cond.code yX2_rank cX2_rank 3 (some .long), Cond.methodLink RX4 156 yX2_lose, Cond.instanceMethod yX2_lose, Cond.selects RX2 yX2_lose yX2_lose]
def wsL_isSet_r6 : List Cond := [Cond.code yX2_lose cX2_lose 2 none, Cond.methodLink RX4 134 yX4_findAnswers, Cond.instanceMethod yX4_findAnswers, Cond.selects RX4 yX4_findAnswers yX4_findAnswers, Cond.code yX4_findAnswers cX4_findAnswers 1 none, Cond.methodLink RX4 162 yX0_find, Cond.instanceMethod yX0_find, Cond.selects RX0 yX0_find yX0_find, Cond.code yX0_find cX0_find 7 none, Cond.methodLink RX0 25 yX5_size, Cond.instanceMethod yX5_size, Cond.selects RX5 yX5_size yX5_size, Cond.code yX5_size cX5_size 1 (some .int), Cond.methodLink RX0 31 yX5_value, Cond.instanceMethod yX5_value, Cond.selects RX5 yX5_value yX5_value, Cond.code yX5_value cX5_value 2 (some .int), Cond.methodLink RX0 35 yX5_key, Cond.instanceMethod yX5_key, Cond.selects RX5 yX5_key yX5_key, Cond.code yX5_key cX5_key 2 (some .int), Cond.methodLink RX4 137 yX4_throwAllOut, Cond.instanceMethod yX4_throwAllOut, Cond.selects RX4 yX4_throwAllOut yX4_throwAllOut]
def wsL_isSet_r7 : List Cond := [Cond.code yX4_throwAllOut cX4_throwAllOut 2 (some .int), Cond.methodLink RX4 125 yX2_loseAll, Cond.instanceMethod yX2_loseAll, Cond.selects RX2 yX2_loseAll yX2_loseAll, Cond.code yX2_loseAll cX2_loseAll 3 (some .int), Cond.methodLink RX2 29 yX2_size, Cond.instanceMethod yX2_size, Cond.selects RX2 yX2_size yX2_size, Cond.code yX2_size cX2_size 3 (some .int), Cond.methodLink RX6 44 yX1_commit, Cond.instanceMethod yX1_commit, Cond.selects RX1 yX1_commit yX1_commit, Cond.code yX1_commit cX1_commit 2 (some .int), Cond.fieldLink RX1 18 "LoopMemo$History" "size" "I", Cond.methodLink RX1 33 Lib.Math.min.name]
def wsL_isSet : List Cond := .code yL_isSet cL_isSet 10 (some .boolean) :: ((wsL_isSet_r1 ++ (wsL_isSet_r2 ++ (wsL_isSet_r3 ++ (wsL_isSet_r4 ++ (wsL_isSet_r5 ++ (wsL_isSet_r6 ++ wsL_isSet_r7)))))) ++ wsX60 ++ wsX10 ++ wsX40 ++ wsX50 ++ wsX00 ++ wsX20)
def wsL_isActed_r1 : List Cond := [Cond.methodLink RL 84 yL_isRow, Cond.static yL_isRow, Cond.initialized RL, Cond.code yL_isRow cL_isRow 11 (some .boolean), Cond.methodLink RL 70 yX6_add, Cond.instanceMethod yX6_add, Cond.selects RX6 yX6_add yX6_add, Cond.initialized RX6, Cond.code yX6_add cX6_add 4 (some .int), Cond.fieldLink RX6 25 "LoopMemo" "history" "LLoopMemo$History;", Cond.fieldLink RX6 10 "LoopMemo" "now" "LLoopMemo$State;", Cond.methodLink RX6 36 yX1_prepare, Cond.instanceMethod yX1_prepare, Cond.selects RX1 yX1_prepare yX1_prepare, Cond.initialized RX1, Cond.code yX1_prepare cX1_prepare 3 none, Cond.fieldLink RX1 22 "LoopMemo$History" "next" "I", Cond.methodLink RX1 25 yX1_slot, Cond.instanceMethod yX1_slot, Cond.selects RX1 yX1_slot yX1_slot, Cond.code yX1_slot cX1_slot 2 (some (.object "LoopMemo$State")), Cond.fieldLink RX1 13 "LoopMemo$History" "slots" "[LLoopMemo$State;", Cond.methodLink RX1 29 yX4_copyFrom, Cond.instanceMethod yX4_copyFrom]
def wsL_isActed_r2 : List Cond := [Cond.selects RX4 yX4_copyFrom yX4_copyFrom, Cond.initialized RX4, Cond.code yX4_copyFrom cX4_copyFrom 2 none, Cond.fieldLink RX4 12 "LoopMemo$State" "outer" "LLoopMemo$Table;", Cond.fieldLink RX4 18 "LoopMemo$State" "inner" "LLoopMemo$Table;", Cond.fieldLink RX4 24 "LoopMemo$State" "answers" "LLoopMemo$Answers;", Cond.fieldLink RX4 31 "LoopMemo$State" "memo" "LLoopMemo$Memo;", Cond.fieldLink RX4 44 "LoopMemo$State" "settings" "[I", Cond.fieldLink RX4 47 "LoopMemo$State" "tallies" "[I", Cond.fieldLink RX4 64 "LoopMemo$State" "place" "I", Cond.fieldLink RX4 68 "LoopMemo$State" "total" "I", Cond.methodLink RX4 50 yX5_copyFrom, Cond.instanceMethod yX5_copyFrom, Cond.selects RX5 yX5_copyFrom yX5_copyFrom, Cond.initialized RX5, Cond.code yX5_copyFrom cX5_copyFrom 2 none, Cond.fieldLink RX5 9 "LoopMemo$Table" "keys" "[I", Cond.fieldLink RX5 15 "LoopMemo$Table" "values" "[I", Cond.fieldLink RX5 22 "LoopMemo$Table" "size" "I", Cond.static yX6_copyNumbers, Cond.code yX6_copyNumbers cX6_copyNumbers 2 none, Cond.methodLink RX6 117 Lib.Math.min.name, Cond.static Lib.Math.min.name, Cond.initialized "java/lang/Math"]
def wsL_isActed_r3 : List Cond := [Cond.code Lib.Math.min.name Lib.Math.min.code 2 (some .int), Cond.methodLink RX6 225 arraycopyName, Cond.native arraycopyName, Cond.static arraycopyName, Cond.initialized "java/lang/System", Cond.methodLink RX4 54 yX0_copyFrom, Cond.instanceMethod yX0_copyFrom, Cond.selects RX0 yX0_copyFrom yX0_copyFrom, Cond.initialized RX0, Cond.code yX0_copyFrom cX0_copyFrom 2 none, Cond.fieldLink RX0 9 "LoopMemo$Answers" "rows" "[I", Cond.fieldLink RX0 15 "LoopMemo$Answers" "sums" "[I", Cond.fieldLink RX0 18 "LoopMemo$Answers" "firstRows" "[I", Cond.methodLink RX4 57 yX2_copyFrom, Cond.instanceMethod yX2_copyFrom, Cond.selects RX2 yX2_copyFrom yX2_copyFrom, Cond.initialized RX2, Cond.code yX2_copyFrom cX2_copyFrom 2 none, Cond.fieldLink RX2 9 "LoopMemo$Memo" "uses" "[I", Cond.fieldLink RX2 15 "LoopMemo$Memo" "lastLooks" "[I", Cond.fieldLink RX2 18 "LoopMemo$Memo" "firstLooks" "[I", Cond.fieldLink RX2 25 "LoopMemo$Memo" "looks" "I", Cond.methodLink RX6 40 yX4_insertRow, Cond.instanceMethod yX4_insertRow]
def wsL_isActed_r4 : List Cond := [Cond.selects RX4 yX4_insertRow yX4_insertRow, Cond.code yX4_insertRow cX4_insertRow 5 (some .int), Cond.static yX6_isRow, Cond.code yX6_isRow cX6_isRow 2 (some .boolean), Cond.methodLink RX6 147 yX6_isKey, Cond.static yX6_isKey, Cond.code yX6_isKey cX6_isKey 1 (some .boolean), Cond.methodLink RX6 76 yX6_isWithin, Cond.static yX6_isWithin, Cond.code yX6_isWithin cX6_isWithin 2 (some .boolean), Cond.methodLink RX4 89 yX4_table, Cond.instanceMethod yX4_table, Cond.selects RX4 yX4_table yX4_table, Cond.code yX4_table cX4_table 2 (some (.object "LoopMemo$Table")), Cond.methodLink RX4 93 yX5_size, Cond.instanceMethod yX5_size, Cond.selects RX5 yX5_size yX5_size, Cond.code yX5_size cX5_size 1 (some .int), Cond.methodLink RX4 97 yX5_push, Cond.instanceMethod yX5_push, Cond.selects RX5 yX5_push yX5_push, Cond.code yX5_push cX5_push 3 none, Cond.methodLink RX5 26 yX5_put, Cond.instanceMethod yX5_put]
def wsL_isActed_r5 : List Cond := [Cond.selects RX5 yX5_put yX5_put, Cond.code yX5_put cX5_put 4 none, Cond.methodLink RX4 101 yX4_keepTrue, Cond.instanceMethod yX4_keepTrue, Cond.selects RX4 yX4_keepTrue yX4_keepTrue, Cond.code yX4_keepTrue cX4_keepTrue 3 none, Cond.methodLink RX4 134 yX4_findAnswers, Cond.instanceMethod yX4_findAnswers, Cond.selects RX4 yX4_findAnswers yX4_findAnswers, Cond.code yX4_findAnswers cX4_findAnswers 1 none, Cond.methodLink RX4 162 yX0_find, Cond.instanceMethod yX0_find, Cond.selects RX0 yX0_find yX0_find, Cond.code yX0_find cX0_find 7 none, Cond.methodLink RX0 25 yX5_size, Cond.methodLink RX0 31 yX5_value, Cond.instanceMethod yX5_value, Cond.selects RX5 yX5_value yX5_value, Cond.code yX5_value cX5_value 2 (some .int), Cond.methodLink RX0 35 yX5_key, Cond.instanceMethod yX5_key, Cond.selects RX5 yX5_key yX5_key, Cond.code yX5_key cX5_key 2 (some .int), Cond.methodLink RX4 137 yX4_throwAllOut]
def wsL_isActed_r6 : List Cond := [Cond.instanceMethod yX4_throwAllOut, Cond.selects RX4 yX4_throwAllOut yX4_throwAllOut, Cond.code yX4_throwAllOut cX4_throwAllOut 2 (some .int), Cond.methodLink RX4 125 yX2_loseAll, Cond.instanceMethod yX2_loseAll, Cond.selects RX2 yX2_loseAll yX2_loseAll, Cond.code yX2_loseAll cX2_loseAll 3 (some .int), Cond.methodLink RX2 29 yX2_size, Cond.instanceMethod yX2_size, Cond.selects RX2 yX2_size yX2_size, Cond.code yX2_size cX2_size 3 (some .int), Cond.methodLink RX4 159 yX4_keepAnswerTrue, Cond.instanceMethod yX4_keepAnswerTrue, Cond.selects RX4 yX4_keepAnswerTrue yX4_keepAnswerTrue, Cond.code yX4_keepAnswerTrue cX4_keepAnswerTrue 2 none, Cond.methodLink RX4 75 yX2_holds, Cond.instanceMethod yX2_holds, Cond.selects RX2 yX2_holds yX2_holds, Cond.code yX2_holds cX2_holds 2 (some .boolean), Cond.methodLink RX4 156 yX2_lose, Cond.instanceMethod yX2_lose, Cond.selects RX2 yX2_lose yX2_lose, Cond.code yX2_lose cX2_lose 2 none, Cond.methodLink RX6 44 yX1_commit]
def wsL_isActed_r7 : List Cond := [Cond.instanceMethod yX1_commit, Cond.selects RX1 yX1_commit yX1_commit, Cond.code yX1_commit cX1_commit 2 (some .int), Cond.fieldLink RX1 18 "LoopMemo$History" "size" "I", Cond.methodLink RX1 33 Lib.Math.min.name, Cond.methodLink RL 73 yL_kept, Cond.static yL_kept, Cond.code yL_kept cL_kept 6 none, Cond.methodLink RL 31 yL_has, Cond.static yL_has, Cond.code yL_has cL_has 4 (some .boolean), Cond.methodLink RL 35 yL_goes, Cond.static yL_goes, Cond.code yL_goes cL_goes 6 (some .int), Cond.methodLink RL 9 yL_many, Cond.static yL_many, Cond.code yL_many cL_many 2 (some .int), Cond.methodLink RL 27 yL_out, Cond.static yL_out, Cond.code yL_out cL_out 5 none, Cond.methodLink RL 88 yL_isGone, Cond.static yL_isGone, Cond.code yL_isGone cL_isGone 10 (some .boolean), Cond.methodLink RL 77 yX6_drop]
def wsL_isActed_r8 : List Cond := [Cond.instanceMethod yX6_drop, Cond.selects RX6 yX6_drop yX6_drop, Cond.code yX6_drop cX6_drop 3 (some .int), Cond.methodLink RX6 48 yX4_removeRow, Cond.instanceMethod yX4_removeRow, Cond.selects RX4 yX4_removeRow yX4_removeRow, Cond.code yX4_removeRow cX4_removeRow 5 (some .int), Cond.methodLink RX4 104 yX5_has, Cond.instanceMethod yX5_has, Cond.selects RX5 yX5_has yX5_has, Cond.code yX5_has cX5_has 2 (some .boolean), Cond.methodLink RX4 71 yX5_key, Cond.methodLink RX4 107 yX5_takeOut, Cond.instanceMethod yX5_takeOut, Cond.selects RX5 yX5_takeOut yX5_takeOut, Cond.code yX5_takeOut cX5_takeOut 3 none, Cond.methodLink RX5 30 yX5_has, Cond.methodLink RX5 34 yX5_key, Cond.methodLink RX5 38 yX5_value, Cond.methodLink RX4 111 yX4_isDone, Cond.instanceMethod yX4_isDone, Cond.selects RX4 yX4_isDone yX4_isDone, Cond.code yX4_isDone cX4_isDone 2 (some .boolean), Cond.methodLink RL 91 yX6_change]
def wsL_isActed_r9 : List Cond := [Cond.instanceMethod yX6_change, Cond.selects RX6 yX6_change yX6_change, Cond.code yX6_change cX6_change 4 (some .int), Cond.methodLink RX6 52 yX4_rewriteRow, Cond.instanceMethod yX4_rewriteRow, Cond.selects RX4 yX4_rewriteRow yX4_rewriteRow, Cond.code yX4_rewriteRow cX4_rewriteRow 5 (some .int), Cond.methodLink RX4 114 yX5_put, Cond.methodLink RX4 118 yX2_size, Cond.methodLink RL 95 yL_steps, Cond.static yL_steps, Cond.code yL_steps cL_steps 10 (some .int), Cond.methodLink RL 43 yL_look, Cond.static yL_look, Cond.code yL_look cL_look 7 (some .int), Cond.methodLink RL 15 yL_weight, Cond.static yL_weight, Cond.code yL_weight cL_weight 7 (some .int), Cond.methodLink RL 39 yL_room, Cond.static yL_room, Cond.code yL_room cL_room 8 (some .int), Cond.methodLink RL 19 yL_first, Cond.static yL_first, Cond.code yL_first cL_first 9 (some .int)]
def wsL_isActed_r10 : List Cond := [Cond.methodLink RL 23 yL_weights, Cond.static yL_weights, Cond.code yL_weights cL_weights 5 (some .int), Cond.methodLink RL 99 yX6_step, Cond.instanceMethod yX6_step, Cond.selects RX6 yX6_step yX6_step, Cond.code yX6_step cX6_step 2 (some .int), Cond.methodLink RX6 56 yX4_walk, Cond.instanceMethod yX4_walk, Cond.selects RX4 yX4_walk yX4_walk, Cond.code yX4_walk cX4_walk 5 (some .int), Cond.methodLink RX4 119 yX4_lookUp, Cond.instanceMethod yX4_lookUp, Cond.selects RX4 yX4_lookUp yX4_lookUp, Cond.code yX4_lookUp cX4_lookUp 2 none, Cond.methodLink RX4 143 yX2_touch, Cond.instanceMethod yX2_touch, Cond.selects RX2 yX2_touch yX2_touch, Cond.code yX2_touch cX2_touch 2 none, Cond.methodLink RX4 140 yX0_weight, Cond.instanceMethod yX0_weight, Cond.selects RX0 yX0_weight yX0_weight, Cond.code yX0_weight cX0_weight 2 (some .int), Cond.methodLink RX4 146 yX2_take]
def wsL_isActed_r11 : List Cond := [Cond.instanceMethod yX2_take, Cond.selects RX2 yX2_take yX2_take, Cond.code yX2_take cX2_take 2 none, Cond.methodLink RX4 131 yX4_makeRoom, Cond.instanceMethod yX4_makeRoom, Cond.selects RX4 yX4_makeRoom yX4_makeRoom, Cond.code yX4_makeRoom cX4_makeRoom 5 (some .int), Cond.methodLink RX4 149 yX4_weightTogether, Cond.instanceMethod yX4_weightTogether, Cond.selects RX4 yX4_weightTogether yX4_weightTogether, Cond.code yX4_weightTogether cX4_weightTogether 3 (some .int), Cond.methodLink RX4 152 yX2_firstOut, Cond.instanceMethod yX2_firstOut, Cond.selects RX2 yX2_firstOut yX2_firstOut, Cond.code yX2_firstOut cX2_firstOut 5 (some .int), Cond.methodLink RX2 33 yX2_rank, Cond.instanceMethod yX2_rank, Cond.selects RX2 yX2_rank yX2_rank, Cond.code yX2_rank cX2_rank 3 (some .long), Cond.methodLink RX4 79 yX5_value, Cond.methodLink RX4 122 yX0_sum, Cond.instanceMethod yX0_sum, Cond.selects RX0 yX0_sum yX0_sum, Cond.code yX0_sum cX0_sum 2 (some .int)]
def wsL_isActed_r12 : List Cond := [Cond.methodLink RL 102 yX6_again, Cond.instanceMethod yX6_again, Cond.selects RX6 yX6_again yX6_again, Cond.code yX6_again cX6_again 1 (some .int), Cond.methodLink RX6 59 yX4_beginAgain, Cond.instanceMethod yX4_beginAgain, Cond.selects RX4 yX4_beginAgain yX4_beginAgain, Cond.code yX4_beginAgain cX4_beginAgain 2 (some .int), Cond.methodLink RL 106 yX6_forget, Cond.instanceMethod yX6_forget, Cond.selects RX6 yX6_forget yX6_forget, Cond.code yX6_forget cX6_forget 1 (some .int), Cond.methodLink RX6 63 yX4_throwAllOut, Cond.methodLink RL 109 yL_isSet, Cond.static yL_isSet, Cond.code yL_isSet cL_isSet 10 (some .boolean), Cond.methodLink RL 81 yX6_set, Cond.instanceMethod yX6_set, Cond.selects RX6 yX6_set yX6_set, Cond.code yX6_set cX6_set 3 (some .int), Cond.methodLink RX6 66 yX4_adjust, Cond.instanceMethod yX4_adjust, Cond.selects RX4 yX4_adjust yX4_adjust, Cond.code yX4_adjust cX4_adjust 3 (some .int)]
def wsL_isActed_r13 : List Cond := [Cond.fieldLink RX4 128 "LoopMemo$State" "HIGHEST_SETTINGS" "[I"]
def wsL_isActed : List Cond := .code yL_isActed cL_isActed 12 (some .boolean) :: ((wsL_isActed_r1 ++ (wsL_isActed_r2 ++ (wsL_isActed_r3 ++ (wsL_isActed_r4 ++ (wsL_isActed_r5 ++ (wsL_isActed_r6 ++ (wsL_isActed_r7 ++ (wsL_isActed_r8 ++ (wsL_isActed_r9 ++ (wsL_isActed_r10 ++ (wsL_isActed_r11 ++ (wsL_isActed_r12 ++ wsL_isActed_r13)))))))))))) ++ wsX60 ++ wsX10 ++ wsX40 ++ wsX50 ++ wsX00 ++ wsX20)
def wsL_law_r1 : List Cond := [Cond.classLink RL 47 RX6, Cond.instantiable RX6 9, Cond.initialized RX6, Cond.arrayClass .int, Cond.constant RL 8 (2147483647), Cond.methodLink RL 113 yX6_init, Cond.instanceMethod yX6_init, Cond.code yX6_init cX6_init 1 none, Cond.methodLink RX6 1 objectInit, Cond.instanceMethod objectInit, Cond.code objectInit ⟨#[0xb1]⟩ 1 none, Cond.classLink RX6 7 RX4, Cond.instantiable RX4 8, Cond.initialized RX4, Cond.fieldLink RX6 10 "LoopMemo" "now" "LLoopMemo$State;", Cond.fieldLink RX6 16 "LoopMemo" "trial" "LLoopMemo$State;", Cond.fieldLink RX6 19 "LoopMemo" "snapshot" "LLoopMemo$State;", Cond.classLink RX6 22 RX1, Cond.instantiable RX1 3, Cond.initialized RX1, Cond.fieldLink RX6 25 "LoopMemo" "history" "LLoopMemo$History;", Cond.classLink RX6 29 RX3, Cond.instantiable RX3 9, Cond.initialized RX3]
def wsL_law_r2 : List Cond := [Cond.fieldLink RX6 32 "LoopMemo" "pad" "LLoopMemo$Pad;", Cond.methodLink RX6 9 yX4_init, Cond.instanceMethod yX4_init, Cond.code yX4_init cX4_init 1 none, Cond.methodLink RX4 3 objectInit, Cond.classLink RX4 9 RX5, Cond.instantiable RX5 3, Cond.initialized RX5, Cond.fieldLink RX4 12 "LoopMemo$State" "outer" "LLoopMemo$Table;", Cond.fieldLink RX4 18 "LoopMemo$State" "inner" "LLoopMemo$Table;", Cond.classLink RX4 21 RX0, Cond.instantiable RX0 3, Cond.initialized RX0, Cond.fieldLink RX4 24 "LoopMemo$State" "answers" "LLoopMemo$Answers;", Cond.classLink RX4 28 RX2, Cond.instantiable RX2 4, Cond.initialized RX2, Cond.fieldLink RX4 31 "LoopMemo$State" "memo" "LLoopMemo$Memo;", Cond.fieldLink RX4 35 "LoopMemo$State" "FIRST_SETTINGS" "[I", Cond.methodLink RX4 39 ⟨"[I", "clone", "()Ljava/lang/Object;"⟩, Cond.sameMethod "[I" "java/lang/Object" "clone" "()Ljava/lang/Object;", Cond.native ⟨"java/lang/Object", "clone", "()Ljava/lang/Object;"⟩, Cond.instanceMethod ⟨"java/lang/Object", "clone", "()Ljava/lang/Object;"⟩, Cond.selects "[I" ⟨"[I", "clone", "()Ljava/lang/Object;"⟩ ⟨"java/lang/Object", "clone", "()Ljava/lang/Object;"⟩]
def wsL_law_r3 : List Cond := [Cond.classLink RX4 40 "[I", Cond.fieldLink RX4 44 "LoopMemo$State" "settings" "[I", Cond.fieldLink RX4 47 "LoopMemo$State" "tallies" "[I", Cond.methodLink RX4 11 yX5_init, Cond.instanceMethod yX5_init, Cond.code yX5_init cX5_init 1 none, Cond.methodLink RX5 3 objectInit, Cond.fieldLink RX5 9 "LoopMemo$Table" "keys" "[I", Cond.fieldLink RX5 15 "LoopMemo$Table" "values" "[I", Cond.methodLink RX4 23 yX0_init, Cond.instanceMethod yX0_init, Cond.code yX0_init cX0_init 1 none, Cond.methodLink RX0 3 objectInit, Cond.fieldLink RX0 9 "LoopMemo$Answers" "rows" "[I", Cond.fieldLink RX0 15 "LoopMemo$Answers" "sums" "[I", Cond.fieldLink RX0 18 "LoopMemo$Answers" "firstRows" "[I", Cond.methodLink RX4 30 yX2_init, Cond.instanceMethod yX2_init, Cond.code yX2_init cX2_init 1 none, Cond.methodLink RX2 3 objectInit, Cond.fieldLink RX2 9 "LoopMemo$Memo" "uses" "[I", Cond.fieldLink RX2 15 "LoopMemo$Memo" "lastLooks" "[I", Cond.fieldLink RX2 18 "LoopMemo$Memo" "firstLooks" "[I", Cond.methodLink RX6 24 yX1_init]
def wsL_law_r4 : List Cond := [Cond.instanceMethod yX1_init, Cond.code yX1_init cX1_init 2 none, Cond.methodLink RX1 3 objectInit, Cond.classLink RX1 11 RX4, Cond.fieldLink RX1 13 "LoopMemo$History" "slots" "[LLoopMemo$State;", Cond.methodLink RX1 17 yX4_init, Cond.methodLink RX6 31 yX3_init, Cond.instanceMethod yX3_init, Cond.code yX3_init cX3_init 1 none, Cond.methodLink RX3 3 objectInit, Cond.fieldLink RX3 9 "LoopMemo$Pad" "codes" "[I", Cond.methodLink RL 114 yL_cell, Cond.static yL_cell, Cond.initialized RL, Cond.code yL_cell cL_cell 2 (some .int), Cond.constant RL 7 (40503), Cond.methodLink RL 118 yL_isActed, Cond.static yL_isActed, Cond.code yL_isActed cL_isActed 12 (some .boolean), Cond.methodLink RL 84 yL_isRow, Cond.static yL_isRow, Cond.code yL_isRow cL_isRow 11 (some .boolean), Cond.methodLink RL 70 yX6_add, Cond.instanceMethod yX6_add]
def wsL_law_r5 : List Cond := [Cond.selects RX6 yX6_add yX6_add, Cond.code yX6_add cX6_add 4 (some .int), Cond.methodLink RX6 36 yX1_prepare, Cond.instanceMethod yX1_prepare, Cond.selects RX1 yX1_prepare yX1_prepare, Cond.code yX1_prepare cX1_prepare 3 none, Cond.fieldLink RX1 22 "LoopMemo$History" "next" "I", Cond.methodLink RX1 25 yX1_slot, Cond.instanceMethod yX1_slot, Cond.selects RX1 yX1_slot yX1_slot, Cond.code yX1_slot cX1_slot 2 (some (.object "LoopMemo$State")), Cond.methodLink RX1 29 yX4_copyFrom, Cond.instanceMethod yX4_copyFrom, Cond.selects RX4 yX4_copyFrom yX4_copyFrom, Cond.code yX4_copyFrom cX4_copyFrom 2 none, Cond.fieldLink RX4 64 "LoopMemo$State" "place" "I", Cond.fieldLink RX4 68 "LoopMemo$State" "total" "I", Cond.methodLink RX4 50 yX5_copyFrom, Cond.instanceMethod yX5_copyFrom, Cond.selects RX5 yX5_copyFrom yX5_copyFrom, Cond.code yX5_copyFrom cX5_copyFrom 2 none, Cond.fieldLink RX5 22 "LoopMemo$Table" "size" "I", Cond.static yX6_copyNumbers, Cond.code yX6_copyNumbers cX6_copyNumbers 2 none]
def wsL_law_r6 : List Cond := [Cond.methodLink RX6 117 Lib.Math.min.name, Cond.static Lib.Math.min.name, Cond.initialized "java/lang/Math", Cond.code Lib.Math.min.name Lib.Math.min.code 2 (some .int), Cond.methodLink RX6 225 arraycopyName, Cond.native arraycopyName, Cond.static arraycopyName, Cond.initialized "java/lang/System", Cond.methodLink RX4 54 yX0_copyFrom, Cond.instanceMethod yX0_copyFrom, Cond.selects RX0 yX0_copyFrom yX0_copyFrom, Cond.code yX0_copyFrom cX0_copyFrom 2 none, Cond.methodLink RX4 57 yX2_copyFrom, Cond.instanceMethod yX2_copyFrom, Cond.selects RX2 yX2_copyFrom yX2_copyFrom, Cond.code yX2_copyFrom cX2_copyFrom 2 none, Cond.fieldLink RX2 25 "LoopMemo$Memo" "looks" "I", Cond.methodLink RX6 40 yX4_insertRow, Cond.instanceMethod yX4_insertRow, Cond.selects RX4 yX4_insertRow yX4_insertRow, Cond.code yX4_insertRow cX4_insertRow 5 (some .int), Cond.static yX6_isRow, Cond.code yX6_isRow cX6_isRow 2 (some .boolean), Cond.methodLink RX6 147 yX6_isKey]
def wsL_law_r7 : List Cond := [Cond.static yX6_isKey, Cond.code yX6_isKey cX6_isKey 1 (some .boolean), Cond.methodLink RX6 76 yX6_isWithin, Cond.static yX6_isWithin, Cond.code yX6_isWithin cX6_isWithin 2 (some .boolean), Cond.methodLink RX4 89 yX4_table, Cond.instanceMethod yX4_table, Cond.selects RX4 yX4_table yX4_table, Cond.code yX4_table cX4_table 2 (some (.object "LoopMemo$Table")), Cond.methodLink RX4 93 yX5_size, Cond.instanceMethod yX5_size, Cond.selects RX5 yX5_size yX5_size, Cond.code yX5_size cX5_size 1 (some .int), Cond.methodLink RX4 97 yX5_push, Cond.instanceMethod yX5_push, Cond.selects RX5 yX5_push yX5_push, Cond.code yX5_push cX5_push 3 none, Cond.methodLink RX5 26 yX5_put, Cond.instanceMethod yX5_put, Cond.selects RX5 yX5_put yX5_put, Cond.code yX5_put cX5_put 4 none, Cond.methodLink RX4 101 yX4_keepTrue, Cond.instanceMethod yX4_keepTrue, Cond.selects RX4 yX4_keepTrue yX4_keepTrue]
def wsL_law_r8 : List Cond := [Cond.code yX4_keepTrue cX4_keepTrue 3 none, Cond.methodLink RX4 134 yX4_findAnswers, Cond.instanceMethod yX4_findAnswers, Cond.selects RX4 yX4_findAnswers yX4_findAnswers, Cond.code yX4_findAnswers cX4_findAnswers 1 none, Cond.methodLink RX4 162 yX0_find, Cond.instanceMethod yX0_find, Cond.selects RX0 yX0_find yX0_find, Cond.code yX0_find cX0_find 7 none, Cond.methodLink RX0 25 yX5_size, Cond.methodLink RX0 31 yX5_value, Cond.instanceMethod yX5_value, Cond.selects RX5 yX5_value yX5_value, Cond.code yX5_value cX5_value 2 (some .int), Cond.methodLink RX0 35 yX5_key, Cond.instanceMethod yX5_key, Cond.selects RX5 yX5_key yX5_key, Cond.code yX5_key cX5_key 2 (some .int), Cond.methodLink RX4 137 yX4_throwAllOut, Cond.instanceMethod yX4_throwAllOut, Cond.selects RX4 yX4_throwAllOut yX4_throwAllOut, Cond.code yX4_throwAllOut cX4_throwAllOut 2 (some .int), Cond.methodLink RX4 125 yX2_loseAll, Cond.instanceMethod yX2_loseAll]
def wsL_law_r9 : List Cond := [Cond.selects RX2 yX2_loseAll yX2_loseAll, Cond.code yX2_loseAll cX2_loseAll 3 (some .int), Cond.methodLink RX2 29 yX2_size, Cond.instanceMethod yX2_size, Cond.selects RX2 yX2_size yX2_size, Cond.code yX2_size cX2_size 3 (some .int), Cond.methodLink RX4 159 yX4_keepAnswerTrue, Cond.instanceMethod yX4_keepAnswerTrue, Cond.selects RX4 yX4_keepAnswerTrue yX4_keepAnswerTrue, Cond.code yX4_keepAnswerTrue cX4_keepAnswerTrue 2 none, Cond.methodLink RX4 75 yX2_holds, Cond.instanceMethod yX2_holds, Cond.selects RX2 yX2_holds yX2_holds, Cond.code yX2_holds cX2_holds 2 (some .boolean), Cond.methodLink RX4 156 yX2_lose, Cond.instanceMethod yX2_lose, Cond.selects RX2 yX2_lose yX2_lose, Cond.code yX2_lose cX2_lose 2 none, Cond.methodLink RX6 44 yX1_commit, Cond.instanceMethod yX1_commit, Cond.selects RX1 yX1_commit yX1_commit, Cond.code yX1_commit cX1_commit 2 (some .int), Cond.fieldLink RX1 18 "LoopMemo$History" "size" "I", Cond.methodLink RX1 33 Lib.Math.min.name]
def wsL_law_r10 : List Cond := [Cond.methodLink RL 73 yL_kept, Cond.static yL_kept, Cond.code yL_kept cL_kept 6 none, Cond.methodLink RL 31 yL_has, Cond.static yL_has, Cond.code yL_has cL_has 4 (some .boolean), Cond.methodLink RL 35 yL_goes, Cond.static yL_goes, Cond.code yL_goes cL_goes 6 (some .int), Cond.methodLink RL 9 yL_many, Cond.static yL_many, Cond.code yL_many cL_many 2 (some .int), Cond.methodLink RL 27 yL_out, Cond.static yL_out, Cond.code yL_out cL_out 5 none, Cond.methodLink RL 88 yL_isGone, Cond.static yL_isGone, Cond.code yL_isGone cL_isGone 10 (some .boolean), Cond.methodLink RL 77 yX6_drop, Cond.instanceMethod yX6_drop, Cond.selects RX6 yX6_drop yX6_drop, Cond.code yX6_drop cX6_drop 3 (some .int), Cond.methodLink RX6 48 yX4_removeRow, Cond.instanceMethod yX4_removeRow]
def wsL_law_r11 : List Cond := [Cond.selects RX4 yX4_removeRow yX4_removeRow, Cond.code yX4_removeRow cX4_removeRow 5 (some .int), Cond.methodLink RX4 104 yX5_has, Cond.instanceMethod yX5_has, Cond.selects RX5 yX5_has yX5_has, Cond.code yX5_has cX5_has 2 (some .boolean), Cond.methodLink RX4 71 yX5_key, Cond.methodLink RX4 107 yX5_takeOut, Cond.instanceMethod yX5_takeOut, Cond.selects RX5 yX5_takeOut yX5_takeOut, Cond.code yX5_takeOut cX5_takeOut 3 none, Cond.methodLink RX5 30 yX5_has, Cond.methodLink RX5 34 yX5_key, Cond.methodLink RX5 38 yX5_value, Cond.methodLink RX4 111 yX4_isDone, Cond.instanceMethod yX4_isDone, Cond.selects RX4 yX4_isDone yX4_isDone, Cond.code yX4_isDone cX4_isDone 2 (some .boolean), Cond.methodLink RL 91 yX6_change, Cond.instanceMethod yX6_change, Cond.selects RX6 yX6_change yX6_change, Cond.code yX6_change cX6_change 4 (some .int), Cond.methodLink RX6 52 yX4_rewriteRow, Cond.instanceMethod yX4_rewriteRow]
def wsL_law_r12 : List Cond := [Cond.selects RX4 yX4_rewriteRow yX4_rewriteRow, Cond.code yX4_rewriteRow cX4_rewriteRow 5 (some .int), Cond.methodLink RX4 114 yX5_put, Cond.methodLink RX4 118 yX2_size, Cond.methodLink RL 95 yL_steps, Cond.static yL_steps, Cond.code yL_steps cL_steps 10 (some .int), Cond.methodLink RL 43 yL_look, Cond.static yL_look, Cond.code yL_look cL_look 7 (some .int), Cond.methodLink RL 15 yL_weight, Cond.static yL_weight, Cond.code yL_weight cL_weight 7 (some .int), Cond.methodLink RL 39 yL_room, Cond.static yL_room, Cond.code yL_room cL_room 8 (some .int), Cond.methodLink RL 19 yL_first, Cond.static yL_first, Cond.code yL_first cL_first 9 (some .int), Cond.methodLink RL 23 yL_weights, Cond.static yL_weights, Cond.code yL_weights cL_weights 5 (some .int), Cond.methodLink RL 99 yX6_step, Cond.instanceMethod yX6_step]
def wsL_law_r13 : List Cond := [Cond.selects RX6 yX6_step yX6_step, Cond.code yX6_step cX6_step 2 (some .int), Cond.methodLink RX6 56 yX4_walk, Cond.instanceMethod yX4_walk, Cond.selects RX4 yX4_walk yX4_walk, Cond.code yX4_walk cX4_walk 5 (some .int), Cond.methodLink RX4 119 yX4_lookUp, Cond.instanceMethod yX4_lookUp, Cond.selects RX4 yX4_lookUp yX4_lookUp, Cond.code yX4_lookUp cX4_lookUp 2 none, Cond.methodLink RX4 143 yX2_touch, Cond.instanceMethod yX2_touch, Cond.selects RX2 yX2_touch yX2_touch, Cond.code yX2_touch cX2_touch 2 none, Cond.methodLink RX4 140 yX0_weight, Cond.instanceMethod yX0_weight, Cond.selects RX0 yX0_weight yX0_weight, Cond.code yX0_weight cX0_weight 2 (some .int), Cond.methodLink RX4 146 yX2_take, Cond.instanceMethod yX2_take, Cond.selects RX2 yX2_take yX2_take, Cond.code yX2_take cX2_take 2 none, Cond.methodLink RX4 131 yX4_makeRoom, Cond.instanceMethod yX4_makeRoom]
def wsL_law_r14 : List Cond := [Cond.selects RX4 yX4_makeRoom yX4_makeRoom, Cond.code yX4_makeRoom cX4_makeRoom 5 (some .int), Cond.methodLink RX4 149 yX4_weightTogether, Cond.instanceMethod yX4_weightTogether, Cond.selects RX4 yX4_weightTogether yX4_weightTogether, Cond.code yX4_weightTogether cX4_weightTogether 3 (some .int), Cond.methodLink RX4 152 yX2_firstOut, Cond.instanceMethod yX2_firstOut, Cond.selects RX2 yX2_firstOut yX2_firstOut, Cond.code yX2_firstOut cX2_firstOut 5 (some .int), Cond.methodLink RX2 33 yX2_rank, Cond.instanceMethod yX2_rank, Cond.selects RX2 yX2_rank yX2_rank, Cond.code yX2_rank cX2_rank 3 (some .long), Cond.methodLink RX4 79 yX5_value, Cond.methodLink RX4 122 yX0_sum, Cond.instanceMethod yX0_sum, Cond.selects RX0 yX0_sum yX0_sum, Cond.code yX0_sum cX0_sum 2 (some .int), Cond.methodLink RL 102 yX6_again, Cond.instanceMethod yX6_again, Cond.selects RX6 yX6_again yX6_again, Cond.code yX6_again cX6_again 1 (some .int), Cond.methodLink RX6 59 yX4_beginAgain]
def wsL_law_r15 : List Cond := [Cond.instanceMethod yX4_beginAgain, Cond.selects RX4 yX4_beginAgain yX4_beginAgain, Cond.code yX4_beginAgain cX4_beginAgain 2 (some .int), Cond.methodLink RL 106 yX6_forget, Cond.instanceMethod yX6_forget, Cond.selects RX6 yX6_forget yX6_forget, Cond.code yX6_forget cX6_forget 1 (some .int), Cond.methodLink RX6 63 yX4_throwAllOut, Cond.methodLink RL 109 yL_isSet, Cond.static yL_isSet, Cond.code yL_isSet cL_isSet 10 (some .boolean), Cond.methodLink RL 81 yX6_set, Cond.instanceMethod yX6_set, Cond.selects RX6 yX6_set yX6_set, Cond.code yX6_set cX6_set 3 (some .int), Cond.methodLink RX6 66 yX4_adjust, Cond.instanceMethod yX4_adjust, Cond.selects RX4 yX4_adjust yX4_adjust, Cond.code yX4_adjust cX4_adjust 3 (some .int), Cond.fieldLink RX4 128 "LoopMemo$State" "HIGHEST_SETTINGS" "[I", Cond.methodLink RL 122 yL_areTold, Cond.static yL_areTold, Cond.code yL_areTold cL_areTold 15 (some .boolean), Cond.methodLink RL 46 yX6_count]
def wsL_law_r16 : List Cond := [Cond.instanceMethod yX6_count, Cond.selects RX6 yX6_count yX6_count, Cond.code yX6_count cX6_count 2 (some .int), Cond.methodLink RX6 87 yX4_table, Cond.methodLink RX6 91 yX5_size, Cond.methodLink RX6 159 yX4_memo, Cond.instanceMethod yX4_memo, Cond.selects RX4 yX4_memo yX4_memo, Cond.code yX4_memo cX4_memo 1 (some (.object "LoopMemo$Memo")), Cond.methodLink RX6 177 yX2_size, Cond.methodLink RX6 178 yX4_weightTogether, Cond.methodLink RX6 181 yX4_place, Cond.instanceMethod yX4_place, Cond.selects RX4 yX4_place yX4_place, Cond.code yX4_place cX4_place 1 (some .int), Cond.methodLink RX6 184 yX4_totalSoFar, Cond.instanceMethod yX4_totalSoFar, Cond.selects RX4 yX4_totalSoFar yX4_totalSoFar, Cond.code yX4_totalSoFar cX4_totalSoFar 1 (some .int), Cond.methodLink RX6 171 yX4_setting, Cond.instanceMethod yX4_setting, Cond.selects RX4 yX4_setting yX4_setting, Cond.code yX4_setting cX4_setting 2 (some .int), Cond.methodLink RX6 187 yX3_size]
def wsL_law_r17 : List Cond := [Cond.instanceMethod yX3_size, Cond.selects RX3 yX3_size yX3_size, Cond.code yX3_size cX3_size 1 (some .int), Cond.fieldLink RX3 15 "LoopMemo$Pad" "size" "I", Cond.methodLink RX6 188 yX1_size, Cond.instanceMethod yX1_size, Cond.selects RX1 yX1_size yX1_size, Cond.code yX1_size cX1_size 1 (some .int), Cond.methodLink RX6 189 yX4_tally, Cond.instanceMethod yX4_tally, Cond.selects RX4 yX4_tally yX4_tally, Cond.code yX4_tally cX4_tally 2 (some .int), Cond.methodLink RL 52 yX6_rate, Cond.instanceMethod yX6_rate, Cond.selects RX6 yX6_rate yX6_rate, Cond.code yX6_rate cX6_rate 3 (some .double), Cond.methodLink RL 56 yX6_remembered, Cond.instanceMethod yX6_remembered, Cond.selects RX6 yX6_remembered yX6_remembered, Cond.code yX6_remembered cX6_remembered 3 (some .int), Cond.methodLink RX6 163 yX2_holds, Cond.methodLink RX6 168 yX2_uses, Cond.instanceMethod yX2_uses, Cond.selects RX2 yX2_uses yX2_uses]
def wsL_law_r18 : List Cond := [Cond.code yX2_uses cX2_uses 2 (some .int), Cond.methodLink RX6 174 yX2_placeOf, Cond.instanceMethod yX2_placeOf, Cond.selects RX2 yX2_placeOf yX2_placeOf, Cond.code yX2_placeOf cX2_placeOf 5 (some .int), Cond.methodLink RX6 150 yX4_answers, Cond.instanceMethod yX4_answers, Cond.selects RX4 yX4_answers yX4_answers, Cond.code yX4_answers cX4_answers 1 (some (.object "LoopMemo$Answers")), Cond.methodLink RX6 154 yX0_tell, Cond.instanceMethod yX0_tell, Cond.selects RX0 yX0_tell yX0_tell, Cond.code yX0_tell cX0_tell 3 (some .int), Cond.methodLink RX0 38 yX0_weight, Cond.methodLink RL 60 yX6_answer, Cond.instanceMethod yX6_answer, Cond.selects RX6 yX6_answer yX6_answer, Cond.code yX6_answer cX6_answer 3 (some .int), Cond.methodLink RL 126 yL_areRows, Cond.static yL_areRows, Cond.code yL_areRows cL_areRows 9 (some .boolean), Cond.methodLink RL 63 yX6_row, Cond.instanceMethod yX6_row, Cond.selects RX6 yX6_row yX6_row]
def wsL_law_r19 : List Cond := [Cond.code yX6_row cX6_row 5 (some .int), Cond.methodLink RX6 131 yX5_has, Cond.methodLink RX6 135 yX5_key, Cond.methodLink RX6 138 yX5_value, Cond.methodLink RX6 141 yX4_isInRememberedAnswer, Cond.instanceMethod yX4_isInRememberedAnswer, Cond.selects RX4 yX4_isInRememberedAnswer yX4_isInRememberedAnswer, Cond.code yX4_isInRememberedAnswer cX4_isInRememberedAnswer 2 (some .boolean), Cond.methodLink RX4 82 yX4_isInBand, Cond.instanceMethod yX4_isInBand, Cond.selects RX4 yX4_isInBand yX4_isInBand, Cond.code yX4_isInBand cX4_isInBand 2 (some .boolean), Cond.methodLink RX6 144 yX4_isDone, Cond.methodLink RL 67 yX6_total, Cond.instanceMethod yX6_total, Cond.selects RX6 yX6_total yX6_total, Cond.code yX6_total cX6_total 2 (some .int), Cond.methodLink RX6 192 yX4_totalByAnswers, Cond.instanceMethod yX4_totalByAnswers, Cond.selects RX4 yX4_totalByAnswers yX4_totalByAnswers, Cond.code yX4_totalByAnswers cX4_totalByAnswers 3 (some .int), Cond.methodLink RX6 195 yX4_totalByRows, Cond.instanceMethod yX4_totalByRows, Cond.selects RX4 yX4_totalByRows yX4_totalByRows]
def wsL_law_r20 : List Cond := [Cond.code yX4_totalByRows cX4_totalByRows 4 (some .int)]
def wsL_law : List Cond := (wsL_law_r1 ++ (wsL_law_r2 ++ (wsL_law_r3 ++ (wsL_law_r4 ++ (wsL_law_r5 ++ (wsL_law_r6 ++ (wsL_law_r7 ++ (wsL_law_r8 ++ (wsL_law_r9 ++ (wsL_law_r10 ++ (wsL_law_r11 ++ (wsL_law_r12 ++ (wsL_law_r13 ++ (wsL_law_r14 ++ (wsL_law_r15 ++ (wsL_law_r16 ++ (wsL_law_r17 ++ (wsL_law_r18 ++ (wsL_law_r19 ++ wsL_law_r20))))))))))))))))))) ++ wsX60 ++ wsX40 ++ wsX10 ++ wsX30 ++ wsX50 ++ wsX00 ++ wsX20 ++ ([] : List Cond)
theorem dX0_init_0 : decode cX0_init 0 = .ok (.aload_n 0, 1) := by decide +kernel
theorem dX0_init_1 : decode cX0_init 1 = .ok (.invokespecial 3, 3) := by decide +kernel
theorem dX0_init_4 : decode cX0_init 4 = .ok (.aload_n 0, 1) := by decide +kernel
theorem dX0_init_5 : decode cX0_init 5 = .ok (.bipush 10, 2) := by decide +kernel
theorem dX0_init_7 : decode cX0_init 7 = .ok (.newarray .int, 2) := by decide +kernel
theorem dX0_init_9 : decode cX0_init 9 = .ok (.putfield 9, 3) := by decide +kernel
theorem dX0_init_12 : decode cX0_init 12 = .ok (.aload_n 0, 1) := by decide +kernel
theorem dX0_init_13 : decode cX0_init 13 = .ok (.bipush 10, 2) := by decide +kernel
theorem dX0_init_15 : decode cX0_init 15 = .ok (.newarray .int, 2) := by decide +kernel
theorem dX0_init_17 : decode cX0_init 17 = .ok (.putfield 15, 3) := by decide +kernel
theorem dX0_init_20 : decode cX0_init 20 = .ok (.aload_n 0, 1) := by decide +kernel
theorem dX0_init_21 : decode cX0_init 21 = .ok (.bipush 10, 2) := by decide +kernel
theorem dX0_init_23 : decode cX0_init 23 = .ok (.newarray .int, 2) := by decide +kernel
theorem dX0_init_25 : decode cX0_init 25 = .ok (.putfield 18, 3) := by decide +kernel
theorem dX0_init_28 : decode cX0_init 28 = .ok (.return_, 1) := by decide +kernel
set_option maxRecDepth 20000 in
theorem ggX0_copyFrom_X6_copyNumbers : GoodIn wsX0_copyFrom wsX6_copyNumbers := goodIn_r _ [6, 7, 8, 9, 10, 11, 12, 13, 14] (by decide +kernel) (by decide +kernel)
set_option maxRecDepth 20000 in
theorem gX0_copyFrom_X6_copyNumbers_n21 : GoodIn wsX0_copyFrom (wsX6_copyNumbers) := ggX0_copyFrom_X6_copyNumbers
theorem dX0_copyFrom_0 : decode cX0_copyFrom 0 = .ok (.aload_n 1, 1) := by decide +kernel
theorem dX0_copyFrom_1 : decode cX0_copyFrom 1 = .ok (.getfield 9, 3) := by decide +kernel
theorem dX0_copyFrom_4 : decode cX0_copyFrom 4 = .ok (.aload_n 0, 1) := by decide +kernel
theorem dX0_copyFrom_5 : decode cX0_copyFrom 5 = .ok (.getfield 9, 3) := by decide +kernel
theorem dX0_copyFrom_8 : decode cX0_copyFrom 8 = .ok (.invokestatic 21, 3) := by decide +kernel
theorem dX0_copyFrom_11 : decode cX0_copyFrom 11 = .ok (.aload_n 1, 1) := by decide +kernel
theorem dX0_copyFrom_12 : decode cX0_copyFrom 12 = .ok (.getfield 15, 3) := by decide +kernel
theorem dX0_copyFrom_15 : decode cX0_copyFrom 15 = .ok (.aload_n 0, 1) := by decide +kernel
theorem dX0_copyFrom_16 : decode cX0_copyFrom 16 = .ok (.getfield 15, 3) := by decide +kernel
theorem dX0_copyFrom_19 : decode cX0_copyFrom 19 = .ok (.invokestatic 21, 3) := by decide +kernel
theorem dX0_copyFrom_22 : decode cX0_copyFrom 22 = .ok (.aload_n 1, 1) := by decide +kernel
theorem dX0_copyFrom_23 : decode cX0_copyFrom 23 = .ok (.getfield 18, 3) := by decide +kernel
theorem dX0_copyFrom_26 : decode cX0_copyFrom 26 = .ok (.aload_n 0, 1) := by decide +kernel
theorem dX0_copyFrom_27 : decode cX0_copyFrom 27 = .ok (.getfield 18, 3) := by decide +kernel
theorem dX0_copyFrom_30 : decode cX0_copyFrom 30 = .ok (.invokestatic 21, 3) := by decide +kernel
theorem dX0_copyFrom_33 : decode cX0_copyFrom 33 = .ok (.return_, 1) := by decide +kernel
set_option maxRecDepth 20000 in
theorem ggX0_find_X5_size : GoodIn wsX0_find wsX5_size := goodIn_r _ [8, 9, 23, 24, 25] (by decide +kernel) (by decide +kernel)
set_option maxRecDepth 20000 in
theorem gX0_find_X5_size : GoodIn wsX0_find (wsV RX0 25 RX5 yX5_size wsX5_size) := goodIn_app (goodIn_of _ (by decide +kernel)) ggX0_find_X5_size
set_option maxRecDepth 20000 in
theorem ggX0_find_X5_value : GoodIn wsX0_find wsX5_value := goodIn_r _ [13, 14, 23, 24, 25] (by decide +kernel) (by decide +kernel)
set_option maxRecDepth 20000 in
theorem gX0_find_X5_value : GoodIn wsX0_find (wsV RX0 31 RX5 yX5_value wsX5_value) := goodIn_app (goodIn_of _ (by decide +kernel)) ggX0_find_X5_value
set_option maxRecDepth 20000 in
theorem ggX0_find_X5_key : GoodIn wsX0_find wsX5_key := goodIn_r _ [18, 19, 23, 24, 25] (by decide +kernel) (by decide +kernel)
set_option maxRecDepth 20000 in
theorem gX0_find_X5_key : GoodIn wsX0_find (wsV RX0 35 RX5 yX5_key wsX5_key) := goodIn_app (goodIn_of _ (by decide +kernel)) ggX0_find_X5_key
theorem dX0_find_0 : decode cX0_find 0 = .ok (.iconst 0, 1) := by decide +kernel
theorem dX0_find_1 : decode cX0_find 1 = .ok (.istore 4, 2) := by decide +kernel
theorem dX0_find_3 : decode cX0_find 3 = .ok (.iload 4, 2) := by decide +kernel
theorem dX0_find_5 : decode cX0_find 5 = .ok (.bipush 10, 2) := by decide +kernel
theorem dX0_find_7 : decode cX0_find 7 = .ok (.if_icmp .ge 25, 3) := by decide +kernel
theorem dX0_find_10 : decode cX0_find 10 = .ok (.aload_n 0, 1) := by decide +kernel
theorem dX0_find_11 : decode cX0_find 11 = .ok (.getfield 9, 3) := by decide +kernel
theorem dX0_find_14 : decode cX0_find 14 = .ok (.iload 4, 2) := by decide +kernel
theorem dX0_find_16 : decode cX0_find 16 = .ok (.iconst 0, 1) := by decide +kernel
theorem dX0_find_17 : decode cX0_find 17 = .ok (.iastore, 1) := by decide +kernel
theorem dX0_find_18 : decode cX0_find 18 = .ok (.aload_n 0, 1) := by decide +kernel
theorem dX0_find_19 : decode cX0_find 19 = .ok (.getfield 15, 3) := by decide +kernel
theorem dX0_find_22 : decode cX0_find 22 = .ok (.iload 4, 2) := by decide +kernel
theorem dX0_find_24 : decode cX0_find 24 = .ok (.iconst 0, 1) := by decide +kernel
theorem dX0_find_25 : decode cX0_find 25 = .ok (.iastore, 1) := by decide +kernel
theorem dX0_find_26 : decode cX0_find 26 = .ok (.iinc 4 1, 3) := by decide +kernel
theorem dX0_find_29 : decode cX0_find 29 = .ok (.goto (-26), 3) := by decide +kernel
theorem dX0_find_32 : decode cX0_find 32 = .ok (.aload_n 1, 1) := by decide +kernel
theorem dX0_find_33 : decode cX0_find 33 = .ok (.invokevirtual 25, 3) := by decide +kernel
theorem dX0_find_36 : decode cX0_find 36 = .ok (.iconst 1, 1) := by decide +kernel
theorem dX0_find_37 : decode cX0_find 37 = .ok (.isub, 1) := by decide +kernel
theorem dX0_find_38 : decode cX0_find 38 = .ok (.istore 4, 2) := by decide +kernel
theorem dX0_find_40 : decode cX0_find 40 = .ok (.iload 4, 2) := by decide +kernel
theorem dX0_find_42 : decode cX0_find 42 = .ok (.ifCond .lt 81, 3) := by decide +kernel
theorem dX0_find_45 : decode cX0_find 45 = .ok (.aload_n 1, 1) := by decide +kernel
theorem dX0_find_46 : decode cX0_find 46 = .ok (.iload 4, 2) := by decide +kernel
theorem dX0_find_48 : decode cX0_find 48 = .ok (.invokevirtual 31, 3) := by decide +kernel
theorem dX0_find_51 : decode cX0_find 51 = .ok (.istore 5, 2) := by decide +kernel
theorem dX0_find_53 : decode cX0_find 53 = .ok (.aload_n 1, 1) := by decide +kernel
theorem dX0_find_54 : decode cX0_find 54 = .ok (.iload 4, 2) := by decide +kernel
theorem dX0_find_56 : decode cX0_find 56 = .ok (.invokevirtual 35, 3) := by decide +kernel
theorem dX0_find_59 : decode cX0_find 59 = .ok (.istore 6, 2) := by decide +kernel
theorem dX0_find_61 : decode cX0_find 61 = .ok (.iload 6, 2) := by decide +kernel
theorem dX0_find_63 : decode cX0_find 63 = .ok (.ifCond .lt 54, 3) := by decide +kernel
theorem dX0_find_66 : decode cX0_find 66 = .ok (.iload 6, 2) := by decide +kernel
theorem dX0_find_68 : decode cX0_find 68 = .ok (.bipush 10, 2) := by decide +kernel
theorem dX0_find_70 : decode cX0_find 70 = .ok (.if_icmp .ge 47, 3) := by decide +kernel
theorem dX0_find_73 : decode cX0_find 73 = .ok (.iload 5, 2) := by decide +kernel
theorem dX0_find_75 : decode cX0_find 75 = .ok (.iload_n 2, 1) := by decide +kernel
theorem dX0_find_76 : decode cX0_find 76 = .ok (.if_icmp .lt 41, 3) := by decide +kernel
theorem dX0_find_79 : decode cX0_find 79 = .ok (.iload 5, 2) := by decide +kernel
theorem dX0_find_81 : decode cX0_find 81 = .ok (.iload_n 3, 1) := by decide +kernel
theorem dX0_find_82 : decode cX0_find 82 = .ok (.if_icmp .gt 35, 3) := by decide +kernel
theorem dX0_find_85 : decode cX0_find 85 = .ok (.aload_n 0, 1) := by decide +kernel
theorem dX0_find_86 : decode cX0_find 86 = .ok (.getfield 9, 3) := by decide +kernel
theorem dX0_find_89 : decode cX0_find 89 = .ok (.iload 6, 2) := by decide +kernel
theorem dX0_find_91 : decode cX0_find 91 = .ok (.dup2, 1) := by decide +kernel
theorem dX0_find_92 : decode cX0_find 92 = .ok (.iaload, 1) := by decide +kernel
theorem dX0_find_93 : decode cX0_find 93 = .ok (.iconst 1, 1) := by decide +kernel
theorem dX0_find_94 : decode cX0_find 94 = .ok (.iadd, 1) := by decide +kernel
theorem dX0_find_95 : decode cX0_find 95 = .ok (.iastore, 1) := by decide +kernel
theorem dX0_find_96 : decode cX0_find 96 = .ok (.aload_n 0, 1) := by decide +kernel
theorem dX0_find_97 : decode cX0_find 97 = .ok (.getfield 15, 3) := by decide +kernel
theorem dX0_find_100 : decode cX0_find 100 = .ok (.iload 6, 2) := by decide +kernel
theorem dX0_find_102 : decode cX0_find 102 = .ok (.dup2, 1) := by decide +kernel
theorem dX0_find_103 : decode cX0_find 103 = .ok (.iaload, 1) := by decide +kernel
theorem dX0_find_104 : decode cX0_find 104 = .ok (.iload 5, 2) := by decide +kernel
theorem dX0_find_106 : decode cX0_find 106 = .ok (.iadd, 1) := by decide +kernel
theorem dX0_find_107 : decode cX0_find 107 = .ok (.iastore, 1) := by decide +kernel
theorem dX0_find_108 : decode cX0_find 108 = .ok (.aload_n 0, 1) := by decide +kernel
theorem dX0_find_109 : decode cX0_find 109 = .ok (.getfield 18, 3) := by decide +kernel
theorem dX0_find_112 : decode cX0_find 112 = .ok (.iload 6, 2) := by decide +kernel
theorem dX0_find_114 : decode cX0_find 114 = .ok (.iload 4, 2) := by decide +kernel
theorem dX0_find_116 : decode cX0_find 116 = .ok (.iastore, 1) := by decide +kernel
theorem dX0_find_117 : decode cX0_find 117 = .ok (.iinc 4 (-1), 3) := by decide +kernel
theorem dX0_find_120 : decode cX0_find 120 = .ok (.goto (-80), 3) := by decide +kernel
theorem dX0_find_123 : decode cX0_find 123 = .ok (.return_, 1) := by decide +kernel
theorem dX0_weight_0 : decode cX0_weight 0 = .ok (.iconst 2, 1) := by decide +kernel
theorem dX0_weight_1 : decode cX0_weight 1 = .ok (.iload_n 1, 1) := by decide +kernel
theorem dX0_weight_2 : decode cX0_weight 2 = .ok (.ifCond .lt 21, 3) := by decide +kernel
theorem dX0_weight_5 : decode cX0_weight 5 = .ok (.iload_n 1, 1) := by decide +kernel
theorem dX0_weight_6 : decode cX0_weight 6 = .ok (.aload_n 0, 1) := by decide +kernel
theorem dX0_weight_7 : decode cX0_weight 7 = .ok (.getfield 9, 3) := by decide +kernel
theorem dX0_weight_10 : decode cX0_weight 10 = .ok (.arraylength, 1) := by decide +kernel
theorem dX0_weight_11 : decode cX0_weight 11 = .ok (.if_icmp .ge 12, 3) := by decide +kernel
theorem dX0_weight_14 : decode cX0_weight 14 = .ok (.aload_n 0, 1) := by decide +kernel
theorem dX0_weight_15 : decode cX0_weight 15 = .ok (.getfield 9, 3) := by decide +kernel
theorem dX0_weight_18 : decode cX0_weight 18 = .ok (.iload_n 1, 1) := by decide +kernel
theorem dX0_weight_19 : decode cX0_weight 19 = .ok (.iaload, 1) := by decide +kernel
theorem dX0_weight_20 : decode cX0_weight 20 = .ok (.goto 4, 3) := by decide +kernel
theorem dX0_weight_23 : decode cX0_weight 23 = .ok (.iconst 0, 1) := by decide +kernel
theorem dX0_weight_24 : decode cX0_weight 24 = .ok (.iadd, 1) := by decide +kernel
theorem dX0_weight_25 : decode cX0_weight 25 = .ok (.ireturn, 1) := by decide +kernel
theorem dX0_sum_0 : decode cX0_sum 0 = .ok (.iload_n 1, 1) := by decide +kernel
theorem dX0_sum_1 : decode cX0_sum 1 = .ok (.ifCond .lt 21, 3) := by decide +kernel
theorem dX0_sum_4 : decode cX0_sum 4 = .ok (.iload_n 1, 1) := by decide +kernel
theorem dX0_sum_5 : decode cX0_sum 5 = .ok (.aload_n 0, 1) := by decide +kernel
theorem dX0_sum_6 : decode cX0_sum 6 = .ok (.getfield 15, 3) := by decide +kernel
theorem dX0_sum_9 : decode cX0_sum 9 = .ok (.arraylength, 1) := by decide +kernel
theorem dX0_sum_10 : decode cX0_sum 10 = .ok (.if_icmp .ge 12, 3) := by decide +kernel
theorem dX0_sum_13 : decode cX0_sum 13 = .ok (.aload_n 0, 1) := by decide +kernel
theorem dX0_sum_14 : decode cX0_sum 14 = .ok (.getfield 15, 3) := by decide +kernel
theorem dX0_sum_17 : decode cX0_sum 17 = .ok (.iload_n 1, 1) := by decide +kernel
theorem dX0_sum_18 : decode cX0_sum 18 = .ok (.iaload, 1) := by decide +kernel
theorem dX0_sum_19 : decode cX0_sum 19 = .ok (.goto 4, 3) := by decide +kernel
theorem dX0_sum_22 : decode cX0_sum 22 = .ok (.iconst 0, 1) := by decide +kernel
theorem dX0_sum_23 : decode cX0_sum 23 = .ok (.ireturn, 1) := by decide +kernel
set_option maxRecDepth 20000 in
theorem ggX0_tell_X0_weight : GoodIn wsX0_tell wsX0_weight := goodIn_r _ [8, 1, 9, 10, 11] (by decide +kernel) (by decide +kernel)
set_option maxRecDepth 20000 in
theorem gX0_tell_X0_weight : GoodIn wsX0_tell (wsV RX0 38 RX0 yX0_weight wsX0_weight) := goodIn_app (goodIn_of _ (by decide +kernel)) ggX0_tell_X0_weight
theorem dX0_tell_0 : decode cX0_tell 0 = .ok (.iload_n 1, 1) := by decide +kernel
theorem dX0_tell_1 : decode cX0_tell 1 = .ok (.ifCond .lt 9, 3) := by decide +kernel
theorem dX0_tell_4 : decode cX0_tell 4 = .ok (.iload_n 1, 1) := by decide +kernel
theorem dX0_tell_5 : decode cX0_tell 5 = .ok (.bipush 10, 2) := by decide +kernel
theorem dX0_tell_7 : decode cX0_tell 7 = .ok (.if_icmp .lt 5, 3) := by decide +kernel
theorem dX0_tell_10 : decode cX0_tell 10 = .ok (.iconst (-1), 1) := by decide +kernel
theorem dX0_tell_11 : decode cX0_tell 11 = .ok (.ireturn, 1) := by decide +kernel
theorem dX0_tell_12 : decode cX0_tell 12 = .ok (.iload_n 2, 1) := by decide +kernel
theorem dX0_tell_13 : decode cX0_tell 13 = .ok (.tableswitch 47 0 2 #[27, 34, 40], 27) := by decide +kernel
theorem dX0_tell_40 : decode cX0_tell 40 = .ok (.aload_n 0, 1) := by decide +kernel
theorem dX0_tell_41 : decode cX0_tell 41 = .ok (.getfield 9, 3) := by decide +kernel
theorem dX0_tell_44 : decode cX0_tell 44 = .ok (.iload_n 1, 1) := by decide +kernel
theorem dX0_tell_45 : decode cX0_tell 45 = .ok (.iaload, 1) := by decide +kernel
theorem dX0_tell_46 : decode cX0_tell 46 = .ok (.ireturn, 1) := by decide +kernel
theorem dX0_tell_47 : decode cX0_tell 47 = .ok (.aload_n 0, 1) := by decide +kernel
theorem dX0_tell_48 : decode cX0_tell 48 = .ok (.iload_n 1, 1) := by decide +kernel
theorem dX0_tell_49 : decode cX0_tell 49 = .ok (.invokevirtual 38, 3) := by decide +kernel
theorem dX0_tell_52 : decode cX0_tell 52 = .ok (.ireturn, 1) := by decide +kernel
theorem dX0_tell_53 : decode cX0_tell 53 = .ok (.aload_n 0, 1) := by decide +kernel
theorem dX0_tell_54 : decode cX0_tell 54 = .ok (.getfield 15, 3) := by decide +kernel
theorem dX0_tell_57 : decode cX0_tell 57 = .ok (.iload_n 1, 1) := by decide +kernel
theorem dX0_tell_58 : decode cX0_tell 58 = .ok (.iaload, 1) := by decide +kernel
theorem dX0_tell_59 : decode cX0_tell 59 = .ok (.ireturn, 1) := by decide +kernel
theorem dX0_tell_60 : decode cX0_tell 60 = .ok (.aload_n 0, 1) := by decide +kernel
theorem dX0_tell_61 : decode cX0_tell 61 = .ok (.getfield 9, 3) := by decide +kernel
theorem dX0_tell_64 : decode cX0_tell 64 = .ok (.iload_n 1, 1) := by decide +kernel
theorem dX0_tell_65 : decode cX0_tell 65 = .ok (.iaload, 1) := by decide +kernel
theorem dX0_tell_66 : decode cX0_tell 66 = .ok (.ifCond .ne 8, 3) := by decide +kernel
theorem dX0_tell_69 : decode cX0_tell 69 = .ok (.bipush (-4), 2) := by decide +kernel
theorem dX0_tell_71 : decode cX0_tell 71 = .ok (.goto 9, 3) := by decide +kernel
theorem dX0_tell_74 : decode cX0_tell 74 = .ok (.aload_n 0, 1) := by decide +kernel
theorem dX0_tell_75 : decode cX0_tell 75 = .ok (.getfield 18, 3) := by decide +kernel
theorem dX0_tell_78 : decode cX0_tell 78 = .ok (.iload_n 1, 1) := by decide +kernel
theorem dX0_tell_79 : decode cX0_tell 79 = .ok (.iaload, 1) := by decide +kernel
theorem dX0_tell_80 : decode cX0_tell 80 = .ok (.ireturn, 1) := by decide +kernel
set_option maxRecDepth 20000 in
theorem ggX1_init_X4_init : GoodIn wsX1_init wsX4_init := goodIn_r _ [10, 11, 2, 3, 12, 13, 14, 15, 16, 17, 18, 19, 20, 21, 22, 23, 24, 25, 26, 27, 28, 29, 30, 31, 32, 33, 34, 35, 36, 37, 38, 39, 40, 41, 42, 43, 44, 45, 46, 47, 48, 49, 50, 51, 52, 53, 54, 66, 67, 68, 58, 59, 60, 61, 62, 63, 64, 65, 69, 70, 71, 72, 73, 74, 75] (by decide +kernel) (by decide +kernel)
set_option maxRecDepth 20000 in
theorem gX1_init_X4_init : GoodIn wsX1_init (wsX4_init) := ggX1_init_X4_init
theorem dX1_init_0 : decode cX1_init 0 = .ok (.aload_n 0, 1) := by decide +kernel
theorem dX1_init_1 : decode cX1_init 1 = .ok (.invokespecial 3, 3) := by decide +kernel
theorem dX1_init_4 : decode cX1_init 4 = .ok (.aload_n 0, 1) := by decide +kernel
theorem dX1_init_5 : decode cX1_init 5 = .ok (.iconst 5, 1) := by decide +kernel
theorem dX1_init_6 : decode cX1_init 6 = .ok (.anewarray 11, 3) := by decide +kernel
theorem dX1_init_9 : decode cX1_init 9 = .ok (.putfield 13, 3) := by decide +kernel
theorem dX1_init_12 : decode cX1_init 12 = .ok (.iconst 0, 1) := by decide +kernel
theorem dX1_init_13 : decode cX1_init 13 = .ok (.istore_n 1, 1) := by decide +kernel
theorem dX1_init_14 : decode cX1_init 14 = .ok (.iload_n 1, 1) := by decide +kernel
theorem dX1_init_15 : decode cX1_init 15 = .ok (.iconst 5, 1) := by decide +kernel
theorem dX1_init_16 : decode cX1_init 16 = .ok (.if_icmp .ge 22, 3) := by decide +kernel
theorem dX1_init_19 : decode cX1_init 19 = .ok (.aload_n 0, 1) := by decide +kernel
theorem dX1_init_20 : decode cX1_init 20 = .ok (.getfield 13, 3) := by decide +kernel
theorem dX1_init_23 : decode cX1_init 23 = .ok (.iload_n 1, 1) := by decide +kernel
theorem dX1_init_24 : decode cX1_init 24 = .ok (.new 11, 3) := by decide +kernel
theorem dX1_init_27 : decode cX1_init 27 = .ok (.dup, 1) := by decide +kernel
theorem dX1_init_28 : decode cX1_init 28 = .ok (.invokespecial 17, 3) := by decide +kernel
theorem dX1_init_31 : decode cX1_init 31 = .ok (.aastore, 1) := by decide +kernel
theorem dX1_init_32 : decode cX1_init 32 = .ok (.iinc 1 1, 3) := by decide +kernel
theorem dX1_init_35 : decode cX1_init 35 = .ok (.goto (-21), 3) := by decide +kernel
theorem dX1_init_38 : decode cX1_init 38 = .ok (.return_, 1) := by decide +kernel
theorem dX1_size_0 : decode cX1_size 0 = .ok (.aload_n 0, 1) := by decide +kernel
theorem dX1_size_1 : decode cX1_size 1 = .ok (.getfield 18, 3) := by decide +kernel
theorem dX1_size_4 : decode cX1_size 4 = .ok (.ireturn, 1) := by decide +kernel
set_option maxRecDepth 20000 in
theorem ggX1_prepare_X1_slot : GoodIn wsX1_prepare wsX1_slot := goodIn_r _ [6, 7, 57, 58, 59] (by decide +kernel) (by decide +kernel)
set_option maxRecDepth 20000 in
theorem gX1_prepare_X1_slot : GoodIn wsX1_prepare (wsV RX1 25 RX1 yX1_slot wsX1_slot) := goodIn_app (goodIn_of _ (by decide +kernel)) ggX1_prepare_X1_slot
set_option maxRecDepth 20000 in
theorem ggX1_prepare_X4_copyFrom : GoodIn wsX1_prepare wsX4_copyFrom := goodIn_r _ [12, 13, 14, 15, 16, 17, 18, 19, 20, 21, 22, 23, 24, 25, 26, 27, 28, 29, 30, 31, 32, 33, 34, 35, 36, 37, 38, 39, 40, 41, 42, 43, 44, 45, 46, 47, 48, 49, 50, 51, 52, 53, 54, 55, 56, 60, 61, 62, 63, 64, 65, 66, 67, 68, 69, 70, 71, 72, 73, 74, 75, 76, 77] (by decide +kernel) (by decide +kernel)
set_option maxRecDepth 20000 in
theorem gX1_prepare_X4_copyFrom : GoodIn wsX1_prepare (wsV RX1 29 RX4 yX4_copyFrom wsX4_copyFrom) := goodIn_app (goodIn_of _ (by decide +kernel)) ggX1_prepare_X4_copyFrom
theorem dX1_prepare_0 : decode cX1_prepare 0 = .ok (.aload_n 0, 1) := by decide +kernel
theorem dX1_prepare_1 : decode cX1_prepare 1 = .ok (.aload_n 0, 1) := by decide +kernel
theorem dX1_prepare_2 : decode cX1_prepare 2 = .ok (.getfield 22, 3) := by decide +kernel
theorem dX1_prepare_5 : decode cX1_prepare 5 = .ok (.invokevirtual 25, 3) := by decide +kernel
theorem dX1_prepare_8 : decode cX1_prepare 8 = .ok (.astore_n 2, 1) := by decide +kernel
theorem dX1_prepare_9 : decode cX1_prepare 9 = .ok (.aload_n 2, 1) := by decide +kernel
theorem dX1_prepare_10 : decode cX1_prepare 10 = .ok (.ifnull 8, 3) := by decide +kernel
theorem dX1_prepare_13 : decode cX1_prepare 13 = .ok (.aload_n 2, 1) := by decide +kernel
theorem dX1_prepare_14 : decode cX1_prepare 14 = .ok (.aload_n 1, 1) := by decide +kernel
theorem dX1_prepare_15 : decode cX1_prepare 15 = .ok (.invokevirtual 29, 3) := by decide +kernel
theorem dX1_prepare_18 : decode cX1_prepare 18 = .ok (.return_, 1) := by decide +kernel
theorem dX1_commit_0 : decode cX1_commit 0 = .ok (.iload_n 1, 1) := by decide +kernel
theorem dX1_commit_1 : decode cX1_commit 1 = .ok (.ifCond .lt 29, 3) := by decide +kernel
theorem dX1_commit_4 : decode cX1_commit 4 = .ok (.aload_n 0, 1) := by decide +kernel
theorem dX1_commit_5 : decode cX1_commit 5 = .ok (.aload_n 0, 1) := by decide +kernel
theorem dX1_commit_6 : decode cX1_commit 6 = .ok (.getfield 22, 3) := by decide +kernel
theorem dX1_commit_9 : decode cX1_commit 9 = .ok (.iconst 1, 1) := by decide +kernel
theorem dX1_commit_10 : decode cX1_commit 10 = .ok (.iadd, 1) := by decide +kernel
theorem dX1_commit_11 : decode cX1_commit 11 = .ok (.iconst 5, 1) := by decide +kernel
theorem dX1_commit_12 : decode cX1_commit 12 = .ok (.irem, 1) := by decide +kernel
theorem dX1_commit_13 : decode cX1_commit 13 = .ok (.putfield 22, 3) := by decide +kernel
theorem dX1_commit_16 : decode cX1_commit 16 = .ok (.aload_n 0, 1) := by decide +kernel
theorem dX1_commit_17 : decode cX1_commit 17 = .ok (.aload_n 0, 1) := by decide +kernel
theorem dX1_commit_18 : decode cX1_commit 18 = .ok (.getfield 18, 3) := by decide +kernel
theorem dX1_commit_21 : decode cX1_commit 21 = .ok (.iconst 1, 1) := by decide +kernel
theorem dX1_commit_22 : decode cX1_commit 22 = .ok (.iadd, 1) := by decide +kernel
theorem dX1_commit_23 : decode cX1_commit 23 = .ok (.iconst 4, 1) := by decide +kernel
theorem dX1_commit_24 : decode cX1_commit 24 = .ok (.invokestatic 33, 3) := by decide +kernel
theorem dX1_commit_27 : decode cX1_commit 27 = .ok (.putfield 18, 3) := by decide +kernel
theorem dX1_commit_30 : decode cX1_commit 30 = .ok (.iload_n 1, 1) := by decide +kernel
theorem dX1_commit_31 : decode cX1_commit 31 = .ok (.ireturn, 1) := by decide +kernel
theorem dX1_slot_0 : decode cX1_slot 0 = .ok (.iload_n 1, 1) := by decide +kernel
theorem dX1_slot_1 : decode cX1_slot 1 = .ok (.ifCond .lt 21, 3) := by decide +kernel
theorem dX1_slot_4 : decode cX1_slot 4 = .ok (.iload_n 1, 1) := by decide +kernel
theorem dX1_slot_5 : decode cX1_slot 5 = .ok (.aload_n 0, 1) := by decide +kernel
theorem dX1_slot_6 : decode cX1_slot 6 = .ok (.getfield 13, 3) := by decide +kernel
theorem dX1_slot_9 : decode cX1_slot 9 = .ok (.arraylength, 1) := by decide +kernel
theorem dX1_slot_10 : decode cX1_slot 10 = .ok (.if_icmp .ge 12, 3) := by decide +kernel
theorem dX1_slot_13 : decode cX1_slot 13 = .ok (.aload_n 0, 1) := by decide +kernel
theorem dX1_slot_14 : decode cX1_slot 14 = .ok (.getfield 13, 3) := by decide +kernel
theorem dX1_slot_17 : decode cX1_slot 17 = .ok (.iload_n 1, 1) := by decide +kernel
theorem dX1_slot_18 : decode cX1_slot 18 = .ok (.aaload, 1) := by decide +kernel
theorem dX1_slot_19 : decode cX1_slot 19 = .ok (.goto 4, 3) := by decide +kernel
theorem dX1_slot_22 : decode cX1_slot 22 = .ok (.aconst_null, 1) := by decide +kernel
theorem dX1_slot_23 : decode cX1_slot 23 = .ok (.areturn, 1) := by decide +kernel
theorem dX2_init_0 : decode cX2_init 0 = .ok (.aload_n 0, 1) := by decide +kernel
theorem dX2_init_1 : decode cX2_init 1 = .ok (.invokespecial 3, 3) := by decide +kernel
theorem dX2_init_4 : decode cX2_init 4 = .ok (.aload_n 0, 1) := by decide +kernel
theorem dX2_init_5 : decode cX2_init 5 = .ok (.bipush 10, 2) := by decide +kernel
theorem dX2_init_7 : decode cX2_init 7 = .ok (.newarray .int, 2) := by decide +kernel
theorem dX2_init_9 : decode cX2_init 9 = .ok (.putfield 9, 3) := by decide +kernel
theorem dX2_init_12 : decode cX2_init 12 = .ok (.aload_n 0, 1) := by decide +kernel
theorem dX2_init_13 : decode cX2_init 13 = .ok (.bipush 10, 2) := by decide +kernel
theorem dX2_init_15 : decode cX2_init 15 = .ok (.newarray .int, 2) := by decide +kernel
theorem dX2_init_17 : decode cX2_init 17 = .ok (.putfield 15, 3) := by decide +kernel
theorem dX2_init_20 : decode cX2_init 20 = .ok (.aload_n 0, 1) := by decide +kernel
theorem dX2_init_21 : decode cX2_init 21 = .ok (.bipush 10, 2) := by decide +kernel
theorem dX2_init_23 : decode cX2_init 23 = .ok (.newarray .int, 2) := by decide +kernel
theorem dX2_init_25 : decode cX2_init 25 = .ok (.putfield 18, 3) := by decide +kernel
theorem dX2_init_28 : decode cX2_init 28 = .ok (.return_, 1) := by decide +kernel
set_option maxRecDepth 20000 in
theorem ggX2_copyFrom_X6_copyNumbers : GoodIn wsX2_copyFrom wsX6_copyNumbers := goodIn_r _ [7, 8, 9, 10, 11, 12, 13, 14, 15] (by decide +kernel) (by decide +kernel)
set_option maxRecDepth 20000 in
theorem gX2_copyFrom_X6_copyNumbers_n21 : GoodIn wsX2_copyFrom (wsX6_copyNumbers) := ggX2_copyFrom_X6_copyNumbers
theorem dX2_copyFrom_0 : decode cX2_copyFrom 0 = .ok (.aload_n 1, 1) := by decide +kernel
theorem dX2_copyFrom_1 : decode cX2_copyFrom 1 = .ok (.getfield 9, 3) := by decide +kernel
theorem dX2_copyFrom_4 : decode cX2_copyFrom 4 = .ok (.aload_n 0, 1) := by decide +kernel
theorem dX2_copyFrom_5 : decode cX2_copyFrom 5 = .ok (.getfield 9, 3) := by decide +kernel
theorem dX2_copyFrom_8 : decode cX2_copyFrom 8 = .ok (.invokestatic 21, 3) := by decide +kernel
theorem dX2_copyFrom_11 : decode cX2_copyFrom 11 = .ok (.aload_n 1, 1) := by decide +kernel
theorem dX2_copyFrom_12 : decode cX2_copyFrom 12 = .ok (.getfield 15, 3) := by decide +kernel
theorem dX2_copyFrom_15 : decode cX2_copyFrom 15 = .ok (.aload_n 0, 1) := by decide +kernel
theorem dX2_copyFrom_16 : decode cX2_copyFrom 16 = .ok (.getfield 15, 3) := by decide +kernel
theorem dX2_copyFrom_19 : decode cX2_copyFrom 19 = .ok (.invokestatic 21, 3) := by decide +kernel
theorem dX2_copyFrom_22 : decode cX2_copyFrom 22 = .ok (.aload_n 1, 1) := by decide +kernel
theorem dX2_copyFrom_23 : decode cX2_copyFrom 23 = .ok (.getfield 18, 3) := by decide +kernel
theorem dX2_copyFrom_26 : decode cX2_copyFrom 26 = .ok (.aload_n 0, 1) := by decide +kernel
theorem dX2_copyFrom_27 : decode cX2_copyFrom 27 = .ok (.getfield 18, 3) := by decide +kernel
theorem dX2_copyFrom_30 : decode cX2_copyFrom 30 = .ok (.invokestatic 21, 3) := by decide +kernel
theorem dX2_copyFrom_33 : decode cX2_copyFrom 33 = .ok (.aload_n 0, 1) := by decide +kernel
theorem dX2_copyFrom_34 : decode cX2_copyFrom 34 = .ok (.aload_n 1, 1) := by decide +kernel
theorem dX2_copyFrom_35 : decode cX2_copyFrom 35 = .ok (.getfield 25, 3) := by decide +kernel
theorem dX2_copyFrom_38 : decode cX2_copyFrom 38 = .ok (.putfield 25, 3) := by decide +kernel
theorem dX2_copyFrom_41 : decode cX2_copyFrom 41 = .ok (.return_, 1) := by decide +kernel
theorem dX2_holds_0 : decode cX2_holds 0 = .ok (.iload_n 1, 1) := by decide +kernel
theorem dX2_holds_1 : decode cX2_holds 1 = .ok (.ifCond .lt 25, 3) := by decide +kernel
theorem dX2_holds_4 : decode cX2_holds 4 = .ok (.iload_n 1, 1) := by decide +kernel
theorem dX2_holds_5 : decode cX2_holds 5 = .ok (.aload_n 0, 1) := by decide +kernel
theorem dX2_holds_6 : decode cX2_holds 6 = .ok (.getfield 9, 3) := by decide +kernel
theorem dX2_holds_9 : decode cX2_holds 9 = .ok (.arraylength, 1) := by decide +kernel
theorem dX2_holds_10 : decode cX2_holds 10 = .ok (.if_icmp .ge 16, 3) := by decide +kernel
theorem dX2_holds_13 : decode cX2_holds 13 = .ok (.aload_n 0, 1) := by decide +kernel
theorem dX2_holds_14 : decode cX2_holds 14 = .ok (.getfield 9, 3) := by decide +kernel
theorem dX2_holds_17 : decode cX2_holds 17 = .ok (.iload_n 1, 1) := by decide +kernel
theorem dX2_holds_18 : decode cX2_holds 18 = .ok (.iaload, 1) := by decide +kernel
theorem dX2_holds_19 : decode cX2_holds 19 = .ok (.ifCond .le 7, 3) := by decide +kernel
theorem dX2_holds_22 : decode cX2_holds 22 = .ok (.iconst 1, 1) := by decide +kernel
theorem dX2_holds_23 : decode cX2_holds 23 = .ok (.goto 4, 3) := by decide +kernel
theorem dX2_holds_26 : decode cX2_holds 26 = .ok (.iconst 0, 1) := by decide +kernel
theorem dX2_holds_27 : decode cX2_holds 27 = .ok (.ireturn, 1) := by decide +kernel
theorem dX2_uses_0 : decode cX2_uses 0 = .ok (.iload_n 1, 1) := by decide +kernel
theorem dX2_uses_1 : decode cX2_uses 1 = .ok (.ifCond .lt 21, 3) := by decide +kernel
theorem dX2_uses_4 : decode cX2_uses 4 = .ok (.iload_n 1, 1) := by decide +kernel
theorem dX2_uses_5 : decode cX2_uses 5 = .ok (.aload_n 0, 1) := by decide +kernel
theorem dX2_uses_6 : decode cX2_uses 6 = .ok (.getfield 9, 3) := by decide +kernel
theorem dX2_uses_9 : decode cX2_uses 9 = .ok (.arraylength, 1) := by decide +kernel
theorem dX2_uses_10 : decode cX2_uses 10 = .ok (.if_icmp .ge 12, 3) := by decide +kernel
theorem dX2_uses_13 : decode cX2_uses 13 = .ok (.aload_n 0, 1) := by decide +kernel
theorem dX2_uses_14 : decode cX2_uses 14 = .ok (.getfield 9, 3) := by decide +kernel
theorem dX2_uses_17 : decode cX2_uses 17 = .ok (.iload_n 1, 1) := by decide +kernel
theorem dX2_uses_18 : decode cX2_uses 18 = .ok (.iaload, 1) := by decide +kernel
theorem dX2_uses_19 : decode cX2_uses 19 = .ok (.goto 4, 3) := by decide +kernel
theorem dX2_uses_22 : decode cX2_uses 22 = .ok (.iconst 0, 1) := by decide +kernel
theorem dX2_uses_23 : decode cX2_uses 23 = .ok (.ireturn, 1) := by decide +kernel
theorem dX2_size_0 : decode cX2_size 0 = .ok (.iconst 0, 1) := by decide +kernel
theorem dX2_size_1 : decode cX2_size 1 = .ok (.istore_n 1, 1) := by decide +kernel
theorem dX2_size_2 : decode cX2_size 2 = .ok (.iconst 0, 1) := by decide +kernel
theorem dX2_size_3 : decode cX2_size 3 = .ok (.istore_n 2, 1) := by decide +kernel
theorem dX2_size_4 : decode cX2_size 4 = .ok (.iload_n 2, 1) := by decide +kernel
theorem dX2_size_5 : decode cX2_size 5 = .ok (.bipush 10, 2) := by decide +kernel
theorem dX2_size_7 : decode cX2_size 7 = .ok (.if_icmp .ge 26, 3) := by decide +kernel
theorem dX2_size_10 : decode cX2_size 10 = .ok (.iload_n 1, 1) := by decide +kernel
theorem dX2_size_11 : decode cX2_size 11 = .ok (.aload_n 0, 1) := by decide +kernel
theorem dX2_size_12 : decode cX2_size 12 = .ok (.getfield 9, 3) := by decide +kernel
theorem dX2_size_15 : decode cX2_size 15 = .ok (.iload_n 2, 1) := by decide +kernel
theorem dX2_size_16 : decode cX2_size 16 = .ok (.iaload, 1) := by decide +kernel
theorem dX2_size_17 : decode cX2_size 17 = .ok (.ifCond .le 7, 3) := by decide +kernel
theorem dX2_size_20 : decode cX2_size 20 = .ok (.iconst 1, 1) := by decide +kernel
theorem dX2_size_21 : decode cX2_size 21 = .ok (.goto 4, 3) := by decide +kernel
theorem dX2_size_24 : decode cX2_size 24 = .ok (.iconst 0, 1) := by decide +kernel
theorem dX2_size_25 : decode cX2_size 25 = .ok (.iadd, 1) := by decide +kernel
theorem dX2_size_26 : decode cX2_size 26 = .ok (.istore_n 1, 1) := by decide +kernel
theorem dX2_size_27 : decode cX2_size 27 = .ok (.iinc 2 1, 3) := by decide +kernel
theorem dX2_size_30 : decode cX2_size 30 = .ok (.goto (-26), 3) := by decide +kernel
theorem dX2_size_33 : decode cX2_size 33 = .ok (.iload_n 1, 1) := by decide +kernel
theorem dX2_size_34 : decode cX2_size 34 = .ok (.ireturn, 1) := by decide +kernel
theorem dX2_take_0 : decode cX2_take 0 = .ok (.iload_n 1, 1) := by decide +kernel
theorem dX2_take_1 : decode cX2_take 1 = .ok (.ifCond .lt 46, 3) := by decide +kernel
theorem dX2_take_4 : decode cX2_take 4 = .ok (.iload_n 1, 1) := by decide +kernel
theorem dX2_take_5 : decode cX2_take 5 = .ok (.bipush 10, 2) := by decide +kernel
theorem dX2_take_7 : decode cX2_take 7 = .ok (.if_icmp .ge 40, 3) := by decide +kernel
theorem dX2_take_10 : decode cX2_take 10 = .ok (.aload_n 0, 1) := by decide +kernel
theorem dX2_take_11 : decode cX2_take 11 = .ok (.dup, 1) := by decide +kernel
theorem dX2_take_12 : decode cX2_take 12 = .ok (.getfield 25, 3) := by decide +kernel
theorem dX2_take_15 : decode cX2_take 15 = .ok (.iconst 1, 1) := by decide +kernel
theorem dX2_take_16 : decode cX2_take 16 = .ok (.iadd, 1) := by decide +kernel
theorem dX2_take_17 : decode cX2_take 17 = .ok (.putfield 25, 3) := by decide +kernel
theorem dX2_take_20 : decode cX2_take 20 = .ok (.aload_n 0, 1) := by decide +kernel
theorem dX2_take_21 : decode cX2_take 21 = .ok (.getfield 9, 3) := by decide +kernel
theorem dX2_take_24 : decode cX2_take 24 = .ok (.iload_n 1, 1) := by decide +kernel
theorem dX2_take_25 : decode cX2_take 25 = .ok (.iconst 1, 1) := by decide +kernel
theorem dX2_take_26 : decode cX2_take 26 = .ok (.iastore, 1) := by decide +kernel
theorem dX2_take_27 : decode cX2_take 27 = .ok (.aload_n 0, 1) := by decide +kernel
theorem dX2_take_28 : decode cX2_take 28 = .ok (.getfield 18, 3) := by decide +kernel
theorem dX2_take_31 : decode cX2_take 31 = .ok (.iload_n 1, 1) := by decide +kernel
theorem dX2_take_32 : decode cX2_take 32 = .ok (.aload_n 0, 1) := by decide +kernel
theorem dX2_take_33 : decode cX2_take 33 = .ok (.getfield 25, 3) := by decide +kernel
theorem dX2_take_36 : decode cX2_take 36 = .ok (.iastore, 1) := by decide +kernel
theorem dX2_take_37 : decode cX2_take 37 = .ok (.aload_n 0, 1) := by decide +kernel
theorem dX2_take_38 : decode cX2_take 38 = .ok (.getfield 15, 3) := by decide +kernel
theorem dX2_take_41 : decode cX2_take 41 = .ok (.iload_n 1, 1) := by decide +kernel
theorem dX2_take_42 : decode cX2_take 42 = .ok (.aload_n 0, 1) := by decide +kernel
theorem dX2_take_43 : decode cX2_take 43 = .ok (.getfield 25, 3) := by decide +kernel
theorem dX2_take_46 : decode cX2_take 46 = .ok (.iastore, 1) := by decide +kernel
theorem dX2_take_47 : decode cX2_take 47 = .ok (.return_, 1) := by decide +kernel
theorem dX2_touch_0 : decode cX2_touch 0 = .ok (.iload_n 1, 1) := by decide +kernel
theorem dX2_touch_1 : decode cX2_touch 1 = .ok (.ifCond .lt 39, 3) := by decide +kernel
theorem dX2_touch_4 : decode cX2_touch 4 = .ok (.iload_n 1, 1) := by decide +kernel
theorem dX2_touch_5 : decode cX2_touch 5 = .ok (.bipush 10, 2) := by decide +kernel
theorem dX2_touch_7 : decode cX2_touch 7 = .ok (.if_icmp .ge 33, 3) := by decide +kernel
theorem dX2_touch_10 : decode cX2_touch 10 = .ok (.aload_n 0, 1) := by decide +kernel
theorem dX2_touch_11 : decode cX2_touch 11 = .ok (.dup, 1) := by decide +kernel
theorem dX2_touch_12 : decode cX2_touch 12 = .ok (.getfield 25, 3) := by decide +kernel
theorem dX2_touch_15 : decode cX2_touch 15 = .ok (.iconst 1, 1) := by decide +kernel
theorem dX2_touch_16 : decode cX2_touch 16 = .ok (.iadd, 1) := by decide +kernel
theorem dX2_touch_17 : decode cX2_touch 17 = .ok (.putfield 25, 3) := by decide +kernel
theorem dX2_touch_20 : decode cX2_touch 20 = .ok (.aload_n 0, 1) := by decide +kernel
theorem dX2_touch_21 : decode cX2_touch 21 = .ok (.getfield 9, 3) := by decide +kernel
theorem dX2_touch_24 : decode cX2_touch 24 = .ok (.iload_n 1, 1) := by decide +kernel
theorem dX2_touch_25 : decode cX2_touch 25 = .ok (.dup2, 1) := by decide +kernel
theorem dX2_touch_26 : decode cX2_touch 26 = .ok (.iaload, 1) := by decide +kernel
theorem dX2_touch_27 : decode cX2_touch 27 = .ok (.iconst 1, 1) := by decide +kernel
theorem dX2_touch_28 : decode cX2_touch 28 = .ok (.iadd, 1) := by decide +kernel
theorem dX2_touch_29 : decode cX2_touch 29 = .ok (.iastore, 1) := by decide +kernel
theorem dX2_touch_30 : decode cX2_touch 30 = .ok (.aload_n 0, 1) := by decide +kernel
theorem dX2_touch_31 : decode cX2_touch 31 = .ok (.getfield 15, 3) := by decide +kernel
theorem dX2_touch_34 : decode cX2_touch 34 = .ok (.iload_n 1, 1) := by decide +kernel
theorem dX2_touch_35 : decode cX2_touch 35 = .ok (.aload_n 0, 1) := by decide +kernel
theorem dX2_touch_36 : decode cX2_touch 36 = .ok (.getfield 25, 3) := by decide +kernel
theorem dX2_touch_39 : decode cX2_touch 39 = .ok (.iastore, 1) := by decide +kernel
theorem dX2_touch_40 : decode cX2_touch 40 = .ok (.return_, 1) := by decide +kernel
theorem dX2_lose_0 : decode cX2_lose 0 = .ok (.iload_n 1, 1) := by decide +kernel
theorem dX2_lose_1 : decode cX2_lose 1 = .ok (.ifCond .lt 19, 3) := by decide +kernel
theorem dX2_lose_4 : decode cX2_lose 4 = .ok (.iload_n 1, 1) := by decide +kernel
theorem dX2_lose_5 : decode cX2_lose 5 = .ok (.aload_n 0, 1) := by decide +kernel
theorem dX2_lose_6 : decode cX2_lose 6 = .ok (.getfield 9, 3) := by decide +kernel
theorem dX2_lose_9 : decode cX2_lose 9 = .ok (.arraylength, 1) := by decide +kernel
theorem dX2_lose_10 : decode cX2_lose 10 = .ok (.if_icmp .ge 10, 3) := by decide +kernel
theorem dX2_lose_13 : decode cX2_lose 13 = .ok (.aload_n 0, 1) := by decide +kernel
theorem dX2_lose_14 : decode cX2_lose 14 = .ok (.getfield 9, 3) := by decide +kernel
theorem dX2_lose_17 : decode cX2_lose 17 = .ok (.iload_n 1, 1) := by decide +kernel
theorem dX2_lose_18 : decode cX2_lose 18 = .ok (.iconst 0, 1) := by decide +kernel
theorem dX2_lose_19 : decode cX2_lose 19 = .ok (.iastore, 1) := by decide +kernel
theorem dX2_lose_20 : decode cX2_lose 20 = .ok (.return_, 1) := by decide +kernel
set_option maxRecDepth 20000 in
theorem ggX2_loseAll_X2_size : GoodIn wsX2_loseAll wsX2_size := goodIn_r _ [6, 1, 7, 8, 9, 10] (by decide +kernel) (by decide +kernel)
set_option maxRecDepth 20000 in
theorem gX2_loseAll_X2_size : GoodIn wsX2_loseAll (wsV RX2 29 RX2 yX2_size wsX2_size) := goodIn_app (goodIn_of _ (by decide +kernel)) ggX2_loseAll_X2_size
theorem dX2_loseAll_0 : decode cX2_loseAll 0 = .ok (.aload_n 0, 1) := by decide +kernel
theorem dX2_loseAll_1 : decode cX2_loseAll 1 = .ok (.invokevirtual 29, 3) := by decide +kernel
theorem dX2_loseAll_4 : decode cX2_loseAll 4 = .ok (.istore_n 1, 1) := by decide +kernel
theorem dX2_loseAll_5 : decode cX2_loseAll 5 = .ok (.iconst 0, 1) := by decide +kernel
theorem dX2_loseAll_6 : decode cX2_loseAll 6 = .ok (.istore_n 2, 1) := by decide +kernel
theorem dX2_loseAll_7 : decode cX2_loseAll 7 = .ok (.iload_n 2, 1) := by decide +kernel
theorem dX2_loseAll_8 : decode cX2_loseAll 8 = .ok (.bipush 10, 2) := by decide +kernel
theorem dX2_loseAll_10 : decode cX2_loseAll 10 = .ok (.if_icmp .ge 16, 3) := by decide +kernel
theorem dX2_loseAll_13 : decode cX2_loseAll 13 = .ok (.aload_n 0, 1) := by decide +kernel
theorem dX2_loseAll_14 : decode cX2_loseAll 14 = .ok (.getfield 9, 3) := by decide +kernel
theorem dX2_loseAll_17 : decode cX2_loseAll 17 = .ok (.iload_n 2, 1) := by decide +kernel
theorem dX2_loseAll_18 : decode cX2_loseAll 18 = .ok (.iconst 0, 1) := by decide +kernel
theorem dX2_loseAll_19 : decode cX2_loseAll 19 = .ok (.iastore, 1) := by decide +kernel
theorem dX2_loseAll_20 : decode cX2_loseAll 20 = .ok (.iinc 2 1, 3) := by decide +kernel
theorem dX2_loseAll_23 : decode cX2_loseAll 23 = .ok (.goto (-16), 3) := by decide +kernel
theorem dX2_loseAll_26 : decode cX2_loseAll 26 = .ok (.iload_n 1, 1) := by decide +kernel
theorem dX2_loseAll_27 : decode cX2_loseAll 27 = .ok (.ireturn, 1) := by decide +kernel
set_option maxRecDepth 20000 in
theorem ggX2_firstOut_X2_rank : GoodIn wsX2_firstOut wsX2_rank := goodIn_r _ [6, 7, 1, 8, 9, 10, 11, 12] (by decide +kernel) (by decide +kernel)
set_option maxRecDepth 20000 in
theorem gX2_firstOut_X2_rank : GoodIn wsX2_firstOut (wsV RX2 33 RX2 yX2_rank wsX2_rank) := goodIn_app (goodIn_of _ (by decide +kernel)) ggX2_firstOut_X2_rank
theorem dX2_firstOut_0 : decode cX2_firstOut 0 = .ok (.iconst (-1), 1) := by decide +kernel
theorem dX2_firstOut_1 : decode cX2_firstOut 1 = .ok (.istore_n 3, 1) := by decide +kernel
theorem dX2_firstOut_2 : decode cX2_firstOut 2 = .ok (.iconst 0, 1) := by decide +kernel
theorem dX2_firstOut_3 : decode cX2_firstOut 3 = .ok (.istore 4, 2) := by decide +kernel
theorem dX2_firstOut_5 : decode cX2_firstOut 5 = .ok (.iload 4, 2) := by decide +kernel
theorem dX2_firstOut_7 : decode cX2_firstOut 7 = .ok (.bipush 10, 2) := by decide +kernel
theorem dX2_firstOut_9 : decode cX2_firstOut 9 = .ok (.if_icmp .ge 50, 3) := by decide +kernel
theorem dX2_firstOut_12 : decode cX2_firstOut 12 = .ok (.aload_n 0, 1) := by decide +kernel
theorem dX2_firstOut_13 : decode cX2_firstOut 13 = .ok (.getfield 9, 3) := by decide +kernel
theorem dX2_firstOut_16 : decode cX2_firstOut 16 = .ok (.iload 4, 2) := by decide +kernel
theorem dX2_firstOut_18 : decode cX2_firstOut 18 = .ok (.iaload, 1) := by decide +kernel
theorem dX2_firstOut_19 : decode cX2_firstOut 19 = .ok (.ifCond .le 34, 3) := by decide +kernel
theorem dX2_firstOut_22 : decode cX2_firstOut 22 = .ok (.iload 4, 2) := by decide +kernel
theorem dX2_firstOut_24 : decode cX2_firstOut 24 = .ok (.iload_n 2, 1) := by decide +kernel
theorem dX2_firstOut_25 : decode cX2_firstOut 25 = .ok (.if_icmp .eq 28, 3) := by decide +kernel
theorem dX2_firstOut_28 : decode cX2_firstOut 28 = .ok (.iload_n 3, 1) := by decide +kernel
theorem dX2_firstOut_29 : decode cX2_firstOut 29 = .ok (.iconst (-1), 1) := by decide +kernel
theorem dX2_firstOut_30 : decode cX2_firstOut 30 = .ok (.if_icmp .eq 20, 3) := by decide +kernel
theorem dX2_firstOut_33 : decode cX2_firstOut 33 = .ok (.aload_n 0, 1) := by decide +kernel
theorem dX2_firstOut_34 : decode cX2_firstOut 34 = .ok (.iload 4, 2) := by decide +kernel
theorem dX2_firstOut_36 : decode cX2_firstOut 36 = .ok (.iload_n 1, 1) := by decide +kernel
theorem dX2_firstOut_37 : decode cX2_firstOut 37 = .ok (.invokevirtual 33, 3) := by decide +kernel
theorem dX2_firstOut_40 : decode cX2_firstOut 40 = .ok (.aload_n 0, 1) := by decide +kernel
theorem dX2_firstOut_41 : decode cX2_firstOut 41 = .ok (.iload_n 3, 1) := by decide +kernel
theorem dX2_firstOut_42 : decode cX2_firstOut 42 = .ok (.iload_n 1, 1) := by decide +kernel
theorem dX2_firstOut_43 : decode cX2_firstOut 43 = .ok (.invokevirtual 33, 3) := by decide +kernel
theorem dX2_firstOut_46 : decode cX2_firstOut 46 = .ok (.lcmp, 1) := by decide +kernel
theorem dX2_firstOut_47 : decode cX2_firstOut 47 = .ok (.ifCond .ge 6, 3) := by decide +kernel
theorem dX2_firstOut_50 : decode cX2_firstOut 50 = .ok (.iload 4, 2) := by decide +kernel
theorem dX2_firstOut_52 : decode cX2_firstOut 52 = .ok (.istore_n 3, 1) := by decide +kernel
theorem dX2_firstOut_53 : decode cX2_firstOut 53 = .ok (.iinc 4 1, 3) := by decide +kernel
theorem dX2_firstOut_56 : decode cX2_firstOut 56 = .ok (.goto (-51), 3) := by decide +kernel
theorem dX2_firstOut_59 : decode cX2_firstOut 59 = .ok (.iload_n 3, 1) := by decide +kernel
theorem dX2_firstOut_60 : decode cX2_firstOut 60 = .ok (.ireturn, 1) := by decide +kernel
set_option maxRecDepth 20000 in
theorem ggX2_placeOf_X2_rank : GoodIn wsX2_placeOf wsX2_rank := goodIn_r _ [6, 7, 1, 8, 9, 10, 11, 12] (by decide +kernel) (by decide +kernel)
set_option maxRecDepth 20000 in
theorem gX2_placeOf_X2_rank : GoodIn wsX2_placeOf (wsV RX2 33 RX2 yX2_rank wsX2_rank) := goodIn_app (goodIn_of _ (by decide +kernel)) ggX2_placeOf_X2_rank
theorem dX2_placeOf_0 : decode cX2_placeOf 0 = .ok (.iconst 0, 1) := by decide +kernel
theorem dX2_placeOf_1 : decode cX2_placeOf 1 = .ok (.istore_n 3, 1) := by decide +kernel
theorem dX2_placeOf_2 : decode cX2_placeOf 2 = .ok (.iconst 0, 1) := by decide +kernel
theorem dX2_placeOf_3 : decode cX2_placeOf 3 = .ok (.istore 4, 2) := by decide +kernel
theorem dX2_placeOf_5 : decode cX2_placeOf 5 = .ok (.iload 4, 2) := by decide +kernel
theorem dX2_placeOf_7 : decode cX2_placeOf 7 = .ok (.bipush 10, 2) := by decide +kernel
theorem dX2_placeOf_9 : decode cX2_placeOf 9 = .ok (.if_icmp .ge 39, 3) := by decide +kernel
theorem dX2_placeOf_12 : decode cX2_placeOf 12 = .ok (.aload_n 0, 1) := by decide +kernel
theorem dX2_placeOf_13 : decode cX2_placeOf 13 = .ok (.getfield 9, 3) := by decide +kernel
theorem dX2_placeOf_16 : decode cX2_placeOf 16 = .ok (.iload 4, 2) := by decide +kernel
theorem dX2_placeOf_18 : decode cX2_placeOf 18 = .ok (.iaload, 1) := by decide +kernel
theorem dX2_placeOf_19 : decode cX2_placeOf 19 = .ok (.ifCond .le 23, 3) := by decide +kernel
theorem dX2_placeOf_22 : decode cX2_placeOf 22 = .ok (.aload_n 0, 1) := by decide +kernel
theorem dX2_placeOf_23 : decode cX2_placeOf 23 = .ok (.iload 4, 2) := by decide +kernel
theorem dX2_placeOf_25 : decode cX2_placeOf 25 = .ok (.iload_n 2, 1) := by decide +kernel
theorem dX2_placeOf_26 : decode cX2_placeOf 26 = .ok (.invokevirtual 33, 3) := by decide +kernel
theorem dX2_placeOf_29 : decode cX2_placeOf 29 = .ok (.aload_n 0, 1) := by decide +kernel
theorem dX2_placeOf_30 : decode cX2_placeOf 30 = .ok (.iload_n 1, 1) := by decide +kernel
theorem dX2_placeOf_31 : decode cX2_placeOf 31 = .ok (.iload_n 2, 1) := by decide +kernel
theorem dX2_placeOf_32 : decode cX2_placeOf 32 = .ok (.invokevirtual 33, 3) := by decide +kernel
theorem dX2_placeOf_35 : decode cX2_placeOf 35 = .ok (.lcmp, 1) := by decide +kernel
theorem dX2_placeOf_36 : decode cX2_placeOf 36 = .ok (.ifCond .ge 6, 3) := by decide +kernel
theorem dX2_placeOf_39 : decode cX2_placeOf 39 = .ok (.iinc 3 1, 3) := by decide +kernel
theorem dX2_placeOf_42 : decode cX2_placeOf 42 = .ok (.iinc 4 1, 3) := by decide +kernel
theorem dX2_placeOf_45 : decode cX2_placeOf 45 = .ok (.goto (-40), 3) := by decide +kernel
theorem dX2_placeOf_48 : decode cX2_placeOf 48 = .ok (.iload_n 3, 1) := by decide +kernel
theorem dX2_placeOf_49 : decode cX2_placeOf 49 = .ok (.ireturn, 1) := by decide +kernel
theorem dX2_rank_0 : decode cX2_rank 0 = .ok (.iload_n 1, 1) := by decide +kernel
theorem dX2_rank_1 : decode cX2_rank 1 = .ok (.ifCond .lt 9, 3) := by decide +kernel
theorem dX2_rank_4 : decode cX2_rank 4 = .ok (.iload_n 1, 1) := by decide +kernel
theorem dX2_rank_5 : decode cX2_rank 5 = .ok (.bipush 10, 2) := by decide +kernel
theorem dX2_rank_7 : decode cX2_rank 7 = .ok (.if_icmp .lt 5, 3) := by decide +kernel
theorem dX2_rank_10 : decode cX2_rank 10 = .ok (.lconst 0, 1) := by decide +kernel
theorem dX2_rank_11 : decode cX2_rank 11 = .ok (.lreturn, 1) := by decide +kernel
theorem dX2_rank_12 : decode cX2_rank 12 = .ok (.iload_n 2, 1) := by decide +kernel
theorem dX2_rank_13 : decode cX2_rank 13 = .ok (.iconst 2, 1) := by decide +kernel
theorem dX2_rank_14 : decode cX2_rank 14 = .ok (.if_icmp .ne 11, 3) := by decide +kernel
theorem dX2_rank_17 : decode cX2_rank 17 = .ok (.aload_n 0, 1) := by decide +kernel
theorem dX2_rank_18 : decode cX2_rank 18 = .ok (.getfield 18, 3) := by decide +kernel
theorem dX2_rank_21 : decode cX2_rank 21 = .ok (.iload_n 1, 1) := by decide +kernel
theorem dX2_rank_22 : decode cX2_rank 22 = .ok (.iaload, 1) := by decide +kernel
theorem dX2_rank_23 : decode cX2_rank 23 = .ok (.i2l, 1) := by decide +kernel
theorem dX2_rank_24 : decode cX2_rank 24 = .ok (.lreturn, 1) := by decide +kernel
theorem dX2_rank_25 : decode cX2_rank 25 = .ok (.iload_n 2, 1) := by decide +kernel
theorem dX2_rank_26 : decode cX2_rank 26 = .ok (.iconst 1, 1) := by decide +kernel
theorem dX2_rank_27 : decode cX2_rank 27 = .ok (.if_icmp .ne 16, 3) := by decide +kernel
theorem dX2_rank_30 : decode cX2_rank 30 = .ok (.aload_n 0, 1) := by decide +kernel
theorem dX2_rank_31 : decode cX2_rank 31 = .ok (.getfield 9, 3) := by decide +kernel
theorem dX2_rank_34 : decode cX2_rank 34 = .ok (.iload_n 1, 1) := by decide +kernel
theorem dX2_rank_35 : decode cX2_rank 35 = .ok (.iaload, 1) := by decide +kernel
theorem dX2_rank_36 : decode cX2_rank 36 = .ok (.i2l, 1) := by decide +kernel
theorem dX2_rank_37 : decode cX2_rank 37 = .ok (.bipush 32, 2) := by decide +kernel
theorem dX2_rank_39 : decode cX2_rank 39 = .ok (.lshl, 1) := by decide +kernel
theorem dX2_rank_40 : decode cX2_rank 40 = .ok (.goto 4, 3) := by decide +kernel
theorem dX2_rank_43 : decode cX2_rank 43 = .ok (.lconst 0, 1) := by decide +kernel
theorem dX2_rank_44 : decode cX2_rank 44 = .ok (.aload_n 0, 1) := by decide +kernel
theorem dX2_rank_45 : decode cX2_rank 45 = .ok (.getfield 15, 3) := by decide +kernel
theorem dX2_rank_48 : decode cX2_rank 48 = .ok (.iload_n 1, 1) := by decide +kernel
theorem dX2_rank_49 : decode cX2_rank 49 = .ok (.iaload, 1) := by decide +kernel
theorem dX2_rank_50 : decode cX2_rank 50 = .ok (.i2l, 1) := by decide +kernel
theorem dX2_rank_51 : decode cX2_rank 51 = .ok (.ladd, 1) := by decide +kernel
theorem dX2_rank_52 : decode cX2_rank 52 = .ok (.lreturn, 1) := by decide +kernel
theorem dX3_init_0 : decode cX3_init 0 = .ok (.aload_n 0, 1) := by decide +kernel
theorem dX3_init_1 : decode cX3_init 1 = .ok (.invokespecial 3, 3) := by decide +kernel
theorem dX3_init_4 : decode cX3_init 4 = .ok (.aload_n 0, 1) := by decide +kernel
theorem dX3_init_5 : decode cX3_init 5 = .ok (.bipush 60, 2) := by decide +kernel
theorem dX3_init_7 : decode cX3_init 7 = .ok (.newarray .int, 2) := by decide +kernel
theorem dX3_init_9 : decode cX3_init 9 = .ok (.putfield 9, 3) := by decide +kernel
theorem dX3_init_12 : decode cX3_init 12 = .ok (.return_, 1) := by decide +kernel
theorem dX3_size_0 : decode cX3_size 0 = .ok (.aload_n 0, 1) := by decide +kernel
theorem dX3_size_1 : decode cX3_size 1 = .ok (.getfield 15, 3) := by decide +kernel
theorem dX3_size_4 : decode cX3_size 4 = .ok (.ireturn, 1) := by decide +kernel
set_option maxRecDepth 20000 in
theorem ggX4_init_X5_init : GoodIn wsX4_init wsX5_init := goodIn_r _ [29, 30, 2, 3, 25, 31, 32, 47, 48, 49] (by decide +kernel) (by decide +kernel)
set_option maxRecDepth 20000 in
theorem gX4_init_X5_init : GoodIn wsX4_init (wsX5_init) := ggX4_init_X5_init
set_option maxRecDepth 20000 in
theorem ggX4_init_X0_init : GoodIn wsX4_init wsX0_init := goodIn_r _ [35, 36, 2, 3, 25, 37, 38, 39, 58, 59, 60] (by decide +kernel) (by decide +kernel)
set_option maxRecDepth 20000 in
theorem gX4_init_X0_init : GoodIn wsX4_init (wsX0_init) := ggX4_init_X0_init
set_option maxRecDepth 20000 in
theorem ggX4_init_X2_init : GoodIn wsX4_init wsX2_init := goodIn_r _ [42, 43, 2, 3, 25, 44, 45, 46, 61, 62, 63, 64] (by decide +kernel) (by decide +kernel)
set_option maxRecDepth 20000 in
theorem gX4_init_X2_init : GoodIn wsX4_init (wsX2_init) := ggX4_init_X2_init
theorem dX4_init_0 : decode cX4_init 0 = .ok (.aload_n 0, 1) := by decide +kernel
theorem dX4_init_1 : decode cX4_init 1 = .ok (.invokespecial 3, 3) := by decide +kernel
theorem dX4_init_4 : decode cX4_init 4 = .ok (.aload_n 0, 1) := by decide +kernel
theorem dX4_init_5 : decode cX4_init 5 = .ok (.new 9, 3) := by decide +kernel
theorem dX4_init_8 : decode cX4_init 8 = .ok (.dup, 1) := by decide +kernel
theorem dX4_init_9 : decode cX4_init 9 = .ok (.invokespecial 11, 3) := by decide +kernel
theorem dX4_init_12 : decode cX4_init 12 = .ok (.putfield 12, 3) := by decide +kernel
theorem dX4_init_15 : decode cX4_init 15 = .ok (.aload_n 0, 1) := by decide +kernel
theorem dX4_init_16 : decode cX4_init 16 = .ok (.new 9, 3) := by decide +kernel
theorem dX4_init_19 : decode cX4_init 19 = .ok (.dup, 1) := by decide +kernel
theorem dX4_init_20 : decode cX4_init 20 = .ok (.invokespecial 11, 3) := by decide +kernel
theorem dX4_init_23 : decode cX4_init 23 = .ok (.putfield 18, 3) := by decide +kernel
theorem dX4_init_26 : decode cX4_init 26 = .ok (.aload_n 0, 1) := by decide +kernel
theorem dX4_init_27 : decode cX4_init 27 = .ok (.new 21, 3) := by decide +kernel
theorem dX4_init_30 : decode cX4_init 30 = .ok (.dup, 1) := by decide +kernel
theorem dX4_init_31 : decode cX4_init 31 = .ok (.invokespecial 23, 3) := by decide +kernel
theorem dX4_init_34 : decode cX4_init 34 = .ok (.putfield 24, 3) := by decide +kernel
theorem dX4_init_37 : decode cX4_init 37 = .ok (.aload_n 0, 1) := by decide +kernel
theorem dX4_init_38 : decode cX4_init 38 = .ok (.new 28, 3) := by decide +kernel
theorem dX4_init_41 : decode cX4_init 41 = .ok (.dup, 1) := by decide +kernel
theorem dX4_init_42 : decode cX4_init 42 = .ok (.invokespecial 30, 3) := by decide +kernel
theorem dX4_init_45 : decode cX4_init 45 = .ok (.putfield 31, 3) := by decide +kernel
theorem dX4_init_48 : decode cX4_init 48 = .ok (.aload_n 0, 1) := by decide +kernel
theorem dX4_init_49 : decode cX4_init 49 = .ok (.getstatic 35, 3) := by decide +kernel
theorem dX4_init_52 : decode cX4_init 52 = .ok (.invokevirtual 39, 3) := by decide +kernel
theorem dX4_init_55 : decode cX4_init 55 = .ok (.checkcast 40, 3) := by decide +kernel
theorem dX4_init_58 : decode cX4_init 58 = .ok (.putfield 44, 3) := by decide +kernel
theorem dX4_init_61 : decode cX4_init 61 = .ok (.aload_n 0, 1) := by decide +kernel
theorem dX4_init_62 : decode cX4_init 62 = .ok (.bipush 7, 2) := by decide +kernel
theorem dX4_init_64 : decode cX4_init 64 = .ok (.newarray .int, 2) := by decide +kernel
theorem dX4_init_66 : decode cX4_init 66 = .ok (.putfield 47, 3) := by decide +kernel
theorem dX4_init_69 : decode cX4_init 69 = .ok (.return_, 1) := by decide +kernel
set_option maxRecDepth 20000 in
theorem ggX4_copyFrom_X5_copyFrom : GoodIn wsX4_copyFrom wsX5_copyFrom := goodIn_r _ [13, 14, 15, 16, 17, 18, 19, 20, 21, 22, 23, 24, 25, 26, 27, 53, 54, 55] (by decide +kernel) (by decide +kernel)
set_option maxRecDepth 20000 in
theorem gX4_copyFrom_X5_copyFrom : GoodIn wsX4_copyFrom (wsV RX4 50 RX5 yX5_copyFrom wsX5_copyFrom) := goodIn_app (goodIn_of _ (by decide +kernel)) ggX4_copyFrom_X5_copyFrom
set_option maxRecDepth 20000 in
theorem ggX4_copyFrom_X0_copyFrom : GoodIn wsX4_copyFrom wsX0_copyFrom := goodIn_r _ [32, 33, 34, 35, 17, 18, 19, 20, 21, 22, 23, 24, 25, 26, 27, 56, 57, 58] (by decide +kernel) (by decide +kernel)
set_option maxRecDepth 20000 in
theorem gX4_copyFrom_X0_copyFrom : GoodIn wsX4_copyFrom (wsV RX4 54 RX0 yX0_copyFrom wsX0_copyFrom) := goodIn_app (goodIn_of _ (by decide +kernel)) ggX4_copyFrom_X0_copyFrom
set_option maxRecDepth 20000 in
theorem ggX4_copyFrom_X2_copyFrom : GoodIn wsX4_copyFrom wsX2_copyFrom := goodIn_r _ [40, 41, 42, 43, 44, 17, 18, 19, 20, 21, 22, 23, 24, 25, 26, 27, 59, 60, 61, 62] (by decide +kernel) (by decide +kernel)
set_option maxRecDepth 20000 in
theorem gX4_copyFrom_X2_copyFrom : GoodIn wsX4_copyFrom (wsV RX4 57 RX2 yX2_copyFrom wsX2_copyFrom) := goodIn_app (goodIn_of _ (by decide +kernel)) ggX4_copyFrom_X2_copyFrom
set_option maxRecDepth 20000 in
theorem ggX4_copyFrom_X6_copyNumbers : GoodIn wsX4_copyFrom wsX6_copyNumbers := goodIn_r _ [19, 20, 21, 22, 23, 24, 25, 26, 27] (by decide +kernel) (by decide +kernel)
set_option maxRecDepth 20000 in
theorem gX4_copyFrom_X6_copyNumbers_n60 : GoodIn wsX4_copyFrom (wsX6_copyNumbers) := ggX4_copyFrom_X6_copyNumbers
theorem dX4_copyFrom_0 : decode cX4_copyFrom 0 = .ok (.aload_n 0, 1) := by decide +kernel
theorem dX4_copyFrom_1 : decode cX4_copyFrom 1 = .ok (.getfield 12, 3) := by decide +kernel
theorem dX4_copyFrom_4 : decode cX4_copyFrom 4 = .ok (.aload_n 1, 1) := by decide +kernel
theorem dX4_copyFrom_5 : decode cX4_copyFrom 5 = .ok (.getfield 12, 3) := by decide +kernel
theorem dX4_copyFrom_8 : decode cX4_copyFrom 8 = .ok (.invokevirtual 50, 3) := by decide +kernel
theorem dX4_copyFrom_11 : decode cX4_copyFrom 11 = .ok (.aload_n 0, 1) := by decide +kernel
theorem dX4_copyFrom_12 : decode cX4_copyFrom 12 = .ok (.getfield 18, 3) := by decide +kernel
theorem dX4_copyFrom_15 : decode cX4_copyFrom 15 = .ok (.aload_n 1, 1) := by decide +kernel
theorem dX4_copyFrom_16 : decode cX4_copyFrom 16 = .ok (.getfield 18, 3) := by decide +kernel
theorem dX4_copyFrom_19 : decode cX4_copyFrom 19 = .ok (.invokevirtual 50, 3) := by decide +kernel
theorem dX4_copyFrom_22 : decode cX4_copyFrom 22 = .ok (.aload_n 0, 1) := by decide +kernel
theorem dX4_copyFrom_23 : decode cX4_copyFrom 23 = .ok (.getfield 24, 3) := by decide +kernel
theorem dX4_copyFrom_26 : decode cX4_copyFrom 26 = .ok (.aload_n 1, 1) := by decide +kernel
theorem dX4_copyFrom_27 : decode cX4_copyFrom 27 = .ok (.getfield 24, 3) := by decide +kernel
theorem dX4_copyFrom_30 : decode cX4_copyFrom 30 = .ok (.invokevirtual 54, 3) := by decide +kernel
theorem dX4_copyFrom_33 : decode cX4_copyFrom 33 = .ok (.aload_n 0, 1) := by decide +kernel
theorem dX4_copyFrom_34 : decode cX4_copyFrom 34 = .ok (.getfield 31, 3) := by decide +kernel
theorem dX4_copyFrom_37 : decode cX4_copyFrom 37 = .ok (.aload_n 1, 1) := by decide +kernel
theorem dX4_copyFrom_38 : decode cX4_copyFrom 38 = .ok (.getfield 31, 3) := by decide +kernel
theorem dX4_copyFrom_41 : decode cX4_copyFrom 41 = .ok (.invokevirtual 57, 3) := by decide +kernel
theorem dX4_copyFrom_44 : decode cX4_copyFrom 44 = .ok (.aload_n 1, 1) := by decide +kernel
theorem dX4_copyFrom_45 : decode cX4_copyFrom 45 = .ok (.getfield 44, 3) := by decide +kernel
theorem dX4_copyFrom_48 : decode cX4_copyFrom 48 = .ok (.aload_n 0, 1) := by decide +kernel
theorem dX4_copyFrom_49 : decode cX4_copyFrom 49 = .ok (.getfield 44, 3) := by decide +kernel
theorem dX4_copyFrom_52 : decode cX4_copyFrom 52 = .ok (.invokestatic 60, 3) := by decide +kernel
theorem dX4_copyFrom_55 : decode cX4_copyFrom 55 = .ok (.aload_n 1, 1) := by decide +kernel
theorem dX4_copyFrom_56 : decode cX4_copyFrom 56 = .ok (.getfield 47, 3) := by decide +kernel
theorem dX4_copyFrom_59 : decode cX4_copyFrom 59 = .ok (.aload_n 0, 1) := by decide +kernel
theorem dX4_copyFrom_60 : decode cX4_copyFrom 60 = .ok (.getfield 47, 3) := by decide +kernel
theorem dX4_copyFrom_63 : decode cX4_copyFrom 63 = .ok (.invokestatic 60, 3) := by decide +kernel
theorem dX4_copyFrom_66 : decode cX4_copyFrom 66 = .ok (.aload_n 0, 1) := by decide +kernel
theorem dX4_copyFrom_67 : decode cX4_copyFrom 67 = .ok (.aload_n 1, 1) := by decide +kernel
theorem dX4_copyFrom_68 : decode cX4_copyFrom 68 = .ok (.getfield 64, 3) := by decide +kernel
theorem dX4_copyFrom_71 : decode cX4_copyFrom 71 = .ok (.putfield 64, 3) := by decide +kernel
theorem dX4_copyFrom_74 : decode cX4_copyFrom 74 = .ok (.aload_n 0, 1) := by decide +kernel
theorem dX4_copyFrom_75 : decode cX4_copyFrom 75 = .ok (.aload_n 1, 1) := by decide +kernel
theorem dX4_copyFrom_76 : decode cX4_copyFrom 76 = .ok (.getfield 68, 3) := by decide +kernel
theorem dX4_copyFrom_79 : decode cX4_copyFrom 79 = .ok (.putfield 68, 3) := by decide +kernel
theorem dX4_copyFrom_82 : decode cX4_copyFrom 82 = .ok (.return_, 1) := by decide +kernel
theorem dX4_table_0 : decode cX4_table 0 = .ok (.iload_n 1, 1) := by decide +kernel
theorem dX4_table_1 : decode cX4_table 1 = .ok (.ifCond .eq 10, 3) := by decide +kernel
theorem dX4_table_4 : decode cX4_table 4 = .ok (.aload_n 0, 1) := by decide +kernel
theorem dX4_table_5 : decode cX4_table 5 = .ok (.getfield 18, 3) := by decide +kernel
theorem dX4_table_8 : decode cX4_table 8 = .ok (.goto 7, 3) := by decide +kernel
theorem dX4_table_11 : decode cX4_table 11 = .ok (.aload_n 0, 1) := by decide +kernel
theorem dX4_table_12 : decode cX4_table 12 = .ok (.getfield 12, 3) := by decide +kernel
theorem dX4_table_15 : decode cX4_table 15 = .ok (.areturn, 1) := by decide +kernel
theorem dX4_answers_0 : decode cX4_answers 0 = .ok (.aload_n 0, 1) := by decide +kernel
theorem dX4_answers_1 : decode cX4_answers 1 = .ok (.getfield 24, 3) := by decide +kernel
theorem dX4_answers_4 : decode cX4_answers 4 = .ok (.areturn, 1) := by decide +kernel
theorem dX4_memo_0 : decode cX4_memo 0 = .ok (.aload_n 0, 1) := by decide +kernel
theorem dX4_memo_1 : decode cX4_memo 1 = .ok (.getfield 31, 3) := by decide +kernel
theorem dX4_memo_4 : decode cX4_memo 4 = .ok (.areturn, 1) := by decide +kernel
theorem dX4_setting_0 : decode cX4_setting 0 = .ok (.iload_n 1, 1) := by decide +kernel
theorem dX4_setting_1 : decode cX4_setting 1 = .ok (.ifCond .lt 21, 3) := by decide +kernel
theorem dX4_setting_4 : decode cX4_setting 4 = .ok (.iload_n 1, 1) := by decide +kernel
theorem dX4_setting_5 : decode cX4_setting 5 = .ok (.aload_n 0, 1) := by decide +kernel
theorem dX4_setting_6 : decode cX4_setting 6 = .ok (.getfield 44, 3) := by decide +kernel
theorem dX4_setting_9 : decode cX4_setting 9 = .ok (.arraylength, 1) := by decide +kernel
theorem dX4_setting_10 : decode cX4_setting 10 = .ok (.if_icmp .ge 12, 3) := by decide +kernel
theorem dX4_setting_13 : decode cX4_setting 13 = .ok (.aload_n 0, 1) := by decide +kernel
theorem dX4_setting_14 : decode cX4_setting 14 = .ok (.getfield 44, 3) := by decide +kernel
theorem dX4_setting_17 : decode cX4_setting 17 = .ok (.iload_n 1, 1) := by decide +kernel
theorem dX4_setting_18 : decode cX4_setting 18 = .ok (.iaload, 1) := by decide +kernel
theorem dX4_setting_19 : decode cX4_setting 19 = .ok (.goto 4, 3) := by decide +kernel
theorem dX4_setting_22 : decode cX4_setting 22 = .ok (.iconst 0, 1) := by decide +kernel
theorem dX4_setting_23 : decode cX4_setting 23 = .ok (.ireturn, 1) := by decide +kernel
theorem dX4_tally_0 : decode cX4_tally 0 = .ok (.iload_n 1, 1) := by decide +kernel
theorem dX4_tally_1 : decode cX4_tally 1 = .ok (.ifCond .lt 21, 3) := by decide +kernel
theorem dX4_tally_4 : decode cX4_tally 4 = .ok (.iload_n 1, 1) := by decide +kernel
theorem dX4_tally_5 : decode cX4_tally 5 = .ok (.aload_n 0, 1) := by decide +kernel
theorem dX4_tally_6 : decode cX4_tally 6 = .ok (.getfield 47, 3) := by decide +kernel
theorem dX4_tally_9 : decode cX4_tally 9 = .ok (.arraylength, 1) := by decide +kernel
theorem dX4_tally_10 : decode cX4_tally 10 = .ok (.if_icmp .ge 12, 3) := by decide +kernel
theorem dX4_tally_13 : decode cX4_tally 13 = .ok (.aload_n 0, 1) := by decide +kernel
theorem dX4_tally_14 : decode cX4_tally 14 = .ok (.getfield 47, 3) := by decide +kernel
theorem dX4_tally_17 : decode cX4_tally 17 = .ok (.iload_n 1, 1) := by decide +kernel
theorem dX4_tally_18 : decode cX4_tally 18 = .ok (.iaload, 1) := by decide +kernel
theorem dX4_tally_19 : decode cX4_tally 19 = .ok (.goto 4, 3) := by decide +kernel
theorem dX4_tally_22 : decode cX4_tally 22 = .ok (.iconst 0, 1) := by decide +kernel
theorem dX4_tally_23 : decode cX4_tally 23 = .ok (.ireturn, 1) := by decide +kernel
theorem dX4_place_0 : decode cX4_place 0 = .ok (.aload_n 0, 1) := by decide +kernel
theorem dX4_place_1 : decode cX4_place 1 = .ok (.getfield 64, 3) := by decide +kernel
theorem dX4_place_4 : decode cX4_place 4 = .ok (.ireturn, 1) := by decide +kernel
theorem dX4_totalSoFar_0 : decode cX4_totalSoFar 0 = .ok (.aload_n 0, 1) := by decide +kernel
theorem dX4_totalSoFar_1 : decode cX4_totalSoFar 1 = .ok (.getfield 68, 3) := by decide +kernel
theorem dX4_totalSoFar_4 : decode cX4_totalSoFar 4 = .ok (.ireturn, 1) := by decide +kernel
theorem dX4_isDone_0 : decode cX4_isDone 0 = .ok (.iload_n 1, 1) := by decide +kernel
theorem dX4_isDone_1 : decode cX4_isDone 1 = .ok (.aload_n 0, 1) := by decide +kernel
theorem dX4_isDone_2 : decode cX4_isDone 2 = .ok (.getfield 64, 3) := by decide +kernel
theorem dX4_isDone_5 : decode cX4_isDone 5 = .ok (.if_icmp .ge 7, 3) := by decide +kernel
theorem dX4_isDone_8 : decode cX4_isDone 8 = .ok (.iconst 1, 1) := by decide +kernel
theorem dX4_isDone_9 : decode cX4_isDone 9 = .ok (.goto 4, 3) := by decide +kernel
theorem dX4_isDone_12 : decode cX4_isDone 12 = .ok (.iconst 0, 1) := by decide +kernel
theorem dX4_isDone_13 : decode cX4_isDone 13 = .ok (.ireturn, 1) := by decide +kernel
set_option maxRecDepth 20000 in
theorem ggX4_isInRememberedAnswer_X5_key : GoodIn wsX4_isInRememberedAnswer wsX5_key := goodIn_r _ [7, 8, 34, 35, 36] (by decide +kernel) (by decide +kernel)
set_option maxRecDepth 20000 in
theorem gX4_isInRememberedAnswer_X5_key : GoodIn wsX4_isInRememberedAnswer (wsV RX4 71 RX5 yX5_key wsX5_key) := goodIn_app (goodIn_of _ (by decide +kernel)) ggX4_isInRememberedAnswer_X5_key
set_option maxRecDepth 20000 in
theorem ggX4_isInRememberedAnswer_X2_holds : GoodIn wsX4_isInRememberedAnswer wsX2_holds := goodIn_r _ [13, 14, 37, 38, 39, 40] (by decide +kernel) (by decide +kernel)
set_option maxRecDepth 20000 in
theorem gX4_isInRememberedAnswer_X2_holds : GoodIn wsX4_isInRememberedAnswer (wsV RX4 75 RX2 yX2_holds wsX2_holds) := goodIn_app (goodIn_of _ (by decide +kernel)) ggX4_isInRememberedAnswer_X2_holds
set_option maxRecDepth 20000 in
theorem ggX4_isInRememberedAnswer_X5_value : GoodIn wsX4_isInRememberedAnswer wsX5_value := goodIn_r _ [18, 19, 34, 35, 36] (by decide +kernel) (by decide +kernel)
set_option maxRecDepth 20000 in
theorem gX4_isInRememberedAnswer_X5_value : GoodIn wsX4_isInRememberedAnswer (wsV RX4 79 RX5 yX5_value wsX5_value) := goodIn_app (goodIn_of _ (by decide +kernel)) ggX4_isInRememberedAnswer_X5_value
set_option maxRecDepth 20000 in
theorem ggX4_isInRememberedAnswer_X4_isInBand : GoodIn wsX4_isInRememberedAnswer wsX4_isInBand := goodIn_r _ [24, 25, 26, 27, 28, 29, 30, 31, 32, 33] (by decide +kernel) (by decide +kernel)
set_option maxRecDepth 20000 in
theorem gX4_isInRememberedAnswer_X4_isInBand : GoodIn wsX4_isInRememberedAnswer (wsV RX4 82 RX4 yX4_isInBand wsX4_isInBand) := goodIn_app (goodIn_of _ (by decide +kernel)) ggX4_isInRememberedAnswer_X4_isInBand
theorem dX4_isInRememberedAnswer_0 : decode cX4_isInRememberedAnswer 0 = .ok (.aload_n 0, 1) := by decide +kernel
theorem dX4_isInRememberedAnswer_1 : decode cX4_isInRememberedAnswer 1 = .ok (.getfield 31, 3) := by decide +kernel
theorem dX4_isInRememberedAnswer_4 : decode cX4_isInRememberedAnswer 4 = .ok (.aload_n 0, 1) := by decide +kernel
theorem dX4_isInRememberedAnswer_5 : decode cX4_isInRememberedAnswer 5 = .ok (.getfield 18, 3) := by decide +kernel
theorem dX4_isInRememberedAnswer_8 : decode cX4_isInRememberedAnswer 8 = .ok (.iload_n 1, 1) := by decide +kernel
theorem dX4_isInRememberedAnswer_9 : decode cX4_isInRememberedAnswer 9 = .ok (.invokevirtual 71, 3) := by decide +kernel
theorem dX4_isInRememberedAnswer_12 : decode cX4_isInRememberedAnswer 12 = .ok (.invokevirtual 75, 3) := by decide +kernel
theorem dX4_isInRememberedAnswer_15 : decode cX4_isInRememberedAnswer 15 = .ok (.ifCond .eq 22, 3) := by decide +kernel
theorem dX4_isInRememberedAnswer_18 : decode cX4_isInRememberedAnswer 18 = .ok (.aload_n 0, 1) := by decide +kernel
theorem dX4_isInRememberedAnswer_19 : decode cX4_isInRememberedAnswer 19 = .ok (.aload_n 0, 1) := by decide +kernel
theorem dX4_isInRememberedAnswer_20 : decode cX4_isInRememberedAnswer 20 = .ok (.getfield 18, 3) := by decide +kernel
theorem dX4_isInRememberedAnswer_23 : decode cX4_isInRememberedAnswer 23 = .ok (.iload_n 1, 1) := by decide +kernel
theorem dX4_isInRememberedAnswer_24 : decode cX4_isInRememberedAnswer 24 = .ok (.invokevirtual 79, 3) := by decide +kernel
theorem dX4_isInRememberedAnswer_27 : decode cX4_isInRememberedAnswer 27 = .ok (.invokevirtual 82, 3) := by decide +kernel
theorem dX4_isInRememberedAnswer_30 : decode cX4_isInRememberedAnswer 30 = .ok (.ifCond .eq 7, 3) := by decide +kernel
theorem dX4_isInRememberedAnswer_33 : decode cX4_isInRememberedAnswer 33 = .ok (.iconst 1, 1) := by decide +kernel
theorem dX4_isInRememberedAnswer_34 : decode cX4_isInRememberedAnswer 34 = .ok (.goto 4, 3) := by decide +kernel
theorem dX4_isInRememberedAnswer_37 : decode cX4_isInRememberedAnswer 37 = .ok (.iconst 0, 1) := by decide +kernel
theorem dX4_isInRememberedAnswer_38 : decode cX4_isInRememberedAnswer 38 = .ok (.ireturn, 1) := by decide +kernel
set_option maxRecDepth 20000 in
theorem ggX4_insertRow_X6_isRow : GoodIn wsX4_insertRow wsX6_isRow := goodIn_r _ [3, 4, 5, 2, 6, 7, 8, 9] (by decide +kernel) (by decide +kernel)
set_option maxRecDepth 20000 in
theorem gX4_insertRow_X6_isRow_n85 : GoodIn wsX4_insertRow (wsX6_isRow) := ggX4_insertRow_X6_isRow
set_option maxRecDepth 20000 in
theorem ggX4_insertRow_X4_table : GoodIn wsX4_insertRow wsX4_table := goodIn_r _ [14, 15, 16, 88, 89, 90, 91, 92, 93, 94, 95] (by decide +kernel) (by decide +kernel)
set_option maxRecDepth 20000 in
theorem gX4_insertRow_X4_table : GoodIn wsX4_insertRow (wsV RX4 89 RX4 yX4_table wsX4_table) := goodIn_app (goodIn_of _ (by decide +kernel)) ggX4_insertRow_X4_table
set_option maxRecDepth 20000 in
theorem ggX4_insertRow_X5_size : GoodIn wsX4_insertRow wsX5_size := goodIn_r _ [21, 22, 96, 97, 98] (by decide +kernel) (by decide +kernel)
set_option maxRecDepth 20000 in
theorem gX4_insertRow_X5_size : GoodIn wsX4_insertRow (wsV RX4 93 RX5 yX5_size wsX5_size) := goodIn_app (goodIn_of _ (by decide +kernel)) ggX4_insertRow_X5_size
set_option maxRecDepth 20000 in
theorem ggX4_insertRow_X5_push : GoodIn wsX4_insertRow wsX5_push := goodIn_r _ [26, 22, 27, 28, 29, 20, 30, 31, 32, 96, 97, 98] (by decide +kernel) (by decide +kernel)
set_option maxRecDepth 20000 in
theorem gX4_insertRow_X5_push : GoodIn wsX4_insertRow (wsV RX4 97 RX5 yX5_push wsX5_push) := goodIn_app (goodIn_of _ (by decide +kernel)) ggX4_insertRow_X5_push
set_option maxRecDepth 20000 in
theorem ggX4_insertRow_X4_keepTrue : GoodIn wsX4_insertRow wsX4_keepTrue := goodIn_r _ [36, 37, 38, 39, 40, 13, 41, 42, 15, 43, 44, 45, 46, 47, 48, 49, 50, 51, 18, 19, 20, 21, 22, 52, 53, 54, 55, 32, 56, 57, 58, 59, 31, 60, 61, 62, 63, 64, 65, 66, 67, 68, 69, 70, 71, 72, 73, 74, 75, 76, 77, 78, 79, 80, 81, 82, 83, 84, 85, 86, 87, 88, 89, 90, 91, 92, 93, 94, 95, 99, 100, 101, 96, 97, 98, 102, 103, 104, 105] (by decide +kernel) (by decide +kernel)
set_option maxRecDepth 20000 in
theorem gX4_insertRow_X4_keepTrue : GoodIn wsX4_insertRow (wsV RX4 101 RX4 yX4_keepTrue wsX4_keepTrue) := goodIn_app (goodIn_of _ (by decide +kernel)) ggX4_insertRow_X4_keepTrue
theorem dX4_insertRow_0 : decode cX4_insertRow 0 = .ok (.iload_n 2, 1) := by decide +kernel
theorem dX4_insertRow_1 : decode cX4_insertRow 1 = .ok (.iload_n 3, 1) := by decide +kernel
theorem dX4_insertRow_2 : decode cX4_insertRow 2 = .ok (.invokestatic 85, 3) := by decide +kernel
theorem dX4_insertRow_5 : decode cX4_insertRow 5 = .ok (.ifCond .ne 5, 3) := by decide +kernel
theorem dX4_insertRow_8 : decode cX4_insertRow 8 = .ok (.iconst (-1), 1) := by decide +kernel
theorem dX4_insertRow_9 : decode cX4_insertRow 9 = .ok (.ireturn, 1) := by decide +kernel
theorem dX4_insertRow_10 : decode cX4_insertRow 10 = .ok (.aload_n 0, 1) := by decide +kernel
theorem dX4_insertRow_11 : decode cX4_insertRow 11 = .ok (.iload_n 1, 1) := by decide +kernel
theorem dX4_insertRow_12 : decode cX4_insertRow 12 = .ok (.invokevirtual 89, 3) := by decide +kernel
theorem dX4_insertRow_15 : decode cX4_insertRow 15 = .ok (.astore 4, 2) := by decide +kernel
theorem dX4_insertRow_17 : decode cX4_insertRow 17 = .ok (.aload 4, 2) := by decide +kernel
theorem dX4_insertRow_19 : decode cX4_insertRow 19 = .ok (.invokevirtual 93, 3) := by decide +kernel
theorem dX4_insertRow_22 : decode cX4_insertRow 22 = .ok (.bipush 20, 2) := by decide +kernel
theorem dX4_insertRow_24 : decode cX4_insertRow 24 = .ok (.if_icmp .lt 6, 3) := by decide +kernel
theorem dX4_insertRow_27 : decode cX4_insertRow 27 = .ok (.bipush (-3), 2) := by decide +kernel
theorem dX4_insertRow_29 : decode cX4_insertRow 29 = .ok (.ireturn, 1) := by decide +kernel
theorem dX4_insertRow_30 : decode cX4_insertRow 30 = .ok (.aload 4, 2) := by decide +kernel
theorem dX4_insertRow_32 : decode cX4_insertRow 32 = .ok (.iload_n 2, 1) := by decide +kernel
theorem dX4_insertRow_33 : decode cX4_insertRow 33 = .ok (.iload_n 3, 1) := by decide +kernel
theorem dX4_insertRow_34 : decode cX4_insertRow 34 = .ok (.invokevirtual 97, 3) := by decide +kernel
theorem dX4_insertRow_37 : decode cX4_insertRow 37 = .ok (.iload_n 1, 1) := by decide +kernel
theorem dX4_insertRow_38 : decode cX4_insertRow 38 = .ok (.ifCond .eq 9, 3) := by decide +kernel
theorem dX4_insertRow_41 : decode cX4_insertRow 41 = .ok (.aload_n 0, 1) := by decide +kernel
theorem dX4_insertRow_42 : decode cX4_insertRow 42 = .ok (.iload_n 2, 1) := by decide +kernel
theorem dX4_insertRow_43 : decode cX4_insertRow 43 = .ok (.iload_n 2, 1) := by decide +kernel
theorem dX4_insertRow_44 : decode cX4_insertRow 44 = .ok (.invokevirtual 101, 3) := by decide +kernel
theorem dX4_insertRow_47 : decode cX4_insertRow 47 = .ok (.aload 4, 2) := by decide +kernel
theorem dX4_insertRow_49 : decode cX4_insertRow 49 = .ok (.invokevirtual 93, 3) := by decide +kernel
theorem dX4_insertRow_52 : decode cX4_insertRow 52 = .ok (.iconst 1, 1) := by decide +kernel
theorem dX4_insertRow_53 : decode cX4_insertRow 53 = .ok (.isub, 1) := by decide +kernel
theorem dX4_insertRow_54 : decode cX4_insertRow 54 = .ok (.ireturn, 1) := by decide +kernel
set_option maxRecDepth 20000 in
theorem ggX4_removeRow_X4_table : GoodIn wsX4_removeRow wsX4_table := goodIn_r _ [6, 7, 8, 92, 93, 94, 95, 96, 97, 98, 99] (by decide +kernel) (by decide +kernel)
set_option maxRecDepth 20000 in
theorem gX4_removeRow_X4_table : GoodIn wsX4_removeRow (wsV RX4 89 RX4 yX4_table wsX4_table) := goodIn_app (goodIn_of _ (by decide +kernel)) ggX4_removeRow_X4_table
set_option maxRecDepth 20000 in
theorem ggX4_removeRow_X5_has : GoodIn wsX4_removeRow wsX5_has := goodIn_r _ [13, 14, 100, 101, 102] (by decide +kernel) (by decide +kernel)
set_option maxRecDepth 20000 in
theorem gX4_removeRow_X5_has : GoodIn wsX4_removeRow (wsV RX4 104 RX5 yX5_has wsX5_has) := goodIn_app (goodIn_of _ (by decide +kernel)) ggX4_removeRow_X5_has
set_option maxRecDepth 20000 in
theorem ggX4_removeRow_X5_key : GoodIn wsX4_removeRow wsX5_key := goodIn_r _ [18, 19, 100, 101, 102] (by decide +kernel) (by decide +kernel)
set_option maxRecDepth 20000 in
theorem gX4_removeRow_X5_key : GoodIn wsX4_removeRow (wsV RX4 71 RX5 yX5_key wsX5_key) := goodIn_app (goodIn_of _ (by decide +kernel)) ggX4_removeRow_X5_key
set_option maxRecDepth 20000 in
theorem ggX4_removeRow_X5_takeOut : GoodIn wsX4_removeRow wsX5_takeOut := goodIn_r _ [23, 14, 24, 10, 11, 12, 13, 25, 16, 17, 18, 19, 26, 27, 28, 29, 30, 31, 32, 33, 34, 100, 101, 102] (by decide +kernel) (by decide +kernel)
set_option maxRecDepth 20000 in
theorem gX4_removeRow_X5_takeOut : GoodIn wsX4_removeRow (wsV RX4 107 RX5 yX5_takeOut wsX5_takeOut) := goodIn_app (goodIn_of _ (by decide +kernel)) ggX4_removeRow_X5_takeOut
set_option maxRecDepth 20000 in
theorem ggX4_removeRow_X4_keepTrue : GoodIn wsX4_removeRow wsX4_keepTrue := goodIn_r _ [38, 39, 40, 41, 42, 5, 43, 44, 7, 45, 46, 47, 48, 49, 50, 51, 52, 53, 54, 55, 12, 56, 14, 57, 27, 28, 29, 30, 58, 16, 17, 18, 19, 59, 60, 61, 62, 63, 64, 65, 66, 67, 68, 69, 70, 71, 72, 73, 74, 75, 76, 77, 78, 79, 80, 81, 82, 83, 84, 85, 86, 92, 93, 94, 95, 96, 97, 98, 99, 103, 104, 105, 100, 101, 102, 106, 107, 108, 109] (by decide +kernel) (by decide +kernel)
set_option maxRecDepth 20000 in
theorem gX4_removeRow_X4_keepTrue : GoodIn wsX4_removeRow (wsV RX4 101 RX4 yX4_keepTrue wsX4_keepTrue) := goodIn_app (goodIn_of _ (by decide +kernel)) ggX4_removeRow_X4_keepTrue
set_option maxRecDepth 20000 in
theorem ggX4_removeRow_X4_isDone : GoodIn wsX4_removeRow wsX4_isDone := goodIn_r _ [90, 1, 92, 93, 94, 95, 96, 97, 98, 99] (by decide +kernel) (by decide +kernel)
set_option maxRecDepth 20000 in
theorem gX4_removeRow_X4_isDone : GoodIn wsX4_removeRow (wsV RX4 111 RX4 yX4_isDone wsX4_isDone) := goodIn_app (goodIn_of _ (by decide +kernel)) ggX4_removeRow_X4_isDone
set_option maxRecDepth 20000 in
theorem ggX4_removeRow_X5_size : GoodIn wsX4_removeRow wsX5_size := goodIn_r _ [56, 14, 100, 101, 102] (by decide +kernel) (by decide +kernel)
set_option maxRecDepth 20000 in
theorem gX4_removeRow_X5_size : GoodIn wsX4_removeRow (wsV RX4 93 RX5 yX5_size wsX5_size) := goodIn_app (goodIn_of _ (by decide +kernel)) ggX4_removeRow_X5_size
theorem dX4_removeRow_0 : decode cX4_removeRow 0 = .ok (.aload_n 0, 1) := by decide +kernel
theorem dX4_removeRow_1 : decode cX4_removeRow 1 = .ok (.iload_n 1, 1) := by decide +kernel
theorem dX4_removeRow_2 : decode cX4_removeRow 2 = .ok (.invokevirtual 89, 3) := by decide +kernel
theorem dX4_removeRow_5 : decode cX4_removeRow 5 = .ok (.astore_n 3, 1) := by decide +kernel
theorem dX4_removeRow_6 : decode cX4_removeRow 6 = .ok (.aload_n 3, 1) := by decide +kernel
theorem dX4_removeRow_7 : decode cX4_removeRow 7 = .ok (.iload_n 2, 1) := by decide +kernel
theorem dX4_removeRow_8 : decode cX4_removeRow 8 = .ok (.invokevirtual 104, 3) := by decide +kernel
theorem dX4_removeRow_11 : decode cX4_removeRow 11 = .ok (.ifCond .ne 5, 3) := by decide +kernel
theorem dX4_removeRow_14 : decode cX4_removeRow 14 = .ok (.iconst (-1), 1) := by decide +kernel
theorem dX4_removeRow_15 : decode cX4_removeRow 15 = .ok (.ireturn, 1) := by decide +kernel
theorem dX4_removeRow_16 : decode cX4_removeRow 16 = .ok (.aload_n 3, 1) := by decide +kernel
theorem dX4_removeRow_17 : decode cX4_removeRow 17 = .ok (.iload_n 2, 1) := by decide +kernel
theorem dX4_removeRow_18 : decode cX4_removeRow 18 = .ok (.invokevirtual 71, 3) := by decide +kernel
theorem dX4_removeRow_21 : decode cX4_removeRow 21 = .ok (.istore 4, 2) := by decide +kernel
theorem dX4_removeRow_23 : decode cX4_removeRow 23 = .ok (.aload_n 3, 1) := by decide +kernel
theorem dX4_removeRow_24 : decode cX4_removeRow 24 = .ok (.iload_n 2, 1) := by decide +kernel
theorem dX4_removeRow_25 : decode cX4_removeRow 25 = .ok (.invokevirtual 107, 3) := by decide +kernel
theorem dX4_removeRow_28 : decode cX4_removeRow 28 = .ok (.iload_n 1, 1) := by decide +kernel
theorem dX4_removeRow_29 : decode cX4_removeRow 29 = .ok (.ifCond .eq 14, 3) := by decide +kernel
theorem dX4_removeRow_32 : decode cX4_removeRow 32 = .ok (.aload_n 0, 1) := by decide +kernel
theorem dX4_removeRow_33 : decode cX4_removeRow 33 = .ok (.iload 4, 2) := by decide +kernel
theorem dX4_removeRow_35 : decode cX4_removeRow 35 = .ok (.iload 4, 2) := by decide +kernel
theorem dX4_removeRow_37 : decode cX4_removeRow 37 = .ok (.invokevirtual 101, 3) := by decide +kernel
theorem dX4_removeRow_40 : decode cX4_removeRow 40 = .ok (.goto 21, 3) := by decide +kernel
theorem dX4_removeRow_43 : decode cX4_removeRow 43 = .ok (.aload_n 0, 1) := by decide +kernel
theorem dX4_removeRow_44 : decode cX4_removeRow 44 = .ok (.iload_n 2, 1) := by decide +kernel
theorem dX4_removeRow_45 : decode cX4_removeRow 45 = .ok (.invokevirtual 111, 3) := by decide +kernel
theorem dX4_removeRow_48 : decode cX4_removeRow 48 = .ok (.ifCond .eq 13, 3) := by decide +kernel
theorem dX4_removeRow_51 : decode cX4_removeRow 51 = .ok (.aload_n 0, 1) := by decide +kernel
theorem dX4_removeRow_52 : decode cX4_removeRow 52 = .ok (.dup, 1) := by decide +kernel
theorem dX4_removeRow_53 : decode cX4_removeRow 53 = .ok (.getfield 64, 3) := by decide +kernel
theorem dX4_removeRow_56 : decode cX4_removeRow 56 = .ok (.iconst 1, 1) := by decide +kernel
theorem dX4_removeRow_57 : decode cX4_removeRow 57 = .ok (.isub, 1) := by decide +kernel
theorem dX4_removeRow_58 : decode cX4_removeRow 58 = .ok (.putfield 64, 3) := by decide +kernel
theorem dX4_removeRow_61 : decode cX4_removeRow 61 = .ok (.aload_n 3, 1) := by decide +kernel
theorem dX4_removeRow_62 : decode cX4_removeRow 62 = .ok (.invokevirtual 93, 3) := by decide +kernel
theorem dX4_removeRow_65 : decode cX4_removeRow 65 = .ok (.ireturn, 1) := by decide +kernel
set_option maxRecDepth 20000 in
theorem ggX4_rewriteRow_X5_has : GoodIn wsX4_rewriteRow wsX5_has := goodIn_r _ [7, 8, 92, 93, 94] (by decide +kernel) (by decide +kernel)
set_option maxRecDepth 20000 in
theorem gX4_rewriteRow_X5_has : GoodIn wsX4_rewriteRow (wsV RX4 104 RX5 yX5_has wsX5_has) := goodIn_app (goodIn_of _ (by decide +kernel)) ggX4_rewriteRow_X5_has
set_option maxRecDepth 20000 in
theorem ggX4_rewriteRow_X6_isRow : GoodIn wsX4_rewriteRow wsX6_isRow := goodIn_r _ [11, 12, 13, 10, 14, 15, 16, 17] (by decide +kernel) (by decide +kernel)
set_option maxRecDepth 20000 in
theorem gX4_rewriteRow_X6_isRow_n85 : GoodIn wsX4_rewriteRow (wsX6_isRow) := ggX4_rewriteRow_X6_isRow
set_option maxRecDepth 20000 in
theorem ggX4_rewriteRow_X5_key : GoodIn wsX4_rewriteRow wsX5_key := goodIn_r _ [21, 22, 92, 93, 94] (by decide +kernel) (by decide +kernel)
set_option maxRecDepth 20000 in
theorem gX4_rewriteRow_X5_key : GoodIn wsX4_rewriteRow (wsV RX4 71 RX5 yX5_key wsX5_key) := goodIn_app (goodIn_of _ (by decide +kernel)) ggX4_rewriteRow_X5_key
set_option maxRecDepth 20000 in
theorem ggX4_rewriteRow_X5_put : GoodIn wsX4_rewriteRow wsX5_put := goodIn_r _ [26, 22, 27, 92, 93, 94] (by decide +kernel) (by decide +kernel)
set_option maxRecDepth 20000 in
theorem gX4_rewriteRow_X5_put : GoodIn wsX4_rewriteRow (wsV RX4 114 RX5 yX5_put wsX5_put) := goodIn_app (goodIn_of _ (by decide +kernel)) ggX4_rewriteRow_X5_put
set_option maxRecDepth 20000 in
theorem ggX4_rewriteRow_X4_keepTrue : GoodIn wsX4_rewriteRow wsX4_keepTrue := goodIn_r _ [32, 33, 34, 35, 36, 31, 37, 38, 1, 39, 40, 41, 42, 43, 44, 45, 46, 47, 48, 49, 6, 50, 8, 51, 52, 53, 54, 27, 55, 19, 20, 21, 22, 56, 57, 58, 59, 2, 60, 61, 62, 63, 64, 65, 66, 67, 68, 69, 70, 71, 72, 73, 74, 75, 76, 77, 78, 79, 80, 81, 82, 84, 85, 86, 87, 88, 89, 90, 91, 95, 96, 97, 92, 93, 94, 98, 99, 100, 101] (by decide +kernel) (by decide +kernel)
set_option maxRecDepth 20000 in
theorem gX4_rewriteRow_X4_keepTrue : GoodIn wsX4_rewriteRow (wsV RX4 101 RX4 yX4_keepTrue wsX4_keepTrue) := goodIn_app (goodIn_of _ (by decide +kernel)) ggX4_rewriteRow_X4_keepTrue
set_option maxRecDepth 20000 in
theorem ggX4_rewriteRow_X2_size : GoodIn wsX4_rewriteRow wsX2_size := goodIn_r _ [70, 66, 98, 99, 100, 101] (by decide +kernel) (by decide +kernel)
set_option maxRecDepth 20000 in
theorem gX4_rewriteRow_X2_size : GoodIn wsX4_rewriteRow (wsV RX4 118 RX2 yX2_size wsX2_size) := goodIn_app (goodIn_of _ (by decide +kernel)) ggX4_rewriteRow_X2_size
theorem dX4_rewriteRow_0 : decode cX4_rewriteRow 0 = .ok (.aload_n 0, 1) := by decide +kernel
theorem dX4_rewriteRow_1 : decode cX4_rewriteRow 1 = .ok (.getfield 18, 3) := by decide +kernel
theorem dX4_rewriteRow_4 : decode cX4_rewriteRow 4 = .ok (.iload_n 1, 1) := by decide +kernel
theorem dX4_rewriteRow_5 : decode cX4_rewriteRow 5 = .ok (.invokevirtual 104, 3) := by decide +kernel
theorem dX4_rewriteRow_8 : decode cX4_rewriteRow 8 = .ok (.ifCond .eq 11, 3) := by decide +kernel
theorem dX4_rewriteRow_11 : decode cX4_rewriteRow 11 = .ok (.iload_n 2, 1) := by decide +kernel
theorem dX4_rewriteRow_12 : decode cX4_rewriteRow 12 = .ok (.iload_n 3, 1) := by decide +kernel
theorem dX4_rewriteRow_13 : decode cX4_rewriteRow 13 = .ok (.invokestatic 85, 3) := by decide +kernel
theorem dX4_rewriteRow_16 : decode cX4_rewriteRow 16 = .ok (.ifCond .ne 5, 3) := by decide +kernel
theorem dX4_rewriteRow_19 : decode cX4_rewriteRow 19 = .ok (.iconst (-1), 1) := by decide +kernel
theorem dX4_rewriteRow_20 : decode cX4_rewriteRow 20 = .ok (.ireturn, 1) := by decide +kernel
theorem dX4_rewriteRow_21 : decode cX4_rewriteRow 21 = .ok (.aload_n 0, 1) := by decide +kernel
theorem dX4_rewriteRow_22 : decode cX4_rewriteRow 22 = .ok (.getfield 18, 3) := by decide +kernel
theorem dX4_rewriteRow_25 : decode cX4_rewriteRow 25 = .ok (.iload_n 1, 1) := by decide +kernel
theorem dX4_rewriteRow_26 : decode cX4_rewriteRow 26 = .ok (.invokevirtual 71, 3) := by decide +kernel
theorem dX4_rewriteRow_29 : decode cX4_rewriteRow 29 = .ok (.istore 4, 2) := by decide +kernel
theorem dX4_rewriteRow_31 : decode cX4_rewriteRow 31 = .ok (.aload_n 0, 1) := by decide +kernel
theorem dX4_rewriteRow_32 : decode cX4_rewriteRow 32 = .ok (.getfield 18, 3) := by decide +kernel
theorem dX4_rewriteRow_35 : decode cX4_rewriteRow 35 = .ok (.iload_n 1, 1) := by decide +kernel
theorem dX4_rewriteRow_36 : decode cX4_rewriteRow 36 = .ok (.iload_n 2, 1) := by decide +kernel
theorem dX4_rewriteRow_37 : decode cX4_rewriteRow 37 = .ok (.iload_n 3, 1) := by decide +kernel
theorem dX4_rewriteRow_38 : decode cX4_rewriteRow 38 = .ok (.invokevirtual 114, 3) := by decide +kernel
theorem dX4_rewriteRow_41 : decode cX4_rewriteRow 41 = .ok (.aload_n 0, 1) := by decide +kernel
theorem dX4_rewriteRow_42 : decode cX4_rewriteRow 42 = .ok (.iload 4, 2) := by decide +kernel
theorem dX4_rewriteRow_44 : decode cX4_rewriteRow 44 = .ok (.iload_n 2, 1) := by decide +kernel
theorem dX4_rewriteRow_45 : decode cX4_rewriteRow 45 = .ok (.invokevirtual 101, 3) := by decide +kernel
theorem dX4_rewriteRow_48 : decode cX4_rewriteRow 48 = .ok (.aload_n 0, 1) := by decide +kernel
theorem dX4_rewriteRow_49 : decode cX4_rewriteRow 49 = .ok (.getfield 31, 3) := by decide +kernel
theorem dX4_rewriteRow_52 : decode cX4_rewriteRow 52 = .ok (.invokevirtual 118, 3) := by decide +kernel
theorem dX4_rewriteRow_55 : decode cX4_rewriteRow 55 = .ok (.ireturn, 1) := by decide +kernel
set_option maxRecDepth 20000 in
theorem ggX4_walk_X5_size : GoodIn wsX4_walk wsX5_size := goodIn_r _ [10, 11, 86, 87, 88] (by decide +kernel) (by decide +kernel)
set_option maxRecDepth 20000 in
theorem gX4_walk_X5_size : GoodIn wsX4_walk (wsV RX4 93 RX5 yX5_size wsX5_size) := goodIn_app (goodIn_of _ (by decide +kernel)) ggX4_walk_X5_size
set_option maxRecDepth 20000 in
theorem ggX4_walk_X5_key : GoodIn wsX4_walk wsX5_key := goodIn_r _ [15, 16, 86, 87, 88] (by decide +kernel) (by decide +kernel)
set_option maxRecDepth 20000 in
theorem gX4_walk_X5_key : GoodIn wsX4_walk (wsV RX4 71 RX5 yX5_key wsX5_key) := goodIn_app (goodIn_of _ (by decide +kernel)) ggX4_walk_X5_key
set_option maxRecDepth 20000 in
theorem ggX4_walk_X4_lookUp : GoodIn wsX4_walk wsX4_lookUp := goodIn_r _ [21, 22, 3, 23, 5, 24, 25, 26, 27, 28, 29, 30, 31, 32, 33, 34, 35, 36, 6, 7, 8, 9, 10, 11, 37, 38, 39, 40, 41, 42, 43, 44, 45, 46, 47, 48, 49, 50, 20, 51, 52, 53, 54, 55, 56, 57, 58, 59, 60, 61, 62, 63, 64, 65, 66, 67, 78, 79, 80, 81, 82, 83, 84, 85, 89, 90, 91, 92, 86, 87, 88, 93, 94, 95] (by decide +kernel) (by decide +kernel)
set_option maxRecDepth 20000 in
theorem gX4_walk_X4_lookUp : GoodIn wsX4_walk (wsV RX4 119 RX4 yX4_lookUp wsX4_lookUp) := goodIn_app (goodIn_of _ (by decide +kernel)) ggX4_walk_X4_lookUp
set_option maxRecDepth 20000 in
theorem ggX4_walk_X5_value : GoodIn wsX4_walk wsX5_value := goodIn_r _ [71, 72, 86, 87, 88] (by decide +kernel) (by decide +kernel)
set_option maxRecDepth 20000 in
theorem gX4_walk_X5_value : GoodIn wsX4_walk (wsV RX4 79 RX5 yX5_value wsX5_value) := goodIn_app (goodIn_of _ (by decide +kernel)) ggX4_walk_X5_value
set_option maxRecDepth 20000 in
theorem ggX4_walk_X0_sum : GoodIn wsX4_walk wsX0_sum := goodIn_r _ [76, 77, 93, 94, 95] (by decide +kernel) (by decide +kernel)
set_option maxRecDepth 20000 in
theorem gX4_walk_X0_sum : GoodIn wsX4_walk (wsV RX4 122 RX0 yX0_sum wsX0_sum) := goodIn_app (goodIn_of _ (by decide +kernel)) ggX4_walk_X0_sum
theorem dX4_walk_0 : decode cX4_walk 0 = .ok (.iload_n 1, 1) := by decide +kernel
theorem dX4_walk_1 : decode cX4_walk 1 = .ok (.iconst 1, 1) := by decide +kernel
theorem dX4_walk_2 : decode cX4_walk 2 = .ok (.if_icmp .lt 9, 3) := by decide +kernel
theorem dX4_walk_5 : decode cX4_walk 5 = .ok (.iload_n 1, 1) := by decide +kernel
theorem dX4_walk_6 : decode cX4_walk 6 = .ok (.bipush 20, 2) := by decide +kernel
