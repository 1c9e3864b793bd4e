section
-- ===== PART A: goes FIRST, ahead of the names: the tables' words, and 'selects' of the private methods out of them =====
/-- a private method of a class that the tables say can be made, by its rows of tables_1 -/
def lw_okq (q : MethodName × Nat) : Prop := (q.1.cls ≠ "java/lang/invoke/MethodHandle" ∧ q.1.cls ≠ "java/lang/invoke/VarHandle") ∧ Cond.instantiable q.1.cls q.2 ∈ tables_1 ∧ Cond.privateMethod q.1 ∈ tables_1 ∧ Cond.instanceMethod q.1 ∈ tables_1
theorem lw_p0 : lw_okq (⟨"LoopMemo$Memo", "rank", "(II)J"⟩, 4) := ⟨⟨by decide +kernel, by decide +kernel⟩, List.mem_of_getElem? (i := 58) (by decide +kernel), List.mem_of_getElem? (i := 279) (by decide +kernel), List.mem_of_getElem? (i := 280) (by decide +kernel)⟩
theorem lw_p1 : lw_okq (⟨"LoopMemo$State", "isInBand", "(I)Z"⟩, 8) := ⟨⟨by decide +kernel, by decide +kernel⟩, List.mem_of_getElem? (i := 19) (by decide +kernel), List.mem_of_getElem? (i := 327) (by decide +kernel), List.mem_of_getElem? (i := 328) (by decide +kernel)⟩
theorem lw_p2 : lw_okq (⟨"LoopMemo$History", "slot", "(I)LLoopMemo$State;"⟩, 3) := ⟨⟨by decide +kernel, by decide +kernel⟩, List.mem_of_getElem? (i := 111) (by decide +kernel), List.mem_of_getElem? (i := 366) (by decide +kernel), List.mem_of_getElem? (i := 367) (by decide +kernel)⟩
theorem lw_p3 : lw_okq (⟨"LoopMemo$State", "keepTrue", "(II)V"⟩, 8) := ⟨⟨by decide +kernel, by decide +kernel⟩, List.mem_of_getElem? (i := 19) (by decide +kernel), List.mem_of_getElem? (i := 414) (by decide +kernel), List.mem_of_getElem? (i := 415) (by decide +kernel)⟩
theorem lw_p4 : lw_okq (⟨"LoopMemo$State", "findAnswers", "()V"⟩, 8) := ⟨⟨by decide +kernel, by decide +kernel⟩, List.mem_of_getElem? (i := 19) (by decide +kernel), List.mem_of_getElem? (i := 418) (by decide +kernel), List.mem_of_getElem? (i := 419) (by decide +kernel)⟩
theorem lw_p5 : lw_okq (⟨"LoopMemo$State", "keepAnswerTrue", "(I)V"⟩, 8) := ⟨⟨by decide +kernel, by decide +kernel⟩, List.mem_of_getElem? (i := 19) (by decide +kernel), List.mem_of_getElem? (i := 438) (by decide +kernel), List.mem_of_getElem? (i := 439) (by decide +kernel)⟩
theorem lw_p6 : lw_okq (⟨"LoopMemo$State", "lookUp", "(I)V"⟩, 8) := ⟨⟨by decide +kernel, by decide +kernel⟩, List.mem_of_getElem? (i := 19) (by decide +kernel), List.mem_of_getElem? (i := 504) (by decide +kernel), List.mem_of_getElem? (i := 505) (by decide +kernel)⟩
theorem lw_p7 : lw_okq (⟨"LoopMemo$State", "makeRoom", "(I)I"⟩, 8) := ⟨⟨by decide +kernel, by decide +kernel⟩, List.mem_of_getElem? (i := 19) (by decide +kernel), List.mem_of_getElem? (i := 516) (by decide +kernel), List.mem_of_getElem? (i := 517) (by decide +kernel)⟩
def lw_privs_1 : List (MethodName × Nat) := [(⟨"LoopMemo$Memo", "rank", "(II)J"⟩, 4), (⟨"LoopMemo$State", "isInBand", "(I)Z"⟩, 8), (⟨"LoopMemo$History", "slot", "(I)LLoopMemo$State;"⟩, 3), (⟨"LoopMemo$State", "keepTrue", "(II)V"⟩, 8), (⟨"LoopMemo$State", "findAnswers", "()V"⟩, 8), (⟨"LoopMemo$State", "keepAnswerTrue", "(I)V"⟩, 8), (⟨"LoopMemo$State", "lookUp", "(I)V"⟩, 8), (⟨"LoopMemo$State", "makeRoom", "(I)I"⟩, 8)]
theorem lw_r1 : ∀ q ∈ lw_privs_1, lw_okq q := List.forall_mem_cons.mpr ⟨lw_p0, List.forall_mem_cons.mpr ⟨lw_p1, List.forall_mem_cons.mpr ⟨lw_p2, List.forall_mem_cons.mpr ⟨lw_p3, List.forall_mem_cons.mpr ⟨lw_p4, List.forall_mem_cons.mpr ⟨lw_p5, List.forall_mem_cons.mpr ⟨lw_p6, List.forall_mem_cons.mpr ⟨lw_p7, fun _ h => absurd h List.not_mem_nil⟩⟩⟩⟩⟩⟩⟩⟩
def lw_privs : List (MethodName × Nat) := lw_privs_1
def lw_tbl : List Cond := k2_sels lw_privs ++ tables_1
theorem lw_privs_ok : ∀ q ∈ lw_privs, lw_okq q := lw_r1
/-- the streams that the claim lets the run draw from -/
abbrev lw_cs : List Choice := [Jvm.Choice.named "NaN.bits"]
theorem lw_bits : nanBits ∈ lw_cs := by first | decide | exact List.mem_cons_self | simp [lw_cs, nanBits]
/-! ===== BEGIN words of one list among another's, by their places ===== -/
theorem goodIn_r {big : List Cond} (ws : List Cond) (ps : List Nat) (hp : ws = ps.filterMap (fun i => big[i]?)) (h : ws.all goodWord = true) : GoodIn big ws := by
  intro w hw
  have h1 := List.all_eq_true.mp h w hw
  rw [hp] at hw
  obtain ⟨i, -, hi⟩ := List.mem_filterMap.mp hw
  have hm : w ∈ big := by first | exact List.mem_of_getElem? hi | exact List.getElem?_mem hi
  exact ⟨hm, good_of_word h1⟩
theorem goodIn_app {big a b : List Cond} (ha : GoodIn big a) (hb : GoodIn big b) : GoodIn big (a ++ b) := fun w h => (List.mem_append.mp h).elim (ha w) (hb w)
theorem goodIn_ca {big a b : List Cond} {c : Cond} (ha : GoodIn big (c :: a)) (hb : GoodIn big b) : GoodIn big (c :: (a ++ b)) := fun w h => (List.mem_cons.mp h).elim (fun e => ha w (List.mem_cons.mpr (Or.inl e))) (fun h => (List.mem_append.mp h).elim (fun h => ha w (List.mem_cons.mpr (Or.inr h))) (hb w))
theorem goodIn_sub {big ws : List Cond} (hm : ∀ w ∈ ws, w ∈ big) (h : ws.all goodWord = true) : GoodIn big ws := fun w hw => ⟨hm w hw, good_of_word (List.all_eq_true.mp h w hw)⟩
/-! ===== END ===== -/

/-! ===== BEGIN printed: names, fields, word lists, decode rows ===== -/
def RX0 : String := "LoopMemo$Answers"
def TX0 : u_T := fun k => match k with
  | 0 => ("LoopMemo$Answers", "rows", "[I", true)
  | 1 => ("LoopMemo$Answers", "sums", "[I", true)
  | _ => ("LoopMemo$Answers", "firstRows", "[I", true)
def tyX0 : Nat → FieldType := fun k => match k with
  | 0 => .array .int
  | 1 => .array .int
  | _ => .array .int
abbrev wsX00 : List Cond := u_ws RX0 TX0 3
theorem nmX0 : ∀ a, a < 3 → ∀ b, b < 3 → a ≠ b → (TX0 a).2.1 ≠ (TX0 b).2.1 := by decide +kernel
theorem tyX0_ok : ∀ k, k < 3 → parseFieldDescriptor (TX0 k).2.2.1 = some (tyX0 k) := by decide +kernel
abbrev cX0_init : ByteArray := prog_2_method_1_code
def yX0_init : MethodName := ⟨RX0, "<init>", "()V"⟩
abbrev cX0_copyFrom : ByteArray := prog_2_method_2_code
def yX0_copyFrom : MethodName := ⟨RX0, "copyFrom", "(LLoopMemo$Answers;)V"⟩
abbrev cX0_find : ByteArray := prog_2_method_3_code
def yX0_find : MethodName := ⟨RX0, "find", "(LLoopMemo$Table;II)V"⟩
abbrev cX0_weight : ByteArray := prog_2_method_4_code
def yX0_weight : MethodName := ⟨RX0, "weight", "(I)I"⟩
abbrev cX0_sum : ByteArray := prog_2_method_5_code
def yX0_sum : MethodName := ⟨RX0, "sum", "(I)I"⟩
abbrev cX0_tell : ByteArray := prog_2_method_6_code
def yX0_tell : MethodName := ⟨RX0, "tell", "(II)I"⟩
def RX1 : String := "LoopMemo$History"
def TX1 : u_T := fun k => match k with
  | 0 => ("LoopMemo$History", "slots", "[LLoopMemo$State;", true)
  | 1 => ("LoopMemo$History", "next", "I", false)
  | _ => ("LoopMemo$History", "size", "I", false)
def tyX1 : Nat → FieldType := fun k => match k with
  | 0 => .array (.object "LoopMemo$State")
  | 1 => .int
  | _ => .int
abbrev wsX10 : List Cond := u_ws RX1 TX1 3
theorem nmX1 : ∀ a, a < 3 → ∀ b, b < 3 → a ≠ b → (TX1 a).2.1 ≠ (TX1 b).2.1 := by decide +kernel
theorem tyX1_ok : ∀ k, k < 3 → parseFieldDescriptor (TX1 k).2.2.1 = some (tyX1 k) := by decide +kernel
abbrev cX1_init : ByteArray := prog_3_method_1_code
def yX1_init : MethodName := ⟨RX1, "<init>", "()V"⟩
abbrev cX1_size : ByteArray := prog_3_method_2_code
def yX1_size : MethodName := ⟨RX1, "size", "()I"⟩
abbrev cX1_prepare : ByteArray := prog_3_method_3_code
def yX1_prepare : MethodName := ⟨RX1, "prepare", "(LLoopMemo$State;)V"⟩
abbrev cX1_commit : ByteArray := prog_3_method_4_code
def yX1_commit : MethodName := ⟨RX1, "commit", "(I)I"⟩
abbrev cX1_slot : ByteArray := prog_3_method_6_code
def yX1_slot : MethodName := ⟨RX1, "slot", "(I)LLoopMemo$State;"⟩
def RX2 : String := "LoopMemo$Memo"
def TX2 : u_T := fun k => match k with
  | 0 => ("LoopMemo$Memo", "uses", "[I", true)
  | 1 => ("LoopMemo$Memo", "lastLooks", "[I", true)
  | 2 => ("LoopMemo$Memo", "firstLooks", "[I", true)
  | _ => ("LoopMemo$Memo", "looks", "I", false)
def tyX2 : Nat → FieldType := fun k => match k with
  | 0 => .array .int
  | 1 => .array .int
  | 2 => .array .int
  | _ => .int
abbrev wsX20 : List Cond := u_ws RX2 TX2 4
theorem nmX2 : ∀ a, a < 4 → ∀ b, b < 4 → a ≠ b → (TX2 a).2.1 ≠ (TX2 b).2.1 := by decide +kernel
theorem tyX2_ok : ∀ k, k < 4 → parseFieldDescriptor (TX2 k).2.2.1 = some (tyX2 k) := by decide +kernel
abbrev cX2_init : ByteArray := prog_4_method_1_code
def yX2_init : MethodName := ⟨RX2, "<init>", "()V"⟩
abbrev cX2_copyFrom : ByteArray := prog_4_method_2_code
def yX2_copyFrom : MethodName := ⟨RX2, "copyFrom", "(LLoopMemo$Memo;)V"⟩
abbrev cX2_holds : ByteArray := prog_4_method_3_code
def yX2_holds : MethodName := ⟨RX2, "holds", "(I)Z"⟩
abbrev cX2_uses : ByteArray := prog_4_method_4_code
def yX2_uses : MethodName := ⟨RX2, "uses", "(I)I"⟩
abbrev cX2_size : ByteArray := prog_4_method_5_code
def yX2_size : MethodName := ⟨RX2, "size", "()I"⟩
abbrev cX2_take : ByteArray := prog_4_method_6_code
def yX2_take : MethodName := ⟨RX2, "take", "(I)V"⟩
abbrev cX2_touch : ByteArray := prog_4_method_7_code
def yX2_touch : MethodName := ⟨RX2, "touch", "(I)V"⟩
abbrev cX2_lose : ByteArray := prog_4_method_8_code
def yX2_lose : MethodName := ⟨RX2, "lose", "(I)V"⟩
abbrev cX2_loseAll : ByteArray := prog_4_method_9_code
def yX2_loseAll : MethodName := ⟨RX2, "loseAll", "()I"⟩
abbrev cX2_firstOut : ByteArray := prog_4_method_10_code
def yX2_firstOut : MethodName := ⟨RX2, "firstOut", "(II)I"⟩
abbrev cX2_placeOf : ByteArray := prog_4_method_11_code
def yX2_placeOf : MethodName := ⟨RX2, "placeOf", "(II)I"⟩
abbrev cX2_rank : ByteArray := prog_4_method_12_code
def yX2_rank : MethodName := ⟨RX2, "rank", "(II)J"⟩
def RX3 : String := "LoopMemo$Pad"
def TX3 : u_T := fun k => match k with
  | 0 => ("LoopMemo$Pad", "codes", "[I", true)
  | 1 => ("LoopMemo$Pad", "size", "I", false)
  | 2 => ("LoopMemo$Pad", "isReadAsDeeds", "Z", false)
  | 3 => ("LoopMemo$Pad", "at", "I", false)
  | 4 => ("LoopMemo$Pad", "items", "I", false)
  | 5 => ("LoopMemo$Pad", "start", "I", false)
  | 6 => ("LoopMemo$Pad", "sign", "I", false)
  | 7 => ("LoopMemo$Pad", "first", "I", false)
  | _ => ("LoopMemo$Pad", "second", "I", false)
def tyX3 : Nat → FieldType := fun k => match k with
  | 0 => .array .int
  | 1 => .int
  | 2 => .boolean
  | 3 => .int
  | 4 => .int
  | 5 => .int
  | 6 => .int
  | 7 => .int
  | _ => .int
abbrev wsX30 : List Cond := u_ws RX3 TX3 9
theorem nmX3 : ∀ a, a < 9 → ∀ b, b < 9 → a ≠ b → (TX3 a).2.1 ≠ (TX3 b).2.1 := by decide +kernel
theorem tyX3_ok : ∀ k, k < 9 → parseFieldDescriptor (TX3 k).2.2.1 = some (tyX3 k) := by decide +kernel
abbrev cX3_init : ByteArray := prog_5_method_1_code
def yX3_init : MethodName := ⟨RX3, "<init>", "()V"⟩
abbrev cX3_size : ByteArray := prog_5_method_2_code
def yX3_size : MethodName := ⟨RX3, "size", "()I"⟩
def RX4 : String := "LoopMemo$State"
def TX4 : u_T := fun k => match k with
  | 0 => ("LoopMemo$State", "outer", "LLoopMemo$Table;", true)
  | 1 => ("LoopMemo$State", "inner", "LLoopMemo$Table;", true)
  | 2 => ("LoopMemo$State", "answers", "LLoopMemo$Answers;", true)
  | 3 => ("LoopMemo$State", "memo", "LLoopMemo$Memo;", true)
  | 4 => ("LoopMemo$State", "settings", "[I", true)
  | 5 => ("LoopMemo$State", "tallies", "[I", true)
  | 6 => ("LoopMemo$State", "place", "I", false)
  | _ => ("LoopMemo$State", "total", "I", false)
def tyX4 : Nat → FieldType := fun k => match k with
  | 0 => .object "LoopMemo$Table"
  | 1 => .object "LoopMemo$Table"
  | 2 => .object "LoopMemo$Answers"
  | 3 => .object "LoopMemo$Memo"
  | 4 => .array .int
  | 5 => .array .int
  | 6 => .int
  | _ => .int
abbrev wsX40 : List Cond := u_ws RX4 TX4 8
theorem nmX4 : ∀ a, a < 8 → ∀ b, b < 8 → a ≠ b → (TX4 a).2.1 ≠ (TX4 b).2.1 := by decide +kernel
theorem tyX4_ok : ∀ k, k < 8 → parseFieldDescriptor (TX4 k).2.2.1 = some (tyX4 k) := by decide +kernel
abbrev cX4_init : ByteArray := prog_6_method_1_code
def yX4_init : MethodName := ⟨RX4, "<init>", "()V"⟩
abbrev cX4_copyFrom : ByteArray := prog_6_method_2_code
def yX4_copyFrom : MethodName := ⟨RX4, "copyFrom", "(LLoopMemo$State;)V"⟩
abbrev cX4_table : ByteArray := prog_6_method_3_code
def yX4_table : MethodName := ⟨RX4, "table", "(Z)LLoopMemo$Table;"⟩
abbrev cX4_answers : ByteArray := prog_6_method_4_code
def yX4_answers : MethodName := ⟨RX4, "answers", "()LLoopMemo$Answers;"⟩
abbrev cX4_memo : ByteArray := prog_6_method_5_code
def yX4_memo : MethodName := ⟨RX4, "memo", "()LLoopMemo$Memo;"⟩
abbrev cX4_setting : ByteArray := prog_6_method_6_code
def yX4_setting : MethodName := ⟨RX4, "setting", "(I)I"⟩
abbrev cX4_tally : ByteArray := prog_6_method_7_code
def yX4_tally : MethodName := ⟨RX4, "tally", "(I)I"⟩
abbrev cX4_place : ByteArray := prog_6_method_8_code
def yX4_place : MethodName := ⟨RX4, "place", "()I"⟩
abbrev cX4_totalSoFar : ByteArray := prog_6_method_9_code
def yX4_totalSoFar : MethodName := ⟨RX4, "totalSoFar", "()I"⟩
abbrev cX4_isDone : ByteArray := prog_6_method_10_code
def yX4_isDone : MethodName := ⟨RX4, "isDone", "(I)Z"⟩
abbrev cX4_isInRememberedAnswer : ByteArray := prog_6_method_11_code
def yX4_isInRememberedAnswer : MethodName := ⟨RX4, "isInRememberedAnswer", "(I)Z"⟩
abbrev cX4_insertRow : ByteArray := prog_6_method_12_code
def yX4_insertRow : MethodName := ⟨RX4, "insertRow", "(ZII)I"⟩
abbrev cX4_removeRow : ByteArray := prog_6_method_13_code
def yX4_removeRow : MethodName := ⟨RX4, "removeRow", "(ZI)I"⟩
abbrev cX4_rewriteRow : ByteArray := prog_6_method_14_code
def yX4_rewriteRow : MethodName := ⟨RX4, "rewriteRow", "(III)I"⟩
abbrev cX4_walk : ByteArray := prog_6_method_15_code
def yX4_walk : MethodName := ⟨RX4, "walk", "(I)I"⟩
abbrev cX4_beginAgain : ByteArray := prog_6_method_16_code
def yX4_beginAgain : MethodName := ⟨RX4, "beginAgain", "()I"⟩
abbrev cX4_throwAllOut : ByteArray := prog_6_method_17_code
def yX4_throwAllOut : MethodName := ⟨RX4, "throwAllOut", "()I"⟩
abbrev cX4_adjust : ByteArray := prog_6_method_18_code
def yX4_adjust : MethodName := ⟨RX4, "adjust", "(II)I"⟩
abbrev cX4_weightTogether : ByteArray := prog_6_method_19_code
def yX4_weightTogether : MethodName := ⟨RX4, "weightTogether", "()I"⟩
abbrev cX4_totalByAnswers : ByteArray := prog_6_method_20_code
def yX4_totalByAnswers : MethodName := ⟨RX4, "totalByAnswers", "()I"⟩
abbrev cX4_totalByRows : ByteArray := prog_6_method_21_code
def yX4_totalByRows : MethodName := ⟨RX4, "totalByRows", "()I"⟩
abbrev cX4_lookUp : ByteArray := prog_6_method_22_code
def yX4_lookUp : MethodName := ⟨RX4, "lookUp", "(I)V"⟩
abbrev cX4_makeRoom : ByteArray := prog_6_method_23_code
def yX4_makeRoom : MethodName := ⟨RX4, "makeRoom", "(I)I"⟩
abbrev cX4_keepTrue : ByteArray := prog_6_method_24_code
def yX4_keepTrue : MethodName := ⟨RX4, "keepTrue", "(II)V"⟩
abbrev cX4_keepAnswerTrue : ByteArray := prog_6_method_25_code
def yX4_keepAnswerTrue : MethodName := ⟨RX4, "keepAnswerTrue", "(I)V"⟩
abbrev cX4_findAnswers : ByteArray := prog_6_method_26_code
def yX4_findAnswers : MethodName := ⟨RX4, "findAnswers", "()V"⟩
abbrev cX4_isInBand : ByteArray := prog_6_method_27_code
def yX4_isInBand : MethodName := ⟨RX4, "isInBand", "(I)Z"⟩
def RX5 : String := "LoopMemo$Table"
def TX5 : u_T := fun k => match k with
  | 0 => ("LoopMemo$Table", "keys", "[I", true)
  | 1 => ("LoopMemo$Table", "values", "[I", true)
  | _ => ("LoopMemo$Table", "size", "I", false)
def tyX5 : Nat → FieldType := fun k => match k with
  | 0 => .array .int
  | 1 => .array .int
  | _ => .int
abbrev wsX50 : List Cond := u_ws RX5 TX5 3
theorem nmX5 : ∀ a, a < 3 → ∀ b, b < 3 → a ≠ b → (TX5 a).2.1 ≠ (TX5 b).2.1 := by decide +kernel
theorem tyX5_ok : ∀ k, k < 3 → parseFieldDescriptor (TX5 k).2.2.1 = some (tyX5 k) := by decide +kernel
abbrev cX5_init : ByteArray := prog_7_method_1_code
def yX5_init : MethodName := ⟨RX5, "<init>", "()V"⟩
abbrev cX5_copyFrom : ByteArray := prog_7_method_2_code
def yX5_copyFrom : MethodName := ⟨RX5, "copyFrom", "(LLoopMemo$Table;)V"⟩
abbrev cX5_size : ByteArray := prog_7_method_3_code
def yX5_size : MethodName := ⟨RX5, "size", "()I"⟩
abbrev cX5_has : ByteArray := prog_7_method_4_code
def yX5_has : MethodName := ⟨RX5, "has", "(I)Z"⟩
abbrev cX5_key : ByteArray := prog_7_method_5_code
def yX5_key : MethodName := ⟨RX5, "key", "(I)I"⟩
abbrev cX5_value : ByteArray := prog_7_method_6_code
def yX5_value : MethodName := ⟨RX5, "value", "(I)I"⟩
abbrev cX5_put : ByteArray := prog_7_method_7_code
def yX5_put : MethodName := ⟨RX5, "put", "(III)V"⟩
abbrev cX5_push : ByteArray := prog_7_method_8_code
def yX5_push : MethodName := ⟨RX5, "push", "(II)V"⟩
abbrev cX5_takeOut : ByteArray := prog_7_method_9_code
def yX5_takeOut : MethodName := ⟨RX5, "takeOut", "(I)V"⟩
def RX6 : String := "LoopMemo"
def TX6 : u_T := fun k => match k with
  | 0 => ("LoopMemo", "now", "LLoopMemo$State;", true)
  | 1 => ("LoopMemo", "trial", "LLoopMemo$State;", true)
  | 2 => ("LoopMemo", "snapshot", "LLoopMemo$State;", true)
  | 3 => ("LoopMemo", "history", "LLoopMemo$History;", true)
  | 4 => ("LoopMemo", "pad", "LLoopMemo$Pad;", true)
  | 5 => ("LoopMemo", "hasSnapshot", "Z", false)
  | 6 => ("LoopMemo", "stopError", "I", false)
  | 7 => ("LoopMemo", "stopNumber", "I", false)
  | _ => ("LoopMemo", "stopPosition", "I", false)
def tyX6 : Nat → FieldType := fun k => match k with
  | 0 => .object "LoopMemo$State"
  | 1 => .object "LoopMemo$State"
  | 2 => .object "LoopMemo$State"
  | 3 => .object "LoopMemo$History"
  | 4 => .object "LoopMemo$Pad"
  | 5 => .boolean
  | 6 => .int
  | 7 => .int
  | _ => .int
abbrev wsX60 : List Cond := u_ws RX6 TX6 9
theorem nmX6 : ∀ a, a < 9 → ∀ b, b < 9 → a ≠ b → (TX6 a).2.1 ≠ (TX6 b).2.1 := by decide +kernel
theorem tyX6_ok : ∀ k, k < 9 → parseFieldDescriptor (TX6 k).2.2.1 = some (tyX6 k) := by decide +kernel
abbrev cX6_init : ByteArray := prog_1_method_1_code
def yX6_init : MethodName := ⟨RX6, "<init>", "()V"⟩
abbrev cX6_add : ByteArray := prog_1_method_2_code
def yX6_add : MethodName := ⟨RX6, "add", "(ZII)I"⟩
abbrev cX6_drop : ByteArray := prog_1_method_3_code
def yX6_drop : MethodName := ⟨RX6, "drop", "(ZI)I"⟩
abbrev cX6_change : ByteArray := prog_1_method_4_code
def yX6_change : MethodName := ⟨RX6, "change", "(III)I"⟩
abbrev cX6_step : ByteArray := prog_1_method_5_code
def yX6_step : MethodName := ⟨RX6, "step", "(I)I"⟩
abbrev cX6_again : ByteArray := prog_1_method_6_code
def yX6_again : MethodName := ⟨RX6, "again", "()I"⟩
abbrev cX6_forget : ByteArray := prog_1_method_7_code
def yX6_forget : MethodName := ⟨RX6, "forget", "()I"⟩
abbrev cX6_set : ByteArray := prog_1_method_8_code
def yX6_set : MethodName := ⟨RX6, "set", "(II)I"⟩
abbrev cX6_row : ByteArray := prog_1_method_15_code
def yX6_row : MethodName := ⟨RX6, "row", "(ZII)I"⟩
abbrev cX6_answer : ByteArray := prog_1_method_16_code
def yX6_answer : MethodName := ⟨RX6, "answer", "(II)I"⟩
abbrev cX6_remembered : ByteArray := prog_1_method_17_code
def yX6_remembered : MethodName := ⟨RX6, "remembered", "(II)I"⟩
abbrev cX6_count : ByteArray := prog_1_method_18_code
def yX6_count : MethodName := ⟨RX6, "count", "(I)I"⟩
abbrev cX6_total : ByteArray := prog_1_method_19_code
def yX6_total : MethodName := ⟨RX6, "total", "(I)I"⟩
abbrev cX6_rate : ByteArray := prog_1_method_20_code
def yX6_rate : MethodName := ⟨RX6, "rate", "()D"⟩
abbrev cX6_isWithin : ByteArray := prog_1_method_30_code
def yX6_isWithin : MethodName := ⟨RX6, "isWithin", "(II)Z"⟩
abbrev cX6_isKey : ByteArray := prog_1_method_31_code
def yX6_isKey : MethodName := ⟨RX6, "isKey", "(I)Z"⟩
abbrev cX6_isRow : ByteArray := prog_1_method_32_code
def yX6_isRow : MethodName := ⟨RX6, "isRow", "(II)Z"⟩
abbrev cX6_copyNumbers : ByteArray := prog_1_method_33_code
def yX6_copyNumbers : MethodName := ⟨RX6, "copyNumbers", "([I[I)V"⟩
def RX7 : String := "LoopMemoModel"
def TX7 : u_T := fun k => match k with
  | _ => ("", "", "", false)
def tyX7 : Nat → FieldType := fun k => match k with
  | _ => .int
abbrev wsX70 : List Cond := u_ws RX7 TX7 0
theorem nmX7 : ∀ a, a < 0 → ∀ b, b < 0 → a ≠ b → (TX7 a).2.1 ≠ (TX7 b).2.1 := by decide +kernel
theorem tyX7_ok : ∀ k, k < 0 → parseFieldDescriptor (TX7 k).2.2.1 = some (tyX7 k) := by decide +kernel
def RJx8e188 : String := "java/lang/Cloneable"
def TJx8e188 : u_T := fun k => match k with
  | _ => ("", "", "", false)
def tyJx8e188 : Nat → FieldType := fun k => match k with
  | _ => .int
abbrev wsJx8e1880 : List Cond := u_ws RJx8e188 TJx8e188 0
theorem nmJx8e188 : ∀ a, a < 0 → ∀ b, b < 0 → a ≠ b → (TJx8e188 a).2.1 ≠ (TJx8e188 b).2.1 := by decide +kernel
theorem tyJx8e188_ok : ∀ k, k < 0 → parseFieldDescriptor (TJx8e188 k).2.2.1 = some (tyJx8e188 k) := by decide +kernel
def RJ9 : String := "java/lang/Math"
def TJ9 : u_T := fun k => match k with
  | _ => ("", "", "", false)
def tyJ9 : Nat → FieldType := fun k => match k with
  | _ => .int
abbrev wsJ90 : List Cond := u_ws RJ9 TJ9 0
theorem nmJ9 : ∀ a, a < 0 → ∀ b, b < 0 → a ≠ b → (TJ9 a).2.1 ≠ (TJ9 b).2.1 := by decide +kernel
theorem tyJ9_ok : ∀ k, k < 0 → parseFieldDescriptor (TJ9 k).2.2.1 = some (tyJ9 k) := by decide +kernel
abbrev cJ9_min_7cf53 : ByteArray := prog_11_method_69_code
def yJ9_min_7cf53 : MethodName := ⟨RJ9, "min", "(II)I"⟩
def RJ10 : String := "java/lang/System"
def TJ10 : u_T := fun k => match k with
  | _ => ("", "", "", false)
def tyJ10 : Nat → FieldType := fun k => match k with
  | _ => .int
abbrev wsJ100 : List Cond := u_ws RJ10 TJ10 0
theorem nmJ10 : ∀ a, a < 0 → ∀ b, b < 0 → a ≠ b → (TJ10 a).2.1 ≠ (TJ10 b).2.1 := by decide +kernel
theorem tyJ10_ok : ∀ k, k < 0 → parseFieldDescriptor (TJ10 k).2.2.1 = some (tyJ10 k) := by decide +kernel
def RL : String := "LoopMemoLaw"
abbrev cL_cell : ByteArray := method_2_code
def yL_cell : MethodName := ⟨RL, "cell", "([II)I"⟩
abbrev cL_weight : ByteArray := method_4_code
def yL_weight : MethodName := ⟨RL, "weight", "([I[IIZ)I"⟩
abbrev cL_many : ByteArray := method_5_code
def yL_many : MethodName := ⟨RL, "many", "([I)I"⟩
abbrev cL_out : ByteArray := method_6_code
def yL_out : MethodName := ⟨RL, "out", "([II)V"⟩
abbrev cL_has : ByteArray := method_7_code
def yL_has : MethodName := ⟨RL, "has", "([II)Z"⟩
abbrev cL_weights : ByteArray := method_8_code
def yL_weights : MethodName := ⟨RL, "weights", "([I[I[I)I"⟩
abbrev cL_first : ByteArray := method_9_code
def yL_first : MethodName := ⟨RL, "first", "([I[I[I[II)I"⟩
abbrev cL_room : ByteArray := method_10_code
def yL_room : MethodName := ⟨RL, "room", "([I[I[I[I[II)I"⟩
abbrev cL_goes : ByteArray := method_11_code
def yL_goes : MethodName := ⟨RL, "goes", "([I[I[II)I"⟩
abbrev cL_kept : ByteArray := method_12_code
def yL_kept : MethodName := ⟨RL, "kept", "([I[I[III)V"⟩
abbrev cL_look : ByteArray := method_13_code
def yL_look : MethodName := ⟨RL, "look", "([I[I[I[I[II)I"⟩
abbrev cL_steps : ByteArray := method_14_code
def yL_steps : MethodName := ⟨RL, "steps", "([I[I[I[I[I[II)I"⟩
abbrev cL_areTold : ByteArray := method_15_code
def yL_areTold : MethodName := ⟨RL, "areTold", "(LLoopMemo;[I[I[I[I[I[I)Z"⟩
abbrev cL_areRows : ByteArray := method_16_code
def yL_areRows : MethodName := ⟨RL, "areRows", "(LLoopMemo;[I[I[I[I)Z"⟩
abbrev cL_isRow : ByteArray := method_17_code
def yL_isRow : MethodName := ⟨RL, "isRow", "(LLoopMemo;[I[I[I[I[IZI)Z"⟩
abbrev cL_isGone : ByteArray := method_18_code
def yL_isGone : MethodName := ⟨RL, "isGone", "(LLoopMemo;[I[I[I[I[IZI)Z"⟩
abbrev cL_isSet : ByteArray := method_19_code
def yL_isSet : MethodName := ⟨RL, "isSet", "(LLoopMemo;[I[I[I[I[III)Z"⟩
abbrev cL_isActed : ByteArray := method_20_code
def yL_isActed : MethodName := ⟨RL, "isActed", "(LLoopMemo;[I[I[I[I[I[III)Z"⟩
abbrev cL_law : ByteArray := code
def yL_law : MethodName := ⟨RL, "law", "([I)Z"⟩
def wsX0_init : List Cond := .code yX0_init cX0_init 1 none :: ([.methodLink RX0 3 objectInit, .instanceMethod objectInit, .code objectInit ⟨#[0xb1]⟩ 1 none, .arrayClass .int, .fieldLink RX0 9 "LoopMemo$Answers" "rows" "[I", .fieldLink RX0 15 "LoopMemo$Answers" "sums" "[I", .fieldLink RX0 18 "LoopMemo$Answers" "firstRows" "[I"] ++ wsX00)
def wsX6_copyNumbers : List Cond := .code yX6_copyNumbers cX6_copyNumbers 2 none :: ([.methodLink RX6 117 Lib.Math.min.name, .static Lib.Math.min.name, .initialized "java/lang/Math", .code Lib.Math.min.name Lib.Math.min.code 2 (some .int), .methodLink RX6 225 arraycopyName, .native arraycopyName, .static arraycopyName, .initialized "java/lang/System"])
def wsX0_copyFrom : List Cond := .code yX0_copyFrom cX0_copyFrom 2 none :: ([.fieldLink RX0 9 "LoopMemo$Answers" "rows" "[I", .fieldLink RX0 15 "LoopMemo$Answers" "sums" "[I", .fieldLink RX0 18 "LoopMemo$Answers" "firstRows" "[I", .static yX6_copyNumbers, .initialized RX6, .code yX6_copyNumbers cX6_copyNumbers 2 none, .methodLink RX6 117 Lib.Math.min.name, .static Lib.Math.min.name, .initialized "java/lang/Math", .code Lib.Math.min.name Lib.Math.min.code 2 (some .int), .methodLink RX6 225 arraycopyName, .native arraycopyName, .static arraycopyName, .initialized "java/lang/System"] ++ wsX00)
def wsX5_size : List Cond := .code yX5_size cX5_size 1 (some .int) :: ([.fieldLink RX5 22 "LoopMemo$Table" "size" "I"] ++ wsX50)
def wsX5_value : List Cond := .code yX5_value cX5_value 2 (some .int) :: ([.fieldLink RX5 15 "LoopMemo$Table" "values" "[I"] ++ wsX50)
def wsX5_key : List Cond := .code yX5_key cX5_key 2 (some .int) :: ([.fieldLink RX5 9 "LoopMemo$Table" "keys" "[I"] ++ wsX50)
def wsX0_find : List Cond := .code yX0_find cX0_find 7 none :: ([.fieldLink RX0 9 "LoopMemo$Answers" "rows" "[I", .fieldLink RX0 15 "LoopMemo$Answers" "sums" "[I", .fieldLink RX0 18 "LoopMemo$Answers" "firstRows" "[I", .methodLink RX0 25 yX5_size, .instanceMethod yX5_size, .selects RX5 yX5_size yX5_size, .initialized RX5, .code yX5_size cX5_size 1 (some .int), .fieldLink RX5 22 "LoopMemo$Table" "size" "I", .methodLink RX0 31 yX5_value, .instanceMethod yX5_value, .selects RX5 yX5_value yX5_value, .code yX5_value cX5_value 2 (some .int), .fieldLink RX5 15 "LoopMemo$Table" "values" "[I", .methodLink RX0 35 yX5_key, .instanceMethod yX5_key, .selects RX5 yX5_key yX5_key, .code yX5_key cX5_key 2 (some .int), .fieldLink RX5 9 "LoopMemo$Table" "keys" "[I"] ++ wsX00 ++ wsX50)
def wsX0_weight : List Cond := .code yX0_weight cX0_weight 2 (some .int) :: ([.fieldLink RX0 9 "LoopMemo$Answers" "rows" "[I"] ++ wsX00)
def wsX0_sum : List Cond := .code yX0_sum cX0_sum 2 (some .int) :: ([.fieldLink RX0 15 "LoopMemo$Answers" "sums" "[I"] ++ wsX00)
def wsX0_tell : List Cond := .code yX0_tell cX0_tell 3 (some .int) :: ([.fieldLink RX0 9 "LoopMemo$Answers" "rows" "[I", .fieldLink RX0 15 "LoopMemo$Answers" "sums" "[I", .fieldLink RX0 18 "LoopMemo$Answers" "firstRows" "[I", .methodLink RX0 38 yX0_weight, .instanceMethod yX0_weight, .selects RX0 yX0_weight yX0_weight, .initialized RX0, .code yX0_weight cX0_weight 2 (some .int)] ++ wsX00)
def wsX5_init : List Cond := .code yX5_init cX5_init 1 none :: ([.methodLink RX5 3 objectInit, .instanceMethod objectInit, .code objectInit ⟨#[0xb1]⟩ 1 none, .arrayClass .int, .fieldLink RX5 9 "LoopMemo$Table" "keys" "[I", .fieldLink RX5 15 "LoopMemo$Table" "values" "[I"] ++ wsX50)
def wsX2_init : List Cond := .code yX2_init cX2_init 1 none :: ([.methodLink RX2 3 objectInit, .instanceMethod objectInit, .code objectInit ⟨#[0xb1]⟩ 1 none, .arrayClass .int, .fieldLink RX2 9 "LoopMemo$Memo" "uses" "[I", .fieldLink RX2 15 "LoopMemo$Memo" "lastLooks" "[I", .fieldLink RX2 18 "LoopMemo$Memo" "firstLooks" "[I"] ++ wsX20)
def wsX4_init_r1 : List Cond := [Cond.methodLink RX4 3 objectInit, Cond.instanceMethod objectInit, Cond.code objectInit ⟨#[0xb1]⟩ 1 none, Cond.classLink RX4 9 RX5, Cond.instantiable RX5 3, Cond.initialized RX5, Cond.fieldLink RX4 12 "LoopMemo$State" "outer" "LLoopMemo$Table;", Cond.fieldLink RX4 18 "LoopMemo$State" "inner" "LLoopMemo$Table;", Cond.classLink RX4 21 RX0, Cond.instantiable RX0 3, Cond.initialized RX0, Cond.fieldLink RX4 24 "LoopMemo$State" "answers" "LLoopMemo$Answers;", Cond.classLink RX4 28 RX2, Cond.instantiable RX2 4, Cond.initialized RX2, Cond.fieldLink RX4 31 "LoopMemo$State" "memo" "LLoopMemo$Memo;", Cond.fieldLink RX4 35 "LoopMemo$State" "FIRST_SETTINGS" "[I", Cond.methodLink RX4 39 ⟨"[I", "clone", "()Ljava/lang/Object;"⟩, Cond.sameMethod "[I" "java/lang/Object" "clone" "()Ljava/lang/Object;", Cond.native ⟨"java/lang/Object", "clone", "()Ljava/lang/Object;"⟩, Cond.instanceMethod ⟨"java/lang/Object", "clone", "()Ljava/lang/Object;"⟩, Cond.selects "[I" ⟨"[I", "clone", "()Ljava/lang/Object;"⟩ ⟨"java/lang/Object", "clone", "()Ljava/lang/Object;"⟩, Cond.classLink RX4 40 "[I", Cond.fieldLink RX4 44 "LoopMemo$State" "settings" "[I"]
def wsX4_init_r2 : List Cond := [Cond.arrayClass .int, Cond.fieldLink RX4 47 "LoopMemo$State" "tallies" "[I", Cond.methodLink RX4 11 yX5_init, Cond.instanceMethod yX5_init, Cond.code yX5_init cX5_init 1 none, Cond.methodLink RX5 3 objectInit, Cond.fieldLink RX5 9 "LoopMemo$Table" "keys" "[I", Cond.fieldLink RX5 15 "LoopMemo$Table" "values" "[I", Cond.methodLink RX4 23 yX0_init, Cond.instanceMethod yX0_init, Cond.code yX0_init cX0_init 1 none, Cond.methodLink RX0 3 objectInit, Cond.fieldLink RX0 9 "LoopMemo$Answers" "rows" "[I", Cond.fieldLink RX0 15 "LoopMemo$Answers" "sums" "[I", Cond.fieldLink RX0 18 "LoopMemo$Answers" "firstRows" "[I", Cond.methodLink RX4 30 yX2_init, Cond.instanceMethod yX2_init, Cond.code yX2_init cX2_init 1 none, Cond.methodLink RX2 3 objectInit, Cond.fieldLink RX2 9 "LoopMemo$Memo" "uses" "[I", Cond.fieldLink RX2 15 "LoopMemo$Memo" "lastLooks" "[I", Cond.fieldLink RX2 18 "LoopMemo$Memo" "firstLooks" "[I"]
def wsX4_init : List Cond := .code yX4_init cX4_init 1 none :: ((wsX4_init_r1 ++ wsX4_init_r2) ++ wsX50 ++ wsX40 ++ wsX00 ++ wsX20)
def wsX1_init_r1 : List Cond := [Cond.methodLink RX1 3 objectInit, Cond.instanceMethod objectInit, Cond.code objectInit ⟨#[0xb1]⟩ 1 none, Cond.classLink RX1 11 RX4, Cond.fieldLink RX1 13 "LoopMemo$History" "slots" "[LLoopMemo$State;", Cond.instantiable RX4 8, Cond.initialized RX4, Cond.methodLink RX1 17 yX4_init, Cond.instanceMethod yX4_init, Cond.code yX4_init cX4_init 1 none, Cond.methodLink RX4 3 objectInit, Cond.classLink RX4 9 RX5, Cond.instantiable RX5 3, Cond.initialized RX5, Cond.fieldLink RX4 12 "LoopMemo$State" "outer" "LLoopMemo$Table;", Cond.fieldLink RX4 18 "LoopMemo$State" "inner" "LLoopMemo$Table;", Cond.classLink RX4 21 RX0, Cond.instantiable RX0 3, Cond.initialized RX0, Cond.fieldLink RX4 24 "LoopMemo$State" "answers" "LLoopMemo$Answers;", Cond.classLink RX4 28 RX2, Cond.instantiable RX2 4, Cond.initialized RX2, Cond.fieldLink RX4 31 "LoopMemo$State" "memo" "LLoopMemo$Memo;"]
def wsX1_init_r2 : List Cond := [Cond.fieldLink RX4 35 "LoopMemo$State" "FIRST_SETTINGS" "[I", Cond.methodLink RX4 39 ⟨"[I", "clone", "()Ljava/lang/Object;"⟩, Cond.sameMethod "[I" "java/lang/Object" "clone" "()Ljava/lang/Object;", Cond.native ⟨"java/lang/Object", "clone", "()Ljava/lang/Object;"⟩, Cond.instanceMethod ⟨"java/lang/Object", "clone", "()Ljava/lang/Object;"⟩, Cond.selects "[I" ⟨"[I", "clone", "()Ljava/lang/Object;"⟩ ⟨"java/lang/Object", "clone", "()Ljava/lang/Object;"⟩, Cond.classLink RX4 40 "[I", Cond.fieldLink RX4 44 "LoopMemo$State" "settings" "[I", Cond.arrayClass .int, Cond.fieldLink RX4 47 "LoopMemo$State" "tallies" "[I", Cond.methodLink RX4 11 yX5_init, Cond.instanceMethod yX5_init, Cond.code yX5_init cX5_init 1 none, Cond.methodLink RX5 3 objectInit, Cond.fieldLink RX5 9 "LoopMemo$Table" "keys" "[I", Cond.fieldLink RX5 15 "LoopMemo$Table" "values" "[I", Cond.methodLink RX4 23 yX0_init, Cond.instanceMethod yX0_init, Cond.code yX0_init cX0_init 1 none, Cond.methodLink RX0 3 objectInit, Cond.fieldLink RX0 9 "LoopMemo$Answers" "rows" "[I", Cond.fieldLink RX0 15 "LoopMemo$Answers" "sums" "[I", Cond.fieldLink RX0 18 "LoopMemo$Answers" "firstRows" "[I", Cond.methodLink RX4 30 yX2_init]
def wsX1_init_r3 : List Cond := [Cond.instanceMethod yX2_init, Cond.code yX2_init cX2_init 1 none, Cond.methodLink RX2 3 objectInit, Cond.fieldLink RX2 9 "LoopMemo$Memo" "uses" "[I", Cond.fieldLink RX2 15 "LoopMemo$Memo" "lastLooks" "[I", Cond.fieldLink RX2 18 "LoopMemo$Memo" "firstLooks" "[I"]
def wsX1_init : List Cond := .code yX1_init cX1_init 2 none :: ((wsX1_init_r1 ++ (wsX1_init_r2 ++ wsX1_init_r3)) ++ wsX10 ++ wsX40 ++ wsX50 ++ wsX00 ++ wsX20)
def wsX1_size : List Cond := .code yX1_size cX1_size 1 (some .int) :: ([.fieldLink RX1 18 "LoopMemo$History" "size" "I"] ++ wsX10)
def wsX1_slot : List Cond := .code yX1_slot cX1_slot 2 (some (.object "LoopMemo$State")) :: ([.fieldLink RX1 13 "LoopMemo$History" "slots" "[LLoopMemo$State;"] ++ wsX10)
def wsX5_copyFrom : List Cond := .code yX5_copyFrom cX5_copyFrom 2 none :: ([.fieldLink RX5 9 "LoopMemo$Table" "keys" "[I", .fieldLink RX5 15 "LoopMemo$Table" "values" "[I", .fieldLink RX5 22 "LoopMemo$Table" "size" "I", .static yX6_copyNumbers, .initialized RX6, .code yX6_copyNumbers cX6_copyNumbers 2 none, .methodLink RX6 117 Lib.Math.min.name, .static Lib.Math.min.name, .initialized "java/lang/Math", .code Lib.Math.min.name Lib.Math.min.code 2 (some .int), .methodLink RX6 225 arraycopyName, .native arraycopyName, .static arraycopyName, .initialized "java/lang/System"] ++ wsX50)
def wsX2_copyFrom : List Cond := .code yX2_copyFrom cX2_copyFrom 2 none :: ([.fieldLink RX2 9 "LoopMemo$Memo" "uses" "[I", .fieldLink RX2 15 "LoopMemo$Memo" "lastLooks" "[I", .fieldLink RX2 18 "LoopMemo$Memo" "firstLooks" "[I", .fieldLink RX2 25 "LoopMemo$Memo" "looks" "I", .static yX6_copyNumbers, .initialized RX6, .code yX6_copyNumbers cX6_copyNumbers 2 none, .methodLink RX6 117 Lib.Math.min.name, .static Lib.Math.min.name, .initialized "java/lang/Math", .code Lib.Math.min.name Lib.Math.min.code 2 (some .int), .methodLink RX6 225 arraycopyName, .native arraycopyName, .static arraycopyName, .initialized "java/lang/System"] ++ wsX20)
def wsX4_copyFrom_r1 : List Cond := [Cond.fieldLink RX4 12 "LoopMemo$State" "outer" "LLoopMemo$Table;", Cond.fieldLink RX4 18 "LoopMemo$State" "inner" "LLoopMemo$Table;", Cond.fieldLink RX4 24 "LoopMemo$State" "answers" "LLoopMemo$Answers;", Cond.fieldLink RX4 31 "LoopMemo$State" "memo" "LLoopMemo$Memo;", Cond.fieldLink RX4 44 "LoopMemo$State" "settings" "[I", Cond.fieldLink RX4 47 "LoopMemo$State" "tallies" "[I", Cond.fieldLink RX4 64 "LoopMemo$State" "place" "I", Cond.fieldLink RX4 68 "LoopMemo$State" "total" "I", Cond.methodLink RX4 50 yX5_copyFrom, Cond.instanceMethod yX5_copyFrom, Cond.selects RX5 yX5_copyFrom yX5_copyFrom, Cond.initialized RX5, Cond.code yX5_copyFrom cX5_copyFrom 2 none, Cond.fieldLink RX5 9 "LoopMemo$Table" "keys" "[I", Cond.fieldLink RX5 15 "LoopMemo$Table" "values" "[I", Cond.fieldLink RX5 22 "LoopMemo$Table" "size" "I", Cond.static yX6_copyNumbers, Cond.initialized RX6, Cond.code yX6_copyNumbers cX6_copyNumbers 2 none, Cond.methodLink RX6 117 Lib.Math.min.name, Cond.static Lib.Math.min.name, Cond.initialized "java/lang/Math", Cond.code Lib.Math.min.name Lib.Math.min.code 2 (some .int), Cond.methodLink RX6 225 arraycopyName]
def wsX4_copyFrom_r2 : List Cond := [Cond.native arraycopyName, Cond.static arraycopyName, Cond.initialized "java/lang/System", Cond.methodLink RX4 54 yX0_copyFrom, Cond.instanceMethod yX0_copyFrom, Cond.selects RX0 yX0_copyFrom yX0_copyFrom, Cond.initialized RX0, Cond.code yX0_copyFrom cX0_copyFrom 2 none, Cond.fieldLink RX0 9 "LoopMemo$Answers" "rows" "[I", Cond.fieldLink RX0 15 "LoopMemo$Answers" "sums" "[I", Cond.fieldLink RX0 18 "LoopMemo$Answers" "firstRows" "[I", Cond.methodLink RX4 57 yX2_copyFrom, Cond.instanceMethod yX2_copyFrom, Cond.selects RX2 yX2_copyFrom yX2_copyFrom, Cond.initialized RX2, Cond.code yX2_copyFrom cX2_copyFrom 2 none, Cond.fieldLink RX2 9 "LoopMemo$Memo" "uses" "[I", Cond.fieldLink RX2 15 "LoopMemo$Memo" "lastLooks" "[I", Cond.fieldLink RX2 18 "LoopMemo$Memo" "firstLooks" "[I", Cond.fieldLink RX2 25 "LoopMemo$Memo" "looks" "I"]
def wsX4_copyFrom : List Cond := .code yX4_copyFrom cX4_copyFrom 2 none :: ((wsX4_copyFrom_r1 ++ wsX4_copyFrom_r2) ++ wsX40 ++ wsX50 ++ wsX00 ++ wsX20)
def wsX1_prepare_r1 : List Cond := [Cond.fieldLink RX1 22 "LoopMemo$History" "next" "I", Cond.methodLink RX1 25 yX1_slot, Cond.instanceMethod yX1_slot, Cond.selects RX1 yX1_slot yX1_slot, Cond.initialized RX1, Cond.code yX1_slot cX1_slot 2 (some (.object "LoopMemo$State")), Cond.fieldLink RX1 13 "LoopMemo$History" "slots" "[LLoopMemo$State;", Cond.methodLink RX1 29 yX4_copyFrom, Cond.instanceMethod yX4_copyFrom, Cond.selects RX4 yX4_copyFrom yX4_copyFrom, Cond.initialized RX4, Cond.code yX4_copyFrom cX4_copyFrom 2 none, Cond.fieldLink RX4 12 "LoopMemo$State" "outer" "LLoopMemo$Table;", Cond.fieldLink RX4 18 "LoopMemo$State" "inner" "LLoopMemo$Table;", Cond.fieldLink RX4 24 "LoopMemo$State" "answers" "LLoopMemo$Answers;", Cond.fieldLink RX4 31 "LoopMemo$State" "memo" "LLoopMemo$Memo;", Cond.fieldLink RX4 44 "LoopMemo$State" "settings" "[I", Cond.fieldLink RX4 47 "LoopMemo$State" "tallies" "[I", Cond.fieldLink RX4 64 "LoopMemo$State" "place" "I", Cond.fieldLink RX4 68 "LoopMemo$State" "total" "I", Cond.methodLink RX4 50 yX5_copyFrom, Cond.instanceMethod yX5_copyFrom, Cond.selects RX5 yX5_copyFrom yX5_copyFrom, Cond.initialized RX5]
def wsX1_prepare_r2 : List Cond := [Cond.code yX5_copyFrom cX5_copyFrom 2 none, Cond.fieldLink RX5 9 "LoopMemo$Table" "keys" "[I", Cond.fieldLink RX5 15 "LoopMemo$Table" "values" "[I", Cond.fieldLink RX5 22 "LoopMemo$Table" "size" "I", Cond.static yX6_copyNumbers, Cond.initialized RX6, Cond.code yX6_copyNumbers cX6_copyNumbers 2 none, Cond.methodLink RX6 117 Lib.Math.min.name, Cond.static Lib.Math.min.name, Cond.initialized "java/lang/Math", Cond.code Lib.Math.min.name Lib.Math.min.code 2 (some .int), Cond.methodLink RX6 225 arraycopyName, Cond.native arraycopyName, Cond.static arraycopyName, Cond.initialized "java/lang/System", Cond.methodLink RX4 54 yX0_copyFrom, Cond.instanceMethod yX0_copyFrom, Cond.selects RX0 yX0_copyFrom yX0_copyFrom, Cond.initialized RX0, Cond.code yX0_copyFrom cX0_copyFrom 2 none, Cond.fieldLink RX0 9 "LoopMemo$Answers" "rows" "[I", Cond.fieldLink RX0 15 "LoopMemo$Answers" "sums" "[I", Cond.fieldLink RX0 18 "LoopMemo$Answers" "firstRows" "[I", Cond.methodLink RX4 57 yX2_copyFrom]
def wsX1_prepare_r3 : List Cond := [Cond.instanceMethod yX2_copyFrom, Cond.selects RX2 yX2_copyFrom yX2_copyFrom, Cond.initialized RX2, Cond.code yX2_copyFrom cX2_copyFrom 2 none, Cond.fieldLink RX2 9 "LoopMemo$Memo" "uses" "[I", Cond.fieldLink RX2 15 "LoopMemo$Memo" "lastLooks" "[I", Cond.fieldLink RX2 18 "LoopMemo$Memo" "firstLooks" "[I", Cond.fieldLink RX2 25 "LoopMemo$Memo" "looks" "I"]
def wsX1_prepare : List Cond := .code yX1_prepare cX1_prepare 3 none :: ((wsX1_prepare_r1 ++ (wsX1_prepare_r2 ++ wsX1_prepare_r3)) ++ wsX10 ++ wsX40 ++ wsX50 ++ wsX00 ++ wsX20)
def wsX1_commit : List Cond := .code yX1_commit cX1_commit 2 (some .int) :: ([.fieldLink RX1 22 "LoopMemo$History" "next" "I", .fieldLink RX1 18 "LoopMemo$History" "size" "I", .methodLink RX1 33 Lib.Math.min.name, .static Lib.Math.min.name, .initialized "java/lang/Math", .code Lib.Math.min.name Lib.Math.min.code 2 (some .int)] ++ wsX10)
def wsX2_holds : List Cond := .code yX2_holds cX2_holds 2 (some .boolean) :: ([.fieldLink RX2 9 "LoopMemo$Memo" "uses" "[I"] ++ wsX20)
def wsX2_uses : List Cond := .code yX2_uses cX2_uses 2 (some .int) :: ([.fieldLink RX2 9 "LoopMemo$Memo" "uses" "[I"] ++ wsX20)
def wsX2_size : List Cond := .code yX2_size cX2_size 3 (some .int) :: ([.fieldLink RX2 9 "LoopMemo$Memo" "uses" "[I"] ++ wsX20)
def wsX2_take : List Cond := .code yX2_take cX2_take 2 none :: ([.fieldLink RX2 25 "LoopMemo$Memo" "looks" "I", .fieldLink RX2 9 "LoopMemo$Memo" "uses" "[I", .fieldLink RX2 18 "LoopMemo$Memo" "firstLooks" "[I", .fieldLink RX2 15 "LoopMemo$Memo" "lastLooks" "[I"] ++ wsX20)
def wsX2_touch : List Cond := .code yX2_touch cX2_touch 2 none :: ([.fieldLink RX2 25 "LoopMemo$Memo" "looks" "I", .fieldLink RX2 9 "LoopMemo$Memo" "uses" "[I", .fieldLink RX2 15 "LoopMemo$Memo" "lastLooks" "[I"] ++ wsX20)
def wsX2_lose : List Cond := .code yX2_lose cX2_lose 2 none :: ([.fieldLink RX2 9 "LoopMemo$Memo" "uses" "[I"] ++ wsX20)
def wsX2_loseAll : List Cond := .code yX2_loseAll cX2_loseAll 3 (some .int) :: ([.fieldLink RX2 9 "LoopMemo$Memo" "uses" "[I", .methodLink RX2 29 yX2_size, .instanceMethod yX2_size, .selects RX2 yX2_size yX2_size, .initialized RX2, .code yX2_size cX2_size 3 (some .int)] ++ wsX20)
def wsX2_rank : List Cond := .code yX2_rank cX2_rank 3 (some .long) :: ([.fieldLink RX2 18 "LoopMemo$Memo" "firstLooks" "[I", .fieldLink RX2 9 "LoopMemo$Memo" "uses" "[I", .fieldLink RX2 15 "LoopMemo$Memo" "lastLooks" "[I"] ++ wsX20)
def wsX2_firstOut : List Cond := .code yX2_firstOut cX2_firstOut 5 (some .int) :: ([.fieldLink RX2 9 "LoopMemo$Memo" "uses" "[I", .methodLink RX2 33 yX2_rank, .instanceMethod yX2_rank, .selects RX2 yX2_rank yX2_rank, .initialized RX2, .code yX2_rank cX2_rank 3 (some .long), .fieldLink RX2 18 "LoopMemo$Memo" "firstLooks" "[I", .fieldLink RX2 15 "LoopMemo$Memo" "lastLooks" "[I"] ++ wsX20)
def wsX2_placeOf : List Cond := .code yX2_placeOf cX2_placeOf 5 (some .int) :: ([.fieldLink RX2 9 "LoopMemo$Memo" "uses" "[I", .methodLink RX2 33 yX2_rank, .instanceMethod yX2_rank, .selects RX2 yX2_rank yX2_rank, .initialized RX2, .code yX2_rank cX2_rank 3 (some .long), .fieldLink RX2 18 "LoopMemo$Memo" "firstLooks" "[I", .fieldLink RX2 15 "LoopMemo$Memo" "lastLooks" "[I"] ++ wsX20)
def wsX3_init : List Cond := .code yX3_init cX3_init 1 none :: ([.methodLink RX3 3 objectInit, .instanceMethod objectInit, .code objectInit ⟨#[0xb1]⟩ 1 none, .arrayClass .int, .fieldLink RX3 9 "LoopMemo$Pad" "codes" "[I"] ++ wsX30)
def wsX3_size : List Cond := .code yX3_size cX3_size 1 (some .int) :: ([.fieldLink RX3 15 "LoopMemo$Pad" "size" "I"] ++ wsX30)
def wsX4_table : List Cond := .code yX4_table cX4_table 2 (some (.object "LoopMemo$Table")) :: ([.fieldLink RX4 18 "LoopMemo$State" "inner" "LLoopMemo$Table;", .fieldLink RX4 12 "LoopMemo$State" "outer" "LLoopMemo$Table;"] ++ wsX40)
def wsX4_answers : List Cond := .code yX4_answers cX4_answers 1 (some (.object "LoopMemo$Answers")) :: ([.fieldLink RX4 24 "LoopMemo$State" "answers" "LLoopMemo$Answers;"] ++ wsX40)
def wsX4_memo : List Cond := .code yX4_memo cX4_memo 1 (some (.object "LoopMemo$Memo")) :: ([.fieldLink RX4 31 "LoopMemo$State" "memo" "LLoopMemo$Memo;"] ++ wsX40)
def wsX4_setting : List Cond := .code yX4_setting cX4_setting 2 (some .int) :: ([.fieldLink RX4 44 "LoopMemo$State" "settings" "[I"] ++ wsX40)
def wsX4_tally : List Cond := .code yX4_tally cX4_tally 2 (some .int) :: ([.fieldLink RX4 47 "LoopMemo$State" "tallies" "[I"] ++ wsX40)
def wsX4_place : List Cond := .code yX4_place cX4_place 1 (some .int) :: ([.fieldLink RX4 64 "LoopMemo$State" "place" "I"] ++ wsX40)
def wsX4_totalSoFar : List Cond := .code yX4_totalSoFar cX4_totalSoFar 1 (some .int) :: ([.fieldLink RX4 68 "LoopMemo$State" "total" "I"] ++ wsX40)
def wsX4_isDone : List Cond := .code yX4_isDone cX4_isDone 2 (some .boolean) :: ([.fieldLink RX4 64 "LoopMemo$State" "place" "I"] ++ wsX40)
def wsX4_isInBand : List Cond := .code yX4_isInBand cX4_isInBand 2 (some .boolean) :: ([.fieldLink RX4 44 "LoopMemo$State" "settings" "[I"] ++ wsX40)
def wsX4_isInRememberedAnswer_r1 : List Cond := [Cond.fieldLink RX4 31 "LoopMemo$State" "memo" "LLoopMemo$Memo;", Cond.fieldLink RX4 18 "LoopMemo$State" "inner" "LLoopMemo$Table;", Cond.methodLink RX4 71 yX5_key, Cond.instanceMethod yX5_key, Cond.selects RX5 yX5_key yX5_key, Cond.initialized RX5, Cond.code yX5_key cX5_key 2 (some .int), Cond.fieldLink RX5 9 "LoopMemo$Table" "keys" "[I", Cond.methodLink RX4 75 yX2_holds, Cond.instanceMethod yX2_holds, Cond.selects RX2 yX2_holds yX2_holds, Cond.initialized RX2, Cond.code yX2_holds cX2_holds 2 (some .boolean), Cond.fieldLink RX2 9 "LoopMemo$Memo" "uses" "[I", Cond.methodLink RX4 79 yX5_value, Cond.instanceMethod yX5_value, Cond.selects RX5 yX5_value yX5_value, Cond.code yX5_value cX5_value 2 (some .int), Cond.fieldLink RX5 15 "LoopMemo$Table" "values" "[I", Cond.methodLink RX4 82 yX4_isInBand, Cond.instanceMethod yX4_isInBand, Cond.selects RX4 yX4_isInBand yX4_isInBand, Cond.initialized RX4, Cond.code yX4_isInBand cX4_isInBand 2 (some .boolean)]
def wsX4_isInRememberedAnswer_r2 : List Cond := [Cond.fieldLink RX4 44 "LoopMemo$State" "settings" "[I"]
def wsX4_isInRememberedAnswer : List Cond := .code yX4_isInRememberedAnswer cX4_isInRememberedAnswer 2 (some .boolean) :: ((wsX4_isInRememberedAnswer_r1 ++ wsX4_isInRememberedAnswer_r2) ++ wsX40 ++ wsX50 ++ wsX20)
def wsX6_isWithin : List Cond := .code yX6_isWithin cX6_isWithin 2 (some .boolean) :: ([])
def wsX6_isKey : List Cond := .code yX6_isKey cX6_isKey 1 (some .boolean) :: ([.methodLink RX6 76 yX6_isWithin, .static yX6_isWithin, .initialized RX6, .code yX6_isWithin cX6_isWithin 2 (some .boolean)])
def wsX6_isRow : List Cond := .code yX6_isRow cX6_isRow 2 (some .boolean) :: ([.methodLink RX6 147 yX6_isKey, .static yX6_isKey, .initialized RX6, .code yX6_isKey cX6_isKey 1 (some .boolean), .methodLink RX6 76 yX6_isWithin, .static yX6_isWithin, .code yX6_isWithin cX6_isWithin 2 (some .boolean)])
def wsX5_put : List Cond := .code yX5_put cX5_put 4 none :: ([.fieldLink RX5 9 "LoopMemo$Table" "keys" "[I", .fieldLink RX5 15 "LoopMemo$Table" "values" "[I"] ++ wsX50)
def wsX5_push : List Cond := .code yX5_push cX5_push 3 none :: ([.fieldLink RX5 22 "LoopMemo$Table" "size" "I", .methodLink RX5 26 yX5_put, .instanceMethod yX5_put, .selects RX5 yX5_put yX5_put, .initialized RX5, .code yX5_put cX5_put 4 none, .fieldLink RX5 9 "LoopMemo$Table" "keys" "[I", .fieldLink RX5 15 "LoopMemo$Table" "values" "[I"] ++ wsX50)
def wsX4_findAnswers_r1 : List Cond := [Cond.fieldLink RX4 24 "LoopMemo$State" "answers" "LLoopMemo$Answers;", Cond.fieldLink RX4 18 "LoopMemo$State" "inner" "LLoopMemo$Table;", Cond.fieldLink RX4 44 "LoopMemo$State" "settings" "[I", Cond.methodLink RX4 162 yX0_find, Cond.instanceMethod yX0_find, Cond.selects RX0 yX0_find yX0_find, Cond.initialized RX0, Cond.code yX0_find cX0_find 7 none, Cond.fieldLink RX0 9 "LoopMemo$Answers" "rows" "[I", Cond.fieldLink RX0 15 "LoopMemo$Answers" "sums" "[I", Cond.fieldLink RX0 18 "LoopMemo$Answers" "firstRows" "[I", Cond.methodLink RX0 25 yX5_size, Cond.instanceMethod yX5_size, Cond.selects RX5 yX5_size yX5_size, Cond.initialized RX5, Cond.code yX5_size cX5_size 1 (some .int), Cond.fieldLink RX5 22 "LoopMemo$Table" "size" "I", Cond.methodLink RX0 31 yX5_value, Cond.instanceMethod yX5_value, Cond.selects RX5 yX5_value yX5_value, Cond.code yX5_value cX5_value 2 (some .int), Cond.fieldLink RX5 15 "LoopMemo$Table" "values" "[I", Cond.methodLink RX0 35 yX5_key, Cond.instanceMethod yX5_key]
def wsX4_findAnswers_r2 : List Cond := [Cond.selects RX5 yX5_key yX5_key, Cond.code yX5_key cX5_key 2 (some .int), Cond.fieldLink RX5 9 "LoopMemo$Table" "keys" "[I"]
def wsX4_findAnswers : List Cond := .code yX4_findAnswers cX4_findAnswers 1 none :: ((wsX4_findAnswers_r1 ++ wsX4_findAnswers_r2) ++ wsX40 ++ wsX00 ++ wsX50)
def wsX4_throwAllOut : List Cond := .code yX4_throwAllOut cX4_throwAllOut 2 (some .int) :: ([.fieldLink RX4 31 "LoopMemo$State" "memo" "LLoopMemo$Memo;", .fieldLink RX4 47 "LoopMemo$State" "tallies" "[I", .methodLink RX4 125 yX2_loseAll, .instanceMethod yX2_loseAll, .selects RX2 yX2_loseAll yX2_loseAll, .initialized RX2, .code yX2_loseAll cX2_loseAll 3 (some .int), .fieldLink RX2 9 "LoopMemo$Memo" "uses" "[I", .methodLink RX2 29 yX2_size, .instanceMethod yX2_size, .selects RX2 yX2_size yX2_size, .code yX2_size cX2_size 3 (some .int)] ++ wsX40 ++ wsX20)
def wsX4_keepAnswerTrue : List Cond := .code yX4_keepAnswerTrue cX4_keepAnswerTrue 2 none :: ([.fieldLink RX4 31 "LoopMemo$State" "memo" "LLoopMemo$Memo;", .fieldLink RX4 44 "LoopMemo$State" "settings" "[I", .fieldLink RX4 47 "LoopMemo$State" "tallies" "[I", .methodLink RX4 75 yX2_holds, .instanceMethod yX2_holds, .selects RX2 yX2_holds yX2_holds, .initialized RX2, .code yX2_holds cX2_holds 2 (some .boolean), .fieldLink RX2 9 "LoopMemo$Memo" "uses" "[I", .methodLink RX4 156 yX2_lose, .instanceMethod yX2_lose, .selects RX2 yX2_lose yX2_lose, .code yX2_lose cX2_lose 2 none] ++ wsX40 ++ wsX20)
def wsX4_keepTrue_r1 : List Cond := [Cond.fieldLink RX4 44 "LoopMemo$State" "settings" "[I", Cond.methodLink RX4 134 yX4_findAnswers, Cond.instanceMethod yX4_findAnswers, Cond.selects RX4 yX4_findAnswers yX4_findAnswers, Cond.initialized RX4, Cond.code yX4_findAnswers cX4_findAnswers 1 none, Cond.fieldLink RX4 24 "LoopMemo$State" "answers" "LLoopMemo$Answers;", Cond.fieldLink RX4 18 "LoopMemo$State" "inner" "LLoopMemo$Table;", Cond.methodLink RX4 162 yX0_find, Cond.instanceMethod yX0_find, Cond.selects RX0 yX0_find yX0_find, Cond.initialized RX0, Cond.code yX0_find cX0_find 7 none, Cond.fieldLink RX0 9 "LoopMemo$Answers" "rows" "[I", Cond.fieldLink RX0 15 "LoopMemo$Answers" "sums" "[I", Cond.fieldLink RX0 18 "LoopMemo$Answers" "firstRows" "[I", Cond.methodLink RX0 25 yX5_size, Cond.instanceMethod yX5_size, Cond.selects RX5 yX5_size yX5_size, Cond.initialized RX5, Cond.code yX5_size cX5_size 1 (some .int), Cond.fieldLink RX5 22 "LoopMemo$Table" "size" "I", Cond.methodLink RX0 31 yX5_value, Cond.instanceMethod yX5_value]
def wsX4_keepTrue_r2 : List Cond := [Cond.selects RX5 yX5_value yX5_value, Cond.code yX5_value cX5_value 2 (some .int), Cond.fieldLink RX5 15 "LoopMemo$Table" "values" "[I", Cond.methodLink RX0 35 yX5_key, Cond.instanceMethod yX5_key, Cond.selects RX5 yX5_key yX5_key, Cond.code yX5_key cX5_key 2 (some .int), Cond.fieldLink RX5 9 "LoopMemo$Table" "keys" "[I", Cond.methodLink RX4 137 yX4_throwAllOut, Cond.instanceMethod yX4_throwAllOut, Cond.selects RX4 yX4_throwAllOut yX4_throwAllOut, Cond.code yX4_throwAllOut cX4_throwAllOut 2 (some .int), Cond.fieldLink RX4 31 "LoopMemo$State" "memo" "LLoopMemo$Memo;", Cond.fieldLink RX4 47 "LoopMemo$State" "tallies" "[I", Cond.methodLink RX4 125 yX2_loseAll, Cond.instanceMethod yX2_loseAll, Cond.selects RX2 yX2_loseAll yX2_loseAll, Cond.initialized RX2, Cond.code yX2_loseAll cX2_loseAll 3 (some .int), Cond.fieldLink RX2 9 "LoopMemo$Memo" "uses" "[I", Cond.methodLink RX2 29 yX2_size, Cond.instanceMethod yX2_size, Cond.selects RX2 yX2_size yX2_size, Cond.code yX2_size cX2_size 3 (some .int)]
def wsX4_keepTrue_r3 : List Cond := [Cond.methodLink RX4 159 yX4_keepAnswerTrue, Cond.instanceMethod yX4_keepAnswerTrue, Cond.selects RX4 yX4_keepAnswerTrue yX4_keepAnswerTrue, Cond.code yX4_keepAnswerTrue cX4_keepAnswerTrue 2 none, Cond.methodLink RX4 75 yX2_holds, Cond.instanceMethod yX2_holds, Cond.selects RX2 yX2_holds yX2_holds, Cond.code yX2_holds cX2_holds 2 (some .boolean), Cond.methodLink RX4 156 yX2_lose, Cond.instanceMethod yX2_lose, Cond.selects RX2 yX2_lose yX2_lose, Cond.code yX2_lose cX2_lose 2 none]
def wsX4_keepTrue : List Cond := .code yX4_keepTrue cX4_keepTrue 3 none :: ((wsX4_keepTrue_r1 ++ (wsX4_keepTrue_r2 ++ wsX4_keepTrue_r3)) ++ wsX40 ++ wsX00 ++ wsX50 ++ wsX20)
def wsX4_insertRow_r1 : List Cond := [Cond.static yX6_isRow, Cond.initialized RX6, Cond.code yX6_isRow cX6_isRow 2 (some .boolean), Cond.methodLink RX6 147 yX6_isKey, Cond.static yX6_isKey, Cond.code yX6_isKey cX6_isKey 1 (some .boolean), Cond.methodLink RX6 76 yX6_isWithin, Cond.static yX6_isWithin, Cond.code yX6_isWithin cX6_isWithin 2 (some .boolean), Cond.methodLink RX4 89 yX4_table, Cond.instanceMethod yX4_table, Cond.selects RX4 yX4_table yX4_table, Cond.initialized RX4, Cond.code yX4_table cX4_table 2 (some (.object "LoopMemo$Table")), Cond.fieldLink RX4 18 "LoopMemo$State" "inner" "LLoopMemo$Table;", Cond.fieldLink RX4 12 "LoopMemo$State" "outer" "LLoopMemo$Table;", Cond.methodLink RX4 93 yX5_size, Cond.instanceMethod yX5_size, Cond.selects RX5 yX5_size yX5_size, Cond.initialized RX5, Cond.code yX5_size cX5_size 1 (some .int), Cond.fieldLink RX5 22 "LoopMemo$Table" "size" "I", Cond.methodLink RX4 97 yX5_push, Cond.instanceMethod yX5_push]
def wsX4_insertRow_r2 : List Cond := [Cond.selects RX5 yX5_push yX5_push, Cond.code yX5_push cX5_push 3 none, Cond.methodLink RX5 26 yX5_put, Cond.instanceMethod yX5_put, Cond.selects RX5 yX5_put yX5_put, Cond.code yX5_put cX5_put 4 none, Cond.fieldLink RX5 9 "LoopMemo$Table" "keys" "[I", Cond.fieldLink RX5 15 "LoopMemo$Table" "values" "[I", Cond.methodLink RX4 101 yX4_keepTrue, Cond.instanceMethod yX4_keepTrue, Cond.selects RX4 yX4_keepTrue yX4_keepTrue, Cond.code yX4_keepTrue cX4_keepTrue 3 none, Cond.fieldLink RX4 44 "LoopMemo$State" "settings" "[I", Cond.methodLink RX4 134 yX4_findAnswers, Cond.instanceMethod yX4_findAnswers, Cond.selects RX4 yX4_findAnswers yX4_findAnswers, Cond.code yX4_findAnswers cX4_findAnswers 1 none, Cond.fieldLink RX4 24 "LoopMemo$State" "answers" "LLoopMemo$Answers;", Cond.methodLink RX4 162 yX0_find, Cond.instanceMethod yX0_find, Cond.selects RX0 yX0_find yX0_find, Cond.initialized RX0, Cond.code yX0_find cX0_find 7 none, Cond.fieldLink RX0 9 "LoopMemo$Answers" "rows" "[I"]
def wsX4_insertRow_r3 : List Cond := [Cond.fieldLink RX0 15 "LoopMemo$Answers" "sums" "[I", Cond.fieldLink RX0 18 "LoopMemo$Answers" "firstRows" "[I", Cond.methodLink RX0 25 yX5_size, Cond.methodLink RX0 31 yX5_value, Cond.instanceMethod yX5_value, Cond.selects RX5 yX5_value yX5_value, Cond.code yX5_value cX5_value 2 (some .int), Cond.methodLink RX0 35 yX5_key, Cond.instanceMethod yX5_key, Cond.selects RX5 yX5_key yX5_key, Cond.code yX5_key cX5_key 2 (some .int), Cond.methodLink RX4 137 yX4_throwAllOut, Cond.instanceMethod yX4_throwAllOut, Cond.selects RX4 yX4_throwAllOut yX4_throwAllOut, Cond.code yX4_throwAllOut cX4_throwAllOut 2 (some .int), Cond.fieldLink RX4 31 "LoopMemo$State" "memo" "LLoopMemo$Memo;", Cond.fieldLink RX4 47 "LoopMemo$State" "tallies" "[I", Cond.methodLink RX4 125 yX2_loseAll, Cond.instanceMethod yX2_loseAll, Cond.selects RX2 yX2_loseAll yX2_loseAll, Cond.initialized RX2, Cond.code yX2_loseAll cX2_loseAll 3 (some .int), Cond.fieldLink RX2 9 "LoopMemo$Memo" "uses" "[I", Cond.methodLink RX2 29 yX2_size]
def wsX4_insertRow_r4 : List Cond := [Cond.instanceMethod yX2_size, Cond.selects RX2 yX2_size yX2_size, Cond.code yX2_size cX2_size 3 (some .int), Cond.methodLink RX4 159 yX4_keepAnswerTrue, Cond.instanceMethod yX4_keepAnswerTrue, Cond.selects RX4 yX4_keepAnswerTrue yX4_keepAnswerTrue, Cond.code yX4_keepAnswerTrue cX4_keepAnswerTrue 2 none, Cond.methodLink RX4 75 yX2_holds, Cond.instanceMethod yX2_holds, Cond.selects RX2 yX2_holds yX2_holds, Cond.code yX2_holds cX2_holds 2 (some .boolean), Cond.methodLink RX4 156 yX2_lose, Cond.instanceMethod yX2_lose, Cond.selects RX2 yX2_lose yX2_lose, Cond.code yX2_lose cX2_lose 2 none]
def wsX4_insertRow : List Cond := .code yX4_insertRow cX4_insertRow 5 (some .int) :: ((wsX4_insertRow_r1 ++ (wsX4_insertRow_r2 ++ (wsX4_insertRow_r3 ++ wsX4_insertRow_r4))) ++ wsX40 ++ wsX50 ++ wsX00 ++ wsX20)
def wsX5_has : List Cond := .code yX5_has cX5_has 2 (some .boolean) :: ([.fieldLink RX5 22 "LoopMemo$Table" "size" "I"] ++ wsX50)
def wsX5_takeOut : List Cond := .code yX5_takeOut cX5_takeOut 3 none :: ([.fieldLink RX5 22 "LoopMemo$Table" "size" "I", .methodLink RX5 30 yX5_has, .instanceMethod yX5_has, .selects RX5 yX5_has yX5_has, .initialized RX5, .code yX5_has cX5_has 2 (some .boolean), .methodLink RX5 34 yX5_key, .instanceMethod yX5_key, .selects RX5 yX5_key yX5_key, .code yX5_key cX5_key 2 (some .int), .fieldLink RX5 9 "LoopMemo$Table" "keys" "[I", .methodLink RX5 38 yX5_value, .instanceMethod yX5_value, .selects RX5 yX5_value yX5_value, .code yX5_value cX5_value 2 (some .int), .fieldLink RX5 15 "LoopMemo$Table" "values" "[I", .methodLink RX5 26 yX5_put, .instanceMethod yX5_put, .selects RX5 yX5_put yX5_put, .code yX5_put cX5_put 4 none] ++ wsX50)
def wsX4_removeRow_r1 : List Cond := [Cond.fieldLink RX4 64 "LoopMemo$State" "place" "I", Cond.methodLink RX4 89 yX4_table, Cond.instanceMethod yX4_table, Cond.selects RX4 yX4_table yX4_table, Cond.initialized RX4, Cond.code yX4_table cX4_table 2 (some (.object "LoopMemo$Table")), Cond.fieldLink RX4 18 "LoopMemo$State" "inner" "LLoopMemo$Table;", Cond.fieldLink RX4 12 "LoopMemo$State" "outer" "LLoopMemo$Table;", Cond.methodLink RX4 104 yX5_has, Cond.instanceMethod yX5_has, Cond.selects RX5 yX5_has yX5_has, Cond.initialized RX5, Cond.code yX5_has cX5_has 2 (some .boolean), Cond.fieldLink RX5 22 "LoopMemo$Table" "size" "I", Cond.methodLink RX4 71 yX5_key, Cond.instanceMethod yX5_key, Cond.selects RX5 yX5_key yX5_key, Cond.code yX5_key cX5_key 2 (some .int), Cond.fieldLink RX5 9 "LoopMemo$Table" "keys" "[I", Cond.methodLink RX4 107 yX5_takeOut, Cond.instanceMethod yX5_takeOut, Cond.selects RX5 yX5_takeOut yX5_takeOut, Cond.code yX5_takeOut cX5_takeOut 3 none, Cond.methodLink RX5 30 yX5_has]
def wsX4_removeRow_r2 : List Cond := [Cond.methodLink RX5 34 yX5_key, Cond.methodLink RX5 38 yX5_value, Cond.instanceMethod yX5_value, Cond.selects RX5 yX5_value yX5_value, Cond.code yX5_value cX5_value 2 (some .int), Cond.fieldLink RX5 15 "LoopMemo$Table" "values" "[I", Cond.methodLink RX5 26 yX5_put, Cond.instanceMethod yX5_put, Cond.selects RX5 yX5_put yX5_put, Cond.code yX5_put cX5_put 4 none, Cond.methodLink RX4 101 yX4_keepTrue, Cond.instanceMethod yX4_keepTrue, Cond.selects RX4 yX4_keepTrue yX4_keepTrue, Cond.code yX4_keepTrue cX4_keepTrue 3 none, Cond.fieldLink RX4 44 "LoopMemo$State" "settings" "[I", Cond.methodLink RX4 134 yX4_findAnswers, Cond.instanceMethod yX4_findAnswers, Cond.selects RX4 yX4_findAnswers yX4_findAnswers, Cond.code yX4_findAnswers cX4_findAnswers 1 none, Cond.fieldLink RX4 24 "LoopMemo$State" "answers" "LLoopMemo$Answers;", Cond.methodLink RX4 162 yX0_find, Cond.instanceMethod yX0_find, Cond.selects RX0 yX0_find yX0_find, Cond.initialized RX0]
def wsX4_removeRow_r3 : List Cond := [Cond.code yX0_find cX0_find 7 none, Cond.fieldLink RX0 9 "LoopMemo$Answers" "rows" "[I", Cond.fieldLink RX0 15 "LoopMemo$Answers" "sums" "[I", Cond.fieldLink RX0 18 "LoopMemo$Answers" "firstRows" "[I", Cond.methodLink RX0 25 yX5_size, Cond.instanceMethod yX5_size, Cond.selects RX5 yX5_size yX5_size, Cond.code yX5_size cX5_size 1 (some .int), Cond.methodLink RX0 31 yX5_value, Cond.methodLink RX0 35 yX5_key, Cond.methodLink RX4 137 yX4_throwAllOut, Cond.instanceMethod yX4_throwAllOut, Cond.selects RX4 yX4_throwAllOut yX4_throwAllOut, Cond.code yX4_throwAllOut cX4_throwAllOut 2 (some .int), Cond.fieldLink RX4 31 "LoopMemo$State" "memo" "LLoopMemo$Memo;", Cond.fieldLink RX4 47 "LoopMemo$State" "tallies" "[I", Cond.methodLink RX4 125 yX2_loseAll, Cond.instanceMethod yX2_loseAll, Cond.selects RX2 yX2_loseAll yX2_loseAll, Cond.initialized RX2, Cond.code yX2_loseAll cX2_loseAll 3 (some .int), Cond.fieldLink RX2 9 "LoopMemo$Memo" "uses" "[I", Cond.methodLink RX2 29 yX2_size, Cond.instanceMethod yX2_size]
def wsX4_removeRow_r4 : List Cond := [Cond.selects RX2 yX2_size yX2_size, Cond.code yX2_size cX2_size 3 (some .int), Cond.methodLink RX4 159 yX4_keepAnswerTrue, Cond.instanceMethod yX4_keepAnswerTrue, Cond.selects RX4 yX4_keepAnswerTrue yX4_keepAnswerTrue, Cond.code yX4_keepAnswerTrue cX4_keepAnswerTrue 2 none, Cond.methodLink RX4 75 yX2_holds, Cond.instanceMethod yX2_holds, Cond.selects RX2 yX2_holds yX2_holds, Cond.code yX2_holds cX2_holds 2 (some .boolean), Cond.methodLink RX4 156 yX2_lose, Cond.instanceMethod yX2_lose, Cond.selects RX2 yX2_lose yX2_lose, Cond.code yX2_lose cX2_lose 2 none, Cond.methodLink RX4 111 yX4_isDone, Cond.instanceMethod yX4_isDone, Cond.selects RX4 yX4_isDone yX4_isDone, Cond.code yX4_isDone cX4_isDone 2 (some .boolean), Cond.methodLink RX4 93 yX5_size]
def wsX4_removeRow : List Cond := .code yX4_removeRow cX4_removeRow 5 (some .int) :: ((wsX4_removeRow_r1 ++ (wsX4_removeRow_r2 ++ (wsX4_removeRow_r3 ++ wsX4_removeRow_r4))) ++ wsX40 ++ wsX50 ++ wsX00 ++ wsX20)
def wsX4_rewriteRow_r1 : List Cond := [Cond.fieldLink RX4 18 "LoopMemo$State" "inner" "LLoopMemo$Table;", Cond.fieldLink RX4 31 "LoopMemo$State" "memo" "LLoopMemo$Memo;", Cond.methodLink RX4 104 yX5_has, Cond.instanceMethod yX5_has, Cond.selects RX5 yX5_has yX5_has, Cond.initialized RX5, Cond.code yX5_has cX5_has 2 (some .boolean), Cond.fieldLink RX5 22 "LoopMemo$Table" "size" "I", Cond.static yX6_isRow, Cond.initialized RX6, Cond.code yX6_isRow cX6_isRow 2 (some .boolean), Cond.methodLink RX6 147 yX6_isKey, Cond.static yX6_isKey, Cond.code yX6_isKey cX6_isKey 1 (some .boolean), Cond.methodLink RX6 76 yX6_isWithin, Cond.static yX6_isWithin, Cond.code yX6_isWithin cX6_isWithin 2 (some .boolean), Cond.methodLink RX4 71 yX5_key, Cond.instanceMethod yX5_key, Cond.selects RX5 yX5_key yX5_key, Cond.code yX5_key cX5_key 2 (some .int), Cond.fieldLink RX5 9 "LoopMemo$Table" "keys" "[I", Cond.methodLink RX4 114 yX5_put, Cond.instanceMethod yX5_put]
def wsX4_rewriteRow_r2 : List Cond := [Cond.selects RX5 yX5_put yX5_put, Cond.code yX5_put cX5_put 4 none, Cond.fieldLink RX5 15 "LoopMemo$Table" "values" "[I", Cond.methodLink RX4 101 yX4_keepTrue, Cond.instanceMethod yX4_keepTrue, Cond.selects RX4 yX4_keepTrue yX4_keepTrue, Cond.initialized RX4, Cond.code yX4_keepTrue cX4_keepTrue 3 none, Cond.fieldLink RX4 44 "LoopMemo$State" "settings" "[I", Cond.methodLink RX4 134 yX4_findAnswers, Cond.instanceMethod yX4_findAnswers, Cond.selects RX4 yX4_findAnswers yX4_findAnswers, Cond.code yX4_findAnswers cX4_findAnswers 1 none, Cond.fieldLink RX4 24 "LoopMemo$State" "answers" "LLoopMemo$Answers;", Cond.methodLink RX4 162 yX0_find, Cond.instanceMethod yX0_find, Cond.selects RX0 yX0_find yX0_find, Cond.initialized RX0, Cond.code yX0_find cX0_find 7 none, Cond.fieldLink RX0 9 "LoopMemo$Answers" "rows" "[I", Cond.fieldLink RX0 15 "LoopMemo$Answers" "sums" "[I", Cond.fieldLink RX0 18 "LoopMemo$Answers" "firstRows" "[I", Cond.methodLink RX0 25 yX5_size, Cond.instanceMethod yX5_size]
def wsX4_rewriteRow_r3 : List Cond := [Cond.selects RX5 yX5_size yX5_size, Cond.code yX5_size cX5_size 1 (some .int), Cond.methodLink RX0 31 yX5_value, Cond.instanceMethod yX5_value, Cond.selects RX5 yX5_value yX5_value, Cond.code yX5_value cX5_value 2 (some .int), Cond.methodLink RX0 35 yX5_key, Cond.methodLink RX4 137 yX4_throwAllOut, Cond.instanceMethod yX4_throwAllOut, Cond.selects RX4 yX4_throwAllOut yX4_throwAllOut, Cond.code yX4_throwAllOut cX4_throwAllOut 2 (some .int), Cond.fieldLink RX4 47 "LoopMemo$State" "tallies" "[I", Cond.methodLink RX4 125 yX2_loseAll, Cond.instanceMethod yX2_loseAll, Cond.selects RX2 yX2_loseAll yX2_loseAll, Cond.initialized RX2, Cond.code yX2_loseAll cX2_loseAll 3 (some .int), Cond.fieldLink RX2 9 "LoopMemo$Memo" "uses" "[I", Cond.methodLink RX2 29 yX2_size, Cond.instanceMethod yX2_size, Cond.selects RX2 yX2_size yX2_size, Cond.code yX2_size cX2_size 3 (some .int), Cond.methodLink RX4 159 yX4_keepAnswerTrue, Cond.instanceMethod yX4_keepAnswerTrue]
def wsX4_rewriteRow_r4 : List Cond := [Cond.selects RX4 yX4_keepAnswerTrue yX4_keepAnswerTrue, Cond.code yX4_keepAnswerTrue cX4_keepAnswerTrue 2 none, Cond.methodLink RX4 75 yX2_holds, Cond.instanceMethod yX2_holds, Cond.selects RX2 yX2_holds yX2_holds, Cond.code yX2_holds cX2_holds 2 (some .boolean), Cond.methodLink RX4 156 yX2_lose, Cond.instanceMethod yX2_lose, Cond.selects RX2 yX2_lose yX2_lose, Cond.code yX2_lose cX2_lose 2 none, Cond.methodLink RX4 118 yX2_size]
def wsX4_rewriteRow : List Cond := .code yX4_rewriteRow cX4_rewriteRow 5 (some .int) :: ((wsX4_rewriteRow_r1 ++ (wsX4_rewriteRow_r2 ++ (wsX4_rewriteRow_r3 ++ wsX4_rewriteRow_r4))) ++ wsX40 ++ wsX50 ++ wsX00 ++ wsX20)
def wsX4_weightTogether : List Cond := .code yX4_weightTogether cX4_weightTogether 3 (some .int) :: ([.fieldLink RX4 31 "LoopMemo$State" "memo" "LLoopMemo$Memo;", .fieldLink RX4 24 "LoopMemo$State" "answers" "LLoopMemo$Answers;", .methodLink RX4 75 yX2_holds, .instanceMethod yX2_holds, .selects RX2 yX2_holds yX2_holds, .initialized RX2, .code yX2_holds cX2_holds 2 (some .boolean), .fieldLink RX2 9 "LoopMemo$Memo" "uses" "[I", .methodLink RX4 140 yX0_weight, .instanceMethod yX0_weight, .selects RX0 yX0_weight yX0_weight, .initialized RX0, .code yX0_weight cX0_weight 2 (some .int), .fieldLink RX0 9 "LoopMemo$Answers" "rows" "[I"] ++ wsX40 ++ wsX20 ++ wsX00)
def wsX4_makeRoom_r1 : List Cond := [Cond.fieldLink RX4 44 "LoopMemo$State" "settings" "[I", Cond.fieldLink RX4 31 "LoopMemo$State" "memo" "LLoopMemo$Memo;", Cond.fieldLink RX4 24 "LoopMemo$State" "answers" "LLoopMemo$Answers;", Cond.fieldLink RX4 47 "LoopMemo$State" "tallies" "[I", Cond.methodLink RX4 149 yX4_weightTogether, Cond.instanceMethod yX4_weightTogether, Cond.selects RX4 yX4_weightTogether yX4_weightTogether, Cond.initialized RX4, Cond.code yX4_weightTogether cX4_weightTogether 3 (some .int), Cond.methodLink RX4 75 yX2_holds, Cond.instanceMethod yX2_holds, Cond.selects RX2 yX2_holds yX2_holds, Cond.initialized RX2, Cond.code yX2_holds cX2_holds 2 (some .boolean), Cond.fieldLink RX2 9 "LoopMemo$Memo" "uses" "[I", Cond.methodLink RX4 140 yX0_weight, Cond.instanceMethod yX0_weight, Cond.selects RX0 yX0_weight yX0_weight, Cond.initialized RX0, Cond.code yX0_weight cX0_weight 2 (some .int), Cond.fieldLink RX0 9 "LoopMemo$Answers" "rows" "[I", Cond.methodLink RX4 152 yX2_firstOut, Cond.instanceMethod yX2_firstOut, Cond.selects RX2 yX2_firstOut yX2_firstOut]
def wsX4_makeRoom_r2 : List Cond := [Cond.code yX2_firstOut cX2_firstOut 5 (some .int), Cond.methodLink RX2 33 yX2_rank, Cond.instanceMethod yX2_rank, Cond.selects RX2 yX2_rank yX2_rank, Cond.code yX2_rank cX2_rank 3 (some .long), Cond.fieldLink RX2 18 "LoopMemo$Memo" "firstLooks" "[I", Cond.fieldLink RX2 15 "LoopMemo$Memo" "lastLooks" "[I", Cond.methodLink RX4 156 yX2_lose, Cond.instanceMethod yX2_lose, Cond.selects RX2 yX2_lose yX2_lose, Cond.code yX2_lose cX2_lose 2 none]
def wsX4_makeRoom : List Cond := .code yX4_makeRoom cX4_makeRoom 5 (some .int) :: ((wsX4_makeRoom_r1 ++ wsX4_makeRoom_r2) ++ wsX40 ++ wsX20 ++ wsX00)
def wsX4_lookUp_r1 : List Cond := [Cond.fieldLink RX4 31 "LoopMemo$State" "memo" "LLoopMemo$Memo;", Cond.fieldLink RX4 47 "LoopMemo$State" "tallies" "[I", Cond.fieldLink RX4 18 "LoopMemo$State" "inner" "LLoopMemo$Table;", Cond.fieldLink RX4 24 "LoopMemo$State" "answers" "LLoopMemo$Answers;", Cond.fieldLink RX4 44 "LoopMemo$State" "settings" "[I", Cond.methodLink RX4 75 yX2_holds, Cond.instanceMethod yX2_holds, Cond.selects RX2 yX2_holds yX2_holds, Cond.initialized RX2, Cond.code yX2_holds cX2_holds 2 (some .boolean), Cond.fieldLink RX2 9 "LoopMemo$Memo" "uses" "[I", Cond.methodLink RX4 143 yX2_touch, Cond.instanceMethod yX2_touch, Cond.selects RX2 yX2_touch yX2_touch, Cond.code yX2_touch cX2_touch 2 none, Cond.fieldLink RX2 25 "LoopMemo$Memo" "looks" "I", Cond.fieldLink RX2 15 "LoopMemo$Memo" "lastLooks" "[I", Cond.methodLink RX4 93 yX5_size, Cond.instanceMethod yX5_size, Cond.selects RX5 yX5_size yX5_size, Cond.initialized RX5, Cond.code yX5_size cX5_size 1 (some .int), Cond.fieldLink RX5 22 "LoopMemo$Table" "size" "I", Cond.methodLink RX4 140 yX0_weight]
def wsX4_lookUp_r2 : List Cond := [Cond.instanceMethod yX0_weight, Cond.selects RX0 yX0_weight yX0_weight, Cond.initialized RX0, Cond.code yX0_weight cX0_weight 2 (some .int), Cond.fieldLink RX0 9 "LoopMemo$Answers" "rows" "[I", Cond.methodLink RX4 146 yX2_take, Cond.instanceMethod yX2_take, Cond.selects RX2 yX2_take yX2_take, Cond.code yX2_take cX2_take 2 none, Cond.fieldLink RX2 18 "LoopMemo$Memo" "firstLooks" "[I", Cond.methodLink RX4 131 yX4_makeRoom, Cond.instanceMethod yX4_makeRoom, Cond.selects RX4 yX4_makeRoom yX4_makeRoom, Cond.initialized RX4, Cond.code yX4_makeRoom cX4_makeRoom 5 (some .int), Cond.methodLink RX4 149 yX4_weightTogether, Cond.instanceMethod yX4_weightTogether, Cond.selects RX4 yX4_weightTogether yX4_weightTogether, Cond.code yX4_weightTogether cX4_weightTogether 3 (some .int), Cond.methodLink RX4 152 yX2_firstOut, Cond.instanceMethod yX2_firstOut, Cond.selects RX2 yX2_firstOut yX2_firstOut, Cond.code yX2_firstOut cX2_firstOut 5 (some .int), Cond.methodLink RX2 33 yX2_rank]
def wsX4_lookUp_r3 : List Cond := [Cond.instanceMethod yX2_rank, Cond.selects RX2 yX2_rank yX2_rank, Cond.code yX2_rank cX2_rank 3 (some .long), Cond.methodLink RX4 156 yX2_lose, Cond.instanceMethod yX2_lose, Cond.selects RX2 yX2_lose yX2_lose, Cond.code yX2_lose cX2_lose 2 none]
def wsX4_lookUp : List Cond := .code yX4_lookUp cX4_lookUp 2 none :: ((wsX4_lookUp_r1 ++ (wsX4_lookUp_r2 ++ wsX4_lookUp_r3)) ++ wsX40 ++ wsX20 ++ wsX50 ++ wsX00)
def wsX4_walk_r1 : List Cond := [Cond.fieldLink RX4 64 "LoopMemo$State" "place" "I", Cond.fieldLink RX4 12 "LoopMemo$State" "outer" "LLoopMemo$Table;", Cond.fieldLink RX4 47 "LoopMemo$State" "tallies" "[I", Cond.fieldLink RX4 68 "LoopMemo$State" "total" "I", Cond.fieldLink RX4 24 "LoopMemo$State" "answers" "LLoopMemo$Answers;", Cond.methodLink RX4 93 yX5_size, Cond.instanceMethod yX5_size, Cond.selects RX5 yX5_size yX5_size, Cond.initialized RX5, Cond.code yX5_size cX5_size 1 (some .int), Cond.fieldLink RX5 22 "LoopMemo$Table" "size" "I", Cond.methodLink RX4 71 yX5_key, Cond.instanceMethod yX5_key, Cond.selects RX5 yX5_key yX5_key, Cond.code yX5_key cX5_key 2 (some .int), Cond.fieldLink RX5 9 "LoopMemo$Table" "keys" "[I", Cond.methodLink RX4 119 yX4_lookUp, Cond.instanceMethod yX4_lookUp, Cond.selects RX4 yX4_lookUp yX4_lookUp, Cond.initialized RX4, Cond.code yX4_lookUp cX4_lookUp 2 none, Cond.fieldLink RX4 31 "LoopMemo$State" "memo" "LLoopMemo$Memo;", Cond.fieldLink RX4 18 "LoopMemo$State" "inner" "LLoopMemo$Table;", Cond.fieldLink RX4 44 "LoopMemo$State" "settings" "[I"]
def wsX4_walk_r2 : List Cond := [Cond.methodLink RX4 75 yX2_holds, Cond.instanceMethod yX2_holds, Cond.selects RX2 yX2_holds yX2_holds, Cond.initialized RX2, Cond.code yX2_holds cX2_holds 2 (some .boolean), Cond.fieldLink RX2 9 "LoopMemo$Memo" "uses" "[I", Cond.methodLink RX4 143 yX2_touch, Cond.instanceMethod yX2_touch, Cond.selects RX2 yX2_touch yX2_touch, Cond.code yX2_touch cX2_touch 2 none, Cond.fieldLink RX2 25 "LoopMemo$Memo" "looks" "I", Cond.fieldLink RX2 15 "LoopMemo$Memo" "lastLooks" "[I", Cond.methodLink RX4 140 yX0_weight, Cond.instanceMethod yX0_weight, Cond.selects RX0 yX0_weight yX0_weight, Cond.initialized RX0, Cond.code yX0_weight cX0_weight 2 (some .int), Cond.fieldLink RX0 9 "LoopMemo$Answers" "rows" "[I", Cond.methodLink RX4 146 yX2_take, Cond.instanceMethod yX2_take, Cond.selects RX2 yX2_take yX2_take, Cond.code yX2_take cX2_take 2 none, Cond.fieldLink RX2 18 "LoopMemo$Memo" "firstLooks" "[I", Cond.methodLink RX4 131 yX4_makeRoom]
def wsX4_walk_r3 : List Cond := [Cond.instanceMethod yX4_makeRoom, Cond.selects RX4 yX4_makeRoom yX4_makeRoom, Cond.code yX4_makeRoom cX4_makeRoom 5 (some .int), Cond.methodLink RX4 149 yX4_weightTogether, Cond.instanceMethod yX4_weightTogether, Cond.selects RX4 yX4_weightTogether yX4_weightTogether, Cond.code yX4_weightTogether cX4_weightTogether 3 (some .int), Cond.methodLink RX4 152 yX2_firstOut, Cond.instanceMethod yX2_firstOut, Cond.selects RX2 yX2_firstOut yX2_firstOut, Cond.code yX2_firstOut cX2_firstOut 5 (some .int), Cond.methodLink RX2 33 yX2_rank, Cond.instanceMethod yX2_rank, Cond.selects RX2 yX2_rank yX2_rank, Cond.code yX2_rank cX2_rank 3 (some .long), Cond.methodLink RX4 156 yX2_lose, Cond.instanceMethod yX2_lose, Cond.selects RX2 yX2_lose yX2_lose, Cond.code yX2_lose cX2_lose 2 none, Cond.methodLink RX4 79 yX5_value, Cond.instanceMethod yX5_value, Cond.selects RX5 yX5_value yX5_value, Cond.code yX5_value cX5_value 2 (some .int), Cond.fieldLink RX5 15 "LoopMemo$Table" "values" "[I"]
def wsX4_walk_r4 : List Cond := [Cond.methodLink RX4 122 yX0_sum, Cond.instanceMethod yX0_sum, Cond.selects RX0 yX0_sum yX0_sum, Cond.code yX0_sum cX0_sum 2 (some .int), Cond.fieldLink RX0 15 "LoopMemo$Answers" "sums" "[I"]
def wsX4_walk : List Cond := .code yX4_walk cX4_walk 5 (some .int) :: ((wsX4_walk_r1 ++ (wsX4_walk_r2 ++ (wsX4_walk_r3 ++ wsX4_walk_r4))) ++ wsX40 ++ wsX50 ++ wsX20 ++ wsX00)
def wsX4_beginAgain : List Cond := .code yX4_beginAgain cX4_beginAgain 2 (some .int) :: ([.fieldLink RX4 68 "LoopMemo$State" "total" "I", .fieldLink RX4 64 "LoopMemo$State" "place" "I"] ++ wsX40)
def wsX4_adjust_r1 : List Cond := [Cond.fieldLink RX4 128 "LoopMemo$State" "HIGHEST_SETTINGS" "[I", Cond.fieldLink RX4 44 "LoopMemo$State" "settings" "[I", Cond.methodLink RX4 131 yX4_makeRoom, Cond.instanceMethod yX4_makeRoom, Cond.selects RX4 yX4_makeRoom yX4_makeRoom, Cond.initialized RX4, Cond.code yX4_makeRoom cX4_makeRoom 5 (some .int), Cond.fieldLink RX4 31 "LoopMemo$State" "memo" "LLoopMemo$Memo;", Cond.fieldLink RX4 24 "LoopMemo$State" "answers" "LLoopMemo$Answers;", Cond.fieldLink RX4 47 "LoopMemo$State" "tallies" "[I", Cond.methodLink RX4 149 yX4_weightTogether, Cond.instanceMethod yX4_weightTogether, Cond.selects RX4 yX4_weightTogether yX4_weightTogether, Cond.code yX4_weightTogether cX4_weightTogether 3 (some .int), Cond.methodLink RX4 75 yX2_holds, Cond.instanceMethod yX2_holds, Cond.selects RX2 yX2_holds yX2_holds, Cond.initialized RX2, Cond.code yX2_holds cX2_holds 2 (some .boolean), Cond.fieldLink RX2 9 "LoopMemo$Memo" "uses" "[I", Cond.methodLink RX4 140 yX0_weight, Cond.instanceMethod yX0_weight, Cond.selects RX0 yX0_weight yX0_weight, Cond.initialized RX0]
def wsX4_adjust_r2 : List Cond := [Cond.code yX0_weight cX0_weight 2 (some .int), Cond.fieldLink RX0 9 "LoopMemo$Answers" "rows" "[I", Cond.methodLink RX4 152 yX2_firstOut, Cond.instanceMethod yX2_firstOut, Cond.selects RX2 yX2_firstOut yX2_firstOut, Cond.code yX2_firstOut cX2_firstOut 5 (some .int), Cond.methodLink RX2 33 yX2_rank, Cond.instanceMethod yX2_rank, Cond.selects RX2 yX2_rank yX2_rank, Cond.code yX2_rank cX2_rank 3 (some .long), Cond.fieldLink RX2 18 "LoopMemo$Memo" "firstLooks" "[I", Cond.fieldLink RX2 15 "LoopMemo$Memo" "lastLooks" "[I", Cond.methodLink RX4 156 yX2_lose, Cond.instanceMethod yX2_lose, Cond.selects RX2 yX2_lose yX2_lose, Cond.code yX2_lose cX2_lose 2 none, Cond.methodLink RX4 134 yX4_findAnswers, Cond.instanceMethod yX4_findAnswers, Cond.selects RX4 yX4_findAnswers yX4_findAnswers, Cond.code yX4_findAnswers cX4_findAnswers 1 none, Cond.fieldLink RX4 18 "LoopMemo$State" "inner" "LLoopMemo$Table;", Cond.methodLink RX4 162 yX0_find, Cond.instanceMethod yX0_find, Cond.selects RX0 yX0_find yX0_find]
def wsX4_adjust_r3 : List Cond := [Cond.code yX0_find cX0_find 7 none, Cond.fieldLink RX0 15 "LoopMemo$Answers" "sums" "[I", Cond.fieldLink RX0 18 "LoopMemo$Answers" "firstRows" "[I", Cond.methodLink RX0 25 yX5_size, Cond.instanceMethod yX5_size, Cond.selects RX5 yX5_size yX5_size, Cond.initialized RX5, Cond.code yX5_size cX5_size 1 (some .int), Cond.fieldLink RX5 22 "LoopMemo$Table" "size" "I", Cond.methodLink RX0 31 yX5_value, Cond.instanceMethod yX5_value, Cond.selects RX5 yX5_value yX5_value, Cond.code yX5_value cX5_value 2 (some .int), Cond.fieldLink RX5 15 "LoopMemo$Table" "values" "[I", Cond.methodLink RX0 35 yX5_key, Cond.instanceMethod yX5_key, Cond.selects RX5 yX5_key yX5_key, Cond.code yX5_key cX5_key 2 (some .int), Cond.fieldLink RX5 9 "LoopMemo$Table" "keys" "[I", Cond.methodLink RX4 137 yX4_throwAllOut, Cond.instanceMethod yX4_throwAllOut, Cond.selects RX4 yX4_throwAllOut yX4_throwAllOut, Cond.code yX4_throwAllOut cX4_throwAllOut 2 (some .int), Cond.methodLink RX4 125 yX2_loseAll]
def wsX4_adjust_r4 : List Cond := [Cond.instanceMethod yX2_loseAll, Cond.selects RX2 yX2_loseAll yX2_loseAll, Cond.code yX2_loseAll cX2_loseAll 3 (some .int), Cond.methodLink RX2 29 yX2_size, Cond.instanceMethod yX2_size, Cond.selects RX2 yX2_size yX2_size, Cond.code yX2_size cX2_size 3 (some .int)]
def wsX4_adjust : List Cond := .code yX4_adjust cX4_adjust 3 (some .int) :: ((wsX4_adjust_r1 ++ (wsX4_adjust_r2 ++ (wsX4_adjust_r3 ++ wsX4_adjust_r4))) ++ wsX40 ++ wsX20 ++ wsX00 ++ wsX50)
def wsX4_totalByAnswers : List Cond := .code yX4_totalByAnswers cX4_totalByAnswers 3 (some .int) :: ([.fieldLink RX4 12 "LoopMemo$State" "outer" "LLoopMemo$Table;", .fieldLink RX4 24 "LoopMemo$State" "answers" "LLoopMemo$Answers;", .methodLink RX4 93 yX5_size, .instanceMethod yX5_size, .selects RX5 yX5_size yX5_size, .initialized RX5, .code yX5_size cX5_size 1 (some .int), .fieldLink RX5 22 "LoopMemo$Table" "size" "I", .methodLink RX4 79 yX5_value, .instanceMethod yX5_value, .selects RX5 yX5_value yX5_value, .code yX5_value cX5_value 2 (some .int), .fieldLink RX5 15 "LoopMemo$Table" "values" "[I", .methodLink RX4 71 yX5_key, .instanceMethod yX5_key, .selects RX5 yX5_key yX5_key, .code yX5_key cX5_key 2 (some .int), .fieldLink RX5 9 "LoopMemo$Table" "keys" "[I", .methodLink RX4 122 yX0_sum, .instanceMethod yX0_sum, .selects RX0 yX0_sum yX0_sum, .initialized RX0, .code yX0_sum cX0_sum 2 (some .int), .fieldLink RX0 15 "LoopMemo$Answers" "sums" "[I"] ++ wsX40 ++ wsX50 ++ wsX00)
def wsX4_totalByRows : List Cond := .code yX4_totalByRows cX4_totalByRows 4 (some .int) :: ([.fieldLink RX4 12 "LoopMemo$State" "outer" "LLoopMemo$Table;", .fieldLink RX4 18 "LoopMemo$State" "inner" "LLoopMemo$Table;", .methodLink RX4 93 yX5_size, .instanceMethod yX5_size, .selects RX5 yX5_size yX5_size, .initialized RX5, .code yX5_size cX5_size 1 (some .int), .fieldLink RX5 22 "LoopMemo$Table" "size" "I", .methodLink RX4 71 yX5_key, .instanceMethod yX5_key, .selects RX5 yX5_key yX5_key, .code yX5_key cX5_key 2 (some .int), .fieldLink RX5 9 "LoopMemo$Table" "keys" "[I", .methodLink RX4 79 yX5_value, .instanceMethod yX5_value, .selects RX5 yX5_value yX5_value, .code yX5_value cX5_value 2 (some .int), .fieldLink RX5 15 "LoopMemo$Table" "values" "[I", .methodLink RX4 82 yX4_isInBand, .instanceMethod yX4_isInBand, .selects RX4 yX4_isInBand yX4_isInBand, .initialized RX4, .code yX4_isInBand cX4_isInBand 2 (some .boolean), .fieldLink RX4 44 "LoopMemo$State" "settings" "[I"] ++ wsX40 ++ wsX50)
def wsX6_init_r1 : List Cond := [Cond.methodLink RX6 1 objectInit, Cond.instanceMethod objectInit, Cond.code objectInit ⟨#[0xb1]⟩ 1 none, Cond.classLink RX6 7 RX4, Cond.instantiable RX4 8, Cond.initialized RX4, Cond.fieldLink RX6 10 "LoopMemo" "now" "LLoopMemo$State;", Cond.fieldLink RX6 16 "LoopMemo" "trial" "LLoopMemo$State;", Cond.fieldLink RX6 19 "LoopMemo" "snapshot" "LLoopMemo$State;", Cond.classLink RX6 22 RX1, Cond.instantiable RX1 3, Cond.initialized RX1, Cond.fieldLink RX6 25 "LoopMemo" "history" "LLoopMemo$History;", Cond.classLink RX6 29 RX3, Cond.instantiable RX3 9, Cond.initialized RX3, Cond.fieldLink RX6 32 "LoopMemo" "pad" "LLoopMemo$Pad;", Cond.methodLink RX6 9 yX4_init, Cond.instanceMethod yX4_init, Cond.code yX4_init cX4_init 1 none, Cond.methodLink RX4 3 objectInit, Cond.classLink RX4 9 RX5, Cond.instantiable RX5 3, Cond.initialized RX5]
def wsX6_init_r2 : List Cond := [Cond.fieldLink RX4 12 "LoopMemo$State" "outer" "LLoopMemo$Table;", Cond.fieldLink RX4 18 "LoopMemo$State" "inner" "LLoopMemo$Table;", Cond.classLink RX4 21 RX0, Cond.instantiable RX0 3, Cond.initialized RX0, Cond.fieldLink RX4 24 "LoopMemo$State" "answers" "LLoopMemo$Answers;", Cond.classLink RX4 28 RX2, Cond.instantiable RX2 4, Cond.initialized RX2, Cond.fieldLink RX4 31 "LoopMemo$State" "memo" "LLoopMemo$Memo;", Cond.fieldLink RX4 35 "LoopMemo$State" "FIRST_SETTINGS" "[I", Cond.methodLink RX4 39 ⟨"[I", "clone", "()Ljava/lang/Object;"⟩, Cond.sameMethod "[I" "java/lang/Object" "clone" "()Ljava/lang/Object;", Cond.native ⟨"java/lang/Object", "clone", "()Ljava/lang/Object;"⟩, Cond.instanceMethod ⟨"java/lang/Object", "clone", "()Ljava/lang/Object;"⟩, Cond.selects "[I" ⟨"[I", "clone", "()Ljava/lang/Object;"⟩ ⟨"java/lang/Object", "clone", "()Ljava/lang/Object;"⟩, Cond.classLink RX4 40 "[I", Cond.fieldLink RX4 44 "LoopMemo$State" "settings" "[I", Cond.arrayClass .int, Cond.fieldLink RX4 47 "LoopMemo$State" "tallies" "[I", Cond.methodLink RX4 11 yX5_init, Cond.instanceMethod yX5_init, Cond.code yX5_init cX5_init 1 none, Cond.methodLink RX5 3 objectInit]
def wsX6_init_r3 : List Cond := [Cond.fieldLink RX5 9 "LoopMemo$Table" "keys" "[I", Cond.fieldLink RX5 15 "LoopMemo$Table" "values" "[I", Cond.methodLink RX4 23 yX0_init, Cond.instanceMethod yX0_init, Cond.code yX0_init cX0_init 1 none, Cond.methodLink RX0 3 objectInit, Cond.fieldLink RX0 9 "LoopMemo$Answers" "rows" "[I", Cond.fieldLink RX0 15 "LoopMemo$Answers" "sums" "[I", Cond.fieldLink RX0 18 "LoopMemo$Answers" "firstRows" "[I", Cond.methodLink RX4 30 yX2_init, Cond.instanceMethod yX2_init, Cond.code yX2_init cX2_init 1 none, Cond.methodLink RX2 3 objectInit, Cond.fieldLink RX2 9 "LoopMemo$Memo" "uses" "[I", Cond.fieldLink RX2 15 "LoopMemo$Memo" "lastLooks" "[I", Cond.fieldLink RX2 18 "LoopMemo$Memo" "firstLooks" "[I", Cond.methodLink RX6 24 yX1_init, Cond.instanceMethod yX1_init, Cond.code yX1_init cX1_init 2 none, Cond.methodLink RX1 3 objectInit, Cond.classLink RX1 11 RX4, Cond.fieldLink RX1 13 "LoopMemo$History" "slots" "[LLoopMemo$State;", Cond.methodLink RX1 17 yX4_init, Cond.methodLink RX6 31 yX3_init]
def wsX6_init_r4 : List Cond := [Cond.instanceMethod yX3_init, Cond.code yX3_init cX3_init 1 none, Cond.methodLink RX3 3 objectInit, Cond.fieldLink RX3 9 "LoopMemo$Pad" "codes" "[I"]
def wsX6_init : List Cond := .code yX6_init cX6_init 1 none :: ((wsX6_init_r1 ++ (wsX6_init_r2 ++ (wsX6_init_r3 ++ wsX6_init_r4))) ++ wsX40 ++ wsX60 ++ wsX10 ++ wsX30 ++ wsX50 ++ wsX00 ++ wsX20)
def wsX6_add_r1 : List Cond := [Cond.fieldLink RX6 25 "LoopMemo" "history" "LLoopMemo$History;", Cond.fieldLink RX6 10 "LoopMemo" "now" "LLoopMemo$State;", Cond.methodLink RX6 36 yX1_prepare, Cond.instanceMethod yX1_prepare, Cond.selects RX1 yX1_prepare yX1_prepare, Cond.initialized RX1, Cond.code yX1_prepare cX1_prepare 3 none, Cond.fieldLink RX1 22 "LoopMemo$History" "next" "I", Cond.methodLink RX1 25 yX1_slot, Cond.instanceMethod yX1_slot, Cond.selects RX1 yX1_slot yX1_slot, Cond.code yX1_slot cX1_slot 2 (some (.object "LoopMemo$State")), Cond.fieldLink RX1 13 "LoopMemo$History" "slots" "[LLoopMemo$State;", Cond.methodLink RX1 29 yX4_copyFrom, Cond.instanceMethod yX4_copyFrom, Cond.selects RX4 yX4_copyFrom yX4_copyFrom, Cond.initialized RX4, Cond.code yX4_copyFrom cX4_copyFrom 2 none, Cond.fieldLink RX4 12 "LoopMemo$State" "outer" "LLoopMemo$Table;", Cond.fieldLink RX4 18 "LoopMemo$State" "inner" "LLoopMemo$Table;", Cond.fieldLink RX4 24 "LoopMemo$State" "answers" "LLoopMemo$Answers;", Cond.fieldLink RX4 31 "LoopMemo$State" "memo" "LLoopMemo$Memo;", Cond.fieldLink RX4 44 "LoopMemo$State" "settings" "[I", Cond.fieldLink RX4 47 "LoopMemo$State" "tallies" "[I"]
def wsX6_add_r2 : List Cond := [Cond.fieldLink RX4 64 "LoopMemo$State" "place" "I", Cond.fieldLink RX4 68 "LoopMemo$State" "total" "I", Cond.methodLink RX4 50 yX5_copyFrom, Cond.instanceMethod yX5_copyFrom, Cond.selects RX5 yX5_copyFrom yX5_copyFrom, Cond.initialized RX5, Cond.code yX5_copyFrom cX5_copyFrom 2 none, Cond.fieldLink RX5 9 "LoopMemo$Table" "keys" "[I", Cond.fieldLink RX5 15 "LoopMemo$Table" "values" "[I", Cond.fieldLink RX5 22 "LoopMemo$Table" "size" "I", Cond.static yX6_copyNumbers, Cond.initialized RX6, Cond.code yX6_copyNumbers cX6_copyNumbers 2 none, Cond.methodLink RX6 117 Lib.Math.min.name, Cond.static Lib.Math.min.name, Cond.initialized "java/lang/Math", Cond.code Lib.Math.min.name Lib.Math.min.code 2 (some .int), Cond.methodLink RX6 225 arraycopyName, Cond.native arraycopyName, Cond.static arraycopyName, Cond.initialized "java/lang/System", Cond.methodLink RX4 54 yX0_copyFrom, Cond.instanceMethod yX0_copyFrom, Cond.selects RX0 yX0_copyFrom yX0_copyFrom]
def wsX6_add_r3 : List Cond := [Cond.initialized RX0, Cond.code yX0_copyFrom cX0_copyFrom 2 none, Cond.fieldLink RX0 9 "LoopMemo$Answers" "rows" "[I", Cond.fieldLink RX0 15 "LoopMemo$Answers" "sums" "[I", Cond.fieldLink RX0 18 "LoopMemo$Answers" "firstRows" "[I", Cond.methodLink RX4 57 yX2_copyFrom, Cond.instanceMethod yX2_copyFrom, Cond.selects RX2 yX2_copyFrom yX2_copyFrom, Cond.initialized RX2, Cond.code yX2_copyFrom cX2_copyFrom 2 none, Cond.fieldLink RX2 9 "LoopMemo$Memo" "uses" "[I", Cond.fieldLink RX2 15 "LoopMemo$Memo" "lastLooks" "[I", Cond.fieldLink RX2 18 "LoopMemo$Memo" "firstLooks" "[I", Cond.fieldLink RX2 25 "LoopMemo$Memo" "looks" "I", Cond.methodLink RX6 40 yX4_insertRow, Cond.instanceMethod yX4_insertRow, Cond.selects RX4 yX4_insertRow yX4_insertRow, Cond.code yX4_insertRow cX4_insertRow 5 (some .int), Cond.static yX6_isRow, Cond.code yX6_isRow cX6_isRow 2 (some .boolean), Cond.methodLink RX6 147 yX6_isKey, Cond.static yX6_isKey, Cond.code yX6_isKey cX6_isKey 1 (some .boolean), Cond.methodLink RX6 76 yX6_isWithin]
def wsX6_add_r4 : List Cond := [Cond.static yX6_isWithin, Cond.code yX6_isWithin cX6_isWithin 2 (some .boolean), Cond.methodLink RX4 89 yX4_table, Cond.instanceMethod yX4_table, Cond.selects RX4 yX4_table yX4_table, Cond.code yX4_table cX4_table 2 (some (.object "LoopMemo$Table")), Cond.methodLink RX4 93 yX5_size, Cond.instanceMethod yX5_size, Cond.selects RX5 yX5_size yX5_size, Cond.code yX5_size cX5_size 1 (some .int), Cond.methodLink RX4 97 yX5_push, Cond.instanceMethod yX5_push, Cond.selects RX5 yX5_push yX5_push, Cond.code yX5_push cX5_push 3 none, Cond.methodLink RX5 26 yX5_put, Cond.instanceMethod yX5_put, Cond.selects RX5 yX5_put yX5_put, Cond.code yX5_put cX5_put 4 none, Cond.methodLink RX4 101 yX4_keepTrue, Cond.instanceMethod yX4_keepTrue, Cond.selects RX4 yX4_keepTrue yX4_keepTrue, Cond.code yX4_keepTrue cX4_keepTrue 3 none, Cond.methodLink RX4 134 yX4_findAnswers, Cond.instanceMethod yX4_findAnswers]
def wsX6_add_r5 : List Cond := [Cond.selects RX4 yX4_findAnswers yX4_findAnswers, Cond.code yX4_findAnswers cX4_findAnswers 1 none, Cond.methodLink RX4 162 yX0_find, Cond.instanceMethod yX0_find, Cond.selects RX0 yX0_find yX0_find, Cond.code yX0_find cX0_find 7 none, Cond.methodLink RX0 25 yX5_size, Cond.methodLink RX0 31 yX5_value, Cond.instanceMethod yX5_value, Cond.selects RX5 yX5_value yX5_value, Cond.code yX5_value cX5_value 2 (some .int), Cond.methodLink RX0 35 yX5_key, Cond.instanceMethod yX5_key, Cond.selects RX5 yX5_key yX5_key, Cond.code yX5_key cX5_key 2 (some .int), Cond.methodLink RX4 137 yX4_throwAllOut, Cond.instanceMethod yX4_throwAllOut, Cond.selects RX4 yX4_throwAllOut yX4_throwAllOut, Cond.code yX4_throwAllOut cX4_throwAllOut 2 (some .int), Cond.methodLink RX4 125 yX2_loseAll, Cond.instanceMethod yX2_loseAll, Cond.selects RX2 yX2_loseAll yX2_loseAll, Cond.code yX2_loseAll cX2_loseAll 3 (some .int), Cond.methodLink RX2 29 yX2_size]
def wsX6_add_r6 : List Cond := [Cond.instanceMethod yX2_size, Cond.selects RX2 yX2_size yX2_size, Cond.code yX2_size cX2_size 3 (some .int), Cond.methodLink RX4 159 yX4_keepAnswerTrue, Cond.instanceMethod yX4_keepAnswerTrue, Cond.selects RX4 yX4_keepAnswerTrue yX4_keepAnswerTrue, Cond.code yX4_keepAnswerTrue cX4_keepAnswerTrue 2 none, Cond.methodLink RX4 75 yX2_holds, Cond.instanceMethod yX2_holds, Cond.selects RX2 yX2_holds yX2_holds, Cond.code yX2_holds cX2_holds 2 (some .boolean), Cond.methodLink RX4 156 yX2_lose, Cond.instanceMethod yX2_lose, Cond.selects RX2 yX2_lose yX2_lose, Cond.code yX2_lose cX2_lose 2 none, Cond.methodLink RX6 44 yX1_commit, Cond.instanceMethod yX1_commit, Cond.selects RX1 yX1_commit yX1_commit, Cond.code yX1_commit cX1_commit 2 (some .int), Cond.fieldLink RX1 18 "LoopMemo$History" "size" "I", Cond.methodLink RX1 33 Lib.Math.min.name]
def wsX6_add : List Cond := .code yX6_add cX6_add 4 (some .int) :: ((wsX6_add_r1 ++ (wsX6_add_r2 ++ (wsX6_add_r3 ++ (wsX6_add_r4 ++ (wsX6_add_r5 ++ wsX6_add_r6))))) ++ wsX60 ++ wsX10 ++ wsX40 ++ wsX50 ++ wsX00 ++ wsX20)
def wsX6_drop_r1 : List Cond := [Cond.fieldLink RX6 25 "LoopMemo" "history" "LLoopMemo$History;", Cond.fieldLink RX6 10 "LoopMemo" "now" "LLoopMemo$State;", Cond.methodLink RX6 36 yX1_prepare, Cond.instanceMethod yX1_prepare, Cond.selects RX1 yX1_prepare yX1_prepare, Cond.initialized RX1, Cond.code yX1_prepare cX1_prepare 3 none, Cond.fieldLink RX1 22 "LoopMemo$History" "next" "I", Cond.methodLink RX1 25 yX1_slot, Cond.instanceMethod yX1_slot, Cond.selects RX1 yX1_slot yX1_slot, Cond.code yX1_slot cX1_slot 2 (some (.object "LoopMemo$State")), Cond.fieldLink RX1 13 "LoopMemo$History" "slots" "[LLoopMemo$State;", Cond.methodLink RX1 29 yX4_copyFrom, Cond.instanceMethod yX4_copyFrom, Cond.selects RX4 yX4_copyFrom yX4_copyFrom, Cond.initialized RX4, Cond.code yX4_copyFrom cX4_copyFrom 2 none, Cond.fieldLink RX4 12 "LoopMemo$State" "outer" "LLoopMemo$Table;", Cond.fieldLink RX4 18 "LoopMemo$State" "inner" "LLoopMemo$Table;", Cond.fieldLink RX4 24 "LoopMemo$State" "answers" "LLoopMemo$Answers;", Cond.fieldLink RX4 31 "LoopMemo$State" "memo" "LLoopMemo$Memo;", Cond.fieldLink RX4 44 "LoopMemo$State" "settings" "[I", Cond.fieldLink RX4 47 "LoopMemo$State" "tallies" "[I"]
def wsX6_drop_r2 : List Cond := [Cond.fieldLink RX4 64 "LoopMemo$State" "place" "I", Cond.fieldLink RX4 68 "LoopMemo$State" "total" "I", Cond.methodLink RX4 50 yX5_copyFrom, Cond.instanceMethod yX5_copyFrom, Cond.selects RX5 yX5_copyFrom yX5_copyFrom, Cond.initialized RX5, Cond.code yX5_copyFrom cX5_copyFrom 2 none, Cond.fieldLink RX5 9 "LoopMemo$Table" "keys" "[I", Cond.fieldLink RX5 15 "LoopMemo$Table" "values" "[I", Cond.fieldLink RX5 22 "LoopMemo$Table" "size" "I", Cond.static yX6_copyNumbers, Cond.initialized RX6, Cond.code yX6_copyNumbers cX6_copyNumbers 2 none, Cond.methodLink RX6 117 Lib.Math.min.name, Cond.static Lib.Math.min.name, Cond.initialized "java/lang/Math", Cond.code Lib.Math.min.name Lib.Math.min.code 2 (some .int), Cond.methodLink RX6 225 arraycopyName, Cond.native arraycopyName, Cond.static arraycopyName, Cond.initialized "java/lang/System", Cond.methodLink RX4 54 yX0_copyFrom, Cond.instanceMethod yX0_copyFrom, Cond.selects RX0 yX0_copyFrom yX0_copyFrom]
def wsX6_drop_r3 : List Cond := [Cond.initialized RX0, Cond.code yX0_copyFrom cX0_copyFrom 2 none, Cond.fieldLink RX0 9 "LoopMemo$Answers" "rows" "[I", Cond.fieldLink RX0 15 "LoopMemo$Answers" "sums" "[I", Cond.fieldLink RX0 18 "LoopMemo$Answers" "firstRows" "[I", Cond.methodLink RX4 57 yX2_copyFrom, Cond.instanceMethod yX2_copyFrom, Cond.selects RX2 yX2_copyFrom yX2_copyFrom, Cond.initialized RX2, Cond.code yX2_copyFrom cX2_copyFrom 2 none, Cond.fieldLink RX2 9 "LoopMemo$Memo" "uses" "[I", Cond.fieldLink RX2 15 "LoopMemo$Memo" "lastLooks" "[I", Cond.fieldLink RX2 18 "LoopMemo$Memo" "firstLooks" "[I", Cond.fieldLink RX2 25 "LoopMemo$Memo" "looks" "I", Cond.methodLink RX6 48 yX4_removeRow, Cond.instanceMethod yX4_removeRow, Cond.selects RX4 yX4_removeRow yX4_removeRow, Cond.code yX4_removeRow cX4_removeRow 5 (some .int), Cond.methodLink RX4 89 yX4_table, Cond.instanceMethod yX4_table, Cond.selects RX4 yX4_table yX4_table, Cond.code yX4_table cX4_table 2 (some (.object "LoopMemo$Table")), Cond.methodLink RX4 104 yX5_has, Cond.instanceMethod yX5_has]
def wsX6_drop_r4 : List Cond := [Cond.selects RX5 yX5_has yX5_has, Cond.code yX5_has cX5_has 2 (some .boolean), Cond.methodLink RX4 71 yX5_key, Cond.instanceMethod yX5_key, Cond.selects RX5 yX5_key yX5_key, Cond.code yX5_key cX5_key 2 (some .int), Cond.methodLink RX4 107 yX5_takeOut, Cond.instanceMethod yX5_takeOut, Cond.selects RX5 yX5_takeOut yX5_takeOut, Cond.code yX5_takeOut cX5_takeOut 3 none, Cond.methodLink RX5 30 yX5_has, Cond.methodLink RX5 34 yX5_key, Cond.methodLink RX5 38 yX5_value, Cond.instanceMethod yX5_value, Cond.selects RX5 yX5_value yX5_value, Cond.code yX5_value cX5_value 2 (some .int), Cond.methodLink RX5 26 yX5_put, Cond.instanceMethod yX5_put, Cond.selects RX5 yX5_put yX5_put, Cond.code yX5_put cX5_put 4 none, Cond.methodLink RX4 101 yX4_keepTrue, Cond.instanceMethod yX4_keepTrue, Cond.selects RX4 yX4_keepTrue yX4_keepTrue, Cond.code yX4_keepTrue cX4_keepTrue 3 none]
def wsX6_drop_r5 : List Cond := [Cond.methodLink RX4 134 yX4_findAnswers, Cond.instanceMethod yX4_findAnswers, Cond.selects RX4 yX4_findAnswers yX4_findAnswers, Cond.code yX4_findAnswers cX4_findAnswers 1 none, Cond.methodLink RX4 162 yX0_find, Cond.instanceMethod yX0_find, Cond.selects RX0 yX0_find yX0_find, Cond.code yX0_find cX0_find 7 none, Cond.methodLink RX0 25 yX5_size, Cond.instanceMethod yX5_size, Cond.selects RX5 yX5_size yX5_size, Cond.code yX5_size cX5_size 1 (some .int), Cond.methodLink RX0 31 yX5_value, Cond.methodLink RX0 35 yX5_key, Cond.methodLink RX4 137 yX4_throwAllOut, Cond.instanceMethod yX4_throwAllOut, Cond.selects RX4 yX4_throwAllOut yX4_throwAllOut, Cond.code yX4_throwAllOut cX4_throwAllOut 2 (some .int), Cond.methodLink RX4 125 yX2_loseAll, Cond.instanceMethod yX2_loseAll, Cond.selects RX2 yX2_loseAll yX2_loseAll, Cond.code yX2_loseAll cX2_loseAll 3 (some .int), Cond.methodLink RX2 29 yX2_size, Cond.instanceMethod yX2_size]
def wsX6_drop_r6 : List Cond := [Cond.selects RX2 yX2_size yX2_size, Cond.code yX2_size cX2_size 3 (some .int), Cond.methodLink RX4 159 yX4_keepAnswerTrue, Cond.instanceMethod yX4_keepAnswerTrue, Cond.selects RX4 yX4_keepAnswerTrue yX4_keepAnswerTrue, Cond.code yX4_keepAnswerTrue cX4_keepAnswerTrue 2 none, Cond.methodLink RX4 75 yX2_holds, Cond.instanceMethod yX2_holds, Cond.selects RX2 yX2_holds yX2_holds, Cond.code yX2_holds cX2_holds 2 (some .boolean), Cond.methodLink RX4 156 yX2_lose, Cond.instanceMethod yX2_lose, Cond.selects RX2 yX2_lose yX2_lose, Cond.code yX2_lose cX2_lose 2 none, Cond.methodLink RX4 111 yX4_isDone, Cond.instanceMethod yX4_isDone, Cond.selects RX4 yX4_isDone yX4_isDone, Cond.code yX4_isDone cX4_isDone 2 (some .boolean), Cond.methodLink RX4 93 yX5_size, Cond.methodLink RX6 44 yX1_commit, Cond.instanceMethod yX1_commit, Cond.selects RX1 yX1_commit yX1_commit, Cond.code yX1_commit cX1_commit 2 (some .int), Cond.fieldLink RX1 18 "LoopMemo$History" "size" "I"]
def wsX6_drop_r7 : List Cond := [Cond.methodLink RX1 33 Lib.Math.min.name]
def wsX6_drop : List Cond := .code yX6_drop cX6_drop 3 (some .int) :: ((wsX6_drop_r1 ++ (wsX6_drop_r2 ++ (wsX6_drop_r3 ++ (wsX6_drop_r4 ++ (wsX6_drop_r5 ++ (wsX6_drop_r6 ++ wsX6_drop_r7)))))) ++ wsX60 ++ wsX10 ++ wsX40 ++ wsX50 ++ wsX00 ++ wsX20)
def wsX6_change_r1 : List Cond := [Cond.fieldLink RX6 25 "LoopMemo" "history" "LLoopMemo$History;", Cond.fieldLink RX6 10 "LoopMemo" "now" "LLoopMemo$State;", Cond.methodLink RX6 36 yX1_prepare, Cond.instanceMethod yX1_prepare, Cond.selects RX1 yX1_prepare yX1_prepare, Cond.initialized RX1, Cond.code yX1_prepare cX1_prepare 3 none, Cond.fieldLink RX1 22 "LoopMemo$History" "next" "I", Cond.methodLink RX1 25 yX1_slot, Cond.instanceMethod yX1_slot, Cond.selects RX1 yX1_slot yX1_slot, Cond.code yX1_slot cX1_slot 2 (some (.object "LoopMemo$State")), Cond.fieldLink RX1 13 "LoopMemo$History" "slots" "[LLoopMemo$State;", Cond.methodLink RX1 29 yX4_copyFrom, Cond.instanceMethod yX4_copyFrom, Cond.selects RX4 yX4_copyFrom yX4_copyFrom, Cond.initialized RX4, Cond.code yX4_copyFrom cX4_copyFrom 2 none, Cond.fieldLink RX4 12 "LoopMemo$State" "outer" "LLoopMemo$Table;", Cond.fieldLink RX4 18 "LoopMemo$State" "inner" "LLoopMemo$Table;", Cond.fieldLink RX4 24 "LoopMemo$State" "answers" "LLoopMemo$Answers;", Cond.fieldLink RX4 31 "LoopMemo$State" "memo" "LLoopMemo$Memo;", Cond.fieldLink RX4 44 "LoopMemo$State" "settings" "[I", Cond.fieldLink RX4 47 "LoopMemo$State" "tallies" "[I"]
def wsX6_change_r2 : List Cond := [Cond.fieldLink RX4 64 "LoopMemo$State" "place" "I", Cond.fieldLink RX4 68 "LoopMemo$State" "total" "I", Cond.methodLink RX4 50 yX5_copyFrom, Cond.instanceMethod yX5_copyFrom, Cond.selects RX5 yX5_copyFrom yX5_copyFrom, Cond.initialized RX5, Cond.code yX5_copyFrom cX5_copyFrom 2 none, Cond.fieldLink RX5 9 "LoopMemo$Table" "keys" "[I", Cond.fieldLink RX5 15 "LoopMemo$Table" "values" "[I", Cond.fieldLink RX5 22 "LoopMemo$Table" "size" "I", Cond.static yX6_copyNumbers, Cond.initialized RX6, Cond.code yX6_copyNumbers cX6_copyNumbers 2 none, Cond.methodLink RX6 117 Lib.Math.min.name, Cond.static Lib.Math.min.name, Cond.initialized "java/lang/Math", Cond.code Lib.Math.min.name Lib.Math.min.code 2 (some .int), Cond.methodLink RX6 225 arraycopyName, Cond.native arraycopyName, Cond.static arraycopyName, Cond.initialized "java/lang/System", Cond.methodLink RX4 54 yX0_copyFrom, Cond.instanceMethod yX0_copyFrom, Cond.selects RX0 yX0_copyFrom yX0_copyFrom]
def wsX6_change_r3 : List Cond := [Cond.initialized RX0, Cond.code yX0_copyFrom cX0_copyFrom 2 none, Cond.fieldLink RX0 9 "LoopMemo$Answers" "rows" "[I", Cond.fieldLink RX0 15 "LoopMemo$Answers" "sums" "[I", Cond.fieldLink RX0 18 "LoopMemo$Answers" "firstRows" "[I", Cond.methodLink RX4 57 yX2_copyFrom, Cond.instanceMethod yX2_copyFrom, Cond.selects RX2 yX2_copyFrom yX2_copyFrom, Cond.initialized RX2, Cond.code yX2_copyFrom cX2_copyFrom 2 none, Cond.fieldLink RX2 9 "LoopMemo$Memo" "uses" "[I", Cond.fieldLink RX2 15 "LoopMemo$Memo" "lastLooks" "[I", Cond.fieldLink RX2 18 "LoopMemo$Memo" "firstLooks" "[I", Cond.fieldLink RX2 25 "LoopMemo$Memo" "looks" "I", Cond.methodLink RX6 52 yX4_rewriteRow, Cond.instanceMethod yX4_rewriteRow, Cond.selects RX4 yX4_rewriteRow yX4_rewriteRow, Cond.code yX4_rewriteRow cX4_rewriteRow 5 (some .int), Cond.methodLink RX4 104 yX5_has, Cond.instanceMethod yX5_has, Cond.selects RX5 yX5_has yX5_has, Cond.code yX5_has cX5_has 2 (some .boolean), Cond.static yX6_isRow, Cond.code yX6_isRow cX6_isRow 2 (some .boolean)]
def wsX6_change_r4 : List Cond := [Cond.methodLink RX6 147 yX6_isKey, Cond.static yX6_isKey, Cond.code yX6_isKey cX6_isKey 1 (some .boolean), Cond.methodLink RX6 76 yX6_isWithin, Cond.static yX6_isWithin, Cond.code yX6_isWithin cX6_isWithin 2 (some .boolean), Cond.methodLink RX4 71 yX5_key, Cond.instanceMethod yX5_key, Cond.selects RX5 yX5_key yX5_key, Cond.code yX5_key cX5_key 2 (some .int), Cond.methodLink RX4 114 yX5_put, Cond.instanceMethod yX5_put, Cond.selects RX5 yX5_put yX5_put, Cond.code yX5_put cX5_put 4 none, Cond.methodLink RX4 101 yX4_keepTrue, Cond.instanceMethod yX4_keepTrue, Cond.selects RX4 yX4_keepTrue yX4_keepTrue, Cond.code yX4_keepTrue cX4_keepTrue 3 none, Cond.methodLink RX4 134 yX4_findAnswers, Cond.instanceMethod yX4_findAnswers, Cond.selects RX4 yX4_findAnswers yX4_findAnswers, Cond.code yX4_findAnswers cX4_findAnswers 1 none, Cond.methodLink RX4 162 yX0_find, Cond.instanceMethod yX0_find]
def wsX6_change_r5 : List Cond := [Cond.selects RX0 yX0_find yX0_find, Cond.code yX0_find cX0_find 7 none, Cond.methodLink RX0 25 yX5_size, Cond.instanceMethod yX5_size, Cond.selects RX5 yX5_size yX5_size, Cond.code yX5_size cX5_size 1 (some .int), Cond.methodLink RX0 31 yX5_value, Cond.instanceMethod yX5_value, Cond.selects RX5 yX5_value yX5_value, Cond.code yX5_value cX5_value 2 (some .int), Cond.methodLink RX0 35 yX5_key, Cond.methodLink RX4 137 yX4_throwAllOut, Cond.instanceMethod yX4_throwAllOut, Cond.selects RX4 yX4_throwAllOut yX4_throwAllOut, Cond.code yX4_throwAllOut cX4_throwAllOut 2 (some .int), Cond.methodLink RX4 125 yX2_loseAll, Cond.instanceMethod yX2_loseAll, Cond.selects RX2 yX2_loseAll yX2_loseAll, Cond.code yX2_loseAll cX2_loseAll 3 (some .int), Cond.methodLink RX2 29 yX2_size, Cond.instanceMethod yX2_size, Cond.selects RX2 yX2_size yX2_size, Cond.code yX2_size cX2_size 3 (some .int), Cond.methodLink RX4 159 yX4_keepAnswerTrue]
def wsX6_change_r6 : List Cond := [Cond.instanceMethod yX4_keepAnswerTrue, Cond.selects RX4 yX4_keepAnswerTrue yX4_keepAnswerTrue, Cond.code yX4_keepAnswerTrue cX4_keepAnswerTrue 2 none, Cond.methodLink RX4 75 yX2_holds, Cond.instanceMethod yX2_holds, Cond.selects RX2 yX2_holds yX2_holds, Cond.code yX2_holds cX2_holds 2 (some .boolean), Cond.methodLink RX4 156 yX2_lose, Cond.instanceMethod yX2_lose, Cond.selects RX2 yX2_lose yX2_lose, Cond.code yX2_lose cX2_lose 2 none, Cond.methodLink RX4 118 yX2_size, Cond.methodLink RX6 44 yX1_commit, Cond.instanceMethod yX1_commit, Cond.selects RX1 yX1_commit yX1_commit, Cond.code yX1_commit cX1_commit 2 (some .int), Cond.fieldLink RX1 18 "LoopMemo$History" "size" "I", Cond.methodLink RX1 33 Lib.Math.min.name]
def wsX6_change : List Cond := .code yX6_change cX6_change 4 (some .int) :: ((wsX6_change_r1 ++ (wsX6_change_r2 ++ (wsX6_change_r3 ++ (wsX6_change_r4 ++ (wsX6_change_r5 ++ wsX6_change_r6))))) ++ wsX60 ++ wsX10 ++ wsX40 ++ wsX50 ++ wsX00 ++ wsX20)
def wsX6_step_r1 : List Cond := [Cond.fieldLink RX6 25 "LoopMemo" "history" "LLoopMemo$History;", Cond.fieldLink RX6 10 "LoopMemo" "now" "LLoopMemo$State;", Cond.methodLink RX6 36 yX1_prepare, Cond.instanceMethod yX1_prepare, Cond.selects RX1 yX1_prepare yX1_prepare, Cond.initialized RX1, Cond.code yX1_prepare cX1_prepare 3 none, Cond.fieldLink RX1 22 "LoopMemo$History" "next" "I", Cond.methodLink RX1 25 yX1_slot, Cond.instanceMethod yX1_slot, Cond.selects RX1 yX1_slot yX1_slot, Cond.code yX1_slot cX1_slot 2 (some (.object "LoopMemo$State")), Cond.fieldLink RX1 13 "LoopMemo$History" "slots" "[LLoopMemo$State;", Cond.methodLink RX1 29 yX4_copyFrom, Cond.instanceMethod yX4_copyFrom, Cond.selects RX4 yX4_copyFrom yX4_copyFrom, Cond.initialized RX4, Cond.code yX4_copyFrom cX4_copyFrom 2 none, Cond.fieldLink RX4 12 "LoopMemo$State" "outer" "LLoopMemo$Table;", Cond.fieldLink RX4 18 "LoopMemo$State" "inner" "LLoopMemo$Table;", Cond.fieldLink RX4 24 "LoopMemo$State" "answers" "LLoopMemo$Answers;", Cond.fieldLink RX4 31 "LoopMemo$State" "memo" "LLoopMemo$Memo;", Cond.fieldLink RX4 44 "LoopMemo$State" "settings" "[I", Cond.fieldLink RX4 47 "LoopMemo$State" "tallies" "[I"]
def wsX6_step_r2 : List Cond := [Cond.fieldLink RX4 64 "LoopMemo$State" "place" "I", Cond.fieldLink RX4 68 "LoopMemo$State" "total" "I", Cond.methodLink RX4 50 yX5_copyFrom, Cond.instanceMethod yX5_copyFrom, Cond.selects RX5 yX5_copyFrom yX5_copyFrom, Cond.initialized RX5, Cond.code yX5_copyFrom cX5_copyFrom 2 none, Cond.fieldLink RX5 9 "LoopMemo$Table" "keys" "[I", Cond.fieldLink RX5 15 "LoopMemo$Table" "values" "[I", Cond.fieldLink RX5 22 "LoopMemo$Table" "size" "I", Cond.static yX6_copyNumbers, Cond.initialized RX6, Cond.code yX6_copyNumbers cX6_copyNumbers 2 none, Cond.methodLink RX6 117 Lib.Math.min.name, Cond.static Lib.Math.min.name, Cond.initialized "java/lang/Math", Cond.code Lib.Math.min.name Lib.Math.min.code 2 (some .int), Cond.methodLink RX6 225 arraycopyName, Cond.native arraycopyName, Cond.static arraycopyName, Cond.initialized "java/lang/System", Cond.methodLink RX4 54 yX0_copyFrom, Cond.instanceMethod yX0_copyFrom, Cond.selects RX0 yX0_copyFrom yX0_copyFrom]
def wsX6_step_r3 : List Cond := [Cond.initialized RX0, Cond.code yX0_copyFrom cX0_copyFrom 2 none, Cond.fieldLink RX0 9 "LoopMemo$Answers" "rows" "[I", Cond.fieldLink RX0 15 "LoopMemo$Answers" "sums" "[I", Cond.fieldLink RX0 18 "LoopMemo$Answers" "firstRows" "[I", Cond.methodLink RX4 57 yX2_copyFrom, Cond.instanceMethod yX2_copyFrom, Cond.selects RX2 yX2_copyFrom yX2_copyFrom, Cond.initialized RX2, Cond.code yX2_copyFrom cX2_copyFrom 2 none, Cond.fieldLink RX2 9 "LoopMemo$Memo" "uses" "[I", Cond.fieldLink RX2 15 "LoopMemo$Memo" "lastLooks" "[I", Cond.fieldLink RX2 18 "LoopMemo$Memo" "firstLooks" "[I", Cond.fieldLink RX2 25 "LoopMemo$Memo" "looks" "I", Cond.methodLink RX6 56 yX4_walk, Cond.instanceMethod yX4_walk, Cond.selects RX4 yX4_walk yX4_walk, Cond.code yX4_walk cX4_walk 5 (some .int), Cond.methodLink RX4 93 yX5_size, Cond.instanceMethod yX5_size, Cond.selects RX5 yX5_size yX5_size, Cond.code yX5_size cX5_size 1 (some .int), Cond.methodLink RX4 71 yX5_key, Cond.instanceMethod yX5_key]
def wsX6_step_r4 : List Cond := [Cond.selects RX5 yX5_key yX5_key, Cond.code yX5_key cX5_key 2 (some .int), Cond.methodLink RX4 119 yX4_lookUp, Cond.instanceMethod yX4_lookUp, Cond.selects RX4 yX4_lookUp yX4_lookUp, Cond.code yX4_lookUp cX4_lookUp 2 none, Cond.methodLink RX4 75 yX2_holds, Cond.instanceMethod yX2_holds, Cond.selects RX2 yX2_holds yX2_holds, Cond.code yX2_holds cX2_holds 2 (some .boolean), Cond.methodLink RX4 143 yX2_touch, Cond.instanceMethod yX2_touch, Cond.selects RX2 yX2_touch yX2_touch, Cond.code yX2_touch cX2_touch 2 none, Cond.methodLink RX4 140 yX0_weight, Cond.instanceMethod yX0_weight, Cond.selects RX0 yX0_weight yX0_weight, Cond.code yX0_weight cX0_weight 2 (some .int), Cond.methodLink RX4 146 yX2_take, Cond.instanceMethod yX2_take, Cond.selects RX2 yX2_take yX2_take, Cond.code yX2_take cX2_take 2 none, Cond.methodLink RX4 131 yX4_makeRoom, Cond.instanceMethod yX4_makeRoom]
def wsX6_step_r5 : List Cond := [Cond.selects RX4 yX4_makeRoom yX4_makeRoom, Cond.code yX4_makeRoom cX4_makeRoom 5 (some .int), Cond.methodLink RX4 149 yX4_weightTogether, Cond.instanceMethod yX4_weightTogether, Cond.selects RX4 yX4_weightTogether yX4_weightTogether, Cond.code yX4_weightTogether cX4_weightTogether 3 (some .int), Cond.methodLink RX4 152 yX2_firstOut, Cond.instanceMethod yX2_firstOut, Cond.selects RX2 yX2_firstOut yX2_firstOut, Cond.code yX2_firstOut cX2_firstOut 5 (some .int), Cond.methodLink RX2 33 yX2_rank, Cond.instanceMethod yX2_rank, Cond.selects RX2 yX2_rank yX2_rank, Cond.code yX2_rank cX2_rank 3 (some .long), Cond.methodLink RX4 156 yX2_lose, Cond.instanceMethod yX2_lose, Cond.selects RX2 yX2_lose yX2_lose, Cond.code yX2_lose cX2_lose 2 none, Cond.methodLink RX4 79 yX5_value, Cond.instanceMethod yX5_value, Cond.selects RX5 yX5_value yX5_value, Cond.code yX5_value cX5_value 2 (some .int), Cond.methodLink RX4 122 yX0_sum, Cond.instanceMethod yX0_sum]
def wsX6_step_r6 : List Cond := [Cond.selects RX0 yX0_sum yX0_sum, Cond.code yX0_sum cX0_sum 2 (some .int), Cond.methodLink RX6 44 yX1_commit, Cond.instanceMethod yX1_commit, Cond.selects RX1 yX1_commit yX1_commit, Cond.code yX1_commit cX1_commit 2 (some .int), Cond.fieldLink RX1 18 "LoopMemo$History" "size" "I", Cond.methodLink RX1 33 Lib.Math.min.name]
def wsX6_step : List Cond := .code yX6_step cX6_step 2 (some .int) :: ((wsX6_step_r1 ++ (wsX6_step_r2 ++ (wsX6_step_r3 ++ (wsX6_step_r4 ++ (wsX6_step_r5 ++ wsX6_step_r6))))) ++ wsX60 ++ wsX10 ++ wsX40 ++ wsX50 ++ wsX00 ++ wsX20)
def wsX6_again_r1 : List Cond := [Cond.fieldLink RX6 25 "LoopMemo" "history" "LLoopMemo$History;", Cond.fieldLink RX6 10 "LoopMemo" "now" "LLoopMemo$State;", Cond.methodLink RX6 36 yX1_prepare, Cond.instanceMethod yX1_prepare, Cond.selects RX1 yX1_prepare yX1_prepare, Cond.initialized RX1, Cond.code yX1_prepare cX1_prepare 3 none, Cond.fieldLink RX1 22 "LoopMemo$History" "next" "I", Cond.methodLink RX1 25 yX1_slot, Cond.instanceMethod yX1_slot, Cond.selects RX1 yX1_slot yX1_slot, Cond.code yX1_slot cX1_slot 2 (some (.object "LoopMemo$State")), Cond.fieldLink RX1 13 "LoopMemo$History" "slots" "[LLoopMemo$State;", Cond.methodLink RX1 29 yX4_copyFrom, Cond.instanceMethod yX4_copyFrom, Cond.selects RX4 yX4_copyFrom yX4_copyFrom, Cond.initialized RX4, Cond.code yX4_copyFrom cX4_copyFrom 2 none, Cond.fieldLink RX4 12 "LoopMemo$State" "outer" "LLoopMemo$Table;", Cond.fieldLink RX4 18 "LoopMemo$State" "inner" "LLoopMemo$Table;", Cond.fieldLink RX4 24 "LoopMemo$State" "answers" "LLoopMemo$Answers;", Cond.fieldLink RX4 31 "LoopMemo$State" "memo" "LLoopMemo$Memo;", Cond.fieldLink RX4 44 "LoopMemo$State" "settings" "[I", Cond.fieldLink RX4 47 "LoopMemo$State" "tallies" "[I"]
def wsX6_again_r2 : List Cond := [Cond.fieldLink RX4 64 "LoopMemo$State" "place" "I", Cond.fieldLink RX4 68 "LoopMemo$State" "total" "I", Cond.methodLink RX4 50 yX5_copyFrom, Cond.instanceMethod yX5_copyFrom, Cond.selects RX5 yX5_copyFrom yX5_copyFrom, Cond.initialized RX5, Cond.code yX5_copyFrom cX5_copyFrom 2 none, Cond.fieldLink RX5 9 "LoopMemo$Table" "keys" "[I", Cond.fieldLink RX5 15 "LoopMemo$Table" "values" "[I", Cond.fieldLink RX5 22 "LoopMemo$Table" "size" "I", Cond.static yX6_copyNumbers, Cond.initialized RX6, Cond.code yX6_copyNumbers cX6_copyNumbers 2 none, Cond.methodLink RX6 117 Lib.Math.min.name, Cond.static Lib.Math.min.name, Cond.initialized "java/lang/Math", Cond.code Lib.Math.min.name Lib.Math.min.code 2 (some .int), Cond.methodLink RX6 225 arraycopyName, Cond.native arraycopyName, Cond.static arraycopyName, Cond.initialized "java/lang/System", Cond.methodLink RX4 54 yX0_copyFrom, Cond.instanceMethod yX0_copyFrom, Cond.selects RX0 yX0_copyFrom yX0_copyFrom]
def wsX6_again_r3 : List Cond := [Cond.initialized RX0, Cond.code yX0_copyFrom cX0_copyFrom 2 none, Cond.fieldLink RX0 9 "LoopMemo$Answers" "rows" "[I", Cond.fieldLink RX0 15 "LoopMemo$Answers" "sums" "[I", Cond.fieldLink RX0 18 "LoopMemo$Answers" "firstRows" "[I", Cond.methodLink RX4 57 yX2_copyFrom, Cond.instanceMethod yX2_copyFrom, Cond.selects RX2 yX2_copyFrom yX2_copyFrom, Cond.initialized RX2, Cond.code yX2_copyFrom cX2_copyFrom 2 none, Cond.fieldLink RX2 9 "LoopMemo$Memo" "uses" "[I", Cond.fieldLink RX2 15 "LoopMemo$Memo" "lastLooks" "[I", Cond.fieldLink RX2 18 "LoopMemo$Memo" "firstLooks" "[I", Cond.fieldLink RX2 25 "LoopMemo$Memo" "looks" "I", Cond.methodLink RX6 59 yX4_beginAgain, Cond.instanceMethod yX4_beginAgain, Cond.selects RX4 yX4_beginAgain yX4_beginAgain, Cond.code yX4_beginAgain cX4_beginAgain 2 (some .int), Cond.methodLink RX6 44 yX1_commit, Cond.instanceMethod yX1_commit, Cond.selects RX1 yX1_commit yX1_commit, Cond.code yX1_commit cX1_commit 2 (some .int), Cond.fieldLink RX1 18 "LoopMemo$History" "size" "I", Cond.methodLink RX1 33 Lib.Math.min.name]
def wsX6_again : List Cond := .code yX6_again cX6_again 1 (some .int) :: ((wsX6_again_r1 ++ (wsX6_again_r2 ++ wsX6_again_r3)) ++ wsX60 ++ wsX10 ++ wsX40 ++ wsX50 ++ wsX00 ++ wsX20)
def wsX6_forget_r1 : List Cond := [Cond.fieldLink RX6 25 "LoopMemo" "history" "LLoopMemo$History;", Cond.fieldLink RX6 10 "LoopMemo" "now" "LLoopMemo$State;", Cond.methodLink RX6 36 yX1_prepare, Cond.instanceMethod yX1_prepare, Cond.selects RX1 yX1_prepare yX1_prepare, Cond.initialized RX1, Cond.code yX1_prepare cX1_prepare 3 none, Cond.fieldLink RX1 22 "LoopMemo$History" "next" "I", Cond.methodLink RX1 25 yX1_slot, Cond.instanceMethod yX1_slot, Cond.selects RX1 yX1_slot yX1_slot, Cond.code yX1_slot cX1_slot 2 (some (.object "LoopMemo$State")), Cond.fieldLink RX1 13 "LoopMemo$History" "slots" "[LLoopMemo$State;", Cond.methodLink RX1 29 yX4_copyFrom, Cond.instanceMethod yX4_copyFrom, Cond.selects RX4 yX4_copyFrom yX4_copyFrom, Cond.initialized RX4, Cond.code yX4_copyFrom cX4_copyFrom 2 none, Cond.fieldLink RX4 12 "LoopMemo$State" "outer" "LLoopMemo$Table;", Cond.fieldLink RX4 18 "LoopMemo$State" "inner" "LLoopMemo$Table;", Cond.fieldLink RX4 24 "LoopMemo$State" "answers" "LLoopMemo$Answers;", Cond.fieldLink RX4 31 "LoopMemo$State" "memo" "LLoopMemo$Memo;", Cond.fieldLink RX4 44 "LoopMemo$State" "settings" "[I", Cond.fieldLink RX4 47 "LoopMemo$State" "tallies" "[I"]
def wsX6_forget_r2 : List Cond := [Cond.fieldLink RX4 64 "LoopMemo$State" "place" "I", Cond.fieldLink RX4 68 "LoopMemo$State" "total" "I", Cond.methodLink RX4 50 yX5_copyFrom, Cond.instanceMethod yX5_copyFrom, Cond.selects RX5 yX5_copyFrom yX5_copyFrom, Cond.initialized RX5, Cond.code yX5_copyFrom cX5_copyFrom 2 none, Cond.fieldLink RX5 9 "LoopMemo$Table" "keys" "[I", Cond.fieldLink RX5 15 "LoopMemo$Table" "values" "[I", Cond.fieldLink RX5 22 "LoopMemo$Table" "size" "I", Cond.static yX6_copyNumbers, Cond.initialized RX6, Cond.code yX6_copyNumbers cX6_copyNumbers 2 none, Cond.methodLink RX6 117 Lib.Math.min.name, Cond.static Lib.Math.min.name, Cond.initialized "java/lang/Math", Cond.code Lib.Math.min.name Lib.Math.min.code 2 (some .int), Cond.methodLink RX6 225 arraycopyName, Cond.native arraycopyName, Cond.static arraycopyName, Cond.initialized "java/lang/System", Cond.methodLink RX4 54 yX0_copyFrom, Cond.instanceMethod yX0_copyFrom, Cond.selects RX0 yX0_copyFrom yX0_copyFrom]
def wsX6_forget_r3 : List Cond := [Cond.initialized RX0, Cond.code yX0_copyFrom cX0_copyFrom 2 none, Cond.fieldLink RX0 9 "LoopMemo$Answers" "rows" "[I", Cond.fieldLink RX0 15 "LoopMemo$Answers" "sums" "[I", Cond.fieldLink RX0 18 "LoopMemo$Answers" "firstRows" "[I", Cond.methodLink RX4 57 yX2_copyFrom, Cond.instanceMethod yX2_copyFrom, Cond.selects RX2 yX2_copyFrom yX2_copyFrom, Cond.initialized RX2, Cond.code yX2_copyFrom cX2_copyFrom 2 none, Cond.fieldLink RX2 9 "LoopMemo$Memo" "uses" "[I", Cond.fieldLink RX2 15 "LoopMemo$Memo" "lastLooks" "[I", Cond.fieldLink RX2 18 "LoopMemo$Memo" "firstLooks" "[I", Cond.fieldLink RX2 25 "LoopMemo$Memo" "looks" "I", Cond.methodLink RX6 63 yX4_throwAllOut, Cond.instanceMethod yX4_throwAllOut, Cond.selects RX4 yX4_throwAllOut yX4_throwAllOut, Cond.code yX4_throwAllOut cX4_throwAllOut 2 (some .int), Cond.methodLink RX4 125 yX2_loseAll, Cond.instanceMethod yX2_loseAll, Cond.selects RX2 yX2_loseAll yX2_loseAll, Cond.code yX2_loseAll cX2_loseAll 3 (some .int), Cond.methodLink RX2 29 yX2_size, Cond.instanceMethod yX2_size]
def wsX6_forget_r4 : List Cond := [Cond.selects RX2 yX2_size yX2_size, Cond.code yX2_size cX2_size 3 (some .int), Cond.methodLink RX6 44 yX1_commit, Cond.instanceMethod yX1_commit, Cond.selects RX1 yX1_commit yX1_commit, Cond.code yX1_commit cX1_commit 2 (some .int), Cond.fieldLink RX1 18 "LoopMemo$History" "size" "I", Cond.methodLink RX1 33 Lib.Math.min.name]
def wsX6_forget : List Cond := .code yX6_forget cX6_forget 1 (some .int) :: ((wsX6_forget_r1 ++ (wsX6_forget_r2 ++ (wsX6_forget_r3 ++ wsX6_forget_r4))) ++ wsX60 ++ wsX10 ++ wsX40 ++ wsX50 ++ wsX00 ++ wsX20)
def wsX6_set_r1 : List Cond := [Cond.fieldLink RX6 25 "LoopMemo" "history" "LLoopMemo$History;", Cond.fieldLink RX6 10 "LoopMemo" "now" "LLoopMemo$State;", Cond.methodLink RX6 36 yX1_prepare, Cond.instanceMethod yX1_prepare, Cond.selects RX1 yX1_prepare yX1_prepare, Cond.initialized RX1, Cond.code yX1_prepare cX1_prepare 3 none, Cond.fieldLink RX1 22 "LoopMemo$History" "next" "I", Cond.methodLink RX1 25 yX1_slot, Cond.instanceMethod yX1_slot, Cond.selects RX1 yX1_slot yX1_slot, Cond.code yX1_slot cX1_slot 2 (some (.object "LoopMemo$State")), Cond.fieldLink RX1 13 "LoopMemo$History" "slots" "[LLoopMemo$State;", Cond.methodLink RX1 29 yX4_copyFrom, Cond.instanceMethod yX4_copyFrom, Cond.selects RX4 yX4_copyFrom yX4_copyFrom, Cond.initialized RX4, Cond.code yX4_copyFrom cX4_copyFrom 2 none, Cond.fieldLink RX4 12 "LoopMemo$State" "outer" "LLoopMemo$Table;", Cond.fieldLink RX4 18 "LoopMemo$State" "inner" "LLoopMemo$Table;", Cond.fieldLink RX4 24 "LoopMemo$State" "answers" "LLoopMemo$Answers;", Cond.fieldLink RX4 31 "LoopMemo$State" "memo" "LLoopMemo$Memo;", Cond.fieldLink RX4 44 "LoopMemo$State" "settings" "[I", Cond.fieldLink RX4 47 "LoopMemo$State" "tallies" "[I"]
def wsX6_set_r2 : List Cond := [Cond.fieldLink RX4 64 "LoopMemo$State" "place" "I", Cond.fieldLink RX4 68 "LoopMemo$State" "total" "I", Cond.methodLink RX4 50 yX5_copyFrom, Cond.instanceMethod yX5_copyFrom, Cond.selects RX5 yX5_copyFrom yX5_copyFrom, Cond.initialized RX5, Cond.code yX5_copyFrom cX5_copyFrom 2 none, Cond.fieldLink RX5 9 "LoopMemo$Table" "keys" "[I", Cond.fieldLink RX5 15 "LoopMemo$Table" "values" "[I", Cond.fieldLink RX5 22 "LoopMemo$Table" "size" "I", Cond.static yX6_copyNumbers, Cond.initialized RX6, Cond.code yX6_copyNumbers cX6_copyNumbers 2 none, Cond.methodLink RX6 117 Lib.Math.min.name, Cond.static Lib.Math.min.name, Cond.initialized "java/lang/Math", Cond.code Lib.Math.min.name Lib.Math.min.code 2 (some .int), Cond.methodLink RX6 225 arraycopyName, Cond.native arraycopyName, Cond.static arraycopyName, Cond.initialized "java/lang/System", Cond.methodLink RX4 54 yX0_copyFrom, Cond.instanceMethod yX0_copyFrom, Cond.selects RX0 yX0_copyFrom yX0_copyFrom]
def wsX6_set_r3 : List Cond := [Cond.initialized RX0, Cond.code yX0_copyFrom cX0_copyFrom 2 none, Cond.fieldLink RX0 9 "LoopMemo$Answers" "rows" "[I", Cond.fieldLink RX0 15 "LoopMemo$Answers" "sums" "[I", Cond.fieldLink RX0 18 "LoopMemo$Answers" "firstRows" "[I", Cond.methodLink RX4 57 yX2_copyFrom, Cond.instanceMethod yX2_copyFrom, Cond.selects RX2 yX2_copyFrom yX2_copyFrom, Cond.initialized RX2, Cond.code yX2_copyFrom cX2_copyFrom 2 none, Cond.fieldLink RX2 9 "LoopMemo$Memo" "uses" "[I", Cond.fieldLink RX2 15 "LoopMemo$Memo" "lastLooks" "[I", Cond.fieldLink RX2 18 "LoopMemo$Memo" "firstLooks" "[I", Cond.fieldLink RX2 25 "LoopMemo$Memo" "looks" "I", Cond.methodLink RX6 66 yX4_adjust, Cond.instanceMethod yX4_adjust, Cond.selects RX4 yX4_adjust yX4_adjust, Cond.code yX4_adjust cX4_adjust 3 (some .int), Cond.fieldLink RX4 128 "LoopMemo$State" "HIGHEST_SETTINGS" "[I", Cond.methodLink RX4 131 yX4_makeRoom, Cond.instanceMethod yX4_makeRoom, Cond.selects RX4 yX4_makeRoom yX4_makeRoom, Cond.code yX4_makeRoom cX4_makeRoom 5 (some .int), Cond.methodLink RX4 149 yX4_weightTogether]
def wsX6_set_r4 : List Cond := [Cond.instanceMethod yX4_weightTogether, Cond.selects RX4 yX4_weightTogether yX4_weightTogether, Cond.code yX4_weightTogether cX4_weightTogether 3 (some .int), Cond.methodLink RX4 75 yX2_holds, Cond.instanceMethod yX2_holds, Cond.selects RX2 yX2_holds yX2_holds, Cond.code yX2_holds cX2_holds 2 (some .boolean), Cond.methodLink RX4 140 yX0_weight, Cond.instanceMethod yX0_weight, Cond.selects RX0 yX0_weight yX0_weight, Cond.code yX0_weight cX0_weight 2 (some .int), Cond.methodLink RX4 152 yX2_firstOut, Cond.instanceMethod yX2_firstOut, Cond.selects RX2 yX2_firstOut yX2_firstOut, Cond.code yX2_firstOut cX2_firstOut 5 (some .int), Cond.methodLink RX2 33 yX2_rank, Cond.instanceMethod yX2_rank, Cond.selects RX2 yX2_rank yX2_rank, Cond.code yX2_rank cX2_rank 3 (some .long), Cond.methodLink RX4 156 yX2_lose, Cond.instanceMethod yX2_lose, Cond.selects RX2 yX2_lose yX2_lose, Cond.code yX2_lose cX2_lose 2 none, Cond.methodLink RX4 134 yX4_findAnswers]
def wsX6_set_r5 : List Cond := [Cond.instanceMethod yX4_findAnswers, Cond.selects RX4 yX4_findAnswers yX4_findAnswers, Cond.code yX4_findAnswers cX4_findAnswers 1 none, Cond.methodLink RX4 162 yX0_find, Cond.instanceMethod yX0_find, Cond.selects RX0 yX0_find yX0_find, Cond.code yX0_find cX0_find 7 none, Cond.methodLink RX0 25 yX5_size, Cond.instanceMethod yX5_size, Cond.selects RX5 yX5_size yX5_size, Cond.code yX5_size cX5_size 1 (some .int), Cond.methodLink RX0 31 yX5_value, Cond.instanceMethod yX5_value, Cond.selects RX5 yX5_value yX5_value, Cond.code yX5_value cX5_value 2 (some .int), Cond.methodLink RX0 35 yX5_key, Cond.instanceMethod yX5_key, Cond.selects RX5 yX5_key yX5_key, Cond.code yX5_key cX5_key 2 (some .int), Cond.methodLink RX4 137 yX4_throwAllOut, Cond.instanceMethod yX4_throwAllOut, Cond.selects RX4 yX4_throwAllOut yX4_throwAllOut, Cond.code yX4_throwAllOut cX4_throwAllOut 2 (some .int), Cond.methodLink RX4 125 yX2_loseAll]
def wsX6_set_r6 : List Cond := [Cond.instanceMethod yX2_loseAll, Cond.selects RX2 yX2_loseAll yX2_loseAll, Cond.code yX2_loseAll cX2_loseAll 3 (some .int), Cond.methodLink RX2 29 yX2_size, Cond.instanceMethod yX2_size, Cond.selects RX2 yX2_size yX2_size, Cond.code yX2_size cX2_size 3 (some .int), Cond.methodLink RX6 44 yX1_commit, Cond.instanceMethod yX1_commit, Cond.selects RX1 yX1_commit yX1_commit, Cond.code yX1_commit cX1_commit 2 (some .int), Cond.fieldLink RX1 18 "LoopMemo$History" "size" "I", Cond.methodLink RX1 33 Lib.Math.min.name]
def wsX6_set : List Cond := .code yX6_set cX6_set 3 (some .int) :: ((wsX6_set_r1 ++ (wsX6_set_r2 ++ (wsX6_set_r3 ++ (wsX6_set_r4 ++ (wsX6_set_r5 ++ wsX6_set_r6))))) ++ wsX60 ++ wsX10 ++ wsX40 ++ wsX50 ++ wsX00 ++ wsX20)
def wsX6_row_r1 : List Cond := [Cond.fieldLink RX6 10 "LoopMemo" "now" "LLoopMemo$State;", Cond.methodLink RX6 87 yX4_table, Cond.instanceMethod yX4_table, Cond.selects RX4 yX4_table yX4_table, Cond.initialized RX4, Cond.code yX4_table cX4_table 2 (some (.object "LoopMemo$Table")), Cond.fieldLink RX4 18 "LoopMemo$State" "inner" "LLoopMemo$Table;", Cond.fieldLink RX4 12 "LoopMemo$State" "outer" "LLoopMemo$Table;", Cond.methodLink RX6 131 yX5_has, Cond.instanceMethod yX5_has, Cond.selects RX5 yX5_has yX5_has, Cond.initialized RX5, Cond.code yX5_has cX5_has 2 (some .boolean), Cond.fieldLink RX5 22 "LoopMemo$Table" "size" "I", Cond.methodLink RX6 76 yX6_isWithin, Cond.static yX6_isWithin, Cond.initialized RX6, Cond.code yX6_isWithin cX6_isWithin 2 (some .boolean), Cond.methodLink RX6 135 yX5_key, Cond.instanceMethod yX5_key, Cond.selects RX5 yX5_key yX5_key, Cond.code yX5_key cX5_key 2 (some .int), Cond.fieldLink RX5 9 "LoopMemo$Table" "keys" "[I", Cond.methodLink RX6 138 yX5_value]
def wsX6_row_r2 : List Cond := [Cond.instanceMethod yX5_value, Cond.selects RX5 yX5_value yX5_value, Cond.code yX5_value cX5_value 2 (some .int), Cond.fieldLink RX5 15 "LoopMemo$Table" "values" "[I", Cond.methodLink RX6 141 yX4_isInRememberedAnswer, Cond.instanceMethod yX4_isInRememberedAnswer, Cond.selects RX4 yX4_isInRememberedAnswer yX4_isInRememberedAnswer, Cond.code yX4_isInRememberedAnswer cX4_isInRememberedAnswer 2 (some .boolean), Cond.fieldLink RX4 31 "LoopMemo$State" "memo" "LLoopMemo$Memo;", Cond.methodLink RX4 71 yX5_key, Cond.methodLink RX4 75 yX2_holds, Cond.instanceMethod yX2_holds, Cond.selects RX2 yX2_holds yX2_holds, Cond.initialized RX2, Cond.code yX2_holds cX2_holds 2 (some .boolean), Cond.fieldLink RX2 9 "LoopMemo$Memo" "uses" "[I", Cond.methodLink RX4 79 yX5_value, Cond.methodLink RX4 82 yX4_isInBand, Cond.instanceMethod yX4_isInBand, Cond.selects RX4 yX4_isInBand yX4_isInBand, Cond.code yX4_isInBand cX4_isInBand 2 (some .boolean), Cond.fieldLink RX4 44 "LoopMemo$State" "settings" "[I", Cond.methodLink RX6 144 yX4_isDone, Cond.instanceMethod yX4_isDone]
def wsX6_row_r3 : List Cond := [Cond.selects RX4 yX4_isDone yX4_isDone, Cond.code yX4_isDone cX4_isDone 2 (some .boolean), Cond.fieldLink RX4 64 "LoopMemo$State" "place" "I"]
def wsX6_row : List Cond := .code yX6_row cX6_row 5 (some .int) :: ((wsX6_row_r1 ++ (wsX6_row_r2 ++ wsX6_row_r3)) ++ wsX60 ++ wsX40 ++ wsX50 ++ wsX20)
def wsX6_answer_r1 : List Cond := [Cond.fieldLink RX6 10 "LoopMemo" "now" "LLoopMemo$State;", Cond.methodLink RX6 147 yX6_isKey, Cond.static yX6_isKey, Cond.initialized RX6, Cond.code yX6_isKey cX6_isKey 1 (some .boolean), Cond.methodLink RX6 76 yX6_isWithin, Cond.static yX6_isWithin, Cond.code yX6_isWithin cX6_isWithin 2 (some .boolean), Cond.methodLink RX6 150 yX4_answers, Cond.instanceMethod yX4_answers, Cond.selects RX4 yX4_answers yX4_answers, Cond.initialized RX4, Cond.code yX4_answers cX4_answers 1 (some (.object "LoopMemo$Answers")), Cond.fieldLink RX4 24 "LoopMemo$State" "answers" "LLoopMemo$Answers;", Cond.methodLink RX6 154 yX0_tell, Cond.instanceMethod yX0_tell, Cond.selects RX0 yX0_tell yX0_tell, Cond.initialized RX0, Cond.code yX0_tell cX0_tell 3 (some .int), Cond.fieldLink RX0 9 "LoopMemo$Answers" "rows" "[I", Cond.fieldLink RX0 15 "LoopMemo$Answers" "sums" "[I", Cond.fieldLink RX0 18 "LoopMemo$Answers" "firstRows" "[I", Cond.methodLink RX0 38 yX0_weight, Cond.instanceMethod yX0_weight]
def wsX6_answer_r2 : List Cond := [Cond.selects RX0 yX0_weight yX0_weight, Cond.code yX0_weight cX0_weight 2 (some .int)]
def wsX6_answer : List Cond := .code yX6_answer cX6_answer 3 (some .int) :: ((wsX6_answer_r1 ++ wsX6_answer_r2) ++ wsX60 ++ wsX40 ++ wsX00)
def wsX6_remembered_r1 : List Cond := [Cond.fieldLink RX6 10 "LoopMemo" "now" "LLoopMemo$State;", Cond.methodLink RX6 147 yX6_isKey, Cond.static yX6_isKey, Cond.initialized RX6, Cond.code yX6_isKey cX6_isKey 1 (some .boolean), Cond.methodLink RX6 76 yX6_isWithin, Cond.static yX6_isWithin, Cond.code yX6_isWithin cX6_isWithin 2 (some .boolean), Cond.methodLink RX6 159 yX4_memo, Cond.instanceMethod yX4_memo, Cond.selects RX4 yX4_memo yX4_memo, Cond.initialized RX4, Cond.code yX4_memo cX4_memo 1 (some (.object "LoopMemo$Memo")), Cond.fieldLink RX4 31 "LoopMemo$State" "memo" "LLoopMemo$Memo;", Cond.methodLink RX6 163 yX2_holds, Cond.instanceMethod yX2_holds, Cond.selects RX2 yX2_holds yX2_holds, Cond.initialized RX2, Cond.code yX2_holds cX2_holds 2 (some .boolean), Cond.fieldLink RX2 9 "LoopMemo$Memo" "uses" "[I", Cond.methodLink RX6 168 yX2_uses, Cond.instanceMethod yX2_uses, Cond.selects RX2 yX2_uses yX2_uses, Cond.code yX2_uses cX2_uses 2 (some .int)]
def wsX6_remembered_r2 : List Cond := [Cond.methodLink RX6 171 yX4_setting, Cond.instanceMethod yX4_setting, Cond.selects RX4 yX4_setting yX4_setting, Cond.code yX4_setting cX4_setting 2 (some .int), Cond.fieldLink RX4 44 "LoopMemo$State" "settings" "[I", Cond.methodLink RX6 174 yX2_placeOf, Cond.instanceMethod yX2_placeOf, Cond.selects RX2 yX2_placeOf yX2_placeOf, Cond.code yX2_placeOf cX2_placeOf 5 (some .int), Cond.methodLink RX2 33 yX2_rank, Cond.instanceMethod yX2_rank, Cond.selects RX2 yX2_rank yX2_rank, Cond.code yX2_rank cX2_rank 3 (some .long), Cond.fieldLink RX2 18 "LoopMemo$Memo" "firstLooks" "[I", Cond.fieldLink RX2 15 "LoopMemo$Memo" "lastLooks" "[I", Cond.methodLink RX6 150 yX4_answers, Cond.instanceMethod yX4_answers, Cond.selects RX4 yX4_answers yX4_answers, Cond.code yX4_answers cX4_answers 1 (some (.object "LoopMemo$Answers")), Cond.fieldLink RX4 24 "LoopMemo$State" "answers" "LLoopMemo$Answers;", Cond.methodLink RX6 154 yX0_tell, Cond.instanceMethod yX0_tell, Cond.selects RX0 yX0_tell yX0_tell, Cond.initialized RX0]
def wsX6_remembered_r3 : List Cond := [Cond.code yX0_tell cX0_tell 3 (some .int), Cond.fieldLink RX0 9 "LoopMemo$Answers" "rows" "[I", Cond.fieldLink RX0 15 "LoopMemo$Answers" "sums" "[I", Cond.fieldLink RX0 18 "LoopMemo$Answers" "firstRows" "[I", Cond.methodLink RX0 38 yX0_weight, Cond.instanceMethod yX0_weight, Cond.selects RX0 yX0_weight yX0_weight, Cond.code yX0_weight cX0_weight 2 (some .int)]
def wsX6_remembered : List Cond := .code yX6_remembered cX6_remembered 3 (some .int) :: ((wsX6_remembered_r1 ++ (wsX6_remembered_r2 ++ wsX6_remembered_r3)) ++ wsX60 ++ wsX40 ++ wsX20 ++ wsX00)
def wsX6_count_r1 : List Cond := [Cond.fieldLink RX6 10 "LoopMemo" "now" "LLoopMemo$State;", Cond.fieldLink RX6 32 "LoopMemo" "pad" "LLoopMemo$Pad;", Cond.fieldLink RX6 25 "LoopMemo" "history" "LLoopMemo$History;", Cond.methodLink RX6 87 yX4_table, Cond.instanceMethod yX4_table, Cond.selects RX4 yX4_table yX4_table, Cond.initialized RX4, Cond.code yX4_table cX4_table 2 (some (.object "LoopMemo$Table")), Cond.fieldLink RX4 18 "LoopMemo$State" "inner" "LLoopMemo$Table;", Cond.fieldLink RX4 12 "LoopMemo$State" "outer" "LLoopMemo$Table;", Cond.methodLink RX6 91 yX5_size, Cond.instanceMethod yX5_size, Cond.selects RX5 yX5_size yX5_size, Cond.initialized RX5, Cond.code yX5_size cX5_size 1 (some .int), Cond.fieldLink RX5 22 "LoopMemo$Table" "size" "I", Cond.methodLink RX6 159 yX4_memo, Cond.instanceMethod yX4_memo, Cond.selects RX4 yX4_memo yX4_memo, Cond.code yX4_memo cX4_memo 1 (some (.object "LoopMemo$Memo")), Cond.fieldLink RX4 31 "LoopMemo$State" "memo" "LLoopMemo$Memo;", Cond.methodLink RX6 177 yX2_size, Cond.instanceMethod yX2_size, Cond.selects RX2 yX2_size yX2_size]
def wsX6_count_r2 : List Cond := [Cond.initialized RX2, Cond.code yX2_size cX2_size 3 (some .int), Cond.fieldLink RX2 9 "LoopMemo$Memo" "uses" "[I", Cond.methodLink RX6 178 yX4_weightTogether, Cond.instanceMethod yX4_weightTogether, Cond.selects RX4 yX4_weightTogether yX4_weightTogether, Cond.code yX4_weightTogether cX4_weightTogether 3 (some .int), Cond.fieldLink RX4 24 "LoopMemo$State" "answers" "LLoopMemo$Answers;", Cond.methodLink RX4 75 yX2_holds, Cond.instanceMethod yX2_holds, Cond.selects RX2 yX2_holds yX2_holds, Cond.code yX2_holds cX2_holds 2 (some .boolean), Cond.methodLink RX4 140 yX0_weight, Cond.instanceMethod yX0_weight, Cond.selects RX0 yX0_weight yX0_weight, Cond.initialized RX0, Cond.code yX0_weight cX0_weight 2 (some .int), Cond.fieldLink RX0 9 "LoopMemo$Answers" "rows" "[I", Cond.methodLink RX6 181 yX4_place, Cond.instanceMethod yX4_place, Cond.selects RX4 yX4_place yX4_place, Cond.code yX4_place cX4_place 1 (some .int), Cond.fieldLink RX4 64 "LoopMemo$State" "place" "I", Cond.methodLink RX6 184 yX4_totalSoFar]
def wsX6_count_r3 : List Cond := [Cond.instanceMethod yX4_totalSoFar, Cond.selects RX4 yX4_totalSoFar yX4_totalSoFar, Cond.code yX4_totalSoFar cX4_totalSoFar 1 (some .int), Cond.fieldLink RX4 68 "LoopMemo$State" "total" "I", Cond.methodLink RX6 171 yX4_setting, Cond.instanceMethod yX4_setting, Cond.selects RX4 yX4_setting yX4_setting, Cond.code yX4_setting cX4_setting 2 (some .int), Cond.fieldLink RX4 44 "LoopMemo$State" "settings" "[I", Cond.methodLink RX6 187 yX3_size, Cond.instanceMethod yX3_size, Cond.selects RX3 yX3_size yX3_size, Cond.initialized RX3, Cond.code yX3_size cX3_size 1 (some .int), Cond.fieldLink RX3 15 "LoopMemo$Pad" "size" "I", Cond.methodLink RX6 188 yX1_size, Cond.instanceMethod yX1_size, Cond.selects RX1 yX1_size yX1_size, Cond.initialized RX1, Cond.code yX1_size cX1_size 1 (some .int), Cond.fieldLink RX1 18 "LoopMemo$History" "size" "I", Cond.methodLink RX6 76 yX6_isWithin, Cond.static yX6_isWithin, Cond.initialized RX6]
def wsX6_count_r4 : List Cond := [Cond.code yX6_isWithin cX6_isWithin 2 (some .boolean), Cond.methodLink RX6 189 yX4_tally, Cond.instanceMethod yX4_tally, Cond.selects RX4 yX4_tally yX4_tally, Cond.code yX4_tally cX4_tally 2 (some .int), Cond.fieldLink RX4 47 "LoopMemo$State" "tallies" "[I"]
def wsX6_count : List Cond := .code yX6_count cX6_count 2 (some .int) :: ((wsX6_count_r1 ++ (wsX6_count_r2 ++ (wsX6_count_r3 ++ wsX6_count_r4))) ++ wsX60 ++ wsX40 ++ wsX50 ++ wsX20 ++ wsX00 ++ wsX30 ++ wsX10)
def wsX6_total_r1 : List Cond := [Cond.fieldLink RX6 10 "LoopMemo" "now" "LLoopMemo$State;", Cond.methodLink RX6 76 yX6_isWithin, Cond.static yX6_isWithin, Cond.initialized RX6, Cond.code yX6_isWithin cX6_isWithin 2 (some .boolean), Cond.methodLink RX6 192 yX4_totalByAnswers, Cond.instanceMethod yX4_totalByAnswers, Cond.selects RX4 yX4_totalByAnswers yX4_totalByAnswers, Cond.initialized RX4, Cond.code yX4_totalByAnswers cX4_totalByAnswers 3 (some .int), Cond.fieldLink RX4 12 "LoopMemo$State" "outer" "LLoopMemo$Table;", Cond.fieldLink RX4 24 "LoopMemo$State" "answers" "LLoopMemo$Answers;", Cond.methodLink RX4 93 yX5_size, Cond.instanceMethod yX5_size, Cond.selects RX5 yX5_size yX5_size, Cond.initialized RX5, Cond.code yX5_size cX5_size 1 (some .int), Cond.fieldLink RX5 22 "LoopMemo$Table" "size" "I", Cond.methodLink RX4 79 yX5_value, Cond.instanceMethod yX5_value, Cond.selects RX5 yX5_value yX5_value, Cond.code yX5_value cX5_value 2 (some .int), Cond.fieldLink RX5 15 "LoopMemo$Table" "values" "[I", Cond.methodLink RX4 71 yX5_key]
def wsX6_total_r2 : List Cond := [Cond.instanceMethod yX5_key, Cond.selects RX5 yX5_key yX5_key, Cond.code yX5_key cX5_key 2 (some .int), Cond.fieldLink RX5 9 "LoopMemo$Table" "keys" "[I", Cond.methodLink RX4 122 yX0_sum, Cond.instanceMethod yX0_sum, Cond.selects RX0 yX0_sum yX0_sum, Cond.initialized RX0, Cond.code yX0_sum cX0_sum 2 (some .int), Cond.fieldLink RX0 15 "LoopMemo$Answers" "sums" "[I", Cond.methodLink RX6 195 yX4_totalByRows, Cond.instanceMethod yX4_totalByRows, Cond.selects RX4 yX4_totalByRows yX4_totalByRows, Cond.code yX4_totalByRows cX4_totalByRows 4 (some .int), Cond.fieldLink RX4 18 "LoopMemo$State" "inner" "LLoopMemo$Table;", Cond.methodLink RX4 82 yX4_isInBand, Cond.instanceMethod yX4_isInBand, Cond.selects RX4 yX4_isInBand yX4_isInBand, Cond.code yX4_isInBand cX4_isInBand 2 (some .boolean), Cond.fieldLink RX4 44 "LoopMemo$State" "settings" "[I"]
def wsX6_total : List Cond := .code yX6_total cX6_total 2 (some .int) :: ((wsX6_total_r1 ++ wsX6_total_r2) ++ wsX60 ++ wsX40 ++ wsX50 ++ wsX00)
def wsX6_rate : List Cond := .code yX6_rate cX6_rate 3 (some .double) :: ([.fieldLink RX6 10 "LoopMemo" "now" "LLoopMemo$State;", .methodLink RX6 189 yX4_tally, .instanceMethod yX4_tally, .selects RX4 yX4_tally yX4_tally, .initialized RX4, .code yX4_tally cX4_tally 2 (some .int), .fieldLink RX4 47 "LoopMemo$State" "tallies" "[I"] ++ wsX60 ++ wsX40)
def wsJ9_min_7cf53 : List Cond := .code yJ9_min_7cf53 cJ9_min_7cf53 2 (some .int) :: ([])
def wsL_cell : List Cond := .code yL_cell cL_cell 2 (some .int) :: ([.constant RL 7 (40503)])
def wsL_weight : List Cond := .code yL_weight cL_weight 7 (some .int) :: ([])
def wsL_many : List Cond := .code yL_many cL_many 2 (some .int) :: ([])
def wsL_out : List Cond := .code yL_out cL_out 5 none :: ([])
def wsL_has : List Cond := .code yL_has cL_has 4 (some .boolean) :: ([])
def wsL_weights : List Cond := .code yL_weights cL_weights 5 (some .int) :: ([.methodLink RL 9 yL_many, .static yL_many, .initialized RL, .code yL_many cL_many 2 (some .int), .methodLink RL 15 yL_weight, .static yL_weight, .code yL_weight cL_weight 7 (some .int)])
def wsL_first : List Cond := .code yL_first cL_first 9 (some .int) :: ([.methodLink RL 9 yL_many, .static yL_many, .initialized RL, .code yL_many cL_many 2 (some .int)])
def wsL_room : List Cond := .code yL_room cL_room 8 (some .int) :: ([.methodLink RL 19 yL_first, .static yL_first, .initialized RL, .code yL_first cL_first 9 (some .int), .methodLink RL 9 yL_many, .static yL_many, .code yL_many cL_many 2 (some .int), .methodLink RL 23 yL_weights, .static yL_weights, .code yL_weights cL_weights 5 (some .int), .methodLink RL 15 yL_weight, .static yL_weight, .code yL_weight cL_weight 7 (some .int), .methodLink RL 27 yL_out, .static yL_out, .code yL_out cL_out 5 none])
def wsL_goes : List Cond := .code yL_goes cL_goes 6 (some .int) :: ([.methodLink RL 9 yL_many, .static yL_many, .initialized RL, .code yL_many cL_many 2 (some .int), .methodLink RL 27 yL_out, .static yL_out, .code yL_out cL_out 5 none])
def wsL_kept : List Cond := .code yL_kept cL_kept 6 none :: ([.methodLink RL 31 yL_has, .static yL_has, .initialized RL, .code yL_has cL_has 4 (some .boolean), .methodLink RL 35 yL_goes, .static yL_goes, .code yL_goes cL_goes 6 (some .int), .methodLink RL 9 yL_many, .static yL_many, .code yL_many cL_many 2 (some .int), .methodLink RL 27 yL_out, .static yL_out, .code yL_out cL_out 5 none])
def wsL_look : List Cond := .code yL_look cL_look 7 (some .int) :: ([.methodLink RL 31 yL_has, .static yL_has, .initialized RL, .code yL_has cL_has 4 (some .boolean), .methodLink RL 27 yL_out, .static yL_out, .code yL_out cL_out 5 none, .methodLink RL 9 yL_many, .static yL_many, .code yL_many cL_many 2 (some .int), .methodLink RL 15 yL_weight, .static yL_weight, .code yL_weight cL_weight 7 (some .int), .methodLink RL 39 yL_room, .static yL_room, .code yL_room cL_room 8 (some .int), .methodLink RL 19 yL_first, .static yL_first, .code yL_first cL_first 9 (some .int), .methodLink RL 23 yL_weights, .static yL_weights, .code yL_weights cL_weights 5 (some .int)])
def wsL_steps_r1 : List Cond := [Cond.methodLink RL 43 yL_look, Cond.static yL_look, Cond.initialized RL, Cond.code yL_look cL_look 7 (some .int), Cond.methodLink RL 31 yL_has, Cond.static yL_has, Cond.code yL_has cL_has 4 (some .boolean), Cond.methodLink RL 27 yL_out, Cond.static yL_out, Cond.code yL_out cL_out 5 none, Cond.methodLink RL 9 yL_many, Cond.static yL_many, Cond.code yL_many cL_many 2 (some .int), Cond.methodLink RL 15 yL_weight, Cond.static yL_weight, Cond.code yL_weight cL_weight 7 (some .int), Cond.methodLink RL 39 yL_room, Cond.static yL_room, Cond.code yL_room cL_room 8 (some .int), Cond.methodLink RL 19 yL_first, Cond.static yL_first, Cond.code yL_first cL_first 9 (some .int), Cond.methodLink RL 23 yL_weights, Cond.static yL_weights]
def wsL_steps_r2 : List Cond := [Cond.code yL_weights cL_weights 5 (some .int)]
def wsL_steps : List Cond := .code yL_steps cL_steps 10 (some .int) :: ((wsL_steps_r1 ++ wsL_steps_r2))
def wsL_areTold_r1 : List Cond := [Cond.arrayClass .int, Cond.methodLink RL 46 yX6_count, Cond.instanceMethod yX6_count, Cond.selects RX6 yX6_count yX6_count, Cond.initialized RX6, Cond.code yX6_count cX6_count 2 (some .int), Cond.fieldLink RX6 10 "LoopMemo" "now" "LLoopMemo$State;", Cond.fieldLink RX6 32 "LoopMemo" "pad" "LLoopMemo$Pad;", Cond.fieldLink RX6 25 "LoopMemo" "history" "LLoopMemo$History;", Cond.methodLink RX6 87 yX4_table, Cond.instanceMethod yX4_table, Cond.selects RX4 yX4_table yX4_table, Cond.initialized RX4, Cond.code yX4_table cX4_table 2 (some (.object "LoopMemo$Table")), Cond.fieldLink RX4 18 "LoopMemo$State" "inner" "LLoopMemo$Table;", Cond.fieldLink RX4 12 "LoopMemo$State" "outer" "LLoopMemo$Table;", Cond.methodLink RX6 91 yX5_size, Cond.instanceMethod yX5_size, Cond.selects RX5 yX5_size yX5_size, Cond.initialized RX5, Cond.code yX5_size cX5_size 1 (some .int), Cond.fieldLink RX5 22 "LoopMemo$Table" "size" "I", Cond.methodLink RX6 159 yX4_memo, Cond.instanceMethod yX4_memo]
def wsL_areTold_r2 : List Cond := [Cond.selects RX4 yX4_memo yX4_memo, Cond.code yX4_memo cX4_memo 1 (some (.object "LoopMemo$Memo")), Cond.fieldLink RX4 31 "LoopMemo$State" "memo" "LLoopMemo$Memo;", Cond.methodLink RX6 177 yX2_size, Cond.instanceMethod yX2_size, Cond.selects RX2 yX2_size yX2_size, Cond.initialized RX2, Cond.code yX2_size cX2_size 3 (some .int), Cond.fieldLink RX2 9 "LoopMemo$Memo" "uses" "[I", Cond.methodLink RX6 178 yX4_weightTogether, Cond.instanceMethod yX4_weightTogether, Cond.selects RX4 yX4_weightTogether yX4_weightTogether, Cond.code yX4_weightTogether cX4_weightTogether 3 (some .int), Cond.fieldLink RX4 24 "LoopMemo$State" "answers" "LLoopMemo$Answers;", Cond.methodLink RX4 75 yX2_holds, Cond.instanceMethod yX2_holds, Cond.selects RX2 yX2_holds yX2_holds, Cond.code yX2_holds cX2_holds 2 (some .boolean), Cond.methodLink RX4 140 yX0_weight, Cond.instanceMethod yX0_weight, Cond.selects RX0 yX0_weight yX0_weight, Cond.initialized RX0, Cond.code yX0_weight cX0_weight 2 (some .int), Cond.fieldLink RX0 9 "LoopMemo$Answers" "rows" "[I"]
def wsL_areTold_r3 : List Cond := [Cond.methodLink RX6 181 yX4_place, Cond.instanceMethod yX4_place, Cond.selects RX4 yX4_place yX4_place, Cond.code yX4_place cX4_place 1 (some .int), Cond.fieldLink RX4 64 "LoopMemo$State" "place" "I", Cond.methodLink RX6 184 yX4_totalSoFar, Cond.instanceMethod yX4_totalSoFar, Cond.selects RX4 yX4_totalSoFar yX4_totalSoFar, Cond.code yX4_totalSoFar cX4_totalSoFar 1 (some .int), Cond.fieldLink RX4 68 "LoopMemo$State" "total" "I", Cond.methodLink RX6 171 yX4_setting, Cond.instanceMethod yX4_setting, Cond.selects RX4 yX4_setting yX4_setting, Cond.code yX4_setting cX4_setting 2 (some .int), Cond.fieldLink RX4 44 "LoopMemo$State" "settings" "[I", Cond.methodLink RX6 187 yX3_size, Cond.instanceMethod yX3_size, Cond.selects RX3 yX3_size yX3_size, Cond.initialized RX3, Cond.code yX3_size cX3_size 1 (some .int), Cond.fieldLink RX3 15 "LoopMemo$Pad" "size" "I", Cond.methodLink RX6 188 yX1_size, Cond.instanceMethod yX1_size, Cond.selects RX1 yX1_size yX1_size]
def wsL_areTold_r4 : List Cond := [Cond.initialized RX1, Cond.code yX1_size cX1_size 1 (some .int), Cond.fieldLink RX1 18 "LoopMemo$History" "size" "I", Cond.methodLink RX6 76 yX6_isWithin, Cond.static yX6_isWithin, Cond.code yX6_isWithin cX6_isWithin 2 (some .boolean), Cond.methodLink RX6 189 yX4_tally, Cond.instanceMethod yX4_tally, Cond.selects RX4 yX4_tally yX4_tally, Cond.code yX4_tally cX4_tally 2 (some .int), Cond.fieldLink RX4 47 "LoopMemo$State" "tallies" "[I", Cond.methodLink RL 9 yL_many, Cond.static yL_many, Cond.initialized RL, Cond.code yL_many cL_many 2 (some .int), Cond.methodLink RL 23 yL_weights, Cond.static yL_weights, Cond.code yL_weights cL_weights 5 (some .int), Cond.methodLink RL 15 yL_weight, Cond.static yL_weight, Cond.code yL_weight cL_weight 7 (some .int), Cond.methodLink RL 52 yX6_rate, Cond.instanceMethod yX6_rate, Cond.selects RX6 yX6_rate yX6_rate]
def wsL_areTold_r5 : List Cond := [Cond.code yX6_rate cX6_rate 3 (some .double), Cond.methodLink RL 19 yL_first, Cond.static yL_first, Cond.code yL_first cL_first 9 (some .int), Cond.methodLink RL 56 yX6_remembered, Cond.instanceMethod yX6_remembered, Cond.selects RX6 yX6_remembered yX6_remembered, Cond.code yX6_remembered cX6_remembered 3 (some .int), Cond.methodLink RX6 147 yX6_isKey, Cond.static yX6_isKey, Cond.code yX6_isKey cX6_isKey 1 (some .boolean), Cond.methodLink RX6 163 yX2_holds, Cond.methodLink RX6 168 yX2_uses, Cond.instanceMethod yX2_uses, Cond.selects RX2 yX2_uses yX2_uses, Cond.code yX2_uses cX2_uses 2 (some .int), Cond.methodLink RX6 174 yX2_placeOf, Cond.instanceMethod yX2_placeOf, Cond.selects RX2 yX2_placeOf yX2_placeOf, Cond.code yX2_placeOf cX2_placeOf 5 (some .int), Cond.methodLink RX2 33 yX2_rank, Cond.instanceMethod yX2_rank, Cond.selects RX2 yX2_rank yX2_rank, Cond.code yX2_rank cX2_rank 3 (some .long)]
def wsL_areTold_r6 : List Cond := [Cond.fieldLink RX2 18 "LoopMemo$Memo" "firstLooks" "[I", Cond.fieldLink RX2 15 "LoopMemo$Memo" "lastLooks" "[I", Cond.methodLink RX6 150 yX4_answers, Cond.instanceMethod yX4_answers, Cond.selects RX4 yX4_answers yX4_answers, Cond.code yX4_answers cX4_answers 1 (some (.object "LoopMemo$Answers")), Cond.methodLink RX6 154 yX0_tell, Cond.instanceMethod yX0_tell, Cond.selects RX0 yX0_tell yX0_tell, Cond.code yX0_tell cX0_tell 3 (some .int), Cond.fieldLink RX0 15 "LoopMemo$Answers" "sums" "[I", Cond.fieldLink RX0 18 "LoopMemo$Answers" "firstRows" "[I", Cond.methodLink RX0 38 yX0_weight, Cond.methodLink RL 27 yL_out, Cond.static yL_out, Cond.code yL_out cL_out 5 none, Cond.methodLink RL 31 yL_has, Cond.static yL_has, Cond.code yL_has cL_has 4 (some .boolean), Cond.methodLink RL 60 yX6_answer, Cond.instanceMethod yX6_answer, Cond.selects RX6 yX6_answer yX6_answer, Cond.code yX6_answer cX6_answer 3 (some .int)]
def wsL_areTold : List Cond := .code yL_areTold cL_areTold 15 (some .boolean) :: ((wsL_areTold_r1 ++ (wsL_areTold_r2 ++ (wsL_areTold_r3 ++ (wsL_areTold_r4 ++ (wsL_areTold_r5 ++ wsL_areTold_r6))))) ++ wsX60 ++ wsX40 ++ wsX50 ++ wsX20 ++ wsX00 ++ wsX30 ++ wsX10)
def wsL_areRows_r1 : List Cond := [Cond.methodLink RL 63 yX6_row, Cond.instanceMethod yX6_row, Cond.selects RX6 yX6_row yX6_row, Cond.initialized RX6, Cond.code yX6_row cX6_row 5 (some .int), Cond.fieldLink RX6 10 "LoopMemo" "now" "LLoopMemo$State;", Cond.methodLink RX6 87 yX4_table, Cond.instanceMethod yX4_table, Cond.selects RX4 yX4_table yX4_table, Cond.initialized RX4, Cond.code yX4_table cX4_table 2 (some (.object "LoopMemo$Table")), Cond.fieldLink RX4 18 "LoopMemo$State" "inner" "LLoopMemo$Table;", Cond.fieldLink RX4 12 "LoopMemo$State" "outer" "LLoopMemo$Table;", Cond.methodLink RX6 131 yX5_has, Cond.instanceMethod yX5_has, Cond.selects RX5 yX5_has yX5_has, Cond.initialized RX5, Cond.code yX5_has cX5_has 2 (some .boolean), Cond.fieldLink RX5 22 "LoopMemo$Table" "size" "I", Cond.methodLink RX6 76 yX6_isWithin, Cond.static yX6_isWithin, Cond.code yX6_isWithin cX6_isWithin 2 (some .boolean), Cond.methodLink RX6 135 yX5_key, Cond.instanceMethod yX5_key]
def wsL_areRows_r2 : List Cond := [Cond.selects RX5 yX5_key yX5_key, Cond.code yX5_key cX5_key 2 (some .int), Cond.fieldLink RX5 9 "LoopMemo$Table" "keys" "[I", Cond.methodLink RX6 138 yX5_value, Cond.instanceMethod yX5_value, Cond.selects RX5 yX5_value yX5_value, Cond.code yX5_value cX5_value 2 (some .int), Cond.fieldLink RX5 15 "LoopMemo$Table" "values" "[I", Cond.methodLink RX6 141 yX4_isInRememberedAnswer, Cond.instanceMethod yX4_isInRememberedAnswer, Cond.selects RX4 yX4_isInRememberedAnswer yX4_isInRememberedAnswer, Cond.code yX4_isInRememberedAnswer cX4_isInRememberedAnswer 2 (some .boolean), Cond.fieldLink RX4 31 "LoopMemo$State" "memo" "LLoopMemo$Memo;", Cond.methodLink RX4 71 yX5_key, Cond.methodLink RX4 75 yX2_holds, Cond.instanceMethod yX2_holds, Cond.selects RX2 yX2_holds yX2_holds, Cond.initialized RX2, Cond.code yX2_holds cX2_holds 2 (some .boolean), Cond.fieldLink RX2 9 "LoopMemo$Memo" "uses" "[I", Cond.methodLink RX4 79 yX5_value, Cond.methodLink RX4 82 yX4_isInBand, Cond.instanceMethod yX4_isInBand, Cond.selects RX4 yX4_isInBand yX4_isInBand]
def wsL_areRows_r3 : List Cond := [Cond.code yX4_isInBand cX4_isInBand 2 (some .boolean), Cond.fieldLink RX4 44 "LoopMemo$State" "settings" "[I", Cond.methodLink RX6 144 yX4_isDone, Cond.instanceMethod yX4_isDone, Cond.selects RX4 yX4_isDone yX4_isDone, Cond.code yX4_isDone cX4_isDone 2 (some .boolean), Cond.fieldLink RX4 64 "LoopMemo$State" "place" "I", Cond.methodLink RL 60 yX6_answer, Cond.instanceMethod yX6_answer, Cond.selects RX6 yX6_answer yX6_answer, Cond.code yX6_answer cX6_answer 3 (some .int), Cond.methodLink RX6 147 yX6_isKey, Cond.static yX6_isKey, Cond.code yX6_isKey cX6_isKey 1 (some .boolean), Cond.methodLink RX6 150 yX4_answers, Cond.instanceMethod yX4_answers, Cond.selects RX4 yX4_answers yX4_answers, Cond.code yX4_answers cX4_answers 1 (some (.object "LoopMemo$Answers")), Cond.fieldLink RX4 24 "LoopMemo$State" "answers" "LLoopMemo$Answers;", Cond.methodLink RX6 154 yX0_tell, Cond.instanceMethod yX0_tell, Cond.selects RX0 yX0_tell yX0_tell, Cond.initialized RX0, Cond.code yX0_tell cX0_tell 3 (some .int)]
end
section
def wsL_areRows_r4 : List Cond := [Cond.fieldLink RX0 9 "LoopMemo$Answers" "rows" "[I", Cond.fieldLink RX0 15 "LoopMemo$Answers" "sums" "[I", Cond.fieldLink RX0 18 "LoopMemo$Answers" "firstRows" "[I", Cond.methodLink RX0 38 yX0_weight, Cond.instanceMethod yX0_weight, Cond.selects RX0 yX0_weight yX0_weight, Cond.code yX0_weight cX0_weight 2 (some .int), Cond.methodLink RL 56 yX6_remembered, Cond.instanceMethod yX6_remembered, Cond.selects RX6 yX6_remembered yX6_remembered, Cond.code yX6_remembered cX6_remembered 3 (some .int), Cond.methodLink RX6 159 yX4_memo, Cond.instanceMethod yX4_memo, Cond.selects RX4 yX4_memo yX4_memo, Cond.code yX4_memo cX4_memo 1 (some (.object "LoopMemo$Memo")), Cond.methodLink RX6 163 yX2_holds, Cond.methodLink RX6 168 yX2_uses, Cond.instanceMethod yX2_uses, Cond.selects RX2 yX2_uses yX2_uses, Cond.code yX2_uses cX2_uses 2 (some .int), Cond.methodLink RX6 171 yX4_setting, Cond.instanceMethod yX4_setting, Cond.selects RX4 yX4_setting yX4_setting, Cond.code yX4_setting cX4_setting 2 (some .int)]
def wsL_areRows_r5 : List Cond := [Cond.methodLink RX6 174 yX2_placeOf, Cond.instanceMethod yX2_placeOf, Cond.selects RX2 yX2_placeOf yX2_placeOf, Cond.code yX2_placeOf cX2_placeOf 5 (some .int), Cond.methodLink RX2 33 yX2_rank, Cond.instanceMethod yX2_rank, Cond.selects RX2 yX2_rank yX2_rank, Cond.code yX2_rank cX2_rank 3 (some .long), Cond.fieldLink RX2 18 "LoopMemo$Memo" "firstLooks" "[I", Cond.fieldLink RX2 15 "LoopMemo$Memo" "lastLooks" "[I", Cond.methodLink RL 31 yL_has, Cond.static yL_has, Cond.initialized RL, Cond.code yL_has cL_has 4 (some .boolean), Cond.methodLink RL 15 yL_weight, Cond.static yL_weight, Cond.code yL_weight cL_weight 7 (some .int), Cond.methodLink RL 67 yX6_total, Cond.instanceMethod yX6_total, Cond.selects RX6 yX6_total yX6_total, Cond.code yX6_total cX6_total 2 (some .int), Cond.methodLink RX6 192 yX4_totalByAnswers, Cond.instanceMethod yX4_totalByAnswers, Cond.selects RX4 yX4_totalByAnswers yX4_totalByAnswers]
def wsL_areRows_r6 : List Cond := [Cond.code yX4_totalByAnswers cX4_totalByAnswers 3 (some .int), Cond.methodLink RX4 93 yX5_size, Cond.instanceMethod yX5_size, Cond.selects RX5 yX5_size yX5_size, Cond.code yX5_size cX5_size 1 (some .int), Cond.methodLink RX4 122 yX0_sum, Cond.instanceMethod yX0_sum, Cond.selects RX0 yX0_sum yX0_sum, Cond.code yX0_sum cX0_sum 2 (some .int), Cond.methodLink RX6 195 yX4_totalByRows, Cond.instanceMethod yX4_totalByRows, Cond.selects RX4 yX4_totalByRows yX4_totalByRows, Cond.code yX4_totalByRows cX4_totalByRows 4 (some .int)]
def wsL_areRows : List Cond := .code yL_areRows cL_areRows 9 (some .boolean) :: ((wsL_areRows_r1 ++ (wsL_areRows_r2 ++ (wsL_areRows_r3 ++ (wsL_areRows_r4 ++ (wsL_areRows_r5 ++ wsL_areRows_r6))))) ++ wsX60 ++ wsX40 ++ wsX50 ++ wsX20 ++ wsX00)
def wsL_isRow_r1 : List Cond := [Cond.methodLink RL 70 yX6_add, Cond.instanceMethod yX6_add, Cond.selects RX6 yX6_add yX6_add, Cond.initialized RX6, Cond.code yX6_add cX6_add 4 (some .int), Cond.fieldLink RX6 25 "LoopMemo" "history" "LLoopMemo$History;", Cond.fieldLink RX6 10 "LoopMemo" "now" "LLoopMemo$State;", Cond.methodLink RX6 36 yX1_prepare, Cond.instanceMethod yX1_prepare, Cond.selects RX1 yX1_prepare yX1_prepare, Cond.initialized RX1, Cond.code yX1_prepare cX1_prepare 3 none, Cond.fieldLink RX1 22 "LoopMemo$History" "next" "I", Cond.methodLink RX1 25 yX1_slot, Cond.instanceMethod yX1_slot, Cond.selects RX1 yX1_slot yX1_slot, Cond.code yX1_slot cX1_slot 2 (some (.object "LoopMemo$State")), Cond.fieldLink RX1 13 "LoopMemo$History" "slots" "[LLoopMemo$State;", Cond.methodLink RX1 29 yX4_copyFrom, Cond.instanceMethod yX4_copyFrom, Cond.selects RX4 yX4_copyFrom yX4_copyFrom, Cond.initialized RX4, Cond.code yX4_copyFrom cX4_copyFrom 2 none, Cond.fieldLink RX4 12 "LoopMemo$State" "outer" "LLoopMemo$Table;"]
def wsL_isRow_r2 : List Cond := [Cond.fieldLink RX4 18 "LoopMemo$State" "inner" "LLoopMemo$Table;", Cond.fieldLink RX4 24 "LoopMemo$State" "answers" "LLoopMemo$Answers;", Cond.fieldLink RX4 31 "LoopMemo$State" "memo" "LLoopMemo$Memo;", Cond.fieldLink RX4 44 "LoopMemo$State" "settings" "[I", Cond.fieldLink RX4 47 "LoopMemo$State" "tallies" "[I", Cond.fieldLink RX4 64 "LoopMemo$State" "place" "I", Cond.fieldLink RX4 68 "LoopMemo$State" "total" "I", Cond.methodLink RX4 50 yX5_copyFrom, Cond.instanceMethod yX5_copyFrom, Cond.selects RX5 yX5_copyFrom yX5_copyFrom, Cond.initialized RX5, Cond.code yX5_copyFrom cX5_copyFrom 2 none, Cond.fieldLink RX5 9 "LoopMemo$Table" "keys" "[I", Cond.fieldLink RX5 15 "LoopMemo$Table" "values" "[I", Cond.fieldLink RX5 22 "LoopMemo$Table" "size" "I", Cond.static yX6_copyNumbers, Cond.code yX6_copyNumbers cX6_copyNumbers 2 none, Cond.methodLink RX6 117 Lib.Math.min.name, Cond.static Lib.Math.min.name, Cond.initialized "java/lang/Math", Cond.code Lib.Math.min.name Lib.Math.min.code 2 (some .int), Cond.methodLink RX6 225 arraycopyName, Cond.native arraycopyName, Cond.static arraycopyName]
def wsL_isRow_r3 : List Cond := [Cond.initialized "java/lang/System", Cond.methodLink RX4 54 yX0_copyFrom, Cond.instanceMethod yX0_copyFrom, Cond.selects RX0 yX0_copyFrom yX0_copyFrom, Cond.initialized RX0, Cond.code yX0_copyFrom cX0_copyFrom 2 none, Cond.fieldLink RX0 9 "LoopMemo$Answers" "rows" "[I", Cond.fieldLink RX0 15 "LoopMemo$Answers" "sums" "[I", Cond.fieldLink RX0 18 "LoopMemo$Answers" "firstRows" "[I", Cond.methodLink RX4 57 yX2_copyFrom, Cond.instanceMethod yX2_copyFrom, Cond.selects RX2 yX2_copyFrom yX2_copyFrom, Cond.initialized RX2, Cond.code yX2_copyFrom cX2_copyFrom 2 none, Cond.fieldLink RX2 9 "LoopMemo$Memo" "uses" "[I", Cond.fieldLink RX2 15 "LoopMemo$Memo" "lastLooks" "[I", Cond.fieldLink RX2 18 "LoopMemo$Memo" "firstLooks" "[I", Cond.fieldLink RX2 25 "LoopMemo$Memo" "looks" "I", Cond.methodLink RX6 40 yX4_insertRow, Cond.instanceMethod yX4_insertRow, Cond.selects RX4 yX4_insertRow yX4_insertRow, Cond.code yX4_insertRow cX4_insertRow 5 (some .int), Cond.static yX6_isRow, Cond.code yX6_isRow cX6_isRow 2 (some .boolean)]
def wsL_isRow_r4 : List Cond := [Cond.methodLink RX6 147 yX6_isKey, Cond.static yX6_isKey, Cond.code yX6_isKey cX6_isKey 1 (some .boolean), Cond.methodLink RX6 76 yX6_isWithin, Cond.static yX6_isWithin, Cond.code yX6_isWithin cX6_isWithin 2 (some .boolean), Cond.methodLink RX4 89 yX4_table, Cond.instanceMethod yX4_table, Cond.selects RX4 yX4_table yX4_table, Cond.code yX4_table cX4_table 2 (some (.object "LoopMemo$Table")), Cond.methodLink RX4 93 yX5_size, Cond.instanceMethod yX5_size, Cond.selects RX5 yX5_size yX5_size, Cond.code yX5_size cX5_size 1 (some .int), Cond.methodLink RX4 97 yX5_push, Cond.instanceMethod yX5_push, Cond.selects RX5 yX5_push yX5_push, Cond.code yX5_push cX5_push 3 none, Cond.methodLink RX5 26 yX5_put, Cond.instanceMethod yX5_put, Cond.selects RX5 yX5_put yX5_put, Cond.code yX5_put cX5_put 4 none, Cond.methodLink RX4 101 yX4_keepTrue, Cond.instanceMethod yX4_keepTrue]
def wsL_isRow_r5 : List Cond := [Cond.selects RX4 yX4_keepTrue yX4_keepTrue, Cond.code yX4_keepTrue cX4_keepTrue 3 none, Cond.methodLink RX4 134 yX4_findAnswers, Cond.instanceMethod yX4_findAnswers, Cond.selects RX4 yX4_findAnswers yX4_findAnswers, Cond.code yX4_findAnswers cX4_findAnswers 1 none, Cond.methodLink RX4 162 yX0_find, Cond.instanceMethod yX0_find, Cond.selects RX0 yX0_find yX0_find, Cond.code yX0_find cX0_find 7 none, Cond.methodLink RX0 25 yX5_size, Cond.methodLink RX0 31 yX5_value, Cond.instanceMethod yX5_value, Cond.selects RX5 yX5_value yX5_value, Cond.code yX5_value cX5_value 2 (some .int), Cond.methodLink RX0 35 yX5_key, Cond.instanceMethod yX5_key, Cond.selects RX5 yX5_key yX5_key, Cond.code yX5_key cX5_key 2 (some .int), Cond.methodLink RX4 137 yX4_throwAllOut, Cond.instanceMethod yX4_throwAllOut, Cond.selects RX4 yX4_throwAllOut yX4_throwAllOut, Cond.code yX4_throwAllOut cX4_throwAllOut 2 (some .int), Cond.methodLink RX4 125 yX2_loseAll]
def wsL_isRow_r6 : List Cond := [Cond.instanceMethod yX2_loseAll, Cond.selects RX2 yX2_loseAll yX2_loseAll, Cond.code yX2_loseAll cX2_loseAll 3 (some .int), Cond.methodLink RX2 29 yX2_size, Cond.instanceMethod yX2_size, Cond.selects RX2 yX2_size yX2_size, Cond.code yX2_size cX2_size 3 (some .int), Cond.methodLink RX4 159 yX4_keepAnswerTrue, Cond.instanceMethod yX4_keepAnswerTrue, Cond.selects RX4 yX4_keepAnswerTrue yX4_keepAnswerTrue, Cond.code yX4_keepAnswerTrue cX4_keepAnswerTrue 2 none, Cond.methodLink RX4 75 yX2_holds, Cond.instanceMethod yX2_holds, Cond.selects RX2 yX2_holds yX2_holds, Cond.code yX2_holds cX2_holds 2 (some .boolean), Cond.methodLink RX4 156 yX2_lose, Cond.instanceMethod yX2_lose, Cond.selects RX2 yX2_lose yX2_lose, Cond.code yX2_lose cX2_lose 2 none, Cond.methodLink RX6 44 yX1_commit, Cond.instanceMethod yX1_commit, Cond.selects RX1 yX1_commit yX1_commit, Cond.code yX1_commit cX1_commit 2 (some .int), Cond.fieldLink RX1 18 "LoopMemo$History" "size" "I"]
def wsL_isRow_r7 : List Cond := [Cond.methodLink RX1 33 Lib.Math.min.name, Cond.methodLink RL 73 yL_kept, Cond.static yL_kept, Cond.initialized RL, Cond.code yL_kept cL_kept 6 none, Cond.methodLink RL 31 yL_has, Cond.static yL_has, Cond.code yL_has cL_has 4 (some .boolean), Cond.methodLink RL 35 yL_goes, Cond.static yL_goes, Cond.code yL_goes cL_goes 6 (some .int), Cond.methodLink RL 9 yL_many, Cond.static yL_many, Cond.code yL_many cL_many 2 (some .int), Cond.methodLink RL 27 yL_out, Cond.static yL_out, Cond.code yL_out cL_out 5 none]
def wsL_isRow : List Cond := .code yL_isRow cL_isRow 11 (some .boolean) :: ((wsL_isRow_r1 ++ (wsL_isRow_r2 ++ (wsL_isRow_r3 ++ (wsL_isRow_r4 ++ (wsL_isRow_r5 ++ (wsL_isRow_r6 ++ wsL_isRow_r7)))))) ++ wsX60 ++ wsX10 ++ wsX40 ++ wsX50 ++ wsX00 ++ wsX20)
def wsL_isGone_r1 : List Cond := [Cond.methodLink RL 77 yX6_drop, Cond.instanceMethod yX6_drop, Cond.selects RX6 yX6_drop yX6_drop, Cond.initialized RX6, Cond.code yX6_drop cX6_drop 3 (some .int), Cond.fieldLink RX6 25 "LoopMemo" "history" "LLoopMemo$History;", Cond.fieldLink RX6 10 "LoopMemo" "now" "LLoopMemo$State;", Cond.methodLink RX6 36 yX1_prepare, Cond.instanceMethod yX1_prepare, Cond.selects RX1 yX1_prepare yX1_prepare, Cond.initialized RX1, Cond.code yX1_prepare cX1_prepare 3 none, Cond.fieldLink RX1 22 "LoopMemo$History" "next" "I", Cond.methodLink RX1 25 yX1_slot, Cond.instanceMethod yX1_slot, Cond.selects RX1 yX1_slot yX1_slot, Cond.code yX1_slot cX1_slot 2 (some (.object "LoopMemo$State")), Cond.fieldLink RX1 13 "LoopMemo$History" "slots" "[LLoopMemo$State;", Cond.methodLink RX1 29 yX4_copyFrom, Cond.instanceMethod yX4_copyFrom, Cond.selects RX4 yX4_copyFrom yX4_copyFrom, Cond.initialized RX4, Cond.code yX4_copyFrom cX4_copyFrom 2 none, Cond.fieldLink RX4 12 "LoopMemo$State" "outer" "LLoopMemo$Table;"]
def wsL_isGone_r2 : List Cond := [Cond.fieldLink RX4 18 "LoopMemo$State" "inner" "LLoopMemo$Table;", Cond.fieldLink RX4 24 "LoopMemo$State" "answers" "LLoopMemo$Answers;", Cond.fieldLink RX4 31 "LoopMemo$State" "memo" "LLoopMemo$Memo;", Cond.fieldLink RX4 44 "LoopMemo$State" "settings" "[I", Cond.fieldLink RX4 47 "LoopMemo$State" "tallies" "[I", Cond.fieldLink RX4 64 "LoopMemo$State" "place" "I", Cond.fieldLink RX4 68 "LoopMemo$State" "total" "I", Cond.methodLink RX4 50 yX5_copyFrom, Cond.instanceMethod yX5_copyFrom, Cond.selects RX5 yX5_copyFrom yX5_copyFrom, Cond.initialized RX5, Cond.code yX5_copyFrom cX5_copyFrom 2 none, Cond.fieldLink RX5 9 "LoopMemo$Table" "keys" "[I", Cond.fieldLink RX5 15 "LoopMemo$Table" "values" "[I", Cond.fieldLink RX5 22 "LoopMemo$Table" "size" "I", Cond.static yX6_copyNumbers, Cond.code yX6_copyNumbers cX6_copyNumbers 2 none, Cond.methodLink RX6 117 Lib.Math.min.name, Cond.static Lib.Math.min.name, Cond.initialized "java/lang/Math", Cond.code Lib.Math.min.name Lib.Math.min.code 2 (some .int), Cond.methodLink RX6 225 arraycopyName, Cond.native arraycopyName, Cond.static arraycopyName]
def wsL_isGone_r3 : List Cond := [Cond.initialized "java/lang/System", Cond.methodLink RX4 54 yX0_copyFrom, Cond.instanceMethod yX0_copyFrom, Cond.selects RX0 yX0_copyFrom yX0_copyFrom, Cond.initialized RX0, Cond.code yX0_copyFrom cX0_copyFrom 2 none, Cond.fieldLink RX0 9 "LoopMemo$Answers" "rows" "[I", Cond.fieldLink RX0 15 "LoopMemo$Answers" "sums" "[I", Cond.fieldLink RX0 18 "LoopMemo$Answers" "firstRows" "[I", Cond.methodLink RX4 57 yX2_copyFrom, Cond.instanceMethod yX2_copyFrom, Cond.selects RX2 yX2_copyFrom yX2_copyFrom, Cond.initialized RX2, Cond.code yX2_copyFrom cX2_copyFrom 2 none, Cond.fieldLink RX2 9 "LoopMemo$Memo" "uses" "[I", Cond.fieldLink RX2 15 "LoopMemo$Memo" "lastLooks" "[I", Cond.fieldLink RX2 18 "LoopMemo$Memo" "firstLooks" "[I", Cond.fieldLink RX2 25 "LoopMemo$Memo" "looks" "I", Cond.methodLink RX6 48 yX4_removeRow, Cond.instanceMethod yX4_removeRow, Cond.selects RX4 yX4_removeRow yX4_removeRow, Cond.code yX4_removeRow cX4_removeRow 5 (some .int), Cond.methodLink RX4 89 yX4_table, Cond.instanceMethod yX4_table]
def wsL_isGone_r4 : List Cond := [Cond.selects RX4 yX4_table yX4_table, Cond.code yX4_table cX4_table 2 (some (.object "LoopMemo$Table")), Cond.methodLink RX4 104 yX5_has, Cond.instanceMethod yX5_has, Cond.selects RX5 yX5_has yX5_has, Cond.code yX5_has cX5_has 2 (some .boolean), Cond.methodLink RX4 71 yX5_key, Cond.instanceMethod yX5_key, Cond.selects RX5 yX5_key yX5_key, Cond.code yX5_key cX5_key 2 (some .int), Cond.methodLink RX4 107 yX5_takeOut, Cond.instanceMethod yX5_takeOut, Cond.selects RX5 yX5_takeOut yX5_takeOut, Cond.code yX5_takeOut cX5_takeOut 3 none, Cond.methodLink RX5 30 yX5_has, Cond.methodLink RX5 34 yX5_key, Cond.methodLink RX5 38 yX5_value, Cond.instanceMethod yX5_value, Cond.selects RX5 yX5_value yX5_value, Cond.code yX5_value cX5_value 2 (some .int), Cond.methodLink RX5 26 yX5_put, Cond.instanceMethod yX5_put, Cond.selects RX5 yX5_put yX5_put, Cond.code yX5_put cX5_put 4 none]
def wsL_isGone_r5 : List Cond := [Cond.methodLink RX4 101 yX4_keepTrue, Cond.instanceMethod yX4_keepTrue, Cond.selects RX4 yX4_keepTrue yX4_keepTrue, Cond.code yX4_keepTrue cX4_keepTrue 3 none, Cond.methodLink RX4 134 yX4_findAnswers, Cond.instanceMethod yX4_findAnswers, Cond.selects RX4 yX4_findAnswers yX4_findAnswers, Cond.code yX4_findAnswers cX4_findAnswers 1 none, Cond.methodLink RX4 162 yX0_find, Cond.instanceMethod yX0_find, Cond.selects RX0 yX0_find yX0_find, Cond.code yX0_find cX0_find 7 none, Cond.methodLink RX0 25 yX5_size, Cond.instanceMethod yX5_size, Cond.selects RX5 yX5_size yX5_size, Cond.code yX5_size cX5_size 1 (some .int), Cond.methodLink RX0 31 yX5_value, Cond.methodLink RX0 35 yX5_key, Cond.methodLink RX4 137 yX4_throwAllOut, Cond.instanceMethod yX4_throwAllOut, Cond.selects RX4 yX4_throwAllOut yX4_throwAllOut, Cond.code yX4_throwAllOut cX4_throwAllOut 2 (some .int), Cond.methodLink RX4 125 yX2_loseAll, Cond.instanceMethod yX2_loseAll]
def wsL_isGone_r6 : List Cond := [Cond.selects RX2 yX2_loseAll yX2_loseAll, Cond.code yX2_loseAll cX2_loseAll 3 (some .int), Cond.methodLink RX2 29 yX2_size, Cond.instanceMethod yX2_size, Cond.selects RX2 yX2_size yX2_size, Cond.code yX2_size cX2_size 3 (some .int), Cond.methodLink RX4 159 yX4_keepAnswerTrue, Cond.instanceMethod yX4_keepAnswerTrue, Cond.selects RX4 yX4_keepAnswerTrue yX4_keepAnswerTrue, Cond.code yX4_keepAnswerTrue cX4_keepAnswerTrue 2 none, Cond.methodLink RX4 75 yX2_holds, Cond.instanceMethod yX2_holds, Cond.selects RX2 yX2_holds yX2_holds, Cond.code yX2_holds cX2_holds 2 (some .boolean), Cond.methodLink RX4 156 yX2_lose, Cond.instanceMethod yX2_lose, Cond.selects RX2 yX2_lose yX2_lose, Cond.code yX2_lose cX2_lose 2 none, Cond.methodLink RX4 111 yX4_isDone, Cond.instanceMethod yX4_isDone, Cond.selects RX4 yX4_isDone yX4_isDone, Cond.code yX4_isDone cX4_isDone 2 (some .boolean), Cond.methodLink RX4 93 yX5_size, Cond.methodLink RX6 44 yX1_commit]
def wsL_isGone_r7 : List Cond := [Cond.instanceMethod yX1_commit, Cond.selects RX1 yX1_commit yX1_commit, Cond.code yX1_commit cX1_commit 2 (some .int), Cond.fieldLink RX1 18 "LoopMemo$History" "size" "I", Cond.methodLink RX1 33 Lib.Math.min.name, Cond.methodLink RL 73 yL_kept, Cond.static yL_kept, Cond.initialized RL, Cond.code yL_kept cL_kept 6 none, Cond.methodLink RL 31 yL_has, Cond.static yL_has, Cond.code yL_has cL_has 4 (some .boolean), Cond.methodLink RL 35 yL_goes, Cond.static yL_goes, Cond.code yL_goes cL_goes 6 (some .int), Cond.methodLink RL 9 yL_many, Cond.static yL_many, Cond.code yL_many cL_many 2 (some .int), Cond.methodLink RL 27 yL_out, Cond.static yL_out, Cond.code yL_out cL_out 5 none]
def wsL_isGone : List Cond := .code yL_isGone cL_isGone 10 (some .boolean) :: ((wsL_isGone_r1 ++ (wsL_isGone_r2 ++ (wsL_isGone_r3 ++ (wsL_isGone_r4 ++ (wsL_isGone_r5 ++ (wsL_isGone_r6 ++ wsL_isGone_r7)))))) ++ wsX60 ++ wsX10 ++ wsX40 ++ wsX50 ++ wsX00 ++ wsX20)
def wsL_isSet_r1 : List Cond := [Cond.methodLink RL 39 yL_room, Cond.static yL_room, Cond.initialized RL, Cond.code yL_room cL_room 8 (some .int), Cond.methodLink RL 19 yL_first, Cond.static yL_first, Cond.code yL_first cL_first 9 (some .int), Cond.methodLink RL 9 yL_many, Cond.static yL_many, Cond.code yL_many cL_many 2 (some .int), Cond.methodLink RL 23 yL_weights, Cond.static yL_weights, Cond.code yL_weights cL_weights 5 (some .int), Cond.methodLink RL 15 yL_weight, Cond.static yL_weight, Cond.code yL_weight cL_weight 7 (some .int), Cond.methodLink RL 27 yL_out, Cond.static yL_out, Cond.code yL_out cL_out 5 none, Cond.methodLink RL 35 yL_goes, Cond.static yL_goes, Cond.code yL_goes cL_goes 6 (some .int), Cond.methodLink RL 81 yX6_set, Cond.instanceMethod yX6_set]
def wsL_isSet_r2 : List Cond := [Cond.selects RX6 yX6_set yX6_set, Cond.initialized RX6, Cond.code yX6_set cX6_set 3 (some .int), Cond.fieldLink RX6 25 "LoopMemo" "history" "LLoopMemo$History;", Cond.fieldLink RX6 10 "LoopMemo" "now" "LLoopMemo$State;", Cond.methodLink RX6 36 yX1_prepare, Cond.instanceMethod yX1_prepare, Cond.selects RX1 yX1_prepare yX1_prepare, Cond.initialized RX1, Cond.code yX1_prepare cX1_prepare 3 none, Cond.fieldLink RX1 22 "LoopMemo$History" "next" "I", Cond.methodLink RX1 25 yX1_slot, Cond.instanceMethod yX1_slot, Cond.selects RX1 yX1_slot yX1_slot, Cond.code yX1_slot cX1_slot 2 (some (.object "LoopMemo$State")), Cond.fieldLink RX1 13 "LoopMemo$History" "slots" "[LLoopMemo$State;", Cond.methodLink RX1 29 yX4_copyFrom, Cond.instanceMethod yX4_copyFrom, Cond.selects RX4 yX4_copyFrom yX4_copyFrom, Cond.initialized RX4, Cond.code yX4_copyFrom cX4_copyFrom 2 none, Cond.fieldLink RX4 12 "LoopMemo$State" "outer" "LLoopMemo$Table;", Cond.fieldLink RX4 18 "LoopMemo$State" "inner" "LLoopMemo$Table;", Cond.fieldLink RX4 24 "LoopMemo$State" "answers" "LLoopMemo$Answers;"]
def wsL_isSet_r3 : List Cond := [Cond.fieldLink RX4 31 "LoopMemo$State" "memo" "LLoopMemo$Memo;", Cond.fieldLink RX4 44 "LoopMemo$State" "settings" "[I", Cond.fieldLink RX4 47 "LoopMemo$State" "tallies" "[I", Cond.fieldLink RX4 64 "LoopMemo$State" "place" "I", Cond.fieldLink RX4 68 "LoopMemo$State" "total" "I", Cond.methodLink RX4 50 yX5_copyFrom, Cond.instanceMethod yX5_copyFrom, Cond.selects RX5 yX5_copyFrom yX5_copyFrom, Cond.initialized RX5, Cond.code yX5_copyFrom cX5_copyFrom 2 none, Cond.fieldLink RX5 9 "LoopMemo$Table" "keys" "[I", Cond.fieldLink RX5 15 "LoopMemo$Table" "values" "[I", Cond.fieldLink RX5 22 "LoopMemo$Table" "size" "I", Cond.static yX6_copyNumbers, Cond.code yX6_copyNumbers cX6_copyNumbers 2 none, Cond.methodLink RX6 117 Lib.Math.min.name, Cond.static Lib.Math.min.name, Cond.initialized "java/lang/Math", Cond.code Lib.Math.min.name Lib.Math.min.code 2 (some .int), Cond.methodLink RX6 225 arraycopyName, Cond.native arraycopyName, Cond.static arraycopyName, Cond.initialized "java/lang/System", Cond.methodLink RX4 54 yX0_copyFrom]
def wsL_isSet_r4 : List Cond := [Cond.instanceMethod yX0_copyFrom, Cond.selects RX0 yX0_copyFrom yX0_copyFrom, Cond.initialized RX0, Cond.code yX0_copyFrom cX0_copyFrom 2 none, Cond.fieldLink RX0 9 "LoopMemo$Answers" "rows" "[I", Cond.fieldLink RX0 15 "LoopMemo$Answers" "sums" "[I", Cond.fieldLink RX0 18 "LoopMemo$Answers" "firstRows" "[I", Cond.methodLink RX4 57 yX2_copyFrom, Cond.instanceMethod yX2_copyFrom, Cond.selects RX2 yX2_copyFrom yX2_copyFrom, Cond.initialized RX2, Cond.code yX2_copyFrom cX2_copyFrom 2 none, Cond.fieldLink RX2 9 "LoopMemo$Memo" "uses" "[I", Cond.fieldLink RX2 15 "LoopMemo$Memo" "lastLooks" "[I", Cond.fieldLink RX2 18 "LoopMemo$Memo" "firstLooks" "[I", Cond.fieldLink RX2 25 "LoopMemo$Memo" "looks" "I", Cond.methodLink RX6 66 yX4_adjust, Cond.instanceMethod yX4_adjust, Cond.selects RX4 yX4_adjust yX4_adjust, Cond.code yX4_adjust cX4_adjust 3 (some .int), Cond.fieldLink RX4 128 "LoopMemo$State" "HIGHEST_SETTINGS" "[I", Cond.methodLink RX4 131 yX4_makeRoom, Cond.instanceMethod yX4_makeRoom, Cond.selects RX4 yX4_makeRoom yX4_makeRoom]
def wsL_isSet_r5 : List Cond := [Cond.code yX4_makeRoom cX4_makeRoom 5 (some .int), Cond.methodLink RX4 149 yX4_weightTogether, Cond.instanceMethod yX4_weightTogether, Cond.selects RX4 yX4_weightTogether yX4_weightTogether, Cond.code yX4_weightTogether cX4_weightTogether 3 (some .int), Cond.methodLink RX4 75 yX2_holds, Cond.instanceMethod yX2_holds, Cond.selects RX2 yX2_holds yX2_holds, Cond.code yX2_holds cX2_holds 2 (some .boolean), Cond.methodLink RX4 140 yX0_weight, Cond.instanceMethod yX0_weight, Cond.selects RX0 yX0_weight yX0_weight, Cond.code yX0_weight cX0_weight 2 (some .int), Cond.methodLink RX4 152 yX2_firstOut, Cond.instanceMethod yX2_firstOut, Cond.selects RX2 yX2_firstOut yX2_firstOut, Cond.code yX2_firstOut cX2_firstOut 5 (some .int), Cond.methodLink RX2 33 yX2_rank, Cond.instanceMethod yX2_rank, Cond.selects RX2 yX2_rank yX2_rank, Cond.code yX2_rank cX2_rank 3 (some .long), Cond.methodLink RX4 156 yX2_lose, Cond.instanceMethod yX2_lose, Cond.selects RX2 yX2_lose yX2_lose]
def wsL_isSet_r6 : List Cond := [Cond.code yX2_lose cX2_lose 2 none, Cond.methodLink RX4 134 yX4_findAnswers, Cond.instanceMethod yX4_findAnswers, Cond.selects RX4 yX4_findAnswers yX4_findAnswers, Cond.code yX4_findAnswers cX4_findAnswers 1 none, Cond.methodLink RX4 162 yX0_find, Cond.instanceMethod yX0_find, Cond.selects RX0 yX0_find yX0_find, Cond.code yX0_find cX0_find 7 none, Cond.methodLink RX0 25 yX5_size, Cond.instanceMethod yX5_size, Cond.selects RX5 yX5_size yX5_size, Cond.code yX5_size cX5_size 1 (some .int), Cond.methodLink RX0 31 yX5_value, Cond.instanceMethod yX5_value, Cond.selects RX5 yX5_value yX5_value, Cond.code yX5_value cX5_value 2 (some .int), Cond.methodLink RX0 35 yX5_key, Cond.instanceMethod yX5_key, Cond.selects RX5 yX5_key yX5_key, Cond.code yX5_key cX5_key 2 (some .int), Cond.methodLink RX4 137 yX4_throwAllOut, Cond.instanceMethod yX4_throwAllOut, Cond.selects RX4 yX4_throwAllOut yX4_throwAllOut]
def wsL_isSet_r7 : List Cond := [Cond.code yX4_throwAllOut cX4_throwAllOut 2 (some .int), Cond.methodLink RX4 125 yX2_loseAll, Cond.instanceMethod yX2_loseAll, Cond.selects RX2 yX2_loseAll yX2_loseAll, Cond.code yX2_loseAll cX2_loseAll 3 (some .int), Cond.methodLink RX2 29 yX2_size, Cond.instanceMethod yX2_size, Cond.selects RX2 yX2_size yX2_size, Cond.code yX2_size cX2_size 3 (some .int), Cond.methodLink RX6 44 yX1_commit, Cond.instanceMethod yX1_commit, Cond.selects RX1 yX1_commit yX1_commit, Cond.code yX1_commit cX1_commit 2 (some .int), Cond.fieldLink RX1 18 "LoopMemo$History" "size" "I", Cond.methodLink RX1 33 Lib.Math.min.name]
def wsL_isSet : List Cond := .code yL_isSet cL_isSet 10 (some .boolean) :: ((wsL_isSet_r1 ++ (wsL_isSet_r2 ++ (wsL_isSet_r3 ++ (wsL_isSet_r4 ++ (wsL_isSet_r5 ++ (wsL_isSet_r6 ++ wsL_isSet_r7)))))) ++ wsX60 ++ wsX10 ++ wsX40 ++ wsX50 ++ wsX00 ++ wsX20)
def wsL_isActed_r1 : List Cond := [Cond.methodLink RL 84 yL_isRow, Cond.static yL_isRow, Cond.initialized RL, Cond.code yL_isRow cL_isRow 11 (some .boolean), Cond.methodLink RL 70 yX6_add, Cond.instanceMethod yX6_add, Cond.selects RX6 yX6_add yX6_add, Cond.initialized RX6, Cond.code yX6_add cX6_add 4 (some .int), Cond.fieldLink RX6 25 "LoopMemo" "history" "LLoopMemo$History;", Cond.fieldLink RX6 10 "LoopMemo" "now" "LLoopMemo$State;", Cond.methodLink RX6 36 yX1_prepare, Cond.instanceMethod yX1_prepare, Cond.selects RX1 yX1_prepare yX1_prepare, Cond.initialized RX1, Cond.code yX1_prepare cX1_prepare 3 none, Cond.fieldLink RX1 22 "LoopMemo$History" "next" "I", Cond.methodLink RX1 25 yX1_slot, Cond.instanceMethod yX1_slot, Cond.selects RX1 yX1_slot yX1_slot, Cond.code yX1_slot cX1_slot 2 (some (.object "LoopMemo$State")), Cond.fieldLink RX1 13 "LoopMemo$History" "slots" "[LLoopMemo$State;", Cond.methodLink RX1 29 yX4_copyFrom, Cond.instanceMethod yX4_copyFrom]
def wsL_isActed_r2 : List Cond := [Cond.selects RX4 yX4_copyFrom yX4_copyFrom, Cond.initialized RX4, Cond.code yX4_copyFrom cX4_copyFrom 2 none, Cond.fieldLink RX4 12 "LoopMemo$State" "outer" "LLoopMemo$Table;", Cond.fieldLink RX4 18 "LoopMemo$State" "inner" "LLoopMemo$Table;", Cond.fieldLink RX4 24 "LoopMemo$State" "answers" "LLoopMemo$Answers;", Cond.fieldLink RX4 31 "LoopMemo$State" "memo" "LLoopMemo$Memo;", Cond.fieldLink RX4 44 "LoopMemo$State" "settings" "[I", Cond.fieldLink RX4 47 "LoopMemo$State" "tallies" "[I", Cond.fieldLink RX4 64 "LoopMemo$State" "place" "I", Cond.fieldLink RX4 68 "LoopMemo$State" "total" "I", Cond.methodLink RX4 50 yX5_copyFrom, Cond.instanceMethod yX5_copyFrom, Cond.selects RX5 yX5_copyFrom yX5_copyFrom, Cond.initialized RX5, Cond.code yX5_copyFrom cX5_copyFrom 2 none, Cond.fieldLink RX5 9 "LoopMemo$Table" "keys" "[I", Cond.fieldLink RX5 15 "LoopMemo$Table" "values" "[I", Cond.fieldLink RX5 22 "LoopMemo$Table" "size" "I", Cond.static yX6_copyNumbers, Cond.code yX6_copyNumbers cX6_copyNumbers 2 none, Cond.methodLink RX6 117 Lib.Math.min.name, Cond.static Lib.Math.min.name, Cond.initialized "java/lang/Math"]
def wsL_isActed_r3 : List Cond := [Cond.code Lib.Math.min.name Lib.Math.min.code 2 (some .int), Cond.methodLink RX6 225 arraycopyName, Cond.native arraycopyName, Cond.static arraycopyName, Cond.initialized "java/lang/System", Cond.methodLink RX4 54 yX0_copyFrom, Cond.instanceMethod yX0_copyFrom, Cond.selects RX0 yX0_copyFrom yX0_copyFrom, Cond.initialized RX0, Cond.code yX0_copyFrom cX0_copyFrom 2 none, Cond.fieldLink RX0 9 "LoopMemo$Answers" "rows" "[I", Cond.fieldLink RX0 15 "LoopMemo$Answers" "sums" "[I", Cond.fieldLink RX0 18 "LoopMemo$Answers" "firstRows" "[I", Cond.methodLink RX4 57 yX2_copyFrom, Cond.instanceMethod yX2_copyFrom, Cond.selects RX2 yX2_copyFrom yX2_copyFrom, Cond.initialized RX2, Cond.code yX2_copyFrom cX2_copyFrom 2 none, Cond.fieldLink RX2 9 "LoopMemo$Memo" "uses" "[I", Cond.fieldLink RX2 15 "LoopMemo$Memo" "lastLooks" "[I", Cond.fieldLink RX2 18 "LoopMemo$Memo" "firstLooks" "[I", Cond.fieldLink RX2 25 "LoopMemo$Memo" "looks" "I", Cond.methodLink RX6 40 yX4_insertRow, Cond.instanceMethod yX4_insertRow]
def wsL_isActed_r4 : List Cond := [Cond.selects RX4 yX4_insertRow yX4_insertRow, Cond.code yX4_insertRow cX4_insertRow 5 (some .int), Cond.static yX6_isRow, Cond.code yX6_isRow cX6_isRow 2 (some .boolean), Cond.methodLink RX6 147 yX6_isKey, Cond.static yX6_isKey, Cond.code yX6_isKey cX6_isKey 1 (some .boolean), Cond.methodLink RX6 76 yX6_isWithin, Cond.static yX6_isWithin, Cond.code yX6_isWithin cX6_isWithin 2 (some .boolean), Cond.methodLink RX4 89 yX4_table, Cond.instanceMethod yX4_table, Cond.selects RX4 yX4_table yX4_table, Cond.code yX4_table cX4_table 2 (some (.object "LoopMemo$Table")), Cond.methodLink RX4 93 yX5_size, Cond.instanceMethod yX5_size, Cond.selects RX5 yX5_size yX5_size, Cond.code yX5_size cX5_size 1 (some .int), Cond.methodLink RX4 97 yX5_push, Cond.instanceMethod yX5_push, Cond.selects RX5 yX5_push yX5_push, Cond.code yX5_push cX5_push 3 none, Cond.methodLink RX5 26 yX5_put, Cond.instanceMethod yX5_put]
def wsL_isActed_r5 : List Cond := [Cond.selects RX5 yX5_put yX5_put, Cond.code yX5_put cX5_put 4 none, Cond.methodLink RX4 101 yX4_keepTrue, Cond.instanceMethod yX4_keepTrue, Cond.selects RX4 yX4_keepTrue yX4_keepTrue, Cond.code yX4_keepTrue cX4_keepTrue 3 none, Cond.methodLink RX4 134 yX4_findAnswers, Cond.instanceMethod yX4_findAnswers, Cond.selects RX4 yX4_findAnswers yX4_findAnswers, Cond.code yX4_findAnswers cX4_findAnswers 1 none, Cond.methodLink RX4 162 yX0_find, Cond.instanceMethod yX0_find, Cond.selects RX0 yX0_find yX0_find, Cond.code yX0_find cX0_find 7 none, Cond.methodLink RX0 25 yX5_size, Cond.methodLink RX0 31 yX5_value, Cond.instanceMethod yX5_value, Cond.selects RX5 yX5_value yX5_value, Cond.code yX5_value cX5_value 2 (some .int), Cond.methodLink RX0 35 yX5_key, Cond.instanceMethod yX5_key, Cond.selects RX5 yX5_key yX5_key, Cond.code yX5_key cX5_key 2 (some .int), Cond.methodLink RX4 137 yX4_throwAllOut]
def wsL_isActed_r6 : List Cond := [Cond.instanceMethod yX4_throwAllOut, Cond.selects RX4 yX4_throwAllOut yX4_throwAllOut, Cond.code yX4_throwAllOut cX4_throwAllOut 2 (some .int), Cond.methodLink RX4 125 yX2_loseAll, Cond.instanceMethod yX2_loseAll, Cond.selects RX2 yX2_loseAll yX2_loseAll, Cond.code yX2_loseAll cX2_loseAll 3 (some .int), Cond.methodLink RX2 29 yX2_size, Cond.instanceMethod yX2_size, Cond.selects RX2 yX2_size yX2_size, Cond.code yX2_size cX2_size 3 (some .int), Cond.methodLink RX4 159 yX4_keepAnswerTrue, Cond.instanceMethod yX4_keepAnswerTrue, Cond.selects RX4 yX4_keepAnswerTrue yX4_keepAnswerTrue, Cond.code yX4_keepAnswerTrue cX4_keepAnswerTrue 2 none, Cond.methodLink RX4 75 yX2_holds, Cond.instanceMethod yX2_holds, Cond.selects RX2 yX2_holds yX2_holds, Cond.code yX2_holds cX2_holds 2 (some .boolean), Cond.methodLink RX4 156 yX2_lose, Cond.instanceMethod yX2_lose, Cond.selects RX2 yX2_lose yX2_lose, Cond.code yX2_lose cX2_lose 2 none, Cond.methodLink RX6 44 yX1_commit]
def wsL_isActed_r7 : List Cond := [Cond.instanceMethod yX1_commit, Cond.selects RX1 yX1_commit yX1_commit, Cond.code yX1_commit cX1_commit 2 (some .int), Cond.fieldLink RX1 18 "LoopMemo$History" "size" "I", Cond.methodLink RX1 33 Lib.Math.min.name, Cond.methodLink RL 73 yL_kept, Cond.static yL_kept, Cond.code yL_kept cL_kept 6 none, Cond.methodLink RL 31 yL_has, Cond.static yL_has, Cond.code yL_has cL_has 4 (some .boolean), Cond.methodLink RL 35 yL_goes, Cond.static yL_goes, Cond.code yL_goes cL_goes 6 (some .int), Cond.methodLink RL 9 yL_many, Cond.static yL_many, Cond.code yL_many cL_many 2 (some .int), Cond.methodLink RL 27 yL_out, Cond.static yL_out, Cond.code yL_out cL_out 5 none, Cond.methodLink RL 88 yL_isGone, Cond.static yL_isGone, Cond.code yL_isGone cL_isGone 10 (some .boolean), Cond.methodLink RL 77 yX6_drop]
def wsL_isActed_r8 : List Cond := [Cond.instanceMethod yX6_drop, Cond.selects RX6 yX6_drop yX6_drop, Cond.code yX6_drop cX6_drop 3 (some .int), Cond.methodLink RX6 48 yX4_removeRow, Cond.instanceMethod yX4_removeRow, Cond.selects RX4 yX4_removeRow yX4_removeRow, Cond.code yX4_removeRow cX4_removeRow 5 (some .int), Cond.methodLink RX4 104 yX5_has, Cond.instanceMethod yX5_has, Cond.selects RX5 yX5_has yX5_has, Cond.code yX5_has cX5_has 2 (some .boolean), Cond.methodLink RX4 71 yX5_key, Cond.methodLink RX4 107 yX5_takeOut, Cond.instanceMethod yX5_takeOut, Cond.selects RX5 yX5_takeOut yX5_takeOut, Cond.code yX5_takeOut cX5_takeOut 3 none, Cond.methodLink RX5 30 yX5_has, Cond.methodLink RX5 34 yX5_key, Cond.methodLink RX5 38 yX5_value, Cond.methodLink RX4 111 yX4_isDone, Cond.instanceMethod yX4_isDone, Cond.selects RX4 yX4_isDone yX4_isDone, Cond.code yX4_isDone cX4_isDone 2 (some .boolean), Cond.methodLink RL 91 yX6_change]
def wsL_isActed_r9 : List Cond := [Cond.instanceMethod yX6_change, Cond.selects RX6 yX6_change yX6_change, Cond.code yX6_change cX6_change 4 (some .int), Cond.methodLink RX6 52 yX4_rewriteRow, Cond.instanceMethod yX4_rewriteRow, Cond.selects RX4 yX4_rewriteRow yX4_rewriteRow, Cond.code yX4_rewriteRow cX4_rewriteRow 5 (some .int), Cond.methodLink RX4 114 yX5_put, Cond.methodLink RX4 118 yX2_size, Cond.methodLink RL 95 yL_steps, Cond.static yL_steps, Cond.code yL_steps cL_steps 10 (some .int), Cond.methodLink RL 43 yL_look, Cond.static yL_look, Cond.code yL_look cL_look 7 (some .int), Cond.methodLink RL 15 yL_weight, Cond.static yL_weight, Cond.code yL_weight cL_weight 7 (some .int), Cond.methodLink RL 39 yL_room, Cond.static yL_room, Cond.code yL_room cL_room 8 (some .int), Cond.methodLink RL 19 yL_first, Cond.static yL_first, Cond.code yL_first cL_first 9 (some .int)]
def wsL_isActed_r10 : List Cond := [Cond.methodLink RL 23 yL_weights, Cond.static yL_weights, Cond.code yL_weights cL_weights 5 (some .int), Cond.methodLink RL 99 yX6_step, Cond.instanceMethod yX6_step, Cond.selects RX6 yX6_step yX6_step, Cond.code yX6_step cX6_step 2 (some .int), Cond.methodLink RX6 56 yX4_walk, Cond.instanceMethod yX4_walk, Cond.selects RX4 yX4_walk yX4_walk, Cond.code yX4_walk cX4_walk 5 (some .int), Cond.methodLink RX4 119 yX4_lookUp, Cond.instanceMethod yX4_lookUp, Cond.selects RX4 yX4_lookUp yX4_lookUp, Cond.code yX4_lookUp cX4_lookUp 2 none, Cond.methodLink RX4 143 yX2_touch, Cond.instanceMethod yX2_touch, Cond.selects RX2 yX2_touch yX2_touch, Cond.code yX2_touch cX2_touch 2 none, Cond.methodLink RX4 140 yX0_weight, Cond.instanceMethod yX0_weight, Cond.selects RX0 yX0_weight yX0_weight, Cond.code yX0_weight cX0_weight 2 (some .int), Cond.methodLink RX4 146 yX2_take]
def wsL_isActed_r11 : List Cond := [Cond.instanceMethod yX2_take, Cond.selects RX2 yX2_take yX2_take, Cond.code yX2_take cX2_take 2 none, Cond.methodLink RX4 131 yX4_makeRoom, Cond.instanceMethod yX4_makeRoom, Cond.selects RX4 yX4_makeRoom yX4_makeRoom, Cond.code yX4_makeRoom cX4_makeRoom 5 (some .int), Cond.methodLink RX4 149 yX4_weightTogether, Cond.instanceMethod yX4_weightTogether, Cond.selects RX4 yX4_weightTogether yX4_weightTogether, Cond.code yX4_weightTogether cX4_weightTogether 3 (some .int), Cond.methodLink RX4 152 yX2_firstOut, Cond.instanceMethod yX2_firstOut, Cond.selects RX2 yX2_firstOut yX2_firstOut, Cond.code yX2_firstOut cX2_firstOut 5 (some .int), Cond.methodLink RX2 33 yX2_rank, Cond.instanceMethod yX2_rank, Cond.selects RX2 yX2_rank yX2_rank, Cond.code yX2_rank cX2_rank 3 (some .long), Cond.methodLink RX4 79 yX5_value, Cond.methodLink RX4 122 yX0_sum, Cond.instanceMethod yX0_sum, Cond.selects RX0 yX0_sum yX0_sum, Cond.code yX0_sum cX0_sum 2 (some .int)]
def wsL_isActed_r12 : List Cond := [Cond.methodLink RL 102 yX6_again, Cond.instanceMethod yX6_again, Cond.selects RX6 yX6_again yX6_again, Cond.code yX6_again cX6_again 1 (some .int), Cond.methodLink RX6 59 yX4_beginAgain, Cond.instanceMethod yX4_beginAgain, Cond.selects RX4 yX4_beginAgain yX4_beginAgain, Cond.code yX4_beginAgain cX4_beginAgain 2 (some .int), Cond.methodLink RL 106 yX6_forget, Cond.instanceMethod yX6_forget, Cond.selects RX6 yX6_forget yX6_forget, Cond.code yX6_forget cX6_forget 1 (some .int), Cond.methodLink RX6 63 yX4_throwAllOut, Cond.methodLink RL 109 yL_isSet, Cond.static yL_isSet, Cond.code yL_isSet cL_isSet 10 (some .boolean), Cond.methodLink RL 81 yX6_set, Cond.instanceMethod yX6_set, Cond.selects RX6 yX6_set yX6_set, Cond.code yX6_set cX6_set 3 (some .int), Cond.methodLink RX6 66 yX4_adjust, Cond.instanceMethod yX4_adjust, Cond.selects RX4 yX4_adjust yX4_adjust, Cond.code yX4_adjust cX4_adjust 3 (some .int)]
def wsL_isActed_r13 : List Cond := [Cond.fieldLink RX4 128 "LoopMemo$State" "HIGHEST_SETTINGS" "[I"]
def wsL_isActed : List Cond := .code yL_isActed cL_isActed 12 (some .boolean) :: ((wsL_isActed_r1 ++ (wsL_isActed_r2 ++ (wsL_isActed_r3 ++ (wsL_isActed_r4 ++ (wsL_isActed_r5 ++ (wsL_isActed_r6 ++ (wsL_isActed_r7 ++ (wsL_isActed_r8 ++ (wsL_isActed_r9 ++ (wsL_isActed_r10 ++ (wsL_isActed_r11 ++ (wsL_isActed_r12 ++ wsL_isActed_r13)))))))))))) ++ wsX60 ++ wsX10 ++ wsX40 ++ wsX50 ++ wsX00 ++ wsX20)
def wsL_law_r1 : List Cond := [Cond.classLink RL 47 RX6, Cond.instantiable RX6 9, Cond.initialized RX6, Cond.arrayClass .int, Cond.constant RL 8 (2147483647), Cond.methodLink RL 113 yX6_init, Cond.instanceMethod yX6_init, Cond.code yX6_init cX6_init 1 none, Cond.methodLink RX6 1 objectInit, Cond.instanceMethod objectInit, Cond.code objectInit ⟨#[0xb1]⟩ 1 none, Cond.classLink RX6 7 RX4, Cond.instantiable RX4 8, Cond.initialized RX4, Cond.fieldLink RX6 10 "LoopMemo" "now" "LLoopMemo$State;", Cond.fieldLink RX6 16 "LoopMemo" "trial" "LLoopMemo$State;", Cond.fieldLink RX6 19 "LoopMemo" "snapshot" "LLoopMemo$State;", Cond.classLink RX6 22 RX1, Cond.instantiable RX1 3, Cond.initialized RX1, Cond.fieldLink RX6 25 "LoopMemo" "history" "LLoopMemo$History;", Cond.classLink RX6 29 RX3, Cond.instantiable RX3 9, Cond.initialized RX3]
def wsL_law_r2 : List Cond := [Cond.fieldLink RX6 32 "LoopMemo" "pad" "LLoopMemo$Pad;", Cond.methodLink RX6 9 yX4_init, Cond.instanceMethod yX4_init, Cond.code yX4_init cX4_init 1 none, Cond.methodLink RX4 3 objectInit, Cond.classLink RX4 9 RX5, Cond.instantiable RX5 3, Cond.initialized RX5, Cond.fieldLink RX4 12 "LoopMemo$State" "outer" "LLoopMemo$Table;", Cond.fieldLink RX4 18 "LoopMemo$State" "inner" "LLoopMemo$Table;", Cond.classLink RX4 21 RX0, Cond.instantiable RX0 3, Cond.initialized RX0, Cond.fieldLink RX4 24 "LoopMemo$State" "answers" "LLoopMemo$Answers;", Cond.classLink RX4 28 RX2, Cond.instantiable RX2 4, Cond.initialized RX2, Cond.fieldLink RX4 31 "LoopMemo$State" "memo" "LLoopMemo$Memo;", Cond.fieldLink RX4 35 "LoopMemo$State" "FIRST_SETTINGS" "[I", Cond.methodLink RX4 39 ⟨"[I", "clone", "()Ljava/lang/Object;"⟩, Cond.sameMethod "[I" "java/lang/Object" "clone" "()Ljava/lang/Object;", Cond.native ⟨"java/lang/Object", "clone", "()Ljava/lang/Object;"⟩, Cond.instanceMethod ⟨"java/lang/Object", "clone", "()Ljava/lang/Object;"⟩, Cond.selects "[I" ⟨"[I", "clone", "()Ljava/lang/Object;"⟩ ⟨"java/lang/Object", "clone", "()Ljava/lang/Object;"⟩]
def wsL_law_r3 : List Cond := [Cond.classLink RX4 40 "[I", Cond.fieldLink RX4 44 "LoopMemo$State" "settings" "[I", Cond.fieldLink RX4 47 "LoopMemo$State" "tallies" "[I", Cond.methodLink RX4 11 yX5_init, Cond.instanceMethod yX5_init, Cond.code yX5_init cX5_init 1 none, Cond.methodLink RX5 3 objectInit, Cond.fieldLink RX5 9 "LoopMemo$Table" "keys" "[I", Cond.fieldLink RX5 15 "LoopMemo$Table" "values" "[I", Cond.methodLink RX4 23 yX0_init, Cond.instanceMethod yX0_init, Cond.code yX0_init cX0_init 1 none, Cond.methodLink RX0 3 objectInit, Cond.fieldLink RX0 9 "LoopMemo$Answers" "rows" "[I", Cond.fieldLink RX0 15 "LoopMemo$Answers" "sums" "[I", Cond.fieldLink RX0 18 "LoopMemo$Answers" "firstRows" "[I", Cond.methodLink RX4 30 yX2_init, Cond.instanceMethod yX2_init, Cond.code yX2_init cX2_init 1 none, Cond.methodLink RX2 3 objectInit, Cond.fieldLink RX2 9 "LoopMemo$Memo" "uses" "[I", Cond.fieldLink RX2 15 "LoopMemo$Memo" "lastLooks" "[I", Cond.fieldLink RX2 18 "LoopMemo$Memo" "firstLooks" "[I", Cond.methodLink RX6 24 yX1_init]
def wsL_law_r4 : List Cond := [Cond.instanceMethod yX1_init, Cond.code yX1_init cX1_init 2 none, Cond.methodLink RX1 3 objectInit, Cond.classLink RX1 11 RX4, Cond.fieldLink RX1 13 "LoopMemo$History" "slots" "[LLoopMemo$State;", Cond.methodLink RX1 17 yX4_init, Cond.methodLink RX6 31 yX3_init, Cond.instanceMethod yX3_init, Cond.code yX3_init cX3_init 1 none, Cond.methodLink RX3 3 objectInit, Cond.fieldLink RX3 9 "LoopMemo$Pad" "codes" "[I", Cond.methodLink RL 114 yL_cell, Cond.static yL_cell, Cond.initialized RL, Cond.code yL_cell cL_cell 2 (some .int), Cond.constant RL 7 (40503), Cond.methodLink RL 118 yL_isActed, Cond.static yL_isActed, Cond.code yL_isActed cL_isActed 12 (some .boolean), Cond.methodLink RL 84 yL_isRow, Cond.static yL_isRow, Cond.code yL_isRow cL_isRow 11 (some .boolean), Cond.methodLink RL 70 yX6_add, Cond.instanceMethod yX6_add]
def wsL_law_r5 : List Cond := [Cond.selects RX6 yX6_add yX6_add, Cond.code yX6_add cX6_add 4 (some .int), Cond.methodLink RX6 36 yX1_prepare, Cond.instanceMethod yX1_prepare, Cond.selects RX1 yX1_prepare yX1_prepare, Cond.code yX1_prepare cX1_prepare 3 none, Cond.fieldLink RX1 22 "LoopMemo$History" "next" "I", Cond.methodLink RX1 25 yX1_slot, Cond.instanceMethod yX1_slot, Cond.selects RX1 yX1_slot yX1_slot, Cond.code yX1_slot cX1_slot 2 (some (.object "LoopMemo$State")), Cond.methodLink RX1 29 yX4_copyFrom, Cond.instanceMethod yX4_copyFrom, Cond.selects RX4 yX4_copyFrom yX4_copyFrom, Cond.code yX4_copyFrom cX4_copyFrom 2 none, Cond.fieldLink RX4 64 "LoopMemo$State" "place" "I", Cond.fieldLink RX4 68 "LoopMemo$State" "total" "I", Cond.methodLink RX4 50 yX5_copyFrom, Cond.instanceMethod yX5_copyFrom, Cond.selects RX5 yX5_copyFrom yX5_copyFrom, Cond.code yX5_copyFrom cX5_copyFrom 2 none, Cond.fieldLink RX5 22 "LoopMemo$Table" "size" "I", Cond.static yX6_copyNumbers, Cond.code yX6_copyNumbers cX6_copyNumbers 2 none]
def wsL_law_r6 : List Cond := [Cond.methodLink RX6 117 Lib.Math.min.name, Cond.static Lib.Math.min.name, Cond.initialized "java/lang/Math", Cond.code Lib.Math.min.name Lib.Math.min.code 2 (some .int), Cond.methodLink RX6 225 arraycopyName, Cond.native arraycopyName, Cond.static arraycopyName, Cond.initialized "java/lang/System", Cond.methodLink RX4 54 yX0_copyFrom, Cond.instanceMethod yX0_copyFrom, Cond.selects RX0 yX0_copyFrom yX0_copyFrom, Cond.code yX0_copyFrom cX0_copyFrom 2 none, Cond.methodLink RX4 57 yX2_copyFrom, Cond.instanceMethod yX2_copyFrom, Cond.selects RX2 yX2_copyFrom yX2_copyFrom, Cond.code yX2_copyFrom cX2_copyFrom 2 none, Cond.fieldLink RX2 25 "LoopMemo$Memo" "looks" "I", Cond.methodLink RX6 40 yX4_insertRow, Cond.instanceMethod yX4_insertRow, Cond.selects RX4 yX4_insertRow yX4_insertRow, Cond.code yX4_insertRow cX4_insertRow 5 (some .int), Cond.static yX6_isRow, Cond.code yX6_isRow cX6_isRow 2 (some .boolean), Cond.methodLink RX6 147 yX6_isKey]
def wsL_law_r7 : List Cond := [Cond.static yX6_isKey, Cond.code yX6_isKey cX6_isKey 1 (some .boolean), Cond.methodLink RX6 76 yX6_isWithin, Cond.static yX6_isWithin, Cond.code yX6_isWithin cX6_isWithin 2 (some .boolean), Cond.methodLink RX4 89 yX4_table, Cond.instanceMethod yX4_table, Cond.selects RX4 yX4_table yX4_table, Cond.code yX4_table cX4_table 2 (some (.object "LoopMemo$Table")), Cond.methodLink RX4 93 yX5_size, Cond.instanceMethod yX5_size, Cond.selects RX5 yX5_size yX5_size, Cond.code yX5_size cX5_size 1 (some .int), Cond.methodLink RX4 97 yX5_push, Cond.instanceMethod yX5_push, Cond.selects RX5 yX5_push yX5_push, Cond.code yX5_push cX5_push 3 none, Cond.methodLink RX5 26 yX5_put, Cond.instanceMethod yX5_put, Cond.selects RX5 yX5_put yX5_put, Cond.code yX5_put cX5_put 4 none, Cond.methodLink RX4 101 yX4_keepTrue, Cond.instanceMethod yX4_keepTrue, Cond.selects RX4 yX4_keepTrue yX4_keepTrue]
def wsL_law_r8 : List Cond := [Cond.code yX4_keepTrue cX4_keepTrue 3 none, Cond.methodLink RX4 134 yX4_findAnswers, Cond.instanceMethod yX4_findAnswers, Cond.selects RX4 yX4_findAnswers yX4_findAnswers, Cond.code yX4_findAnswers cX4_findAnswers 1 none, Cond.methodLink RX4 162 yX0_find, Cond.instanceMethod yX0_find, Cond.selects RX0 yX0_find yX0_find, Cond.code yX0_find cX0_find 7 none, Cond.methodLink RX0 25 yX5_size, Cond.methodLink RX0 31 yX5_value, Cond.instanceMethod yX5_value, Cond.selects RX5 yX5_value yX5_value, Cond.code yX5_value cX5_value 2 (some .int), Cond.methodLink RX0 35 yX5_key, Cond.instanceMethod yX5_key, Cond.selects RX5 yX5_key yX5_key, Cond.code yX5_key cX5_key 2 (some .int), Cond.methodLink RX4 137 yX4_throwAllOut, Cond.instanceMethod yX4_throwAllOut, Cond.selects RX4 yX4_throwAllOut yX4_throwAllOut, Cond.code yX4_throwAllOut cX4_throwAllOut 2 (some .int), Cond.methodLink RX4 125 yX2_loseAll, Cond.instanceMethod yX2_loseAll]
def wsL_law_r9 : List Cond := [Cond.selects RX2 yX2_loseAll yX2_loseAll, Cond.code yX2_loseAll cX2_loseAll 3 (some .int), Cond.methodLink RX2 29 yX2_size, Cond.instanceMethod yX2_size, Cond.selects RX2 yX2_size yX2_size, Cond.code yX2_size cX2_size 3 (some .int), Cond.methodLink RX4 159 yX4_keepAnswerTrue, Cond.instanceMethod yX4_keepAnswerTrue, Cond.selects RX4 yX4_keepAnswerTrue yX4_keepAnswerTrue, Cond.code yX4_keepAnswerTrue cX4_keepAnswerTrue 2 none, Cond.methodLink RX4 75 yX2_holds, Cond.instanceMethod yX2_holds, Cond.selects RX2 yX2_holds yX2_holds, Cond.code yX2_holds cX2_holds 2 (some .boolean), Cond.methodLink RX4 156 yX2_lose, Cond.instanceMethod yX2_lose, Cond.selects RX2 yX2_lose yX2_lose, Cond.code yX2_lose cX2_lose 2 none, Cond.methodLink RX6 44 yX1_commit, Cond.instanceMethod yX1_commit, Cond.selects RX1 yX1_commit yX1_commit, Cond.code yX1_commit cX1_commit 2 (some .int), Cond.fieldLink RX1 18 "LoopMemo$History" "size" "I", Cond.methodLink RX1 33 Lib.Math.min.name]
def wsL_law_r10 : List Cond := [Cond.methodLink RL 73 yL_kept, Cond.static yL_kept, Cond.code yL_kept cL_kept 6 none, Cond.methodLink RL 31 yL_has, Cond.static yL_has, Cond.code yL_has cL_has 4 (some .boolean), Cond.methodLink RL 35 yL_goes, Cond.static yL_goes, Cond.code yL_goes cL_goes 6 (some .int), Cond.methodLink RL 9 yL_many, Cond.static yL_many, Cond.code yL_many cL_many 2 (some .int), Cond.methodLink RL 27 yL_out, Cond.static yL_out, Cond.code yL_out cL_out 5 none, Cond.methodLink RL 88 yL_isGone, Cond.static yL_isGone, Cond.code yL_isGone cL_isGone 10 (some .boolean), Cond.methodLink RL 77 yX6_drop, Cond.instanceMethod yX6_drop, Cond.selects RX6 yX6_drop yX6_drop, Cond.code yX6_drop cX6_drop 3 (some .int), Cond.methodLink RX6 48 yX4_removeRow, Cond.instanceMethod yX4_removeRow]
def wsL_law_r11 : List Cond := [Cond.selects RX4 yX4_removeRow yX4_removeRow, Cond.code yX4_removeRow cX4_removeRow 5 (some .int), Cond.methodLink RX4 104 yX5_has, Cond.instanceMethod yX5_has, Cond.selects RX5 yX5_has yX5_has, Cond.code yX5_has cX5_has 2 (some .boolean), Cond.methodLink RX4 71 yX5_key, Cond.methodLink RX4 107 yX5_takeOut, Cond.instanceMethod yX5_takeOut, Cond.selects RX5 yX5_takeOut yX5_takeOut, Cond.code yX5_takeOut cX5_takeOut 3 none, Cond.methodLink RX5 30 yX5_has, Cond.methodLink RX5 34 yX5_key, Cond.methodLink RX5 38 yX5_value, Cond.methodLink RX4 111 yX4_isDone, Cond.instanceMethod yX4_isDone, Cond.selects RX4 yX4_isDone yX4_isDone, Cond.code yX4_isDone cX4_isDone 2 (some .boolean), Cond.methodLink RL 91 yX6_change, Cond.instanceMethod yX6_change, Cond.selects RX6 yX6_change yX6_change, Cond.code yX6_change cX6_change 4 (some .int), Cond.methodLink RX6 52 yX4_rewriteRow, Cond.instanceMethod yX4_rewriteRow]
def wsL_law_r12 : List Cond := [Cond.selects RX4 yX4_rewriteRow yX4_rewriteRow, Cond.code yX4_rewriteRow cX4_rewriteRow 5 (some .int), Cond.methodLink RX4 114 yX5_put, Cond.methodLink RX4 118 yX2_size, Cond.methodLink RL 95 yL_steps, Cond.static yL_steps, Cond.code yL_steps cL_steps 10 (some .int), Cond.methodLink RL 43 yL_look, Cond.static yL_look, Cond.code yL_look cL_look 7 (some .int), Cond.methodLink RL 15 yL_weight, Cond.static yL_weight, Cond.code yL_weight cL_weight 7 (some .int), Cond.methodLink RL 39 yL_room, Cond.static yL_room, Cond.code yL_room cL_room 8 (some .int), Cond.methodLink RL 19 yL_first, Cond.static yL_first, Cond.code yL_first cL_first 9 (some .int), Cond.methodLink RL 23 yL_weights, Cond.static yL_weights, Cond.code yL_weights cL_weights 5 (some .int), Cond.methodLink RL 99 yX6_step, Cond.instanceMethod yX6_step]
def wsL_law_r13 : List Cond := [Cond.selects RX6 yX6_step yX6_step, Cond.code yX6_step cX6_step 2 (some .int), Cond.methodLink RX6 56 yX4_walk, Cond.instanceMethod yX4_walk, Cond.selects RX4 yX4_walk yX4_walk, Cond.code yX4_walk cX4_walk 5 (some .int), Cond.methodLink RX4 119 yX4_lookUp, Cond.instanceMethod yX4_lookUp, Cond.selects RX4 yX4_lookUp yX4_lookUp, Cond.code yX4_lookUp cX4_lookUp 2 none, Cond.methodLink RX4 143 yX2_touch, Cond.instanceMethod yX2_touch, Cond.selects RX2 yX2_touch yX2_touch, Cond.code yX2_touch cX2_touch 2 none, Cond.methodLink RX4 140 yX0_weight, Cond.instanceMethod yX0_weight, Cond.selects RX0 yX0_weight yX0_weight, Cond.code yX0_weight cX0_weight 2 (some .int), Cond.methodLink RX4 146 yX2_take, Cond.instanceMethod yX2_take, Cond.selects RX2 yX2_take yX2_take, Cond.code yX2_take cX2_take 2 none, Cond.methodLink RX4 131 yX4_makeRoom, Cond.instanceMethod yX4_makeRoom]
def wsL_law_r14 : List Cond := [Cond.selects RX4 yX4_makeRoom yX4_makeRoom, Cond.code yX4_makeRoom cX4_makeRoom 5 (some .int), Cond.methodLink RX4 149 yX4_weightTogether, Cond.instanceMethod yX4_weightTogether, Cond.selects RX4 yX4_weightTogether yX4_weightTogether, Cond.code yX4_weightTogether cX4_weightTogether 3 (some .int), Cond.methodLink RX4 152 yX2_firstOut, Cond.instanceMethod yX2_firstOut, Cond.selects RX2 yX2_firstOut yX2_firstOut, Cond.code yX2_firstOut cX2_firstOut 5 (some .int), Cond.methodLink RX2 33 yX2_rank, Cond.instanceMethod yX2_rank, Cond.selects RX2 yX2_rank yX2_rank, Cond.code yX2_rank cX2_rank 3 (some .long), Cond.methodLink RX4 79 yX5_value, Cond.methodLink RX4 122 yX0_sum, Cond.instanceMethod yX0_sum, Cond.selects RX0 yX0_sum yX0_sum, Cond.code yX0_sum cX0_sum 2 (some .int), Cond.methodLink RL 102 yX6_again, Cond.instanceMethod yX6_again, Cond.selects RX6 yX6_again yX6_again, Cond.code yX6_again cX6_again 1 (some .int), Cond.methodLink RX6 59 yX4_beginAgain]
def wsL_law_r15 : List Cond := [Cond.instanceMethod yX4_beginAgain, Cond.selects RX4 yX4_beginAgain yX4_beginAgain, Cond.code yX4_beginAgain cX4_beginAgain 2 (some .int), Cond.methodLink RL 106 yX6_forget, Cond.instanceMethod yX6_forget, Cond.selects RX6 yX6_forget yX6_forget, Cond.code yX6_forget cX6_forget 1 (some .int), Cond.methodLink RX6 63 yX4_throwAllOut, Cond.methodLink RL 109 yL_isSet, Cond.static yL_isSet, Cond.code yL_isSet cL_isSet 10 (some .boolean), Cond.methodLink RL 81 yX6_set, Cond.instanceMethod yX6_set, Cond.selects RX6 yX6_set yX6_set, Cond.code yX6_set cX6_set 3 (some .int), Cond.methodLink RX6 66 yX4_adjust, Cond.instanceMethod yX4_adjust, Cond.selects RX4 yX4_adjust yX4_adjust, Cond.code yX4_adjust cX4_adjust 3 (some .int), Cond.fieldLink RX4 128 "LoopMemo$State" "HIGHEST_SETTINGS" "[I", Cond.methodLink RL 122 yL_areTold, Cond.static yL_areTold, Cond.code yL_areTold cL_areTold 15 (some .boolean), Cond.methodLink RL 46 yX6_count]
def wsL_law_r16 : List Cond := [Cond.instanceMethod yX6_count, Cond.selects RX6 yX6_count yX6_count, Cond.code yX6_count cX6_count 2 (some .int), Cond.methodLink RX6 87 yX4_table, Cond.methodLink RX6 91 yX5_size, Cond.methodLink RX6 159 yX4_memo, Cond.instanceMethod yX4_memo, Cond.selects RX4 yX4_memo yX4_memo, Cond.code yX4_memo cX4_memo 1 (some (.object "LoopMemo$Memo")), Cond.methodLink RX6 177 yX2_size, Cond.methodLink RX6 178 yX4_weightTogether, Cond.methodLink RX6 181 yX4_place, Cond.instanceMethod yX4_place, Cond.selects RX4 yX4_place yX4_place, Cond.code yX4_place cX4_place 1 (some .int), Cond.methodLink RX6 184 yX4_totalSoFar, Cond.instanceMethod yX4_totalSoFar, Cond.selects RX4 yX4_totalSoFar yX4_totalSoFar, Cond.code yX4_totalSoFar cX4_totalSoFar 1 (some .int), Cond.methodLink RX6 171 yX4_setting, Cond.instanceMethod yX4_setting, Cond.selects RX4 yX4_setting yX4_setting, Cond.code yX4_setting cX4_setting 2 (some .int), Cond.methodLink RX6 187 yX3_size]
def wsL_law_r17 : List Cond := [Cond.instanceMethod yX3_size, Cond.selects RX3 yX3_size yX3_size, Cond.code yX3_size cX3_size 1 (some .int), Cond.fieldLink RX3 15 "LoopMemo$Pad" "size" "I", Cond.methodLink RX6 188 yX1_size, Cond.instanceMethod yX1_size, Cond.selects RX1 yX1_size yX1_size, Cond.code yX1_size cX1_size 1 (some .int), Cond.methodLink RX6 189 yX4_tally, Cond.instanceMethod yX4_tally, Cond.selects RX4 yX4_tally yX4_tally, Cond.code yX4_tally cX4_tally 2 (some .int), Cond.methodLink RL 52 yX6_rate, Cond.instanceMethod yX6_rate, Cond.selects RX6 yX6_rate yX6_rate, Cond.code yX6_rate cX6_rate 3 (some .double), Cond.methodLink RL 56 yX6_remembered, Cond.instanceMethod yX6_remembered, Cond.selects RX6 yX6_remembered yX6_remembered, Cond.code yX6_remembered cX6_remembered 3 (some .int), Cond.methodLink RX6 163 yX2_holds, Cond.methodLink RX6 168 yX2_uses, Cond.instanceMethod yX2_uses, Cond.selects RX2 yX2_uses yX2_uses]
def wsL_law_r18 : List Cond := [Cond.code yX2_uses cX2_uses 2 (some .int), Cond.methodLink RX6 174 yX2_placeOf, Cond.instanceMethod yX2_placeOf, Cond.selects RX2 yX2_placeOf yX2_placeOf, Cond.code yX2_placeOf cX2_placeOf 5 (some .int), Cond.methodLink RX6 150 yX4_answers, Cond.instanceMethod yX4_answers, Cond.selects RX4 yX4_answers yX4_answers, Cond.code yX4_answers cX4_answers 1 (some (.object "LoopMemo$Answers")), Cond.methodLink RX6 154 yX0_tell, Cond.instanceMethod yX0_tell, Cond.selects RX0 yX0_tell yX0_tell, Cond.code yX0_tell cX0_tell 3 (some .int), Cond.methodLink RX0 38 yX0_weight, Cond.methodLink RL 60 yX6_answer, Cond.instanceMethod yX6_answer, Cond.selects RX6 yX6_answer yX6_answer, Cond.code yX6_answer cX6_answer 3 (some .int), Cond.methodLink RL 126 yL_areRows, Cond.static yL_areRows, Cond.code yL_areRows cL_areRows 9 (some .boolean), Cond.methodLink RL 63 yX6_row, Cond.instanceMethod yX6_row, Cond.selects RX6 yX6_row yX6_row]
def wsL_law_r19 : List Cond := [Cond.code yX6_row cX6_row 5 (some .int), Cond.methodLink RX6 131 yX5_has, Cond.methodLink RX6 135 yX5_key, Cond.methodLink RX6 138 yX5_value, Cond.methodLink RX6 141 yX4_isInRememberedAnswer, Cond.instanceMethod yX4_isInRememberedAnswer, Cond.selects RX4 yX4_isInRememberedAnswer yX4_isInRememberedAnswer, Cond.code yX4_isInRememberedAnswer cX4_isInRememberedAnswer 2 (some .boolean), Cond.methodLink RX4 82 yX4_isInBand, Cond.instanceMethod yX4_isInBand, Cond.selects RX4 yX4_isInBand yX4_isInBand, Cond.code yX4_isInBand cX4_isInBand 2 (some .boolean), Cond.methodLink RX6 144 yX4_isDone, Cond.methodLink RL 67 yX6_total, Cond.instanceMethod yX6_total, Cond.selects RX6 yX6_total yX6_total, Cond.code yX6_total cX6_total 2 (some .int), Cond.methodLink RX6 192 yX4_totalByAnswers, Cond.instanceMethod yX4_totalByAnswers, Cond.selects RX4 yX4_totalByAnswers yX4_totalByAnswers, Cond.code yX4_totalByAnswers cX4_totalByAnswers 3 (some .int), Cond.methodLink RX6 195 yX4_totalByRows, Cond.instanceMethod yX4_totalByRows, Cond.selects RX4 yX4_totalByRows yX4_totalByRows]
def wsL_law_r20 : List Cond := [Cond.code yX4_totalByRows cX4_totalByRows 4 (some .int)]
def wsL_law : List Cond := (wsL_law_r1 ++ (wsL_law_r2 ++ (wsL_law_r3 ++ (wsL_law_r4 ++ (wsL_law_r5 ++ (wsL_law_r6 ++ (wsL_law_r7 ++ (wsL_law_r8 ++ (wsL_law_r9 ++ (wsL_law_r10 ++ (wsL_law_r11 ++ (wsL_law_r12 ++ (wsL_law_r13 ++ (wsL_law_r14 ++ (wsL_law_r15 ++ (wsL_law_r16 ++ (wsL_law_r17 ++ (wsL_law_r18 ++ (wsL_law_r19 ++ wsL_law_r20))))))))))))))))))) ++ wsX60 ++ wsX40 ++ wsX10 ++ wsX30 ++ wsX50 ++ wsX00 ++ wsX20 ++ ([] : List Cond)
theorem dX0_init_0 : decode cX0_init 0 = .ok (.aload_n 0, 1) := by decide +kernel
theorem dX0_init_1 : decode cX0_init 1 = .ok (.invokespecial 3, 3) := by decide +kernel
theorem dX0_init_4 : decode cX0_init 4 = .ok (.aload_n 0, 1) := by decide +kernel
theorem dX0_init_5 : decode cX0_init 5 = .ok (.bipush 10, 2) := by decide +kernel
theorem dX0_init_7 : decode cX0_init 7 = .ok (.newarray .int, 2) := by decide +kernel
theorem dX0_init_9 : decode cX0_init 9 = .ok (.putfield 9, 3) := by decide +kernel
theorem dX0_init_12 : decode cX0_init 12 = .ok (.aload_n 0, 1) := by decide +kernel
theorem dX0_init_13 : decode cX0_init 13 = .ok (.bipush 10, 2) := by decide +kernel
theorem dX0_init_15 : decode cX0_init 15 = .ok (.newarray .int, 2) := by decide +kernel
theorem dX0_init_17 : decode cX0_init 17 = .ok (.putfield 15, 3) := by decide +kernel
theorem dX0_init_20 : decode cX0_init 20 = .ok (.aload_n 0, 1) := by decide +kernel
theorem dX0_init_21 : decode cX0_init 21 = .ok (.bipush 10, 2) := by decide +kernel
theorem dX0_init_23 : decode cX0_init 23 = .ok (.newarray .int, 2) := by decide +kernel
theorem dX0_init_25 : decode cX0_init 25 = .ok (.putfield 18, 3) := by decide +kernel
theorem dX0_init_28 : decode cX0_init 28 = .ok (.return_, 1) := by decide +kernel
set_option maxRecDepth 20000 in
theorem ggX0_copyFrom_X6_copyNumbers : GoodIn wsX0_copyFrom wsX6_copyNumbers := goodIn_r _ [6, 7, 8, 9, 10, 11, 12, 13, 14] (by decide +kernel) (by decide +kernel)
set_option maxRecDepth 20000 in
theorem gX0_copyFrom_X6_copyNumbers_n21 : GoodIn wsX0_copyFrom (wsX6_copyNumbers) := ggX0_copyFrom_X6_copyNumbers
theorem dX0_copyFrom_0 : decode cX0_copyFrom 0 = .ok (.aload_n 1, 1) := by decide +kernel
theorem dX0_copyFrom_1 : decode cX0_copyFrom 1 = .ok (.getfield 9, 3) := by decide +kernel
theorem dX0_copyFrom_4 : decode cX0_copyFrom 4 = .ok (.aload_n 0, 1) := by decide +kernel
theorem dX0_copyFrom_5 : decode cX0_copyFrom 5 = .ok (.getfield 9, 3) := by decide +kernel
theorem dX0_copyFrom_8 : decode cX0_copyFrom 8 = .ok (.invokestatic 21, 3) := by decide +kernel
theorem dX0_copyFrom_11 : decode cX0_copyFrom 11 = .ok (.aload_n 1, 1) := by decide +kernel
theorem dX0_copyFrom_12 : decode cX0_copyFrom 12 = .ok (.getfield 15, 3) := by decide +kernel
theorem dX0_copyFrom_15 : decode cX0_copyFrom 15 = .ok (.aload_n 0, 1) := by decide +kernel
theorem dX0_copyFrom_16 : decode cX0_copyFrom 16 = .ok (.getfield 15, 3) := by decide +kernel
theorem dX0_copyFrom_19 : decode cX0_copyFrom 19 = .ok (.invokestatic 21, 3) := by decide +kernel
theorem dX0_copyFrom_22 : decode cX0_copyFrom 22 = .ok (.aload_n 1, 1) := by decide +kernel
theorem dX0_copyFrom_23 : decode cX0_copyFrom 23 = .ok (.getfield 18, 3) := by decide +kernel
theorem dX0_copyFrom_26 : decode cX0_copyFrom 26 = .ok (.aload_n 0, 1) := by decide +kernel
theorem dX0_copyFrom_27 : decode cX0_copyFrom 27 = .ok (.getfield 18, 3) := by decide +kernel
theorem dX0_copyFrom_30 : decode cX0_copyFrom 30 = .ok (.invokestatic 21, 3) := by decide +kernel
theorem dX0_copyFrom_33 : decode cX0_copyFrom 33 = .ok (.return_, 1) := by decide +kernel
set_option maxRecDepth 20000 in
theorem ggX0_find_X5_size : GoodIn wsX0_find wsX5_size := goodIn_r _ [8, 9, 23, 24, 25] (by decide +kernel) (by decide +kernel)
set_option maxRecDepth 20000 in
theorem gX0_find_X5_size : GoodIn wsX0_find (wsV RX0 25 RX5 yX5_size wsX5_size) := goodIn_app (goodIn_of _ (by decide +kernel)) ggX0_find_X5_size
set_option maxRecDepth 20000 in
theorem ggX0_find_X5_value : GoodIn wsX0_find wsX5_value := goodIn_r _ [13, 14, 23, 24, 25] (by decide +kernel) (by decide +kernel)
set_option maxRecDepth 20000 in
theorem gX0_find_X5_value : GoodIn wsX0_find (wsV RX0 31 RX5 yX5_value wsX5_value) := goodIn_app (goodIn_of _ (by decide +kernel)) ggX0_find_X5_value
set_option maxRecDepth 20000 in
theorem ggX0_find_X5_key : GoodIn wsX0_find wsX5_key := goodIn_r _ [18, 19, 23, 24, 25] (by decide +kernel) (by decide +kernel)
set_option maxRecDepth 20000 in
theorem gX0_find_X5_key : GoodIn wsX0_find (wsV RX0 35 RX5 yX5_key wsX5_key) := goodIn_app (goodIn_of _ (by decide +kernel)) ggX0_find_X5_key
theorem dX0_find_0 : decode cX0_find 0 = .ok (.iconst 0, 1) := by decide +kernel
theorem dX0_find_1 : decode cX0_find 1 = .ok (.istore 4, 2) := by decide +kernel
theorem dX0_find_3 : decode cX0_find 3 = .ok (.iload 4, 2) := by decide +kernel
theorem dX0_find_5 : decode cX0_find 5 = .ok (.bipush 10, 2) := by decide +kernel
theorem dX0_find_7 : decode cX0_find 7 = .ok (.if_icmp .ge 25, 3) := by decide +kernel
theorem dX0_find_10 : decode cX0_find 10 = .ok (.aload_n 0, 1) := by decide +kernel
theorem dX0_find_11 : decode cX0_find 11 = .ok (.getfield 9, 3) := by decide +kernel
theorem dX0_find_14 : decode cX0_find 14 = .ok (.iload 4, 2) := by decide +kernel
theorem dX0_find_16 : decode cX0_find 16 = .ok (.iconst 0, 1) := by decide +kernel
theorem dX0_find_17 : decode cX0_find 17 = .ok (.iastore, 1) := by decide +kernel
theorem dX0_find_18 : decode cX0_find 18 = .ok (.aload_n 0, 1) := by decide +kernel
theorem dX0_find_19 : decode cX0_find 19 = .ok (.getfield 15, 3) := by decide +kernel
theorem dX0_find_22 : decode cX0_find 22 = .ok (.iload 4, 2) := by decide +kernel
theorem dX0_find_24 : decode cX0_find 24 = .ok (.iconst 0, 1) := by decide +kernel
theorem dX0_find_25 : decode cX0_find 25 = .ok (.iastore, 1) := by decide +kernel
theorem dX0_find_26 : decode cX0_find 26 = .ok (.iinc 4 1, 3) := by decide +kernel
theorem dX0_find_29 : decode cX0_find 29 = .ok (.goto (-26), 3) := by decide +kernel
theorem dX0_find_32 : decode cX0_find 32 = .ok (.aload_n 1, 1) := by decide +kernel
theorem dX0_find_33 : decode cX0_find 33 = .ok (.invokevirtual 25, 3) := by decide +kernel
theorem dX0_find_36 : decode cX0_find 36 = .ok (.iconst 1, 1) := by decide +kernel
theorem dX0_find_37 : decode cX0_find 37 = .ok (.isub, 1) := by decide +kernel
theorem dX0_find_38 : decode cX0_find 38 = .ok (.istore 4, 2) := by decide +kernel
theorem dX0_find_40 : decode cX0_find 40 = .ok (.iload 4, 2) := by decide +kernel
theorem dX0_find_42 : decode cX0_find 42 = .ok (.ifCond .lt 81, 3) := by decide +kernel
theorem dX0_find_45 : decode cX0_find 45 = .ok (.aload_n 1, 1) := by decide +kernel
theorem dX0_find_46 : decode cX0_find 46 = .ok (.iload 4, 2) := by decide +kernel
theorem dX0_find_48 : decode cX0_find 48 = .ok (.invokevirtual 31, 3) := by decide +kernel
theorem dX0_find_51 : decode cX0_find 51 = .ok (.istore 5, 2) := by decide +kernel
theorem dX0_find_53 : decode cX0_find 53 = .ok (.aload_n 1, 1) := by decide +kernel
theorem dX0_find_54 : decode cX0_find 54 = .ok (.iload 4, 2) := by decide +kernel
theorem dX0_find_56 : decode cX0_find 56 = .ok (.invokevirtual 35, 3) := by decide +kernel
theorem dX0_find_59 : decode cX0_find 59 = .ok (.istore 6, 2) := by decide +kernel
theorem dX0_find_61 : decode cX0_find 61 = .ok (.iload 6, 2) := by decide +kernel
theorem dX0_find_63 : decode cX0_find 63 = .ok (.ifCond .lt 54, 3) := by decide +kernel
theorem dX0_find_66 : decode cX0_find 66 = .ok (.iload 6, 2) := by decide +kernel
theorem dX0_find_68 : decode cX0_find 68 = .ok (.bipush 10, 2) := by decide +kernel
theorem dX0_find_70 : decode cX0_find 70 = .ok (.if_icmp .ge 47, 3) := by decide +kernel
theorem dX0_find_73 : decode cX0_find 73 = .ok (.iload 5, 2) := by decide +kernel
theorem dX0_find_75 : decode cX0_find 75 = .ok (.iload_n 2, 1) := by decide +kernel
theorem dX0_find_76 : decode cX0_find 76 = .ok (.if_icmp .lt 41, 3) := by decide +kernel
theorem dX0_find_79 : decode cX0_find 79 = .ok (.iload 5, 2) := by decide +kernel
theorem dX0_find_81 : decode cX0_find 81 = .ok (.iload_n 3, 1) := by decide +kernel
theorem dX0_find_82 : decode cX0_find 82 = .ok (.if_icmp .gt 35, 3) := by decide +kernel
theorem dX0_find_85 : decode cX0_find 85 = .ok (.aload_n 0, 1) := by decide +kernel
theorem dX0_find_86 : decode cX0_find 86 = .ok (.getfield 9, 3) := by decide +kernel
theorem dX0_find_89 : decode cX0_find 89 = .ok (.iload 6, 2) := by decide +kernel
theorem dX0_find_91 : decode cX0_find 91 = .ok (.dup2, 1) := by decide +kernel
theorem dX0_find_92 : decode cX0_find 92 = .ok (.iaload, 1) := by decide +kernel
theorem dX0_find_93 : decode cX0_find 93 = .ok (.iconst 1, 1) := by decide +kernel
theorem dX0_find_94 : decode cX0_find 94 = .ok (.iadd, 1) := by decide +kernel
theorem dX0_find_95 : decode cX0_find 95 = .ok (.iastore, 1) := by decide +kernel
theorem dX0_find_96 : decode cX0_find 96 = .ok (.aload_n 0, 1) := by decide +kernel
theorem dX0_find_97 : decode cX0_find 97 = .ok (.getfield 15, 3) := by decide +kernel
theorem dX0_find_100 : decode cX0_find 100 = .ok (.iload 6, 2) := by decide +kernel
theorem dX0_find_102 : decode cX0_find 102 = .ok (.dup2, 1) := by decide +kernel
theorem dX0_find_103 : decode cX0_find 103 = .ok (.iaload, 1) := by decide +kernel
theorem dX0_find_104 : decode cX0_find 104 = .ok (.iload 5, 2) := by decide +kernel
theorem dX0_find_106 : decode cX0_find 106 = .ok (.iadd, 1) := by decide +kernel
theorem dX0_find_107 : decode cX0_find 107 = .ok (.iastore, 1) := by decide +kernel
theorem dX0_find_108 : decode cX0_find 108 = .ok (.aload_n 0, 1) := by decide +kernel
theorem dX0_find_109 : decode cX0_find 109 = .ok (.getfield 18, 3) := by decide +kernel
theorem dX0_find_112 : decode cX0_find 112 = .ok (.iload 6, 2) := by decide +kernel
theorem dX0_find_114 : decode cX0_find 114 = .ok (.iload 4, 2) := by decide +kernel
theorem dX0_find_116 : decode cX0_find 116 = .ok (.iastore, 1) := by decide +kernel
theorem dX0_find_117 : decode cX0_find 117 = .ok (.iinc 4 (-1), 3) := by decide +kernel
theorem dX0_find_120 : decode cX0_find 120 = .ok (.goto (-80), 3) := by decide +kernel
theorem dX0_find_123 : decode cX0_find 123 = .ok (.return_, 1) := by decide +kernel
theorem dX0_weight_0 : decode cX0_weight 0 = .ok (.iconst 2, 1) := by decide +kernel
theorem dX0_weight_1 : decode cX0_weight 1 = .ok (.iload_n 1, 1) := by decide +kernel
theorem dX0_weight_2 : decode cX0_weight 2 = .ok (.ifCond .lt 21, 3) := by decide +kernel
theorem dX0_weight_5 : decode cX0_weight 5 = .ok (.iload_n 1, 1) := by decide +kernel
theorem dX0_weight_6 : decode cX0_weight 6 = .ok (.aload_n 0, 1) := by decide +kernel
theorem dX0_weight_7 : decode cX0_weight 7 = .ok (.getfield 9, 3) := by decide +kernel
theorem dX0_weight_10 : decode cX0_weight 10 = .ok (.arraylength, 1) := by decide +kernel
theorem dX0_weight_11 : decode cX0_weight 11 = .ok (.if_icmp .ge 12, 3) := by decide +kernel
theorem dX0_weight_14 : decode cX0_weight 14 = .ok (.aload_n 0, 1) := by decide +kernel
theorem dX0_weight_15 : decode cX0_weight 15 = .ok (.getfield 9, 3) := by decide +kernel
theorem dX0_weight_18 : decode cX0_weight 18 = .ok (.iload_n 1, 1) := by decide +kernel
theorem dX0_weight_19 : decode cX0_weight 19 = .ok (.iaload, 1) := by decide +kernel
theorem dX0_weight_20 : decode cX0_weight 20 = .ok (.goto 4, 3) := by decide +kernel
theorem dX0_weight_23 : decode cX0_weight 23 = .ok (.iconst 0, 1) := by decide +kernel
theorem dX0_weight_24 : decode cX0_weight 24 = .ok (.iadd, 1) := by decide +kernel
theorem dX0_weight_25 : decode cX0_weight 25 = .ok (.ireturn, 1) := by decide +kernel
theorem dX0_sum_0 : decode cX0_sum 0 = .ok (.iload_n 1, 1) := by decide +kernel
theorem dX0_sum_1 : decode cX0_sum 1 = .ok (.ifCond .lt 21, 3) := by decide +kernel
theorem dX0_sum_4 : decode cX0_sum 4 = .ok (.iload_n 1, 1) := by decide +kernel
theorem dX0_sum_5 : decode cX0_sum 5 = .ok (.aload_n 0, 1) := by decide +kernel
theorem dX0_sum_6 : decode cX0_sum 6 = .ok (.getfield 15, 3) := by decide +kernel
theorem dX0_sum_9 : decode cX0_sum 9 = .ok (.arraylength, 1) := by decide +kernel
theorem dX0_sum_10 : decode cX0_sum 10 = .ok (.if_icmp .ge 12, 3) := by decide +kernel
theorem dX0_sum_13 : decode cX0_sum 13 = .ok (.aload_n 0, 1) := by decide +kernel
theorem dX0_sum_14 : decode cX0_sum 14 = .ok (.getfield 15, 3) := by decide +kernel
theorem dX0_sum_17 : decode cX0_sum 17 = .ok (.iload_n 1, 1) := by decide +kernel
theorem dX0_sum_18 : decode cX0_sum 18 = .ok (.iaload, 1) := by decide +kernel
theorem dX0_sum_19 : decode cX0_sum 19 = .ok (.goto 4, 3) := by decide +kernel
theorem dX0_sum_22 : decode cX0_sum 22 = .ok (.iconst 0, 1) := by decide +kernel
theorem dX0_sum_23 : decode cX0_sum 23 = .ok (.ireturn, 1) := by decide +kernel
set_option maxRecDepth 20000 in
theorem ggX0_tell_X0_weight : GoodIn wsX0_tell wsX0_weight := goodIn_r _ [8, 1, 9, 10, 11] (by decide +kernel) (by decide +kernel)
set_option maxRecDepth 20000 in
theorem gX0_tell_X0_weight : GoodIn wsX0_tell (wsV RX0 38 RX0 yX0_weight wsX0_weight) := goodIn_app (goodIn_of _ (by decide +kernel)) ggX0_tell_X0_weight
theorem dX0_tell_0 : decode cX0_tell 0 = .ok (.iload_n 1, 1) := by decide +kernel
theorem dX0_tell_1 : decode cX0_tell 1 = .ok (.ifCond .lt 9, 3) := by decide +kernel
theorem dX0_tell_4 : decode cX0_tell 4 = .ok (.iload_n 1, 1) := by decide +kernel
theorem dX0_tell_5 : decode cX0_tell 5 = .ok (.bipush 10, 2) := by decide +kernel
theorem dX0_tell_7 : decode cX0_tell 7 = .ok (.if_icmp .lt 5, 3) := by decide +kernel
theorem dX0_tell_10 : decode cX0_tell 10 = .ok (.iconst (-1), 1) := by decide +kernel
theorem dX0_tell_11 : decode cX0_tell 11 = .ok (.ireturn, 1) := by decide +kernel
theorem dX0_tell_12 : decode cX0_tell 12 = .ok (.iload_n 2, 1) := by decide +kernel
theorem dX0_tell_13 : decode cX0_tell 13 = .ok (.tableswitch 47 0 2 #[27, 34, 40], 27) := by decide +kernel
theorem dX0_tell_40 : decode cX0_tell 40 = .ok (.aload_n 0, 1) := by decide +kernel
theorem dX0_tell_41 : decode cX0_tell 41 = .ok (.getfield 9, 3) := by decide +kernel
theorem dX0_tell_44 : decode cX0_tell 44 = .ok (.iload_n 1, 1) := by decide +kernel
theorem dX0_tell_45 : decode cX0_tell 45 = .ok (.iaload, 1) := by decide +kernel
theorem dX0_tell_46 : decode cX0_tell 46 = .ok (.ireturn, 1) := by decide +kernel
theorem dX0_tell_47 : decode cX0_tell 47 = .ok (.aload_n 0, 1) := by decide +kernel
theorem dX0_tell_48 : decode cX0_tell 48 = .ok (.iload_n 1, 1) := by decide +kernel
theorem dX0_tell_49 : decode cX0_tell 49 = .ok (.invokevirtual 38, 3) := by decide +kernel
theorem dX0_tell_52 : decode cX0_tell 52 = .ok (.ireturn, 1) := by decide +kernel
theorem dX0_tell_53 : decode cX0_tell 53 = .ok (.aload_n 0, 1) := by decide +kernel
theorem dX0_tell_54 : decode cX0_tell 54 = .ok (.getfield 15, 3) := by decide +kernel
theorem dX0_tell_57 : decode cX0_tell 57 = .ok (.iload_n 1, 1) := by decide +kernel
theorem dX0_tell_58 : decode cX0_tell 58 = .ok (.iaload, 1) := by decide +kernel
theorem dX0_tell_59 : decode cX0_tell 59 = .ok (.ireturn, 1) := by decide +kernel
theorem dX0_tell_60 : decode cX0_tell 60 = .ok (.aload_n 0, 1) := by decide +kernel
theorem dX0_tell_61 : decode cX0_tell 61 = .ok (.getfield 9, 3) := by decide +kernel
theorem dX0_tell_64 : decode cX0_tell 64 = .ok (.iload_n 1, 1) := by decide +kernel
theorem dX0_tell_65 : decode cX0_tell 65 = .ok (.iaload, 1) := by decide +kernel
theorem dX0_tell_66 : decode cX0_tell 66 = .ok (.ifCond .ne 8, 3) := by decide +kernel
theorem dX0_tell_69 : decode cX0_tell 69 = .ok (.bipush (-4), 2) := by decide +kernel
theorem dX0_tell_71 : decode cX0_tell 71 = .ok (.goto 9, 3) := by decide +kernel
theorem dX0_tell_74 : decode cX0_tell 74 = .ok (.aload_n 0, 1) := by decide +kernel
theorem dX0_tell_75 : decode cX0_tell 75 = .ok (.getfield 18, 3) := by decide +kernel
theorem dX0_tell_78 : decode cX0_tell 78 = .ok (.iload_n 1, 1) := by decide +kernel
theorem dX0_tell_79 : decode cX0_tell 79 = .ok (.iaload, 1) := by decide +kernel
theorem dX0_tell_80 : decode cX0_tell 80 = .ok (.ireturn, 1) := by decide +kernel
set_option maxRecDepth 20000 in
theorem ggX1_init_X4_init : GoodIn wsX1_init wsX4_init := goodIn_r _ [10, 11, 2, 3, 12, 13, 14, 15, 16, 17, 18, 19, 20, 21, 22, 23, 24, 25, 26, 27, 28, 29, 30, 31, 32, 33, 34, 35, 36, 37, 38, 39, 40, 41, 42, 43, 44, 45, 46, 47, 48, 49, 50, 51, 52, 53, 54, 66, 67, 68, 58, 59, 60, 61, 62, 63, 64, 65, 69, 70, 71, 72, 73, 74, 75] (by decide +kernel) (by decide +kernel)
set_option maxRecDepth 20000 in
theorem gX1_init_X4_init : GoodIn wsX1_init (wsX4_init) := ggX1_init_X4_init
theorem dX1_init_0 : decode cX1_init 0 = .ok (.aload_n 0, 1) := by decide +kernel
theorem dX1_init_1 : decode cX1_init 1 = .ok (.invokespecial 3, 3) := by decide +kernel
theorem dX1_init_4 : decode cX1_init 4 = .ok (.aload_n 0, 1) := by decide +kernel
theorem dX1_init_5 : decode cX1_init 5 = .ok (.iconst 5, 1) := by decide +kernel
theorem dX1_init_6 : decode cX1_init 6 = .ok (.anewarray 11, 3) := by decide +kernel
theorem dX1_init_9 : decode cX1_init 9 = .ok (.putfield 13, 3) := by decide +kernel
theorem dX1_init_12 : decode cX1_init 12 = .ok (.iconst 0, 1) := by decide +kernel
theorem dX1_init_13 : decode cX1_init 13 = .ok (.istore_n 1, 1) := by decide +kernel
theorem dX1_init_14 : decode cX1_init 14 = .ok (.iload_n 1, 1) := by decide +kernel
theorem dX1_init_15 : decode cX1_init 15 = .ok (.iconst 5, 1) := by decide +kernel
theorem dX1_init_16 : decode cX1_init 16 = .ok (.if_icmp .ge 22, 3) := by decide +kernel
theorem dX1_init_19 : decode cX1_init 19 = .ok (.aload_n 0, 1) := by decide +kernel
theorem dX1_init_20 : decode cX1_init 20 = .ok (.getfield 13, 3) := by decide +kernel
theorem dX1_init_23 : decode cX1_init 23 = .ok (.iload_n 1, 1) := by decide +kernel
theorem dX1_init_24 : decode cX1_init 24 = .ok (.new 11, 3) := by decide +kernel
theorem dX1_init_27 : decode cX1_init 27 = .ok (.dup, 1) := by decide +kernel
theorem dX1_init_28 : decode cX1_init 28 = .ok (.invokespecial 17, 3) := by decide +kernel
theorem dX1_init_31 : decode cX1_init 31 = .ok (.aastore, 1) := by decide +kernel
theorem dX1_init_32 : decode cX1_init 32 = .ok (.iinc 1 1, 3) := by decide +kernel
theorem dX1_init_35 : decode cX1_init 35 = .ok (.goto (-21), 3) := by decide +kernel
theorem dX1_init_38 : decode cX1_init 38 = .ok (.return_, 1) := by decide +kernel
theorem dX1_size_0 : decode cX1_size 0 = .ok (.aload_n 0, 1) := by decide +kernel
theorem dX1_size_1 : decode cX1_size 1 = .ok (.getfield 18, 3) := by decide +kernel
theorem dX1_size_4 : decode cX1_size 4 = .ok (.ireturn, 1) := by decide +kernel
set_option maxRecDepth 20000 in
theorem ggX1_prepare_X1_slot : GoodIn wsX1_prepare wsX1_slot := goodIn_r _ [6, 7, 57, 58, 59] (by decide +kernel) (by decide +kernel)
set_option maxRecDepth 20000 in
theorem gX1_prepare_X1_slot : GoodIn wsX1_prepare (wsV RX1 25 RX1 yX1_slot wsX1_slot) := goodIn_app (goodIn_of _ (by decide +kernel)) ggX1_prepare_X1_slot
set_option maxRecDepth 20000 in
theorem ggX1_prepare_X4_copyFrom : GoodIn wsX1_prepare wsX4_copyFrom := goodIn_r _ [12, 13, 14, 15, 16, 17, 18, 19, 20, 21, 22, 23, 24, 25, 26, 27, 28, 29, 30, 31, 32, 33, 34, 35, 36, 37, 38, 39, 40, 41, 42, 43, 44, 45, 46, 47, 48, 49, 50, 51, 52, 53, 54, 55, 56, 60, 61, 62, 63, 64, 65, 66, 67, 68, 69, 70, 71, 72, 73, 74, 75, 76, 77] (by decide +kernel) (by decide +kernel)
set_option maxRecDepth 20000 in
theorem gX1_prepare_X4_copyFrom : GoodIn wsX1_prepare (wsV RX1 29 RX4 yX4_copyFrom wsX4_copyFrom) := goodIn_app (goodIn_of _ (by decide +kernel)) ggX1_prepare_X4_copyFrom
theorem dX1_prepare_0 : decode cX1_prepare 0 = .ok (.aload_n 0, 1) := by decide +kernel
theorem dX1_prepare_1 : decode cX1_prepare 1 = .ok (.aload_n 0, 1) := by decide +kernel
theorem dX1_prepare_2 : decode cX1_prepare 2 = .ok (.getfield 22, 3) := by decide +kernel
theorem dX1_prepare_5 : decode cX1_prepare 5 = .ok (.invokevirtual 25, 3) := by decide +kernel
theorem dX1_prepare_8 : decode cX1_prepare 8 = .ok (.astore_n 2, 1) := by decide +kernel
theorem dX1_prepare_9 : decode cX1_prepare 9 = .ok (.aload_n 2, 1) := by decide +kernel
theorem dX1_prepare_10 : decode cX1_prepare 10 = .ok (.ifnull 8, 3) := by decide +kernel
theorem dX1_prepare_13 : decode cX1_prepare 13 = .ok (.aload_n 2, 1) := by decide +kernel
theorem dX1_prepare_14 : decode cX1_prepare 14 = .ok (.aload_n 1, 1) := by decide +kernel
theorem dX1_prepare_15 : decode cX1_prepare 15 = .ok (.invokevirtual 29, 3) := by decide +kernel
theorem dX1_prepare_18 : decode cX1_prepare 18 = .ok (.return_, 1) := by decide +kernel
theorem dX1_commit_0 : decode cX1_commit 0 = .ok (.iload_n 1, 1) := by decide +kernel
theorem dX1_commit_1 : decode cX1_commit 1 = .ok (.ifCond .lt 29, 3) := by decide +kernel
theorem dX1_commit_4 : decode cX1_commit 4 = .ok (.aload_n 0, 1) := by decide +kernel
theorem dX1_commit_5 : decode cX1_commit 5 = .ok (.aload_n 0, 1) := by decide +kernel
theorem dX1_commit_6 : decode cX1_commit 6 = .ok (.getfield 22, 3) := by decide +kernel
theorem dX1_commit_9 : decode cX1_commit 9 = .ok (.iconst 1, 1) := by decide +kernel
theorem dX1_commit_10 : decode cX1_commit 10 = .ok (.iadd, 1) := by decide +kernel
theorem dX1_commit_11 : decode cX1_commit 11 = .ok (.iconst 5, 1) := by decide +kernel
theorem dX1_commit_12 : decode cX1_commit 12 = .ok (.irem, 1) := by decide +kernel
theorem dX1_commit_13 : decode cX1_commit 13 = .ok (.putfield 22, 3) := by decide +kernel
theorem dX1_commit_16 : decode cX1_commit 16 = .ok (.aload_n 0, 1) := by decide +kernel
theorem dX1_commit_17 : decode cX1_commit 17 = .ok (.aload_n 0, 1) := by decide +kernel
theorem dX1_commit_18 : decode cX1_commit 18 = .ok (.getfield 18, 3) := by decide +kernel
theorem dX1_commit_21 : decode cX1_commit 21 = .ok (.iconst 1, 1) := by decide +kernel
theorem dX1_commit_22 : decode cX1_commit 22 = .ok (.iadd, 1) := by decide +kernel
theorem dX1_commit_23 : decode cX1_commit 23 = .ok (.iconst 4, 1) := by decide +kernel
theorem dX1_commit_24 : decode cX1_commit 24 = .ok (.invokestatic 33, 3) := by decide +kernel
theorem dX1_commit_27 : decode cX1_commit 27 = .ok (.putfield 18, 3) := by decide +kernel
theorem dX1_commit_30 : decode cX1_commit 30 = .ok (.iload_n 1, 1) := by decide +kernel
theorem dX1_commit_31 : decode cX1_commit 31 = .ok (.ireturn, 1) := by decide +kernel
theorem dX1_slot_0 : decode cX1_slot 0 = .ok (.iload_n 1, 1) := by decide +kernel
theorem dX1_slot_1 : decode cX1_slot 1 = .ok (.ifCond .lt 21, 3) := by decide +kernel
theorem dX1_slot_4 : decode cX1_slot 4 = .ok (.iload_n 1, 1) := by decide +kernel
theorem dX1_slot_5 : decode cX1_slot 5 = .ok (.aload_n 0, 1) := by decide +kernel
theorem dX1_slot_6 : decode cX1_slot 6 = .ok (.getfield 13, 3) := by decide +kernel
theorem dX1_slot_9 : decode cX1_slot 9 = .ok (.arraylength, 1) := by decide +kernel
theorem dX1_slot_10 : decode cX1_slot 10 = .ok (.if_icmp .ge 12, 3) := by decide +kernel
theorem dX1_slot_13 : decode cX1_slot 13 = .ok (.aload_n 0, 1) := by decide +kernel
theorem dX1_slot_14 : decode cX1_slot 14 = .ok (.getfield 13, 3) := by decide +kernel
theorem dX1_slot_17 : decode cX1_slot 17 = .ok (.iload_n 1, 1) := by decide +kernel
theorem dX1_slot_18 : decode cX1_slot 18 = .ok (.aaload, 1) := by decide +kernel
theorem dX1_slot_19 : decode cX1_slot 19 = .ok (.goto 4, 3) := by decide +kernel
theorem dX1_slot_22 : decode cX1_slot 22 = .ok (.aconst_null, 1) := by decide +kernel
theorem dX1_slot_23 : decode cX1_slot 23 = .ok (.areturn, 1) := by decide +kernel
theorem dX2_init_0 : decode cX2_init 0 = .ok (.aload_n 0, 1) := by decide +kernel
theorem dX2_init_1 : decode cX2_init 1 = .ok (.invokespecial 3, 3) := by decide +kernel
theorem dX2_init_4 : decode cX2_init 4 = .ok (.aload_n 0, 1) := by decide +kernel
theorem dX2_init_5 : decode cX2_init 5 = .ok (.bipush 10, 2) := by decide +kernel
theorem dX2_init_7 : decode cX2_init 7 = .ok (.newarray .int, 2) := by decide +kernel
theorem dX2_init_9 : decode cX2_init 9 = .ok (.putfield 9, 3) := by decide +kernel
theorem dX2_init_12 : decode cX2_init 12 = .ok (.aload_n 0, 1) := by decide +kernel
theorem dX2_init_13 : decode cX2_init 13 = .ok (.bipush 10, 2) := by decide +kernel
theorem dX2_init_15 : decode cX2_init 15 = .ok (.newarray .int, 2) := by decide +kernel
theorem dX2_init_17 : decode cX2_init 17 = .ok (.putfield 15, 3) := by decide +kernel
theorem dX2_init_20 : decode cX2_init 20 = .ok (.aload_n 0, 1) := by decide +kernel
theorem dX2_init_21 : decode cX2_init 21 = .ok (.bipush 10, 2) := by decide +kernel
theorem dX2_init_23 : decode cX2_init 23 = .ok (.newarray .int, 2) := by decide +kernel
theorem dX2_init_25 : decode cX2_init 25 = .ok (.putfield 18, 3) := by decide +kernel
theorem dX2_init_28 : decode cX2_init 28 = .ok (.return_, 1) := by decide +kernel
set_option maxRecDepth 20000 in
theorem ggX2_copyFrom_X6_copyNumbers : GoodIn wsX2_copyFrom wsX6_copyNumbers := goodIn_r _ [7, 8, 9, 10, 11, 12, 13, 14, 15] (by decide +kernel) (by decide +kernel)
set_option maxRecDepth 20000 in
theorem gX2_copyFrom_X6_copyNumbers_n21 : GoodIn wsX2_copyFrom (wsX6_copyNumbers) := ggX2_copyFrom_X6_copyNumbers
theorem dX2_copyFrom_0 : decode cX2_copyFrom 0 = .ok (.aload_n 1, 1) := by decide +kernel
theorem dX2_copyFrom_1 : decode cX2_copyFrom 1 = .ok (.getfield 9, 3) := by decide +kernel
theorem dX2_copyFrom_4 : decode cX2_copyFrom 4 = .ok (.aload_n 0, 1) := by decide +kernel
theorem dX2_copyFrom_5 : decode cX2_copyFrom 5 = .ok (.getfield 9, 3) := by decide +kernel
theorem dX2_copyFrom_8 : decode cX2_copyFrom 8 = .ok (.invokestatic 21, 3) := by decide +kernel
theorem dX2_copyFrom_11 : decode cX2_copyFrom 11 = .ok (.aload_n 1, 1) := by decide +kernel
theorem dX2_copyFrom_12 : decode cX2_copyFrom 12 = .ok (.getfield 15, 3) := by decide +kernel
theorem dX2_copyFrom_15 : decode cX2_copyFrom 15 = .ok (.aload_n 0, 1) := by decide +kernel
theorem dX2_copyFrom_16 : decode cX2_copyFrom 16 = .ok (.getfield 15, 3) := by decide +kernel
theorem dX2_copyFrom_19 : decode cX2_copyFrom 19 = .ok (.invokestatic 21, 3) := by decide +kernel
theorem dX2_copyFrom_22 : decode cX2_copyFrom 22 = .ok (.aload_n 1, 1) := by decide +kernel
theorem dX2_copyFrom_23 : decode cX2_copyFrom 23 = .ok (.getfield 18, 3) := by decide +kernel
theorem dX2_copyFrom_26 : decode cX2_copyFrom 26 = .ok (.aload_n 0, 1) := by decide +kernel
theorem dX2_copyFrom_27 : decode cX2_copyFrom 27 = .ok (.getfield 18, 3) := by decide +kernel
theorem dX2_copyFrom_30 : decode cX2_copyFrom 30 = .ok (.invokestatic 21, 3) := by decide +kernel
theorem dX2_copyFrom_33 : decode cX2_copyFrom 33 = .ok (.aload_n 0, 1) := by decide +kernel
theorem dX2_copyFrom_34 : decode cX2_copyFrom 34 = .ok (.aload_n 1, 1) := by decide +kernel
theorem dX2_copyFrom_35 : decode cX2_copyFrom 35 = .ok (.getfield 25, 3) := by decide +kernel
theorem dX2_copyFrom_38 : decode cX2_copyFrom 38 = .ok (.putfield 25, 3) := by decide +kernel
theorem dX2_copyFrom_41 : decode cX2_copyFrom 41 = .ok (.return_, 1) := by decide +kernel
theorem dX2_holds_0 : decode cX2_holds 0 = .ok (.iload_n 1, 1) := by decide +kernel
theorem dX2_holds_1 : decode cX2_holds 1 = .ok (.ifCond .lt 25, 3) := by decide +kernel
theorem dX2_holds_4 : decode cX2_holds 4 = .ok (.iload_n 1, 1) := by decide +kernel
theorem dX2_holds_5 : decode cX2_holds 5 = .ok (.aload_n 0, 1) := by decide +kernel
theorem dX2_holds_6 : decode cX2_holds 6 = .ok (.getfield 9, 3) := by decide +kernel
theorem dX2_holds_9 : decode cX2_holds 9 = .ok (.arraylength, 1) := by decide +kernel
theorem dX2_holds_10 : decode cX2_holds 10 = .ok (.if_icmp .ge 16, 3) := by decide +kernel
theorem dX2_holds_13 : decode cX2_holds 13 = .ok (.aload_n 0, 1) := by decide +kernel
theorem dX2_holds_14 : decode cX2_holds 14 = .ok (.getfield 9, 3) := by decide +kernel
theorem dX2_holds_17 : decode cX2_holds 17 = .ok (.iload_n 1, 1) := by decide +kernel
theorem dX2_holds_18 : decode cX2_holds 18 = .ok (.iaload, 1) := by decide +kernel
theorem dX2_holds_19 : decode cX2_holds 19 = .ok (.ifCond .le 7, 3) := by decide +kernel
theorem dX2_holds_22 : decode cX2_holds 22 = .ok (.iconst 1, 1) := by decide +kernel
theorem dX2_holds_23 : decode cX2_holds 23 = .ok (.goto 4, 3) := by decide +kernel
theorem dX2_holds_26 : decode cX2_holds 26 = .ok (.iconst 0, 1) := by decide +kernel
theorem dX2_holds_27 : decode cX2_holds 27 = .ok (.ireturn, 1) := by decide +kernel
theorem dX2_uses_0 : decode cX2_uses 0 = .ok (.iload_n 1, 1) := by decide +kernel
theorem dX2_uses_1 : decode cX2_uses 1 = .ok (.ifCond .lt 21, 3) := by decide +kernel
theorem dX2_uses_4 : decode cX2_uses 4 = .ok (.iload_n 1, 1) := by decide +kernel
theorem dX2_uses_5 : decode cX2_uses 5 = .ok (.aload_n 0, 1) := by decide +kernel
theorem dX2_uses_6 : decode cX2_uses 6 = .ok (.getfield 9, 3) := by decide +kernel
theorem dX2_uses_9 : decode cX2_uses 9 = .ok (.arraylength, 1) := by decide +kernel
theorem dX2_uses_10 : decode cX2_uses 10 = .ok (.if_icmp .ge 12, 3) := by decide +kernel
theorem dX2_uses_13 : decode cX2_uses 13 = .ok (.aload_n 0, 1) := by decide +kernel
theorem dX2_uses_14 : decode cX2_uses 14 = .ok (.getfield 9, 3) := by decide +kernel
theorem dX2_uses_17 : decode cX2_uses 17 = .ok (.iload_n 1, 1) := by decide +kernel
theorem dX2_uses_18 : decode cX2_uses 18 = .ok (.iaload, 1) := by decide +kernel
theorem dX2_uses_19 : decode cX2_uses 19 = .ok (.goto 4, 3) := by decide +kernel
theorem dX2_uses_22 : decode cX2_uses 22 = .ok (.iconst 0, 1) := by decide +kernel
theorem dX2_uses_23 : decode cX2_uses 23 = .ok (.ireturn, 1) := by decide +kernel
theorem dX2_size_0 : decode cX2_size 0 = .ok (.iconst 0, 1) := by decide +kernel
theorem dX2_size_1 : decode cX2_size 1 = .ok (.istore_n 1, 1) := by decide +kernel
theorem dX2_size_2 : decode cX2_size 2 = .ok (.iconst 0, 1) := by decide +kernel
theorem dX2_size_3 : decode cX2_size 3 = .ok (.istore_n 2, 1) := by decide +kernel
theorem dX2_size_4 : decode cX2_size 4 = .ok (.iload_n 2, 1) := by decide +kernel
theorem dX2_size_5 : decode cX2_size 5 = .ok (.bipush 10, 2) := by decide +kernel
theorem dX2_size_7 : decode cX2_size 7 = .ok (.if_icmp .ge 26, 3) := by decide +kernel
theorem dX2_size_10 : decode cX2_size 10 = .ok (.iload_n 1, 1) := by decide +kernel
theorem dX2_size_11 : decode cX2_size 11 = .ok (.aload_n 0, 1) := by decide +kernel
theorem dX2_size_12 : decode cX2_size 12 = .ok (.getfield 9, 3) := by decide +kernel
theorem dX2_size_15 : decode cX2_size 15 = .ok (.iload_n 2, 1) := by decide +kernel
theorem dX2_size_16 : decode cX2_size 16 = .ok (.iaload, 1) := by decide +kernel
theorem dX2_size_17 : decode cX2_size 17 = .ok (.ifCond .le 7, 3) := by decide +kernel
theorem dX2_size_20 : decode cX2_size 20 = .ok (.iconst 1, 1) := by decide +kernel
theorem dX2_size_21 : decode cX2_size 21 = .ok (.goto 4, 3) := by decide +kernel
theorem dX2_size_24 : decode cX2_size 24 = .ok (.iconst 0, 1) := by decide +kernel
theorem dX2_size_25 : decode cX2_size 25 = .ok (.iadd, 1) := by decide +kernel
theorem dX2_size_26 : decode cX2_size 26 = .ok (.istore_n 1, 1) := by decide +kernel
theorem dX2_size_27 : decode cX2_size 27 = .ok (.iinc 2 1, 3) := by decide +kernel
theorem dX2_size_30 : decode cX2_size 30 = .ok (.goto (-26), 3) := by decide +kernel
theorem dX2_size_33 : decode cX2_size 33 = .ok (.iload_n 1, 1) := by decide +kernel
theorem dX2_size_34 : decode cX2_size 34 = .ok (.ireturn, 1) := by decide +kernel
theorem dX2_take_0 : decode cX2_take 0 = .ok (.iload_n 1, 1) := by decide +kernel
theorem dX2_take_1 : decode cX2_take 1 = .ok (.ifCond .lt 46, 3) := by decide +kernel
theorem dX2_take_4 : decode cX2_take 4 = .ok (.iload_n 1, 1) := by decide +kernel
theorem dX2_take_5 : decode cX2_take 5 = .ok (.bipush 10, 2) := by decide +kernel
theorem dX2_take_7 : decode cX2_take 7 = .ok (.if_icmp .ge 40, 3) := by decide +kernel
theorem dX2_take_10 : decode cX2_take 10 = .ok (.aload_n 0, 1) := by decide +kernel
theorem dX2_take_11 : decode cX2_take 11 = .ok (.dup, 1) := by decide +kernel
theorem dX2_take_12 : decode cX2_take 12 = .ok (.getfield 25, 3) := by decide +kernel
theorem dX2_take_15 : decode cX2_take 15 = .ok (.iconst 1, 1) := by decide +kernel
theorem dX2_take_16 : decode cX2_take 16 = .ok (.iadd, 1) := by decide +kernel
theorem dX2_take_17 : decode cX2_take 17 = .ok (.putfield 25, 3) := by decide +kernel
theorem dX2_take_20 : decode cX2_take 20 = .ok (.aload_n 0, 1) := by decide +kernel
theorem dX2_take_21 : decode cX2_take 21 = .ok (.getfield 9, 3) := by decide +kernel
theorem dX2_take_24 : decode cX2_take 24 = .ok (.iload_n 1, 1) := by decide +kernel
theorem dX2_take_25 : decode cX2_take 25 = .ok (.iconst 1, 1) := by decide +kernel
theorem dX2_take_26 : decode cX2_take 26 = .ok (.iastore, 1) := by decide +kernel
theorem dX2_take_27 : decode cX2_take 27 = .ok (.aload_n 0, 1) := by decide +kernel
theorem dX2_take_28 : decode cX2_take 28 = .ok (.getfield 18, 3) := by decide +kernel
theorem dX2_take_31 : decode cX2_take 31 = .ok (.iload_n 1, 1) := by decide +kernel
theorem dX2_take_32 : decode cX2_take 32 = .ok (.aload_n 0, 1) := by decide +kernel
theorem dX2_take_33 : decode cX2_take 33 = .ok (.getfield 25, 3) := by decide +kernel
theorem dX2_take_36 : decode cX2_take 36 = .ok (.iastore, 1) := by decide +kernel
theorem dX2_take_37 : decode cX2_take 37 = .ok (.aload_n 0, 1) := by decide +kernel
theorem dX2_take_38 : decode cX2_take 38 = .ok (.getfield 15, 3) := by decide +kernel
theorem dX2_take_41 : decode cX2_take 41 = .ok (.iload_n 1, 1) := by decide +kernel
theorem dX2_take_42 : decode cX2_take 42 = .ok (.aload_n 0, 1) := by decide +kernel
theorem dX2_take_43 : decode cX2_take 43 = .ok (.getfield 25, 3) := by decide +kernel
theorem dX2_take_46 : decode cX2_take 46 = .ok (.iastore, 1) := by decide +kernel
theorem dX2_take_47 : decode cX2_take 47 = .ok (.return_, 1) := by decide +kernel
theorem dX2_touch_0 : decode cX2_touch 0 = .ok (.iload_n 1, 1) := by decide +kernel
theorem dX2_touch_1 : decode cX2_touch 1 = .ok (.ifCond .lt 39, 3) := by decide +kernel
theorem dX2_touch_4 : decode cX2_touch 4 = .ok (.iload_n 1, 1) := by decide +kernel
theorem dX2_touch_5 : decode cX2_touch 5 = .ok (.bipush 10, 2) := by decide +kernel
theorem dX2_touch_7 : decode cX2_touch 7 = .ok (.if_icmp .ge 33, 3) := by decide +kernel
theorem dX2_touch_10 : decode cX2_touch 10 = .ok (.aload_n 0, 1) := by decide +kernel
theorem dX2_touch_11 : decode cX2_touch 11 = .ok (.dup, 1) := by decide +kernel
theorem dX2_touch_12 : decode cX2_touch 12 = .ok (.getfield 25, 3) := by decide +kernel
theorem dX2_touch_15 : decode cX2_touch 15 = .ok (.iconst 1, 1) := by decide +kernel
theorem dX2_touch_16 : decode cX2_touch 16 = .ok (.iadd, 1) := by decide +kernel
theorem dX2_touch_17 : decode cX2_touch 17 = .ok (.putfield 25, 3) := by decide +kernel
theorem dX2_touch_20 : decode cX2_touch 20 = .ok (.aload_n 0, 1) := by decide +kernel
theorem dX2_touch_21 : decode cX2_touch 21 = .ok (.getfield 9, 3) := by decide +kernel
theorem dX2_touch_24 : decode cX2_touch 24 = .ok (.iload_n 1, 1) := by decide +kernel
theorem dX2_touch_25 : decode cX2_touch 25 = .ok (.dup2, 1) := by decide +kernel
theorem dX2_touch_26 : decode cX2_touch 26 = .ok (.iaload, 1) := by decide +kernel
theorem dX2_touch_27 : decode cX2_touch 27 = .ok (.iconst 1, 1) := by decide +kernel
theorem dX2_touch_28 : decode cX2_touch 28 = .ok (.iadd, 1) := by decide +kernel
theorem dX2_touch_29 : decode cX2_touch 29 = .ok (.iastore, 1) := by decide +kernel
theorem dX2_touch_30 : decode cX2_touch 30 = .ok (.aload_n 0, 1) := by decide +kernel
theorem dX2_touch_31 : decode cX2_touch 31 = .ok (.getfield 15, 3) := by decide +kernel
theorem dX2_touch_34 : decode cX2_touch 34 = .ok (.iload_n 1, 1) := by decide +kernel
theorem dX2_touch_35 : decode cX2_touch 35 = .ok (.aload_n 0, 1) := by decide +kernel
theorem dX2_touch_36 : decode cX2_touch 36 = .ok (.getfield 25, 3) := by decide +kernel
theorem dX2_touch_39 : decode cX2_touch 39 = .ok (.iastore, 1) := by decide +kernel
theorem dX2_touch_40 : decode cX2_touch 40 = .ok (.return_, 1) := by decide +kernel
theorem dX2_lose_0 : decode cX2_lose 0 = .ok (.iload_n 1, 1) := by decide +kernel
theorem dX2_lose_1 : decode cX2_lose 1 = .ok (.ifCond .lt 19, 3) := by decide +kernel
theorem dX2_lose_4 : decode cX2_lose 4 = .ok (.iload_n 1, 1) := by decide +kernel
theorem dX2_lose_5 : decode cX2_lose 5 = .ok (.aload_n 0, 1) := by decide +kernel
theorem dX2_lose_6 : decode cX2_lose 6 = .ok (.getfield 9, 3) := by decide +kernel
theorem dX2_lose_9 : decode cX2_lose 9 = .ok (.arraylength, 1) := by decide +kernel
theorem dX2_lose_10 : decode cX2_lose 10 = .ok (.if_icmp .ge 10, 3) := by decide +kernel
theorem dX2_lose_13 : decode cX2_lose 13 = .ok (.aload_n 0, 1) := by decide +kernel
theorem dX2_lose_14 : decode cX2_lose 14 = .ok (.getfield 9, 3) := by decide +kernel
theorem dX2_lose_17 : decode cX2_lose 17 = .ok (.iload_n 1, 1) := by decide +kernel
theorem dX2_lose_18 : decode cX2_lose 18 = .ok (.iconst 0, 1) := by decide +kernel
theorem dX2_lose_19 : decode cX2_lose 19 = .ok (.iastore, 1) := by decide +kernel
theorem dX2_lose_20 : decode cX2_lose 20 = .ok (.return_, 1) := by decide +kernel
set_option maxRecDepth 20000 in
theorem ggX2_loseAll_X2_size : GoodIn wsX2_loseAll wsX2_size := goodIn_r _ [6, 1, 7, 8, 9, 10] (by decide +kernel) (by decide +kernel)
set_option maxRecDepth 20000 in
theorem gX2_loseAll_X2_size : GoodIn wsX2_loseAll (wsV RX2 29 RX2 yX2_size wsX2_size) := goodIn_app (goodIn_of _ (by decide +kernel)) ggX2_loseAll_X2_size
theorem dX2_loseAll_0 : decode cX2_loseAll 0 = .ok (.aload_n 0, 1) := by decide +kernel
theorem dX2_loseAll_1 : decode cX2_loseAll 1 = .ok (.invokevirtual 29, 3) := by decide +kernel
theorem dX2_loseAll_4 : decode cX2_loseAll 4 = .ok (.istore_n 1, 1) := by decide +kernel
theorem dX2_loseAll_5 : decode cX2_loseAll 5 = .ok (.iconst 0, 1) := by decide +kernel
theorem dX2_loseAll_6 : decode cX2_loseAll 6 = .ok (.istore_n 2, 1) := by decide +kernel
theorem dX2_loseAll_7 : decode cX2_loseAll 7 = .ok (.iload_n 2, 1) := by decide +kernel
theorem dX2_loseAll_8 : decode cX2_loseAll 8 = .ok (.bipush 10, 2) := by decide +kernel
theorem dX2_loseAll_10 : decode cX2_loseAll 10 = .ok (.if_icmp .ge 16, 3) := by decide +kernel
theorem dX2_loseAll_13 : decode cX2_loseAll 13 = .ok (.aload_n 0, 1) := by decide +kernel
theorem dX2_loseAll_14 : decode cX2_loseAll 14 = .ok (.getfield 9, 3) := by decide +kernel
theorem dX2_loseAll_17 : decode cX2_loseAll 17 = .ok (.iload_n 2, 1) := by decide +kernel
theorem dX2_loseAll_18 : decode cX2_loseAll 18 = .ok (.iconst 0, 1) := by decide +kernel
theorem dX2_loseAll_19 : decode cX2_loseAll 19 = .ok (.iastore, 1) := by decide +kernel
theorem dX2_loseAll_20 : decode cX2_loseAll 20 = .ok (.iinc 2 1, 3) := by decide +kernel
theorem dX2_loseAll_23 : decode cX2_loseAll 23 = .ok (.goto (-16), 3) := by decide +kernel
theorem dX2_loseAll_26 : decode cX2_loseAll 26 = .ok (.iload_n 1, 1) := by decide +kernel
theorem dX2_loseAll_27 : decode cX2_loseAll 27 = .ok (.ireturn, 1) := by decide +kernel
set_option maxRecDepth 20000 in
theorem ggX2_firstOut_X2_rank : GoodIn wsX2_firstOut wsX2_rank := goodIn_r _ [6, 7, 1, 8, 9, 10, 11, 12] (by decide +kernel) (by decide +kernel)
set_option maxRecDepth 20000 in
theorem gX2_firstOut_X2_rank : GoodIn wsX2_firstOut (wsV RX2 33 RX2 yX2_rank wsX2_rank) := goodIn_app (goodIn_of _ (by decide +kernel)) ggX2_firstOut_X2_rank
theorem dX2_firstOut_0 : decode cX2_firstOut 0 = .ok (.iconst (-1), 1) := by decide +kernel
theorem dX2_firstOut_1 : decode cX2_firstOut 1 = .ok (.istore_n 3, 1) := by decide +kernel
theorem dX2_firstOut_2 : decode cX2_firstOut 2 = .ok (.iconst 0, 1) := by decide +kernel
theorem dX2_firstOut_3 : decode cX2_firstOut 3 = .ok (.istore 4, 2) := by decide +kernel
theorem dX2_firstOut_5 : decode cX2_firstOut 5 = .ok (.iload 4, 2) := by decide +kernel
theorem dX2_firstOut_7 : decode cX2_firstOut 7 = .ok (.bipush 10, 2) := by decide +kernel
theorem dX2_firstOut_9 : decode cX2_firstOut 9 = .ok (.if_icmp .ge 50, 3) := by decide +kernel
theorem dX2_firstOut_12 : decode cX2_firstOut 12 = .ok (.aload_n 0, 1) := by decide +kernel
theorem dX2_firstOut_13 : decode cX2_firstOut 13 = .ok (.getfield 9, 3) := by decide +kernel
theorem dX2_firstOut_16 : decode cX2_firstOut 16 = .ok (.iload 4, 2) := by decide +kernel
theorem dX2_firstOut_18 : decode cX2_firstOut 18 = .ok (.iaload, 1) := by decide +kernel
theorem dX2_firstOut_19 : decode cX2_firstOut 19 = .ok (.ifCond .le 34, 3) := by decide +kernel
theorem dX2_firstOut_22 : decode cX2_firstOut 22 = .ok (.iload 4, 2) := by decide +kernel
theorem dX2_firstOut_24 : decode cX2_firstOut 24 = .ok (.iload_n 2, 1) := by decide +kernel
theorem dX2_firstOut_25 : decode cX2_firstOut 25 = .ok (.if_icmp .eq 28, 3) := by decide +kernel
theorem dX2_firstOut_28 : decode cX2_firstOut 28 = .ok (.iload_n 3, 1) := by decide +kernel
theorem dX2_firstOut_29 : decode cX2_firstOut 29 = .ok (.iconst (-1), 1) := by decide +kernel
theorem dX2_firstOut_30 : decode cX2_firstOut 30 = .ok (.if_icmp .eq 20, 3) := by decide +kernel
theorem dX2_firstOut_33 : decode cX2_firstOut 33 = .ok (.aload_n 0, 1) := by decide +kernel
theorem dX2_firstOut_34 : decode cX2_firstOut 34 = .ok (.iload 4, 2) := by decide +kernel
theorem dX2_firstOut_36 : decode cX2_firstOut 36 = .ok (.iload_n 1, 1) := by decide +kernel
theorem dX2_firstOut_37 : decode cX2_firstOut 37 = .ok (.invokevirtual 33, 3) := by decide +kernel
theorem dX2_firstOut_40 : decode cX2_firstOut 40 = .ok (.aload_n 0, 1) := by decide +kernel
theorem dX2_firstOut_41 : decode cX2_firstOut 41 = .ok (.iload_n 3, 1) := by decide +kernel
theorem dX2_firstOut_42 : decode cX2_firstOut 42 = .ok (.iload_n 1, 1) := by decide +kernel
theorem dX2_firstOut_43 : decode cX2_firstOut 43 = .ok (.invokevirtual 33, 3) := by decide +kernel
theorem dX2_firstOut_46 : decode cX2_firstOut 46 = .ok (.lcmp, 1) := by decide +kernel
theorem dX2_firstOut_47 : decode cX2_firstOut 47 = .ok (.ifCond .ge 6, 3) := by decide +kernel
theorem dX2_firstOut_50 : decode cX2_firstOut 50 = .ok (.iload 4, 2) := by decide +kernel
theorem dX2_firstOut_52 : decode cX2_firstOut 52 = .ok (.istore_n 3, 1) := by decide +kernel
theorem dX2_firstOut_53 : decode cX2_firstOut 53 = .ok (.iinc 4 1, 3) := by decide +kernel
theorem dX2_firstOut_56 : decode cX2_firstOut 56 = .ok (.goto (-51), 3) := by decide +kernel
theorem dX2_firstOut_59 : decode cX2_firstOut 59 = .ok (.iload_n 3, 1) := by decide +kernel
theorem dX2_firstOut_60 : decode cX2_firstOut 60 = .ok (.ireturn, 1) := by decide +kernel
set_option maxRecDepth 20000 in
theorem ggX2_placeOf_X2_rank : GoodIn wsX2_placeOf wsX2_rank := goodIn_r _ [6, 7, 1, 8, 9, 10, 11, 12] (by decide +kernel) (by decide +kernel)
set_option maxRecDepth 20000 in
theorem gX2_placeOf_X2_rank : GoodIn wsX2_placeOf (wsV RX2 33 RX2 yX2_rank wsX2_rank) := goodIn_app (goodIn_of _ (by decide +kernel)) ggX2_placeOf_X2_rank
theorem dX2_placeOf_0 : decode cX2_placeOf 0 = .ok (.iconst 0, 1) := by decide +kernel
theorem dX2_placeOf_1 : decode cX2_placeOf 1 = .ok (.istore_n 3, 1) := by decide +kernel
theorem dX2_placeOf_2 : decode cX2_placeOf 2 = .ok (.iconst 0, 1) := by decide +kernel
theorem dX2_placeOf_3 : decode cX2_placeOf 3 = .ok (.istore 4, 2) := by decide +kernel
theorem dX2_placeOf_5 : decode cX2_placeOf 5 = .ok (.iload 4, 2) := by decide +kernel
theorem dX2_placeOf_7 : decode cX2_placeOf 7 = .ok (.bipush 10, 2) := by decide +kernel
theorem dX2_placeOf_9 : decode cX2_placeOf 9 = .ok (.if_icmp .ge 39, 3) := by decide +kernel
theorem dX2_placeOf_12 : decode cX2_placeOf 12 = .ok (.aload_n 0, 1) := by decide +kernel
theorem dX2_placeOf_13 : decode cX2_placeOf 13 = .ok (.getfield 9, 3) := by decide +kernel
theorem dX2_placeOf_16 : decode cX2_placeOf 16 = .ok (.iload 4, 2) := by decide +kernel
theorem dX2_placeOf_18 : decode cX2_placeOf 18 = .ok (.iaload, 1) := by decide +kernel
theorem dX2_placeOf_19 : decode cX2_placeOf 19 = .ok (.ifCond .le 23, 3) := by decide +kernel
theorem dX2_placeOf_22 : decode cX2_placeOf 22 = .ok (.aload_n 0, 1) := by decide +kernel
theorem dX2_placeOf_23 : decode cX2_placeOf 23 = .ok (.iload 4, 2) := by decide +kernel
theorem dX2_placeOf_25 : decode cX2_placeOf 25 = .ok (.iload_n 2, 1) := by decide +kernel
theorem dX2_placeOf_26 : decode cX2_placeOf 26 = .ok (.invokevirtual 33, 3) := by decide +kernel
theorem dX2_placeOf_29 : decode cX2_placeOf 29 = .ok (.aload_n 0, 1) := by decide +kernel
theorem dX2_placeOf_30 : decode cX2_placeOf 30 = .ok (.iload_n 1, 1) := by decide +kernel
theorem dX2_placeOf_31 : decode cX2_placeOf 31 = .ok (.iload_n 2, 1) := by decide +kernel
theorem dX2_placeOf_32 : decode cX2_placeOf 32 = .ok (.invokevirtual 33, 3) := by decide +kernel
theorem dX2_placeOf_35 : decode cX2_placeOf 35 = .ok (.lcmp, 1) := by decide +kernel
theorem dX2_placeOf_36 : decode cX2_placeOf 36 = .ok (.ifCond .ge 6, 3) := by decide +kernel
theorem dX2_placeOf_39 : decode cX2_placeOf 39 = .ok (.iinc 3 1, 3) := by decide +kernel
theorem dX2_placeOf_42 : decode cX2_placeOf 42 = .ok (.iinc 4 1, 3) := by decide +kernel
theorem dX2_placeOf_45 : decode cX2_placeOf 45 = .ok (.goto (-40), 3) := by decide +kernel
theorem dX2_placeOf_48 : decode cX2_placeOf 48 = .ok (.iload_n 3, 1) := by decide +kernel
theorem dX2_placeOf_49 : decode cX2_placeOf 49 = .ok (.ireturn, 1) := by decide +kernel
theorem dX2_rank_0 : decode cX2_rank 0 = .ok (.iload_n 1, 1) := by decide +kernel
theorem dX2_rank_1 : decode cX2_rank 1 = .ok (.ifCond .lt 9, 3) := by decide +kernel
theorem dX2_rank_4 : decode cX2_rank 4 = .ok (.iload_n 1, 1) := by decide +kernel
theorem dX2_rank_5 : decode cX2_rank 5 = .ok (.bipush 10, 2) := by decide +kernel
theorem dX2_rank_7 : decode cX2_rank 7 = .ok (.if_icmp .lt 5, 3) := by decide +kernel
theorem dX2_rank_10 : decode cX2_rank 10 = .ok (.lconst 0, 1) := by decide +kernel
theorem dX2_rank_11 : decode cX2_rank 11 = .ok (.lreturn, 1) := by decide +kernel
theorem dX2_rank_12 : decode cX2_rank 12 = .ok (.iload_n 2, 1) := by decide +kernel
theorem dX2_rank_13 : decode cX2_rank 13 = .ok (.iconst 2, 1) := by decide +kernel
theorem dX2_rank_14 : decode cX2_rank 14 = .ok (.if_icmp .ne 11, 3) := by decide +kernel
theorem dX2_rank_17 : decode cX2_rank 17 = .ok (.aload_n 0, 1) := by decide +kernel
theorem dX2_rank_18 : decode cX2_rank 18 = .ok (.getfield 18, 3) := by decide +kernel
theorem dX2_rank_21 : decode cX2_rank 21 = .ok (.iload_n 1, 1) := by decide +kernel
theorem dX2_rank_22 : decode cX2_rank 22 = .ok (.iaload, 1) := by decide +kernel
theorem dX2_rank_23 : decode cX2_rank 23 = .ok (.i2l, 1) := by decide +kernel
theorem dX2_rank_24 : decode cX2_rank 24 = .ok (.lreturn, 1) := by decide +kernel
theorem dX2_rank_25 : decode cX2_rank 25 = .ok (.iload_n 2, 1) := by decide +kernel
theorem dX2_rank_26 : decode cX2_rank 26 = .ok (.iconst 1, 1) := by decide +kernel
theorem dX2_rank_27 : decode cX2_rank 27 = .ok (.if_icmp .ne 16, 3) := by decide +kernel
theorem dX2_rank_30 : decode cX2_rank 30 = .ok (.aload_n 0, 1) := by decide +kernel
theorem dX2_rank_31 : decode cX2_rank 31 = .ok (.getfield 9, 3) := by decide +kernel
theorem dX2_rank_34 : decode cX2_rank 34 = .ok (.iload_n 1, 1) := by decide +kernel
theorem dX2_rank_35 : decode cX2_rank 35 = .ok (.iaload, 1) := by decide +kernel
theorem dX2_rank_36 : decode cX2_rank 36 = .ok (.i2l, 1) := by decide +kernel
theorem dX2_rank_37 : decode cX2_rank 37 = .ok (.bipush 32, 2) := by decide +kernel
theorem dX2_rank_39 : decode cX2_rank 39 = .ok (.lshl, 1) := by decide +kernel
theorem dX2_rank_40 : decode cX2_rank 40 = .ok (.goto 4, 3) := by decide +kernel
theorem dX2_rank_43 : decode cX2_rank 43 = .ok (.lconst 0, 1) := by decide +kernel
theorem dX2_rank_44 : decode cX2_rank 44 = .ok (.aload_n 0, 1) := by decide +kernel
theorem dX2_rank_45 : decode cX2_rank 45 = .ok (.getfield 15, 3) := by decide +kernel
theorem dX2_rank_48 : decode cX2_rank 48 = .ok (.iload_n 1, 1) := by decide +kernel
theorem dX2_rank_49 : decode cX2_rank 49 = .ok (.iaload, 1) := by decide +kernel
theorem dX2_rank_50 : decode cX2_rank 50 = .ok (.i2l, 1) := by decide +kernel
theorem dX2_rank_51 : decode cX2_rank 51 = .ok (.ladd, 1) := by decide +kernel
theorem dX2_rank_52 : decode cX2_rank 52 = .ok (.lreturn, 1) := by decide +kernel
theorem dX3_init_0 : decode cX3_init 0 = .ok (.aload_n 0, 1) := by decide +kernel
theorem dX3_init_1 : decode cX3_init 1 = .ok (.invokespecial 3, 3) := by decide +kernel
theorem dX3_init_4 : decode cX3_init 4 = .ok (.aload_n 0, 1) := by decide +kernel
theorem dX3_init_5 : decode cX3_init 5 = .ok (.bipush 60, 2) := by decide +kernel
theorem dX3_init_7 : decode cX3_init 7 = .ok (.newarray .int, 2) := by decide +kernel
theorem dX3_init_9 : decode cX3_init 9 = .ok (.putfield 9, 3) := by decide +kernel
theorem dX3_init_12 : decode cX3_init 12 = .ok (.return_, 1) := by decide +kernel
theorem dX3_size_0 : decode cX3_size 0 = .ok (.aload_n 0, 1) := by decide +kernel
theorem dX3_size_1 : decode cX3_size 1 = .ok (.getfield 15, 3) := by decide +kernel
theorem dX3_size_4 : decode cX3_size 4 = .ok (.ireturn, 1) := by decide +kernel
set_option maxRecDepth 20000 in
theorem ggX4_init_X5_init : GoodIn wsX4_init wsX5_init := goodIn_r _ [29, 30, 2, 3, 25, 31, 32, 47, 48, 49] (by decide +kernel) (by decide +kernel)
set_option maxRecDepth 20000 in
theorem gX4_init_X5_init : GoodIn wsX4_init (wsX5_init) := ggX4_init_X5_init
set_option maxRecDepth 20000 in
theorem ggX4_init_X0_init : GoodIn wsX4_init wsX0_init := goodIn_r _ [35, 36, 2, 3, 25, 37, 38, 39, 58, 59, 60] (by decide +kernel) (by decide +kernel)
set_option maxRecDepth 20000 in
theorem gX4_init_X0_init : GoodIn wsX4_init (wsX0_init) := ggX4_init_X0_init
set_option maxRecDepth 20000 in
theorem ggX4_init_X2_init : GoodIn wsX4_init wsX2_init := goodIn_r _ [42, 43, 2, 3, 25, 44, 45, 46, 61, 62, 63, 64] (by decide +kernel) (by decide +kernel)
set_option maxRecDepth 20000 in
theorem gX4_init_X2_init : GoodIn wsX4_init (wsX2_init) := ggX4_init_X2_init
theorem dX4_init_0 : decode cX4_init 0 = .ok (.aload_n 0, 1) := by decide +kernel
theorem dX4_init_1 : decode cX4_init 1 = .ok (.invokespecial 3, 3) := by decide +kernel
theorem dX4_init_4 : decode cX4_init 4 = .ok (.aload_n 0, 1) := by decide +kernel
theorem dX4_init_5 : decode cX4_init 5 = .ok (.new 9, 3) := by decide +kernel
theorem dX4_init_8 : decode cX4_init 8 = .ok (.dup, 1) := by decide +kernel
theorem dX4_init_9 : decode cX4_init 9 = .ok (.invokespecial 11, 3) := by decide +kernel
theorem dX4_init_12 : decode cX4_init 12 = .ok (.putfield 12, 3) := by decide +kernel
theorem dX4_init_15 : decode cX4_init 15 = .ok (.aload_n 0, 1) := by decide +kernel
theorem dX4_init_16 : decode cX4_init 16 = .ok (.new 9, 3) := by decide +kernel
theorem dX4_init_19 : decode cX4_init 19 = .ok (.dup, 1) := by decide +kernel
theorem dX4_init_20 : decode cX4_init 20 = .ok (.invokespecial 11, 3) := by decide +kernel
theorem dX4_init_23 : decode cX4_init 23 = .ok (.putfield 18, 3) := by decide +kernel
theorem dX4_init_26 : decode cX4_init 26 = .ok (.aload_n 0, 1) := by decide +kernel
theorem dX4_init_27 : decode cX4_init 27 = .ok (.new 21, 3) := by decide +kernel
theorem dX4_init_30 : decode cX4_init 30 = .ok (.dup, 1) := by decide +kernel
theorem dX4_init_31 : decode cX4_init 31 = .ok (.invokespecial 23, 3) := by decide +kernel
theorem dX4_init_34 : decode cX4_init 34 = .ok (.putfield 24, 3) := by decide +kernel
theorem dX4_init_37 : decode cX4_init 37 = .ok (.aload_n 0, 1) := by decide +kernel
theorem dX4_init_38 : decode cX4_init 38 = .ok (.new 28, 3) := by decide +kernel
theorem dX4_init_41 : decode cX4_init 41 = .ok (.dup, 1) := by decide +kernel
theorem dX4_init_42 : decode cX4_init 42 = .ok (.invokespecial 30, 3) := by decide +kernel
theorem dX4_init_45 : decode cX4_init 45 = .ok (.putfield 31, 3) := by decide +kernel
theorem dX4_init_48 : decode cX4_init 48 = .ok (.aload_n 0, 1) := by decide +kernel
theorem dX4_init_49 : decode cX4_init 49 = .ok (.getstatic 35, 3) := by decide +kernel
theorem dX4_init_52 : decode cX4_init 52 = .ok (.invokevirtual 39, 3) := by decide +kernel
theorem dX4_init_55 : decode cX4_init 55 = .ok (.checkcast 40, 3) := by decide +kernel
theorem dX4_init_58 : decode cX4_init 58 = .ok (.putfield 44, 3) := by decide +kernel
theorem dX4_init_61 : decode cX4_init 61 = .ok (.aload_n 0, 1) := by decide +kernel
theorem dX4_init_62 : decode cX4_init 62 = .ok (.bipush 7, 2) := by decide +kernel
theorem dX4_init_64 : decode cX4_init 64 = .ok (.newarray .int, 2) := by decide +kernel
theorem dX4_init_66 : decode cX4_init 66 = .ok (.putfield 47, 3) := by decide +kernel
theorem dX4_init_69 : decode cX4_init 69 = .ok (.return_, 1) := by decide +kernel
set_option maxRecDepth 20000 in
theorem ggX4_copyFrom_X5_copyFrom : GoodIn wsX4_copyFrom wsX5_copyFrom := goodIn_r _ [13, 14, 15, 16, 17, 18, 19, 20, 21, 22, 23, 24, 25, 26, 27, 53, 54, 55] (by decide +kernel) (by decide +kernel)
set_option maxRecDepth 20000 in
theorem gX4_copyFrom_X5_copyFrom : GoodIn wsX4_copyFrom (wsV RX4 50 RX5 yX5_copyFrom wsX5_copyFrom) := goodIn_app (goodIn_of _ (by decide +kernel)) ggX4_copyFrom_X5_copyFrom
set_option maxRecDepth 20000 in
theorem ggX4_copyFrom_X0_copyFrom : GoodIn wsX4_copyFrom wsX0_copyFrom := goodIn_r _ [32, 33, 34, 35, 17, 18, 19, 20, 21, 22, 23, 24, 25, 26, 27, 56, 57, 58] (by decide +kernel) (by decide +kernel)
set_option maxRecDepth 20000 in
theorem gX4_copyFrom_X0_copyFrom : GoodIn wsX4_copyFrom (wsV RX4 54 RX0 yX0_copyFrom wsX0_copyFrom) := goodIn_app (goodIn_of _ (by decide +kernel)) ggX4_copyFrom_X0_copyFrom
set_option maxRecDepth 20000 in
theorem ggX4_copyFrom_X2_copyFrom : GoodIn wsX4_copyFrom wsX2_copyFrom := goodIn_r _ [40, 41, 42, 43, 44, 17, 18, 19, 20, 21, 22, 23, 24, 25, 26, 27, 59, 60, 61, 62] (by decide +kernel) (by decide +kernel)
set_option maxRecDepth 20000 in
theorem gX4_copyFrom_X2_copyFrom : GoodIn wsX4_copyFrom (wsV RX4 57 RX2 yX2_copyFrom wsX2_copyFrom) := goodIn_app (goodIn_of _ (by decide +kernel)) ggX4_copyFrom_X2_copyFrom
set_option maxRecDepth 20000 in
theorem ggX4_copyFrom_X6_copyNumbers : GoodIn wsX4_copyFrom wsX6_copyNumbers := goodIn_r _ [19, 20, 21, 22, 23, 24, 25, 26, 27] (by decide +kernel) (by decide +kernel)
set_option maxRecDepth 20000 in
theorem gX4_copyFrom_X6_copyNumbers_n60 : GoodIn wsX4_copyFrom (wsX6_copyNumbers) := ggX4_copyFrom_X6_copyNumbers
theorem dX4_copyFrom_0 : decode cX4_copyFrom 0 = .ok (.aload_n 0, 1) := by decide +kernel
theorem dX4_copyFrom_1 : decode cX4_copyFrom 1 = .ok (.getfield 12, 3) := by decide +kernel
theorem dX4_copyFrom_4 : decode cX4_copyFrom 4 = .ok (.aload_n 1, 1) := by decide +kernel
theorem dX4_copyFrom_5 : decode cX4_copyFrom 5 = .ok (.getfield 12, 3) := by decide +kernel
theorem dX4_copyFrom_8 : decode cX4_copyFrom 8 = .ok (.invokevirtual 50, 3) := by decide +kernel
theorem dX4_copyFrom_11 : decode cX4_copyFrom 11 = .ok (.aload_n 0, 1) := by decide +kernel
theorem dX4_copyFrom_12 : decode cX4_copyFrom 12 = .ok (.getfield 18, 3) := by decide +kernel
theorem dX4_copyFrom_15 : decode cX4_copyFrom 15 = .ok (.aload_n 1, 1) := by decide +kernel
theorem dX4_copyFrom_16 : decode cX4_copyFrom 16 = .ok (.getfield 18, 3) := by decide +kernel
theorem dX4_copyFrom_19 : decode cX4_copyFrom 19 = .ok (.invokevirtual 50, 3) := by decide +kernel
theorem dX4_copyFrom_22 : decode cX4_copyFrom 22 = .ok (.aload_n 0, 1) := by decide +kernel
theorem dX4_copyFrom_23 : decode cX4_copyFrom 23 = .ok (.getfield 24, 3) := by decide +kernel
theorem dX4_copyFrom_26 : decode cX4_copyFrom 26 = .ok (.aload_n 1, 1) := by decide +kernel
theorem dX4_copyFrom_27 : decode cX4_copyFrom 27 = .ok (.getfield 24, 3) := by decide +kernel
theorem dX4_copyFrom_30 : decode cX4_copyFrom 30 = .ok (.invokevirtual 54, 3) := by decide +kernel
theorem dX4_copyFrom_33 : decode cX4_copyFrom 33 = .ok (.aload_n 0, 1) := by decide +kernel
theorem dX4_copyFrom_34 : decode cX4_copyFrom 34 = .ok (.getfield 31, 3) := by decide +kernel
theorem dX4_copyFrom_37 : decode cX4_copyFrom 37 = .ok (.aload_n 1, 1) := by decide +kernel
theorem dX4_copyFrom_38 : decode cX4_copyFrom 38 = .ok (.getfield 31, 3) := by decide +kernel
theorem dX4_copyFrom_41 : decode cX4_copyFrom 41 = .ok (.invokevirtual 57, 3) := by decide +kernel
theorem dX4_copyFrom_44 : decode cX4_copyFrom 44 = .ok (.aload_n 1, 1) := by decide +kernel
theorem dX4_copyFrom_45 : decode cX4_copyFrom 45 = .ok (.getfield 44, 3) := by decide +kernel
theorem dX4_copyFrom_48 : decode cX4_copyFrom 48 = .ok (.aload_n 0, 1) := by decide +kernel
theorem dX4_copyFrom_49 : decode cX4_copyFrom 49 = .ok (.getfield 44, 3) := by decide +kernel
theorem dX4_copyFrom_52 : decode cX4_copyFrom 52 = .ok (.invokestatic 60, 3) := by decide +kernel
theorem dX4_copyFrom_55 : decode cX4_copyFrom 55 = .ok (.aload_n 1, 1) := by decide +kernel
theorem dX4_copyFrom_56 : decode cX4_copyFrom 56 = .ok (.getfield 47, 3) := by decide +kernel
theorem dX4_copyFrom_59 : decode cX4_copyFrom 59 = .ok (.aload_n 0, 1) := by decide +kernel
theorem dX4_copyFrom_60 : decode cX4_copyFrom 60 = .ok (.getfield 47, 3) := by decide +kernel
theorem dX4_copyFrom_63 : decode cX4_copyFrom 63 = .ok (.invokestatic 60, 3) := by decide +kernel
theorem dX4_copyFrom_66 : decode cX4_copyFrom 66 = .ok (.aload_n 0, 1) := by decide +kernel
theorem dX4_copyFrom_67 : decode cX4_copyFrom 67 = .ok (.aload_n 1, 1) := by decide +kernel
theorem dX4_copyFrom_68 : decode cX4_copyFrom 68 = .ok (.getfield 64, 3) := by decide +kernel
theorem dX4_copyFrom_71 : decode cX4_copyFrom 71 = .ok (.putfield 64, 3) := by decide +kernel
theorem dX4_copyFrom_74 : decode cX4_copyFrom 74 = .ok (.aload_n 0, 1) := by decide +kernel
theorem dX4_copyFrom_75 : decode cX4_copyFrom 75 = .ok (.aload_n 1, 1) := by decide +kernel
theorem dX4_copyFrom_76 : decode cX4_copyFrom 76 = .ok (.getfield 68, 3) := by decide +kernel
theorem dX4_copyFrom_79 : decode cX4_copyFrom 79 = .ok (.putfield 68, 3) := by decide +kernel
theorem dX4_copyFrom_82 : decode cX4_copyFrom 82 = .ok (.return_, 1) := by decide +kernel
theorem dX4_table_0 : decode cX4_table 0 = .ok (.iload_n 1, 1) := by decide +kernel
theorem dX4_table_1 : decode cX4_table 1 = .ok (.ifCond .eq 10, 3) := by decide +kernel
theorem dX4_table_4 : decode cX4_table 4 = .ok (.aload_n 0, 1) := by decide +kernel
theorem dX4_table_5 : decode cX4_table 5 = .ok (.getfield 18, 3) := by decide +kernel
theorem dX4_table_8 : decode cX4_table 8 = .ok (.goto 7, 3) := by decide +kernel
theorem dX4_table_11 : decode cX4_table 11 = .ok (.aload_n 0, 1) := by decide +kernel
theorem dX4_table_12 : decode cX4_table 12 = .ok (.getfield 12, 3) := by decide +kernel
theorem dX4_table_15 : decode cX4_table 15 = .ok (.areturn, 1) := by decide +kernel
theorem dX4_answers_0 : decode cX4_answers 0 = .ok (.aload_n 0, 1) := by decide +kernel
theorem dX4_answers_1 : decode cX4_answers 1 = .ok (.getfield 24, 3) := by decide +kernel
theorem dX4_answers_4 : decode cX4_answers 4 = .ok (.areturn, 1) := by decide +kernel
theorem dX4_memo_0 : decode cX4_memo 0 = .ok (.aload_n 0, 1) := by decide +kernel
theorem dX4_memo_1 : decode cX4_memo 1 = .ok (.getfield 31, 3) := by decide +kernel
theorem dX4_memo_4 : decode cX4_memo 4 = .ok (.areturn, 1) := by decide +kernel
theorem dX4_setting_0 : decode cX4_setting 0 = .ok (.iload_n 1, 1) := by decide +kernel
theorem dX4_setting_1 : decode cX4_setting 1 = .ok (.ifCond .lt 21, 3) := by decide +kernel
theorem dX4_setting_4 : decode cX4_setting 4 = .ok (.iload_n 1, 1) := by decide +kernel
theorem dX4_setting_5 : decode cX4_setting 5 = .ok (.aload_n 0, 1) := by decide +kernel
theorem dX4_setting_6 : decode cX4_setting 6 = .ok (.getfield 44, 3) := by decide +kernel
theorem dX4_setting_9 : decode cX4_setting 9 = .ok (.arraylength, 1) := by decide +kernel
theorem dX4_setting_10 : decode cX4_setting 10 = .ok (.if_icmp .ge 12, 3) := by decide +kernel
theorem dX4_setting_13 : decode cX4_setting 13 = .ok (.aload_n 0, 1) := by decide +kernel
theorem dX4_setting_14 : decode cX4_setting 14 = .ok (.getfield 44, 3) := by decide +kernel
theorem dX4_setting_17 : decode cX4_setting 17 = .ok (.iload_n 1, 1) := by decide +kernel
theorem dX4_setting_18 : decode cX4_setting 18 = .ok (.iaload, 1) := by decide +kernel
theorem dX4_setting_19 : decode cX4_setting 19 = .ok (.goto 4, 3) := by decide +kernel
theorem dX4_setting_22 : decode cX4_setting 22 = .ok (.iconst 0, 1) := by decide +kernel
theorem dX4_setting_23 : decode cX4_setting 23 = .ok (.ireturn, 1) := by decide +kernel
theorem dX4_tally_0 : decode cX4_tally 0 = .ok (.iload_n 1, 1) := by decide +kernel
theorem dX4_tally_1 : decode cX4_tally 1 = .ok (.ifCond .lt 21, 3) := by decide +kernel
theorem dX4_tally_4 : decode cX4_tally 4 = .ok (.iload_n 1, 1) := by decide +kernel
theorem dX4_tally_5 : decode cX4_tally 5 = .ok (.aload_n 0, 1) := by decide +kernel
theorem dX4_tally_6 : decode cX4_tally 6 = .ok (.getfield 47, 3) := by decide +kernel
theorem dX4_tally_9 : decode cX4_tally 9 = .ok (.arraylength, 1) := by decide +kernel
theorem dX4_tally_10 : decode cX4_tally 10 = .ok (.if_icmp .ge 12, 3) := by decide +kernel
theorem dX4_tally_13 : decode cX4_tally 13 = .ok (.aload_n 0, 1) := by decide +kernel
theorem dX4_tally_14 : decode cX4_tally 14 = .ok (.getfield 47, 3) := by decide +kernel
theorem dX4_tally_17 : decode cX4_tally 17 = .ok (.iload_n 1, 1) := by decide +kernel
theorem dX4_tally_18 : decode cX4_tally 18 = .ok (.iaload, 1) := by decide +kernel
theorem dX4_tally_19 : decode cX4_tally 19 = .ok (.goto 4, 3) := by decide +kernel
theorem dX4_tally_22 : decode cX4_tally 22 = .ok (.iconst 0, 1) := by decide +kernel
theorem dX4_tally_23 : decode cX4_tally 23 = .ok (.ireturn, 1) := by decide +kernel
theorem dX4_place_0 : decode cX4_place 0 = .ok (.aload_n 0, 1) := by decide +kernel
theorem dX4_place_1 : decode cX4_place 1 = .ok (.getfield 64, 3) := by decide +kernel
theorem dX4_place_4 : decode cX4_place 4 = .ok (.ireturn, 1) := by decide +kernel
theorem dX4_totalSoFar_0 : decode cX4_totalSoFar 0 = .ok (.aload_n 0, 1) := by decide +kernel
theorem dX4_totalSoFar_1 : decode cX4_totalSoFar 1 = .ok (.getfield 68, 3) := by decide +kernel
theorem dX4_totalSoFar_4 : decode cX4_totalSoFar 4 = .ok (.ireturn, 1) := by decide +kernel
theorem dX4_isDone_0 : decode cX4_isDone 0 = .ok (.iload_n 1, 1) := by decide +kernel
theorem dX4_isDone_1 : decode cX4_isDone 1 = .ok (.aload_n 0, 1) := by decide +kernel
theorem dX4_isDone_2 : decode cX4_isDone 2 = .ok (.getfield 64, 3) := by decide +kernel
theorem dX4_isDone_5 : decode cX4_isDone 5 = .ok (.if_icmp .ge 7, 3) := by decide +kernel
theorem dX4_isDone_8 : decode cX4_isDone 8 = .ok (.iconst 1, 1) := by decide +kernel
theorem dX4_isDone_9 : decode cX4_isDone 9 = .ok (.goto 4, 3) := by decide +kernel
theorem dX4_isDone_12 : decode cX4_isDone 12 = .ok (.iconst 0, 1) := by decide +kernel
theorem dX4_isDone_13 : decode cX4_isDone 13 = .ok (.ireturn, 1) := by decide +kernel
set_option maxRecDepth 20000 in
theorem ggX4_isInRememberedAnswer_X5_key : GoodIn wsX4_isInRememberedAnswer wsX5_key := goodIn_r _ [7, 8, 34, 35, 36] (by decide +kernel) (by decide +kernel)
set_option maxRecDepth 20000 in
theorem gX4_isInRememberedAnswer_X5_key : GoodIn wsX4_isInRememberedAnswer (wsV RX4 71 RX5 yX5_key wsX5_key) := goodIn_app (goodIn_of _ (by decide +kernel)) ggX4_isInRememberedAnswer_X5_key
set_option maxRecDepth 20000 in
theorem ggX4_isInRememberedAnswer_X2_holds : GoodIn wsX4_isInRememberedAnswer wsX2_holds := goodIn_r _ [13, 14, 37, 38, 39, 40] (by decide +kernel) (by decide +kernel)
set_option maxRecDepth 20000 in
theorem gX4_isInRememberedAnswer_X2_holds : GoodIn wsX4_isInRememberedAnswer (wsV RX4 75 RX2 yX2_holds wsX2_holds) := goodIn_app (goodIn_of _ (by decide +kernel)) ggX4_isInRememberedAnswer_X2_holds
set_option maxRecDepth 20000 in
theorem ggX4_isInRememberedAnswer_X5_value : GoodIn wsX4_isInRememberedAnswer wsX5_value := goodIn_r _ [18, 19, 34, 35, 36] (by decide +kernel) (by decide +kernel)
set_option maxRecDepth 20000 in
theorem gX4_isInRememberedAnswer_X5_value : GoodIn wsX4_isInRememberedAnswer (wsV RX4 79 RX5 yX5_value wsX5_value) := goodIn_app (goodIn_of _ (by decide +kernel)) ggX4_isInRememberedAnswer_X5_value
set_option maxRecDepth 20000 in
theorem ggX4_isInRememberedAnswer_X4_isInBand : GoodIn wsX4_isInRememberedAnswer wsX4_isInBand := goodIn_r _ [24, 25, 26, 27, 28, 29, 30, 31, 32, 33] (by decide +kernel) (by decide +kernel)
set_option maxRecDepth 20000 in
theorem gX4_isInRememberedAnswer_X4_isInBand : GoodIn wsX4_isInRememberedAnswer (wsV RX4 82 RX4 yX4_isInBand wsX4_isInBand) := goodIn_app (goodIn_of _ (by decide +kernel)) ggX4_isInRememberedAnswer_X4_isInBand
theorem dX4_isInRememberedAnswer_0 : decode cX4_isInRememberedAnswer 0 = .ok (.aload_n 0, 1) := by decide +kernel
theorem dX4_isInRememberedAnswer_1 : decode cX4_isInRememberedAnswer 1 = .ok (.getfield 31, 3) := by decide +kernel
theorem dX4_isInRememberedAnswer_4 : decode cX4_isInRememberedAnswer 4 = .ok (.aload_n 0, 1) := by decide +kernel
theorem dX4_isInRememberedAnswer_5 : decode cX4_isInRememberedAnswer 5 = .ok (.getfield 18, 3) := by decide +kernel
theorem dX4_isInRememberedAnswer_8 : decode cX4_isInRememberedAnswer 8 = .ok (.iload_n 1, 1) := by decide +kernel
theorem dX4_isInRememberedAnswer_9 : decode cX4_isInRememberedAnswer 9 = .ok (.invokevirtual 71, 3) := by decide +kernel
theorem dX4_isInRememberedAnswer_12 : decode cX4_isInRememberedAnswer 12 = .ok (.invokevirtual 75, 3) := by decide +kernel
theorem dX4_isInRememberedAnswer_15 : decode cX4_isInRememberedAnswer 15 = .ok (.ifCond .eq 22, 3) := by decide +kernel
theorem dX4_isInRememberedAnswer_18 : decode cX4_isInRememberedAnswer 18 = .ok (.aload_n 0, 1) := by decide +kernel
theorem dX4_isInRememberedAnswer_19 : decode cX4_isInRememberedAnswer 19 = .ok (.aload_n 0, 1) := by decide +kernel
theorem dX4_isInRememberedAnswer_20 : decode cX4_isInRememberedAnswer 20 = .ok (.getfield 18, 3) := by decide +kernel
theorem dX4_isInRememberedAnswer_23 : decode cX4_isInRememberedAnswer 23 = .ok (.iload_n 1, 1) := by decide +kernel
theorem dX4_isInRememberedAnswer_24 : decode cX4_isInRememberedAnswer 24 = .ok (.invokevirtual 79, 3) := by decide +kernel
theorem dX4_isInRememberedAnswer_27 : decode cX4_isInRememberedAnswer 27 = .ok (.invokevirtual 82, 3) := by decide +kernel
theorem dX4_isInRememberedAnswer_30 : decode cX4_isInRememberedAnswer 30 = .ok (.ifCond .eq 7, 3) := by decide +kernel
theorem dX4_isInRememberedAnswer_33 : decode cX4_isInRememberedAnswer 33 = .ok (.iconst 1, 1) := by decide +kernel
theorem dX4_isInRememberedAnswer_34 : decode cX4_isInRememberedAnswer 34 = .ok (.goto 4, 3) := by decide +kernel
theorem dX4_isInRememberedAnswer_37 : decode cX4_isInRememberedAnswer 37 = .ok (.iconst 0, 1) := by decide +kernel
theorem dX4_isInRememberedAnswer_38 : decode cX4_isInRememberedAnswer 38 = .ok (.ireturn, 1) := by decide +kernel
set_option maxRecDepth 20000 in
theorem ggX4_insertRow_X6_isRow : GoodIn wsX4_insertRow wsX6_isRow := goodIn_r _ [3, 4, 5, 2, 6, 7, 8, 9] (by decide +kernel) (by decide +kernel)
set_option maxRecDepth 20000 in
theorem gX4_insertRow_X6_isRow_n85 : GoodIn wsX4_insertRow (wsX6_isRow) := ggX4_insertRow_X6_isRow
set_option maxRecDepth 20000 in
theorem ggX4_insertRow_X4_table : GoodIn wsX4_insertRow wsX4_table := goodIn_r _ [14, 15, 16, 88, 89, 90, 91, 92, 93, 94, 95] (by decide +kernel) (by decide +kernel)
set_option maxRecDepth 20000 in
theorem gX4_insertRow_X4_table : GoodIn wsX4_insertRow (wsV RX4 89 RX4 yX4_table wsX4_table) := goodIn_app (goodIn_of _ (by decide +kernel)) ggX4_insertRow_X4_table
set_option maxRecDepth 20000 in
theorem ggX4_insertRow_X5_size : GoodIn wsX4_insertRow wsX5_size := goodIn_r _ [21, 22, 96, 97, 98] (by decide +kernel) (by decide +kernel)
set_option maxRecDepth 20000 in
theorem gX4_insertRow_X5_size : GoodIn wsX4_insertRow (wsV RX4 93 RX5 yX5_size wsX5_size) := goodIn_app (goodIn_of _ (by decide +kernel)) ggX4_insertRow_X5_size
set_option maxRecDepth 20000 in
theorem ggX4_insertRow_X5_push : GoodIn wsX4_insertRow wsX5_push := goodIn_r _ [26, 22, 27, 28, 29, 20, 30, 31, 32, 96, 97, 98] (by decide +kernel) (by decide +kernel)
set_option maxRecDepth 20000 in
theorem gX4_insertRow_X5_push : GoodIn wsX4_insertRow (wsV RX4 97 RX5 yX5_push wsX5_push) := goodIn_app (goodIn_of _ (by decide +kernel)) ggX4_insertRow_X5_push
set_option maxRecDepth 20000 in
theorem ggX4_insertRow_X4_keepTrue : GoodIn wsX4_insertRow wsX4_keepTrue := goodIn_r _ [36, 37, 38, 39, 40, 13, 41, 42, 15, 43, 44, 45, 46, 47, 48, 49, 50, 51, 18, 19, 20, 21, 22, 52, 53, 54, 55, 32, 56, 57, 58, 59, 31, 60, 61, 62, 63, 64, 65, 66, 67, 68, 69, 70, 71, 72, 73, 74, 75, 76, 77, 78, 79, 80, 81, 82, 83, 84, 85, 86, 87, 88, 89, 90, 91, 92, 93, 94, 95, 99, 100, 101, 96, 97, 98, 102, 103, 104, 105] (by decide +kernel) (by decide +kernel)
set_option maxRecDepth 20000 in
theorem gX4_insertRow_X4_keepTrue : GoodIn wsX4_insertRow (wsV RX4 101 RX4 yX4_keepTrue wsX4_keepTrue) := goodIn_app (goodIn_of _ (by decide +kernel)) ggX4_insertRow_X4_keepTrue
theorem dX4_insertRow_0 : decode cX4_insertRow 0 = .ok (.iload_n 2, 1) := by decide +kernel
theorem dX4_insertRow_1 : decode cX4_insertRow 1 = .ok (.iload_n 3, 1) := by decide +kernel
theorem dX4_insertRow_2 : decode cX4_insertRow 2 = .ok (.invokestatic 85, 3) := by decide +kernel
theorem dX4_insertRow_5 : decode cX4_insertRow 5 = .ok (.ifCond .ne 5, 3) := by decide +kernel
theorem dX4_insertRow_8 : decode cX4_insertRow 8 = .ok (.iconst (-1), 1) := by decide +kernel
theorem dX4_insertRow_9 : decode cX4_insertRow 9 = .ok (.ireturn, 1) := by decide +kernel
theorem dX4_insertRow_10 : decode cX4_insertRow 10 = .ok (.aload_n 0, 1) := by decide +kernel
theorem dX4_insertRow_11 : decode cX4_insertRow 11 = .ok (.iload_n 1, 1) := by decide +kernel
theorem dX4_insertRow_12 : decode cX4_insertRow 12 = .ok (.invokevirtual 89, 3) := by decide +kernel
theorem dX4_insertRow_15 : decode cX4_insertRow 15 = .ok (.astore 4, 2) := by decide +kernel
theorem dX4_insertRow_17 : decode cX4_insertRow 17 = .ok (.aload 4, 2) := by decide +kernel
theorem dX4_insertRow_19 : decode cX4_insertRow 19 = .ok (.invokevirtual 93, 3) := by decide +kernel
theorem dX4_insertRow_22 : decode cX4_insertRow 22 = .ok (.bipush 20, 2) := by decide +kernel
theorem dX4_insertRow_24 : decode cX4_insertRow 24 = .ok (.if_icmp .lt 6, 3) := by decide +kernel
theorem dX4_insertRow_27 : decode cX4_insertRow 27 = .ok (.bipush (-3), 2) := by decide +kernel
theorem dX4_insertRow_29 : decode cX4_insertRow 29 = .ok (.ireturn, 1) := by decide +kernel
theorem dX4_insertRow_30 : decode cX4_insertRow 30 = .ok (.aload 4, 2) := by decide +kernel
theorem dX4_insertRow_32 : decode cX4_insertRow 32 = .ok (.iload_n 2, 1) := by decide +kernel
theorem dX4_insertRow_33 : decode cX4_insertRow 33 = .ok (.iload_n 3, 1) := by decide +kernel
theorem dX4_insertRow_34 : decode cX4_insertRow 34 = .ok (.invokevirtual 97, 3) := by decide +kernel
theorem dX4_insertRow_37 : decode cX4_insertRow 37 = .ok (.iload_n 1, 1) := by decide +kernel
theorem dX4_insertRow_38 : decode cX4_insertRow 38 = .ok (.ifCond .eq 9, 3) := by decide +kernel
theorem dX4_insertRow_41 : decode cX4_insertRow 41 = .ok (.aload_n 0, 1) := by decide +kernel
theorem dX4_insertRow_42 : decode cX4_insertRow 42 = .ok (.iload_n 2, 1) := by decide +kernel
theorem dX4_insertRow_43 : decode cX4_insertRow 43 = .ok (.iload_n 2, 1) := by decide +kernel
theorem dX4_insertRow_44 : decode cX4_insertRow 44 = .ok (.invokevirtual 101, 3) := by decide +kernel
theorem dX4_insertRow_47 : decode cX4_insertRow 47 = .ok (.aload 4, 2) := by decide +kernel
theorem dX4_insertRow_49 : decode cX4_insertRow 49 = .ok (.invokevirtual 93, 3) := by decide +kernel
theorem dX4_insertRow_52 : decode cX4_insertRow 52 = .ok (.iconst 1, 1) := by decide +kernel
theorem dX4_insertRow_53 : decode cX4_insertRow 53 = .ok (.isub, 1) := by decide +kernel
theorem dX4_insertRow_54 : decode cX4_insertRow 54 = .ok (.ireturn, 1) := by decide +kernel
set_option maxRecDepth 20000 in
theorem ggX4_removeRow_X4_table : GoodIn wsX4_removeRow wsX4_table := goodIn_r _ [6, 7, 8, 92, 93, 94, 95, 96, 97, 98, 99] (by decide +kernel) (by decide +kernel)
set_option maxRecDepth 20000 in
theorem gX4_removeRow_X4_table : GoodIn wsX4_removeRow (wsV RX4 89 RX4 yX4_table wsX4_table) := goodIn_app (goodIn_of _ (by decide +kernel)) ggX4_removeRow_X4_table
set_option maxRecDepth 20000 in
theorem ggX4_removeRow_X5_has : GoodIn wsX4_removeRow wsX5_has := goodIn_r _ [13, 14, 100, 101, 102] (by decide +kernel) (by decide +kernel)
set_option maxRecDepth 20000 in
theorem gX4_removeRow_X5_has : GoodIn wsX4_removeRow (wsV RX4 104 RX5 yX5_has wsX5_has) := goodIn_app (goodIn_of _ (by decide +kernel)) ggX4_removeRow_X5_has
set_option maxRecDepth 20000 in
theorem ggX4_removeRow_X5_key : GoodIn wsX4_removeRow wsX5_key := goodIn_r _ [18, 19, 100, 101, 102] (by decide +kernel) (by decide +kernel)
set_option maxRecDepth 20000 in
theorem gX4_removeRow_X5_key : GoodIn wsX4_removeRow (wsV RX4 71 RX5 yX5_key wsX5_key) := goodIn_app (goodIn_of _ (by decide +kernel)) ggX4_removeRow_X5_key
set_option maxRecDepth 20000 in
theorem ggX4_removeRow_X5_takeOut : GoodIn wsX4_removeRow wsX5_takeOut := goodIn_r _ [23, 14, 24, 10, 11, 12, 13, 25, 16, 17, 18, 19, 26, 27, 28, 29, 30, 31, 32, 33, 34, 100, 101, 102] (by decide +kernel) (by decide +kernel)
set_option maxRecDepth 20000 in
theorem gX4_removeRow_X5_takeOut : GoodIn wsX4_removeRow (wsV RX4 107 RX5 yX5_takeOut wsX5_takeOut) := goodIn_app (goodIn_of _ (by decide +kernel)) ggX4_removeRow_X5_takeOut
set_option maxRecDepth 20000 in
theorem ggX4_removeRow_X4_keepTrue : GoodIn wsX4_removeRow wsX4_keepTrue := goodIn_r _ [38, 39, 40, 41, 42, 5, 43, 44, 7, 45, 46, 47, 48, 49, 50, 51, 52, 53, 54, 55, 12, 56, 14, 57, 27, 28, 29, 30, 58, 16, 17, 18, 19, 59, 60, 61, 62, 63, 64, 65, 66, 67, 68, 69, 70, 71, 72, 73, 74, 75, 76, 77, 78, 79, 80, 81, 82, 83, 84, 85, 86, 92, 93, 94, 95, 96, 97, 98, 99, 103, 104, 105, 100, 101, 102, 106, 107, 108, 109] (by decide +kernel) (by decide +kernel)
set_option maxRecDepth 20000 in
theorem gX4_removeRow_X4_keepTrue : GoodIn wsX4_removeRow (wsV RX4 101 RX4 yX4_keepTrue wsX4_keepTrue) := goodIn_app (goodIn_of _ (by decide +kernel)) ggX4_removeRow_X4_keepTrue
set_option maxRecDepth 20000 in
theorem ggX4_removeRow_X4_isDone : GoodIn wsX4_removeRow wsX4_isDone := goodIn_r _ [90, 1, 92, 93, 94, 95, 96, 97, 98, 99] (by decide +kernel) (by decide +kernel)
set_option maxRecDepth 20000 in
theorem gX4_removeRow_X4_isDone : GoodIn wsX4_removeRow (wsV RX4 111 RX4 yX4_isDone wsX4_isDone) := goodIn_app (goodIn_of _ (by decide +kernel)) ggX4_removeRow_X4_isDone
set_option maxRecDepth 20000 in
theorem ggX4_removeRow_X5_size : GoodIn wsX4_removeRow wsX5_size := goodIn_r _ [56, 14, 100, 101, 102] (by decide +kernel) (by decide +kernel)
set_option maxRecDepth 20000 in
theorem gX4_removeRow_X5_size : GoodIn wsX4_removeRow (wsV RX4 93 RX5 yX5_size wsX5_size) := goodIn_app (goodIn_of _ (by decide +kernel)) ggX4_removeRow_X5_size
theorem dX4_removeRow_0 : decode cX4_removeRow 0 = .ok (.aload_n 0, 1) := by decide +kernel
theorem dX4_removeRow_1 : decode cX4_removeRow 1 = .ok (.iload_n 1, 1) := by decide +kernel
theorem dX4_removeRow_2 : decode cX4_removeRow 2 = .ok (.invokevirtual 89, 3) := by decide +kernel
theorem dX4_removeRow_5 : decode cX4_removeRow 5 = .ok (.astore_n 3, 1) := by decide +kernel
theorem dX4_removeRow_6 : decode cX4_removeRow 6 = .ok (.aload_n 3, 1) := by decide +kernel
theorem dX4_removeRow_7 : decode cX4_removeRow 7 = .ok (.iload_n 2, 1) := by decide +kernel
theorem dX4_removeRow_8 : decode cX4_removeRow 8 = .ok (.invokevirtual 104, 3) := by decide +kernel
theorem dX4_removeRow_11 : decode cX4_removeRow 11 = .ok (.ifCond .ne 5, 3) := by decide +kernel
theorem dX4_removeRow_14 : decode cX4_removeRow 14 = .ok (.iconst (-1), 1) := by decide +kernel
theorem dX4_removeRow_15 : decode cX4_removeRow 15 = .ok (.ireturn, 1) := by decide +kernel
theorem dX4_removeRow_16 : decode cX4_removeRow 16 = .ok (.aload_n 3, 1) := by decide +kernel
theorem dX4_removeRow_17 : decode cX4_removeRow 17 = .ok (.iload_n 2, 1) := by decide +kernel
theorem dX4_removeRow_18 : decode cX4_removeRow 18 = .ok (.invokevirtual 71, 3) := by decide +kernel
theorem dX4_removeRow_21 : decode cX4_removeRow 21 = .ok (.istore 4, 2) := by decide +kernel
theorem dX4_removeRow_23 : decode cX4_removeRow 23 = .ok (.aload_n 3, 1) := by decide +kernel
theorem dX4_removeRow_24 : decode cX4_removeRow 24 = .ok (.iload_n 2, 1) := by decide +kernel
theorem dX4_removeRow_25 : decode cX4_removeRow 25 = .ok (.invokevirtual 107, 3) := by decide +kernel
theorem dX4_removeRow_28 : decode cX4_removeRow 28 = .ok (.iload_n 1, 1) := by decide +kernel
theorem dX4_removeRow_29 : decode cX4_removeRow 29 = .ok (.ifCond .eq 14, 3) := by decide +kernel
theorem dX4_removeRow_32 : decode cX4_removeRow 32 = .ok (.aload_n 0, 1) := by decide +kernel
theorem dX4_removeRow_33 : decode cX4_removeRow 33 = .ok (.iload 4, 2) := by decide +kernel
theorem dX4_removeRow_35 : decode cX4_removeRow 35 = .ok (.iload 4, 2) := by decide +kernel
theorem dX4_removeRow_37 : decode cX4_removeRow 37 = .ok (.invokevirtual 101, 3) := by decide +kernel
theorem dX4_removeRow_40 : decode cX4_removeRow 40 = .ok (.goto 21, 3) := by decide +kernel
theorem dX4_removeRow_43 : decode cX4_removeRow 43 = .ok (.aload_n 0, 1) := by decide +kernel
theorem dX4_removeRow_44 : decode cX4_removeRow 44 = .ok (.iload_n 2, 1) := by decide +kernel
theorem dX4_removeRow_45 : decode cX4_removeRow 45 = .ok (.invokevirtual 111, 3) := by decide +kernel
theorem dX4_removeRow_48 : decode cX4_removeRow 48 = .ok (.ifCond .eq 13, 3) := by decide +kernel
theorem dX4_removeRow_51 : decode cX4_removeRow 51 = .ok (.aload_n 0, 1) := by decide +kernel
theorem dX4_removeRow_52 : decode cX4_removeRow 52 = .ok (.dup, 1) := by decide +kernel
theorem dX4_removeRow_53 : decode cX4_removeRow 53 = .ok (.getfield 64, 3) := by decide +kernel
theorem dX4_removeRow_56 : decode cX4_removeRow 56 = .ok (.iconst 1, 1) := by decide +kernel
theorem dX4_removeRow_57 : decode cX4_removeRow 57 = .ok (.isub, 1) := by decide +kernel
theorem dX4_removeRow_58 : decode cX4_removeRow 58 = .ok (.putfield 64, 3) := by decide +kernel
theorem dX4_removeRow_61 : decode cX4_removeRow 61 = .ok (.aload_n 3, 1) := by decide +kernel
theorem dX4_removeRow_62 : decode cX4_removeRow 62 = .ok (.invokevirtual 93, 3) := by decide +kernel
theorem dX4_removeRow_65 : decode cX4_removeRow 65 = .ok (.ireturn, 1) := by decide +kernel
set_option maxRecDepth 20000 in
theorem ggX4_rewriteRow_X5_has : GoodIn wsX4_rewriteRow wsX5_has := goodIn_r _ [7, 8, 92, 93, 94] (by decide +kernel) (by decide +kernel)
set_option maxRecDepth 20000 in
theorem gX4_rewriteRow_X5_has : GoodIn wsX4_rewriteRow (wsV RX4 104 RX5 yX5_has wsX5_has) := goodIn_app (goodIn_of _ (by decide +kernel)) ggX4_rewriteRow_X5_has
set_option maxRecDepth 20000 in
theorem ggX4_rewriteRow_X6_isRow : GoodIn wsX4_rewriteRow wsX6_isRow := goodIn_r _ [11, 12, 13, 10, 14, 15, 16, 17] (by decide +kernel) (by decide +kernel)
set_option maxRecDepth 20000 in
theorem gX4_rewriteRow_X6_isRow_n85 : GoodIn wsX4_rewriteRow (wsX6_isRow) := ggX4_rewriteRow_X6_isRow
set_option maxRecDepth 20000 in
theorem ggX4_rewriteRow_X5_key : GoodIn wsX4_rewriteRow wsX5_key := goodIn_r _ [21, 22, 92, 93, 94] (by decide +kernel) (by decide +kernel)
set_option maxRecDepth 20000 in
theorem gX4_rewriteRow_X5_key : GoodIn wsX4_rewriteRow (wsV RX4 71 RX5 yX5_key wsX5_key) := goodIn_app (goodIn_of _ (by decide +kernel)) ggX4_rewriteRow_X5_key
set_option maxRecDepth 20000 in
theorem ggX4_rewriteRow_X5_put : GoodIn wsX4_rewriteRow wsX5_put := goodIn_r _ [26, 22, 27, 92, 93, 94] (by decide +kernel) (by decide +kernel)
set_option maxRecDepth 20000 in
theorem gX4_rewriteRow_X5_put : GoodIn wsX4_rewriteRow (wsV RX4 114 RX5 yX5_put wsX5_put) := goodIn_app (goodIn_of _ (by decide +kernel)) ggX4_rewriteRow_X5_put
set_option maxRecDepth 20000 in
theorem ggX4_rewriteRow_X4_keepTrue : GoodIn wsX4_rewriteRow wsX4_keepTrue := goodIn_r _ [32, 33, 34, 35, 36, 31, 37, 38, 1, 39, 40, 41, 42, 43, 44, 45, 46, 47, 48, 49, 6, 50, 8, 51, 52, 53, 54, 27, 55, 19, 20, 21, 22, 56, 57, 58, 59, 2, 60, 61, 62, 63, 64, 65, 66, 67, 68, 69, 70, 71, 72, 73, 74, 75, 76, 77, 78, 79, 80, 81, 82, 84, 85, 86, 87, 88, 89, 90, 91, 95, 96, 97, 92, 93, 94, 98, 99, 100, 101] (by decide +kernel) (by decide +kernel)
set_option maxRecDepth 20000 in
theorem gX4_rewriteRow_X4_keepTrue : GoodIn wsX4_rewriteRow (wsV RX4 101 RX4 yX4_keepTrue wsX4_keepTrue) := goodIn_app (goodIn_of _ (by decide +kernel)) ggX4_rewriteRow_X4_keepTrue
set_option maxRecDepth 20000 in
theorem ggX4_rewriteRow_X2_size : GoodIn wsX4_rewriteRow wsX2_size := goodIn_r _ [70, 66, 98, 99, 100, 101] (by decide +kernel) (by decide +kernel)
set_option maxRecDepth 20000 in
theorem gX4_rewriteRow_X2_size : GoodIn wsX4_rewriteRow (wsV RX4 118 RX2 yX2_size wsX2_size) := goodIn_app (goodIn_of _ (by decide +kernel)) ggX4_rewriteRow_X2_size
theorem dX4_rewriteRow_0 : decode cX4_rewriteRow 0 = .ok (.aload_n 0, 1) := by decide +kernel
theorem dX4_rewriteRow_1 : decode cX4_rewriteRow 1 = .ok (.getfield 18, 3) := by decide +kernel
theorem dX4_rewriteRow_4 : decode cX4_rewriteRow 4 = .ok (.iload_n 1, 1) := by decide +kernel
theorem dX4_rewriteRow_5 : decode cX4_rewriteRow 5 = .ok (.invokevirtual 104, 3) := by decide +kernel
theorem dX4_rewriteRow_8 : decode cX4_rewriteRow 8 = .ok (.ifCond .eq 11, 3) := by decide +kernel
theorem dX4_rewriteRow_11 : decode cX4_rewriteRow 11 = .ok (.iload_n 2, 1) := by decide +kernel
theorem dX4_rewriteRow_12 : decode cX4_rewriteRow 12 = .ok (.iload_n 3, 1) := by decide +kernel
theorem dX4_rewriteRow_13 : decode cX4_rewriteRow 13 = .ok (.invokestatic 85, 3) := by decide +kernel
theorem dX4_rewriteRow_16 : decode cX4_rewriteRow 16 = .ok (.ifCond .ne 5, 3) := by decide +kernel
theorem dX4_rewriteRow_19 : decode cX4_rewriteRow 19 = .ok (.iconst (-1), 1) := by decide +kernel
theorem dX4_rewriteRow_20 : decode cX4_rewriteRow 20 = .ok (.ireturn, 1) := by decide +kernel
theorem dX4_rewriteRow_21 : decode cX4_rewriteRow 21 = .ok (.aload_n 0, 1) := by decide +kernel
theorem dX4_rewriteRow_22 : decode cX4_rewriteRow 22 = .ok (.getfield 18, 3) := by decide +kernel
theorem dX4_rewriteRow_25 : decode cX4_rewriteRow 25 = .ok (.iload_n 1, 1) := by decide +kernel
theorem dX4_rewriteRow_26 : decode cX4_rewriteRow 26 = .ok (.invokevirtual 71, 3) := by decide +kernel
theorem dX4_rewriteRow_29 : decode cX4_rewriteRow 29 = .ok (.istore 4, 2) := by decide +kernel
theorem dX4_rewriteRow_31 : decode cX4_rewriteRow 31 = .ok (.aload_n 0, 1) := by decide +kernel
theorem dX4_rewriteRow_32 : decode cX4_rewriteRow 32 = .ok (.getfield 18, 3) := by decide +kernel
theorem dX4_rewriteRow_35 : decode cX4_rewriteRow 35 = .ok (.iload_n 1, 1) := by decide +kernel
theorem dX4_rewriteRow_36 : decode cX4_rewriteRow 36 = .ok (.iload_n 2, 1) := by decide +kernel
theorem dX4_rewriteRow_37 : decode cX4_rewriteRow 37 = .ok (.iload_n 3, 1) := by decide +kernel
theorem dX4_rewriteRow_38 : decode cX4_rewriteRow 38 = .ok (.invokevirtual 114, 3) := by decide +kernel
theorem dX4_rewriteRow_41 : decode cX4_rewriteRow 41 = .ok (.aload_n 0, 1) := by decide +kernel
theorem dX4_rewriteRow_42 : decode cX4_rewriteRow 42 = .ok (.iload 4, 2) := by decide +kernel
theorem dX4_rewriteRow_44 : decode cX4_rewriteRow 44 = .ok (.iload_n 2, 1) := by decide +kernel
theorem dX4_rewriteRow_45 : decode cX4_rewriteRow 45 = .ok (.invokevirtual 101, 3) := by decide +kernel
theorem dX4_rewriteRow_48 : decode cX4_rewriteRow 48 = .ok (.aload_n 0, 1) := by decide +kernel
theorem dX4_rewriteRow_49 : decode cX4_rewriteRow 49 = .ok (.getfield 31, 3) := by decide +kernel
theorem dX4_rewriteRow_52 : decode cX4_rewriteRow 52 = .ok (.invokevirtual 118, 3) := by decide +kernel
theorem dX4_rewriteRow_55 : decode cX4_rewriteRow 55 = .ok (.ireturn, 1) := by decide +kernel
set_option maxRecDepth 20000 in
theorem ggX4_walk_X5_size : GoodIn wsX4_walk wsX5_size := goodIn_r _ [10, 11, 86, 87, 88] (by decide +kernel) (by decide +kernel)
set_option maxRecDepth 20000 in
theorem gX4_walk_X5_size : GoodIn wsX4_walk (wsV RX4 93 RX5 yX5_size wsX5_size) := goodIn_app (goodIn_of _ (by decide +kernel)) ggX4_walk_X5_size
set_option maxRecDepth 20000 in
theorem ggX4_walk_X5_key : GoodIn wsX4_walk wsX5_key := goodIn_r _ [15, 16, 86, 87, 88] (by decide +kernel) (by decide +kernel)
set_option maxRecDepth 20000 in
theorem gX4_walk_X5_key : GoodIn wsX4_walk (wsV RX4 71 RX5 yX5_key wsX5_key) := goodIn_app (goodIn_of _ (by decide +kernel)) ggX4_walk_X5_key
set_option maxRecDepth 20000 in
theorem ggX4_walk_X4_lookUp : GoodIn wsX4_walk wsX4_lookUp := goodIn_r _ [21, 22, 3, 23, 5, 24, 25, 26, 27, 28, 29, 30, 31, 32, 33, 34, 35, 36, 6, 7, 8, 9, 10, 11, 37, 38, 39, 40, 41, 42, 43, 44, 45, 46, 47, 48, 49, 50, 20, 51, 52, 53, 54, 55, 56, 57, 58, 59, 60, 61, 62, 63, 64, 65, 66, 67, 78, 79, 80, 81, 82, 83, 84, 85, 89, 90, 91, 92, 86, 87, 88, 93, 94, 95] (by decide +kernel) (by decide +kernel)
set_option maxRecDepth 20000 in
theorem gX4_walk_X4_lookUp : GoodIn wsX4_walk (wsV RX4 119 RX4 yX4_lookUp wsX4_lookUp) := goodIn_app (goodIn_of _ (by decide +kernel)) ggX4_walk_X4_lookUp
set_option maxRecDepth 20000 in
theorem ggX4_walk_X5_value : GoodIn wsX4_walk wsX5_value := goodIn_r _ [71, 72, 86, 87, 88] (by decide +kernel) (by decide +kernel)
set_option maxRecDepth 20000 in
theorem gX4_walk_X5_value : GoodIn wsX4_walk (wsV RX4 79 RX5 yX5_value wsX5_value) := goodIn_app (goodIn_of _ (by decide +kernel)) ggX4_walk_X5_value
set_option maxRecDepth 20000 in
theorem ggX4_walk_X0_sum : GoodIn wsX4_walk wsX0_sum := goodIn_r _ [76, 77, 93, 94, 95] (by decide +kernel) (by decide +kernel)
set_option maxRecDepth 20000 in
theorem gX4_walk_X0_sum : GoodIn wsX4_walk (wsV RX4 122 RX0 yX0_sum wsX0_sum) := goodIn_app (goodIn_of _ (by decide +kernel)) ggX4_walk_X0_sum
theorem dX4_walk_0 : decode cX4_walk 0 = .ok (.iload_n 1, 1) := by decide +kernel
theorem dX4_walk_1 : decode cX4_walk 1 = .ok (.iconst 1, 1) := by decide +kernel
theorem dX4_walk_2 : decode cX4_walk 2 = .ok (.if_icmp .lt 9, 3) := by decide +kernel
theorem dX4_walk_5 : decode cX4_walk 5 = .ok (.iload_n 1, 1) := by decide +kernel
theorem dX4_walk_6 : decode cX4_walk 6 = .ok (.bipush 20, 2) := by decide +kernel
end
section
theorem dX4_walk_8 : decode cX4_walk 8 = .ok (.if_icmp .le 5, 3) := by decide +kernel
theorem dX4_walk_11 : decode cX4_walk 11 = .ok (.iconst (-1), 1) := by decide +kernel
theorem dX4_walk_12 : decode cX4_walk 12 = .ok (.ireturn, 1) := by decide +kernel
theorem dX4_walk_13 : decode cX4_walk 13 = .ok (.aload_n 0, 1) := by decide +kernel
theorem dX4_walk_14 : decode cX4_walk 14 = .ok (.getfield 64, 3) := by decide +kernel
theorem dX4_walk_17 : decode cX4_walk 17 = .ok (.aload_n 0, 1) := by decide +kernel
theorem dX4_walk_18 : decode cX4_walk 18 = .ok (.getfield 12, 3) := by decide +kernel
theorem dX4_walk_21 : decode cX4_walk 21 = .ok (.invokevirtual 93, 3) := by decide +kernel
theorem dX4_walk_24 : decode cX4_walk 24 = .ok (.if_icmp .lt 6, 3) := by decide +kernel
theorem dX4_walk_27 : decode cX4_walk 27 = .ok (.bipush (-2), 2) := by decide +kernel
theorem dX4_walk_29 : decode cX4_walk 29 = .ok (.ireturn, 1) := by decide +kernel
theorem dX4_walk_30 : decode cX4_walk 30 = .ok (.aload_n 0, 1) := by decide +kernel
theorem dX4_walk_31 : decode cX4_walk 31 = .ok (.getfield 47, 3) := by decide +kernel
theorem dX4_walk_34 : decode cX4_walk 34 = .ok (.iconst 2, 1) := by decide +kernel
theorem dX4_walk_35 : decode cX4_walk 35 = .ok (.iaload, 1) := by decide +kernel
theorem dX4_walk_36 : decode cX4_walk 36 = .ok (.istore_n 2, 1) := by decide +kernel
theorem dX4_walk_37 : decode cX4_walk 37 = .ok (.iconst 0, 1) := by decide +kernel
theorem dX4_walk_38 : decode cX4_walk 38 = .ok (.istore_n 3, 1) := by decide +kernel
theorem dX4_walk_39 : decode cX4_walk 39 = .ok (.iload_n 3, 1) := by decide +kernel
theorem dX4_walk_40 : decode cX4_walk 40 = .ok (.iload_n 1, 1) := by decide +kernel
theorem dX4_walk_41 : decode cX4_walk 41 = .ok (.if_icmp .ge 82, 3) := by decide +kernel
theorem dX4_walk_44 : decode cX4_walk 44 = .ok (.aload_n 0, 1) := by decide +kernel
theorem dX4_walk_45 : decode cX4_walk 45 = .ok (.getfield 64, 3) := by decide +kernel
theorem dX4_walk_48 : decode cX4_walk 48 = .ok (.aload_n 0, 1) := by decide +kernel
theorem dX4_walk_49 : decode cX4_walk 49 = .ok (.getfield 12, 3) := by decide +kernel
theorem dX4_walk_52 : decode cX4_walk 52 = .ok (.invokevirtual 93, 3) := by decide +kernel
theorem dX4_walk_55 : decode cX4_walk 55 = .ok (.if_icmp .ge 68, 3) := by decide +kernel
theorem dX4_walk_58 : decode cX4_walk 58 = .ok (.aload_n 0, 1) := by decide +kernel
theorem dX4_walk_59 : decode cX4_walk 59 = .ok (.getfield 12, 3) := by decide +kernel
theorem dX4_walk_62 : decode cX4_walk 62 = .ok (.aload_n 0, 1) := by decide +kernel
theorem dX4_walk_63 : decode cX4_walk 63 = .ok (.getfield 64, 3) := by decide +kernel
theorem dX4_walk_66 : decode cX4_walk 66 = .ok (.invokevirtual 71, 3) := by decide +kernel
theorem dX4_walk_69 : decode cX4_walk 69 = .ok (.istore 4, 2) := by decide +kernel
theorem dX4_walk_71 : decode cX4_walk 71 = .ok (.aload_n 0, 1) := by decide +kernel
theorem dX4_walk_72 : decode cX4_walk 72 = .ok (.iload 4, 2) := by decide +kernel
theorem dX4_walk_74 : decode cX4_walk 74 = .ok (.invokevirtual 119, 3) := by decide +kernel
theorem dX4_walk_77 : decode cX4_walk 77 = .ok (.aload_n 0, 1) := by decide +kernel
theorem dX4_walk_78 : decode cX4_walk 78 = .ok (.dup, 1) := by decide +kernel
theorem dX4_walk_79 : decode cX4_walk 79 = .ok (.getfield 68, 3) := by decide +kernel
theorem dX4_walk_82 : decode cX4_walk 82 = .ok (.aload_n 0, 1) := by decide +kernel
theorem dX4_walk_83 : decode cX4_walk 83 = .ok (.getfield 12, 3) := by decide +kernel
theorem dX4_walk_86 : decode cX4_walk 86 = .ok (.aload_n 0, 1) := by decide +kernel
theorem dX4_walk_87 : decode cX4_walk 87 = .ok (.getfield 64, 3) := by decide +kernel
theorem dX4_walk_90 : decode cX4_walk 90 = .ok (.invokevirtual 79, 3) := by decide +kernel
theorem dX4_walk_93 : decode cX4_walk 93 = .ok (.aload_n 0, 1) := by decide +kernel
theorem dX4_walk_94 : decode cX4_walk 94 = .ok (.getfield 24, 3) := by decide +kernel
theorem dX4_walk_97 : decode cX4_walk 97 = .ok (.iload 4, 2) := by decide +kernel
theorem dX4_walk_99 : decode cX4_walk 99 = .ok (.invokevirtual 122, 3) := by decide +kernel
theorem dX4_walk_102 : decode cX4_walk 102 = .ok (.imul, 1) := by decide +kernel
theorem dX4_walk_103 : decode cX4_walk 103 = .ok (.iadd, 1) := by decide +kernel
theorem dX4_walk_104 : decode cX4_walk 104 = .ok (.putfield 68, 3) := by decide +kernel
theorem dX4_walk_107 : decode cX4_walk 107 = .ok (.aload_n 0, 1) := by decide +kernel
theorem dX4_walk_108 : decode cX4_walk 108 = .ok (.dup, 1) := by decide +kernel
theorem dX4_walk_109 : decode cX4_walk 109 = .ok (.getfield 64, 3) := by decide +kernel
theorem dX4_walk_112 : decode cX4_walk 112 = .ok (.iconst 1, 1) := by decide +kernel
theorem dX4_walk_113 : decode cX4_walk 113 = .ok (.iadd, 1) := by decide +kernel
theorem dX4_walk_114 : decode cX4_walk 114 = .ok (.putfield 64, 3) := by decide +kernel
theorem dX4_walk_117 : decode cX4_walk 117 = .ok (.iinc 3 1, 3) := by decide +kernel
theorem dX4_walk_120 : decode cX4_walk 120 = .ok (.goto (-81), 3) := by decide +kernel
theorem dX4_walk_123 : decode cX4_walk 123 = .ok (.aload_n 0, 1) := by decide +kernel
theorem dX4_walk_124 : decode cX4_walk 124 = .ok (.getfield 47, 3) := by decide +kernel
theorem dX4_walk_127 : decode cX4_walk 127 = .ok (.iconst 2, 1) := by decide +kernel
theorem dX4_walk_128 : decode cX4_walk 128 = .ok (.iaload, 1) := by decide +kernel
theorem dX4_walk_129 : decode cX4_walk 129 = .ok (.iload_n 2, 1) := by decide +kernel
theorem dX4_walk_130 : decode cX4_walk 130 = .ok (.isub, 1) := by decide +kernel
theorem dX4_walk_131 : decode cX4_walk 131 = .ok (.ireturn, 1) := by decide +kernel
theorem dX4_beginAgain_0 : decode cX4_beginAgain 0 = .ok (.aload_n 0, 1) := by decide +kernel
theorem dX4_beginAgain_1 : decode cX4_beginAgain 1 = .ok (.getfield 68, 3) := by decide +kernel
theorem dX4_beginAgain_4 : decode cX4_beginAgain 4 = .ok (.istore_n 1, 1) := by decide +kernel
theorem dX4_beginAgain_5 : decode cX4_beginAgain 5 = .ok (.aload_n 0, 1) := by decide +kernel
theorem dX4_beginAgain_6 : decode cX4_beginAgain 6 = .ok (.iconst 0, 1) := by decide +kernel
theorem dX4_beginAgain_7 : decode cX4_beginAgain 7 = .ok (.putfield 64, 3) := by decide +kernel
theorem dX4_beginAgain_10 : decode cX4_beginAgain 10 = .ok (.aload_n 0, 1) := by decide +kernel
theorem dX4_beginAgain_11 : decode cX4_beginAgain 11 = .ok (.iconst 0, 1) := by decide +kernel
theorem dX4_beginAgain_12 : decode cX4_beginAgain 12 = .ok (.putfield 68, 3) := by decide +kernel
theorem dX4_beginAgain_15 : decode cX4_beginAgain 15 = .ok (.iload_n 1, 1) := by decide +kernel
theorem dX4_beginAgain_16 : decode cX4_beginAgain 16 = .ok (.ireturn, 1) := by decide +kernel
set_option maxRecDepth 20000 in
theorem ggX4_throwAllOut_X2_loseAll : GoodIn wsX4_throwAllOut wsX2_loseAll := goodIn_r _ [7, 8, 9, 10, 11, 6, 12, 21, 22, 23, 24] (by decide +kernel) (by decide +kernel)
set_option maxRecDepth 20000 in
theorem gX4_throwAllOut_X2_loseAll : GoodIn wsX4_throwAllOut (wsV RX4 125 RX2 yX2_loseAll wsX2_loseAll) := goodIn_app (goodIn_of _ (by decide +kernel)) ggX4_throwAllOut_X2_loseAll
theorem dX4_throwAllOut_0 : decode cX4_throwAllOut 0 = .ok (.aload_n 0, 1) := by decide +kernel
theorem dX4_throwAllOut_1 : decode cX4_throwAllOut 1 = .ok (.getfield 31, 3) := by decide +kernel
theorem dX4_throwAllOut_4 : decode cX4_throwAllOut 4 = .ok (.invokevirtual 125, 3) := by decide +kernel
theorem dX4_throwAllOut_7 : decode cX4_throwAllOut 7 = .ok (.istore_n 1, 1) := by decide +kernel
theorem dX4_throwAllOut_8 : decode cX4_throwAllOut 8 = .ok (.aload_n 0, 1) := by decide +kernel
theorem dX4_throwAllOut_9 : decode cX4_throwAllOut 9 = .ok (.getfield 47, 3) := by decide +kernel
theorem dX4_throwAllOut_12 : decode cX4_throwAllOut 12 = .ok (.iconst 4, 1) := by decide +kernel
theorem dX4_throwAllOut_13 : decode cX4_throwAllOut 13 = .ok (.dup2, 1) := by decide +kernel
theorem dX4_throwAllOut_14 : decode cX4_throwAllOut 14 = .ok (.iaload, 1) := by decide +kernel
theorem dX4_throwAllOut_15 : decode cX4_throwAllOut 15 = .ok (.iload_n 1, 1) := by decide +kernel
theorem dX4_throwAllOut_16 : decode cX4_throwAllOut 16 = .ok (.iadd, 1) := by decide +kernel
theorem dX4_throwAllOut_17 : decode cX4_throwAllOut 17 = .ok (.iastore, 1) := by decide +kernel
theorem dX4_throwAllOut_18 : decode cX4_throwAllOut 18 = .ok (.iload_n 1, 1) := by decide +kernel
theorem dX4_throwAllOut_19 : decode cX4_throwAllOut 19 = .ok (.ireturn, 1) := by decide +kernel
set_option maxRecDepth 20000 in
theorem ggX4_adjust_X4_makeRoom : GoodIn wsX4_adjust wsX4_makeRoom := goodIn_r _ [7, 2, 8, 9, 10, 11, 12, 13, 6, 14, 15, 16, 17, 18, 19, 20, 21, 22, 23, 24, 25, 26, 27, 28, 29, 30, 31, 32, 33, 34, 35, 36, 37, 38, 39, 40, 80, 81, 82, 83, 84, 85, 86, 87, 88, 89, 90, 91, 92, 93, 94] (by decide +kernel) (by decide +kernel)
set_option maxRecDepth 20000 in
theorem gX4_adjust_X4_makeRoom : GoodIn wsX4_adjust (wsV RX4 131 RX4 yX4_makeRoom wsX4_makeRoom) := goodIn_app (goodIn_of _ (by decide +kernel)) ggX4_adjust_X4_makeRoom
set_option maxRecDepth 20000 in
theorem ggX4_adjust_X4_findAnswers : GoodIn wsX4_adjust wsX4_findAnswers := goodIn_r _ [44, 9, 45, 2, 46, 47, 48, 24, 49, 26, 50, 51, 52, 53, 54, 55, 56, 57, 58, 59, 60, 61, 62, 63, 64, 65, 66, 67, 80, 81, 82, 83, 84, 85, 86, 87, 92, 93, 94, 95, 96, 97] (by decide +kernel) (by decide +kernel)
set_option maxRecDepth 20000 in
theorem gX4_adjust_X4_findAnswers : GoodIn wsX4_adjust (wsV RX4 134 RX4 yX4_findAnswers wsX4_findAnswers) := goodIn_app (goodIn_of _ (by decide +kernel)) ggX4_adjust_X4_findAnswers
set_option maxRecDepth 20000 in
theorem ggX4_adjust_X4_throwAllOut : GoodIn wsX4_adjust wsX4_throwAllOut := goodIn_r _ [71, 8, 10, 72, 73, 74, 18, 75, 20, 76, 77, 78, 79, 80, 81, 82, 83, 84, 85, 86, 87, 88, 89, 90, 91] (by decide +kernel) (by decide +kernel)
set_option maxRecDepth 20000 in
theorem gX4_adjust_X4_throwAllOut : GoodIn wsX4_adjust (wsV RX4 137 RX4 yX4_throwAllOut wsX4_throwAllOut) := goodIn_app (goodIn_of _ (by decide +kernel)) ggX4_adjust_X4_throwAllOut
theorem dX4_adjust_0 : decode cX4_adjust 0 = .ok (.iload_n 1, 1) := by decide +kernel
theorem dX4_adjust_1 : decode cX4_adjust 1 = .ok (.ifCond .lt 21, 3) := by decide +kernel
theorem dX4_adjust_4 : decode cX4_adjust 4 = .ok (.iload_n 1, 1) := by decide +kernel
theorem dX4_adjust_5 : decode cX4_adjust 5 = .ok (.iconst 4, 1) := by decide +kernel
theorem dX4_adjust_6 : decode cX4_adjust 6 = .ok (.if_icmp .gt 16, 3) := by decide +kernel
theorem dX4_adjust_9 : decode cX4_adjust 9 = .ok (.iload_n 2, 1) := by decide +kernel
theorem dX4_adjust_10 : decode cX4_adjust 10 = .ok (.ifCond .lt 12, 3) := by decide +kernel
theorem dX4_adjust_13 : decode cX4_adjust 13 = .ok (.iload_n 2, 1) := by decide +kernel
theorem dX4_adjust_14 : decode cX4_adjust 14 = .ok (.getstatic 128, 3) := by decide +kernel
theorem dX4_adjust_17 : decode cX4_adjust 17 = .ok (.iload_n 1, 1) := by decide +kernel
theorem dX4_adjust_18 : decode cX4_adjust 18 = .ok (.iaload, 1) := by decide +kernel
theorem dX4_adjust_19 : decode cX4_adjust 19 = .ok (.if_icmp .le 5, 3) := by decide +kernel
theorem dX4_adjust_22 : decode cX4_adjust 22 = .ok (.iconst (-1), 1) := by decide +kernel
theorem dX4_adjust_23 : decode cX4_adjust 23 = .ok (.ireturn, 1) := by decide +kernel
theorem dX4_adjust_24 : decode cX4_adjust 24 = .ok (.aload_n 0, 1) := by decide +kernel
theorem dX4_adjust_25 : decode cX4_adjust 25 = .ok (.getfield 44, 3) := by decide +kernel
theorem dX4_adjust_28 : decode cX4_adjust 28 = .ok (.iload_n 1, 1) := by decide +kernel
theorem dX4_adjust_29 : decode cX4_adjust 29 = .ok (.iload_n 2, 1) := by decide +kernel
theorem dX4_adjust_30 : decode cX4_adjust 30 = .ok (.iastore, 1) := by decide +kernel
theorem dX4_adjust_31 : decode cX4_adjust 31 = .ok (.iload_n 1, 1) := by decide +kernel
theorem dX4_adjust_32 : decode cX4_adjust 32 = .ok (.ifCond .ne 9, 3) := by decide +kernel
theorem dX4_adjust_35 : decode cX4_adjust 35 = .ok (.aload_n 0, 1) := by decide +kernel
theorem dX4_adjust_36 : decode cX4_adjust 36 = .ok (.iconst (-1), 1) := by decide +kernel
theorem dX4_adjust_37 : decode cX4_adjust 37 = .ok (.invokevirtual 131, 3) := by decide +kernel
theorem dX4_adjust_40 : decode cX4_adjust 40 = .ok (.ireturn, 1) := by decide +kernel
theorem dX4_adjust_41 : decode cX4_adjust 41 = .ok (.aload_n 0, 1) := by decide +kernel
theorem dX4_adjust_42 : decode cX4_adjust 42 = .ok (.invokevirtual 134, 3) := by decide +kernel
theorem dX4_adjust_45 : decode cX4_adjust 45 = .ok (.aload_n 0, 1) := by decide +kernel
theorem dX4_adjust_46 : decode cX4_adjust 46 = .ok (.invokevirtual 137, 3) := by decide +kernel
theorem dX4_adjust_49 : decode cX4_adjust 49 = .ok (.ireturn, 1) := by decide +kernel
set_option maxRecDepth 20000 in
theorem ggX4_weightTogether_X2_holds : GoodIn wsX4_weightTogether wsX2_holds := goodIn_r _ [7, 8, 23, 24, 25, 26] (by decide +kernel) (by decide +kernel)
set_option maxRecDepth 20000 in
theorem gX4_weightTogether_X2_holds : GoodIn wsX4_weightTogether (wsV RX4 75 RX2 yX2_holds wsX2_holds) := goodIn_app (goodIn_of _ (by decide +kernel)) ggX4_weightTogether_X2_holds
set_option maxRecDepth 20000 in
theorem ggX4_weightTogether_X0_weight : GoodIn wsX4_weightTogether wsX0_weight := goodIn_r _ [13, 14, 27, 28, 29] (by decide +kernel) (by decide +kernel)
set_option maxRecDepth 20000 in
theorem gX4_weightTogether_X0_weight : GoodIn wsX4_weightTogether (wsV RX4 140 RX0 yX0_weight wsX0_weight) := goodIn_app (goodIn_of _ (by decide +kernel)) ggX4_weightTogether_X0_weight
theorem dX4_weightTogether_0 : decode cX4_weightTogether 0 = .ok (.iconst 0, 1) := by decide +kernel
theorem dX4_weightTogether_1 : decode cX4_weightTogether 1 = .ok (.istore_n 1, 1) := by decide +kernel
theorem dX4_weightTogether_2 : decode cX4_weightTogether 2 = .ok (.iconst 0, 1) := by decide +kernel
theorem dX4_weightTogether_3 : decode cX4_weightTogether 3 = .ok (.istore_n 2, 1) := by decide +kernel
theorem dX4_weightTogether_4 : decode cX4_weightTogether 4 = .ok (.iload_n 2, 1) := by decide +kernel
theorem dX4_weightTogether_5 : decode cX4_weightTogether 5 = .ok (.bipush 10, 2) := by decide +kernel
theorem dX4_weightTogether_7 : decode cX4_weightTogether 7 = .ok (.if_icmp .ge 31, 3) := by decide +kernel
theorem dX4_weightTogether_10 : decode cX4_weightTogether 10 = .ok (.aload_n 0, 1) := by decide +kernel
theorem dX4_weightTogether_11 : decode cX4_weightTogether 11 = .ok (.getfield 31, 3) := by decide +kernel
theorem dX4_weightTogether_14 : decode cX4_weightTogether 14 = .ok (.iload_n 2, 1) := by decide +kernel
theorem dX4_weightTogether_15 : decode cX4_weightTogether 15 = .ok (.invokevirtual 75, 3) := by decide +kernel
theorem dX4_weightTogether_18 : decode cX4_weightTogether 18 = .ok (.ifCond .eq 14, 3) := by decide +kernel
theorem dX4_weightTogether_21 : decode cX4_weightTogether 21 = .ok (.iload_n 1, 1) := by decide +kernel
theorem dX4_weightTogether_22 : decode cX4_weightTogether 22 = .ok (.aload_n 0, 1) := by decide +kernel
theorem dX4_weightTogether_23 : decode cX4_weightTogether 23 = .ok (.getfield 24, 3) := by decide +kernel
theorem dX4_weightTogether_26 : decode cX4_weightTogether 26 = .ok (.iload_n 2, 1) := by decide +kernel
theorem dX4_weightTogether_27 : decode cX4_weightTogether 27 = .ok (.invokevirtual 140, 3) := by decide +kernel
theorem dX4_weightTogether_30 : decode cX4_weightTogether 30 = .ok (.iadd, 1) := by decide +kernel
theorem dX4_weightTogether_31 : decode cX4_weightTogether 31 = .ok (.istore_n 1, 1) := by decide +kernel
theorem dX4_weightTogether_32 : decode cX4_weightTogether 32 = .ok (.iinc 2 1, 3) := by decide +kernel
theorem dX4_weightTogether_35 : decode cX4_weightTogether 35 = .ok (.goto (-31), 3) := by decide +kernel
theorem dX4_weightTogether_38 : decode cX4_weightTogether 38 = .ok (.iload_n 1, 1) := by decide +kernel
theorem dX4_weightTogether_39 : decode cX4_weightTogether 39 = .ok (.ireturn, 1) := by decide +kernel
set_option maxRecDepth 20000 in
theorem ggX4_totalByAnswers_X5_size : GoodIn wsX4_totalByAnswers wsX5_size := goodIn_r _ [7, 8, 33, 34, 35] (by decide +kernel) (by decide +kernel)
set_option maxRecDepth 20000 in
theorem gX4_totalByAnswers_X5_size : GoodIn wsX4_totalByAnswers (wsV RX4 93 RX5 yX5_size wsX5_size) := goodIn_app (goodIn_of _ (by decide +kernel)) ggX4_totalByAnswers_X5_size
set_option maxRecDepth 20000 in
theorem ggX4_totalByAnswers_X5_value : GoodIn wsX4_totalByAnswers wsX5_value := goodIn_r _ [12, 13, 33, 34, 35] (by decide +kernel) (by decide +kernel)
set_option maxRecDepth 20000 in
theorem gX4_totalByAnswers_X5_value : GoodIn wsX4_totalByAnswers (wsV RX4 79 RX5 yX5_value wsX5_value) := goodIn_app (goodIn_of _ (by decide +kernel)) ggX4_totalByAnswers_X5_value
set_option maxRecDepth 20000 in
theorem ggX4_totalByAnswers_X5_key : GoodIn wsX4_totalByAnswers wsX5_key := goodIn_r _ [17, 18, 33, 34, 35] (by decide +kernel) (by decide +kernel)
set_option maxRecDepth 20000 in
theorem gX4_totalByAnswers_X5_key : GoodIn wsX4_totalByAnswers (wsV RX4 71 RX5 yX5_key wsX5_key) := goodIn_app (goodIn_of _ (by decide +kernel)) ggX4_totalByAnswers_X5_key
set_option maxRecDepth 20000 in
theorem ggX4_totalByAnswers_X0_sum : GoodIn wsX4_totalByAnswers wsX0_sum := goodIn_r _ [23, 24, 36, 37, 38] (by decide +kernel) (by decide +kernel)
set_option maxRecDepth 20000 in
theorem gX4_totalByAnswers_X0_sum : GoodIn wsX4_totalByAnswers (wsV RX4 122 RX0 yX0_sum wsX0_sum) := goodIn_app (goodIn_of _ (by decide +kernel)) ggX4_totalByAnswers_X0_sum
theorem dX4_totalByAnswers_0 : decode cX4_totalByAnswers 0 = .ok (.iconst 0, 1) := by decide +kernel
theorem dX4_totalByAnswers_1 : decode cX4_totalByAnswers 1 = .ok (.istore_n 1, 1) := by decide +kernel
theorem dX4_totalByAnswers_2 : decode cX4_totalByAnswers 2 = .ok (.iconst 0, 1) := by decide +kernel
theorem dX4_totalByAnswers_3 : decode cX4_totalByAnswers 3 = .ok (.istore_n 2, 1) := by decide +kernel
theorem dX4_totalByAnswers_4 : decode cX4_totalByAnswers 4 = .ok (.iload_n 2, 1) := by decide +kernel
theorem dX4_totalByAnswers_5 : decode cX4_totalByAnswers 5 = .ok (.aload_n 0, 1) := by decide +kernel
theorem dX4_totalByAnswers_6 : decode cX4_totalByAnswers 6 = .ok (.getfield 12, 3) := by decide +kernel
theorem dX4_totalByAnswers_9 : decode cX4_totalByAnswers 9 = .ok (.invokevirtual 93, 3) := by decide +kernel
theorem dX4_totalByAnswers_12 : decode cX4_totalByAnswers 12 = .ok (.if_icmp .ge 36, 3) := by decide +kernel
theorem dX4_totalByAnswers_15 : decode cX4_totalByAnswers 15 = .ok (.iload_n 1, 1) := by decide +kernel
theorem dX4_totalByAnswers_16 : decode cX4_totalByAnswers 16 = .ok (.aload_n 0, 1) := by decide +kernel
theorem dX4_totalByAnswers_17 : decode cX4_totalByAnswers 17 = .ok (.getfield 12, 3) := by decide +kernel
theorem dX4_totalByAnswers_20 : decode cX4_totalByAnswers 20 = .ok (.iload_n 2, 1) := by decide +kernel
theorem dX4_totalByAnswers_21 : decode cX4_totalByAnswers 21 = .ok (.invokevirtual 79, 3) := by decide +kernel
theorem dX4_totalByAnswers_24 : decode cX4_totalByAnswers 24 = .ok (.aload_n 0, 1) := by decide +kernel
theorem dX4_totalByAnswers_25 : decode cX4_totalByAnswers 25 = .ok (.getfield 24, 3) := by decide +kernel
theorem dX4_totalByAnswers_28 : decode cX4_totalByAnswers 28 = .ok (.aload_n 0, 1) := by decide +kernel
theorem dX4_totalByAnswers_29 : decode cX4_totalByAnswers 29 = .ok (.getfield 12, 3) := by decide +kernel
theorem dX4_totalByAnswers_32 : decode cX4_totalByAnswers 32 = .ok (.iload_n 2, 1) := by decide +kernel
theorem dX4_totalByAnswers_33 : decode cX4_totalByAnswers 33 = .ok (.invokevirtual 71, 3) := by decide +kernel
theorem dX4_totalByAnswers_36 : decode cX4_totalByAnswers 36 = .ok (.invokevirtual 122, 3) := by decide +kernel
theorem dX4_totalByAnswers_39 : decode cX4_totalByAnswers 39 = .ok (.imul, 1) := by decide +kernel
theorem dX4_totalByAnswers_40 : decode cX4_totalByAnswers 40 = .ok (.iadd, 1) := by decide +kernel
theorem dX4_totalByAnswers_41 : decode cX4_totalByAnswers 41 = .ok (.istore_n 1, 1) := by decide +kernel
theorem dX4_totalByAnswers_42 : decode cX4_totalByAnswers 42 = .ok (.iinc 2 1, 3) := by decide +kernel
theorem dX4_totalByAnswers_45 : decode cX4_totalByAnswers 45 = .ok (.goto (-41), 3) := by decide +kernel
theorem dX4_totalByAnswers_48 : decode cX4_totalByAnswers 48 = .ok (.iload_n 1, 1) := by decide +kernel
theorem dX4_totalByAnswers_49 : decode cX4_totalByAnswers 49 = .ok (.ireturn, 1) := by decide +kernel
set_option maxRecDepth 20000 in
theorem ggX4_totalByRows_X5_size : GoodIn wsX4_totalByRows wsX5_size := goodIn_r _ [7, 8, 33, 34, 35] (by decide +kernel) (by decide +kernel)
set_option maxRecDepth 20000 in
theorem gX4_totalByRows_X5_size : GoodIn wsX4_totalByRows (wsV RX4 93 RX5 yX5_size wsX5_size) := goodIn_app (goodIn_of _ (by decide +kernel)) ggX4_totalByRows_X5_size
set_option maxRecDepth 20000 in
theorem ggX4_totalByRows_X5_key : GoodIn wsX4_totalByRows wsX5_key := goodIn_r _ [12, 13, 33, 34, 35] (by decide +kernel) (by decide +kernel)
set_option maxRecDepth 20000 in
theorem gX4_totalByRows_X5_key : GoodIn wsX4_totalByRows (wsV RX4 71 RX5 yX5_key wsX5_key) := goodIn_app (goodIn_of _ (by decide +kernel)) ggX4_totalByRows_X5_key
set_option maxRecDepth 20000 in
theorem ggX4_totalByRows_X5_value : GoodIn wsX4_totalByRows wsX5_value := goodIn_r _ [17, 18, 33, 34, 35] (by decide +kernel) (by decide +kernel)
set_option maxRecDepth 20000 in
theorem gX4_totalByRows_X5_value : GoodIn wsX4_totalByRows (wsV RX4 79 RX5 yX5_value wsX5_value) := goodIn_app (goodIn_of _ (by decide +kernel)) ggX4_totalByRows_X5_value
set_option maxRecDepth 20000 in
theorem ggX4_totalByRows_X4_isInBand : GoodIn wsX4_totalByRows wsX4_isInBand := goodIn_r _ [23, 24, 25, 26, 27, 28, 29, 30, 31, 32] (by decide +kernel) (by decide +kernel)
set_option maxRecDepth 20000 in
theorem gX4_totalByRows_X4_isInBand : GoodIn wsX4_totalByRows (wsV RX4 82 RX4 yX4_isInBand wsX4_isInBand) := goodIn_app (goodIn_of _ (by decide +kernel)) ggX4_totalByRows_X4_isInBand
theorem dX4_totalByRows_0 : decode cX4_totalByRows 0 = .ok (.iconst 0, 1) := by decide +kernel
theorem dX4_totalByRows_1 : decode cX4_totalByRows 1 = .ok (.istore_n 1, 1) := by decide +kernel
theorem dX4_totalByRows_2 : decode cX4_totalByRows 2 = .ok (.iconst 0, 1) := by decide +kernel
theorem dX4_totalByRows_3 : decode cX4_totalByRows 3 = .ok (.istore_n 2, 1) := by decide +kernel
theorem dX4_totalByRows_4 : decode cX4_totalByRows 4 = .ok (.iload_n 2, 1) := by decide +kernel
theorem dX4_totalByRows_5 : decode cX4_totalByRows 5 = .ok (.aload_n 0, 1) := by decide +kernel
theorem dX4_totalByRows_6 : decode cX4_totalByRows 6 = .ok (.getfield 12, 3) := by decide +kernel
theorem dX4_totalByRows_9 : decode cX4_totalByRows 9 = .ok (.invokevirtual 93, 3) := by decide +kernel
theorem dX4_totalByRows_12 : decode cX4_totalByRows 12 = .ok (.if_icmp .ge 82, 3) := by decide +kernel
theorem dX4_totalByRows_15 : decode cX4_totalByRows 15 = .ok (.iconst 0, 1) := by decide +kernel
theorem dX4_totalByRows_16 : decode cX4_totalByRows 16 = .ok (.istore_n 3, 1) := by decide +kernel
theorem dX4_totalByRows_17 : decode cX4_totalByRows 17 = .ok (.iload_n 3, 1) := by decide +kernel
theorem dX4_totalByRows_18 : decode cX4_totalByRows 18 = .ok (.aload_n 0, 1) := by decide +kernel
theorem dX4_totalByRows_19 : decode cX4_totalByRows 19 = .ok (.getfield 18, 3) := by decide +kernel
theorem dX4_totalByRows_22 : decode cX4_totalByRows 22 = .ok (.invokevirtual 93, 3) := by decide +kernel
theorem dX4_totalByRows_25 : decode cX4_totalByRows 25 = .ok (.if_icmp .ge 63, 3) := by decide +kernel
theorem dX4_totalByRows_28 : decode cX4_totalByRows 28 = .ok (.aload_n 0, 1) := by decide +kernel
theorem dX4_totalByRows_29 : decode cX4_totalByRows 29 = .ok (.getfield 18, 3) := by decide +kernel
theorem dX4_totalByRows_32 : decode cX4_totalByRows 32 = .ok (.iload_n 3, 1) := by decide +kernel
theorem dX4_totalByRows_33 : decode cX4_totalByRows 33 = .ok (.invokevirtual 71, 3) := by decide +kernel
theorem dX4_totalByRows_36 : decode cX4_totalByRows 36 = .ok (.aload_n 0, 1) := by decide +kernel
theorem dX4_totalByRows_37 : decode cX4_totalByRows 37 = .ok (.getfield 12, 3) := by decide +kernel
theorem dX4_totalByRows_40 : decode cX4_totalByRows 40 = .ok (.iload_n 2, 1) := by decide +kernel
theorem dX4_totalByRows_41 : decode cX4_totalByRows 41 = .ok (.invokevirtual 71, 3) := by decide +kernel
theorem dX4_totalByRows_44 : decode cX4_totalByRows 44 = .ok (.if_icmp .ne 38, 3) := by decide +kernel
theorem dX4_totalByRows_47 : decode cX4_totalByRows 47 = .ok (.aload_n 0, 1) := by decide +kernel
theorem dX4_totalByRows_48 : decode cX4_totalByRows 48 = .ok (.aload_n 0, 1) := by decide +kernel
theorem dX4_totalByRows_49 : decode cX4_totalByRows 49 = .ok (.getfield 18, 3) := by decide +kernel
theorem dX4_totalByRows_52 : decode cX4_totalByRows 52 = .ok (.iload_n 3, 1) := by decide +kernel
theorem dX4_totalByRows_53 : decode cX4_totalByRows 53 = .ok (.invokevirtual 79, 3) := by decide +kernel
theorem dX4_totalByRows_56 : decode cX4_totalByRows 56 = .ok (.invokevirtual 82, 3) := by decide +kernel
theorem dX4_totalByRows_59 : decode cX4_totalByRows 59 = .ok (.ifCond .eq 23, 3) := by decide +kernel
theorem dX4_totalByRows_62 : decode cX4_totalByRows 62 = .ok (.iload_n 1, 1) := by decide +kernel
theorem dX4_totalByRows_63 : decode cX4_totalByRows 63 = .ok (.aload_n 0, 1) := by decide +kernel
theorem dX4_totalByRows_64 : decode cX4_totalByRows 64 = .ok (.getfield 12, 3) := by decide +kernel
theorem dX4_totalByRows_67 : decode cX4_totalByRows 67 = .ok (.iload_n 2, 1) := by decide +kernel
theorem dX4_totalByRows_68 : decode cX4_totalByRows 68 = .ok (.invokevirtual 79, 3) := by decide +kernel
theorem dX4_totalByRows_71 : decode cX4_totalByRows 71 = .ok (.aload_n 0, 1) := by decide +kernel
theorem dX4_totalByRows_72 : decode cX4_totalByRows 72 = .ok (.getfield 18, 3) := by decide +kernel
theorem dX4_totalByRows_75 : decode cX4_totalByRows 75 = .ok (.iload_n 3, 1) := by decide +kernel
theorem dX4_totalByRows_76 : decode cX4_totalByRows 76 = .ok (.invokevirtual 79, 3) := by decide +kernel
theorem dX4_totalByRows_79 : decode cX4_totalByRows 79 = .ok (.imul, 1) := by decide +kernel
theorem dX4_totalByRows_80 : decode cX4_totalByRows 80 = .ok (.iadd, 1) := by decide +kernel
theorem dX4_totalByRows_81 : decode cX4_totalByRows 81 = .ok (.istore_n 1, 1) := by decide +kernel
theorem dX4_totalByRows_82 : decode cX4_totalByRows 82 = .ok (.iinc 3 1, 3) := by decide +kernel
theorem dX4_totalByRows_85 : decode cX4_totalByRows 85 = .ok (.goto (-68), 3) := by decide +kernel
theorem dX4_totalByRows_88 : decode cX4_totalByRows 88 = .ok (.iinc 2 1, 3) := by decide +kernel
theorem dX4_totalByRows_91 : decode cX4_totalByRows 91 = .ok (.goto (-87), 3) := by decide +kernel
theorem dX4_totalByRows_94 : decode cX4_totalByRows 94 = .ok (.iload_n 1, 1) := by decide +kernel
theorem dX4_totalByRows_95 : decode cX4_totalByRows 95 = .ok (.ireturn, 1) := by decide +kernel
set_option maxRecDepth 20000 in
theorem ggX4_lookUp_X2_holds : GoodIn wsX4_lookUp wsX2_holds := goodIn_r _ [10, 11, 64, 65, 66, 67] (by decide +kernel) (by decide +kernel)
set_option maxRecDepth 20000 in
theorem gX4_lookUp_X2_holds : GoodIn wsX4_lookUp (wsV RX4 75 RX2 yX2_holds wsX2_holds) := goodIn_app (goodIn_of _ (by decide +kernel)) ggX4_lookUp_X2_holds
set_option maxRecDepth 20000 in
theorem ggX4_lookUp_X2_touch : GoodIn wsX4_lookUp wsX2_touch := goodIn_r _ [15, 16, 11, 17, 64, 65, 66, 67] (by decide +kernel) (by decide +kernel)
set_option maxRecDepth 20000 in
theorem gX4_lookUp_X2_touch : GoodIn wsX4_lookUp (wsV RX4 143 RX2 yX2_touch wsX2_touch) := goodIn_app (goodIn_of _ (by decide +kernel)) ggX4_lookUp_X2_touch
set_option maxRecDepth 20000 in
theorem ggX4_lookUp_X5_size : GoodIn wsX4_lookUp wsX5_size := goodIn_r _ [22, 23, 68, 69, 70] (by decide +kernel) (by decide +kernel)
set_option maxRecDepth 20000 in
theorem gX4_lookUp_X5_size : GoodIn wsX4_lookUp (wsV RX4 93 RX5 yX5_size wsX5_size) := goodIn_app (goodIn_of _ (by decide +kernel)) ggX4_lookUp_X5_size
set_option maxRecDepth 20000 in
theorem ggX4_lookUp_X0_weight : GoodIn wsX4_lookUp wsX0_weight := goodIn_r _ [28, 29, 71, 72, 73] (by decide +kernel) (by decide +kernel)
set_option maxRecDepth 20000 in
theorem gX4_lookUp_X0_weight : GoodIn wsX4_lookUp (wsV RX4 140 RX0 yX0_weight wsX0_weight) := goodIn_app (goodIn_of _ (by decide +kernel)) ggX4_lookUp_X0_weight
set_option maxRecDepth 20000 in
theorem ggX4_lookUp_X2_take : GoodIn wsX4_lookUp wsX2_take := goodIn_r _ [33, 16, 11, 34, 17, 64, 65, 66, 67] (by decide +kernel) (by decide +kernel)
set_option maxRecDepth 20000 in
theorem gX4_lookUp_X2_take : GoodIn wsX4_lookUp (wsV RX4 146 RX2 yX2_take wsX2_take) := goodIn_app (goodIn_of _ (by decide +kernel)) ggX4_lookUp_X2_take
set_option maxRecDepth 20000 in
theorem ggX4_lookUp_X4_makeRoom : GoodIn wsX4_lookUp wsX4_makeRoom := goodIn_r _ [39, 5, 1, 4, 2, 40, 41, 42, 38, 43, 6, 7, 8, 9, 10, 11, 24, 25, 26, 27, 28, 29, 44, 45, 46, 47, 48, 49, 50, 51, 34, 17, 52, 53, 54, 55, 56, 57, 58, 59, 60, 61, 62, 63, 64, 65, 66, 67, 71, 72, 73] (by decide +kernel) (by decide +kernel)
set_option maxRecDepth 20000 in
theorem gX4_lookUp_X4_makeRoom : GoodIn wsX4_lookUp (wsV RX4 131 RX4 yX4_makeRoom wsX4_makeRoom) := goodIn_app (goodIn_of _ (by decide +kernel)) ggX4_lookUp_X4_makeRoom
theorem dX4_lookUp_0 : decode cX4_lookUp 0 = .ok (.aload_n 0, 1) := by decide +kernel
theorem dX4_lookUp_1 : decode cX4_lookUp 1 = .ok (.getfield 31, 3) := by decide +kernel
theorem dX4_lookUp_4 : decode cX4_lookUp 4 = .ok (.iload_n 1, 1) := by decide +kernel
theorem dX4_lookUp_5 : decode cX4_lookUp 5 = .ok (.invokevirtual 75, 3) := by decide +kernel
theorem dX4_lookUp_8 : decode cX4_lookUp 8 = .ok (.ifCond .eq 32, 3) := by decide +kernel
theorem dX4_lookUp_11 : decode cX4_lookUp 11 = .ok (.aload_n 0, 1) := by decide +kernel
theorem dX4_lookUp_12 : decode cX4_lookUp 12 = .ok (.getfield 47, 3) := by decide +kernel
theorem dX4_lookUp_15 : decode cX4_lookUp 15 = .ok (.iconst 0, 1) := by decide +kernel
theorem dX4_lookUp_16 : decode cX4_lookUp 16 = .ok (.dup2, 1) := by decide +kernel
theorem dX4_lookUp_17 : decode cX4_lookUp 17 = .ok (.iaload, 1) := by decide +kernel
theorem dX4_lookUp_18 : decode cX4_lookUp 18 = .ok (.iconst 1, 1) := by decide +kernel
theorem dX4_lookUp_19 : decode cX4_lookUp 19 = .ok (.iadd, 1) := by decide +kernel
theorem dX4_lookUp_20 : decode cX4_lookUp 20 = .ok (.iastore, 1) := by decide +kernel
theorem dX4_lookUp_21 : decode cX4_lookUp 21 = .ok (.aload_n 0, 1) := by decide +kernel
theorem dX4_lookUp_22 : decode cX4_lookUp 22 = .ok (.getfield 47, 3) := by decide +kernel
theorem dX4_lookUp_25 : decode cX4_lookUp 25 = .ok (.iconst 2, 1) := by decide +kernel
theorem dX4_lookUp_26 : decode cX4_lookUp 26 = .ok (.dup2, 1) := by decide +kernel
theorem dX4_lookUp_27 : decode cX4_lookUp 27 = .ok (.iaload, 1) := by decide +kernel
theorem dX4_lookUp_28 : decode cX4_lookUp 28 = .ok (.iconst 1, 1) := by decide +kernel
theorem dX4_lookUp_29 : decode cX4_lookUp 29 = .ok (.iadd, 1) := by decide +kernel
theorem dX4_lookUp_30 : decode cX4_lookUp 30 = .ok (.iastore, 1) := by decide +kernel
theorem dX4_lookUp_31 : decode cX4_lookUp 31 = .ok (.aload_n 0, 1) := by decide +kernel
theorem dX4_lookUp_32 : decode cX4_lookUp 32 = .ok (.getfield 31, 3) := by decide +kernel
theorem dX4_lookUp_35 : decode cX4_lookUp 35 = .ok (.iload_n 1, 1) := by decide +kernel
theorem dX4_lookUp_36 : decode cX4_lookUp 36 = .ok (.invokevirtual 143, 3) := by decide +kernel
theorem dX4_lookUp_39 : decode cX4_lookUp 39 = .ok (.return_, 1) := by decide +kernel
theorem dX4_lookUp_40 : decode cX4_lookUp 40 = .ok (.aload_n 0, 1) := by decide +kernel
theorem dX4_lookUp_41 : decode cX4_lookUp 41 = .ok (.getfield 47, 3) := by decide +kernel
theorem dX4_lookUp_44 : decode cX4_lookUp 44 = .ok (.iconst 1, 1) := by decide +kernel
theorem dX4_lookUp_45 : decode cX4_lookUp 45 = .ok (.dup2, 1) := by decide +kernel
theorem dX4_lookUp_46 : decode cX4_lookUp 46 = .ok (.iaload, 1) := by decide +kernel
theorem dX4_lookUp_47 : decode cX4_lookUp 47 = .ok (.iconst 1, 1) := by decide +kernel
theorem dX4_lookUp_48 : decode cX4_lookUp 48 = .ok (.iadd, 1) := by decide +kernel
theorem dX4_lookUp_49 : decode cX4_lookUp 49 = .ok (.iastore, 1) := by decide +kernel
theorem dX4_lookUp_50 : decode cX4_lookUp 50 = .ok (.aload_n 0, 1) := by decide +kernel
theorem dX4_lookUp_51 : decode cX4_lookUp 51 = .ok (.getfield 47, 3) := by decide +kernel
theorem dX4_lookUp_54 : decode cX4_lookUp 54 = .ok (.iconst 2, 1) := by decide +kernel
theorem dX4_lookUp_55 : decode cX4_lookUp 55 = .ok (.dup2, 1) := by decide +kernel
theorem dX4_lookUp_56 : decode cX4_lookUp 56 = .ok (.iaload, 1) := by decide +kernel
theorem dX4_lookUp_57 : decode cX4_lookUp 57 = .ok (.iconst 2, 1) := by decide +kernel
theorem dX4_lookUp_58 : decode cX4_lookUp 58 = .ok (.aload_n 0, 1) := by decide +kernel
theorem dX4_lookUp_59 : decode cX4_lookUp 59 = .ok (.getfield 18, 3) := by decide +kernel
theorem dX4_lookUp_62 : decode cX4_lookUp 62 = .ok (.invokevirtual 93, 3) := by decide +kernel
theorem dX4_lookUp_65 : decode cX4_lookUp 65 = .ok (.iadd, 1) := by decide +kernel
theorem dX4_lookUp_66 : decode cX4_lookUp 66 = .ok (.iadd, 1) := by decide +kernel
theorem dX4_lookUp_67 : decode cX4_lookUp 67 = .ok (.iastore, 1) := by decide +kernel
theorem dX4_lookUp_68 : decode cX4_lookUp 68 = .ok (.aload_n 0, 1) := by decide +kernel
theorem dX4_lookUp_69 : decode cX4_lookUp 69 = .ok (.getfield 24, 3) := by decide +kernel
theorem dX4_lookUp_72 : decode cX4_lookUp 72 = .ok (.iload_n 1, 1) := by decide +kernel
theorem dX4_lookUp_73 : decode cX4_lookUp 73 = .ok (.invokevirtual 140, 3) := by decide +kernel
theorem dX4_lookUp_76 : decode cX4_lookUp 76 = .ok (.aload_n 0, 1) := by decide +kernel
theorem dX4_lookUp_77 : decode cX4_lookUp 77 = .ok (.getfield 44, 3) := by decide +kernel
theorem dX4_lookUp_80 : decode cX4_lookUp 80 = .ok (.iconst 0, 1) := by decide +kernel
theorem dX4_lookUp_81 : decode cX4_lookUp 81 = .ok (.iaload, 1) := by decide +kernel
theorem dX4_lookUp_82 : decode cX4_lookUp 82 = .ok (.if_icmp .le 14, 3) := by decide +kernel
theorem dX4_lookUp_85 : decode cX4_lookUp 85 = .ok (.aload_n 0, 1) := by decide +kernel
theorem dX4_lookUp_86 : decode cX4_lookUp 86 = .ok (.getfield 47, 3) := by decide +kernel
theorem dX4_lookUp_89 : decode cX4_lookUp 89 = .ok (.iconst 5, 1) := by decide +kernel
theorem dX4_lookUp_90 : decode cX4_lookUp 90 = .ok (.dup2, 1) := by decide +kernel
theorem dX4_lookUp_91 : decode cX4_lookUp 91 = .ok (.iaload, 1) := by decide +kernel
theorem dX4_lookUp_92 : decode cX4_lookUp 92 = .ok (.iconst 1, 1) := by decide +kernel
theorem dX4_lookUp_93 : decode cX4_lookUp 93 = .ok (.iadd, 1) := by decide +kernel
theorem dX4_lookUp_94 : decode cX4_lookUp 94 = .ok (.iastore, 1) := by decide +kernel
theorem dX4_lookUp_95 : decode cX4_lookUp 95 = .ok (.return_, 1) := by decide +kernel
theorem dX4_lookUp_96 : decode cX4_lookUp 96 = .ok (.aload_n 0, 1) := by decide +kernel
theorem dX4_lookUp_97 : decode cX4_lookUp 97 = .ok (.getfield 31, 3) := by decide +kernel
theorem dX4_lookUp_100 : decode cX4_lookUp 100 = .ok (.iload_n 1, 1) := by decide +kernel
theorem dX4_lookUp_101 : decode cX4_lookUp 101 = .ok (.invokevirtual 146, 3) := by decide +kernel
theorem dX4_lookUp_104 : decode cX4_lookUp 104 = .ok (.aload_n 0, 1) := by decide +kernel
theorem dX4_lookUp_105 : decode cX4_lookUp 105 = .ok (.iload_n 1, 1) := by decide +kernel
theorem dX4_lookUp_106 : decode cX4_lookUp 106 = .ok (.invokevirtual 131, 3) := by decide +kernel
theorem dX4_lookUp_109 : decode cX4_lookUp 109 = .ok (.pop, 1) := by decide +kernel
theorem dX4_lookUp_110 : decode cX4_lookUp 110 = .ok (.return_, 1) := by decide +kernel
set_option maxRecDepth 20000 in
theorem ggX4_makeRoom_X4_weightTogether : GoodIn wsX4_makeRoom wsX4_weightTogether := goodIn_r _ [9, 2, 3, 10, 11, 12, 13, 14, 15, 16, 17, 18, 19, 20, 21, 36, 37, 38, 39, 40, 41, 42, 43, 44, 45, 46, 47, 48, 49, 50] (by decide +kernel) (by decide +kernel)
set_option maxRecDepth 20000 in
theorem gX4_makeRoom_X4_weightTogether : GoodIn wsX4_makeRoom (wsV RX4 149 RX4 yX4_weightTogether wsX4_weightTogether) := goodIn_app (goodIn_of _ (by decide +kernel)) ggX4_makeRoom_X4_weightTogether
set_option maxRecDepth 20000 in
theorem ggX4_makeRoom_X2_firstOut : GoodIn wsX4_makeRoom wsX2_firstOut := goodIn_r _ [25, 15, 26, 27, 28, 13, 29, 30, 31, 44, 45, 46, 47] (by decide +kernel) (by decide +kernel)
set_option maxRecDepth 20000 in
theorem gX4_makeRoom_X2_firstOut : GoodIn wsX4_makeRoom (wsV RX4 152 RX2 yX2_firstOut wsX2_firstOut) := goodIn_app (goodIn_of _ (by decide +kernel)) ggX4_makeRoom_X2_firstOut
set_option maxRecDepth 20000 in
theorem ggX4_makeRoom_X0_weight : GoodIn wsX4_makeRoom wsX0_weight := goodIn_r _ [20, 21, 48, 49, 50] (by decide +kernel) (by decide +kernel)
set_option maxRecDepth 20000 in
theorem gX4_makeRoom_X0_weight : GoodIn wsX4_makeRoom (wsV RX4 140 RX0 yX0_weight wsX0_weight) := goodIn_app (goodIn_of _ (by decide +kernel)) ggX4_makeRoom_X0_weight
set_option maxRecDepth 20000 in
theorem ggX4_makeRoom_X2_lose : GoodIn wsX4_makeRoom wsX2_lose := goodIn_r _ [35, 15, 44, 45, 46, 47] (by decide +kernel) (by decide +kernel)
set_option maxRecDepth 20000 in
theorem gX4_makeRoom_X2_lose : GoodIn wsX4_makeRoom (wsV RX4 156 RX2 yX2_lose wsX2_lose) := goodIn_app (goodIn_of _ (by decide +kernel)) ggX4_makeRoom_X2_lose
theorem dX4_makeRoom_0 : decode cX4_makeRoom 0 = .ok (.iconst 0, 1) := by decide +kernel
theorem dX4_makeRoom_1 : decode cX4_makeRoom 1 = .ok (.istore_n 2, 1) := by decide +kernel
theorem dX4_makeRoom_2 : decode cX4_makeRoom 2 = .ok (.aload_n 0, 1) := by decide +kernel
theorem dX4_makeRoom_3 : decode cX4_makeRoom 3 = .ok (.invokevirtual 149, 3) := by decide +kernel
theorem dX4_makeRoom_6 : decode cX4_makeRoom 6 = .ok (.istore_n 3, 1) := by decide +kernel
theorem dX4_makeRoom_7 : decode cX4_makeRoom 7 = .ok (.iload_n 2, 1) := by decide +kernel
theorem dX4_makeRoom_8 : decode cX4_makeRoom 8 = .ok (.bipush 10, 2) := by decide +kernel
theorem dX4_makeRoom_10 : decode cX4_makeRoom 10 = .ok (.if_icmp .ge 56, 3) := by decide +kernel
theorem dX4_makeRoom_13 : decode cX4_makeRoom 13 = .ok (.iload_n 3, 1) := by decide +kernel
theorem dX4_makeRoom_14 : decode cX4_makeRoom 14 = .ok (.aload_n 0, 1) := by decide +kernel
theorem dX4_makeRoom_15 : decode cX4_makeRoom 15 = .ok (.getfield 44, 3) := by decide +kernel
theorem dX4_makeRoom_18 : decode cX4_makeRoom 18 = .ok (.iconst 0, 1) := by decide +kernel
theorem dX4_makeRoom_19 : decode cX4_makeRoom 19 = .ok (.iaload, 1) := by decide +kernel
theorem dX4_makeRoom_20 : decode cX4_makeRoom 20 = .ok (.if_icmp .le 46, 3) := by decide +kernel
theorem dX4_makeRoom_23 : decode cX4_makeRoom 23 = .ok (.aload_n 0, 1) := by decide +kernel
theorem dX4_makeRoom_24 : decode cX4_makeRoom 24 = .ok (.getfield 31, 3) := by decide +kernel
theorem dX4_makeRoom_27 : decode cX4_makeRoom 27 = .ok (.aload_n 0, 1) := by decide +kernel
theorem dX4_makeRoom_28 : decode cX4_makeRoom 28 = .ok (.getfield 44, 3) := by decide +kernel
theorem dX4_makeRoom_31 : decode cX4_makeRoom 31 = .ok (.iconst 1, 1) := by decide +kernel
theorem dX4_makeRoom_32 : decode cX4_makeRoom 32 = .ok (.iaload, 1) := by decide +kernel
theorem dX4_makeRoom_33 : decode cX4_makeRoom 33 = .ok (.iload_n 1, 1) := by decide +kernel
theorem dX4_makeRoom_34 : decode cX4_makeRoom 34 = .ok (.invokevirtual 152, 3) := by decide +kernel
theorem dX4_makeRoom_37 : decode cX4_makeRoom 37 = .ok (.istore 4, 2) := by decide +kernel
theorem dX4_makeRoom_39 : decode cX4_makeRoom 39 = .ok (.iload_n 3, 1) := by decide +kernel
theorem dX4_makeRoom_40 : decode cX4_makeRoom 40 = .ok (.aload_n 0, 1) := by decide +kernel
theorem dX4_makeRoom_41 : decode cX4_makeRoom 41 = .ok (.getfield 24, 3) := by decide +kernel
theorem dX4_makeRoom_44 : decode cX4_makeRoom 44 = .ok (.iload 4, 2) := by decide +kernel
theorem dX4_makeRoom_46 : decode cX4_makeRoom 46 = .ok (.invokevirtual 140, 3) := by decide +kernel
theorem dX4_makeRoom_49 : decode cX4_makeRoom 49 = .ok (.isub, 1) := by decide +kernel
theorem dX4_makeRoom_50 : decode cX4_makeRoom 50 = .ok (.istore_n 3, 1) := by decide +kernel
theorem dX4_makeRoom_51 : decode cX4_makeRoom 51 = .ok (.aload_n 0, 1) := by decide +kernel
theorem dX4_makeRoom_52 : decode cX4_makeRoom 52 = .ok (.getfield 31, 3) := by decide +kernel
theorem dX4_makeRoom_55 : decode cX4_makeRoom 55 = .ok (.iload 4, 2) := by decide +kernel
theorem dX4_makeRoom_57 : decode cX4_makeRoom 57 = .ok (.invokevirtual 156, 3) := by decide +kernel
theorem dX4_makeRoom_60 : decode cX4_makeRoom 60 = .ok (.iinc 2 1, 3) := by decide +kernel
theorem dX4_makeRoom_63 : decode cX4_makeRoom 63 = .ok (.goto (-56), 3) := by decide +kernel
theorem dX4_makeRoom_66 : decode cX4_makeRoom 66 = .ok (.aload_n 0, 1) := by decide +kernel
theorem dX4_makeRoom_67 : decode cX4_makeRoom 67 = .ok (.getfield 47, 3) := by decide +kernel
theorem dX4_makeRoom_70 : decode cX4_makeRoom 70 = .ok (.iconst 3, 1) := by decide +kernel
theorem dX4_makeRoom_71 : decode cX4_makeRoom 71 = .ok (.dup2, 1) := by decide +kernel
theorem dX4_makeRoom_72 : decode cX4_makeRoom 72 = .ok (.iaload, 1) := by decide +kernel
theorem dX4_makeRoom_73 : decode cX4_makeRoom 73 = .ok (.iload_n 2, 1) := by decide +kernel
theorem dX4_makeRoom_74 : decode cX4_makeRoom 74 = .ok (.iadd, 1) := by decide +kernel
theorem dX4_makeRoom_75 : decode cX4_makeRoom 75 = .ok (.iastore, 1) := by decide +kernel
theorem dX4_makeRoom_76 : decode cX4_makeRoom 76 = .ok (.iload_n 2, 1) := by decide +kernel
theorem dX4_makeRoom_77 : decode cX4_makeRoom 77 = .ok (.ireturn, 1) := by decide +kernel
set_option maxRecDepth 20000 in
theorem ggX4_keepTrue_X4_findAnswers : GoodIn wsX4_keepTrue wsX4_findAnswers := goodIn_r _ [6, 7, 8, 1, 9, 10, 11, 12, 13, 14, 15, 16, 17, 18, 19, 20, 21, 22, 23, 24, 25, 26, 27, 28, 29, 30, 31, 32, 61, 62, 63, 64, 65, 66, 67, 68, 69, 70, 71, 72, 73, 74] (by decide +kernel) (by decide +kernel)
set_option maxRecDepth 20000 in
theorem gX4_keepTrue_X4_findAnswers : GoodIn wsX4_keepTrue (wsV RX4 134 RX4 yX4_findAnswers wsX4_findAnswers) := goodIn_app (goodIn_of _ (by decide +kernel)) ggX4_keepTrue_X4_findAnswers
set_option maxRecDepth 20000 in
theorem ggX4_keepTrue_X4_throwAllOut : GoodIn wsX4_keepTrue wsX4_throwAllOut := goodIn_r _ [36, 37, 38, 39, 40, 41, 42, 43, 44, 45, 46, 47, 48, 61, 62, 63, 64, 65, 66, 67, 68, 75, 76, 77, 78] (by decide +kernel) (by decide +kernel)
set_option maxRecDepth 20000 in
theorem gX4_keepTrue_X4_throwAllOut : GoodIn wsX4_keepTrue (wsV RX4 137 RX4 yX4_throwAllOut wsX4_throwAllOut) := goodIn_app (goodIn_of _ (by decide +kernel)) ggX4_keepTrue_X4_throwAllOut
set_option maxRecDepth 20000 in
theorem ggX4_keepTrue_X4_keepAnswerTrue : GoodIn wsX4_keepTrue wsX4_keepAnswerTrue := goodIn_r _ [52, 37, 1, 38, 53, 54, 55, 42, 56, 44, 57, 58, 59, 60, 61, 62, 63, 64, 65, 66, 67, 68, 75, 76, 77, 78] (by decide +kernel) (by decide +kernel)
set_option maxRecDepth 20000 in
theorem gX4_keepTrue_X4_keepAnswerTrue : GoodIn wsX4_keepTrue (wsV RX4 159 RX4 yX4_keepAnswerTrue wsX4_keepAnswerTrue) := goodIn_app (goodIn_of _ (by decide +kernel)) ggX4_keepTrue_X4_keepAnswerTrue
theorem dX4_keepTrue_0 : decode cX4_keepTrue 0 = .ok (.aload_n 0, 1) := by decide +kernel
theorem dX4_keepTrue_1 : decode cX4_keepTrue 1 = .ok (.invokevirtual 134, 3) := by decide +kernel
theorem dX4_keepTrue_4 : decode cX4_keepTrue 4 = .ok (.aload_n 0, 1) := by decide +kernel
theorem dX4_keepTrue_5 : decode cX4_keepTrue 5 = .ok (.getfield 44, 3) := by decide +kernel
theorem dX4_keepTrue_8 : decode cX4_keepTrue 8 = .ok (.iconst 2, 1) := by decide +kernel
theorem dX4_keepTrue_9 : decode cX4_keepTrue 9 = .ok (.iaload, 1) := by decide +kernel
theorem dX4_keepTrue_10 : decode cX4_keepTrue 10 = .ok (.iconst 1, 1) := by decide +kernel
theorem dX4_keepTrue_11 : decode cX4_keepTrue 11 = .ok (.if_icmp .ne 9, 3) := by decide +kernel
theorem dX4_keepTrue_14 : decode cX4_keepTrue 14 = .ok (.aload_n 0, 1) := by decide +kernel
theorem dX4_keepTrue_15 : decode cX4_keepTrue 15 = .ok (.invokevirtual 137, 3) := by decide +kernel
theorem dX4_keepTrue_18 : decode cX4_keepTrue 18 = .ok (.pop, 1) := by decide +kernel
theorem dX4_keepTrue_19 : decode cX4_keepTrue 19 = .ok (.return_, 1) := by decide +kernel
theorem dX4_keepTrue_20 : decode cX4_keepTrue 20 = .ok (.aload_n 0, 1) := by decide +kernel
theorem dX4_keepTrue_21 : decode cX4_keepTrue 21 = .ok (.iload_n 1, 1) := by decide +kernel
theorem dX4_keepTrue_22 : decode cX4_keepTrue 22 = .ok (.invokevirtual 159, 3) := by decide +kernel
theorem dX4_keepTrue_25 : decode cX4_keepTrue 25 = .ok (.iload_n 2, 1) := by decide +kernel
theorem dX4_keepTrue_26 : decode cX4_keepTrue 26 = .ok (.iload_n 1, 1) := by decide +kernel
theorem dX4_keepTrue_27 : decode cX4_keepTrue 27 = .ok (.if_icmp .eq 8, 3) := by decide +kernel
theorem dX4_keepTrue_30 : decode cX4_keepTrue 30 = .ok (.aload_n 0, 1) := by decide +kernel
theorem dX4_keepTrue_31 : decode cX4_keepTrue 31 = .ok (.iload_n 2, 1) := by decide +kernel
theorem dX4_keepTrue_32 : decode cX4_keepTrue 32 = .ok (.invokevirtual 159, 3) := by decide +kernel
theorem dX4_keepTrue_35 : decode cX4_keepTrue 35 = .ok (.return_, 1) := by decide +kernel
set_option maxRecDepth 20000 in
theorem ggX4_keepAnswerTrue_X2_holds : GoodIn wsX4_keepAnswerTrue wsX2_holds := goodIn_r _ [8, 9, 22, 23, 24, 25] (by decide +kernel) (by decide +kernel)
set_option maxRecDepth 20000 in
theorem gX4_keepAnswerTrue_X2_holds : GoodIn wsX4_keepAnswerTrue (wsV RX4 75 RX2 yX2_holds wsX2_holds) := goodIn_app (goodIn_of _ (by decide +kernel)) ggX4_keepAnswerTrue_X2_holds
set_option maxRecDepth 20000 in
theorem ggX4_keepAnswerTrue_X2_lose : GoodIn wsX4_keepAnswerTrue wsX2_lose := goodIn_r _ [13, 9, 22, 23, 24, 25] (by decide +kernel) (by decide +kernel)
set_option maxRecDepth 20000 in
theorem gX4_keepAnswerTrue_X2_lose : GoodIn wsX4_keepAnswerTrue (wsV RX4 156 RX2 yX2_lose wsX2_lose) := goodIn_app (goodIn_of _ (by decide +kernel)) ggX4_keepAnswerTrue_X2_lose
theorem dX4_keepAnswerTrue_0 : decode cX4_keepAnswerTrue 0 = .ok (.aload_n 0, 1) := by decide +kernel
theorem dX4_keepAnswerTrue_1 : decode cX4_keepAnswerTrue 1 = .ok (.getfield 31, 3) := by decide +kernel
theorem dX4_keepAnswerTrue_4 : decode cX4_keepAnswerTrue 4 = .ok (.iload_n 1, 1) := by decide +kernel
theorem dX4_keepAnswerTrue_5 : decode cX4_keepAnswerTrue 5 = .ok (.invokevirtual 75, 3) := by decide +kernel
theorem dX4_keepAnswerTrue_8 : decode cX4_keepAnswerTrue 8 = .ok (.ifCond .ne 4, 3) := by decide +kernel
theorem dX4_keepAnswerTrue_11 : decode cX4_keepAnswerTrue 11 = .ok (.return_, 1) := by decide +kernel
theorem dX4_keepAnswerTrue_12 : decode cX4_keepAnswerTrue 12 = .ok (.aload_n 0, 1) := by decide +kernel
theorem dX4_keepAnswerTrue_13 : decode cX4_keepAnswerTrue 13 = .ok (.getfield 44, 3) := by decide +kernel
theorem dX4_keepAnswerTrue_16 : decode cX4_keepAnswerTrue 16 = .ok (.iconst 2, 1) := by decide +kernel
theorem dX4_keepAnswerTrue_17 : decode cX4_keepAnswerTrue 17 = .ok (.iaload, 1) := by decide +kernel
theorem dX4_keepAnswerTrue_18 : decode cX4_keepAnswerTrue 18 = .ok (.iconst 2, 1) := by decide +kernel
theorem dX4_keepAnswerTrue_19 : decode cX4_keepAnswerTrue 19 = .ok (.if_icmp .ne 17, 3) := by decide +kernel
theorem dX4_keepAnswerTrue_22 : decode cX4_keepAnswerTrue 22 = .ok (.aload_n 0, 1) := by decide +kernel
theorem dX4_keepAnswerTrue_23 : decode cX4_keepAnswerTrue 23 = .ok (.getfield 47, 3) := by decide +kernel
theorem dX4_keepAnswerTrue_26 : decode cX4_keepAnswerTrue 26 = .ok (.bipush 6, 2) := by decide +kernel
theorem dX4_keepAnswerTrue_28 : decode cX4_keepAnswerTrue 28 = .ok (.dup2, 1) := by decide +kernel
theorem dX4_keepAnswerTrue_29 : decode cX4_keepAnswerTrue 29 = .ok (.iaload, 1) := by decide +kernel
theorem dX4_keepAnswerTrue_30 : decode cX4_keepAnswerTrue 30 = .ok (.iconst 1, 1) := by decide +kernel
theorem dX4_keepAnswerTrue_31 : decode cX4_keepAnswerTrue 31 = .ok (.iadd, 1) := by decide +kernel
theorem dX4_keepAnswerTrue_32 : decode cX4_keepAnswerTrue 32 = .ok (.iastore, 1) := by decide +kernel
theorem dX4_keepAnswerTrue_33 : decode cX4_keepAnswerTrue 33 = .ok (.goto 21, 3) := by decide +kernel
theorem dX4_keepAnswerTrue_36 : decode cX4_keepAnswerTrue 36 = .ok (.aload_n 0, 1) := by decide +kernel
theorem dX4_keepAnswerTrue_37 : decode cX4_keepAnswerTrue 37 = .ok (.getfield 31, 3) := by decide +kernel
theorem dX4_keepAnswerTrue_40 : decode cX4_keepAnswerTrue 40 = .ok (.iload_n 1, 1) := by decide +kernel
theorem dX4_keepAnswerTrue_41 : decode cX4_keepAnswerTrue 41 = .ok (.invokevirtual 156, 3) := by decide +kernel
theorem dX4_keepAnswerTrue_44 : decode cX4_keepAnswerTrue 44 = .ok (.aload_n 0, 1) := by decide +kernel
theorem dX4_keepAnswerTrue_45 : decode cX4_keepAnswerTrue 45 = .ok (.getfield 47, 3) := by decide +kernel
theorem dX4_keepAnswerTrue_48 : decode cX4_keepAnswerTrue 48 = .ok (.iconst 4, 1) := by decide +kernel
theorem dX4_keepAnswerTrue_49 : decode cX4_keepAnswerTrue 49 = .ok (.dup2, 1) := by decide +kernel
theorem dX4_keepAnswerTrue_50 : decode cX4_keepAnswerTrue 50 = .ok (.iaload, 1) := by decide +kernel
theorem dX4_keepAnswerTrue_51 : decode cX4_keepAnswerTrue 51 = .ok (.iconst 1, 1) := by decide +kernel
theorem dX4_keepAnswerTrue_52 : decode cX4_keepAnswerTrue 52 = .ok (.iadd, 1) := by decide +kernel
theorem dX4_keepAnswerTrue_53 : decode cX4_keepAnswerTrue 53 = .ok (.iastore, 1) := by decide +kernel
theorem dX4_keepAnswerTrue_54 : decode cX4_keepAnswerTrue 54 = .ok (.return_, 1) := by decide +kernel
set_option maxRecDepth 20000 in
theorem ggX4_findAnswers_X0_find : GoodIn wsX4_findAnswers wsX0_find := goodIn_r _ [8, 9, 10, 11, 12, 13, 14, 15, 16, 17, 18, 19, 20, 21, 22, 23, 24, 25, 26, 27, 36, 37, 38, 39, 40, 41] (by decide +kernel) (by decide +kernel)
set_option maxRecDepth 20000 in
theorem gX4_findAnswers_X0_find : GoodIn wsX4_findAnswers (wsV RX4 162 RX0 yX0_find wsX0_find) := goodIn_app (goodIn_of _ (by decide +kernel)) ggX4_findAnswers_X0_find
theorem dX4_findAnswers_0 : decode cX4_findAnswers 0 = .ok (.aload_n 0, 1) := by decide +kernel
theorem dX4_findAnswers_1 : decode cX4_findAnswers 1 = .ok (.getfield 24, 3) := by decide +kernel
theorem dX4_findAnswers_4 : decode cX4_findAnswers 4 = .ok (.aload_n 0, 1) := by decide +kernel
theorem dX4_findAnswers_5 : decode cX4_findAnswers 5 = .ok (.getfield 18, 3) := by decide +kernel
theorem dX4_findAnswers_8 : decode cX4_findAnswers 8 = .ok (.aload_n 0, 1) := by decide +kernel
theorem dX4_findAnswers_9 : decode cX4_findAnswers 9 = .ok (.getfield 44, 3) := by decide +kernel
theorem dX4_findAnswers_12 : decode cX4_findAnswers 12 = .ok (.iconst 3, 1) := by decide +kernel
theorem dX4_findAnswers_13 : decode cX4_findAnswers 13 = .ok (.iaload, 1) := by decide +kernel
theorem dX4_findAnswers_14 : decode cX4_findAnswers 14 = .ok (.aload_n 0, 1) := by decide +kernel
theorem dX4_findAnswers_15 : decode cX4_findAnswers 15 = .ok (.getfield 44, 3) := by decide +kernel
theorem dX4_findAnswers_18 : decode cX4_findAnswers 18 = .ok (.iconst 4, 1) := by decide +kernel
theorem dX4_findAnswers_19 : decode cX4_findAnswers 19 = .ok (.iaload, 1) := by decide +kernel
theorem dX4_findAnswers_20 : decode cX4_findAnswers 20 = .ok (.invokevirtual 162, 3) := by decide +kernel
theorem dX4_findAnswers_23 : decode cX4_findAnswers 23 = .ok (.return_, 1) := by decide +kernel
theorem dX4_isInBand_0 : decode cX4_isInBand 0 = .ok (.iload_n 1, 1) := by decide +kernel
theorem dX4_isInBand_1 : decode cX4_isInBand 1 = .ok (.aload_n 0, 1) := by decide +kernel
theorem dX4_isInBand_2 : decode cX4_isInBand 2 = .ok (.getfield 44, 3) := by decide +kernel
theorem dX4_isInBand_5 : decode cX4_isInBand 5 = .ok (.iconst 3, 1) := by decide +kernel
theorem dX4_isInBand_6 : decode cX4_isInBand 6 = .ok (.iaload, 1) := by decide +kernel
theorem dX4_isInBand_7 : decode cX4_isInBand 7 = .ok (.if_icmp .lt 17, 3) := by decide +kernel
theorem dX4_isInBand_10 : decode cX4_isInBand 10 = .ok (.iload_n 1, 1) := by decide +kernel
theorem dX4_isInBand_11 : decode cX4_isInBand 11 = .ok (.aload_n 0, 1) := by decide +kernel
theorem dX4_isInBand_12 : decode cX4_isInBand 12 = .ok (.getfield 44, 3) := by decide +kernel
theorem dX4_isInBand_15 : decode cX4_isInBand 15 = .ok (.iconst 4, 1) := by decide +kernel
theorem dX4_isInBand_16 : decode cX4_isInBand 16 = .ok (.iaload, 1) := by decide +kernel
theorem dX4_isInBand_17 : decode cX4_isInBand 17 = .ok (.if_icmp .gt 7, 3) := by decide +kernel
theorem dX4_isInBand_20 : decode cX4_isInBand 20 = .ok (.iconst 1, 1) := by decide +kernel
theorem dX4_isInBand_21 : decode cX4_isInBand 21 = .ok (.goto 4, 3) := by decide +kernel
theorem dX4_isInBand_24 : decode cX4_isInBand 24 = .ok (.iconst 0, 1) := by decide +kernel
theorem dX4_isInBand_25 : decode cX4_isInBand 25 = .ok (.ireturn, 1) := by decide +kernel
theorem dX5_init_0 : decode cX5_init 0 = .ok (.aload_n 0, 1) := by decide +kernel
theorem dX5_init_1 : decode cX5_init 1 = .ok (.invokespecial 3, 3) := by decide +kernel
theorem dX5_init_4 : decode cX5_init 4 = .ok (.aload_n 0, 1) := by decide +kernel
theorem dX5_init_5 : decode cX5_init 5 = .ok (.bipush 20, 2) := by decide +kernel
theorem dX5_init_7 : decode cX5_init 7 = .ok (.newarray .int, 2) := by decide +kernel
theorem dX5_init_9 : decode cX5_init 9 = .ok (.putfield 9, 3) := by decide +kernel
theorem dX5_init_12 : decode cX5_init 12 = .ok (.aload_n 0, 1) := by decide +kernel
theorem dX5_init_13 : decode cX5_init 13 = .ok (.bipush 20, 2) := by decide +kernel
theorem dX5_init_15 : decode cX5_init 15 = .ok (.newarray .int, 2) := by decide +kernel
theorem dX5_init_17 : decode cX5_init 17 = .ok (.putfield 15, 3) := by decide +kernel
theorem dX5_init_20 : decode cX5_init 20 = .ok (.return_, 1) := by decide +kernel
set_option maxRecDepth 20000 in
theorem ggX5_copyFrom_X6_copyNumbers : GoodIn wsX5_copyFrom wsX6_copyNumbers := goodIn_r _ [6, 7, 8, 9, 10, 11, 12, 13, 14] (by decide +kernel) (by decide +kernel)
set_option maxRecDepth 20000 in
theorem gX5_copyFrom_X6_copyNumbers_n18 : GoodIn wsX5_copyFrom (wsX6_copyNumbers) := ggX5_copyFrom_X6_copyNumbers
theorem dX5_copyFrom_0 : decode cX5_copyFrom 0 = .ok (.aload_n 1, 1) := by decide +kernel
theorem dX5_copyFrom_1 : decode cX5_copyFrom 1 = .ok (.getfield 9, 3) := by decide +kernel
theorem dX5_copyFrom_4 : decode cX5_copyFrom 4 = .ok (.aload_n 0, 1) := by decide +kernel
theorem dX5_copyFrom_5 : decode cX5_copyFrom 5 = .ok (.getfield 9, 3) := by decide +kernel
theorem dX5_copyFrom_8 : decode cX5_copyFrom 8 = .ok (.invokestatic 18, 3) := by decide +kernel
theorem dX5_copyFrom_11 : decode cX5_copyFrom 11 = .ok (.aload_n 1, 1) := by decide +kernel
theorem dX5_copyFrom_12 : decode cX5_copyFrom 12 = .ok (.getfield 15, 3) := by decide +kernel
theorem dX5_copyFrom_15 : decode cX5_copyFrom 15 = .ok (.aload_n 0, 1) := by decide +kernel
theorem dX5_copyFrom_16 : decode cX5_copyFrom 16 = .ok (.getfield 15, 3) := by decide +kernel
theorem dX5_copyFrom_19 : decode cX5_copyFrom 19 = .ok (.invokestatic 18, 3) := by decide +kernel
theorem dX5_copyFrom_22 : decode cX5_copyFrom 22 = .ok (.aload_n 0, 1) := by decide +kernel
theorem dX5_copyFrom_23 : decode cX5_copyFrom 23 = .ok (.aload_n 1, 1) := by decide +kernel
theorem dX5_copyFrom_24 : decode cX5_copyFrom 24 = .ok (.getfield 22, 3) := by decide +kernel
theorem dX5_copyFrom_27 : decode cX5_copyFrom 27 = .ok (.putfield 22, 3) := by decide +kernel
theorem dX5_copyFrom_30 : decode cX5_copyFrom 30 = .ok (.return_, 1) := by decide +kernel
theorem dX5_size_0 : decode cX5_size 0 = .ok (.aload_n 0, 1) := by decide +kernel
theorem dX5_size_1 : decode cX5_size 1 = .ok (.getfield 22, 3) := by decide +kernel
theorem dX5_size_4 : decode cX5_size 4 = .ok (.ireturn, 1) := by decide +kernel
theorem dX5_has_0 : decode cX5_has 0 = .ok (.iload_n 1, 1) := by decide +kernel
theorem dX5_has_1 : decode cX5_has 1 = .ok (.ifCond .lt 15, 3) := by decide +kernel
theorem dX5_has_4 : decode cX5_has 4 = .ok (.iload_n 1, 1) := by decide +kernel
theorem dX5_has_5 : decode cX5_has 5 = .ok (.aload_n 0, 1) := by decide +kernel
theorem dX5_has_6 : decode cX5_has 6 = .ok (.getfield 22, 3) := by decide +kernel
theorem dX5_has_9 : decode cX5_has 9 = .ok (.if_icmp .ge 7, 3) := by decide +kernel
theorem dX5_has_12 : decode cX5_has 12 = .ok (.iconst 1, 1) := by decide +kernel
theorem dX5_has_13 : decode cX5_has 13 = .ok (.goto 4, 3) := by decide +kernel
theorem dX5_has_16 : decode cX5_has 16 = .ok (.iconst 0, 1) := by decide +kernel
theorem dX5_has_17 : decode cX5_has 17 = .ok (.ireturn, 1) := by decide +kernel
theorem dX5_key_0 : decode cX5_key 0 = .ok (.iload_n 1, 1) := by decide +kernel
theorem dX5_key_1 : decode cX5_key 1 = .ok (.ifCond .lt 21, 3) := by decide +kernel
theorem dX5_key_4 : decode cX5_key 4 = .ok (.iload_n 1, 1) := by decide +kernel
theorem dX5_key_5 : decode cX5_key 5 = .ok (.aload_n 0, 1) := by decide +kernel
theorem dX5_key_6 : decode cX5_key 6 = .ok (.getfield 9, 3) := by decide +kernel
theorem dX5_key_9 : decode cX5_key 9 = .ok (.arraylength, 1) := by decide +kernel
theorem dX5_key_10 : decode cX5_key 10 = .ok (.if_icmp .ge 12, 3) := by decide +kernel
theorem dX5_key_13 : decode cX5_key 13 = .ok (.aload_n 0, 1) := by decide +kernel
theorem dX5_key_14 : decode cX5_key 14 = .ok (.getfield 9, 3) := by decide +kernel
theorem dX5_key_17 : decode cX5_key 17 = .ok (.iload_n 1, 1) := by decide +kernel
theorem dX5_key_18 : decode cX5_key 18 = .ok (.iaload, 1) := by decide +kernel
theorem dX5_key_19 : decode cX5_key 19 = .ok (.goto 4, 3) := by decide +kernel
theorem dX5_key_22 : decode cX5_key 22 = .ok (.iconst 0, 1) := by decide +kernel
theorem dX5_key_23 : decode cX5_key 23 = .ok (.ireturn, 1) := by decide +kernel
theorem dX5_value_0 : decode cX5_value 0 = .ok (.iload_n 1, 1) := by decide +kernel
theorem dX5_value_1 : decode cX5_value 1 = .ok (.ifCond .lt 21, 3) := by decide +kernel
theorem dX5_value_4 : decode cX5_value 4 = .ok (.iload_n 1, 1) := by decide +kernel
theorem dX5_value_5 : decode cX5_value 5 = .ok (.aload_n 0, 1) := by decide +kernel
theorem dX5_value_6 : decode cX5_value 6 = .ok (.getfield 15, 3) := by decide +kernel
theorem dX5_value_9 : decode cX5_value 9 = .ok (.arraylength, 1) := by decide +kernel
theorem dX5_value_10 : decode cX5_value 10 = .ok (.if_icmp .ge 12, 3) := by decide +kernel
theorem dX5_value_13 : decode cX5_value 13 = .ok (.aload_n 0, 1) := by decide +kernel
theorem dX5_value_14 : decode cX5_value 14 = .ok (.getfield 15, 3) := by decide +kernel
theorem dX5_value_17 : decode cX5_value 17 = .ok (.iload_n 1, 1) := by decide +kernel
theorem dX5_value_18 : decode cX5_value 18 = .ok (.iaload, 1) := by decide +kernel
theorem dX5_value_19 : decode cX5_value 19 = .ok (.goto 4, 3) := by decide +kernel
theorem dX5_value_22 : decode cX5_value 22 = .ok (.iconst 0, 1) := by decide +kernel
theorem dX5_value_23 : decode cX5_value 23 = .ok (.ireturn, 1) := by decide +kernel
theorem dX5_put_0 : decode cX5_put 0 = .ok (.iload_n 1, 1) := by decide +kernel
theorem dX5_put_1 : decode cX5_put 1 = .ok (.ifCond .lt 35, 3) := by decide +kernel
theorem dX5_put_4 : decode cX5_put 4 = .ok (.iload_n 1, 1) := by decide +kernel
theorem dX5_put_5 : decode cX5_put 5 = .ok (.aload_n 0, 1) := by decide +kernel
theorem dX5_put_6 : decode cX5_put 6 = .ok (.getfield 9, 3) := by decide +kernel
theorem dX5_put_9 : decode cX5_put 9 = .ok (.arraylength, 1) := by decide +kernel
theorem dX5_put_10 : decode cX5_put 10 = .ok (.if_icmp .ge 26, 3) := by decide +kernel
theorem dX5_put_13 : decode cX5_put 13 = .ok (.iload_n 1, 1) := by decide +kernel
theorem dX5_put_14 : decode cX5_put 14 = .ok (.aload_n 0, 1) := by decide +kernel
theorem dX5_put_15 : decode cX5_put 15 = .ok (.getfield 15, 3) := by decide +kernel
theorem dX5_put_18 : decode cX5_put 18 = .ok (.arraylength, 1) := by decide +kernel
theorem dX5_put_19 : decode cX5_put 19 = .ok (.if_icmp .ge 17, 3) := by decide +kernel
theorem dX5_put_22 : decode cX5_put 22 = .ok (.aload_n 0, 1) := by decide +kernel
theorem dX5_put_23 : decode cX5_put 23 = .ok (.getfield 9, 3) := by decide +kernel
theorem dX5_put_26 : decode cX5_put 26 = .ok (.iload_n 1, 1) := by decide +kernel
theorem dX5_put_27 : decode cX5_put 27 = .ok (.iload_n 2, 1) := by decide +kernel
theorem dX5_put_28 : decode cX5_put 28 = .ok (.iastore, 1) := by decide +kernel
theorem dX5_put_29 : decode cX5_put 29 = .ok (.aload_n 0, 1) := by decide +kernel
theorem dX5_put_30 : decode cX5_put 30 = .ok (.getfield 15, 3) := by decide +kernel
theorem dX5_put_33 : decode cX5_put 33 = .ok (.iload_n 1, 1) := by decide +kernel
theorem dX5_put_34 : decode cX5_put 34 = .ok (.iload_n 3, 1) := by decide +kernel
theorem dX5_put_35 : decode cX5_put 35 = .ok (.iastore, 1) := by decide +kernel
theorem dX5_put_36 : decode cX5_put 36 = .ok (.return_, 1) := by decide +kernel
set_option maxRecDepth 20000 in
theorem ggX5_push_X5_put : GoodIn wsX5_push wsX5_put := goodIn_r _ [6, 7, 8, 9, 10, 11] (by decide +kernel) (by decide +kernel)
set_option maxRecDepth 20000 in
theorem gX5_push_X5_put : GoodIn wsX5_push (wsV RX5 26 RX5 yX5_put wsX5_put) := goodIn_app (goodIn_of _ (by decide +kernel)) ggX5_push_X5_put
theorem dX5_push_0 : decode cX5_push 0 = .ok (.aload_n 0, 1) := by decide +kernel
theorem dX5_push_1 : decode cX5_push 1 = .ok (.getfield 22, 3) := by decide +kernel
theorem dX5_push_4 : decode cX5_push 4 = .ok (.bipush 20, 2) := by decide +kernel
theorem dX5_push_6 : decode cX5_push 6 = .ok (.if_icmp .ge 23, 3) := by decide +kernel
theorem dX5_push_9 : decode cX5_push 9 = .ok (.aload_n 0, 1) := by decide +kernel
theorem dX5_push_10 : decode cX5_push 10 = .ok (.aload_n 0, 1) := by decide +kernel
theorem dX5_push_11 : decode cX5_push 11 = .ok (.getfield 22, 3) := by decide +kernel
theorem dX5_push_14 : decode cX5_push 14 = .ok (.iload_n 1, 1) := by decide +kernel
theorem dX5_push_15 : decode cX5_push 15 = .ok (.iload_n 2, 1) := by decide +kernel
theorem dX5_push_16 : decode cX5_push 16 = .ok (.invokevirtual 26, 3) := by decide +kernel
theorem dX5_push_19 : decode cX5_push 19 = .ok (.aload_n 0, 1) := by decide +kernel
theorem dX5_push_20 : decode cX5_push 20 = .ok (.dup, 1) := by decide +kernel
theorem dX5_push_21 : decode cX5_push 21 = .ok (.getfield 22, 3) := by decide +kernel
theorem dX5_push_24 : decode cX5_push 24 = .ok (.iconst 1, 1) := by decide +kernel
theorem dX5_push_25 : decode cX5_push 25 = .ok (.iadd, 1) := by decide +kernel
theorem dX5_push_26 : decode cX5_push 26 = .ok (.putfield 22, 3) := by decide +kernel
theorem dX5_push_29 : decode cX5_push 29 = .ok (.return_, 1) := by decide +kernel
set_option maxRecDepth 20000 in
theorem ggX5_takeOut_X5_has : GoodIn wsX5_takeOut wsX5_has := goodIn_r _ [6, 1, 21, 22, 23] (by decide +kernel) (by decide +kernel)
set_option maxRecDepth 20000 in
theorem gX5_takeOut_X5_has : GoodIn wsX5_takeOut (wsV RX5 30 RX5 yX5_has wsX5_has) := goodIn_app (goodIn_of _ (by decide +kernel)) ggX5_takeOut_X5_has
set_option maxRecDepth 20000 in
theorem ggX5_takeOut_X5_key : GoodIn wsX5_takeOut wsX5_key := goodIn_r _ [10, 11, 21, 22, 23] (by decide +kernel) (by decide +kernel)
set_option maxRecDepth 20000 in
theorem gX5_takeOut_X5_key : GoodIn wsX5_takeOut (wsV RX5 34 RX5 yX5_key wsX5_key) := goodIn_app (goodIn_of _ (by decide +kernel)) ggX5_takeOut_X5_key
set_option maxRecDepth 20000 in
theorem ggX5_takeOut_X5_value : GoodIn wsX5_takeOut wsX5_value := goodIn_r _ [15, 16, 21, 22, 23] (by decide +kernel) (by decide +kernel)
set_option maxRecDepth 20000 in
theorem gX5_takeOut_X5_value : GoodIn wsX5_takeOut (wsV RX5 38 RX5 yX5_value wsX5_value) := goodIn_app (goodIn_of _ (by decide +kernel)) ggX5_takeOut_X5_value
set_option maxRecDepth 20000 in
theorem ggX5_takeOut_X5_put : GoodIn wsX5_takeOut wsX5_put := goodIn_r _ [20, 11, 16, 21, 22, 23] (by decide +kernel) (by decide +kernel)
set_option maxRecDepth 20000 in
theorem gX5_takeOut_X5_put : GoodIn wsX5_takeOut (wsV RX5 26 RX5 yX5_put wsX5_put) := goodIn_app (goodIn_of _ (by decide +kernel)) ggX5_takeOut_X5_put
theorem dX5_takeOut_0 : decode cX5_takeOut 0 = .ok (.aload_n 0, 1) := by decide +kernel
theorem dX5_takeOut_1 : decode cX5_takeOut 1 = .ok (.iload_n 1, 1) := by decide +kernel
theorem dX5_takeOut_2 : decode cX5_takeOut 2 = .ok (.invokevirtual 30, 3) := by decide +kernel
theorem dX5_takeOut_5 : decode cX5_takeOut 5 = .ok (.ifCond .ne 4, 3) := by decide +kernel
theorem dX5_takeOut_8 : decode cX5_takeOut 8 = .ok (.return_, 1) := by decide +kernel
theorem dX5_takeOut_9 : decode cX5_takeOut 9 = .ok (.iload_n 1, 1) := by decide +kernel
theorem dX5_takeOut_10 : decode cX5_takeOut 10 = .ok (.istore_n 2, 1) := by decide +kernel
theorem dX5_takeOut_11 : decode cX5_takeOut 11 = .ok (.iload_n 2, 1) := by decide +kernel
theorem dX5_takeOut_12 : decode cX5_takeOut 12 = .ok (.aload_n 0, 1) := by decide +kernel
theorem dX5_takeOut_13 : decode cX5_takeOut 13 = .ok (.getfield 22, 3) := by decide +kernel
theorem dX5_takeOut_16 : decode cX5_takeOut 16 = .ok (.iconst 1, 1) := by decide +kernel
theorem dX5_takeOut_17 : decode cX5_takeOut 17 = .ok (.isub, 1) := by decide +kernel
theorem dX5_takeOut_18 : decode cX5_takeOut 18 = .ok (.if_icmp .ge 28, 3) := by decide +kernel
theorem dX5_takeOut_21 : decode cX5_takeOut 21 = .ok (.aload_n 0, 1) := by decide +kernel
theorem dX5_takeOut_22 : decode cX5_takeOut 22 = .ok (.iload_n 2, 1) := by decide +kernel
theorem dX5_takeOut_23 : decode cX5_takeOut 23 = .ok (.aload_n 0, 1) := by decide +kernel
theorem dX5_takeOut_24 : decode cX5_takeOut 24 = .ok (.iload_n 2, 1) := by decide +kernel
theorem dX5_takeOut_25 : decode cX5_takeOut 25 = .ok (.iconst 1, 1) := by decide +kernel
theorem dX5_takeOut_26 : decode cX5_takeOut 26 = .ok (.iadd, 1) := by decide +kernel
theorem dX5_takeOut_27 : decode cX5_takeOut 27 = .ok (.invokevirtual 34, 3) := by decide +kernel
theorem dX5_takeOut_30 : decode cX5_takeOut 30 = .ok (.aload_n 0, 1) := by decide +kernel
theorem dX5_takeOut_31 : decode cX5_takeOut 31 = .ok (.iload_n 2, 1) := by decide +kernel
theorem dX5_takeOut_32 : decode cX5_takeOut 32 = .ok (.iconst 1, 1) := by decide +kernel
theorem dX5_takeOut_33 : decode cX5_takeOut 33 = .ok (.iadd, 1) := by decide +kernel
theorem dX5_takeOut_34 : decode cX5_takeOut 34 = .ok (.invokevirtual 38, 3) := by decide +kernel
theorem dX5_takeOut_37 : decode cX5_takeOut 37 = .ok (.invokevirtual 26, 3) := by decide +kernel
theorem dX5_takeOut_40 : decode cX5_takeOut 40 = .ok (.iinc 2 1, 3) := by decide +kernel
theorem dX5_takeOut_43 : decode cX5_takeOut 43 = .ok (.goto (-32), 3) := by decide +kernel
theorem dX5_takeOut_46 : decode cX5_takeOut 46 = .ok (.aload_n 0, 1) := by decide +kernel
theorem dX5_takeOut_47 : decode cX5_takeOut 47 = .ok (.dup, 1) := by decide +kernel
theorem dX5_takeOut_48 : decode cX5_takeOut 48 = .ok (.getfield 22, 3) := by decide +kernel
theorem dX5_takeOut_51 : decode cX5_takeOut 51 = .ok (.iconst 1, 1) := by decide +kernel
theorem dX5_takeOut_52 : decode cX5_takeOut 52 = .ok (.isub, 1) := by decide +kernel
theorem dX5_takeOut_53 : decode cX5_takeOut 53 = .ok (.putfield 22, 3) := by decide +kernel
theorem dX5_takeOut_56 : decode cX5_takeOut 56 = .ok (.return_, 1) := by decide +kernel
set_option maxRecDepth 20000 in
theorem ggX6_init_X4_init : GoodIn wsX6_init wsX4_init := goodIn_r _ [20, 21, 2, 3, 22, 23, 24, 25, 26, 27, 28, 29, 30, 31, 32, 33, 34, 35, 36, 37, 38, 39, 40, 41, 42, 43, 44, 45, 46, 47, 48, 49, 50, 51, 52, 53, 54, 55, 56, 57, 58, 59, 60, 61, 62, 63, 64, 106, 107, 108, 77, 78, 79, 80, 81, 82, 83, 84, 109, 110, 111, 112, 113, 114, 115] (by decide +kernel) (by decide +kernel)
set_option maxRecDepth 20000 in
theorem gX6_init_X4_init : GoodIn wsX6_init (wsX4_init) := ggX6_init_X4_init
set_option maxRecDepth 20000 in
theorem ggX6_init_X1_init : GoodIn wsX6_init wsX1_init := goodIn_r _ [67, 68, 2, 3, 69, 70, 5, 6, 71, 19, 20, 21, 22, 23, 24, 25, 26, 27, 28, 29, 30, 31, 32, 33, 34, 35, 36, 37, 38, 39, 40, 41, 42, 43, 44, 45, 46, 47, 48, 49, 50, 51, 52, 53, 54, 55, 56, 57, 58, 59, 60, 61, 62, 63, 64, 94, 95, 96, 77, 78, 79, 80, 81, 82, 83, 84, 106, 107, 108, 109, 110, 111, 112, 113, 114, 115] (by decide +kernel) (by decide +kernel)
set_option maxRecDepth 20000 in
theorem gX6_init_X1_init : GoodIn wsX6_init (wsX1_init) := ggX6_init_X1_init
set_option maxRecDepth 20000 in
theorem ggX6_init_X3_init : GoodIn wsX6_init wsX3_init := goodIn_r _ [74, 75, 2, 3, 43, 76, 97, 98, 99, 100, 101, 102, 103, 104, 105] (by decide +kernel) (by decide +kernel)
set_option maxRecDepth 20000 in
theorem gX6_init_X3_init : GoodIn wsX6_init (wsX3_init) := ggX6_init_X3_init
theorem dX6_init_0 : decode cX6_init 0 = .ok (.aload_n 0, 1) := by decide +kernel
theorem dX6_init_1 : decode cX6_init 1 = .ok (.invokespecial 1, 3) := by decide +kernel
theorem dX6_init_4 : decode cX6_init 4 = .ok (.aload_n 0, 1) := by decide +kernel
theorem dX6_init_5 : decode cX6_init 5 = .ok (.new 7, 3) := by decide +kernel
theorem dX6_init_8 : decode cX6_init 8 = .ok (.dup, 1) := by decide +kernel
theorem dX6_init_9 : decode cX6_init 9 = .ok (.invokespecial 9, 3) := by decide +kernel
theorem dX6_init_12 : decode cX6_init 12 = .ok (.putfield 10, 3) := by decide +kernel
theorem dX6_init_15 : decode cX6_init 15 = .ok (.aload_n 0, 1) := by decide +kernel
theorem dX6_init_16 : decode cX6_init 16 = .ok (.new 7, 3) := by decide +kernel
theorem dX6_init_19 : decode cX6_init 19 = .ok (.dup, 1) := by decide +kernel
theorem dX6_init_20 : decode cX6_init 20 = .ok (.invokespecial 9, 3) := by decide +kernel
theorem dX6_init_23 : decode cX6_init 23 = .ok (.putfield 16, 3) := by decide +kernel
theorem dX6_init_26 : decode cX6_init 26 = .ok (.aload_n 0, 1) := by decide +kernel
theorem dX6_init_27 : decode cX6_init 27 = .ok (.new 7, 3) := by decide +kernel
theorem dX6_init_30 : decode cX6_init 30 = .ok (.dup, 1) := by decide +kernel
theorem dX6_init_31 : decode cX6_init 31 = .ok (.invokespecial 9, 3) := by decide +kernel
theorem dX6_init_34 : decode cX6_init 34 = .ok (.putfield 19, 3) := by decide +kernel
theorem dX6_init_37 : decode cX6_init 37 = .ok (.aload_n 0, 1) := by decide +kernel
theorem dX6_init_38 : decode cX6_init 38 = .ok (.new 22, 3) := by decide +kernel
theorem dX6_init_41 : decode cX6_init 41 = .ok (.dup, 1) := by decide +kernel
theorem dX6_init_42 : decode cX6_init 42 = .ok (.invokespecial 24, 3) := by decide +kernel
theorem dX6_init_45 : decode cX6_init 45 = .ok (.putfield 25, 3) := by decide +kernel
theorem dX6_init_48 : decode cX6_init 48 = .ok (.aload_n 0, 1) := by decide +kernel
theorem dX6_init_49 : decode cX6_init 49 = .ok (.new 29, 3) := by decide +kernel
theorem dX6_init_52 : decode cX6_init 52 = .ok (.dup, 1) := by decide +kernel
theorem dX6_init_53 : decode cX6_init 53 = .ok (.invokespecial 31, 3) := by decide +kernel
theorem dX6_init_56 : decode cX6_init 56 = .ok (.putfield 32, 3) := by decide +kernel
theorem dX6_init_59 : decode cX6_init 59 = .ok (.return_, 1) := by decide +kernel
set_option maxRecDepth 20000 in
theorem ggX6_add_X1_prepare : GoodIn wsX6_add wsX1_prepare := goodIn_r _ [7, 8, 9, 10, 11, 6, 12, 13, 14, 15, 16, 17, 18, 19, 20, 21, 22, 23, 24, 25, 26, 27, 28, 29, 30, 31, 32, 33, 34, 35, 36, 37, 38, 39, 40, 41, 42, 43, 44, 45, 46, 47, 48, 49, 50, 51, 52, 53, 54, 55, 56, 57, 58, 59, 60, 61, 62, 151, 152, 153, 154, 155, 156, 157, 158, 159, 160, 161, 162, 163, 164, 165, 166, 167, 168, 169, 170, 171] (by decide +kernel) (by decide +kernel)
set_option maxRecDepth 20000 in
theorem gX6_add_X1_prepare : GoodIn wsX6_add (wsV RX6 36 RX1 yX1_prepare wsX1_prepare) := goodIn_app (goodIn_of _ (by decide +kernel)) ggX6_add_X1_prepare
set_option maxRecDepth 20000 in
theorem ggX6_add_X4_insertRow : GoodIn wsX6_add wsX4_insertRow := goodIn_r _ [66, 67, 36, 68, 69, 70, 71, 72, 73, 74, 75, 76, 77, 17, 78, 20, 19, 79, 80, 81, 30, 82, 34, 83, 84, 85, 86, 87, 88, 89, 90, 32, 33, 91, 92, 93, 94, 23, 95, 96, 97, 98, 21, 99, 100, 101, 49, 102, 51, 52, 53, 103, 104, 105, 106, 107, 108, 109, 110, 111, 112, 113, 114, 115, 22, 24, 116, 117, 118, 57, 119, 59, 120, 121, 122, 123, 124, 125, 126, 127, 128, 129, 130, 131, 132, 133, 134, 135, 154, 155, 156, 157, 158, 159, 160, 161, 162, 163, 164, 165, 166, 167, 168, 169, 170, 171] (by decide +kernel) (by decide +kernel)
set_option maxRecDepth 20000 in
theorem gX6_add_X4_insertRow : GoodIn wsX6_add (wsV RX6 40 RX4 yX4_insertRow wsX4_insertRow) := goodIn_app (goodIn_of _ (by decide +kernel)) ggX6_add_X4_insertRow
set_option maxRecDepth 20000 in
theorem ggX6_add_X1_commit : GoodIn wsX6_add wsX1_commit := goodIn_r _ [139, 8, 140, 141, 39, 40, 41, 151, 152, 153] (by decide +kernel) (by decide +kernel)
set_option maxRecDepth 20000 in
theorem gX6_add_X1_commit : GoodIn wsX6_add (wsV RX6 44 RX1 yX1_commit wsX1_commit) := goodIn_app (goodIn_of _ (by decide +kernel)) ggX6_add_X1_commit
theorem dX6_add_0 : decode cX6_add 0 = .ok (.aload_n 0, 1) := by decide +kernel
theorem dX6_add_1 : decode cX6_add 1 = .ok (.getfield 25, 3) := by decide +kernel
theorem dX6_add_4 : decode cX6_add 4 = .ok (.aload_n 0, 1) := by decide +kernel
theorem dX6_add_5 : decode cX6_add 5 = .ok (.getfield 10, 3) := by decide +kernel
theorem dX6_add_8 : decode cX6_add 8 = .ok (.invokevirtual 36, 3) := by decide +kernel
theorem dX6_add_11 : decode cX6_add 11 = .ok (.aload_n 0, 1) := by decide +kernel
theorem dX6_add_12 : decode cX6_add 12 = .ok (.getfield 25, 3) := by decide +kernel
theorem dX6_add_15 : decode cX6_add 15 = .ok (.aload_n 0, 1) := by decide +kernel
theorem dX6_add_16 : decode cX6_add 16 = .ok (.getfield 10, 3) := by decide +kernel
theorem dX6_add_19 : decode cX6_add 19 = .ok (.iload_n 1, 1) := by decide +kernel
theorem dX6_add_20 : decode cX6_add 20 = .ok (.iload_n 2, 1) := by decide +kernel
theorem dX6_add_21 : decode cX6_add 21 = .ok (.iload_n 3, 1) := by decide +kernel
theorem dX6_add_22 : decode cX6_add 22 = .ok (.invokevirtual 40, 3) := by decide +kernel
theorem dX6_add_25 : decode cX6_add 25 = .ok (.invokevirtual 44, 3) := by decide +kernel
theorem dX6_add_28 : decode cX6_add 28 = .ok (.ireturn, 1) := by decide +kernel
set_option maxRecDepth 20000 in
theorem ggX6_drop_X1_prepare : GoodIn wsX6_drop wsX1_prepare := goodIn_r _ [7, 8, 9, 10, 11, 6, 12, 13, 14, 15, 16, 17, 18, 19, 20, 21, 22, 23, 24, 25, 26, 27, 28, 29, 30, 31, 32, 33, 34, 35, 36, 37, 38, 39, 40, 41, 42, 43, 44, 45, 46, 47, 48, 49, 50, 51, 52, 53, 54, 55, 56, 57, 58, 59, 60, 61, 62, 155, 156, 157, 158, 159, 160, 161, 162, 163, 164, 165, 166, 167, 168, 169, 170, 171, 172, 173, 174, 175] (by decide +kernel) (by decide +kernel)
set_option maxRecDepth 20000 in
theorem gX6_drop_X1_prepare : GoodIn wsX6_drop (wsV RX6 36 RX1 yX1_prepare wsX1_prepare) := goodIn_app (goodIn_of _ (by decide +kernel)) ggX6_drop_X1_prepare
set_option maxRecDepth 20000 in
theorem ggX6_drop_X4_removeRow : GoodIn wsX6_drop wsX4_removeRow := goodIn_r _ [66, 25, 67, 68, 69, 17, 70, 20, 19, 71, 72, 73, 30, 74, 34, 75, 76, 77, 78, 32, 79, 80, 81, 82, 83, 84, 85, 86, 87, 88, 33, 89, 90, 91, 92, 93, 94, 95, 96, 23, 97, 98, 99, 100, 21, 101, 102, 103, 49, 104, 51, 52, 53, 105, 106, 107, 108, 109, 110, 111, 112, 113, 114, 22, 24, 115, 116, 117, 57, 118, 59, 119, 120, 121, 122, 123, 124, 125, 126, 127, 128, 129, 130, 131, 132, 133, 134, 135, 136, 137, 138, 139, 158, 159, 160, 161, 162, 163, 164, 165, 166, 167, 168, 169, 170, 171, 172, 173, 174, 175] (by decide +kernel) (by decide +kernel)
set_option maxRecDepth 20000 in
theorem gX6_drop_X4_removeRow : GoodIn wsX6_drop (wsV RX6 48 RX4 yX4_removeRow wsX4_removeRow) := goodIn_app (goodIn_of _ (by decide +kernel)) ggX6_drop_X4_removeRow
set_option maxRecDepth 20000 in
theorem ggX6_drop_X1_commit : GoodIn wsX6_drop wsX1_commit := goodIn_r _ [143, 8, 144, 145, 39, 40, 41, 155, 156, 157] (by decide +kernel) (by decide +kernel)
set_option maxRecDepth 20000 in
theorem gX6_drop_X1_commit : GoodIn wsX6_drop (wsV RX6 44 RX1 yX1_commit wsX1_commit) := goodIn_app (goodIn_of _ (by decide +kernel)) ggX6_drop_X1_commit
theorem dX6_drop_0 : decode cX6_drop 0 = .ok (.aload_n 0, 1) := by decide +kernel
theorem dX6_drop_1 : decode cX6_drop 1 = .ok (.getfield 25, 3) := by decide +kernel
theorem dX6_drop_4 : decode cX6_drop 4 = .ok (.aload_n 0, 1) := by decide +kernel
theorem dX6_drop_5 : decode cX6_drop 5 = .ok (.getfield 10, 3) := by decide +kernel
theorem dX6_drop_8 : decode cX6_drop 8 = .ok (.invokevirtual 36, 3) := by decide +kernel
theorem dX6_drop_11 : decode cX6_drop 11 = .ok (.aload_n 0, 1) := by decide +kernel
theorem dX6_drop_12 : decode cX6_drop 12 = .ok (.getfield 25, 3) := by decide +kernel
theorem dX6_drop_15 : decode cX6_drop 15 = .ok (.aload_n 0, 1) := by decide +kernel
theorem dX6_drop_16 : decode cX6_drop 16 = .ok (.getfield 10, 3) := by decide +kernel
theorem dX6_drop_19 : decode cX6_drop 19 = .ok (.iload_n 1, 1) := by decide +kernel
theorem dX6_drop_20 : decode cX6_drop 20 = .ok (.iload_n 2, 1) := by decide +kernel
theorem dX6_drop_21 : decode cX6_drop 21 = .ok (.invokevirtual 48, 3) := by decide +kernel
theorem dX6_drop_24 : decode cX6_drop 24 = .ok (.invokevirtual 44, 3) := by decide +kernel
theorem dX6_drop_27 : decode cX6_drop 27 = .ok (.ireturn, 1) := by decide +kernel
set_option maxRecDepth 20000 in
theorem ggX6_change_X1_prepare : GoodIn wsX6_change wsX1_prepare := goodIn_r _ [7, 8, 9, 10, 11, 6, 12, 13, 14, 15, 16, 17, 18, 19, 20, 21, 22, 23, 24, 25, 26, 27, 28, 29, 30, 31, 32, 33, 34, 35, 36, 37, 38, 39, 40, 41, 42, 43, 44, 45, 46, 47, 48, 49, 50, 51, 52, 53, 54, 55, 56, 57, 58, 59, 60, 61, 62, 148, 149, 150, 151, 152, 153, 154, 155, 156, 157, 158, 159, 160, 161, 162, 163, 164, 165, 166, 167, 168] (by decide +kernel) (by decide +kernel)
set_option maxRecDepth 20000 in
theorem gX6_change_X1_prepare : GoodIn wsX6_change (wsV RX6 36 RX1 yX1_prepare wsX1_prepare) := goodIn_app (goodIn_of _ (by decide +kernel)) ggX6_change_X1_prepare
set_option maxRecDepth 20000 in
theorem ggX6_change_X4_rewriteRow : GoodIn wsX6_change wsX4_rewriteRow := goodIn_r _ [66, 20, 22, 67, 68, 69, 30, 70, 34, 71, 36, 72, 73, 74, 75, 76, 77, 78, 79, 80, 81, 82, 32, 83, 84, 85, 86, 33, 87, 88, 89, 17, 90, 23, 91, 92, 93, 94, 21, 95, 96, 97, 49, 98, 51, 52, 53, 99, 100, 101, 102, 103, 104, 105, 106, 107, 108, 109, 110, 111, 24, 112, 113, 114, 57, 115, 59, 116, 117, 118, 119, 120, 121, 122, 123, 124, 125, 126, 127, 128, 129, 130, 131, 132, 151, 152, 153, 154, 155, 156, 157, 158, 159, 160, 161, 162, 163, 164, 165, 166, 167, 168] (by decide +kernel) (by decide +kernel)
set_option maxRecDepth 20000 in
theorem gX6_change_X4_rewriteRow : GoodIn wsX6_change (wsV RX6 52 RX4 yX4_rewriteRow wsX4_rewriteRow) := goodIn_app (goodIn_of _ (by decide +kernel)) ggX6_change_X4_rewriteRow
set_option maxRecDepth 20000 in
theorem ggX6_change_X1_commit : GoodIn wsX6_change wsX1_commit := goodIn_r _ [136, 8, 137, 138, 39, 40, 41, 148, 149, 150] (by decide +kernel) (by decide +kernel)
set_option maxRecDepth 20000 in
theorem gX6_change_X1_commit : GoodIn wsX6_change (wsV RX6 44 RX1 yX1_commit wsX1_commit) := goodIn_app (goodIn_of _ (by decide +kernel)) ggX6_change_X1_commit
theorem dX6_change_0 : decode cX6_change 0 = .ok (.aload_n 0, 1) := by decide +kernel
theorem dX6_change_1 : decode cX6_change 1 = .ok (.getfield 25, 3) := by decide +kernel
theorem dX6_change_4 : decode cX6_change 4 = .ok (.aload_n 0, 1) := by decide +kernel
theorem dX6_change_5 : decode cX6_change 5 = .ok (.getfield 10, 3) := by decide +kernel
theorem dX6_change_8 : decode cX6_change 8 = .ok (.invokevirtual 36, 3) := by decide +kernel
theorem dX6_change_11 : decode cX6_change 11 = .ok (.aload_n 0, 1) := by decide +kernel
theorem dX6_change_12 : decode cX6_change 12 = .ok (.getfield 25, 3) := by decide +kernel
theorem dX6_change_15 : decode cX6_change 15 = .ok (.aload_n 0, 1) := by decide +kernel
theorem dX6_change_16 : decode cX6_change 16 = .ok (.getfield 10, 3) := by decide +kernel
theorem dX6_change_19 : decode cX6_change 19 = .ok (.iload_n 1, 1) := by decide +kernel
theorem dX6_change_20 : decode cX6_change 20 = .ok (.iload_n 2, 1) := by decide +kernel
theorem dX6_change_21 : decode cX6_change 21 = .ok (.iload_n 3, 1) := by decide +kernel
theorem dX6_change_22 : decode cX6_change 22 = .ok (.invokevirtual 52, 3) := by decide +kernel
theorem dX6_change_25 : decode cX6_change 25 = .ok (.invokevirtual 44, 3) := by decide +kernel
theorem dX6_change_28 : decode cX6_change 28 = .ok (.ireturn, 1) := by decide +kernel
set_option maxRecDepth 20000 in
theorem ggX6_step_X1_prepare : GoodIn wsX6_step wsX1_prepare := goodIn_r _ [7, 8, 9, 10, 11, 6, 12, 13, 14, 15, 16, 17, 18, 19, 20, 21, 22, 23, 24, 25, 26, 27, 28, 29, 30, 31, 32, 33, 34, 35, 36, 37, 38, 39, 40, 41, 42, 43, 44, 45, 46, 47, 48, 49, 50, 51, 52, 53, 54, 55, 56, 57, 58, 59, 60, 61, 62, 138, 139, 140, 141, 142, 143, 144, 145, 146, 147, 148, 149, 150, 151, 152, 153, 154, 155, 156, 157, 158] (by decide +kernel) (by decide +kernel)
set_option maxRecDepth 20000 in
theorem gX6_step_X1_prepare : GoodIn wsX6_step (wsV RX6 36 RX1 yX1_prepare wsX1_prepare) := goodIn_app (goodIn_of _ (by decide +kernel)) ggX6_step_X1_prepare
set_option maxRecDepth 20000 in
theorem ggX6_step_X4_walk : GoodIn wsX6_step wsX4_walk := goodIn_r _ [66, 25, 19, 24, 26, 21, 67, 68, 69, 30, 70, 34, 71, 72, 73, 74, 32, 75, 76, 77, 17, 78, 22, 20, 23, 79, 80, 81, 57, 82, 59, 83, 84, 85, 86, 62, 60, 87, 88, 89, 49, 90, 51, 91, 92, 93, 94, 61, 95, 96, 97, 98, 99, 100, 101, 102, 103, 104, 105, 106, 107, 108, 109, 110, 111, 112, 113, 114, 115, 116, 117, 118, 33, 119, 120, 121, 122, 52, 141, 142, 143, 144, 145, 146, 147, 148, 149, 150, 151, 155, 156, 157, 158, 152, 153, 154] (by decide +kernel) (by decide +kernel)
set_option maxRecDepth 20000 in
theorem gX6_step_X4_walk : GoodIn wsX6_step (wsV RX6 56 RX4 yX4_walk wsX4_walk) := goodIn_app (goodIn_of _ (by decide +kernel)) ggX6_step_X4_walk
set_option maxRecDepth 20000 in
theorem ggX6_step_X1_commit : GoodIn wsX6_step wsX1_commit := goodIn_r _ [126, 8, 127, 128, 39, 40, 41, 138, 139, 140] (by decide +kernel) (by decide +kernel)
set_option maxRecDepth 20000 in
theorem gX6_step_X1_commit : GoodIn wsX6_step (wsV RX6 44 RX1 yX1_commit wsX1_commit) := goodIn_app (goodIn_of _ (by decide +kernel)) ggX6_step_X1_commit
theorem dX6_step_0 : decode cX6_step 0 = .ok (.aload_n 0, 1) := by decide +kernel
theorem dX6_step_1 : decode cX6_step 1 = .ok (.getfield 25, 3) := by decide +kernel
theorem dX6_step_4 : decode cX6_step 4 = .ok (.aload_n 0, 1) := by decide +kernel
theorem dX6_step_5 : decode cX6_step 5 = .ok (.getfield 10, 3) := by decide +kernel
theorem dX6_step_8 : decode cX6_step 8 = .ok (.invokevirtual 36, 3) := by decide +kernel
theorem dX6_step_11 : decode cX6_step 11 = .ok (.aload_n 0, 1) := by decide +kernel
theorem dX6_step_12 : decode cX6_step 12 = .ok (.getfield 25, 3) := by decide +kernel
theorem dX6_step_15 : decode cX6_step 15 = .ok (.aload_n 0, 1) := by decide +kernel
theorem dX6_step_16 : decode cX6_step 16 = .ok (.getfield 10, 3) := by decide +kernel
theorem dX6_step_19 : decode cX6_step 19 = .ok (.iload_n 1, 1) := by decide +kernel
theorem dX6_step_20 : decode cX6_step 20 = .ok (.invokevirtual 56, 3) := by decide +kernel
theorem dX6_step_23 : decode cX6_step 23 = .ok (.invokevirtual 44, 3) := by decide +kernel
theorem dX6_step_26 : decode cX6_step 26 = .ok (.ireturn, 1) := by decide +kernel
set_option maxRecDepth 20000 in
theorem ggX6_again_X1_prepare : GoodIn wsX6_again wsX1_prepare := goodIn_r _ [7, 8, 9, 10, 11, 6, 12, 13, 14, 15, 16, 17, 18, 19, 20, 21, 22, 23, 24, 25, 26, 27, 28, 29, 30, 31, 32, 33, 34, 35, 36, 37, 38, 39, 40, 41, 42, 43, 44, 45, 46, 47, 48, 49, 50, 51, 52, 53, 54, 55, 56, 57, 58, 59, 60, 61, 62, 82, 83, 84, 85, 86, 87, 88, 89, 90, 91, 92, 93, 94, 95, 96, 97, 98, 99, 100, 101, 102] (by decide +kernel) (by decide +kernel)
set_option maxRecDepth 20000 in
theorem gX6_again_X1_prepare : GoodIn wsX6_again (wsV RX6 36 RX1 yX1_prepare wsX1_prepare) := goodIn_app (goodIn_of _ (by decide +kernel)) ggX6_again_X1_prepare
set_option maxRecDepth 20000 in
theorem ggX6_again_X4_beginAgain : GoodIn wsX6_again wsX4_beginAgain := goodIn_r _ [66, 26, 25, 85, 86, 87, 88, 89, 90, 91, 92] (by decide +kernel) (by decide +kernel)
set_option maxRecDepth 20000 in
theorem gX6_again_X4_beginAgain : GoodIn wsX6_again (wsV RX6 59 RX4 yX4_beginAgain wsX4_beginAgain) := goodIn_app (goodIn_of _ (by decide +kernel)) ggX6_again_X4_beginAgain
set_option maxRecDepth 20000 in
theorem ggX6_again_X1_commit : GoodIn wsX6_again wsX1_commit := goodIn_r _ [70, 8, 71, 72, 39, 40, 41, 82, 83, 84] (by decide +kernel) (by decide +kernel)
set_option maxRecDepth 20000 in
theorem gX6_again_X1_commit : GoodIn wsX6_again (wsV RX6 44 RX1 yX1_commit wsX1_commit) := goodIn_app (goodIn_of _ (by decide +kernel)) ggX6_again_X1_commit
theorem dX6_again_0 : decode cX6_again 0 = .ok (.aload_n 0, 1) := by decide +kernel
theorem dX6_again_1 : decode cX6_again 1 = .ok (.getfield 25, 3) := by decide +kernel
theorem dX6_again_4 : decode cX6_again 4 = .ok (.aload_n 0, 1) := by decide +kernel
theorem dX6_again_5 : decode cX6_again 5 = .ok (.getfield 10, 3) := by decide +kernel
theorem dX6_again_8 : decode cX6_again 8 = .ok (.invokevirtual 36, 3) := by decide +kernel
theorem dX6_again_11 : decode cX6_again 11 = .ok (.aload_n 0, 1) := by decide +kernel
theorem dX6_again_12 : decode cX6_again 12 = .ok (.getfield 25, 3) := by decide +kernel
theorem dX6_again_15 : decode cX6_again 15 = .ok (.aload_n 0, 1) := by decide +kernel
theorem dX6_again_16 : decode cX6_again 16 = .ok (.getfield 10, 3) := by decide +kernel
theorem dX6_again_19 : decode cX6_again 19 = .ok (.invokevirtual 59, 3) := by decide +kernel
theorem dX6_again_22 : decode cX6_again 22 = .ok (.invokevirtual 44, 3) := by decide +kernel
theorem dX6_again_25 : decode cX6_again 25 = .ok (.ireturn, 1) := by decide +kernel
set_option maxRecDepth 20000 in
theorem ggX6_forget_X1_prepare : GoodIn wsX6_forget wsX1_prepare := goodIn_r _ [7, 8, 9, 10, 11, 6, 12, 13, 14, 15, 16, 17, 18, 19, 20, 21, 22, 23, 24, 25, 26, 27, 28, 29, 30, 31, 32, 33, 34, 35, 36, 37, 38, 39, 40, 41, 42, 43, 44, 45, 46, 47, 48, 49, 50, 51, 52, 53, 54, 55, 56, 57, 58, 59, 60, 61, 62, 90, 91, 92, 93, 94, 95, 96, 97, 98, 99, 100, 101, 102, 103, 104, 105, 106, 107, 108, 109, 110] (by decide +kernel) (by decide +kernel)
set_option maxRecDepth 20000 in
theorem gX6_forget_X1_prepare : GoodIn wsX6_forget (wsV RX6 36 RX1 yX1_prepare wsX1_prepare) := goodIn_app (goodIn_of _ (by decide +kernel)) ggX6_forget_X1_prepare
set_option maxRecDepth 20000 in
theorem ggX6_forget_X4_throwAllOut : GoodIn wsX6_forget wsX4_throwAllOut := goodIn_r _ [66, 22, 24, 67, 68, 69, 57, 70, 59, 71, 72, 73, 74, 93, 94, 95, 96, 97, 98, 99, 100, 107, 108, 109, 110] (by decide +kernel) (by decide +kernel)
set_option maxRecDepth 20000 in
theorem gX6_forget_X4_throwAllOut : GoodIn wsX6_forget (wsV RX6 63 RX4 yX4_throwAllOut wsX4_throwAllOut) := goodIn_app (goodIn_of _ (by decide +kernel)) ggX6_forget_X4_throwAllOut
set_option maxRecDepth 20000 in
theorem ggX6_forget_X1_commit : GoodIn wsX6_forget wsX1_commit := goodIn_r _ [78, 8, 79, 80, 39, 40, 41, 90, 91, 92] (by decide +kernel) (by decide +kernel)
set_option maxRecDepth 20000 in
theorem gX6_forget_X1_commit : GoodIn wsX6_forget (wsV RX6 44 RX1 yX1_commit wsX1_commit) := goodIn_app (goodIn_of _ (by decide +kernel)) ggX6_forget_X1_commit
theorem dX6_forget_0 : decode cX6_forget 0 = .ok (.aload_n 0, 1) := by decide +kernel
theorem dX6_forget_1 : decode cX6_forget 1 = .ok (.getfield 25, 3) := by decide +kernel
theorem dX6_forget_4 : decode cX6_forget 4 = .ok (.aload_n 0, 1) := by decide +kernel
theorem dX6_forget_5 : decode cX6_forget 5 = .ok (.getfield 10, 3) := by decide +kernel
theorem dX6_forget_8 : decode cX6_forget 8 = .ok (.invokevirtual 36, 3) := by decide +kernel
theorem dX6_forget_11 : decode cX6_forget 11 = .ok (.aload_n 0, 1) := by decide +kernel
theorem dX6_forget_12 : decode cX6_forget 12 = .ok (.getfield 25, 3) := by decide +kernel
theorem dX6_forget_15 : decode cX6_forget 15 = .ok (.aload_n 0, 1) := by decide +kernel
theorem dX6_forget_16 : decode cX6_forget 16 = .ok (.getfield 10, 3) := by decide +kernel
theorem dX6_forget_19 : decode cX6_forget 19 = .ok (.invokevirtual 63, 3) := by decide +kernel
theorem dX6_forget_22 : decode cX6_forget 22 = .ok (.invokevirtual 44, 3) := by decide +kernel
theorem dX6_forget_25 : decode cX6_forget 25 = .ok (.ireturn, 1) := by decide +kernel
set_option maxRecDepth 20000 in
theorem ggX6_set_X1_prepare : GoodIn wsX6_set wsX1_prepare := goodIn_r _ [7, 8, 9, 10, 11, 6, 12, 13, 14, 15, 16, 17, 18, 19, 20, 21, 22, 23, 24, 25, 26, 27, 28, 29, 30, 31, 32, 33, 34, 35, 36, 37, 38, 39, 40, 41, 42, 43, 44, 45, 46, 47, 48, 49, 50, 51, 52, 53, 54, 55, 56, 57, 58, 59, 60, 61, 62, 143, 144, 145, 146, 147, 148, 149, 150, 151, 152, 153, 154, 155, 156, 157, 158, 159, 160, 161, 162, 163] (by decide +kernel) (by decide +kernel)
set_option maxRecDepth 20000 in
theorem gX6_set_X1_prepare : GoodIn wsX6_set (wsV RX6 36 RX1 yX1_prepare wsX1_prepare) := goodIn_app (goodIn_of _ (by decide +kernel)) ggX6_set_X1_prepare
set_option maxRecDepth 20000 in
theorem ggX6_set_X4_adjust : GoodIn wsX6_set wsX4_adjust := goodIn_r _ [66, 67, 23, 68, 69, 70, 17, 71, 22, 21, 24, 72, 73, 74, 75, 76, 77, 78, 57, 79, 59, 80, 81, 82, 49, 83, 51, 84, 85, 86, 87, 88, 89, 90, 91, 61, 60, 92, 93, 94, 95, 96, 97, 98, 99, 20, 100, 101, 102, 103, 52, 53, 104, 105, 106, 30, 107, 34, 108, 109, 110, 111, 33, 112, 113, 114, 115, 32, 116, 117, 118, 119, 120, 121, 122, 123, 124, 125, 126, 127, 146, 147, 148, 149, 150, 151, 152, 153, 160, 161, 162, 163, 157, 158, 159, 154, 155, 156] (by decide +kernel) (by decide +kernel)
set_option maxRecDepth 20000 in
theorem gX6_set_X4_adjust : GoodIn wsX6_set (wsV RX6 66 RX4 yX4_adjust wsX4_adjust) := goodIn_app (goodIn_of _ (by decide +kernel)) ggX6_set_X4_adjust
set_option maxRecDepth 20000 in
theorem ggX6_set_X1_commit : GoodIn wsX6_set wsX1_commit := goodIn_r _ [131, 8, 132, 133, 39, 40, 41, 143, 144, 145] (by decide +kernel) (by decide +kernel)
set_option maxRecDepth 20000 in
theorem gX6_set_X1_commit : GoodIn wsX6_set (wsV RX6 44 RX1 yX1_commit wsX1_commit) := goodIn_app (goodIn_of _ (by decide +kernel)) ggX6_set_X1_commit
theorem dX6_set_0 : decode cX6_set 0 = .ok (.aload_n 0, 1) := by decide +kernel
theorem dX6_set_1 : decode cX6_set 1 = .ok (.getfield 25, 3) := by decide +kernel
theorem dX6_set_4 : decode cX6_set 4 = .ok (.aload_n 0, 1) := by decide +kernel
theorem dX6_set_5 : decode cX6_set 5 = .ok (.getfield 10, 3) := by decide +kernel
theorem dX6_set_8 : decode cX6_set 8 = .ok (.invokevirtual 36, 3) := by decide +kernel
theorem dX6_set_11 : decode cX6_set 11 = .ok (.aload_n 0, 1) := by decide +kernel
theorem dX6_set_12 : decode cX6_set 12 = .ok (.getfield 25, 3) := by decide +kernel
theorem dX6_set_15 : decode cX6_set 15 = .ok (.aload_n 0, 1) := by decide +kernel
theorem dX6_set_16 : decode cX6_set 16 = .ok (.getfield 10, 3) := by decide +kernel
theorem dX6_set_19 : decode cX6_set 19 = .ok (.iload_n 1, 1) := by decide +kernel
theorem dX6_set_20 : decode cX6_set 20 = .ok (.iload_n 2, 1) := by decide +kernel
theorem dX6_set_21 : decode cX6_set 21 = .ok (.invokevirtual 66, 3) := by decide +kernel
theorem dX6_set_24 : decode cX6_set 24 = .ok (.invokevirtual 44, 3) := by decide +kernel
theorem dX6_set_27 : decode cX6_set 27 = .ok (.ireturn, 1) := by decide +kernel
set_option maxRecDepth 20000 in
theorem ggX6_row_X4_table : GoodIn wsX6_row wsX4_table := goodIn_r _ [6, 7, 8, 61, 62, 63, 64, 65, 66, 67, 68] (by decide +kernel) (by decide +kernel)
set_option maxRecDepth 20000 in
theorem gX6_row_X4_table : GoodIn wsX6_row (wsV RX6 87 RX4 yX4_table wsX4_table) := goodIn_app (goodIn_of _ (by decide +kernel)) ggX6_row_X4_table
set_option maxRecDepth 20000 in
theorem ggX6_row_X5_has : GoodIn wsX6_row wsX5_has := goodIn_r _ [13, 14, 69, 70, 71] (by decide +kernel) (by decide +kernel)
set_option maxRecDepth 20000 in
theorem gX6_row_X5_has : GoodIn wsX6_row (wsV RX6 131 RX5 yX5_has wsX5_has) := goodIn_app (goodIn_of _ (by decide +kernel)) ggX6_row_X5_has
set_option maxRecDepth 20000 in
theorem ggX6_row_X6_isWithin : GoodIn wsX6_row wsX6_isWithin := goodIn_r _ [18] (by decide +kernel) (by decide +kernel)
set_option maxRecDepth 20000 in
theorem gX6_row_X6_isWithin : GoodIn wsX6_row (va_wsS RX6 76 yX6_isWithin wsX6_isWithin) := goodIn_app (goodIn_of _ (by decide +kernel)) ggX6_row_X6_isWithin
set_option maxRecDepth 20000 in
theorem ggX6_row_X5_key : GoodIn wsX6_row wsX5_key := goodIn_r _ [22, 23, 69, 70, 71] (by decide +kernel) (by decide +kernel)
set_option maxRecDepth 20000 in
theorem gX6_row_X5_key : GoodIn wsX6_row (wsV RX6 135 RX5 yX5_key wsX5_key) := goodIn_app (goodIn_of _ (by decide +kernel)) ggX6_row_X5_key
set_option maxRecDepth 20000 in
theorem ggX6_row_X5_value : GoodIn wsX6_row wsX5_value := goodIn_r _ [27, 28, 69, 70, 71] (by decide +kernel) (by decide +kernel)
set_option maxRecDepth 20000 in
theorem gX6_row_X5_value : GoodIn wsX6_row (wsV RX6 138 RX5 yX5_value wsX5_value) := goodIn_app (goodIn_of _ (by decide +kernel)) ggX6_row_X5_value
set_option maxRecDepth 20000 in
theorem ggX6_row_X4_isInRememberedAnswer : GoodIn wsX6_row wsX4_isInRememberedAnswer := goodIn_r _ [32, 33, 7, 34, 20, 21, 12, 22, 23, 35, 36, 37, 38, 39, 40, 41, 25, 26, 27, 28, 42, 43, 44, 5, 45, 46, 61, 62, 63, 64, 65, 66, 67, 68, 69, 70, 71, 72, 73, 74, 75] (by decide +kernel) (by decide +kernel)
set_option maxRecDepth 20000 in
theorem gX6_row_X4_isInRememberedAnswer : GoodIn wsX6_row (wsV RX6 141 RX4 yX4_isInRememberedAnswer wsX4_isInRememberedAnswer) := goodIn_app (goodIn_of _ (by decide +kernel)) ggX6_row_X4_isInRememberedAnswer
set_option maxRecDepth 20000 in
theorem ggX6_row_X4_isDone : GoodIn wsX6_row wsX4_isDone := goodIn_r _ [50, 51, 61, 62, 63, 64, 65, 66, 67, 68] (by decide +kernel) (by decide +kernel)
set_option maxRecDepth 20000 in
theorem gX6_row_X4_isDone : GoodIn wsX6_row (wsV RX6 144 RX4 yX4_isDone wsX4_isDone) := goodIn_app (goodIn_of _ (by decide +kernel)) ggX6_row_X4_isDone
theorem dX6_row_0 : decode cX6_row 0 = .ok (.aload_n 0, 1) := by decide +kernel
theorem dX6_row_1 : decode cX6_row 1 = .ok (.getfield 10, 3) := by decide +kernel
theorem dX6_row_4 : decode cX6_row 4 = .ok (.iload_n 1, 1) := by decide +kernel
theorem dX6_row_5 : decode cX6_row 5 = .ok (.invokevirtual 87, 3) := by decide +kernel
theorem dX6_row_8 : decode cX6_row 8 = .ok (.astore 4, 2) := by decide +kernel
theorem dX6_row_10 : decode cX6_row 10 = .ok (.aload 4, 2) := by decide +kernel
theorem dX6_row_12 : decode cX6_row 12 = .ok (.iload_n 2, 1) := by decide +kernel
theorem dX6_row_13 : decode cX6_row 13 = .ok (.invokevirtual 131, 3) := by decide +kernel
theorem dX6_row_16 : decode cX6_row 16 = .ok (.ifCond .eq 11, 3) := by decide +kernel
theorem dX6_row_19 : decode cX6_row 19 = .ok (.iload_n 3, 1) := by decide +kernel
theorem dX6_row_20 : decode cX6_row 20 = .ok (.iconst 2, 1) := by decide +kernel
theorem dX6_row_21 : decode cX6_row 21 = .ok (.invokestatic 76, 3) := by decide +kernel
theorem dX6_row_24 : decode cX6_row 24 = .ok (.ifCond .ne 5, 3) := by decide +kernel
theorem dX6_row_27 : decode cX6_row 27 = .ok (.iconst (-1), 1) := by decide +kernel
theorem dX6_row_28 : decode cX6_row 28 = .ok (.ireturn, 1) := by decide +kernel
theorem dX6_row_29 : decode cX6_row 29 = .ok (.iload_n 3, 1) := by decide +kernel
theorem dX6_row_30 : decode cX6_row 30 = .ok (.lookupswitch 40 #[(0, 26), (1, 33)], 26) := by decide +kernel
theorem dX6_row_56 : decode cX6_row 56 = .ok (.aload 4, 2) := by decide +kernel
theorem dX6_row_58 : decode cX6_row 58 = .ok (.iload_n 2, 1) := by decide +kernel
theorem dX6_row_59 : decode cX6_row 59 = .ok (.invokevirtual 135, 3) := by decide +kernel
theorem dX6_row_62 : decode cX6_row 62 = .ok (.ireturn, 1) := by decide +kernel
theorem dX6_row_63 : decode cX6_row 63 = .ok (.aload 4, 2) := by decide +kernel
theorem dX6_row_65 : decode cX6_row 65 = .ok (.iload_n 2, 1) := by decide +kernel
theorem dX6_row_66 : decode cX6_row 66 = .ok (.invokevirtual 138, 3) := by decide +kernel
theorem dX6_row_69 : decode cX6_row 69 = .ok (.ireturn, 1) := by decide +kernel
theorem dX6_row_70 : decode cX6_row 70 = .ok (.iload_n 1, 1) := by decide +kernel
theorem dX6_row_71 : decode cX6_row 71 = .ok (.ifCond .eq 17, 3) := by decide +kernel
theorem dX6_row_74 : decode cX6_row 74 = .ok (.aload_n 0, 1) := by decide +kernel
theorem dX6_row_75 : decode cX6_row 75 = .ok (.getfield 10, 3) := by decide +kernel
theorem dX6_row_78 : decode cX6_row 78 = .ok (.iload_n 2, 1) := by decide +kernel
theorem dX6_row_79 : decode cX6_row 79 = .ok (.invokevirtual 141, 3) := by decide +kernel
theorem dX6_row_82 : decode cX6_row 82 = .ok (.ifCond .eq 21, 3) := by decide +kernel
theorem dX6_row_85 : decode cX6_row 85 = .ok (.goto 14, 3) := by decide +kernel
theorem dX6_row_88 : decode cX6_row 88 = .ok (.aload_n 0, 1) := by decide +kernel
theorem dX6_row_89 : decode cX6_row 89 = .ok (.getfield 10, 3) := by decide +kernel
theorem dX6_row_92 : decode cX6_row 92 = .ok (.iload_n 2, 1) := by decide +kernel
theorem dX6_row_93 : decode cX6_row 93 = .ok (.invokevirtual 144, 3) := by decide +kernel
theorem dX6_row_96 : decode cX6_row 96 = .ok (.ifCond .eq 7, 3) := by decide +kernel
theorem dX6_row_99 : decode cX6_row 99 = .ok (.iconst 1, 1) := by decide +kernel
theorem dX6_row_100 : decode cX6_row 100 = .ok (.goto 4, 3) := by decide +kernel
theorem dX6_row_103 : decode cX6_row 103 = .ok (.iconst 0, 1) := by decide +kernel
theorem dX6_row_104 : decode cX6_row 104 = .ok (.ireturn, 1) := by decide +kernel
set_option maxRecDepth 20000 in
theorem ggX6_answer_X6_isKey : GoodIn wsX6_answer wsX6_isKey := goodIn_r _ [5, 6, 7, 4, 8] (by decide +kernel) (by decide +kernel)
set_option maxRecDepth 20000 in
theorem gX6_answer_X6_isKey : GoodIn wsX6_answer (va_wsS RX6 147 yX6_isKey wsX6_isKey) := goodIn_app (goodIn_of _ (by decide +kernel)) ggX6_answer_X6_isKey
set_option maxRecDepth 20000 in
theorem ggX6_answer_X6_isWithin : GoodIn wsX6_answer wsX6_isWithin := goodIn_r _ [8] (by decide +kernel) (by decide +kernel)
set_option maxRecDepth 20000 in
theorem gX6_answer_X6_isWithin : GoodIn wsX6_answer (va_wsS RX6 76 yX6_isWithin wsX6_isWithin) := goodIn_app (goodIn_of _ (by decide +kernel)) ggX6_answer_X6_isWithin
set_option maxRecDepth 20000 in
theorem ggX6_answer_X4_answers : GoodIn wsX6_answer wsX4_answers := goodIn_r _ [13, 14, 36, 37, 38, 39, 40, 41, 42, 43] (by decide +kernel) (by decide +kernel)
set_option maxRecDepth 20000 in
theorem gX6_answer_X4_answers : GoodIn wsX6_answer (wsV RX6 150 RX4 yX4_answers wsX4_answers) := goodIn_app (goodIn_of _ (by decide +kernel)) ggX6_answer_X4_answers
set_option maxRecDepth 20000 in
theorem ggX6_answer_X0_tell : GoodIn wsX6_answer wsX0_tell := goodIn_r _ [19, 20, 21, 22, 23, 24, 25, 18, 26, 44, 45, 46] (by decide +kernel) (by decide +kernel)
set_option maxRecDepth 20000 in
theorem gX6_answer_X0_tell : GoodIn wsX6_answer (wsV RX6 154 RX0 yX0_tell wsX0_tell) := goodIn_app (goodIn_of _ (by decide +kernel)) ggX6_answer_X0_tell
theorem dX6_answer_0 : decode cX6_answer 0 = .ok (.iload_n 1, 1) := by decide +kernel
theorem dX6_answer_1 : decode cX6_answer 1 = .ok (.invokestatic 147, 3) := by decide +kernel
theorem dX6_answer_4 : decode cX6_answer 4 = .ok (.ifCond .eq 26, 3) := by decide +kernel
theorem dX6_answer_7 : decode cX6_answer 7 = .ok (.iload_n 2, 1) := by decide +kernel
theorem dX6_answer_8 : decode cX6_answer 8 = .ok (.iconst 3, 1) := by decide +kernel
theorem dX6_answer_9 : decode cX6_answer 9 = .ok (.invokestatic 76, 3) := by decide +kernel
theorem dX6_answer_12 : decode cX6_answer 12 = .ok (.ifCond .eq 18, 3) := by decide +kernel
theorem dX6_answer_15 : decode cX6_answer 15 = .ok (.aload_n 0, 1) := by decide +kernel
theorem dX6_answer_16 : decode cX6_answer 16 = .ok (.getfield 10, 3) := by decide +kernel
theorem dX6_answer_19 : decode cX6_answer 19 = .ok (.invokevirtual 150, 3) := by decide +kernel
theorem dX6_answer_22 : decode cX6_answer 22 = .ok (.iload_n 1, 1) := by decide +kernel
theorem dX6_answer_23 : decode cX6_answer 23 = .ok (.iload_n 2, 1) := by decide +kernel
theorem dX6_answer_24 : decode cX6_answer 24 = .ok (.invokevirtual 154, 3) := by decide +kernel
theorem dX6_answer_27 : decode cX6_answer 27 = .ok (.goto 4, 3) := by decide +kernel
theorem dX6_answer_30 : decode cX6_answer 30 = .ok (.iconst (-1), 1) := by decide +kernel
theorem dX6_answer_31 : decode cX6_answer 31 = .ok (.ireturn, 1) := by decide +kernel
set_option maxRecDepth 20000 in
theorem ggX6_remembered_X6_isKey : GoodIn wsX6_remembered wsX6_isKey := goodIn_r _ [5, 6, 7, 4, 8] (by decide +kernel) (by decide +kernel)
set_option maxRecDepth 20000 in
theorem gX6_remembered_X6_isKey : GoodIn wsX6_remembered (va_wsS RX6 147 yX6_isKey wsX6_isKey) := goodIn_app (goodIn_of _ (by decide +kernel)) ggX6_remembered_X6_isKey
set_option maxRecDepth 20000 in
theorem ggX6_remembered_X6_isWithin : GoodIn wsX6_remembered wsX6_isWithin := goodIn_r _ [8] (by decide +kernel) (by decide +kernel)
set_option maxRecDepth 20000 in
theorem gX6_remembered_X6_isWithin : GoodIn wsX6_remembered (va_wsS RX6 76 yX6_isWithin wsX6_isWithin) := goodIn_app (goodIn_of _ (by decide +kernel)) ggX6_remembered_X6_isWithin
set_option maxRecDepth 20000 in
theorem ggX6_remembered_X4_memo : GoodIn wsX6_remembered wsX4_memo := goodIn_r _ [13, 14, 66, 67, 68, 69, 70, 71, 72, 73] (by decide +kernel) (by decide +kernel)
set_option maxRecDepth 20000 in
theorem gX6_remembered_X4_memo : GoodIn wsX6_remembered (wsV RX6 159 RX4 yX4_memo wsX4_memo) := goodIn_app (goodIn_of _ (by decide +kernel)) ggX6_remembered_X4_memo
set_option maxRecDepth 20000 in
theorem ggX6_remembered_X2_holds : GoodIn wsX6_remembered wsX2_holds := goodIn_r _ [19, 20, 74, 75, 76, 77] (by decide +kernel) (by decide +kernel)
set_option maxRecDepth 20000 in
theorem gX6_remembered_X2_holds : GoodIn wsX6_remembered (wsV RX6 163 RX2 yX2_holds wsX2_holds) := goodIn_app (goodIn_of _ (by decide +kernel)) ggX6_remembered_X2_holds
set_option maxRecDepth 20000 in
theorem ggX6_remembered_X2_uses : GoodIn wsX6_remembered wsX2_uses := goodIn_r _ [24, 20, 74, 75, 76, 77] (by decide +kernel) (by decide +kernel)
set_option maxRecDepth 20000 in
theorem gX6_remembered_X2_uses : GoodIn wsX6_remembered (wsV RX6 168 RX2 yX2_uses wsX2_uses) := goodIn_app (goodIn_of _ (by decide +kernel)) ggX6_remembered_X2_uses
set_option maxRecDepth 20000 in
theorem ggX6_remembered_X4_setting : GoodIn wsX6_remembered wsX4_setting := goodIn_r _ [28, 29, 66, 67, 68, 69, 70, 71, 72, 73] (by decide +kernel) (by decide +kernel)
set_option maxRecDepth 20000 in
theorem gX6_remembered_X4_setting : GoodIn wsX6_remembered (wsV RX6 171 RX4 yX4_setting wsX4_setting) := goodIn_app (goodIn_of _ (by decide +kernel)) ggX6_remembered_X4_setting
set_option maxRecDepth 20000 in
theorem ggX6_remembered_X2_placeOf : GoodIn wsX6_remembered wsX2_placeOf := goodIn_r _ [33, 20, 34, 35, 36, 18, 37, 38, 39, 74, 75, 76, 77] (by decide +kernel) (by decide +kernel)
set_option maxRecDepth 20000 in
theorem gX6_remembered_X2_placeOf : GoodIn wsX6_remembered (wsV RX6 174 RX2 yX2_placeOf wsX2_placeOf) := goodIn_app (goodIn_of _ (by decide +kernel)) ggX6_remembered_X2_placeOf
set_option maxRecDepth 20000 in
theorem ggX6_remembered_X4_answers : GoodIn wsX6_remembered wsX4_answers := goodIn_r _ [43, 44, 66, 67, 68, 69, 70, 71, 72, 73] (by decide +kernel) (by decide +kernel)
set_option maxRecDepth 20000 in
theorem gX6_remembered_X4_answers : GoodIn wsX6_remembered (wsV RX6 150 RX4 yX4_answers wsX4_answers) := goodIn_app (goodIn_of _ (by decide +kernel)) ggX6_remembered_X4_answers
set_option maxRecDepth 20000 in
theorem ggX6_remembered_X0_tell : GoodIn wsX6_remembered wsX0_tell := goodIn_r _ [49, 50, 51, 52, 53, 54, 55, 48, 56, 78, 79, 80] (by decide +kernel) (by decide +kernel)
set_option maxRecDepth 20000 in
theorem gX6_remembered_X0_tell : GoodIn wsX6_remembered (wsV RX6 154 RX0 yX0_tell wsX0_tell) := goodIn_app (goodIn_of _ (by decide +kernel)) ggX6_remembered_X0_tell
theorem dX6_remembered_0 : decode cX6_remembered 0 = .ok (.iload_n 1, 1) := by decide +kernel
theorem dX6_remembered_1 : decode cX6_remembered 1 = .ok (.invokestatic 147, 3) := by decide +kernel
theorem dX6_remembered_4 : decode cX6_remembered 4 = .ok (.ifCond .eq 11, 3) := by decide +kernel
theorem dX6_remembered_7 : decode cX6_remembered 7 = .ok (.iload_n 2, 1) := by decide +kernel
theorem dX6_remembered_8 : decode cX6_remembered 8 = .ok (.iconst 5, 1) := by decide +kernel
theorem dX6_remembered_9 : decode cX6_remembered 9 = .ok (.invokestatic 76, 3) := by decide +kernel
theorem dX6_remembered_12 : decode cX6_remembered 12 = .ok (.ifCond .ne 5, 3) := by decide +kernel
theorem dX6_remembered_15 : decode cX6_remembered 15 = .ok (.iconst (-1), 1) := by decide +kernel
theorem dX6_remembered_16 : decode cX6_remembered 16 = .ok (.ireturn, 1) := by decide +kernel
theorem dX6_remembered_17 : decode cX6_remembered 17 = .ok (.aload_n 0, 1) := by decide +kernel
theorem dX6_remembered_18 : decode cX6_remembered 18 = .ok (.getfield 10, 3) := by decide +kernel
theorem dX6_remembered_21 : decode cX6_remembered 21 = .ok (.invokevirtual 159, 3) := by decide +kernel
theorem dX6_remembered_24 : decode cX6_remembered 24 = .ok (.iload_n 1, 1) := by decide +kernel
theorem dX6_remembered_25 : decode cX6_remembered 25 = .ok (.invokevirtual 163, 3) := by decide +kernel
theorem dX6_remembered_28 : decode cX6_remembered 28 = .ok (.ifCond .ne 6, 3) := by decide +kernel
theorem dX6_remembered_31 : decode cX6_remembered 31 = .ok (.bipush (-4), 2) := by decide +kernel
theorem dX6_remembered_33 : decode cX6_remembered 33 = .ok (.ireturn, 1) := by decide +kernel
theorem dX6_remembered_34 : decode cX6_remembered 34 = .ok (.iload_n 2, 1) := by decide +kernel
theorem dX6_remembered_35 : decode cX6_remembered 35 = .ok (.lookupswitch 57 #[(4, 25), (5, 37)], 25) := by decide +kernel
theorem dX6_remembered_60 : decode cX6_remembered 60 = .ok (.aload_n 0, 1) := by decide +kernel
theorem dX6_remembered_61 : decode cX6_remembered 61 = .ok (.getfield 10, 3) := by decide +kernel
theorem dX6_remembered_64 : decode cX6_remembered 64 = .ok (.invokevirtual 159, 3) := by decide +kernel
theorem dX6_remembered_67 : decode cX6_remembered 67 = .ok (.iload_n 1, 1) := by decide +kernel
theorem dX6_remembered_68 : decode cX6_remembered 68 = .ok (.invokevirtual 168, 3) := by decide +kernel
theorem dX6_remembered_71 : decode cX6_remembered 71 = .ok (.ireturn, 1) := by decide +kernel
theorem dX6_remembered_72 : decode cX6_remembered 72 = .ok (.aload_n 0, 1) := by decide +kernel
theorem dX6_remembered_73 : decode cX6_remembered 73 = .ok (.getfield 10, 3) := by decide +kernel
theorem dX6_remembered_76 : decode cX6_remembered 76 = .ok (.invokevirtual 159, 3) := by decide +kernel
theorem dX6_remembered_79 : decode cX6_remembered 79 = .ok (.iload_n 1, 1) := by decide +kernel
theorem dX6_remembered_80 : decode cX6_remembered 80 = .ok (.aload_n 0, 1) := by decide +kernel
theorem dX6_remembered_81 : decode cX6_remembered 81 = .ok (.getfield 10, 3) := by decide +kernel
theorem dX6_remembered_84 : decode cX6_remembered 84 = .ok (.iconst 1, 1) := by decide +kernel
theorem dX6_remembered_85 : decode cX6_remembered 85 = .ok (.invokevirtual 171, 3) := by decide +kernel
theorem dX6_remembered_88 : decode cX6_remembered 88 = .ok (.invokevirtual 174, 3) := by decide +kernel
theorem dX6_remembered_91 : decode cX6_remembered 91 = .ok (.ireturn, 1) := by decide +kernel
theorem dX6_remembered_92 : decode cX6_remembered 92 = .ok (.aload_n 0, 1) := by decide +kernel
theorem dX6_remembered_93 : decode cX6_remembered 93 = .ok (.getfield 10, 3) := by decide +kernel
theorem dX6_remembered_96 : decode cX6_remembered 96 = .ok (.invokevirtual 150, 3) := by decide +kernel
theorem dX6_remembered_99 : decode cX6_remembered 99 = .ok (.iload_n 1, 1) := by decide +kernel
theorem dX6_remembered_100 : decode cX6_remembered 100 = .ok (.iload_n 2, 1) := by decide +kernel
theorem dX6_remembered_101 : decode cX6_remembered 101 = .ok (.invokevirtual 154, 3) := by decide +kernel
theorem dX6_remembered_104 : decode cX6_remembered 104 = .ok (.ireturn, 1) := by decide +kernel
set_option maxRecDepth 20000 in
theorem ggX6_count_X4_table : GoodIn wsX6_count wsX4_table := goodIn_r _ [8, 9, 10, 88, 89, 90, 91, 92, 93, 94, 95] (by decide +kernel) (by decide +kernel)
set_option maxRecDepth 20000 in
theorem gX6_count_X4_table : GoodIn wsX6_count (wsV RX6 87 RX4 yX4_table wsX4_table) := goodIn_app (goodIn_of _ (by decide +kernel)) ggX6_count_X4_table
set_option maxRecDepth 20000 in
theorem ggX6_count_X5_size : GoodIn wsX6_count wsX5_size := goodIn_r _ [15, 16, 96, 97, 98] (by decide +kernel) (by decide +kernel)
set_option maxRecDepth 20000 in
theorem gX6_count_X5_size : GoodIn wsX6_count (wsV RX6 91 RX5 yX5_size wsX5_size) := goodIn_app (goodIn_of _ (by decide +kernel)) ggX6_count_X5_size
set_option maxRecDepth 20000 in
theorem ggX6_count_X4_memo : GoodIn wsX6_count wsX4_memo := goodIn_r _ [20, 21, 88, 89, 90, 91, 92, 93, 94, 95] (by decide +kernel) (by decide +kernel)
set_option maxRecDepth 20000 in
theorem gX6_count_X4_memo : GoodIn wsX6_count (wsV RX6 159 RX4 yX4_memo wsX4_memo) := goodIn_app (goodIn_of _ (by decide +kernel)) ggX6_count_X4_memo
set_option maxRecDepth 20000 in
theorem ggX6_count_X2_size : GoodIn wsX6_count wsX2_size := goodIn_r _ [26, 27, 99, 100, 101, 102] (by decide +kernel) (by decide +kernel)
set_option maxRecDepth 20000 in
theorem gX6_count_X2_size : GoodIn wsX6_count (wsV RX6 177 RX2 yX2_size wsX2_size) := goodIn_app (goodIn_of _ (by decide +kernel)) ggX6_count_X2_size
set_option maxRecDepth 20000 in
theorem ggX6_count_X4_weightTogether : GoodIn wsX6_count wsX4_weightTogether := goodIn_r _ [31, 21, 32, 33, 34, 35, 25, 36, 27, 37, 38, 39, 40, 41, 42, 88, 89, 90, 91, 92, 93, 94, 95, 99, 100, 101, 102, 103, 104, 105] (by decide +kernel) (by decide +kernel)
set_option maxRecDepth 20000 in
theorem gX6_count_X4_weightTogether : GoodIn wsX6_count (wsV RX6 178 RX4 yX4_weightTogether wsX4_weightTogether) := goodIn_app (goodIn_of _ (by decide +kernel)) ggX6_count_X4_weightTogether
set_option maxRecDepth 20000 in
theorem ggX6_count_X4_place : GoodIn wsX6_count wsX4_place := goodIn_r _ [46, 47, 88, 89, 90, 91, 92, 93, 94, 95] (by decide +kernel) (by decide +kernel)
set_option maxRecDepth 20000 in
theorem gX6_count_X4_place : GoodIn wsX6_count (wsV RX6 181 RX4 yX4_place wsX4_place) := goodIn_app (goodIn_of _ (by decide +kernel)) ggX6_count_X4_place
set_option maxRecDepth 20000 in
theorem ggX6_count_X4_totalSoFar : GoodIn wsX6_count wsX4_totalSoFar := goodIn_r _ [51, 52, 88, 89, 90, 91, 92, 93, 94, 95] (by decide +kernel) (by decide +kernel)
set_option maxRecDepth 20000 in
theorem gX6_count_X4_totalSoFar : GoodIn wsX6_count (wsV RX6 184 RX4 yX4_totalSoFar wsX4_totalSoFar) := goodIn_app (goodIn_of _ (by decide +kernel)) ggX6_count_X4_totalSoFar
set_option maxRecDepth 20000 in
theorem ggX6_count_X4_setting : GoodIn wsX6_count wsX4_setting := goodIn_r _ [56, 57, 88, 89, 90, 91, 92, 93, 94, 95] (by decide +kernel) (by decide +kernel)
set_option maxRecDepth 20000 in
theorem gX6_count_X4_setting : GoodIn wsX6_count (wsV RX6 171 RX4 yX4_setting wsX4_setting) := goodIn_app (goodIn_of _ (by decide +kernel)) ggX6_count_X4_setting
set_option maxRecDepth 20000 in
theorem ggX6_count_X3_size : GoodIn wsX6_count wsX3_size := goodIn_r _ [62, 63, 106, 107, 108, 109, 110, 111, 112, 113, 114] (by decide +kernel) (by decide +kernel)
set_option maxRecDepth 20000 in
theorem gX6_count_X3_size : GoodIn wsX6_count (wsV RX6 187 RX3 yX3_size wsX3_size) := goodIn_app (goodIn_of _ (by decide +kernel)) ggX6_count_X3_size
set_option maxRecDepth 20000 in
theorem ggX6_count_X1_size : GoodIn wsX6_count wsX1_size := goodIn_r _ [68, 69, 115, 116, 117] (by decide +kernel) (by decide +kernel)
set_option maxRecDepth 20000 in
theorem gX6_count_X1_size : GoodIn wsX6_count (wsV RX6 188 RX1 yX1_size wsX1_size) := goodIn_app (goodIn_of _ (by decide +kernel)) ggX6_count_X1_size
set_option maxRecDepth 20000 in
theorem ggX6_count_X6_isWithin : GoodIn wsX6_count wsX6_isWithin := goodIn_r _ [73] (by decide +kernel) (by decide +kernel)
set_option maxRecDepth 20000 in
theorem gX6_count_X6_isWithin : GoodIn wsX6_count (va_wsS RX6 76 yX6_isWithin wsX6_isWithin) := goodIn_app (goodIn_of _ (by decide +kernel)) ggX6_count_X6_isWithin
set_option maxRecDepth 20000 in
theorem ggX6_count_X4_tally : GoodIn wsX6_count wsX4_tally := goodIn_r _ [77, 78, 88, 89, 90, 91, 92, 93, 94, 95] (by decide +kernel) (by decide +kernel)
set_option maxRecDepth 20000 in
theorem gX6_count_X4_tally : GoodIn wsX6_count (wsV RX6 189 RX4 yX4_tally wsX4_tally) := goodIn_app (goodIn_of _ (by decide +kernel)) ggX6_count_X4_tally
theorem dX6_count_0 : decode cX6_count 0 = .ok (.iload_n 1, 1) := by decide +kernel
theorem dX6_count_1 : decode cX6_count 1 = .ok (.tableswitch 182 0 19 #[95, 107, 119, 130, 138, 146, 182, 182, 182, 182, 182, 182, 182, 154, 154, 154, 154, 154, 166, 174], 95) := by decide +kernel
theorem dX6_count_96 : decode cX6_count 96 = .ok (.aload_n 0, 1) := by decide +kernel
theorem dX6_count_97 : decode cX6_count 97 = .ok (.getfield 10, 3) := by decide +kernel
theorem dX6_count_100 : decode cX6_count 100 = .ok (.iconst 0, 1) := by decide +kernel
theorem dX6_count_101 : decode cX6_count 101 = .ok (.invokevirtual 87, 3) := by decide +kernel
theorem dX6_count_104 : decode cX6_count 104 = .ok (.invokevirtual 91, 3) := by decide +kernel
theorem dX6_count_107 : decode cX6_count 107 = .ok (.ireturn, 1) := by decide +kernel
theorem dX6_count_108 : decode cX6_count 108 = .ok (.aload_n 0, 1) := by decide +kernel
theorem dX6_count_109 : decode cX6_count 109 = .ok (.getfield 10, 3) := by decide +kernel
theorem dX6_count_112 : decode cX6_count 112 = .ok (.iconst 1, 1) := by decide +kernel
theorem dX6_count_113 : decode cX6_count 113 = .ok (.invokevirtual 87, 3) := by decide +kernel
theorem dX6_count_116 : decode cX6_count 116 = .ok (.invokevirtual 91, 3) := by decide +kernel
theorem dX6_count_119 : decode cX6_count 119 = .ok (.ireturn, 1) := by decide +kernel
theorem dX6_count_120 : decode cX6_count 120 = .ok (.aload_n 0, 1) := by decide +kernel
theorem dX6_count_121 : decode cX6_count 121 = .ok (.getfield 10, 3) := by decide +kernel
theorem dX6_count_124 : decode cX6_count 124 = .ok (.invokevirtual 159, 3) := by decide +kernel
theorem dX6_count_127 : decode cX6_count 127 = .ok (.invokevirtual 177, 3) := by decide +kernel
theorem dX6_count_130 : decode cX6_count 130 = .ok (.ireturn, 1) := by decide +kernel
theorem dX6_count_131 : decode cX6_count 131 = .ok (.aload_n 0, 1) := by decide +kernel
theorem dX6_count_132 : decode cX6_count 132 = .ok (.getfield 10, 3) := by decide +kernel
theorem dX6_count_135 : decode cX6_count 135 = .ok (.invokevirtual 178, 3) := by decide +kernel
theorem dX6_count_138 : decode cX6_count 138 = .ok (.ireturn, 1) := by decide +kernel
theorem dX6_count_139 : decode cX6_count 139 = .ok (.aload_n 0, 1) := by decide +kernel
theorem dX6_count_140 : decode cX6_count 140 = .ok (.getfield 10, 3) := by decide +kernel
theorem dX6_count_143 : decode cX6_count 143 = .ok (.invokevirtual 181, 3) := by decide +kernel
theorem dX6_count_146 : decode cX6_count 146 = .ok (.ireturn, 1) := by decide +kernel
theorem dX6_count_147 : decode cX6_count 147 = .ok (.aload_n 0, 1) := by decide +kernel
theorem dX6_count_148 : decode cX6_count 148 = .ok (.getfield 10, 3) := by decide +kernel
theorem dX6_count_151 : decode cX6_count 151 = .ok (.invokevirtual 184, 3) := by decide +kernel
theorem dX6_count_154 : decode cX6_count 154 = .ok (.ireturn, 1) := by decide +kernel
theorem dX6_count_155 : decode cX6_count 155 = .ok (.aload_n 0, 1) := by decide +kernel
theorem dX6_count_156 : decode cX6_count 156 = .ok (.getfield 10, 3) := by decide +kernel
theorem dX6_count_159 : decode cX6_count 159 = .ok (.iload_n 1, 1) := by decide +kernel
theorem dX6_count_160 : decode cX6_count 160 = .ok (.bipush 13, 2) := by decide +kernel
theorem dX6_count_162 : decode cX6_count 162 = .ok (.isub, 1) := by decide +kernel
theorem dX6_count_163 : decode cX6_count 163 = .ok (.invokevirtual 171, 3) := by decide +kernel
theorem dX6_count_166 : decode cX6_count 166 = .ok (.ireturn, 1) := by decide +kernel
theorem dX6_count_167 : decode cX6_count 167 = .ok (.aload_n 0, 1) := by decide +kernel
theorem dX6_count_168 : decode cX6_count 168 = .ok (.getfield 32, 3) := by decide +kernel
theorem dX6_count_171 : decode cX6_count 171 = .ok (.invokevirtual 187, 3) := by decide +kernel
theorem dX6_count_174 : decode cX6_count 174 = .ok (.ireturn, 1) := by decide +kernel
theorem dX6_count_175 : decode cX6_count 175 = .ok (.aload_n 0, 1) := by decide +kernel
theorem dX6_count_176 : decode cX6_count 176 = .ok (.getfield 25, 3) := by decide +kernel
theorem dX6_count_179 : decode cX6_count 179 = .ok (.invokevirtual 188, 3) := by decide +kernel
theorem dX6_count_182 : decode cX6_count 182 = .ok (.ireturn, 1) := by decide +kernel
theorem dX6_count_183 : decode cX6_count 183 = .ok (.iload_n 1, 1) := by decide +kernel
theorem dX6_count_184 : decode cX6_count 184 = .ok (.bipush 19, 2) := by decide +kernel
theorem dX6_count_186 : decode cX6_count 186 = .ok (.invokestatic 76, 3) := by decide +kernel
theorem dX6_count_189 : decode cX6_count 189 = .ok (.ifCond .eq 17, 3) := by decide +kernel
theorem dX6_count_192 : decode cX6_count 192 = .ok (.aload_n 0, 1) := by decide +kernel
theorem dX6_count_193 : decode cX6_count 193 = .ok (.getfield 10, 3) := by decide +kernel
theorem dX6_count_196 : decode cX6_count 196 = .ok (.iload_n 1, 1) := by decide +kernel
theorem dX6_count_197 : decode cX6_count 197 = .ok (.bipush 6, 2) := by decide +kernel
theorem dX6_count_199 : decode cX6_count 199 = .ok (.isub, 1) := by decide +kernel
theorem dX6_count_200 : decode cX6_count 200 = .ok (.invokevirtual 189, 3) := by decide +kernel
theorem dX6_count_203 : decode cX6_count 203 = .ok (.goto 4, 3) := by decide +kernel
theorem dX6_count_206 : decode cX6_count 206 = .ok (.iconst (-1), 1) := by decide +kernel
theorem dX6_count_207 : decode cX6_count 207 = .ok (.ireturn, 1) := by decide +kernel
set_option maxRecDepth 20000 in
theorem ggX6_total_X6_isWithin : GoodIn wsX6_total wsX6_isWithin := goodIn_r _ [5] (by decide +kernel) (by decide +kernel)
set_option maxRecDepth 20000 in
theorem gX6_total_X6_isWithin : GoodIn wsX6_total (va_wsS RX6 76 yX6_isWithin wsX6_isWithin) := goodIn_app (goodIn_of _ (by decide +kernel)) ggX6_total_X6_isWithin
set_option maxRecDepth 20000 in
theorem ggX6_total_X4_totalByAnswers : GoodIn wsX6_total wsX4_totalByAnswers := goodIn_r _ [10, 11, 12, 13, 14, 15, 16, 17, 18, 19, 20, 21, 22, 23, 24, 25, 26, 27, 28, 29, 30, 31, 32, 33, 34, 54, 55, 56, 57, 58, 59, 60, 61, 62, 63, 64, 65, 66, 67] (by decide +kernel) (by decide +kernel)
set_option maxRecDepth 20000 in
theorem gX6_total_X4_totalByAnswers : GoodIn wsX6_total (wsV RX6 192 RX4 yX4_totalByAnswers wsX4_totalByAnswers) := goodIn_app (goodIn_of _ (by decide +kernel)) ggX6_total_X4_totalByAnswers
set_option maxRecDepth 20000 in
theorem ggX6_total_X4_totalByRows : GoodIn wsX6_total wsX4_totalByRows := goodIn_r _ [38, 11, 39, 13, 14, 15, 16, 17, 18, 24, 25, 26, 27, 28, 19, 20, 21, 22, 23, 40, 41, 42, 9, 43, 44, 54, 55, 56, 57, 58, 59, 60, 61, 62, 63, 64] (by decide +kernel) (by decide +kernel)
set_option maxRecDepth 20000 in
theorem gX6_total_X4_totalByRows : GoodIn wsX6_total (wsV RX6 195 RX4 yX4_totalByRows wsX4_totalByRows) := goodIn_app (goodIn_of _ (by decide +kernel)) ggX6_total_X4_totalByRows
theorem dX6_total_0 : decode cX6_total 0 = .ok (.iload_n 1, 1) := by decide +kernel
theorem dX6_total_1 : decode cX6_total 1 = .ok (.iconst 1, 1) := by decide +kernel
theorem dX6_total_2 : decode cX6_total 2 = .ok (.invokestatic 76, 3) := by decide +kernel
theorem dX6_total_5 : decode cX6_total 5 = .ok (.ifCond .ne 5, 3) := by decide +kernel
theorem dX6_total_8 : decode cX6_total 8 = .ok (.iconst (-1), 1) := by decide +kernel
theorem dX6_total_9 : decode cX6_total 9 = .ok (.ireturn, 1) := by decide +kernel
theorem dX6_total_10 : decode cX6_total 10 = .ok (.iload_n 1, 1) := by decide +kernel
theorem dX6_total_11 : decode cX6_total 11 = .ok (.ifCond .ne 13, 3) := by decide +kernel
theorem dX6_total_14 : decode cX6_total 14 = .ok (.aload_n 0, 1) := by decide +kernel
theorem dX6_total_15 : decode cX6_total 15 = .ok (.getfield 10, 3) := by decide +kernel
theorem dX6_total_18 : decode cX6_total 18 = .ok (.invokevirtual 192, 3) := by decide +kernel
theorem dX6_total_21 : decode cX6_total 21 = .ok (.goto 10, 3) := by decide +kernel
theorem dX6_total_24 : decode cX6_total 24 = .ok (.aload_n 0, 1) := by decide +kernel
theorem dX6_total_25 : decode cX6_total 25 = .ok (.getfield 10, 3) := by decide +kernel
theorem dX6_total_28 : decode cX6_total 28 = .ok (.invokevirtual 195, 3) := by decide +kernel
theorem dX6_total_31 : decode cX6_total 31 = .ok (.ireturn, 1) := by decide +kernel
set_option maxRecDepth 20000 in
theorem ggX6_rate_X4_tally : GoodIn wsX6_rate wsX4_tally := goodIn_r _ [6, 7, 17, 18, 19, 20, 21, 22, 23, 24] (by decide +kernel) (by decide +kernel)
set_option maxRecDepth 20000 in
theorem gX6_rate_X4_tally : GoodIn wsX6_rate (wsV RX6 189 RX4 yX4_tally wsX4_tally) := goodIn_app (goodIn_of _ (by decide +kernel)) ggX6_rate_X4_tally
theorem dX6_rate_0 : decode cX6_rate 0 = .ok (.aload_n 0, 1) := by decide +kernel
theorem dX6_rate_1 : decode cX6_rate 1 = .ok (.getfield 10, 3) := by decide +kernel
theorem dX6_rate_4 : decode cX6_rate 4 = .ok (.iconst 0, 1) := by decide +kernel
theorem dX6_rate_5 : decode cX6_rate 5 = .ok (.invokevirtual 189, 3) := by decide +kernel
theorem dX6_rate_8 : decode cX6_rate 8 = .ok (.istore_n 1, 1) := by decide +kernel
theorem dX6_rate_9 : decode cX6_rate 9 = .ok (.iload_n 1, 1) := by decide +kernel
theorem dX6_rate_10 : decode cX6_rate 10 = .ok (.aload_n 0, 1) := by decide +kernel
theorem dX6_rate_11 : decode cX6_rate 11 = .ok (.getfield 10, 3) := by decide +kernel
theorem dX6_rate_14 : decode cX6_rate 14 = .ok (.iconst 1, 1) := by decide +kernel
theorem dX6_rate_15 : decode cX6_rate 15 = .ok (.invokevirtual 189, 3) := by decide +kernel
theorem dX6_rate_18 : decode cX6_rate 18 = .ok (.iadd, 1) := by decide +kernel
theorem dX6_rate_19 : decode cX6_rate 19 = .ok (.istore_n 2, 1) := by decide +kernel
theorem dX6_rate_20 : decode cX6_rate 20 = .ok (.iload_n 2, 1) := by decide +kernel
theorem dX6_rate_21 : decode cX6_rate 21 = .ok (.ifCond .ne 7, 3) := by decide +kernel
theorem dX6_rate_24 : decode cX6_rate 24 = .ok (.dconst 0, 1) := by decide +kernel
theorem dX6_rate_25 : decode cX6_rate 25 = .ok (.goto 8, 3) := by decide +kernel
theorem dX6_rate_28 : decode cX6_rate 28 = .ok (.iload_n 1, 1) := by decide +kernel
theorem dX6_rate_29 : decode cX6_rate 29 = .ok (.i2d, 1) := by decide +kernel
theorem dX6_rate_30 : decode cX6_rate 30 = .ok (.iload_n 2, 1) := by decide +kernel
theorem dX6_rate_31 : decode cX6_rate 31 = .ok (.i2d, 1) := by decide +kernel
theorem dX6_rate_32 : decode cX6_rate 32 = .ok (.ddiv, 1) := by decide +kernel
theorem dX6_rate_33 : decode cX6_rate 33 = .ok (.dreturn, 1) := by decide +kernel
theorem dX6_isWithin_0 : decode cX6_isWithin 0 = .ok (.iload_n 0, 1) := by decide +kernel
theorem dX6_isWithin_1 : decode cX6_isWithin 1 = .ok (.ifCond .lt 12, 3) := by decide +kernel
theorem dX6_isWithin_4 : decode cX6_isWithin 4 = .ok (.iload_n 0, 1) := by decide +kernel
theorem dX6_isWithin_5 : decode cX6_isWithin 5 = .ok (.iload_n 1, 1) := by decide +kernel
theorem dX6_isWithin_6 : decode cX6_isWithin 6 = .ok (.if_icmp .gt 7, 3) := by decide +kernel
theorem dX6_isWithin_9 : decode cX6_isWithin 9 = .ok (.iconst 1, 1) := by decide +kernel
theorem dX6_isWithin_10 : decode cX6_isWithin 10 = .ok (.goto 4, 3) := by decide +kernel
theorem dX6_isWithin_13 : decode cX6_isWithin 13 = .ok (.iconst 0, 1) := by decide +kernel
theorem dX6_isWithin_14 : decode cX6_isWithin 14 = .ok (.ireturn, 1) := by decide +kernel
set_option maxRecDepth 20000 in
theorem ggX6_isKey_X6_isWithin : GoodIn wsX6_isKey wsX6_isWithin := goodIn_r _ [4] (by decide +kernel) (by decide +kernel)
set_option maxRecDepth 20000 in
theorem gX6_isKey_X6_isWithin : GoodIn wsX6_isKey (va_wsS RX6 76 yX6_isWithin wsX6_isWithin) := goodIn_app (goodIn_of _ (by decide +kernel)) ggX6_isKey_X6_isWithin
theorem dX6_isKey_0 : decode cX6_isKey 0 = .ok (.iload_n 0, 1) := by decide +kernel
theorem dX6_isKey_1 : decode cX6_isKey 1 = .ok (.bipush 9, 2) := by decide +kernel
theorem dX6_isKey_3 : decode cX6_isKey 3 = .ok (.invokestatic 76, 3) := by decide +kernel
theorem dX6_isKey_6 : decode cX6_isKey 6 = .ok (.ireturn, 1) := by decide +kernel
set_option maxRecDepth 20000 in
theorem ggX6_isRow_X6_isKey : GoodIn wsX6_isRow wsX6_isKey := goodIn_r _ [4, 5, 6, 3, 7] (by decide +kernel) (by decide +kernel)
set_option maxRecDepth 20000 in
theorem gX6_isRow_X6_isKey : GoodIn wsX6_isRow (va_wsS RX6 147 yX6_isKey wsX6_isKey) := goodIn_app (goodIn_of _ (by decide +kernel)) ggX6_isRow_X6_isKey
set_option maxRecDepth 20000 in
theorem ggX6_isRow_X6_isWithin : GoodIn wsX6_isRow wsX6_isWithin := goodIn_r _ [7] (by decide +kernel) (by decide +kernel)
set_option maxRecDepth 20000 in
theorem gX6_isRow_X6_isWithin : GoodIn wsX6_isRow (va_wsS RX6 76 yX6_isWithin wsX6_isWithin) := goodIn_app (goodIn_of _ (by decide +kernel)) ggX6_isRow_X6_isWithin
theorem dX6_isRow_0 : decode cX6_isRow 0 = .ok (.iload_n 0, 1) := by decide +kernel
theorem dX6_isRow_1 : decode cX6_isRow 1 = .ok (.invokestatic 147, 3) := by decide +kernel
theorem dX6_isRow_4 : decode cX6_isRow 4 = .ok (.ifCond .eq 16, 3) := by decide +kernel
theorem dX6_isRow_7 : decode cX6_isRow 7 = .ok (.iload_n 1, 1) := by decide +kernel
theorem dX6_isRow_8 : decode cX6_isRow 8 = .ok (.bipush 99, 2) := by decide +kernel
theorem dX6_isRow_10 : decode cX6_isRow 10 = .ok (.invokestatic 76, 3) := by decide +kernel
theorem dX6_isRow_13 : decode cX6_isRow 13 = .ok (.ifCond .eq 7, 3) := by decide +kernel
theorem dX6_isRow_16 : decode cX6_isRow 16 = .ok (.iconst 1, 1) := by decide +kernel
theorem dX6_isRow_17 : decode cX6_isRow 17 = .ok (.goto 4, 3) := by decide +kernel
theorem dX6_isRow_20 : decode cX6_isRow 20 = .ok (.iconst 0, 1) := by decide +kernel
theorem dX6_isRow_21 : decode cX6_isRow 21 = .ok (.ireturn, 1) := by decide +kernel
theorem dX6_copyNumbers_0 : decode cX6_copyNumbers 0 = .ok (.aload_n 0, 1) := by decide +kernel
theorem dX6_copyNumbers_1 : decode cX6_copyNumbers 1 = .ok (.iconst 0, 1) := by decide +kernel
theorem dX6_copyNumbers_2 : decode cX6_copyNumbers 2 = .ok (.aload_n 1, 1) := by decide +kernel
theorem dX6_copyNumbers_3 : decode cX6_copyNumbers 3 = .ok (.iconst 0, 1) := by decide +kernel
theorem dX6_copyNumbers_4 : decode cX6_copyNumbers 4 = .ok (.aload_n 0, 1) := by decide +kernel
theorem dX6_copyNumbers_5 : decode cX6_copyNumbers 5 = .ok (.arraylength, 1) := by decide +kernel
theorem dX6_copyNumbers_6 : decode cX6_copyNumbers 6 = .ok (.aload_n 1, 1) := by decide +kernel
theorem dX6_copyNumbers_7 : decode cX6_copyNumbers 7 = .ok (.arraylength, 1) := by decide +kernel
theorem dX6_copyNumbers_8 : decode cX6_copyNumbers 8 = .ok (.invokestatic 117, 3) := by decide +kernel
theorem dX6_copyNumbers_11 : decode cX6_copyNumbers 11 = .ok (.invokestatic 225, 3) := by decide +kernel
theorem dX6_copyNumbers_14 : decode cX6_copyNumbers 14 = .ok (.return_, 1) := by decide +kernel
theorem dJ9_min_7cf53_0 : decode cJ9_min_7cf53 0 = .ok (.iload_n 0, 1) := by decide +kernel
theorem dJ9_min_7cf53_1 : decode cJ9_min_7cf53 1 = .ok (.iload_n 1, 1) := by decide +kernel
theorem dJ9_min_7cf53_2 : decode cJ9_min_7cf53 2 = .ok (.if_icmp .gt 7, 3) := by decide +kernel
theorem dJ9_min_7cf53_5 : decode cJ9_min_7cf53 5 = .ok (.iload_n 0, 1) := by decide +kernel
theorem dJ9_min_7cf53_6 : decode cJ9_min_7cf53 6 = .ok (.goto 4, 3) := by decide +kernel
theorem dJ9_min_7cf53_9 : decode cJ9_min_7cf53 9 = .ok (.iload_n 1, 1) := by decide +kernel
theorem dJ9_min_7cf53_10 : decode cJ9_min_7cf53 10 = .ok (.ireturn, 1) := by decide +kernel
abbrev vwCl : List vw_C := [(RX0, TX0, 3), (RX1, TX1, 3), (RX2, TX2, 4), (RX3, TX3, 9), (RX4, TX4, 8), (RX5, TX5, 3), (RX6, TX6, 9)]
end
section
/-! rows over an abstract state: own work -/
abbrev Hp : Type := Nat → Nat → Int32
abbrev Lv : Type := List (Nat × Value)
def lm_tys (z zo : ClassId) : List (ClassId × FieldType) := [(z, .int), (zo, .object "LoopMemo$State")]
def lm_NWl : List (String × Nat × MethodName) := [(RX0, 21, yX6_copyNumbers), (RX2, 21, yX6_copyNumbers), (RX4, 60, yX6_copyNumbers), (RX5, 18, yX6_copyNumbers), (RX4, 85, yX6_isRow)]
def lm_NW (U : State) : Prop := ∀ q ∈ lm_NWl, va_Nw (.methodLinkNest q.1 q.2.1 q.2.2 "LoopMemo") U
theorem lm_NW.same {u U : State} (h : u.vm = U.vm) (k : lm_NW u) : lm_NW U := fun q hq => va_Nw.same rfl h (k q hq)
theorem lm_NW.warm {u U : State} (h : u.WarmedH U.vm) (k : lm_NW u) : lm_NW U := fun q hq => va_Nw.warmM h (k q hq)
/-- ro: the heap is the start's own -/
def lm_I (D : va_G) (A : Nat → Prop) (s : State) (ro : Bool) (w : va_W) (H : Heap) (locs : List Loc) : Prop :=
  va_P D vwCl w H ∧ (ro = true → H = s.heap ∧ locs = []) ∧ (ro = false → va_D A w ∧ va_S A s.heap H locs)
def lm_St (p : Program) (l : Launch) (e : Env) (R : Room) (s : State) (m : MethodId) (args : Array Value) (below : List Frame) (meth : Method) (c : Code) (D : va_G) (A : Nat → Prop) (nL ce sl : Nat) (Q : State → Prop) (ro : Bool) (w : va_W) (pc : Nat) (lv : Lv) (st : List Value) : Prop :=
  ∀ (H : Heap) (locs : List Loc) (ls : Array Slot), lm_I D A s ro w H locs → lv_has ls nL lv → W p l e R s m args below meth c H locs ce sl Q (F0 m pc ls st)
def lm_Cx (p : Program) (s : State) (m : MethodId) (args : Array Value) (c : Code) (D : va_G) (z zo : ClassId) (nL : Nat) (own : String) (Ts : List Cond) (cc : ByteArray) : Prop :=
  p.tables.exec = Jvm.exec ∧ c.code = cc ∧ c.maxLocals = nL ∧ s.vm.findClass own = some m.cls ∧ (∀ w ∈ Ts, w.before args s = true) ∧ va_K D vwCl (lm_tys z zo) s ∧ lm_NW s
/-! permutations of a world -/
theorem lm_P_mem {D : va_G} {cl : List vw_C} {ws : va_W} {H : Heap} (h : va_P D cl ws H) {q : Nat × va_E} (hq : q ∈ ws) : va_at D cl q H := by
  obtain ⟨i, hi⟩ := List.getElem?_of_mem hq
  exact h i q hi
theorem lm_P_of {D : va_G} {cl : List vw_C} {ws : va_W} {H : Heap} (h : ∀ q ∈ ws, va_at D cl q H) : va_P D cl ws H := fun _ q hk => h q (List.mem_of_getElem? hk)
theorem lm_P_sub {D : va_G} {cl : List vw_C} {ws wc : va_W} {H : Heap} (h : va_P D cl ws H) (hs : ∀ q ∈ wc, q ∈ ws) : va_P D cl wc H := lm_P_of fun q hq => lm_P_mem h (hs q hq)
theorem lm_D_iff {A : Nat → Prop} {ws : va_W} : va_D A ws ↔ (ws.map Prod.fst).Nodup ∧ ∀ q ∈ ws, A q.1 := by
  constructor
  · intro h
    refine ⟨?_, fun q hq => ?_⟩
    · rw [List.nodup_iff_pairwise_ne, List.pairwise_iff_getElem]
      intro i j hi hj hij heq
      rw [List.getElem_map, List.getElem_map] at heq
      have hi' : i < ws.length := by simpa using hi
      have hj' : j < ws.length := by simpa using hj
      have := h.1 i j ws[i] ws[j] (List.getElem?_eq_getElem hi') (List.getElem?_eq_getElem hj') heq
      omega
    · obtain ⟨i, hi⟩ := List.getElem?_of_mem hq
      exact h.2 i q hi
  · intro ⟨h1, h2⟩
    refine ⟨fun i j x y hi hj hxy => ?_, fun k q hk => h2 q (List.mem_of_getElem? hk)⟩
    rw [List.nodup_iff_pairwise_ne, List.pairwise_iff_getElem] at h1
    have li := (List.getElem?_eq_some_iff.mp hi).1
    have lj := (List.getElem?_eq_some_iff.mp hj).1
    have ei := (List.getElem?_eq_some_iff.mp hi).2
    have ej := (List.getElem?_eq_some_iff.mp hj).2
    rcases Nat.lt_trichotomy i j with q | q | q
    · have := h1 i j (by simpa using li) (by simpa using lj) q
      rw [List.getElem_map, List.getElem_map, ei, ej] at this
      exact absurd hxy this
    · exact q
    · have := h1 j i (by simpa using lj) (by simpa using li) q
      rw [List.getElem_map, List.getElem_map, ei, ej] at this
      exact absurd hxy.symm this
theorem lm_D_perm {A : Nat → Prop} {w1 w2 : va_W} (hp : w1.Perm w2) (h : va_D A w1) : va_D A w2 := by
  rw [lm_D_iff] at h ⊢
  exact ⟨(hp.map _).nodup_iff.mp h.1, fun q hq => h.2 q (hp.mem_iff.mpr hq)⟩
theorem lm_P_perm {D : va_G} {cl : List vw_C} {w1 w2 : va_W} {H : Heap} (hp : w1.Perm w2) (h : va_P D cl w1 H) : va_P D cl w2 H := lm_P_sub h fun _ hq => hp.mem_iff.mpr hq
theorem lm_A_perm {w1 w2 : va_W} {sz q : Nat} (hp : w1.Perm w2) (h : va_A w1 sz q) : va_A w2 sz q := by
  rcases h with ⟨k, e, hk⟩ | h
  · obtain ⟨i, hi⟩ := List.getElem?_of_mem (hp.mem_iff.mp (List.mem_of_getElem? hk))
    exact Or.inl ⟨i, e, hi⟩
  · exact Or.inr h
/-- the frame rule, with the callee's cells ahead -/
theorem lm_frame {A0 : Nat → Prop} {D : va_G} {cl : List vw_C} {wc wr w1 : va_W} {H H1 : Heap} (hP : va_P D cl (wc ++ wr) H) (hD : va_D A0 (wc ++ wr)) (hk : ∀ q : Nat, q < H.size → ¬ va_A wc H.size q → H1[q]? = H[q]?) (hF : ∀ q, va_A wc H.size q → A0 q) (hP1 : va_P D cl w1 H1) (hD1 : va_D (va_A wc H.size) w1) : va_P D cl (w1 ++ wr) H1 ∧ va_D A0 (w1 ++ wr) := by
  have hDi := lm_D_iff.mp hD
  have hD1i := lm_D_iff.mp hD1
  have hnd := hDi.1
  rw [List.map_append, List.nodup_append] at hnd
  obtain ⟨-, n2, n3⟩ := hnd
  have apart : ∀ q ∈ wr, q.1 < H.size ∧ ¬ va_A wc H.size q.1 := by
    intro q hq
    have hl := (lm_P_mem hP (List.mem_append_right wc hq)).lt
    refine ⟨hl, fun h => ?_⟩
    rcases h with ⟨k, e, h⟩ | h
    · exact n3 q.1 (List.mem_map.mpr ⟨_, List.mem_of_getElem? h, rfl⟩) q.1 (List.mem_map.mpr ⟨q, hq, rfl⟩) rfl
    · omega
  refine ⟨va_P.app hP1 (lm_P_of fun q hq => ?_), lm_D_iff.mpr ⟨?_, fun q hq => ?_⟩⟩
  · obtain ⟨g1, g2⟩ := apart q hq
    exact (lm_P_mem hP (List.mem_append_right wc hq)).kept (hk q.1 g1 g2)
  · rw [List.map_append, List.nodup_append]
    refine ⟨hD1i.1, n2, fun a ha b hb hab => ?_⟩
    obtain ⟨x, hx, rfl⟩ := List.mem_map.mp ha
    obtain ⟨y, hy, rfl⟩ := List.mem_map.mp hb
    exact (apart y hy).2 (hab ▸ hD1i.2 x hx)
  · rcases List.mem_append.mp hq with h | h
    · exact hF _ (hD1i.2 q h)
    · exact hDi.2 q (List.mem_append_right wc h)
/-! the two tables of State that nobody writes -/
def lm_hsI : Nat → Int32 := fun j => match j with
  | 0 => 60
  | 1 => 2
  | 2 => 2
  | _ => 99
def lm_fsI : Nat → Int32 := fun j => match j with
  | 0 => 12
  | 4 => 99
  | _ => 0
def lm_Zs (A : Nat → Prop) (U : State) (H : Heap) : Prop := (∃ t : Nat, va_Z RX4 "HIGHEST_SETTINGS" "[I" (.ref t) A U H ∧ va_T .int t 5 (fun j => .int (lm_hsI j)) A U H) ∧ ∃ t : Nat, va_Z RX4 "FIRST_SETTINGS" "[I" (.ref t) A U H ∧ va_T .int t 5 (fun j => .int (lm_fsI j)) A U H
theorem lm_Zs.moved {A : Nat → Prop} {u U : State} {H : Heap} (hvm : u.vm.Alike U.vm) (h : lm_Zs A u H) : lm_Zs A U H := by
  obtain ⟨⟨t, h1, h2⟩, t', h3, h4⟩ := h
  exact ⟨⟨t, h1.moved hvm, h2.moved hvm⟩, t', h3.moved hvm, h4.moved hvm⟩
theorem lm_Zs.kept {A : Nat → Prop} {U : State} {H H1 : Heap} (h : lm_Zs A U H) (hq : ∀ a : Nat, a < H.size → ¬ A a → H1[a]? = H[a]?) : lm_Zs A U H1 := by
  obtain ⟨⟨t, h1, h2⟩, t', h3, h4⟩ := h
  exact ⟨⟨t, h1.kept hq, h2.kept hq⟩, t', h3.kept hq, h4.kept hq⟩
theorem lm_Zs.narrow {A B : Nat → Prop} {U : State} {H : Heap} (h : lm_Zs A U H) (hAB : ∀ q, B q → A q) : lm_Zs B U H := by
  obtain ⟨⟨t, h1, h2⟩, t', h3, h4⟩ := h
  exact ⟨⟨t, h1.narrow hAB, h2.narrow hAB⟩, t', h3.narrow hAB, h4.narrow hAB⟩
def lm_AZ (A : Nat → Prop) (s : State) : Prop := (∀ q, s.heap.size ≤ q → A q) ∧ lm_Zs A s s.heap
/-! contracts -/
def lm_Pc (D : va_G) (z zo : ClassId) (As : List Value) (w : va_W) (sz : Nat) : Array Value → State → Prop := va_Pc As (fun U => U.heap.size = sz ∧ va_P D vwCl w U.heap ∧ va_K D vwCl (lm_tys z zo) U ∧ lm_NW U ∧ va_D (fun _ => True) w ∧ lm_Zs (va_A w sz) U U.heap)
def lm_Q (D : va_G) (rv : Option Value) (w w' : va_W) (sz : Nat) : Array Value → State → Outcome → State → Prop := fun _ st oc t => (oc = .returned rv ∧ va_P D vwCl w' t.heap ∧ va_D (va_A w sz) w') ∧ va_F (va_A w sz) st t
def lm_C (D : va_G) (z zo : ClassId) (l : Launch) (y : MethodName) (ws : List Cond) (fr lo : Nat) (As : List Value) (w : va_W) (rv : Option Value) (w' : va_W) : Prop :=
  ∀ sz : Nat, Met l y ws ({ frames := fr, cells := 0, slots := 0, locals := lo }) (lm_Pc D z zo As w sz) (lm_Q D rv w w' sz) 0 0 (va_A w sz)
def lm_PcR (D : va_G) (z zo : ClassId) (As : List Value) (w : va_W) : Array Value → State → Prop := va_Pc As (fun U => va_P D vwCl w U.heap ∧ va_K D vwCl (lm_tys z zo) U ∧ lm_NW U)
def lm_QR (rv : Option Value) : Array Value → State → Outcome → State → Prop := fun _ st oc t => oc = .returned rv ∧ t.heap = st.heap
def lm_CR (D : va_G) (z zo : ClassId) (l : Launch) (y : MethodName) (ws : List Cond) (fr lo : Nat) (As : List Value) (w : va_W) (rv : Option Value) : Prop :=
  Met l y ws ({ frames := fr, cells := 0, slots := 0, locals := lo }) (lm_PcR D z zo As w) (lm_QR rv) 0 0 (fun _ => False)
theorem lm_Pc.blind {D : va_G} {z zo : ClassId} {As : List Value} {w : va_W} {sz : Nat} : FrameBlind (lm_Pc D z zo As w sz) := by
  intro a U g mk ⟨h1, h2, h3, h4, h5, h6, h7⟩
  exact ⟨h1, h2, h3, va_K.moved (u := U) (U := U.calling g mk a) (Vm.Alike.refl U.vm) h4, lm_NW.same (u := U) (U := U.calling g mk a) rfl h5, h6, lm_Zs.moved (u := U) (U := U.calling g mk a) (Vm.Alike.refl U.vm) h7⟩
theorem lm_PcR.blind {D : va_G} {z zo : ClassId} {As : List Value} {w : va_W} : FrameBlind (lm_PcR D z zo As w) := by
  intro a U g mk ⟨h1, h3, h4, h5⟩
  exact ⟨h1, h3, va_K.moved (u := U) (U := U.calling g mk a) (Vm.Alike.refl U.vm) h4, lm_NW.same (u := U) (U := U.calling g mk a) rfl h5⟩
abbrev lm_End (below : List Frame) (D : va_G) (rv : Option Value) (w w' : va_W) (args : Array Value) (s : State) : State → Prop := MQ below (lm_Q D rv w w' s.heap.size) args s 0 0 (va_A w s.heap.size)
abbrev lm_EndR (below : List Frame) (rv : Option Value) (args : Array Value) (s : State) : State → Prop := MQ below (lm_QR rv) args s 0 0 (fun _ => False)
theorem lm_C.of {D : va_G} {z zo : ClassId} {l : Launch} {y : MethodName} {ws ws' : List Cond} {fr lo : Nat} {As : List Value} {w : va_W} {rv : Option Value} {w' : va_W} {cc : ByteArray} {maxL : Nat} {ret : Option FieldType} {own : String} (hy : plainName y.cls = true) (hw : ws = Cond.code y cc maxL ret :: ws') (hlen : (lg_sl As).length ≤ maxL) (hown : y.cls = own)
    (body : ∀ (p : Program) (e : Env) (s : State) (m : MethodId) (args : Array Value) (below : List Frame) (meth : Method) (c : Code), lm_Cx p s m args c D z zo maxL own ws cc → meth.sig.returnType = ret → meth.locks = false → lm_AZ (va_A w s.heap.size) s →
      lm_St p l e ({ frames := fr, cells := 0, slots := 0, locals := lo }) s m args below meth c D (va_A w s.heap.size) maxL 0 0 (lm_End below D rv w w' args s) false w 0 (lv_args 0 As) []) : lm_C D z zo l y ws fr lo As w rv w' := by
  intro sz
  refine Met.ofW (cc := cc) (maxL := maxL) (ret := ret) hy hw ?_
  intro p e s m args below meth c s₁ B hml hv
  obtain ⟨rfl, hsz, hP, hK, hN, hD0, hZ⟩ := hv
  subst hsz
  have hts := atoms_spec (ws := ws) B.pre
  have hown2 : s.vm.findClass own = some m.cls := by rw [← hown]; exact findClass_of_methodNamed B.named
  have hl := lv_entry As (n := maxL) hlen
  rw [lg_entry_eq]
  exact body p e s m As.toArray below meth c ⟨B.exec, B.bytes, hml, hown2, hts, hK, hN⟩ B.returns B.notSynchronized ⟨fun q h => Or.inr h, hZ⟩ s.heap [] _ ⟨hP, fun h => (by cases h), fun _ => ⟨hD0.self, va_S.rf⟩⟩ hl
theorem lm_CR.of {D : va_G} {z zo : ClassId} {l : Launch} {y : MethodName} {ws ws' : List Cond} {fr lo : Nat} {As : List Value} {w : va_W} {rv : Option Value} {cc : ByteArray} {maxL : Nat} {ret : Option FieldType} {own : String} (hy : plainName y.cls = true) (hw : ws = Cond.code y cc maxL ret :: ws') (hlen : (lg_sl As).length ≤ maxL) (hown : y.cls = own)
    (body : ∀ (p : Program) (e : Env) (s : State) (m : MethodId) (args : Array Value) (below : List Frame) (meth : Method) (c : Code), lm_Cx p s m args c D z zo maxL own ws cc → meth.sig.returnType = ret → meth.locks = false →
      lm_St p l e ({ frames := fr, cells := 0, slots := 0, locals := lo }) s m args below meth c D (fun _ => False) maxL 0 0 (lm_EndR below rv args s) true w 0 (lv_args 0 As) []) : lm_CR D z zo l y ws fr lo As w rv := by
  refine Met.ofW (cc := cc) (maxL := maxL) (ret := ret) hy hw ?_
  intro p e s m args below meth c s₁ B hml hv
  obtain ⟨rfl, hP, hK, hN⟩ := hv
  have hts := atoms_spec (ws := ws) B.pre
  have hown2 : s.vm.findClass own = some m.cls := by rw [← hown]; exact findClass_of_methodNamed B.named
  have hl := lv_entry As (n := maxL) hlen
  rw [lg_entry_eq]
  exact body p e s m As.toArray below meth c ⟨B.exec, B.bytes, hml, hown2, hts, hK, hN⟩ B.returns B.notSynchronized s.heap [] _ ⟨hP, fun _ => ⟨rfl, rfl⟩, fun h => (by cases h)⟩ hl
section LM
variable {p : Program} {l : Launch} {e : Env} {R : Room} {s : State} {m : MethodId} {args : Array Value} {below : List Frame} {meth : Method} {c : Code} {D : va_G} {z zo : ClassId} {A : Nat → Prop} {nL ce sl : Nat} {Q : State → Prop} {own : String} {Ts : List Cond} {cc : ByteArray} {ro : Bool} {w w' : va_W} {pc pc' : Nat} {lv lv' : Lv} {st : List Value}
theorem lm_iconst (C : lm_Cx p s m args c D z zo nL own Ts cc) {n : Int} {v : Int32} (hd : decode cc pc = .ok (.iconst n, 1)) (hv : Int32.ofInt n = v) (hpc : pc + 1 = pc') (K : lm_St p l e R s m args below meth c D A nL ce sl Q ro w pc' lv (.int v :: st)) : lm_St p l e R s m args below meth c D A nL ce sl Q ro w pc lv st := by
  subst hpc
  exact fun H locs ls hI hL => lv_iconst C.1 C.2.1 hd hv (K H locs ls hI hL)
theorem lm_bipush (C : lm_Cx p s m args c D z zo nL own Ts cc) {n : Int} {v : Int32} (hd : decode cc pc = .ok (.bipush n, 2)) (hv : (Int8.ofInt n).toInt32 = v) (hpc : pc + 2 = pc') (K : lm_St p l e R s m args below meth c D A nL ce sl Q ro w pc' lv (.int v :: st)) : lm_St p l e R s m args below meth c D A nL ce sl Q ro w pc lv st := by
  subst hpc
  exact fun H locs ls hI hL => lv_bipush C.1 C.2.1 hd hv (K H locs ls hI hL)
theorem lm_sipush (C : lm_Cx p s m args c D z zo nL own Ts cc) {n : Int} {v : Int32} (hd : decode cc pc = .ok (.sipush n, 3)) (hv : (Int16.ofInt n).toInt32 = v) (hpc : pc + 3 = pc') (K : lm_St p l e R s m args below meth c D A nL ce sl Q ro w pc' lv (.int v :: st)) : lm_St p l e R s m args below meth c D A nL ce sl Q ro w pc lv st := by
  subst hpc
  exact fun H locs ls hI hL => lv_sipush C.1 C.2.1 hd hv (K H locs ls hI hL)
theorem lm_iload_n (C : lm_Cx p s m args c D z zo nL own Ts cc) {k : Fin 4} {i : Nat} {x : Int32} (hd : decode cc pc = .ok (.iload_n k, 1)) (hi : (k : Nat) = i) (q : Nat) (hl : lv[q]? = some (i, .int x)) (hpc : pc + 1 = pc') (K : lm_St p l e R s m args below meth c D A nL ce sl Q ro w pc' lv (.int x :: st)) : lm_St p l e R s m args below meth c D A nL ce sl Q ro w pc lv st := by
  subst hpc
  exact fun H locs ls hI hL => lv_iload_n C.1 C.2.1 hd hi (lv_at hL q hl) (K H locs ls hI hL)
theorem lm_iload (C : lm_Cx p s m args c D z zo nL own Ts cc) {i : Nat} {x : Int32} (hd : decode cc pc = .ok (.iload i, 2)) (q : Nat) (hl : lv[q]? = some (i, .int x)) (hpc : pc + 2 = pc') (K : lm_St p l e R s m args below meth c D A nL ce sl Q ro w pc' lv (.int x :: st)) : lm_St p l e R s m args below meth c D A nL ce sl Q ro w pc lv st := by
  subst hpc
  exact fun H locs ls hI hL => lv_iload C.1 C.2.1 hd (lv_at hL q hl) (K H locs ls hI hL)
theorem lm_aload_n (C : lm_Cx p s m args c D z zo nL own Ts cc) {k : Fin 4} {i : Nat} {x : Nat} (hd : decode cc pc = .ok (.aload_n k, 1)) (hi : (k : Nat) = i) (q : Nat) (hl : lv[q]? = some (i, .ref x)) (hpc : pc + 1 = pc') (K : lm_St p l e R s m args below meth c D A nL ce sl Q ro w pc' lv (.ref x :: st)) : lm_St p l e R s m args below meth c D A nL ce sl Q ro w pc lv st := by
  subst hpc
  exact fun H locs ls hI hL => lv_aload_n C.1 C.2.1 hd hi (lv_at hL q hl) (K H locs ls hI hL)
theorem lm_aload (C : lm_Cx p s m args c D z zo nL own Ts cc) {i : Nat} {x : Nat} (hd : decode cc pc = .ok (.aload i, 2)) (q : Nat) (hl : lv[q]? = some (i, .ref x)) (hpc : pc + 2 = pc') (K : lm_St p l e R s m args below meth c D A nL ce sl Q ro w pc' lv (.ref x :: st)) : lm_St p l e R s m args below meth c D A nL ce sl Q ro w pc lv st := by
  subst hpc
  exact fun H locs ls hI hL => lv_aload C.1 C.2.1 hd (lv_at hL q hl) (K H locs ls hI hL)
theorem lm_istore_n (C : lm_Cx p s m args c D z zo nL own Ts cc) {k : Fin 4} {i : Nat} {x : Int32} {lv1 : Lv} (hd : decode cc pc = .ok (.istore_n k, 1)) (hi : (k : Nat) = i) (hn : i < nL) (hl : (i, Value.int x) :: lv.filter (fun q => !(q.1 == i) && !(q.1 + 1 == i && q.2.category == 2)) = lv1) (ks : List Nat) (hq : lv_pick lv1 ks = lv') (hpc : pc + 1 = pc') (K : lm_St p l e R s m args below meth c D A nL ce sl Q ro w pc' lv' st) : lm_St p l e R s m args below meth c D A nL ce sl Q ro w pc lv (Value.int x :: st) := by
  subst hpc
  exact fun H locs ls hI hL => lv_istore_n C.1 C.2.1 hd hi hL hn hl (fun ls hl => K H locs ls hI (lv_sub hl ks hq))
theorem lm_istore (C : lm_Cx p s m args c D z zo nL own Ts cc) {i : Nat} {x : Int32} {lv1 : Lv} (hd : decode cc pc = .ok (.istore i, 2)) (hn : i < nL) (hl : (i, Value.int x) :: lv.filter (fun q => !(q.1 == i) && !(q.1 + 1 == i && q.2.category == 2)) = lv1) (ks : List Nat) (hq : lv_pick lv1 ks = lv') (hpc : pc + 2 = pc') (K : lm_St p l e R s m args below meth c D A nL ce sl Q ro w pc' lv' st) : lm_St p l e R s m args below meth c D A nL ce sl Q ro w pc lv (Value.int x :: st) := by
  subst hpc
  exact fun H locs ls hI hL => lv_istore C.1 C.2.1 hd hL hn hl (fun ls hl => K H locs ls hI (lv_sub hl ks hq))
theorem lm_astore_n (C : lm_Cx p s m args c D z zo nL own Ts cc) {k : Fin 4} {i : Nat} {x : Nat} {lv1 : Lv} (hd : decode cc pc = .ok (.astore_n k, 1)) (hi : (k : Nat) = i) (hn : i < nL) (hl : (i, Value.ref x) :: lv.filter (fun q => !(q.1 == i) && !(q.1 + 1 == i && q.2.category == 2)) = lv1) (ks : List Nat) (hq : lv_pick lv1 ks = lv') (hpc : pc + 1 = pc') (K : lm_St p l e R s m args below meth c D A nL ce sl Q ro w pc' lv' st) : lm_St p l e R s m args below meth c D A nL ce sl Q ro w pc lv (Value.ref x :: st) := by
  subst hpc
  exact fun H locs ls hI hL => lv_astore_n C.1 C.2.1 hd hi hL hn hl (fun ls hl => K H locs ls hI (lv_sub hl ks hq))
theorem lm_astore (C : lm_Cx p s m args c D z zo nL own Ts cc) {i : Nat} {x : Nat} {lv1 : Lv} (hd : decode cc pc = .ok (.astore i, 2)) (hn : i < nL) (hl : (i, Value.ref x) :: lv.filter (fun q => !(q.1 == i) && !(q.1 + 1 == i && q.2.category == 2)) = lv1) (ks : List Nat) (hq : lv_pick lv1 ks = lv') (hpc : pc + 2 = pc') (K : lm_St p l e R s m args below meth c D A nL ce sl Q ro w pc' lv' st) : lm_St p l e R s m args below meth c D A nL ce sl Q ro w pc lv (Value.ref x :: st) := by
  subst hpc
  exact fun H locs ls hI hL => lv_astore C.1 C.2.1 hd hL hn hl (fun ls hl => K H locs ls hI (lv_sub hl ks hq))
theorem lm_iinc (C : lm_Cx p s m args c D z zo nL own Ts cc) {i : Nat} {n : Int} {x : Int32} (v : Int32) {lv1 : Lv} (hd : decode cc pc = .ok (.iinc i n, 3)) (k : Nat) (hk : lv[k]? = some (i, .int x)) (hv : x + Int32.ofInt n = v) (hn : i < nL) (hl : (i, Value.int v) :: lv.filter (fun q => !(q.1 == i) && !(q.1 + 1 == i && q.2.category == 2)) = lv1) (ks : List Nat) (hq : lv_pick lv1 ks = lv') (hpc : pc + 3 = pc') (K : lm_St p l e R s m args below meth c D A nL ce sl Q ro w pc' lv' st) : lm_St p l e R s m args below meth c D A nL ce sl Q ro w pc lv st := by
  subst hpc
  exact fun H locs ls hI hL => lv_iinc C.1 C.2.1 hd hL hk hv hn hl (fun ls hl => K H locs ls hI (lv_sub hl ks hq))
theorem lm_iadd (C : lm_Cx p s m args c D z zo nL own Ts cc) {x y v : Int32} (hd : decode cc pc = .ok (.iadd, 1)) (hv : x + y = v) (hpc : pc + 1 = pc') (K : lm_St p l e R s m args below meth c D A nL ce sl Q ro w pc' lv (.int v :: st)) : lm_St p l e R s m args below meth c D A nL ce sl Q ro w pc lv (.int y :: .int x :: st) := by
  subst hpc
  exact fun H locs ls hI hL => lv_iadd C.1 C.2.1 hd (by rw [hv]; exact K H locs ls hI hL)
theorem lm_isub (C : lm_Cx p s m args c D z zo nL own Ts cc) {x y v : Int32} (hd : decode cc pc = .ok (.isub, 1)) (hv : x - y = v) (hpc : pc + 1 = pc') (K : lm_St p l e R s m args below meth c D A nL ce sl Q ro w pc' lv (.int v :: st)) : lm_St p l e R s m args below meth c D A nL ce sl Q ro w pc lv (.int y :: .int x :: st) := by
  subst hpc
  exact fun H locs ls hI hL => lv_isub C.1 C.2.1 hd (by rw [hv]; exact K H locs ls hI hL)
theorem lm_imul (C : lm_Cx p s m args c D z zo nL own Ts cc) {x y v : Int32} (hd : decode cc pc = .ok (.imul, 1)) (hv : x * y = v) (hpc : pc + 1 = pc') (K : lm_St p l e R s m args below meth c D A nL ce sl Q ro w pc' lv (.int v :: st)) : lm_St p l e R s m args below meth c D A nL ce sl Q ro w pc lv (.int y :: .int x :: st) := by
  subst hpc
  exact fun H locs ls hI hL => lv_imul C.1 C.2.1 hd (by rw [hv]; exact K H locs ls hI hL)
theorem lm_iand (C : lm_Cx p s m args c D z zo nL own Ts cc) {x y v : Int32} (hd : decode cc pc = .ok (.iand, 1)) (hv : x &&& y = v) (hpc : pc + 1 = pc') (K : lm_St p l e R s m args below meth c D A nL ce sl Q ro w pc' lv (.int v :: st)) : lm_St p l e R s m args below meth c D A nL ce sl Q ro w pc lv (.int y :: .int x :: st) := by
  subst hpc
  exact fun H locs ls hI hL => lv_iand C.1 C.2.1 hd (by rw [hv]; exact K H locs ls hI hL)
theorem lm_irem (C : lm_Cx p s m args c D z zo nL own Ts cc) {x y v : Int32} (hd : decode cc pc = .ok (.irem, 1)) (hne : ¬ y = 0) (hv : x - x / y * y = v) (hpc : pc + 1 = pc') (K : lm_St p l e R s m args below meth c D A nL ce sl Q ro w pc' lv (.int v :: st)) : lm_St p l e R s m args below meth c D A nL ce sl Q ro w pc lv (.int y :: .int x :: st) := by
  subst hpc
  exact fun H locs ls hI hL => lv_irem C.1 C.2.1 hd hne (by rw [hv]; exact K H locs ls hI hL)
theorem lm_dup (C : lm_Cx p s m args c D z zo nL own Ts cc) {va : Value} (hd : decode cc pc = .ok (.dup, 1)) (hva : va.category = 1) (hpc : pc + 1 = pc') (K : lm_St p l e R s m args below meth c D A nL ce sl Q ro w pc' lv (va :: va :: st)) : lm_St p l e R s m args below meth c D A nL ce sl Q ro w pc lv (va :: st) := by
  subst hpc
  exact fun H locs ls hI hL => lv_dup C.1 C.2.1 hd hva (K H locs ls hI hL)
theorem lm_dup2 (C : lm_Cx p s m args c D z zo nL own Ts cc) {va vb : Value} (hd : decode cc pc = .ok (.dup2, 1)) (hva : va.category = 1) (hvb : vb.category = 1) (hpc : pc + 1 = pc') (K : lm_St p l e R s m args below meth c D A nL ce sl Q ro w pc' lv (va :: vb :: va :: vb :: st)) : lm_St p l e R s m args below meth c D A nL ce sl Q ro w pc lv (va :: vb :: st) := by
  subst hpc
  exact fun H locs ls hI hL => lv_dup2_11 C.1 C.2.1 hd hva hvb (K H locs ls hI hL)
theorem lm_pop (C : lm_Cx p s m args c D z zo nL own Ts cc) {va : Value} (hd : decode cc pc = .ok (.pop, 1)) (hva : va.category = 1) (hpc : pc + 1 = pc') (K : lm_St p l e R s m args below meth c D A nL ce sl Q ro w pc' lv st) : lm_St p l e R s m args below meth c D A nL ce sl Q ro w pc lv (va :: st) := by
  subst hpc
  exact fun H locs ls hI hL => lv_pop C.1 C.2.1 hd hva (K H locs ls hI hL)
theorem lm_aconst_null (C : lm_Cx p s m args c D z zo nL own Ts cc) (hd : decode cc pc = .ok (.aconst_null, 1)) (hpc : pc + 1 = pc') (K : lm_St p l e R s m args below meth c D A nL ce sl Q ro w pc' lv (.null :: st)) : lm_St p l e R s m args below meth c D A nL ce sl Q ro w pc lv st := by
  subst hpc
  exact fun H locs ls hI hL => lv_null C.1 C.2.1 hd (K H locs ls hI hL)
theorem lm_i2l (C : lm_Cx p s m args c D z zo nL own Ts cc) {x : Int32} {v : Int64} (hd : decode cc pc = .ok (.i2l, 1)) (hv : x.toInt64 = v) (hpc : pc + 1 = pc') (K : lm_St p l e R s m args below meth c D A nL ce sl Q ro w pc' lv (.long v :: st)) : lm_St p l e R s m args below meth c D A nL ce sl Q ro w pc lv (.int x :: st) := by
  subst hpc
  exact fun H locs ls hI hL => lv_i2l C.1 C.2.1 hd hv (K H locs ls hI hL)
theorem lm_lconst (C : lm_Cx p s m args c D z zo nL own Ts cc) {n : Fin 2} {v : Int64} (hd : decode cc pc = .ok (.lconst n, 1)) (hv : Int64.ofNat (n : Nat) = v) (hpc : pc + 1 = pc') (K : lm_St p l e R s m args below meth c D A nL ce sl Q ro w pc' lv (.long v :: st)) : lm_St p l e R s m args below meth c D A nL ce sl Q ro w pc lv st := by
  subst hpc
  exact fun H locs ls hI hL => lv_lconst C.1 C.2.1 hd hv (K H locs ls hI hL)
theorem lm_lshl (C : lm_Cx p s m args c D z zo nL own Ts cc) {x v : Int64} {y : Int32} (hd : decode cc pc = .ok (.lshl, 1)) (hv : x <<< (y.toInt64 &&& 63) = v) (hpc : pc + 1 = pc') (K : lm_St p l e R s m args below meth c D A nL ce sl Q ro w pc' lv (.long v :: st)) : lm_St p l e R s m args below meth c D A nL ce sl Q ro w pc lv (.int y :: .long x :: st) := by
  subst hpc
  exact fun H locs ls hI hL => lv_lshl C.1 C.2.1 hd hv (K H locs ls hI hL)
theorem lm_ladd (C : lm_Cx p s m args c D z zo nL own Ts cc) {x y v : Int64} (hd : decode cc pc = .ok (.ladd, 1)) (hv : x + y = v) (hpc : pc + 1 = pc') (K : lm_St p l e R s m args below meth c D A nL ce sl Q ro w pc' lv (.long v :: st)) : lm_St p l e R s m args below meth c D A nL ce sl Q ro w pc lv (.long y :: .long x :: st) := by
  subst hpc
  exact fun H locs ls hI hL => lv_ladd C.1 C.2.1 hd (by rw [hv]; exact K H locs ls hI hL)
theorem lm_lcmp (C : lm_Cx p s m args c D z zo nL own Ts cc) {x y : Int64} {v : Int32} (hd : decode cc pc = .ok (.lcmp, 1)) (hv : lg_cmp x y = v) (hpc : pc + 1 = pc') (K : lm_St p l e R s m args below meth c D A nL ce sl Q ro w pc' lv (.int v :: st)) : lm_St p l e R s m args below meth c D A nL ce sl Q ro w pc lv (.long y :: .long x :: st) := by
  subst hpc
  exact fun H locs ls hI hL => W.lcmp C.1 C.2.1 hd (by rw [hv]; exact K H locs ls hI hL)
theorem lm_lvsub (ks : List Nat) (hq : lv_pick lv ks = lv') (K : lm_St p l e R s m args below meth c D A nL ce sl Q ro w pc lv' st) : lm_St p l e R s m args below meth c D A nL ce sl Q ro w pc lv st := fun H locs ls hI hL => K H locs ls hI (lv_sub hL ks hq)
theorem lm_if_eq (C : lm_Cx p s m args c D z zo nL own Ts cc) {x : Int32} {off : Int} {tgt : Nat} (hd : decode cc pc = .ok (.ifCond .eq off, 3)) (ht : (pc : Int) + off = (tgt : Int)) (hpc : pc + 3 = pc') (kt : x = 0 → lm_St p l e R s m args below meth c D A nL ce sl Q ro w tgt lv st) (kf : ¬ (x = 0) → lm_St p l e R s m args below meth c D A nL ce sl Q ro w pc' lv st) : lm_St p l e R s m args below meth c D A nL ce sl Q ro w pc lv (.int x :: st) := by
  subst hpc
  exact fun H locs ls hI hL => lv_if_eq C.1 C.2.1 hd ht (fun h => kt h H locs ls hI hL) (fun h => kf h H locs ls hI hL)
theorem lm_if_ne (C : lm_Cx p s m args c D z zo nL own Ts cc) {x : Int32} {off : Int} {tgt : Nat} (hd : decode cc pc = .ok (.ifCond .ne off, 3)) (ht : (pc : Int) + off = (tgt : Int)) (hpc : pc + 3 = pc') (kt : ¬ x = 0 → lm_St p l e R s m args below meth c D A nL ce sl Q ro w tgt lv st) (kf : ¬ (¬ x = 0) → lm_St p l e R s m args below meth c D A nL ce sl Q ro w pc' lv st) : lm_St p l e R s m args below meth c D A nL ce sl Q ro w pc lv (.int x :: st) := by
  subst hpc
  exact fun H locs ls hI hL => lv_if_ne C.1 C.2.1 hd ht (fun h => kt h H locs ls hI hL) (fun h => kf (not_not_intro h) H locs ls hI hL)
theorem lm_if_lt (C : lm_Cx p s m args c D z zo nL own Ts cc) {x : Int32} {off : Int} {tgt : Nat} (hd : decode cc pc = .ok (.ifCond .lt off, 3)) (ht : (pc : Int) + off = (tgt : Int)) (hpc : pc + 3 = pc') (kt : x < 0 → lm_St p l e R s m args below meth c D A nL ce sl Q ro w tgt lv st) (kf : ¬ (x < 0) → lm_St p l e R s m args below meth c D A nL ce sl Q ro w pc' lv st) : lm_St p l e R s m args below meth c D A nL ce sl Q ro w pc lv (.int x :: st) := by
  subst hpc
  exact fun H locs ls hI hL => lv_if_lt C.1 C.2.1 hd ht (fun h => kt h H locs ls hI hL) (fun h => kf h H locs ls hI hL)
theorem lm_if_ge (C : lm_Cx p s m args c D z zo nL own Ts cc) {x : Int32} {off : Int} {tgt : Nat} (hd : decode cc pc = .ok (.ifCond .ge off, 3)) (ht : (pc : Int) + off = (tgt : Int)) (hpc : pc + 3 = pc') (kt : 0 ≤ x → lm_St p l e R s m args below meth c D A nL ce sl Q ro w tgt lv st) (kf : ¬ (0 ≤ x) → lm_St p l e R s m args below meth c D A nL ce sl Q ro w pc' lv st) : lm_St p l e R s m args below meth c D A nL ce sl Q ro w pc lv (.int x :: st) := by
  subst hpc
  exact fun H locs ls hI hL => lv_if_ge C.1 C.2.1 hd ht (fun h => kt h H locs ls hI hL) (fun h => kf h H locs ls hI hL)
theorem lm_if_gt (C : lm_Cx p s m args c D z zo nL own Ts cc) {x : Int32} {off : Int} {tgt : Nat} (hd : decode cc pc = .ok (.ifCond .gt off, 3)) (ht : (pc : Int) + off = (tgt : Int)) (hpc : pc + 3 = pc') (kt : 0 < x → lm_St p l e R s m args below meth c D A nL ce sl Q ro w tgt lv st) (kf : ¬ (0 < x) → lm_St p l e R s m args below meth c D A nL ce sl Q ro w pc' lv st) : lm_St p l e R s m args below meth c D A nL ce sl Q ro w pc lv (.int x :: st) := by
  subst hpc
  exact fun H locs ls hI hL => lv_if_gt C.1 C.2.1 hd ht (fun h => kt h H locs ls hI hL) (fun h => kf h H locs ls hI hL)
theorem lm_if_le (C : lm_Cx p s m args c D z zo nL own Ts cc) {x : Int32} {off : Int} {tgt : Nat} (hd : decode cc pc = .ok (.ifCond .le off, 3)) (ht : (pc : Int) + off = (tgt : Int)) (hpc : pc + 3 = pc') (kt : x ≤ 0 → lm_St p l e R s m args below meth c D A nL ce sl Q ro w tgt lv st) (kf : ¬ (x ≤ 0) → lm_St p l e R s m args below meth c D A nL ce sl Q ro w pc' lv st) : lm_St p l e R s m args below meth c D A nL ce sl Q ro w pc lv (.int x :: st) := by
  subst hpc
  exact fun H locs ls hI hL => lv_if_le C.1 C.2.1 hd ht (fun h => kt h H locs ls hI hL) (fun h => kf h H locs ls hI hL)
theorem lm_icmp_eq (C : lm_Cx p s m args c D z zo nL own Ts cc) {x y : Int32} {off : Int} {tgt : Nat} (hd : decode cc pc = .ok (.if_icmp .eq off, 3)) (ht : (pc : Int) + off = (tgt : Int)) (hpc : pc + 3 = pc') (kt : x = y → lm_St p l e R s m args below meth c D A nL ce sl Q ro w tgt lv st) (kf : ¬ (x = y) → lm_St p l e R s m args below meth c D A nL ce sl Q ro w pc' lv st) : lm_St p l e R s m args below meth c D A nL ce sl Q ro w pc lv (.int y :: .int x :: st) := by
  subst hpc
  exact fun H locs ls hI hL => lv_icmp_eq C.1 C.2.1 hd ht (fun h => kt h H locs ls hI hL) (fun h => kf h H locs ls hI hL)
theorem lm_icmp_ne (C : lm_Cx p s m args c D z zo nL own Ts cc) {x y : Int32} {off : Int} {tgt : Nat} (hd : decode cc pc = .ok (.if_icmp .ne off, 3)) (ht : (pc : Int) + off = (tgt : Int)) (hpc : pc + 3 = pc') (kt : ¬ x = y → lm_St p l e R s m args below meth c D A nL ce sl Q ro w tgt lv st) (kf : ¬ (¬ x = y) → lm_St p l e R s m args below meth c D A nL ce sl Q ro w pc' lv st) : lm_St p l e R s m args below meth c D A nL ce sl Q ro w pc lv (.int y :: .int x :: st) := by
  subst hpc
  exact fun H locs ls hI hL => lv_icmp_ne C.1 C.2.1 hd ht (fun h => kt h H locs ls hI hL) (fun h => kf (not_not_intro h) H locs ls hI hL)
theorem lm_icmp_lt (C : lm_Cx p s m args c D z zo nL own Ts cc) {x y : Int32} {off : Int} {tgt : Nat} (hd : decode cc pc = .ok (.if_icmp .lt off, 3)) (ht : (pc : Int) + off = (tgt : Int)) (hpc : pc + 3 = pc') (kt : x < y → lm_St p l e R s m args below meth c D A nL ce sl Q ro w tgt lv st) (kf : ¬ (x < y) → lm_St p l e R s m args below meth c D A nL ce sl Q ro w pc' lv st) : lm_St p l e R s m args below meth c D A nL ce sl Q ro w pc lv (.int y :: .int x :: st) := by
  subst hpc
  exact fun H locs ls hI hL => lv_icmp_lt C.1 C.2.1 hd ht (fun h => kt h H locs ls hI hL) (fun h => kf h H locs ls hI hL)
theorem lm_icmp_ge (C : lm_Cx p s m args c D z zo nL own Ts cc) {x y : Int32} {off : Int} {tgt : Nat} (hd : decode cc pc = .ok (.if_icmp .ge off, 3)) (ht : (pc : Int) + off = (tgt : Int)) (hpc : pc + 3 = pc') (kt : y ≤ x → lm_St p l e R s m args below meth c D A nL ce sl Q ro w tgt lv st) (kf : ¬ (y ≤ x) → lm_St p l e R s m args below meth c D A nL ce sl Q ro w pc' lv st) : lm_St p l e R s m args below meth c D A nL ce sl Q ro w pc lv (.int y :: .int x :: st) := by
  subst hpc
  exact fun H locs ls hI hL => lv_icmp_ge C.1 C.2.1 hd ht (fun h => kt h H locs ls hI hL) (fun h => kf h H locs ls hI hL)
theorem lm_icmp_gt (C : lm_Cx p s m args c D z zo nL own Ts cc) {x y : Int32} {off : Int} {tgt : Nat} (hd : decode cc pc = .ok (.if_icmp .gt off, 3)) (ht : (pc : Int) + off = (tgt : Int)) (hpc : pc + 3 = pc') (kt : y < x → lm_St p l e R s m args below meth c D A nL ce sl Q ro w tgt lv st) (kf : ¬ (y < x) → lm_St p l e R s m args below meth c D A nL ce sl Q ro w pc' lv st) : lm_St p l e R s m args below meth c D A nL ce sl Q ro w pc lv (.int y :: .int x :: st) := by
  subst hpc
  exact fun H locs ls hI hL => lv_icmp_gt C.1 C.2.1 hd ht (fun h => kt h H locs ls hI hL) (fun h => kf h H locs ls hI hL)
theorem lm_icmp_le (C : lm_Cx p s m args c D z zo nL own Ts cc) {x y : Int32} {off : Int} {tgt : Nat} (hd : decode cc pc = .ok (.if_icmp .le off, 3)) (ht : (pc : Int) + off = (tgt : Int)) (hpc : pc + 3 = pc') (kt : x ≤ y → lm_St p l e R s m args below meth c D A nL ce sl Q ro w tgt lv st) (kf : ¬ (x ≤ y) → lm_St p l e R s m args below meth c D A nL ce sl Q ro w pc' lv st) : lm_St p l e R s m args below meth c D A nL ce sl Q ro w pc lv (.int y :: .int x :: st) := by
  subst hpc
  exact fun H locs ls hI hL => lv_icmp_le C.1 C.2.1 hd ht (fun h => kt h H locs ls hI hL) (fun h => kf h H locs ls hI hL)
theorem lm_goto (C : lm_Cx p s m args c D z zo nL own Ts cc) {off : Int} {tgt : Nat} (hd : decode cc pc = .ok (.goto off, 3)) (ht : (pc : Int) + off = (tgt : Int)) (K : lm_St p l e R s m args below meth c D A nL ce sl Q ro w tgt lv st) : lm_St p l e R s m args below meth c D A nL ce sl Q ro w pc lv st := fun H locs ls hI hL => lv_goto C.1 C.2.1 hd ht (K H locs ls hI hL)
theorem lm_ifnonnull (C : lm_Cx p s m args c D z zo nL own Ts cc) {x : Nat} {off : Int} {tgt : Nat} (hd : decode cc pc = .ok (.ifnonnull off, 3)) (ht : (pc : Int) + off = (tgt : Int)) (K : lm_St p l e R s m args below meth c D A nL ce sl Q ro w tgt lv st) : lm_St p l e R s m args below meth c D A nL ce sl Q ro w pc lv (.ref x :: st) := fun H locs ls hI hL => lv_ifnonnull C.1 C.2.1 hd ht (K H locs ls hI hL)
theorem lm_ifnonnullN (C : lm_Cx p s m args c D z zo nL own Ts cc) {off : Int} (hd : decode cc pc = .ok (.ifnonnull off, 3)) (hpc : pc + 3 = pc') (K : lm_St p l e R s m args below meth c D A nL ce sl Q ro w pc' lv st) : lm_St p l e R s m args below meth c D A nL ce sl Q ro w pc lv (.null :: st) := by
  subst hpc
  exact fun H locs ls hI hL => lv_ifnonnullN C.1 C.2.1 hd (K H locs ls hI hL)
theorem lm_ifnull (C : lm_Cx p s m args c D z zo nL own Ts cc) {x : Nat} {off : Int} (hd : decode cc pc = .ok (.ifnull off, 3)) (hpc : pc + 3 = pc') (K : lm_St p l e R s m args below meth c D A nL ce sl Q ro w pc' lv st) : lm_St p l e R s m args below meth c D A nL ce sl Q ro w pc lv (.ref x :: st) := by
  subst hpc
  exact fun H locs ls hI hL => lv_ifnull C.1 C.2.1 hd (K H locs ls hI hL)
theorem lm_ifnullN (C : lm_Cx p s m args c D z zo nL own Ts cc) {off : Int} {tgt : Nat} (hd : decode cc pc = .ok (.ifnull off, 3)) (ht : (pc : Int) + off = (tgt : Int)) (K : lm_St p l e R s m args below meth c D A nL ce sl Q ro w tgt lv st) : lm_St p l e R s m args below meth c D A nL ce sl Q ro w pc lv (.null :: st) := fun H locs ls hI hL => lv_ifnullN C.1 C.2.1 hd ht (K H locs ls hI hL)
theorem lm_tableIn (C : lm_Cx p s m args c D z zo nL own Ts cc) {dflt lo hi : Int} {offs : Array Int} {len : Nat} {x : Int32} {off : Int} {tgt : Nat} (v : Int32) (hd : decode cc pc = .ok (.tableswitch dflt lo hi offs, len)) (hx : x = v) (h1 : ¬ v.toInt < lo) (h2 : ¬ hi < v.toInt) (ho : offs[(v.toInt - lo).toNat]? = some off) (ht : (pc : Int) + off = (tgt : Int)) (K : lm_St p l e R s m args below meth c D A nL ce sl Q ro w tgt lv st) : lm_St p l e R s m args below meth c D A nL ce sl Q ro w pc lv (.int x :: st) := by
  subst hx
  exact fun H locs ls hI hL => lv_tableIn C.1 C.2.1 hd h1 h2 ho ht (K H locs ls hI hL)
theorem lm_tableOut (C : lm_Cx p s m args c D z zo nL own Ts cc) {dflt lo hi : Int} {offs : Array Int} {len : Nat} {x : Int32} {tgt : Nat} (hd : decode cc pc = .ok (.tableswitch dflt lo hi offs, len)) (h : x.toInt < lo ∨ hi < x.toInt) (ht : (pc : Int) + dflt = (tgt : Int)) (K : lm_St p l e R s m args below meth c D A nL ce sl Q ro w tgt lv st) : lm_St p l e R s m args below meth c D A nL ce sl Q ro w pc lv (.int x :: st) := fun H locs ls hI hL => lv_tableOut C.1 C.2.1 hd h ht (K H locs ls hI hL)
theorem lm_lookup (C : lm_Cx p s m args c D z zo nL own Ts cc) {dflt : Int} {ps : Array (Int × Int)} {len : Nat} {x : Int32} {off : Int} {tgt : Nat} (hd : decode cc pc = .ok (.lookupswitch dflt ps, len)) (hp : (ps.toList.zip (ps.toList.drop 1)).all (fun (a, next) => a.1 < next.1) = true) (ho : Op.lookupswitch.offset ps.toList dflt x.toInt = off) (ht : (pc : Int) + off = (tgt : Int)) (K : lm_St p l e R s m args below meth c D A nL ce sl Q ro w tgt lv st) : lm_St p l e R s m args below meth c D A nL ce sl Q ro w pc lv (.int x :: st) := fun H locs ls hI hL => lv_lookup C.1 C.2.1 hd hp ho ht (K H locs ls hI hL)
theorem lm_getf (C : lm_Cx p s m args c D z zo nL own Ts cc) {ref Cn : String} {T : u_T} {N ci index : Nat} (hin : ∀ w ∈ u_ws Cn T N, w ∈ Ts) (q0 : Nat) {a : Nat} {fs : List Value} (he : w[q0]? = some (a, .inr (ci, fs))) (hc : vwCl[ci]? = some (Cn, T, N)) (k : Nat) (hk : k < N) (hlink : Cond.fieldLink own index ref (T k).2.1 (T k).2.2.1 ∈ Ts) (hsame : (T k).1 = ref) {v : Value} (hv : fs[k]? = some v) (hd : decode cc pc = .ok (.getfield index, 3)) (hpc : pc + 3 = pc') (K : lm_St p l e R s m args below meth c D A nL ce sl Q ro w pc' lv (v :: st)) : lm_St p l e R s m args below meth c D A nL ce sl Q ro w pc lv (.ref a :: st) := by
  subst hpc
  exact fun H locs ls hI hL => va_get (D := D) C.1 C.2.1 C.2.2.2.2.1 hin C.2.2.2.1 C.2.2.2.2.2.1 hI.1 q0 he hc k hk (C.2.2.2.2.1 _ hlink) (fun _ h9 => hsame ▸ h9) hv hd (K H locs ls hI hL)
theorem lm_iald (C : lm_Cx p s m args c D z zo nL own Ts cc) (q0 : Nat) {a : Nat} {n : Nat} {f : Nat → Int32} (ha : w[q0]? = some (a, .inl (z, n, .inl f))) {i v : Int32} (hin : vp_in i n) (hv : f i.toNatClampNeg = v) (hd : decode cc pc = .ok (.iaload, 1)) (hpc : pc + 1 = pc') (K : lm_St p l e R s m args below meth c D A nL ce sl Q ro w pc' lv (.int v :: st)) : lm_St p l e R s m args below meth c D A nL ce sl Q ro w pc lv (.int i :: .ref a :: st) := by
  subst hpc hv
  exact fun H locs ls hI hL => va_iald (D := D) C.1 C.2.1 C.2.2.2.2.2.1 hI.1 q0 0 ha rfl hin hd (K H locs ls hI hL)
theorem lm_alen (C : lm_Cx p s m args c D z zo nL own Ts cc) (q0 : Nat) {a : Nat} {x : vp_A} (ha : w[q0]? = some (a, .inl (z, x))) {v : Int32} (hv : Int32.ofNat x.1 = v) (hd : decode cc pc = .ok (.arraylength, 1)) (hpc : pc + 1 = pc') (K : lm_St p l e R s m args below meth c D A nL ce sl Q ro w pc' lv (.int v :: st)) : lm_St p l e R s m args below meth c D A nL ce sl Q ro w pc lv (.ref a :: st) := by
  subst hpc
  exact fun H locs ls hI hL => va_alen (D := D) C.1 C.2.1 C.2.2.2.2.2.1 hI.1 q0 0 ha rfl hv hd (K H locs ls hI hL)
theorem lm_alenO (C : lm_Cx p s m args c D z zo nL own Ts cc) (q0 : Nat) {a : Nat} {x : vp_A} (ha : w[q0]? = some (a, .inl (zo, x))) {v : Int32} (hv : Int32.ofNat x.1 = v) (hd : decode cc pc = .ok (.arraylength, 1)) (hpc : pc + 1 = pc') (K : lm_St p l e R s m args below meth c D A nL ce sl Q ro w pc' lv (.int v :: st)) : lm_St p l e R s m args below meth c D A nL ce sl Q ro w pc lv (.ref a :: st) := by
  subst hpc
  exact fun H locs ls hI hL => va_alen (D := D) C.1 C.2.1 C.2.2.2.2.2.1 hI.1 q0 1 ha rfl hv hd (K H locs ls hI hL)
theorem lm_aald (C : lm_Cx p s m args c D z zo nL own Ts cc) (q0 : Nat) {a : Nat} {n : Nat} {f : Nat → Option Nat} (ha : w[q0]? = some (a, .inl (zo, n, .inr (.inr (.inr (.inr f)))))) {i : Int32} {v : Value} (hin : vp_in i n) (hv : va_rf (f i.toNatClampNeg) = v) (hd : decode cc pc = .ok (.aaload, 1)) (hpc : pc + 1 = pc') (K : lm_St p l e R s m args below meth c D A nL ce sl Q ro w pc' lv (v :: st)) : lm_St p l e R s m args below meth c D A nL ce sl Q ro w pc lv (.int i :: .ref a :: st) := by
  subst hpc hv
  exact fun H locs ls hI hL => va_aldq (D := D) C.1 C.2.1 C.2.2.2.2.2.1 hI.1 q0 1 ha rfl hin hd (K H locs ls hI hL)
theorem lm_putf (C : lm_Cx p s m args c D z zo nL own Ts cc) {ref Cn : String} {T : u_T} {N ci index : Nat} (hin : ∀ w ∈ u_ws Cn T N, w ∈ Ts) (ty0 : Nat → FieldType) (hty : ∀ k, k < N → parseFieldDescriptor (T k).2.2.1 = some (ty0 k)) (hnm : ∀ a, a < N → ∀ b, b < N → a ≠ b → (T a).2.1 ≠ (T b).2.1) (q0 : Nat) {a : Nat} {fs : List Value} (he : w[q0]? = some (a, .inr (ci, fs))) (hc : vwCl[ci]? = some (Cn, T, N)) (k : Nat) (hk : k < N) (hlink : Cond.fieldLink own index ref (T k).2.1 (T k).2.2.1 ∈ Ts) (hsame : (T k).1 = ref) (hfin : (T k).2.2.2 = false) {ty : FieldType} {v : Value} (hty2 : ty0 k = ty) (hn : narrow ty v = v) (hfit : fits ty v = true) (hl : k < fs.length) (hd : decode cc pc = .ok (.putfield index, 3)) (hw : w.set q0 (a, .inr (ci, fs.set k v)) = w') (hpc : pc + 3 = pc') (K : lm_St p l e R s m args below meth c D A nL ce sl Q false w' pc' lv st) : lm_St p l e R s m args below meth c D A nL ce sl Q false w pc lv (v :: .ref a :: st) := by
  subst hpc hw
  exact fun H locs ls hI hL => va_put (D := D) C.1 C.2.1 C.2.2.2.2.1 hin ty0 hty hnm C.2.2.2.1 C.2.2.2.2.2.1 hI.1 (hI.2.2 rfl).1 (hI.2.2 rfl).2 q0 he hc k hk (C.2.2.2.2.1 _ hlink) (fun _ h9 => hsame ▸ h9) hfin (by rw [hty k hk, hty2]) hn hfit hl hd (fun H1 locs1 hP hD hS => K H1 locs1 ls ⟨hP, fun h => (by cases h), fun _ => ⟨hD, hS⟩⟩ hL)
theorem lm_iast (C : lm_Cx p s m args c D z zo nL own Ts cc) (q0 : Nat) {a : Nat} {n : Nat} {f : Nat → Int32} (ha : w[q0]? = some (a, .inl (z, n, .inl f))) {i x : Int32} (hin : vp_in i n) (hd : decode cc pc = .ok (.iastore, 1)) (hw : w.set q0 (a, .inl (z, n, .inl (upd f i.toNatClampNeg x))) = w') (hpc : pc + 1 = pc') (K : lm_St p l e R s m args below meth c D A nL ce sl Q false w' pc' lv st) : lm_St p l e R s m args below meth c D A nL ce sl Q false w pc lv (.int x :: .int i :: .ref a :: st) := by
  subst hpc hw
  exact fun H locs ls hI hL => va_iast (D := D) C.1 C.2.1 C.2.2.2.2.2.1 hI.1 (hI.2.2 rfl).1 (hI.2.2 rfl).2 q0 0 ha rfl hin hd (fun H1 locs1 hP hD hS => K H1 locs1 ls ⟨hP, fun h => (by cases h), fun _ => ⟨hD, hS⟩⟩ hL)
theorem lm_iretR (C : lm_Cx p s m args c D z zo nL own Ts cc) (hr : meth.sig.returnType = some .int) (hk : meth.locks = false) {v : Int32} {rv : Option Value} (hv : rv = some (.int v)) (hd : decode cc pc = .ok (.ireturn, 1)) : lm_St p l e R s m args below meth c D (fun _ => False) nL 0 0 (lm_EndR below rv args s) true w pc lv [.int v] := by
  subst hv
  intro H locs ls hI hL
  obtain ⟨rfl, rfl⟩ := hI.2.1 rfl
  exact W.iret (v := v) C.1 C.2.1 hr (fun t ht hW => ⟨rfl, ht⟩) (fun q hq => absurd hq List.not_mem_nil) hd hk
theorem lm_zretR (C : lm_Cx p s m args c D z zo nL own Ts cc) (hr : meth.sig.returnType = some .boolean) (hk : meth.locks = false) {v : Int32} {rv : Option Value} (hb : narrow .boolean (.int v) = .int v) (hv : rv = some (.int v)) (hd : decode cc pc = .ok (.ireturn, 1)) : lm_St p l e R s m args below meth c D (fun _ => False) nL 0 0 (lm_EndR below rv args s) true w pc lv [.int v] := by
  subst hv
  intro H locs ls hI hL
  obtain ⟨rfl, rfl⟩ := hI.2.1 rfl
  exact W.zret (v := v) C.1 C.2.1 hr hb (fun t ht hW => ⟨rfl, ht⟩) (fun q hq => absurd hq List.not_mem_nil) hd hk
theorem lm_lretR (C : lm_Cx p s m args c D z zo nL own Ts cc) (hr : meth.sig.returnType = some .long) (hk : meth.locks = false) {v : Int64} {rv : Option Value} (hv : rv = some (.long v)) (hd : decode cc pc = .ok (.lreturn, 1)) : lm_St p l e R s m args below meth c D (fun _ => False) nL 0 0 (lm_EndR below rv args s) true w pc lv [.long v] := by
  subst hv
  intro H locs ls hI hL
  obtain ⟨rfl, rfl⟩ := hI.2.1 rfl
  exact W.lret (v := v) C.1 C.2.1 hr (fun t ht hW => ⟨rfl, ht⟩) (fun q hq => absurd hq List.not_mem_nil) hd hk
theorem lm_aretR (C : lm_Cx p s m args c D z zo nL own Ts cc) {rt : FieldType} (hr : meth.sig.returnType = some rt) (hk : meth.locks = false) (hrt : (∃ n, rt = .object n) ∨ ∃ t, rt = .array t) {v : Value} {rv : Option Value} (ha : v = .null ∨ ∃ a, v = .ref a) (hv : rv = some v) (hd : decode cc pc = .ok (.areturn, 1)) : lm_St p l e R s m args below meth c D (fun _ => False) nL 0 0 (lm_EndR below rv args s) true w pc lv [v] := by
  subst hv
  intro H locs ls hI hL
  obtain ⟨rfl, rfl⟩ := hI.2.1 rfl
  exact W.aret (v := v) C.1 C.2.1 hr hrt ha (fun t ht hW => ⟨rfl, ht⟩) (fun q hq => absurd hq List.not_mem_nil) hd hk
theorem lm_iret (C : lm_Cx p s m args c D z zo nL own Ts cc) {w0 : va_W} (hr : meth.sig.returnType = some .int) (hk : meth.locks = false) {v : Int32} {rv : Option Value} (hv : rv = some (.int v)) (hw : w = w') (hd : decode cc pc = .ok (.ireturn, 1)) : lm_St p l e R s m args below meth c D (va_A w0 s.heap.size) nL 0 0 (lm_End below D rv w0 w' args s) false w pc lv [.int v] := by
  subst hv hw
  intro H locs ls hI hL
  obtain ⟨hD, hS⟩ := hI.2.2 rfl
  exact W.iret (v := v) C.1 C.2.1 hr (fun t ht hW => ⟨⟨rfl, by rw [ht]; exact hI.1, hD⟩, hS.F ht⟩) hS.2.2 hd hk
theorem lm_zret (C : lm_Cx p s m args c D z zo nL own Ts cc) {w0 : va_W} (hr : meth.sig.returnType = some .boolean) (hk : meth.locks = false) {v : Int32} {rv : Option Value} (hb : narrow .boolean (.int v) = .int v) (hv : rv = some (.int v)) (hw : w = w') (hd : decode cc pc = .ok (.ireturn, 1)) : lm_St p l e R s m args below meth c D (va_A w0 s.heap.size) nL 0 0 (lm_End below D rv w0 w' args s) false w pc lv [.int v] := by
  subst hv hw
  intro H locs ls hI hL
  obtain ⟨hD, hS⟩ := hI.2.2 rfl
  exact W.zret (v := v) C.1 C.2.1 hr hb (fun t ht hW => ⟨⟨rfl, by rw [ht]; exact hI.1, hD⟩, hS.F ht⟩) hS.2.2 hd hk
theorem lm_vret (C : lm_Cx p s m args c D z zo nL own Ts cc) {w0 : va_W} (hr : meth.sig.returnType = none) (hk : meth.locks = false) {rv : Option Value} (hv : rv = none) (hw : w = w') (hd : decode cc pc = .ok (.return_, 1)) : lm_St p l e R s m args below meth c D (va_A w0 s.heap.size) nL 0 0 (lm_End below D rv w0 w' args s) false w pc lv [] := by
  subst hv hw
  intro H locs ls hI hL
  obtain ⟨hD, hS⟩ := hI.2.2 rfl
  exact W.vret C.1 C.2.1 hr (fun t ht hW => ⟨⟨rfl, by rw [ht]; exact hI.1, hD⟩, hS.F ht⟩) hS.2.2 hd hk
theorem lm_aret (C : lm_Cx p s m args c D z zo nL own Ts cc) {w0 : va_W} {rt : FieldType} (hr : meth.sig.returnType = some rt) (hk : meth.locks = false) (hrt : (∃ n, rt = .object n) ∨ ∃ t, rt = .array t) {v : Value} {rv : Option Value} (ha : v = .null ∨ ∃ a, v = .ref a) (hv : rv = some v) (hw : w = w') (hd : decode cc pc = .ok (.areturn, 1)) : lm_St p l e R s m args below meth c D (va_A w0 s.heap.size) nL 0 0 (lm_End below D rv w0 w' args s) false w pc lv [v] := by
  subst hv hw
  intro H locs ls hI hL
  obtain ⟨hD, hS⟩ := hI.2.2 rfl
  exact W.aret (v := v) C.1 C.2.1 hr hrt ha (fun t ht hW => ⟨⟨rfl, by rw [ht]; exact hI.1, hD⟩, hS.F ht⟩) hS.2.2 hd hk
theorem lm_Acall {wc wr : va_W} {H : Heap} {locs : List Loc} (hA : lm_AZ A s) (hp : w.Perm (wc ++ wr)) (hI : lm_I D A s false w H locs) : ∀ q, va_A wc H.size q → A q := by
  obtain ⟨hD, hS⟩ := hI.2.2 rfl
  intro q hq
  rcases hq with ⟨k, e9, hq⟩ | hq
  · exact (lm_D_iff.mp (lm_D_perm hp hD)).2 (q, e9) (List.mem_append_left _ (List.mem_of_getElem? hq))
  · exact hA.1 q (Nat.le_trans hS.1 hq)
theorem lm_Zs.go {H : Heap} {locs : List Loc} {U : State} {B : Nat → Prop} (hA : lm_AZ A s) (hS : va_S A s.heap H locs) (hvm : s.vm.Alike U.vm) (hU : U.heap = H) (hF : ∀ q, B q → A q) : lm_Zs B U U.heap := by
  rw [hU]
  exact ((hA.2.moved hvm).kept hS.2.1).narrow hF
theorem lm_getsH (C : lm_Cx p s m args c D z zo nL own Ts cc) {index : Nat} (hA : lm_AZ A s) (hlink : Cond.fieldLink own index RX4 "HIGHEST_SETTINGS" "[I" ∈ Ts) (hd : decode cc pc = .ok (.getstatic index, 3)) (hpc : pc + 3 = pc') (K : ∀ t : Nat, va_T .int t 5 (fun j => .int (lm_hsI j)) A s s.heap → lm_St p l e R s m args below meth c D A nL ce sl Q false w pc' lv (.ref t :: st)) : lm_St p l e R s m args below meth c D A nL ce sl Q false w pc lv st := by
  subst hpc
  obtain ⟨⟨t, h1, h2⟩, -⟩ := hA.2
  exact fun H locs ls hI hL => va_gets C.1 C.2.1 h1 (hI.2.2 rfl).2 C.2.2.2.1 (C.2.2.2.2.1 _ hlink) (fun _ h => h) hd (K t h2 H locs ls hI hL)
theorem lm_tiald (C : lm_Cx p s m args c D z zo nL own Ts cc) {t : Nat} {f : Nat → Int32} (hT : va_T .int t 5 (fun j => .int (f j)) A s s.heap) {i v : Int32} (hin : vp_in i 5) (hv : f i.toNatClampNeg = v) (hd : decode cc pc = .ok (.iaload, 1)) (hpc : pc + 1 = pc') (K : lm_St p l e R s m args below meth c D A nL ce sl Q false w pc' lv (.int v :: st)) : lm_St p l e R s m args below meth c D A nL ce sl Q false w pc lv (.int i :: .ref t :: st) := by
  subst hpc hv
  exact fun H locs ls hI hL => va_ti C.1 C.2.1 hT (hI.2.2 rfl).2 hin rfl hd (K H locs ls hI hL)
theorem lm_mmin (C : lm_Cx p s m args c D z zo nL own Ts cc) {index : Nat} (h0 : Cond.methodLink own index Lib.Math.min.name ∈ Ts) (h1 : Cond.static Lib.Math.min.name ∈ Ts) (h2 : Cond.initialized "java/lang/Math" ∈ Ts) (h3 : Cond.code Lib.Math.min.name Lib.Math.min.code 2 (some .int) ∈ Ts) (hf : 1 ≤ R.frames) (hlo : 21 ≤ R.locals) (hce : (decide (ce ≤ R.cells) && decide (sl ≤ R.slots)) = true) {x y : Int32} (hcat : (st.map fun v => v.category).sum ≤ 8) (hd : decode cc pc = .ok (.invokestatic index, 3)) (hpc : pc + 3 = pc') (K : lm_St p l e R s m args below meth c D A nL ce sl Q ro w pc' lv (.int (if y < x then y else x) :: st)) : lm_St p l e R s m args below meth c D A nL ce sl Q ro w pc lv (.int y :: .int x :: st) := by
  subst hpc
  simp only [Bool.and_eq_true, decide_eq_true_eq] at hce
  exact fun H locs ls hI hL => va_mmin C.1 C.2.1 (C.2.2.1.trans hL.1.symm) C.2.2.2.1 (C.2.2.2.2.1 _ h0) (C.2.2.2.2.1 _ h1) (C.2.2.2.2.1 _ h2) (C.2.2.2.2.1 _ h3) hf (by omega) hce.1 hce.2 hd (K H locs ls hI hL)
theorem lm_copyi (C : lm_Cx p s m args c D z zo nL own Ts cc) {index : Nat} (h0 : Cond.methodLink own index arraycopyName ∈ Ts) (h1 : Cond.native arraycopyName ∈ Ts) (h2 : Cond.static arraycopyName ∈ Ts) (h3 : Cond.initialized "java/lang/System" ∈ Ts) (q0 q1 : Nat) {a0 a n0 n1 : Nat} {f g : Nat → Int32} (ha0 : w[q0]? = some (a0, .inl (z, n0, .inl f))) (ha1 : w[q1]? = some (a, .inl (z, n1, .inl g))) {n : Nat} (hn : n < 2 ^ 31) (h4 : n ≤ n0) (h5 : n ≤ n1) {x : Int32} (hx : x = nI n) (hf : 1 ≤ R.frames) (hlo : 8 + (nativeFrameWords "java/lang/System" "arraycopy" 5 + 11) ≤ R.locals) (hcat : (st.map fun v => v.category).sum ≤ 8) (hd : decode cc pc = .ok (.invokestatic index, 3)) (hw : w.set q1 (a, .inl (z, n1, .inl (va_cpy f g 0 0 n))) = w') (hpc : pc + 3 = pc') (K : lm_St p l e R s m args below meth c D A nL ce sl Q false w' pc' lv st) : lm_St p l e R s m args below meth c D A nL ce sl Q false w pc lv (.int x :: .int 0 :: .ref a :: .int 0 :: .ref a0 :: st) := by
  subst hpc hw hx
  intro H locs ls hI hL
  have e0 : (0 : Int32).toNatClampNeg = 0 := sb_cl0
  have e1 : (nI n).toNatClampNeg = n := nI_clamp hn
  refine va_copyi (D := D) C.1 C.2.1 (C.2.2.1.trans hL.1.symm) C.2.2.2.1 (C.2.2.2.2.1 _ h0) (C.2.2.2.2.1 _ h1) (C.2.2.2.2.1 _ h2) (C.2.2.2.2.1 _ h3) C.2.2.2.2.2.1 hI.1 (hI.2.2 rfl).1 (hI.2.2 rfl).2 q0 q1 0 0 ha0 ha1 rfl rfl (ty := .int) rfl (by decide) (by decide) (nI_pos hn) (by rw [e0, e1]; omega) (by rw [e0, e1]; omega) (fun i _ => rfl) hf (by omega) hd (fun H1 locs1 hP hD hS => ?_)
  rw [e0, e1] at hP hD
  exact K H1 locs1 ls ⟨hP, fun h => (by cases h), fun _ => ⟨hD, hS⟩⟩ hL
theorem lm_goR {y : MethodName} {rv : Option Value} {As : List Value} {wc : va_W} {stk st' : List Value} {mcA : Array Value} (hrun : ∀ (H : Heap) (locs : List Loc) (ls : Array Slot), lm_I D A s ro w H locs → lv_has ls nL lv → va_Run p l e R s m args below meth c H locs ce sl 0 0 (F0 m pc ls stk) st (lm_QR rv mcA) (fun _ => False)) (hst : rv.toList ++ st = st') (hpc : pc + 3 = pc') (K : lm_St p l e R s m args below meth c D A nL ce sl Q ro w pc' lv st') : lm_St p l e R s m args below meth c D A nL ce sl Q ro w pc lv stk := by
  subst hpc hst
  intro H locs ls hI hL T hT X
  obtain ⟨v, st₀, t, T', L, h0, X', hf, e1, e2, ⟨hv, hh⟩, go⟩ := hrun H locs ls hI hL T hT X
  have hv2 : v = rv := by cases hv; rfl
  subst hv2
  have hL0 : L = [] := by
    cases L with
    | nil => rfl
    | cons a b => exact absurd (hf a List.mem_cons_self) id
  subst hL0
  rw [List.append_nil] at X'
  obtain ⟨t2, a1, b1⟩ := K H locs ls hI hL T' (by rw [e1, hh, h0]) X'
  exact ⟨t2, go t2 a1, b1⟩
theorem lm_goW {rv : Option Value} {wc wr w1 : va_W} {stk st' : List Value} {mcA : Array Value} (hA : lm_AZ A s) (hp : w.Perm (wc ++ wr)) (hp' : (w1 ++ wr).Perm w') (hrun : ∀ (H : Heap) (locs : List Loc) (ls : Array Slot), lm_I D A s false w H locs → lv_has ls nL lv → va_Run p l e R s m args below meth c H locs ce sl 0 0 (F0 m pc ls stk) st (lm_Q D rv wc w1 H.size mcA) (va_A wc H.size)) (hst : rv.toList ++ st = st') (hpc : pc + 3 = pc') (K : lm_St p l e R s m args below meth c D A nL ce sl Q false w' pc' lv st') : lm_St p l e R s m args below meth c D A nL ce sl Q false w pc lv stk := by
  subst hpc hst
  intro H locs ls hI hL T hT X
  obtain ⟨v, st₀, t, T', L, h0, X', hf, e1, e2, ⟨⟨hv, hP1, hD1⟩, hz, hk⟩, go⟩ := hrun H locs ls hI hL T hT X
  have hv2 : v = rv := by cases hv; rfl
  subst hv2
  rw [h0] at hz hk
  obtain ⟨hD, hS⟩ := hI.2.2 rfl
  have hPp := lm_P_perm hp hI.1
  have hDp := lm_D_perm hp hD
  have hF : ∀ q, va_A wc H.size q → A q := by
    intro q hq
    rcases hq with ⟨k, e9, hq⟩ | hq
    · exact (lm_D_iff.mp hDp).2 (q, e9) (List.mem_append_left _ (List.mem_of_getElem? hq))
    · exact hA.1 q (Nat.le_trans hS.1 hq)
  obtain ⟨hP2, hD2⟩ := lm_frame hPp hDp hk hF hP1 hD1
  have hS2 : va_S A s.heap t.heap (locs ++ L) := ⟨Nat.le_trans hS.1 hz, fun q h1 h2 => by rw [hk q (Nat.lt_of_lt_of_le h1 hS.1) (fun z9 => h2 (hF q z9))]; exact hS.2.1 q h1 h2, fun q hq => by
    rcases List.mem_append.mp hq with h | h
    · exact hS.2.2 q h
    · exact hF _ (hf q h)⟩
  obtain ⟨t2, a1, b1⟩ := K t.heap (locs ++ L) ls ⟨lm_P_perm hp' hP2, fun h => (by cases h), fun _ => ⟨lm_D_perm hp' hD2, hS2⟩⟩ hL T' e1 X'
  exact ⟨t2, go t2 a1, b1⟩
theorem lm_callVR (C : lm_Cx p s m args c D z zo nL own Ts cc) {y : MethodName} {bytes : ByteArray} {maxL : Nat} {ret : Option FieldType} {wsy wsy' : List Cond} {fr lo n index : Nat} {Cn : String} {b : Nat} {As : List Value} {wc : va_W} {rv : Option Value} {ci N : Nat} {T : u_T} {fs : List Value} {stk st' : List Value} (hM : lm_CR D z zo l y wsy fr lo (.ref b :: As) wc rv) (hG : GoodIn Ts (wsV own index Cn y wsy)) (hw : wsy = Cond.code y bytes maxL ret :: wsy') (hdv : y.cls = Cn ∧ y.cls ≠ "java/lang/invoke/MethodHandle" ∧ y.cls ≠ "java/lang/invoke/VarHandle" ∧ (parseMethodDescriptor y.desc).map (fun d => d.parameters.length) = some n) (hR : fr + 1 ≤ R.frames ∧ 8 + (maxL + 11) + lo ≤ R.locals) (hce : ce + 0 ≤ R.cells ∧ sl + 0 ≤ R.slots) (q0 : Nat) (he : w[q0]? = some (b, .inr (ci, fs))) (hc : vwCl[ci]? = some (Cn, T, N)) (hsub : ∀ q ∈ wc, q ∈ w) (hn : As.length = n) (hstk : stk = As.reverse ++ .ref b :: st) (hcat : (st.map fun v => v.category).sum ≤ 8) (hd : decode cc pc = .ok (.invokevirtual index, 3)) (hst : rv.toList ++ st = st') (hpc : pc + 3 = pc') (K : lm_St p l e R s m args below meth c D A nL ce sl Q ro w pc' lv st') : lm_St p l e R s m args below meth c D A nL ce sl Q ro w pc lv stk := by
  subst hstk
  refine lm_goR (y := y) (As := As) (wc := wc) (rv := rv) (mcA := (Value.ref b :: As).toArray) (fun H locs ls hI hL => ?_) hst hpc K
  exact va_runV (As := As) (rest := st) ⟨C.1, C.2.1, C.2.2.1, C.2.2.2.1, C.2.2.2.2.1⟩ hM (cwV n C.2.2.2.2.1 hG hw rfl rfl hdv hR) ⟨lm_PcR.blind, va_recv C.2.2.2.2.2.1 hI.1 hc he, fun U hU hW => ⟨rfl, by rw [hU]; exact lm_P_sub hI.1 hsub, va_K.moved hW.alike C.2.2.2.2.2.1, lm_NW.warm hW C.2.2.2.2.2.2⟩⟩ rfl hn hL.1 rfl (lv_room hcat) hd hce
theorem lm_callV (C : lm_Cx p s m args c D z zo nL own Ts cc) {y : MethodName} {bytes : ByteArray} {maxL : Nat} {ret : Option FieldType} {wsy wsy' : List Cond} {fr lo n index : Nat} {Cn : String} {b : Nat} {As : List Value} {wc wr w1 : va_W} {rv : Option Value} {ci N : Nat} {T : u_T} {fs : List Value} {stk st' : List Value} (hA : lm_AZ A s) (hM : lm_C D z zo l y wsy fr lo (.ref b :: As) wc rv w1) (hG : GoodIn Ts (wsV own index Cn y wsy)) (hw : wsy = Cond.code y bytes maxL ret :: wsy') (hdv : y.cls = Cn ∧ y.cls ≠ "java/lang/invoke/MethodHandle" ∧ y.cls ≠ "java/lang/invoke/VarHandle" ∧ (parseMethodDescriptor y.desc).map (fun d => d.parameters.length) = some n) (hR : fr + 1 ≤ R.frames ∧ 8 + (maxL + 11) + lo ≤ R.locals) (hce : ce + 0 ≤ R.cells ∧ sl + 0 ≤ R.slots) (q0 : Nat) (he : w[q0]? = some (b, .inr (ci, fs))) (hc : vwCl[ci]? = some (Cn, T, N)) (hp : w.Perm (wc ++ wr)) (hp' : (w1 ++ wr).Perm w') (hn : As.length = n) (hstk : stk = As.reverse ++ .ref b :: st) (hcat : (st.map fun v => v.category).sum ≤ 8) (hd : decode cc pc = .ok (.invokevirtual index, 3)) (hst : rv.toList ++ st = st') (hpc : pc + 3 = pc') (K : lm_St p l e R s m args below meth c D A nL ce sl Q false w' pc' lv st') : lm_St p l e R s m args below meth c D A nL ce sl Q false w pc lv stk := by
  subst hstk
  refine lm_goW (rv := rv) (wc := wc) (wr := wr) (w1 := w1) (mcA := (Value.ref b :: As).toArray) hA hp hp' (fun H locs ls hI hL => ?_) hst hpc K
  have hD := lm_D_iff.mp (lm_D_perm hp (hI.2.2 rfl).1)
  exact va_runV (As := As) (rest := st) ⟨C.1, C.2.1, C.2.2.1, C.2.2.2.1, C.2.2.2.2.1⟩ (hM H.size) (cwV n C.2.2.2.2.1 hG hw rfl rfl hdv hR) ⟨lm_Pc.blind, va_recv C.2.2.2.2.2.1 hI.1 hc he, fun U hU hW => ⟨rfl, by rw [hU], by rw [hU]; exact lm_P_sub (lm_P_perm hp hI.1) (fun q hq => List.mem_append_left _ hq), va_K.moved hW.alike C.2.2.2.2.2.1, lm_NW.warm hW C.2.2.2.2.2.2, lm_D_iff.mpr ⟨(List.nodup_append.mp (List.map_append ▸ hD.1)).1, fun _ _ => trivial⟩, lm_Zs.go hA (hI.2.2 rfl).2 hW.alike hU (lm_Acall hA hp hI)⟩⟩ rfl hn hL.1 rfl (lv_room hcat) hd hce
theorem lm_callSR (C : lm_Cx p s m args c D z zo nL own Ts cc) {y : MethodName} {bytes : ByteArray} {maxL : Nat} {ret : Option FieldType} {wsy wsy' : List Cond} {fr lo n index : Nat} {As : List Value} {wc : va_W} {rv : Option Value} {stk st' : List Value} (hM : lm_CR D z zo l y wsy fr lo As wc rv) (hG : GoodIn Ts (va_wsS own index y wsy)) (hw : wsy = Cond.code y bytes maxL ret :: wsy') (hdv : y.cls ≠ "java/lang/invoke/MethodHandle" ∧ y.cls ≠ "java/lang/invoke/VarHandle" ∧ (parseMethodDescriptor y.desc).map (fun d => d.parameters.length) = some n) (hR : fr + 1 ≤ R.frames ∧ 8 + (maxL + 11) + lo ≤ R.locals) (hce : ce + 0 ≤ R.cells ∧ sl + 0 ≤ R.slots) (hsub : ∀ q ∈ wc, q ∈ w) (hn : As.length = n) (hstk : stk = As.reverse ++ st) (hcat : (st.map fun v => v.category).sum ≤ 8) (hd : decode cc pc = .ok (.invokestatic index, 3)) (hst : rv.toList ++ st = st') (hpc : pc + 3 = pc') (K : lm_St p l e R s m args below meth c D A nL ce sl Q ro w pc' lv st') : lm_St p l e R s m args below meth c D A nL ce sl Q ro w pc lv stk := by
  subst hstk
  refine lm_goR (y := y) (As := As) (wc := wc) (rv := rv) (mcA := As.toArray) (fun H locs ls hI hL => ?_) hst hpc K
  exact va_runS (As := As) (rest := st) ⟨C.1, C.2.1, C.2.2.1, C.2.2.2.1, C.2.2.2.2.1⟩ hM (va_cwS n C.2.2.2.2.1 hG hw rfl rfl hdv hR) ⟨lm_PcR.blind, fun U hU hW => ⟨rfl, by rw [hU]; exact lm_P_sub hI.1 hsub, va_K.moved hW.alike C.2.2.2.2.2.1, lm_NW.warm hW C.2.2.2.2.2.2⟩⟩ rfl hn hL.1 rfl (lv_room hcat) hd hce
theorem lm_callSNR (C : lm_Cx p s m args c D z zo nL own Ts cc) {y : MethodName} {bytes : ByteArray} {maxL : Nat} {ret : Option FieldType} {wsy wsy' : List Cond} {fr lo n index : Nat} {As : List Value} {wc : va_W} {rv : Option Value} {stk st' : List Value} (hM : lm_CR D z zo l y wsy fr lo As wc rv) (hG : GoodIn Ts wsy) (hw : wsy = Cond.code y bytes maxL ret :: wsy') (hini : Cond.initialized y.cls ∈ Ts) (hstat : Cond.static y ∈ Ts) (hdv : y.cls ≠ "java/lang/invoke/MethodHandle" ∧ y.cls ≠ "java/lang/invoke/VarHandle" ∧ (parseMethodDescriptor y.desc).map (fun d => d.parameters.length) = some n) (hR : fr + 1 ≤ R.frames ∧ 8 + (maxL + 11) + lo ≤ R.locals) (hce : ce + 0 ≤ R.cells ∧ sl + 0 ≤ R.slots) (hnw : (own, index, y) ∈ lm_NWl) (hsub : ∀ q ∈ wc, q ∈ w) (hn : As.length = n) (hstk : stk = As.reverse ++ st) (hcat : (st.map fun v => v.category).sum ≤ 8) (hd : decode cc pc = .ok (.invokestatic index, 3)) (hst : rv.toList ++ st = st') (hpc : pc + 3 = pc') (K : lm_St p l e R s m args below meth c D A nL ce sl Q ro w pc' lv st') : lm_St p l e R s m args below meth c D A nL ce sl Q ro w pc lv stk := by
  subst hstk
  refine lm_goR (y := y) (As := As) (wc := wc) (rv := rv) (mcA := As.toArray) (fun H locs ls hI hL => ?_) hst hpc K
  exact va_runSN (As := As) (rest := st) ⟨C.1, C.2.1, C.2.2.1, C.2.2.2.1, C.2.2.2.2.1⟩ hM ⟨va_cnB (host := "LoopMemo") n C.2.2.2.2.1 hG hw rfl rfl (C.2.2.2.2.2.2 _ hnw) (C.2.2.2.2.1 _ hini) hdv hR, C.2.2.2.2.1 _ hstat, trivial⟩ ⟨lm_PcR.blind, fun U hU hW => ⟨rfl, by rw [hU]; exact lm_P_sub hI.1 hsub, va_K.moved hW.alike C.2.2.2.2.2.1, lm_NW.warm hW C.2.2.2.2.2.2⟩⟩ rfl hn hL.1 rfl (lv_room hcat) hd hce
theorem lm_callSN (C : lm_Cx p s m args c D z zo nL own Ts cc) {y : MethodName} {bytes : ByteArray} {maxL : Nat} {ret : Option FieldType} {wsy wsy' : List Cond} {fr lo n index : Nat} {As : List Value} {wc wr w1 : va_W} {rv : Option Value} {stk st' : List Value} (hA : lm_AZ A s) (hM : lm_C D z zo l y wsy fr lo As wc rv w1) (hG : GoodIn Ts wsy) (hw : wsy = Cond.code y bytes maxL ret :: wsy') (hini : Cond.initialized y.cls ∈ Ts) (hstat : Cond.static y ∈ Ts) (hdv : y.cls ≠ "java/lang/invoke/MethodHandle" ∧ y.cls ≠ "java/lang/invoke/VarHandle" ∧ (parseMethodDescriptor y.desc).map (fun d => d.parameters.length) = some n) (hR : fr + 1 ≤ R.frames ∧ 8 + (maxL + 11) + lo ≤ R.locals) (hce : ce + 0 ≤ R.cells ∧ sl + 0 ≤ R.slots) (hnw : (own, index, y) ∈ lm_NWl) (hp : w.Perm (wc ++ wr)) (hp' : (w1 ++ wr).Perm w') (hn : As.length = n) (hstk : stk = As.reverse ++ st) (hcat : (st.map fun v => v.category).sum ≤ 8) (hd : decode cc pc = .ok (.invokestatic index, 3)) (hst : rv.toList ++ st = st') (hpc : pc + 3 = pc') (K : lm_St p l e R s m args below meth c D A nL ce sl Q false w' pc' lv st') : lm_St p l e R s m args below meth c D A nL ce sl Q false w pc lv stk := by
  subst hstk
  refine lm_goW (rv := rv) (wc := wc) (wr := wr) (w1 := w1) (mcA := As.toArray) hA hp hp' (fun H locs ls hI hL => ?_) hst hpc K
  have hD := lm_D_iff.mp (lm_D_perm hp (hI.2.2 rfl).1)
  exact va_runSN (As := As) (rest := st) ⟨C.1, C.2.1, C.2.2.1, C.2.2.2.1, C.2.2.2.2.1⟩ (hM H.size) ⟨va_cnB (host := "LoopMemo") n C.2.2.2.2.1 hG hw rfl rfl (C.2.2.2.2.2.2 _ hnw) (C.2.2.2.2.1 _ hini) hdv hR, C.2.2.2.2.1 _ hstat, trivial⟩ ⟨lm_Pc.blind, fun U hU hW => ⟨rfl, by rw [hU], by rw [hU]; exact lm_P_sub (lm_P_perm hp hI.1) (fun q hq => List.mem_append_left _ hq), va_K.moved hW.alike C.2.2.2.2.2.1, lm_NW.warm hW C.2.2.2.2.2.2, lm_D_iff.mpr ⟨(List.nodup_append.mp (List.map_append ▸ hD.1)).1, fun _ _ => trivial⟩, lm_Zs.go hA (hI.2.2 rfl).2 hW.alike hU (lm_Acall hA hp hI)⟩⟩ rfl hn hL.1 rfl (lv_room hcat) hd hce
end LM
/-! how a method's function is read along a walk -/
def lm_br {α : Type} (c : Prop) [Decidable c] (a b : α) : α := if c then a else b
theorem lm_brt {α : Type} {c : Prop} [Decidable c] {a b y : α} (h : lm_br c a b = y) (hc : c) : a = y := by rw [← h]; exact (if_pos hc).symm
theorem lm_brf {α : Type} {c : Prop} [Decidable c] {a b y : α} (h : lm_br c a b = y) (hc : ¬ c) : b = y := by rw [← h]; exact (if_neg hc).symm
def lm_gi {α : Type} (i : Int32) (n : Nat) (x : Option α) : Option α := if i < 0 ∨ n ≤ i.toNatClampNeg then none else x
theorem lm_gie {α : Type} {i : Int32} {n : Nat} {x : Option α} {y : α} (h : lm_gi i n x = some y) : vp_in i n ∧ x = some y := by
  unfold lm_gi at h
  split at h
  · cases h
  · next hc => exact ⟨hc, h⟩
def lm_gd {α : Type} (c : Prop) [Decidable c] (x : Option α) : Option α := if c then x else none
theorem lm_gde {α : Type} {c : Prop} [Decidable c] {x : Option α} {y : α} (h : lm_gd c x = some y) : c ∧ x = some y := by
  unfold lm_gd at h
  split at h
  · next hc => exact ⟨hc, h⟩
  · cases h
def lm_bd {α β : Type} (o : Option α) (f : α → Option β) : Option β := match o with | none => none | some a => f a
theorem lm_bde {α β : Type} {o : Option α} {f : α → Option β} {y : β} (h : lm_bd o f = some y) : ∃ a, o = some a ∧ f a = some y := by
  cases o with
  | none => cases h
  | some a => exact ⟨a, rfl, h⟩
def lm_b2 {α β γ : Type} (o : Option (α × β)) (f : α → β → Option γ) : Option γ := match o with | none => none | some a => f a.1 a.2
theorem lm_b2e {α β γ : Type} {o : Option (α × β)} {f : α → β → Option γ} {y : γ} (h : lm_b2 o f = some y) : ∃ a b, o = some (a, b) ∧ f a b = some y := by
  cases o with
  | none => cases h
  | some a => exact ⟨a.1, a.2, rfl, h⟩
def lm_lt {α β : Type} (x : α) (f : α → β) : β := f x
theorem lm_lte {α β : Type} {x : α} {f : α → β} {y : β} (h : lm_lt x f = y) : ∃ a, x = a ∧ f a = y := ⟨x, rfl, h⟩
theorem lm_boolok {x : Int32} (h : x = 0 ∨ x = 1) : narrow .boolean (.int x) = .int x := by rcases h with rfl | rfl <;> rfl
theorem lm_boolfit {x : Int32} (h : x = 0 ∨ x = 1) : fits .boolean (.int x) = true := by rcases h with rfl | rfl <;> rfl
theorem lm_bool0 : narrow .boolean (.int 0) = .int 0 := rfl
theorem lm_bool1 : narrow .boolean (.int 1) = .int 1 := rfl
/-! blocks -/
def lm_u (σ : Hp) (c i : Nat) (x : Int32) : Hp := fun j => if j = c then upd (σ c) i x else σ j
def lm_ua (σ : Hp) (c : Nat) (f : Nat → Int32) : Hp := fun j => if j = c then f else σ j
def lm_uB (h : Nat → Hp) (k : Nat) (σ : Hp) : Nat → Hp := fun j => if j = k then σ else h j
theorem lm_pr {α : Type} {w : List α} : w.Perm (w ++ []) := by rw [List.append_nil]
theorem lm_pr' {α : Type} {w : List α} : (w ++ []).Perm w := by rw [List.append_nil]
def lm_sh {α : Type} (b : Nat) (f : Nat → α) : Nat → α := fun j => f (b + j)
def lm_sb (σ : Hp) (b n : Nat) (τ : Hp) : Hp := fun j => if b ≤ j ∧ j < b + n then τ (j - b) else σ j
end
section
/-! what the cells are: own work -/
theorem lm_cnt0 {α : Type} [BEq α] [LawfulBEq α] {l1 l2 : List α} (h : ∀ (f : List α → Nat) (g : α → Nat), (∀ a b, f (a ++ b) = f a + f b) → (∀ x l, f (x :: l) = g x + f l) → f [] = 0 → f l1 = f l2) : l1.Perm l2 := by
  rw [List.perm_iff_count]
  intro q
  exact h (fun l => l.count q) (fun x => if (x == q) = true then 1 else 0) (fun a b => List.count_append) (fun x l => by rw [List.count_cons, Nat.add_comm]) List.count_nil
theorem lm_cnt {α : Type} {l1 l2 : List α} (h : ∀ (f : List α → Nat) (g : α → Nat), (∀ a b, f (a ++ b) = f a + f b) → (∀ x l, f (x :: l) = g x + f l) → f [] = 0 → f l1 = f l2) : l1.Perm l2 :=
  @lm_cnt0 α (@instBEqOfDecidableEq α (fun a b => Classical.propDecidable (a = b))) inferInstance l1 l2 h
def tbW (z : ClassId) (a : Nat → Nat) (σ : Hp) : va_W := [(a 0, .inr (5, [.ref (a 1), .ref (a 2), .int (σ 0 2)])), (a 1, .inl (z, 20, .inl (σ 1))), (a 2, .inl (z, 20, .inl (σ 2)))]
def anW (z : ClassId) (a : Nat → Nat) (σ : Hp) : va_W := [(a 0, .inr (0, [.ref (a 1), .ref (a 2), .ref (a 3)])), (a 1, .inl (z, 10, .inl (σ 1))), (a 2, .inl (z, 10, .inl (σ 2))), (a 3, .inl (z, 10, .inl (σ 3)))]
def meW (z : ClassId) (a : Nat → Nat) (σ : Hp) : va_W := [(a 0, .inr (2, [.ref (a 1), .ref (a 2), .ref (a 3), .int (σ 0 3)])), (a 1, .inl (z, 10, .inl (σ 1))), (a 2, .inl (z, 10, .inl (σ 2))), (a 3, .inl (z, 10, .inl (σ 3)))]
def pdW (z : ClassId) (a : Nat → Nat) (σ : Hp) : va_W := [(a 0, .inr (3, [.ref (a 1), .int (σ 0 1), .int (σ 0 2), .int (σ 0 3), .int (σ 0 4), .int (σ 0 5), .int (σ 0 6), .int (σ 0 7), .int (σ 0 8)])), (a 1, .inl (z, 60, .inl (σ 1)))]
def mdW (z : ClassId) (a : Nat → Nat) (σ : Hp) : va_W := [(a 0, .inr (7, [.ref (a 1), .ref (a 2), .ref (a 3), .ref (a 4), .int (σ 0 4), .int (σ 0 5), .int (σ 0 6), .ref (a 5), .int (σ 0 8), .int (σ 0 9), .ref (a 6), .int (σ 0 11), .int (σ 0 12), .ref (a 7)])), (a 1, .inl (z, 127, .inl (σ 1))), (a 2, .inl (z, 508, .inl (σ 2))), (a 3, .inl (z, 127, .inl (σ 3))), (a 4, .inl (z, 127, .inl (σ 4))), (a 5, .inl (z, 60, .inl (σ 5))), (a 6, .inl (z, 3, .inl (σ 6))), (a 7, .inl (z, 124, .inl (σ 7)))]
def stW (z : ClassId) (a : Nat → Nat) (σ : Hp) : va_W := (a 0, .inr (4, [.ref (a 1), .ref (a 4), .ref (a 7), .ref (a 11), .ref (a 15), .ref (a 16), .int (σ 0 6), .int (σ 0 7)])) :: (tbW z (lm_sh 1 a) (lm_sh 1 σ) ++ (tbW z (lm_sh 4 a) (lm_sh 4 σ) ++ (anW z (lm_sh 7 a) (lm_sh 7 σ) ++ (meW z (lm_sh 11 a) (lm_sh 11 σ) ++ [(a 15, .inl (z, 5, .inl (σ 15))), (a 16, .inl (z, 7, .inl (σ 16)))]))))
def stR1 (z : ClassId) (a : Nat → Nat) (σ : Hp) : va_W := (a 0, .inr (4, [.ref (a 1), .ref (a 4), .ref (a 7), .ref (a 11), .ref (a 15), .ref (a 16), .int (σ 0 6), .int (σ 0 7)])) :: (tbW z (lm_sh 4 a) (lm_sh 4 σ) ++ (anW z (lm_sh 7 a) (lm_sh 7 σ) ++ (meW z (lm_sh 11 a) (lm_sh 11 σ) ++ [(a 15, .inl (z, 5, .inl (σ 15))), (a 16, .inl (z, 7, .inl (σ 16)))])))
theorem st_g1 (z : ClassId) (a : Nat → Nat) (σ : Hp) : (stW z a σ).Perm (tbW z (lm_sh 1 a) (lm_sh 1 σ) ++ stR1 z a σ) := by
  refine lm_cnt fun f g h1 h2 h3 => ?_
  simp only [stW, stR1, h1, h2, h3]
  omega
theorem st_p1 (z : ClassId) (a : Nat → Nat) (σ : Hp) (τ : Hp) : (tbW z (lm_sh 1 a) τ ++ stR1 z a σ).Perm (stW z a (lm_sb σ 1 3 τ)) := by
  have e : stW z a (lm_sb σ 1 3 τ) = (a 0, .inr (4, [.ref (a 1), .ref (a 4), .ref (a 7), .ref (a 11), .ref (a 15), .ref (a 16), .int (σ 0 6), .int (σ 0 7)])) :: (tbW z (lm_sh 1 a) τ ++ (tbW z (lm_sh 4 a) (lm_sh 4 σ) ++ (anW z (lm_sh 7 a) (lm_sh 7 σ) ++ (meW z (lm_sh 11 a) (lm_sh 11 σ) ++ [(a 15, .inl (z, 5, .inl (σ 15))), (a 16, .inl (z, 7, .inl (σ 16)))])))) := rfl
  rw [e]
  refine lm_cnt fun f g h1 h2 h3 => ?_
  simp only [stR1, h1, h2, h3]
  omega
theorem st_s1 (z : ClassId) (a : Nat → Nat) (σ : Hp) : ∀ q ∈ tbW z (lm_sh 1 a) (lm_sh 1 σ), q ∈ stW z a σ := fun q hq => (st_g1 z a σ).mem_iff.mpr (List.mem_append_left _ hq)
def stR4 (z : ClassId) (a : Nat → Nat) (σ : Hp) : va_W := (a 0, .inr (4, [.ref (a 1), .ref (a 4), .ref (a 7), .ref (a 11), .ref (a 15), .ref (a 16), .int (σ 0 6), .int (σ 0 7)])) :: (tbW z (lm_sh 1 a) (lm_sh 1 σ) ++ (anW z (lm_sh 7 a) (lm_sh 7 σ) ++ (meW z (lm_sh 11 a) (lm_sh 11 σ) ++ [(a 15, .inl (z, 5, .inl (σ 15))), (a 16, .inl (z, 7, .inl (σ 16)))])))
theorem st_g4 (z : ClassId) (a : Nat → Nat) (σ : Hp) : (stW z a σ).Perm (tbW z (lm_sh 4 a) (lm_sh 4 σ) ++ stR4 z a σ) := by
  refine lm_cnt fun f g h1 h2 h3 => ?_
  simp only [stW, stR4, h1, h2, h3]
  omega
theorem st_p4 (z : ClassId) (a : Nat → Nat) (σ : Hp) (τ : Hp) : (tbW z (lm_sh 4 a) τ ++ stR4 z a σ).Perm (stW z a (lm_sb σ 4 3 τ)) := by
  have e : stW z a (lm_sb σ 4 3 τ) = (a 0, .inr (4, [.ref (a 1), .ref (a 4), .ref (a 7), .ref (a 11), .ref (a 15), .ref (a 16), .int (σ 0 6), .int (σ 0 7)])) :: (tbW z (lm_sh 1 a) (lm_sh 1 σ) ++ (tbW z (lm_sh 4 a) τ ++ (anW z (lm_sh 7 a) (lm_sh 7 σ) ++ (meW z (lm_sh 11 a) (lm_sh 11 σ) ++ [(a 15, .inl (z, 5, .inl (σ 15))), (a 16, .inl (z, 7, .inl (σ 16)))])))) := rfl
  rw [e]
  refine lm_cnt fun f g h1 h2 h3 => ?_
  simp only [stR4, h1, h2, h3]
  omega
theorem st_s4 (z : ClassId) (a : Nat → Nat) (σ : Hp) : ∀ q ∈ tbW z (lm_sh 4 a) (lm_sh 4 σ), q ∈ stW z a σ := fun q hq => (st_g4 z a σ).mem_iff.mpr (List.mem_append_left _ hq)
def stR7 (z : ClassId) (a : Nat → Nat) (σ : Hp) : va_W := (a 0, .inr (4, [.ref (a 1), .ref (a 4), .ref (a 7), .ref (a 11), .ref (a 15), .ref (a 16), .int (σ 0 6), .int (σ 0 7)])) :: (tbW z (lm_sh 1 a) (lm_sh 1 σ) ++ (tbW z (lm_sh 4 a) (lm_sh 4 σ) ++ (meW z (lm_sh 11 a) (lm_sh 11 σ) ++ [(a 15, .inl (z, 5, .inl (σ 15))), (a 16, .inl (z, 7, .inl (σ 16)))])))
theorem st_g7 (z : ClassId) (a : Nat → Nat) (σ : Hp) : (stW z a σ).Perm (anW z (lm_sh 7 a) (lm_sh 7 σ) ++ stR7 z a σ) := by
  refine lm_cnt fun f g h1 h2 h3 => ?_
  simp only [stW, stR7, h1, h2, h3]
  omega
theorem st_p7 (z : ClassId) (a : Nat → Nat) (σ : Hp) (τ : Hp) : (anW z (lm_sh 7 a) τ ++ stR7 z a σ).Perm (stW z a (lm_sb σ 7 4 τ)) := by
  have e : stW z a (lm_sb σ 7 4 τ) = (a 0, .inr (4, [.ref (a 1), .ref (a 4), .ref (a 7), .ref (a 11), .ref (a 15), .ref (a 16), .int (σ 0 6), .int (σ 0 7)])) :: (tbW z (lm_sh 1 a) (lm_sh 1 σ) ++ (tbW z (lm_sh 4 a) (lm_sh 4 σ) ++ (anW z (lm_sh 7 a) τ ++ (meW z (lm_sh 11 a) (lm_sh 11 σ) ++ [(a 15, .inl (z, 5, .inl (σ 15))), (a 16, .inl (z, 7, .inl (σ 16)))])))) := rfl
  rw [e]
  refine lm_cnt fun f g h1 h2 h3 => ?_
  simp only [stR7, h1, h2, h3]
  omega
theorem st_s7 (z : ClassId) (a : Nat → Nat) (σ : Hp) : ∀ q ∈ anW z (lm_sh 7 a) (lm_sh 7 σ), q ∈ stW z a σ := fun q hq => (st_g7 z a σ).mem_iff.mpr (List.mem_append_left _ hq)
def stR11 (z : ClassId) (a : Nat → Nat) (σ : Hp) : va_W := (a 0, .inr (4, [.ref (a 1), .ref (a 4), .ref (a 7), .ref (a 11), .ref (a 15), .ref (a 16), .int (σ 0 6), .int (σ 0 7)])) :: (tbW z (lm_sh 1 a) (lm_sh 1 σ) ++ (tbW z (lm_sh 4 a) (lm_sh 4 σ) ++ (anW z (lm_sh 7 a) (lm_sh 7 σ) ++ [(a 15, .inl (z, 5, .inl (σ 15))), (a 16, .inl (z, 7, .inl (σ 16)))])))
theorem st_g11 (z : ClassId) (a : Nat → Nat) (σ : Hp) : (stW z a σ).Perm (meW z (lm_sh 11 a) (lm_sh 11 σ) ++ stR11 z a σ) := by
  refine lm_cnt fun f g h1 h2 h3 => ?_
  simp only [stW, stR11, h1, h2, h3]
  omega
theorem st_p11 (z : ClassId) (a : Nat → Nat) (σ : Hp) (τ : Hp) : (meW z (lm_sh 11 a) τ ++ stR11 z a σ).Perm (stW z a (lm_sb σ 11 4 τ)) := by
  have e : stW z a (lm_sb σ 11 4 τ) = (a 0, .inr (4, [.ref (a 1), .ref (a 4), .ref (a 7), .ref (a 11), .ref (a 15), .ref (a 16), .int (σ 0 6), .int (σ 0 7)])) :: (tbW z (lm_sh 1 a) (lm_sh 1 σ) ++ (tbW z (lm_sh 4 a) (lm_sh 4 σ) ++ (anW z (lm_sh 7 a) (lm_sh 7 σ) ++ (meW z (lm_sh 11 a) τ ++ [(a 15, .inl (z, 5, .inl (σ 15))), (a 16, .inl (z, 7, .inl (σ 16)))])))) := rfl
  rw [e]
  refine lm_cnt fun f g h1 h2 h3 => ?_
  simp only [stR11, h1, h2, h3]
  omega
theorem st_s11 (z : ClassId) (a : Nat → Nat) (σ : Hp) : ∀ q ∈ meW z (lm_sh 11 a) (lm_sh 11 σ), q ∈ stW z a σ := fun q hq => (st_g11 z a σ).mem_iff.mpr (List.mem_append_left _ hq)
def stR74 (z : ClassId) (a : Nat → Nat) (σ : Hp) : va_W := (a 0, .inr (4, [.ref (a 1), .ref (a 4), .ref (a 7), .ref (a 11), .ref (a 15), .ref (a 16), .int (σ 0 6), .int (σ 0 7)])) :: (tbW z (lm_sh 1 a) (lm_sh 1 σ) ++ (meW z (lm_sh 11 a) (lm_sh 11 σ) ++ [(a 15, .inl (z, 5, .inl (σ 15))), (a 16, .inl (z, 7, .inl (σ 16)))]))
theorem st_g74 (z : ClassId) (a : Nat → Nat) (σ : Hp) : (stW z a σ).Perm ((anW z (lm_sh 7 a) (lm_sh 7 σ) ++ tbW z (lm_sh 4 a) (lm_sh 4 σ)) ++ stR74 z a σ) := by
  refine lm_cnt fun f g h1 h2 h3 => ?_
  simp only [stW, stR74, h1, h2, h3]
  omega
theorem st_p74 (z : ClassId) (a : Nat → Nat) (σ : Hp) (τ : Hp) : ((anW z (lm_sh 7 a) τ ++ tbW z (lm_sh 4 a) (lm_sh 4 σ)) ++ stR74 z a σ).Perm (stW z a (lm_sb σ 7 4 τ)) := by
  have e : stW z a (lm_sb σ 7 4 τ) = (a 0, .inr (4, [.ref (a 1), .ref (a 4), .ref (a 7), .ref (a 11), .ref (a 15), .ref (a 16), .int (σ 0 6), .int (σ 0 7)])) :: (tbW z (lm_sh 1 a) (lm_sh 1 σ) ++ (tbW z (lm_sh 4 a) (lm_sh 4 σ) ++ (anW z (lm_sh 7 a) τ ++ (meW z (lm_sh 11 a) (lm_sh 11 σ) ++ [(a 15, .inl (z, 5, .inl (σ 15))), (a 16, .inl (z, 7, .inl (σ 16)))])))) := rfl
  rw [e]
  refine lm_cnt fun f g h1 h2 h3 => ?_
  simp only [stR74, h1, h2, h3]
  omega
def lmW (z zo : ClassId) (m : Nat → Nat) (a : Nat → Nat → Nat) (h : Nat → Hp) : va_W := (m 0, .inr (6, [.ref (a 0 0), .ref (a 1 0), .ref (a 2 0), .ref (m 3), .ref (m 1), .int (h 8 0 5), .int (h 8 0 6), .int (h 8 0 7), .int (h 8 0 8)])) :: (pdW z (lm_sh 1 m) (lm_sh 1 (h 8)) ++ (m 3, .inr (1, [.ref (m 4), .int (h 8 3 1), .int (h 8 3 2)])) :: (m 4, .inl (zo, 5, .inr (.inr (.inr (.inr (fun i => some (a (3 + i) 0))))))) :: (stW z (a 0) (h 0) ++ (stW z (a 1) (h 1) ++ (stW z (a 2) (h 2) ++ (stW z (a 3) (h 3) ++ (stW z (a 4) (h 4) ++ (stW z (a 5) (h 5) ++ (stW z (a 6) (h 6) ++ (stW z (a 7) (h 7) ++ [])))))))))
def lmR0 (z zo : ClassId) (m : Nat → Nat) (a : Nat → Nat → Nat) (h : Nat → Hp) : va_W := (m 0, .inr (6, [.ref (a 0 0), .ref (a 1 0), .ref (a 2 0), .ref (m 3), .ref (m 1), .int (h 8 0 5), .int (h 8 0 6), .int (h 8 0 7), .int (h 8 0 8)])) :: (pdW z (lm_sh 1 m) (lm_sh 1 (h 8)) ++ (m 3, .inr (1, [.ref (m 4), .int (h 8 3 1), .int (h 8 3 2)])) :: (m 4, .inl (zo, 5, .inr (.inr (.inr (.inr (fun i => some (a (3 + i) 0))))))) :: (stW z (a 1) (h 1) ++ (stW z (a 2) (h 2) ++ (stW z (a 3) (h 3) ++ (stW z (a 4) (h 4) ++ (stW z (a 5) (h 5) ++ (stW z (a 6) (h 6) ++ (stW z (a 7) (h 7) ++ []))))))))
theorem lm_g0 (z zo : ClassId) (m : Nat → Nat) (a : Nat → Nat → Nat) (h : Nat → Hp) : (lmW z zo m a h).Perm (stW z (a 0) (h 0) ++ lmR0 z zo m a h) := by
  refine lm_cnt fun f g h1 h2 h3 => ?_
  simp only [lmW, lmR0, h1, h2, h3]
  omega
theorem lm_p0 (z zo : ClassId) (m : Nat → Nat) (a : Nat → Nat → Nat) (h : Nat → Hp) (τ : Hp) : (stW z (a 0) τ ++ lmR0 z zo m a h).Perm (lmW z zo m a (lm_uB h 0 τ)) := by
  have e : lmW z zo m a (lm_uB h 0 τ) = (m 0, .inr (6, [.ref (a 0 0), .ref (a 1 0), .ref (a 2 0), .ref (m 3), .ref (m 1), .int (h 8 0 5), .int (h 8 0 6), .int (h 8 0 7), .int (h 8 0 8)])) :: (pdW z (lm_sh 1 m) (lm_sh 1 (h 8)) ++ (m 3, .inr (1, [.ref (m 4), .int (h 8 3 1), .int (h 8 3 2)])) :: (m 4, .inl (zo, 5, .inr (.inr (.inr (.inr (fun i => some (a (3 + i) 0))))))) :: (stW z (a 0) τ ++ (stW z (a 1) (h 1) ++ (stW z (a 2) (h 2) ++ (stW z (a 3) (h 3) ++ (stW z (a 4) (h 4) ++ (stW z (a 5) (h 5) ++ (stW z (a 6) (h 6) ++ (stW z (a 7) (h 7) ++ []))))))))) := rfl
  rw [e]
  refine lm_cnt fun f g h1 h2 h3 => ?_
  simp only [lmR0, h1, h2, h3]
  omega
theorem lm_s0 (z zo : ClassId) (m : Nat → Nat) (a : Nat → Nat → Nat) (h : Nat → Hp) : ∀ q ∈ stW z (a 0) (h 0), q ∈ lmW z zo m a h := fun q hq => (lm_g0 z zo m a h).mem_iff.mpr (List.mem_append_left _ hq)
def lmR1 (z zo : ClassId) (m : Nat → Nat) (a : Nat → Nat → Nat) (h : Nat → Hp) : va_W := (m 0, .inr (6, [.ref (a 0 0), .ref (a 1 0), .ref (a 2 0), .ref (m 3), .ref (m 1), .int (h 8 0 5), .int (h 8 0 6), .int (h 8 0 7), .int (h 8 0 8)])) :: (pdW z (lm_sh 1 m) (lm_sh 1 (h 8)) ++ (m 3, .inr (1, [.ref (m 4), .int (h 8 3 1), .int (h 8 3 2)])) :: (m 4, .inl (zo, 5, .inr (.inr (.inr (.inr (fun i => some (a (3 + i) 0))))))) :: (stW z (a 0) (h 0) ++ (stW z (a 2) (h 2) ++ (stW z (a 3) (h 3) ++ (stW z (a 4) (h 4) ++ (stW z (a 5) (h 5) ++ (stW z (a 6) (h 6) ++ (stW z (a 7) (h 7) ++ []))))))))
theorem lm_g1 (z zo : ClassId) (m : Nat → Nat) (a : Nat → Nat → Nat) (h : Nat → Hp) : (lmW z zo m a h).Perm (stW z (a 1) (h 1) ++ lmR1 z zo m a h) := by
  refine lm_cnt fun f g h1 h2 h3 => ?_
  simp only [lmW, lmR1, h1, h2, h3]
  omega
theorem lm_p1 (z zo : ClassId) (m : Nat → Nat) (a : Nat → Nat → Nat) (h : Nat → Hp) (τ : Hp) : (stW z (a 1) τ ++ lmR1 z zo m a h).Perm (lmW z zo m a (lm_uB h 1 τ)) := by
  have e : lmW z zo m a (lm_uB h 1 τ) = (m 0, .inr (6, [.ref (a 0 0), .ref (a 1 0), .ref (a 2 0), .ref (m 3), .ref (m 1), .int (h 8 0 5), .int (h 8 0 6), .int (h 8 0 7), .int (h 8 0 8)])) :: (pdW z (lm_sh 1 m) (lm_sh 1 (h 8)) ++ (m 3, .inr (1, [.ref (m 4), .int (h 8 3 1), .int (h 8 3 2)])) :: (m 4, .inl (zo, 5, .inr (.inr (.inr (.inr (fun i => some (a (3 + i) 0))))))) :: (stW z (a 0) (h 0) ++ (stW z (a 1) τ ++ (stW z (a 2) (h 2) ++ (stW z (a 3) (h 3) ++ (stW z (a 4) (h 4) ++ (stW z (a 5) (h 5) ++ (stW z (a 6) (h 6) ++ (stW z (a 7) (h 7) ++ []))))))))) := rfl
  rw [e]
  refine lm_cnt fun f g h1 h2 h3 => ?_
  simp only [lmR1, h1, h2, h3]
  omega
theorem lm_s1 (z zo : ClassId) (m : Nat → Nat) (a : Nat → Nat → Nat) (h : Nat → Hp) : ∀ q ∈ stW z (a 1) (h 1), q ∈ lmW z zo m a h := fun q hq => (lm_g1 z zo m a h).mem_iff.mpr (List.mem_append_left _ hq)
def lmR2 (z zo : ClassId) (m : Nat → Nat) (a : Nat → Nat → Nat) (h : Nat → Hp) : va_W := (m 0, .inr (6, [.ref (a 0 0), .ref (a 1 0), .ref (a 2 0), .ref (m 3), .ref (m 1), .int (h 8 0 5), .int (h 8 0 6), .int (h 8 0 7), .int (h 8 0 8)])) :: (pdW z (lm_sh 1 m) (lm_sh 1 (h 8)) ++ (m 3, .inr (1, [.ref (m 4), .int (h 8 3 1), .int (h 8 3 2)])) :: (m 4, .inl (zo, 5, .inr (.inr (.inr (.inr (fun i => some (a (3 + i) 0))))))) :: (stW z (a 0) (h 0) ++ (stW z (a 1) (h 1) ++ (stW z (a 3) (h 3) ++ (stW z (a 4) (h 4) ++ (stW z (a 5) (h 5) ++ (stW z (a 6) (h 6) ++ (stW z (a 7) (h 7) ++ []))))))))
theorem lm_g2 (z zo : ClassId) (m : Nat → Nat) (a : Nat → Nat → Nat) (h : Nat → Hp) : (lmW z zo m a h).Perm (stW z (a 2) (h 2) ++ lmR2 z zo m a h) := by
  refine lm_cnt fun f g h1 h2 h3 => ?_
  simp only [lmW, lmR2, h1, h2, h3]
  omega
theorem lm_p2 (z zo : ClassId) (m : Nat → Nat) (a : Nat → Nat → Nat) (h : Nat → Hp) (τ : Hp) : (stW z (a 2) τ ++ lmR2 z zo m a h).Perm (lmW z zo m a (lm_uB h 2 τ)) := by
  have e : lmW z zo m a (lm_uB h 2 τ) = (m 0, .inr (6, [.ref (a 0 0), .ref (a 1 0), .ref (a 2 0), .ref (m 3), .ref (m 1), .int (h 8 0 5), .int (h 8 0 6), .int (h 8 0 7), .int (h 8 0 8)])) :: (pdW z (lm_sh 1 m) (lm_sh 1 (h 8)) ++ (m 3, .inr (1, [.ref (m 4), .int (h 8 3 1), .int (h 8 3 2)])) :: (m 4, .inl (zo, 5, .inr (.inr (.inr (.inr (fun i => some (a (3 + i) 0))))))) :: (stW z (a 0) (h 0) ++ (stW z (a 1) (h 1) ++ (stW z (a 2) τ ++ (stW z (a 3) (h 3) ++ (stW z (a 4) (h 4) ++ (stW z (a 5) (h 5) ++ (stW z (a 6) (h 6) ++ (stW z (a 7) (h 7) ++ []))))))))) := rfl
  rw [e]
  refine lm_cnt fun f g h1 h2 h3 => ?_
  simp only [lmR2, h1, h2, h3]
  omega
theorem lm_s2 (z zo : ClassId) (m : Nat → Nat) (a : Nat → Nat → Nat) (h : Nat → Hp) : ∀ q ∈ stW z (a 2) (h 2), q ∈ lmW z zo m a h := fun q hq => (lm_g2 z zo m a h).mem_iff.mpr (List.mem_append_left _ hq)
def lmR3 (z zo : ClassId) (m : Nat → Nat) (a : Nat → Nat → Nat) (h : Nat → Hp) : va_W := (m 0, .inr (6, [.ref (a 0 0), .ref (a 1 0), .ref (a 2 0), .ref (m 3), .ref (m 1), .int (h 8 0 5), .int (h 8 0 6), .int (h 8 0 7), .int (h 8 0 8)])) :: (pdW z (lm_sh 1 m) (lm_sh 1 (h 8)) ++ (m 3, .inr (1, [.ref (m 4), .int (h 8 3 1), .int (h 8 3 2)])) :: (m 4, .inl (zo, 5, .inr (.inr (.inr (.inr (fun i => some (a (3 + i) 0))))))) :: (stW z (a 0) (h 0) ++ (stW z (a 1) (h 1) ++ (stW z (a 2) (h 2) ++ (stW z (a 4) (h 4) ++ (stW z (a 5) (h 5) ++ (stW z (a 6) (h 6) ++ (stW z (a 7) (h 7) ++ []))))))))
theorem lm_g3 (z zo : ClassId) (m : Nat → Nat) (a : Nat → Nat → Nat) (h : Nat → Hp) : (lmW z zo m a h).Perm (stW z (a 3) (h 3) ++ lmR3 z zo m a h) := by
  refine lm_cnt fun f g h1 h2 h3 => ?_
  simp only [lmW, lmR3, h1, h2, h3]
  omega
theorem lm_p3 (z zo : ClassId) (m : Nat → Nat) (a : Nat → Nat → Nat) (h : Nat → Hp) (τ : Hp) : (stW z (a 3) τ ++ lmR3 z zo m a h).Perm (lmW z zo m a (lm_uB h 3 τ)) := by
  have e : lmW z zo m a (lm_uB h 3 τ) = (m 0, .inr (6, [.ref (a 0 0), .ref (a 1 0), .ref (a 2 0), .ref (m 3), .ref (m 1), .int (h 8 0 5), .int (h 8 0 6), .int (h 8 0 7), .int (h 8 0 8)])) :: (pdW z (lm_sh 1 m) (lm_sh 1 (h 8)) ++ (m 3, .inr (1, [.ref (m 4), .int (h 8 3 1), .int (h 8 3 2)])) :: (m 4, .inl (zo, 5, .inr (.inr (.inr (.inr (fun i => some (a (3 + i) 0))))))) :: (stW z (a 0) (h 0) ++ (stW z (a 1) (h 1) ++ (stW z (a 2) (h 2) ++ (stW z (a 3) τ ++ (stW z (a 4) (h 4) ++ (stW z (a 5) (h 5) ++ (stW z (a 6) (h 6) ++ (stW z (a 7) (h 7) ++ []))))))))) := rfl
  rw [e]
  refine lm_cnt fun f g h1 h2 h3 => ?_
  simp only [lmR3, h1, h2, h3]
  omega
theorem lm_s3 (z zo : ClassId) (m : Nat → Nat) (a : Nat → Nat → Nat) (h : Nat → Hp) : ∀ q ∈ stW z (a 3) (h 3), q ∈ lmW z zo m a h := fun q hq => (lm_g3 z zo m a h).mem_iff.mpr (List.mem_append_left _ hq)
def lmR4 (z zo : ClassId) (m : Nat → Nat) (a : Nat → Nat → Nat) (h : Nat → Hp) : va_W := (m 0, .inr (6, [.ref (a 0 0), .ref (a 1 0), .ref (a 2 0), .ref (m 3), .ref (m 1), .int (h 8 0 5), .int (h 8 0 6), .int (h 8 0 7), .int (h 8 0 8)])) :: (pdW z (lm_sh 1 m) (lm_sh 1 (h 8)) ++ (m 3, .inr (1, [.ref (m 4), .int (h 8 3 1), .int (h 8 3 2)])) :: (m 4, .inl (zo, 5, .inr (.inr (.inr (.inr (fun i => some (a (3 + i) 0))))))) :: (stW z (a 0) (h 0) ++ (stW z (a 1) (h 1) ++ (stW z (a 2) (h 2) ++ (stW z (a 3) (h 3) ++ (stW z (a 5) (h 5) ++ (stW z (a 6) (h 6) ++ (stW z (a 7) (h 7) ++ []))))))))
theorem lm_g4 (z zo : ClassId) (m : Nat → Nat) (a : Nat → Nat → Nat) (h : Nat → Hp) : (lmW z zo m a h).Perm (stW z (a 4) (h 4) ++ lmR4 z zo m a h) := by
  refine lm_cnt fun f g h1 h2 h3 => ?_
  simp only [lmW, lmR4, h1, h2, h3]
  omega
theorem lm_p4 (z zo : ClassId) (m : Nat → Nat) (a : Nat → Nat → Nat) (h : Nat → Hp) (τ : Hp) : (stW z (a 4) τ ++ lmR4 z zo m a h).Perm (lmW z zo m a (lm_uB h 4 τ)) := by
  have e : lmW z zo m a (lm_uB h 4 τ) = (m 0, .inr (6, [.ref (a 0 0), .ref (a 1 0), .ref (a 2 0), .ref (m 3), .ref (m 1), .int (h 8 0 5), .int (h 8 0 6), .int (h 8 0 7), .int (h 8 0 8)])) :: (pdW z (lm_sh 1 m) (lm_sh 1 (h 8)) ++ (m 3, .inr (1, [.ref (m 4), .int (h 8 3 1), .int (h 8 3 2)])) :: (m 4, .inl (zo, 5, .inr (.inr (.inr (.inr (fun i => some (a (3 + i) 0))))))) :: (stW z (a 0) (h 0) ++ (stW z (a 1) (h 1) ++ (stW z (a 2) (h 2) ++ (stW z (a 3) (h 3) ++ (stW z (a 4) τ ++ (stW z (a 5) (h 5) ++ (stW z (a 6) (h 6) ++ (stW z (a 7) (h 7) ++ []))))))))) := rfl
  rw [e]
  refine lm_cnt fun f g h1 h2 h3 => ?_
  simp only [lmR4, h1, h2, h3]
  omega
theorem lm_s4 (z zo : ClassId) (m : Nat → Nat) (a : Nat → Nat → Nat) (h : Nat → Hp) : ∀ q ∈ stW z (a 4) (h 4), q ∈ lmW z zo m a h := fun q hq => (lm_g4 z zo m a h).mem_iff.mpr (List.mem_append_left _ hq)
def lmR5 (z zo : ClassId) (m : Nat → Nat) (a : Nat → Nat → Nat) (h : Nat → Hp) : va_W := (m 0, .inr (6, [.ref (a 0 0), .ref (a 1 0), .ref (a 2 0), .ref (m 3), .ref (m 1), .int (h 8 0 5), .int (h 8 0 6), .int (h 8 0 7), .int (h 8 0 8)])) :: (pdW z (lm_sh 1 m) (lm_sh 1 (h 8)) ++ (m 3, .inr (1, [.ref (m 4), .int (h 8 3 1), .int (h 8 3 2)])) :: (m 4, .inl (zo, 5, .inr (.inr (.inr (.inr (fun i => some (a (3 + i) 0))))))) :: (stW z (a 0) (h 0) ++ (stW z (a 1) (h 1) ++ (stW z (a 2) (h 2) ++ (stW z (a 3) (h 3) ++ (stW z (a 4) (h 4) ++ (stW z (a 6) (h 6) ++ (stW z (a 7) (h 7) ++ []))))))))
theorem lm_g5 (z zo : ClassId) (m : Nat → Nat) (a : Nat → Nat → Nat) (h : Nat → Hp) : (lmW z zo m a h).Perm (stW z (a 5) (h 5) ++ lmR5 z zo m a h) := by
  refine lm_cnt fun f g h1 h2 h3 => ?_
  simp only [lmW, lmR5, h1, h2, h3]
  omega
theorem lm_p5 (z zo : ClassId) (m : Nat → Nat) (a : Nat → Nat → Nat) (h : Nat → Hp) (τ : Hp) : (stW z (a 5) τ ++ lmR5 z zo m a h).Perm (lmW z zo m a (lm_uB h 5 τ)) := by
  have e : lmW z zo m a (lm_uB h 5 τ) = (m 0, .inr (6, [.ref (a 0 0), .ref (a 1 0), .ref (a 2 0), .ref (m 3), .ref (m 1), .int (h 8 0 5), .int (h 8 0 6), .int (h 8 0 7), .int (h 8 0 8)])) :: (pdW z (lm_sh 1 m) (lm_sh 1 (h 8)) ++ (m 3, .inr (1, [.ref (m 4), .int (h 8 3 1), .int (h 8 3 2)])) :: (m 4, .inl (zo, 5, .inr (.inr (.inr (.inr (fun i => some (a (3 + i) 0))))))) :: (stW z (a 0) (h 0) ++ (stW z (a 1) (h 1) ++ (stW z (a 2) (h 2) ++ (stW z (a 3) (h 3) ++ (stW z (a 4) (h 4) ++ (stW z (a 5) τ ++ (stW z (a 6) (h 6) ++ (stW z (a 7) (h 7) ++ []))))))))) := rfl
  rw [e]
  refine lm_cnt fun f g h1 h2 h3 => ?_
  simp only [lmR5, h1, h2, h3]
  omega
theorem lm_s5 (z zo : ClassId) (m : Nat → Nat) (a : Nat → Nat → Nat) (h : Nat → Hp) : ∀ q ∈ stW z (a 5) (h 5), q ∈ lmW z zo m a h := fun q hq => (lm_g5 z zo m a h).mem_iff.mpr (List.mem_append_left _ hq)
def lmR6 (z zo : ClassId) (m : Nat → Nat) (a : Nat → Nat → Nat) (h : Nat → Hp) : va_W := (m 0, .inr (6, [.ref (a 0 0), .ref (a 1 0), .ref (a 2 0), .ref (m 3), .ref (m 1), .int (h 8 0 5), .int (h 8 0 6), .int (h 8 0 7), .int (h 8 0 8)])) :: (pdW z (lm_sh 1 m) (lm_sh 1 (h 8)) ++ (m 3, .inr (1, [.ref (m 4), .int (h 8 3 1), .int (h 8 3 2)])) :: (m 4, .inl (zo, 5, .inr (.inr (.inr (.inr (fun i => some (a (3 + i) 0))))))) :: (stW z (a 0) (h 0) ++ (stW z (a 1) (h 1) ++ (stW z (a 2) (h 2) ++ (stW z (a 3) (h 3) ++ (stW z (a 4) (h 4) ++ (stW z (a 5) (h 5) ++ (stW z (a 7) (h 7) ++ []))))))))
theorem lm_g6 (z zo : ClassId) (m : Nat → Nat) (a : Nat → Nat → Nat) (h : Nat → Hp) : (lmW z zo m a h).Perm (stW z (a 6) (h 6) ++ lmR6 z zo m a h) := by
  refine lm_cnt fun f g h1 h2 h3 => ?_
  simp only [lmW, lmR6, h1, h2, h3]
  omega
theorem lm_p6 (z zo : ClassId) (m : Nat → Nat) (a : Nat → Nat → Nat) (h : Nat → Hp) (τ : Hp) : (stW z (a 6) τ ++ lmR6 z zo m a h).Perm (lmW z zo m a (lm_uB h 6 τ)) := by
  have e : lmW z zo m a (lm_uB h 6 τ) = (m 0, .inr (6, [.ref (a 0 0), .ref (a 1 0), .ref (a 2 0), .ref (m 3), .ref (m 1), .int (h 8 0 5), .int (h 8 0 6), .int (h 8 0 7), .int (h 8 0 8)])) :: (pdW z (lm_sh 1 m) (lm_sh 1 (h 8)) ++ (m 3, .inr (1, [.ref (m 4), .int (h 8 3 1), .int (h 8 3 2)])) :: (m 4, .inl (zo, 5, .inr (.inr (.inr (.inr (fun i => some (a (3 + i) 0))))))) :: (stW z (a 0) (h 0) ++ (stW z (a 1) (h 1) ++ (stW z (a 2) (h 2) ++ (stW z (a 3) (h 3) ++ (stW z (a 4) (h 4) ++ (stW z (a 5) (h 5) ++ (stW z (a 6) τ ++ (stW z (a 7) (h 7) ++ []))))))))) := rfl
  rw [e]
  refine lm_cnt fun f g h1 h2 h3 => ?_
  simp only [lmR6, h1, h2, h3]
  omega
theorem lm_s6 (z zo : ClassId) (m : Nat → Nat) (a : Nat → Nat → Nat) (h : Nat → Hp) : ∀ q ∈ stW z (a 6) (h 6), q ∈ lmW z zo m a h := fun q hq => (lm_g6 z zo m a h).mem_iff.mpr (List.mem_append_left _ hq)
def lmR7 (z zo : ClassId) (m : Nat → Nat) (a : Nat → Nat → Nat) (h : Nat → Hp) : va_W := (m 0, .inr (6, [.ref (a 0 0), .ref (a 1 0), .ref (a 2 0), .ref (m 3), .ref (m 1), .int (h 8 0 5), .int (h 8 0 6), .int (h 8 0 7), .int (h 8 0 8)])) :: (pdW z (lm_sh 1 m) (lm_sh 1 (h 8)) ++ (m 3, .inr (1, [.ref (m 4), .int (h 8 3 1), .int (h 8 3 2)])) :: (m 4, .inl (zo, 5, .inr (.inr (.inr (.inr (fun i => some (a (3 + i) 0))))))) :: (stW z (a 0) (h 0) ++ (stW z (a 1) (h 1) ++ (stW z (a 2) (h 2) ++ (stW z (a 3) (h 3) ++ (stW z (a 4) (h 4) ++ (stW z (a 5) (h 5) ++ (stW z (a 6) (h 6) ++ []))))))))
theorem lm_g7 (z zo : ClassId) (m : Nat → Nat) (a : Nat → Nat → Nat) (h : Nat → Hp) : (lmW z zo m a h).Perm (stW z (a 7) (h 7) ++ lmR7 z zo m a h) := by
  refine lm_cnt fun f g h1 h2 h3 => ?_
  simp only [lmW, lmR7, h1, h2, h3]
  omega
theorem lm_p7 (z zo : ClassId) (m : Nat → Nat) (a : Nat → Nat → Nat) (h : Nat → Hp) (τ : Hp) : (stW z (a 7) τ ++ lmR7 z zo m a h).Perm (lmW z zo m a (lm_uB h 7 τ)) := by
  have e : lmW z zo m a (lm_uB h 7 τ) = (m 0, .inr (6, [.ref (a 0 0), .ref (a 1 0), .ref (a 2 0), .ref (m 3), .ref (m 1), .int (h 8 0 5), .int (h 8 0 6), .int (h 8 0 7), .int (h 8 0 8)])) :: (pdW z (lm_sh 1 m) (lm_sh 1 (h 8)) ++ (m 3, .inr (1, [.ref (m 4), .int (h 8 3 1), .int (h 8 3 2)])) :: (m 4, .inl (zo, 5, .inr (.inr (.inr (.inr (fun i => some (a (3 + i) 0))))))) :: (stW z (a 0) (h 0) ++ (stW z (a 1) (h 1) ++ (stW z (a 2) (h 2) ++ (stW z (a 3) (h 3) ++ (stW z (a 4) (h 4) ++ (stW z (a 5) (h 5) ++ (stW z (a 6) (h 6) ++ (stW z (a 7) τ ++ []))))))))) := rfl
  rw [e]
  refine lm_cnt fun f g h1 h2 h3 => ?_
  simp only [lmR7, h1, h2, h3]
  omega
theorem lm_s7 (z zo : ClassId) (m : Nat → Nat) (a : Nat → Nat → Nat) (h : Nat → Hp) : ∀ q ∈ stW z (a 7) (h 7), q ∈ lmW z zo m a h := fun q hq => (lm_g7 z zo m a h).mem_iff.mpr (List.mem_append_left _ hq)
def lmRP (z zo : ClassId) (m : Nat → Nat) (a : Nat → Nat → Nat) (h : Nat → Hp) : va_W := (m 0, .inr (6, [.ref (a 0 0), .ref (a 1 0), .ref (a 2 0), .ref (m 3), .ref (m 1), .int (h 8 0 5), .int (h 8 0 6), .int (h 8 0 7), .int (h 8 0 8)])) :: ((m 3, .inr (1, [.ref (m 4), .int (h 8 3 1), .int (h 8 3 2)])) :: (m 4, .inl (zo, 5, .inr (.inr (.inr (.inr (fun i => some (a (3 + i) 0))))))) :: (stW z (a 0) (h 0) ++ (stW z (a 1) (h 1) ++ (stW z (a 2) (h 2) ++ (stW z (a 3) (h 3) ++ (stW z (a 4) (h 4) ++ (stW z (a 5) (h 5) ++ (stW z (a 6) (h 6) ++ (stW z (a 7) (h 7) ++ [])))))))))
theorem lm_gP (z zo : ClassId) (m : Nat → Nat) (a : Nat → Nat → Nat) (h : Nat → Hp) : (lmW z zo m a h).Perm (pdW z (lm_sh 1 m) (lm_sh 1 (h 8)) ++ lmRP z zo m a h) := by
  refine lm_cnt fun f g h1 h2 h3 => ?_
  simp only [lmW, lmRP, h1, h2, h3]
  omega
theorem lm_pP (z zo : ClassId) (m : Nat → Nat) (a : Nat → Nat → Nat) (h : Nat → Hp) (τ : Hp) : (pdW z (lm_sh 1 m) τ ++ lmRP z zo m a h).Perm (lmW z zo m a (lm_uB h 8 (lm_sb (h 8) 1 2 τ))) := by
  have e : lmW z zo m a (lm_uB h 8 (lm_sb (h 8) 1 2 τ)) = (m 0, .inr (6, [.ref (a 0 0), .ref (a 1 0), .ref (a 2 0), .ref (m 3), .ref (m 1), .int (h 8 0 5), .int (h 8 0 6), .int (h 8 0 7), .int (h 8 0 8)])) :: (pdW z (lm_sh 1 m) τ ++ (m 3, .inr (1, [.ref (m 4), .int (h 8 3 1), .int (h 8 3 2)])) :: (m 4, .inl (zo, 5, .inr (.inr (.inr (.inr (fun i => some (a (3 + i) 0))))))) :: (stW z (a 0) (h 0) ++ (stW z (a 1) (h 1) ++ (stW z (a 2) (h 2) ++ (stW z (a 3) (h 3) ++ (stW z (a 4) (h 4) ++ (stW z (a 5) (h 5) ++ (stW z (a 6) (h 6) ++ (stW z (a 7) (h 7) ++ []))))))))) := rfl
  rw [e]
  refine lm_cnt fun f g h1 h2 h3 => ?_
  simp only [lmRP, h1, h2, h3]
  omega
theorem lm_sP (z zo : ClassId) (m : Nat → Nat) (a : Nat → Nat → Nat) (h : Nat → Hp) : ∀ q ∈ pdW z (lm_sh 1 m) (lm_sh 1 (h 8)), q ∈ lmW z zo m a h := fun q hq => (lm_gP z zo m a h).mem_iff.mpr (List.mem_append_left _ hq)
def lmR1_0 (z zo : ClassId) (m : Nat → Nat) (a : Nat → Nat → Nat) (h : Nat → Hp) : va_W := (m 0, .inr (6, [.ref (a 0 0), .ref (a 1 0), .ref (a 2 0), .ref (m 3), .ref (m 1), .int (h 8 0 5), .int (h 8 0 6), .int (h 8 0 7), .int (h 8 0 8)])) :: (pdW z (lm_sh 1 m) (lm_sh 1 (h 8)) ++ (m 3, .inr (1, [.ref (m 4), .int (h 8 3 1), .int (h 8 3 2)])) :: (m 4, .inl (zo, 5, .inr (.inr (.inr (.inr (fun i => some (a (3 + i) 0))))))) :: (stW z (a 2) (h 2) ++ (stW z (a 3) (h 3) ++ (stW z (a 4) (h 4) ++ (stW z (a 5) (h 5) ++ (stW z (a 6) (h 6) ++ (stW z (a 7) (h 7) ++ [])))))))
theorem lm_g1_0 (z zo : ClassId) (m : Nat → Nat) (a : Nat → Nat → Nat) (h : Nat → Hp) : (lmW z zo m a h).Perm ((stW z (a 1) (h 1) ++ stW z (a 0) (h 0)) ++ lmR1_0 z zo m a h) := by
  refine lm_cnt fun f g h1 h2 h3 => ?_
  simp only [lmW, lmR1_0, h1, h2, h3]
  omega
theorem lm_p1_0 (z zo : ClassId) (m : Nat → Nat) (a : Nat → Nat → Nat) (h : Nat → Hp) (τ : Hp) : ((stW z (a 1) τ ++ stW z (a 0) (h 0)) ++ lmR1_0 z zo m a h).Perm (lmW z zo m a (lm_uB h 1 τ)) := by
  have e : lmW z zo m a (lm_uB h 1 τ) = (m 0, .inr (6, [.ref (a 0 0), .ref (a 1 0), .ref (a 2 0), .ref (m 3), .ref (m 1), .int (h 8 0 5), .int (h 8 0 6), .int (h 8 0 7), .int (h 8 0 8)])) :: (pdW z (lm_sh 1 m) (lm_sh 1 (h 8)) ++ (m 3, .inr (1, [.ref (m 4), .int (h 8 3 1), .int (h 8 3 2)])) :: (m 4, .inl (zo, 5, .inr (.inr (.inr (.inr (fun i => some (a (3 + i) 0))))))) :: (stW z (a 0) (h 0) ++ (stW z (a 1) τ ++ (stW z (a 2) (h 2) ++ (stW z (a 3) (h 3) ++ (stW z (a 4) (h 4) ++ (stW z (a 5) (h 5) ++ (stW z (a 6) (h 6) ++ (stW z (a 7) (h 7) ++ []))))))))) := rfl
  rw [e]
  refine lm_cnt fun f g h1 h2 h3 => ?_
  simp only [lmR1_0, h1, h2, h3]
  omega
def lmR2_0 (z zo : ClassId) (m : Nat → Nat) (a : Nat → Nat → Nat) (h : Nat → Hp) : va_W := (m 0, .inr (6, [.ref (a 0 0), .ref (a 1 0), .ref (a 2 0), .ref (m 3), .ref (m 1), .int (h 8 0 5), .int (h 8 0 6), .int (h 8 0 7), .int (h 8 0 8)])) :: (pdW z (lm_sh 1 m) (lm_sh 1 (h 8)) ++ (m 3, .inr (1, [.ref (m 4), .int (h 8 3 1), .int (h 8 3 2)])) :: (m 4, .inl (zo, 5, .inr (.inr (.inr (.inr (fun i => some (a (3 + i) 0))))))) :: (stW z (a 1) (h 1) ++ (stW z (a 3) (h 3) ++ (stW z (a 4) (h 4) ++ (stW z (a 5) (h 5) ++ (stW z (a 6) (h 6) ++ (stW z (a 7) (h 7) ++ [])))))))
theorem lm_g2_0 (z zo : ClassId) (m : Nat → Nat) (a : Nat → Nat → Nat) (h : Nat → Hp) : (lmW z zo m a h).Perm ((stW z (a 2) (h 2) ++ stW z (a 0) (h 0)) ++ lmR2_0 z zo m a h) := by
  refine lm_cnt fun f g h1 h2 h3 => ?_
  simp only [lmW, lmR2_0, h1, h2, h3]
  omega
theorem lm_p2_0 (z zo : ClassId) (m : Nat → Nat) (a : Nat → Nat → Nat) (h : Nat → Hp) (τ : Hp) : ((stW z (a 2) τ ++ stW z (a 0) (h 0)) ++ lmR2_0 z zo m a h).Perm (lmW z zo m a (lm_uB h 2 τ)) := by
  have e : lmW z zo m a (lm_uB h 2 τ) = (m 0, .inr (6, [.ref (a 0 0), .ref (a 1 0), .ref (a 2 0), .ref (m 3), .ref (m 1), .int (h 8 0 5), .int (h 8 0 6), .int (h 8 0 7), .int (h 8 0 8)])) :: (pdW z (lm_sh 1 m) (lm_sh 1 (h 8)) ++ (m 3, .inr (1, [.ref (m 4), .int (h 8 3 1), .int (h 8 3 2)])) :: (m 4, .inl (zo, 5, .inr (.inr (.inr (.inr (fun i => some (a (3 + i) 0))))))) :: (stW z (a 0) (h 0) ++ (stW z (a 1) (h 1) ++ (stW z (a 2) τ ++ (stW z (a 3) (h 3) ++ (stW z (a 4) (h 4) ++ (stW z (a 5) (h 5) ++ (stW z (a 6) (h 6) ++ (stW z (a 7) (h 7) ++ []))))))))) := rfl
  rw [e]
  refine lm_cnt fun f g h1 h2 h3 => ?_
  simp only [lmR2_0, h1, h2, h3]
  omega
def lmR0_2 (z zo : ClassId) (m : Nat → Nat) (a : Nat → Nat → Nat) (h : Nat → Hp) : va_W := (m 0, .inr (6, [.ref (a 0 0), .ref (a 1 0), .ref (a 2 0), .ref (m 3), .ref (m 1), .int (h 8 0 5), .int (h 8 0 6), .int (h 8 0 7), .int (h 8 0 8)])) :: (pdW z (lm_sh 1 m) (lm_sh 1 (h 8)) ++ (m 3, .inr (1, [.ref (m 4), .int (h 8 3 1), .int (h 8 3 2)])) :: (m 4, .inl (zo, 5, .inr (.inr (.inr (.inr (fun i => some (a (3 + i) 0))))))) :: (stW z (a 1) (h 1) ++ (stW z (a 3) (h 3) ++ (stW z (a 4) (h 4) ++ (stW z (a 5) (h 5) ++ (stW z (a 6) (h 6) ++ (stW z (a 7) (h 7) ++ [])))))))
theorem lm_g0_2 (z zo : ClassId) (m : Nat → Nat) (a : Nat → Nat → Nat) (h : Nat → Hp) : (lmW z zo m a h).Perm ((stW z (a 0) (h 0) ++ stW z (a 2) (h 2)) ++ lmR0_2 z zo m a h) := by
  refine lm_cnt fun f g h1 h2 h3 => ?_
  simp only [lmW, lmR0_2, h1, h2, h3]
  omega
theorem lm_p0_2 (z zo : ClassId) (m : Nat → Nat) (a : Nat → Nat → Nat) (h : Nat → Hp) (τ : Hp) : ((stW z (a 0) τ ++ stW z (a 2) (h 2)) ++ lmR0_2 z zo m a h).Perm (lmW z zo m a (lm_uB h 0 τ)) := by
  have e : lmW z zo m a (lm_uB h 0 τ) = (m 0, .inr (6, [.ref (a 0 0), .ref (a 1 0), .ref (a 2 0), .ref (m 3), .ref (m 1), .int (h 8 0 5), .int (h 8 0 6), .int (h 8 0 7), .int (h 8 0 8)])) :: (pdW z (lm_sh 1 m) (lm_sh 1 (h 8)) ++ (m 3, .inr (1, [.ref (m 4), .int (h 8 3 1), .int (h 8 3 2)])) :: (m 4, .inl (zo, 5, .inr (.inr (.inr (.inr (fun i => some (a (3 + i) 0))))))) :: (stW z (a 0) τ ++ (stW z (a 1) (h 1) ++ (stW z (a 2) (h 2) ++ (stW z (a 3) (h 3) ++ (stW z (a 4) (h 4) ++ (stW z (a 5) (h 5) ++ (stW z (a 6) (h 6) ++ (stW z (a 7) (h 7) ++ []))))))))) := rfl
  rw [e]
  refine lm_cnt fun f g h1 h2 h3 => ?_
  simp only [lmR0_2, h1, h2, h3]
  omega
def lmR3_0 (z zo : ClassId) (m : Nat → Nat) (a : Nat → Nat → Nat) (h : Nat → Hp) : va_W := (m 0, .inr (6, [.ref (a 0 0), .ref (a 1 0), .ref (a 2 0), .ref (m 3), .ref (m 1), .int (h 8 0 5), .int (h 8 0 6), .int (h 8 0 7), .int (h 8 0 8)])) :: (pdW z (lm_sh 1 m) (lm_sh 1 (h 8)) ++ (m 3, .inr (1, [.ref (m 4), .int (h 8 3 1), .int (h 8 3 2)])) :: (m 4, .inl (zo, 5, .inr (.inr (.inr (.inr (fun i => some (a (3 + i) 0))))))) :: (stW z (a 1) (h 1) ++ (stW z (a 2) (h 2) ++ (stW z (a 4) (h 4) ++ (stW z (a 5) (h 5) ++ (stW z (a 6) (h 6) ++ (stW z (a 7) (h 7) ++ [])))))))
theorem lm_g3_0 (z zo : ClassId) (m : Nat → Nat) (a : Nat → Nat → Nat) (h : Nat → Hp) : (lmW z zo m a h).Perm ((stW z (a 3) (h 3) ++ stW z (a 0) (h 0)) ++ lmR3_0 z zo m a h) := by
  refine lm_cnt fun f g h1 h2 h3 => ?_
  simp only [lmW, lmR3_0, h1, h2, h3]
  omega
theorem lm_p3_0 (z zo : ClassId) (m : Nat → Nat) (a : Nat → Nat → Nat) (h : Nat → Hp) (τ : Hp) : ((stW z (a 3) τ ++ stW z (a 0) (h 0)) ++ lmR3_0 z zo m a h).Perm (lmW z zo m a (lm_uB h 3 τ)) := by
  have e : lmW z zo m a (lm_uB h 3 τ) = (m 0, .inr (6, [.ref (a 0 0), .ref (a 1 0), .ref (a 2 0), .ref (m 3), .ref (m 1), .int (h 8 0 5), .int (h 8 0 6), .int (h 8 0 7), .int (h 8 0 8)])) :: (pdW z (lm_sh 1 m) (lm_sh 1 (h 8)) ++ (m 3, .inr (1, [.ref (m 4), .int (h 8 3 1), .int (h 8 3 2)])) :: (m 4, .inl (zo, 5, .inr (.inr (.inr (.inr (fun i => some (a (3 + i) 0))))))) :: (stW z (a 0) (h 0) ++ (stW z (a 1) (h 1) ++ (stW z (a 2) (h 2) ++ (stW z (a 3) τ ++ (stW z (a 4) (h 4) ++ (stW z (a 5) (h 5) ++ (stW z (a 6) (h 6) ++ (stW z (a 7) (h 7) ++ []))))))))) := rfl
  rw [e]
  refine lm_cnt fun f g h1 h2 h3 => ?_
  simp only [lmR3_0, h1, h2, h3]
  omega
def lmR4_0 (z zo : ClassId) (m : Nat → Nat) (a : Nat → Nat → Nat) (h : Nat → Hp) : va_W := (m 0, .inr (6, [.ref (a 0 0), .ref (a 1 0), .ref (a 2 0), .ref (m 3), .ref (m 1), .int (h 8 0 5), .int (h 8 0 6), .int (h 8 0 7), .int (h 8 0 8)])) :: (pdW z (lm_sh 1 m) (lm_sh 1 (h 8)) ++ (m 3, .inr (1, [.ref (m 4), .int (h 8 3 1), .int (h 8 3 2)])) :: (m 4, .inl (zo, 5, .inr (.inr (.inr (.inr (fun i => some (a (3 + i) 0))))))) :: (stW z (a 1) (h 1) ++ (stW z (a 2) (h 2) ++ (stW z (a 3) (h 3) ++ (stW z (a 5) (h 5) ++ (stW z (a 6) (h 6) ++ (stW z (a 7) (h 7) ++ [])))))))
theorem lm_g4_0 (z zo : ClassId) (m : Nat → Nat) (a : Nat → Nat → Nat) (h : Nat → Hp) : (lmW z zo m a h).Perm ((stW z (a 4) (h 4) ++ stW z (a 0) (h 0)) ++ lmR4_0 z zo m a h) := by
  refine lm_cnt fun f g h1 h2 h3 => ?_
  simp only [lmW, lmR4_0, h1, h2, h3]
  omega
theorem lm_p4_0 (z zo : ClassId) (m : Nat → Nat) (a : Nat → Nat → Nat) (h : Nat → Hp) (τ : Hp) : ((stW z (a 4) τ ++ stW z (a 0) (h 0)) ++ lmR4_0 z zo m a h).Perm (lmW z zo m a (lm_uB h 4 τ)) := by
  have e : lmW z zo m a (lm_uB h 4 τ) = (m 0, .inr (6, [.ref (a 0 0), .ref (a 1 0), .ref (a 2 0), .ref (m 3), .ref (m 1), .int (h 8 0 5), .int (h 8 0 6), .int (h 8 0 7), .int (h 8 0 8)])) :: (pdW z (lm_sh 1 m) (lm_sh 1 (h 8)) ++ (m 3, .inr (1, [.ref (m 4), .int (h 8 3 1), .int (h 8 3 2)])) :: (m 4, .inl (zo, 5, .inr (.inr (.inr (.inr (fun i => some (a (3 + i) 0))))))) :: (stW z (a 0) (h 0) ++ (stW z (a 1) (h 1) ++ (stW z (a 2) (h 2) ++ (stW z (a 3) (h 3) ++ (stW z (a 4) τ ++ (stW z (a 5) (h 5) ++ (stW z (a 6) (h 6) ++ (stW z (a 7) (h 7) ++ []))))))))) := rfl
  rw [e]
  refine lm_cnt fun f g h1 h2 h3 => ?_
  simp only [lmR4_0, h1, h2, h3]
  omega
def lmR5_0 (z zo : ClassId) (m : Nat → Nat) (a : Nat → Nat → Nat) (h : Nat → Hp) : va_W := (m 0, .inr (6, [.ref (a 0 0), .ref (a 1 0), .ref (a 2 0), .ref (m 3), .ref (m 1), .int (h 8 0 5), .int (h 8 0 6), .int (h 8 0 7), .int (h 8 0 8)])) :: (pdW z (lm_sh 1 m) (lm_sh 1 (h 8)) ++ (m 3, .inr (1, [.ref (m 4), .int (h 8 3 1), .int (h 8 3 2)])) :: (m 4, .inl (zo, 5, .inr (.inr (.inr (.inr (fun i => some (a (3 + i) 0))))))) :: (stW z (a 1) (h 1) ++ (stW z (a 2) (h 2) ++ (stW z (a 3) (h 3) ++ (stW z (a 4) (h 4) ++ (stW z (a 6) (h 6) ++ (stW z (a 7) (h 7) ++ [])))))))
theorem lm_g5_0 (z zo : ClassId) (m : Nat → Nat) (a : Nat → Nat → Nat) (h : Nat → Hp) : (lmW z zo m a h).Perm ((stW z (a 5) (h 5) ++ stW z (a 0) (h 0)) ++ lmR5_0 z zo m a h) := by
  refine lm_cnt fun f g h1 h2 h3 => ?_
  simp only [lmW, lmR5_0, h1, h2, h3]
  omega
theorem lm_p5_0 (z zo : ClassId) (m : Nat → Nat) (a : Nat → Nat → Nat) (h : Nat → Hp) (τ : Hp) : ((stW z (a 5) τ ++ stW z (a 0) (h 0)) ++ lmR5_0 z zo m a h).Perm (lmW z zo m a (lm_uB h 5 τ)) := by
  have e : lmW z zo m a (lm_uB h 5 τ) = (m 0, .inr (6, [.ref (a 0 0), .ref (a 1 0), .ref (a 2 0), .ref (m 3), .ref (m 1), .int (h 8 0 5), .int (h 8 0 6), .int (h 8 0 7), .int (h 8 0 8)])) :: (pdW z (lm_sh 1 m) (lm_sh 1 (h 8)) ++ (m 3, .inr (1, [.ref (m 4), .int (h 8 3 1), .int (h 8 3 2)])) :: (m 4, .inl (zo, 5, .inr (.inr (.inr (.inr (fun i => some (a (3 + i) 0))))))) :: (stW z (a 0) (h 0) ++ (stW z (a 1) (h 1) ++ (stW z (a 2) (h 2) ++ (stW z (a 3) (h 3) ++ (stW z (a 4) (h 4) ++ (stW z (a 5) τ ++ (stW z (a 6) (h 6) ++ (stW z (a 7) (h 7) ++ []))))))))) := rfl
  rw [e]
  refine lm_cnt fun f g h1 h2 h3 => ?_
  simp only [lmR5_0, h1, h2, h3]
  omega
def lmR6_0 (z zo : ClassId) (m : Nat → Nat) (a : Nat → Nat → Nat) (h : Nat → Hp) : va_W := (m 0, .inr (6, [.ref (a 0 0), .ref (a 1 0), .ref (a 2 0), .ref (m 3), .ref (m 1), .int (h 8 0 5), .int (h 8 0 6), .int (h 8 0 7), .int (h 8 0 8)])) :: (pdW z (lm_sh 1 m) (lm_sh 1 (h 8)) ++ (m 3, .inr (1, [.ref (m 4), .int (h 8 3 1), .int (h 8 3 2)])) :: (m 4, .inl (zo, 5, .inr (.inr (.inr (.inr (fun i => some (a (3 + i) 0))))))) :: (stW z (a 1) (h 1) ++ (stW z (a 2) (h 2) ++ (stW z (a 3) (h 3) ++ (stW z (a 4) (h 4) ++ (stW z (a 5) (h 5) ++ (stW z (a 7) (h 7) ++ [])))))))
theorem lm_g6_0 (z zo : ClassId) (m : Nat → Nat) (a : Nat → Nat → Nat) (h : Nat → Hp) : (lmW z zo m a h).Perm ((stW z (a 6) (h 6) ++ stW z (a 0) (h 0)) ++ lmR6_0 z zo m a h) := by
  refine lm_cnt fun f g h1 h2 h3 => ?_
  simp only [lmW, lmR6_0, h1, h2, h3]
  omega
theorem lm_p6_0 (z zo : ClassId) (m : Nat → Nat) (a : Nat → Nat → Nat) (h : Nat → Hp) (τ : Hp) : ((stW z (a 6) τ ++ stW z (a 0) (h 0)) ++ lmR6_0 z zo m a h).Perm (lmW z zo m a (lm_uB h 6 τ)) := by
  have e : lmW z zo m a (lm_uB h 6 τ) = (m 0, .inr (6, [.ref (a 0 0), .ref (a 1 0), .ref (a 2 0), .ref (m 3), .ref (m 1), .int (h 8 0 5), .int (h 8 0 6), .int (h 8 0 7), .int (h 8 0 8)])) :: (pdW z (lm_sh 1 m) (lm_sh 1 (h 8)) ++ (m 3, .inr (1, [.ref (m 4), .int (h 8 3 1), .int (h 8 3 2)])) :: (m 4, .inl (zo, 5, .inr (.inr (.inr (.inr (fun i => some (a (3 + i) 0))))))) :: (stW z (a 0) (h 0) ++ (stW z (a 1) (h 1) ++ (stW z (a 2) (h 2) ++ (stW z (a 3) (h 3) ++ (stW z (a 4) (h 4) ++ (stW z (a 5) (h 5) ++ (stW z (a 6) τ ++ (stW z (a 7) (h 7) ++ []))))))))) := rfl
  rw [e]
  refine lm_cnt fun f g h1 h2 h3 => ?_
  simp only [lmR6_0, h1, h2, h3]
  omega
def lmR7_0 (z zo : ClassId) (m : Nat → Nat) (a : Nat → Nat → Nat) (h : Nat → Hp) : va_W := (m 0, .inr (6, [.ref (a 0 0), .ref (a 1 0), .ref (a 2 0), .ref (m 3), .ref (m 1), .int (h 8 0 5), .int (h 8 0 6), .int (h 8 0 7), .int (h 8 0 8)])) :: (pdW z (lm_sh 1 m) (lm_sh 1 (h 8)) ++ (m 3, .inr (1, [.ref (m 4), .int (h 8 3 1), .int (h 8 3 2)])) :: (m 4, .inl (zo, 5, .inr (.inr (.inr (.inr (fun i => some (a (3 + i) 0))))))) :: (stW z (a 1) (h 1) ++ (stW z (a 2) (h 2) ++ (stW z (a 3) (h 3) ++ (stW z (a 4) (h 4) ++ (stW z (a 5) (h 5) ++ (stW z (a 6) (h 6) ++ [])))))))
theorem lm_g7_0 (z zo : ClassId) (m : Nat → Nat) (a : Nat → Nat → Nat) (h : Nat → Hp) : (lmW z zo m a h).Perm ((stW z (a 7) (h 7) ++ stW z (a 0) (h 0)) ++ lmR7_0 z zo m a h) := by
  refine lm_cnt fun f g h1 h2 h3 => ?_
  simp only [lmW, lmR7_0, h1, h2, h3]
  omega
theorem lm_p7_0 (z zo : ClassId) (m : Nat → Nat) (a : Nat → Nat → Nat) (h : Nat → Hp) (τ : Hp) : ((stW z (a 7) τ ++ stW z (a 0) (h 0)) ++ lmR7_0 z zo m a h).Perm (lmW z zo m a (lm_uB h 7 τ)) := by
  have e : lmW z zo m a (lm_uB h 7 τ) = (m 0, .inr (6, [.ref (a 0 0), .ref (a 1 0), .ref (a 2 0), .ref (m 3), .ref (m 1), .int (h 8 0 5), .int (h 8 0 6), .int (h 8 0 7), .int (h 8 0 8)])) :: (pdW z (lm_sh 1 m) (lm_sh 1 (h 8)) ++ (m 3, .inr (1, [.ref (m 4), .int (h 8 3 1), .int (h 8 3 2)])) :: (m 4, .inl (zo, 5, .inr (.inr (.inr (.inr (fun i => some (a (3 + i) 0))))))) :: (stW z (a 0) (h 0) ++ (stW z (a 1) (h 1) ++ (stW z (a 2) (h 2) ++ (stW z (a 3) (h 3) ++ (stW z (a 4) (h 4) ++ (stW z (a 5) (h 5) ++ (stW z (a 6) (h 6) ++ (stW z (a 7) τ ++ []))))))))) := rfl
  rw [e]
  refine lm_cnt fun f g h1 h2 h3 => ?_
  simp only [lmR7_0, h1, h2, h3]
  omega
def lmR0_3 (z zo : ClassId) (m : Nat → Nat) (a : Nat → Nat → Nat) (h : Nat → Hp) : va_W := (m 0, .inr (6, [.ref (a 0 0), .ref (a 1 0), .ref (a 2 0), .ref (m 3), .ref (m 1), .int (h 8 0 5), .int (h 8 0 6), .int (h 8 0 7), .int (h 8 0 8)])) :: (pdW z (lm_sh 1 m) (lm_sh 1 (h 8)) ++ (m 3, .inr (1, [.ref (m 4), .int (h 8 3 1), .int (h 8 3 2)])) :: (m 4, .inl (zo, 5, .inr (.inr (.inr (.inr (fun i => some (a (3 + i) 0))))))) :: (stW z (a 1) (h 1) ++ (stW z (a 2) (h 2) ++ (stW z (a 4) (h 4) ++ (stW z (a 5) (h 5) ++ (stW z (a 6) (h 6) ++ (stW z (a 7) (h 7) ++ [])))))))
theorem lm_g0_3 (z zo : ClassId) (m : Nat → Nat) (a : Nat → Nat → Nat) (h : Nat → Hp) : (lmW z zo m a h).Perm ((stW z (a 0) (h 0) ++ stW z (a 3) (h 3)) ++ lmR0_3 z zo m a h) := by
  refine lm_cnt fun f g h1 h2 h3 => ?_
  simp only [lmW, lmR0_3, h1, h2, h3]
  omega
theorem lm_p0_3 (z zo : ClassId) (m : Nat → Nat) (a : Nat → Nat → Nat) (h : Nat → Hp) (τ : Hp) : ((stW z (a 0) τ ++ stW z (a 3) (h 3)) ++ lmR0_3 z zo m a h).Perm (lmW z zo m a (lm_uB h 0 τ)) := by
  have e : lmW z zo m a (lm_uB h 0 τ) = (m 0, .inr (6, [.ref (a 0 0), .ref (a 1 0), .ref (a 2 0), .ref (m 3), .ref (m 1), .int (h 8 0 5), .int (h 8 0 6), .int (h 8 0 7), .int (h 8 0 8)])) :: (pdW z (lm_sh 1 m) (lm_sh 1 (h 8)) ++ (m 3, .inr (1, [.ref (m 4), .int (h 8 3 1), .int (h 8 3 2)])) :: (m 4, .inl (zo, 5, .inr (.inr (.inr (.inr (fun i => some (a (3 + i) 0))))))) :: (stW z (a 0) τ ++ (stW z (a 1) (h 1) ++ (stW z (a 2) (h 2) ++ (stW z (a 3) (h 3) ++ (stW z (a 4) (h 4) ++ (stW z (a 5) (h 5) ++ (stW z (a 6) (h 6) ++ (stW z (a 7) (h 7) ++ []))))))))) := rfl
  rw [e]
  refine lm_cnt fun f g h1 h2 h3 => ?_
  simp only [lmR0_3, h1, h2, h3]
  omega
def lmR0_4 (z zo : ClassId) (m : Nat → Nat) (a : Nat → Nat → Nat) (h : Nat → Hp) : va_W := (m 0, .inr (6, [.ref (a 0 0), .ref (a 1 0), .ref (a 2 0), .ref (m 3), .ref (m 1), .int (h 8 0 5), .int (h 8 0 6), .int (h 8 0 7), .int (h 8 0 8)])) :: (pdW z (lm_sh 1 m) (lm_sh 1 (h 8)) ++ (m 3, .inr (1, [.ref (m 4), .int (h 8 3 1), .int (h 8 3 2)])) :: (m 4, .inl (zo, 5, .inr (.inr (.inr (.inr (fun i => some (a (3 + i) 0))))))) :: (stW z (a 1) (h 1) ++ (stW z (a 2) (h 2) ++ (stW z (a 3) (h 3) ++ (stW z (a 5) (h 5) ++ (stW z (a 6) (h 6) ++ (stW z (a 7) (h 7) ++ [])))))))
theorem lm_g0_4 (z zo : ClassId) (m : Nat → Nat) (a : Nat → Nat → Nat) (h : Nat → Hp) : (lmW z zo m a h).Perm ((stW z (a 0) (h 0) ++ stW z (a 4) (h 4)) ++ lmR0_4 z zo m a h) := by
  refine lm_cnt fun f g h1 h2 h3 => ?_
  simp only [lmW, lmR0_4, h1, h2, h3]
  omega
theorem lm_p0_4 (z zo : ClassId) (m : Nat → Nat) (a : Nat → Nat → Nat) (h : Nat → Hp) (τ : Hp) : ((stW z (a 0) τ ++ stW z (a 4) (h 4)) ++ lmR0_4 z zo m a h).Perm (lmW z zo m a (lm_uB h 0 τ)) := by
  have e : lmW z zo m a (lm_uB h 0 τ) = (m 0, .inr (6, [.ref (a 0 0), .ref (a 1 0), .ref (a 2 0), .ref (m 3), .ref (m 1), .int (h 8 0 5), .int (h 8 0 6), .int (h 8 0 7), .int (h 8 0 8)])) :: (pdW z (lm_sh 1 m) (lm_sh 1 (h 8)) ++ (m 3, .inr (1, [.ref (m 4), .int (h 8 3 1), .int (h 8 3 2)])) :: (m 4, .inl (zo, 5, .inr (.inr (.inr (.inr (fun i => some (a (3 + i) 0))))))) :: (stW z (a 0) τ ++ (stW z (a 1) (h 1) ++ (stW z (a 2) (h 2) ++ (stW z (a 3) (h 3) ++ (stW z (a 4) (h 4) ++ (stW z (a 5) (h 5) ++ (stW z (a 6) (h 6) ++ (stW z (a 7) (h 7) ++ []))))))))) := rfl
  rw [e]
  refine lm_cnt fun f g h1 h2 h3 => ?_
  simp only [lmR0_4, h1, h2, h3]
  omega
def lmR0_5 (z zo : ClassId) (m : Nat → Nat) (a : Nat → Nat → Nat) (h : Nat → Hp) : va_W := (m 0, .inr (6, [.ref (a 0 0), .ref (a 1 0), .ref (a 2 0), .ref (m 3), .ref (m 1), .int (h 8 0 5), .int (h 8 0 6), .int (h 8 0 7), .int (h 8 0 8)])) :: (pdW z (lm_sh 1 m) (lm_sh 1 (h 8)) ++ (m 3, .inr (1, [.ref (m 4), .int (h 8 3 1), .int (h 8 3 2)])) :: (m 4, .inl (zo, 5, .inr (.inr (.inr (.inr (fun i => some (a (3 + i) 0))))))) :: (stW z (a 1) (h 1) ++ (stW z (a 2) (h 2) ++ (stW z (a 3) (h 3) ++ (stW z (a 4) (h 4) ++ (stW z (a 6) (h 6) ++ (stW z (a 7) (h 7) ++ [])))))))
theorem lm_g0_5 (z zo : ClassId) (m : Nat → Nat) (a : Nat → Nat → Nat) (h : Nat → Hp) : (lmW z zo m a h).Perm ((stW z (a 0) (h 0) ++ stW z (a 5) (h 5)) ++ lmR0_5 z zo m a h) := by
  refine lm_cnt fun f g h1 h2 h3 => ?_
  simp only [lmW, lmR0_5, h1, h2, h3]
  omega
theorem lm_p0_5 (z zo : ClassId) (m : Nat → Nat) (a : Nat → Nat → Nat) (h : Nat → Hp) (τ : Hp) : ((stW z (a 0) τ ++ stW z (a 5) (h 5)) ++ lmR0_5 z zo m a h).Perm (lmW z zo m a (lm_uB h 0 τ)) := by
  have e : lmW z zo m a (lm_uB h 0 τ) = (m 0, .inr (6, [.ref (a 0 0), .ref (a 1 0), .ref (a 2 0), .ref (m 3), .ref (m 1), .int (h 8 0 5), .int (h 8 0 6), .int (h 8 0 7), .int (h 8 0 8)])) :: (pdW z (lm_sh 1 m) (lm_sh 1 (h 8)) ++ (m 3, .inr (1, [.ref (m 4), .int (h 8 3 1), .int (h 8 3 2)])) :: (m 4, .inl (zo, 5, .inr (.inr (.inr (.inr (fun i => some (a (3 + i) 0))))))) :: (stW z (a 0) τ ++ (stW z (a 1) (h 1) ++ (stW z (a 2) (h 2) ++ (stW z (a 3) (h 3) ++ (stW z (a 4) (h 4) ++ (stW z (a 5) (h 5) ++ (stW z (a 6) (h 6) ++ (stW z (a 7) (h 7) ++ []))))))))) := rfl
  rw [e]
  refine lm_cnt fun f g h1 h2 h3 => ?_
  simp only [lmR0_5, h1, h2, h3]
  omega
def lmR0_6 (z zo : ClassId) (m : Nat → Nat) (a : Nat → Nat → Nat) (h : Nat → Hp) : va_W := (m 0, .inr (6, [.ref (a 0 0), .ref (a 1 0), .ref (a 2 0), .ref (m 3), .ref (m 1), .int (h 8 0 5), .int (h 8 0 6), .int (h 8 0 7), .int (h 8 0 8)])) :: (pdW z (lm_sh 1 m) (lm_sh 1 (h 8)) ++ (m 3, .inr (1, [.ref (m 4), .int (h 8 3 1), .int (h 8 3 2)])) :: (m 4, .inl (zo, 5, .inr (.inr (.inr (.inr (fun i => some (a (3 + i) 0))))))) :: (stW z (a 1) (h 1) ++ (stW z (a 2) (h 2) ++ (stW z (a 3) (h 3) ++ (stW z (a 4) (h 4) ++ (stW z (a 5) (h 5) ++ (stW z (a 7) (h 7) ++ [])))))))
theorem lm_g0_6 (z zo : ClassId) (m : Nat → Nat) (a : Nat → Nat → Nat) (h : Nat → Hp) : (lmW z zo m a h).Perm ((stW z (a 0) (h 0) ++ stW z (a 6) (h 6)) ++ lmR0_6 z zo m a h) := by
  refine lm_cnt fun f g h1 h2 h3 => ?_
  simp only [lmW, lmR0_6, h1, h2, h3]
  omega
theorem lm_p0_6 (z zo : ClassId) (m : Nat → Nat) (a : Nat → Nat → Nat) (h : Nat → Hp) (τ : Hp) : ((stW z (a 0) τ ++ stW z (a 6) (h 6)) ++ lmR0_6 z zo m a h).Perm (lmW z zo m a (lm_uB h 0 τ)) := by
  have e : lmW z zo m a (lm_uB h 0 τ) = (m 0, .inr (6, [.ref (a 0 0), .ref (a 1 0), .ref (a 2 0), .ref (m 3), .ref (m 1), .int (h 8 0 5), .int (h 8 0 6), .int (h 8 0 7), .int (h 8 0 8)])) :: (pdW z (lm_sh 1 m) (lm_sh 1 (h 8)) ++ (m 3, .inr (1, [.ref (m 4), .int (h 8 3 1), .int (h 8 3 2)])) :: (m 4, .inl (zo, 5, .inr (.inr (.inr (.inr (fun i => some (a (3 + i) 0))))))) :: (stW z (a 0) τ ++ (stW z (a 1) (h 1) ++ (stW z (a 2) (h 2) ++ (stW z (a 3) (h 3) ++ (stW z (a 4) (h 4) ++ (stW z (a 5) (h 5) ++ (stW z (a 6) (h 6) ++ (stW z (a 7) (h 7) ++ []))))))))) := rfl
  rw [e]
  refine lm_cnt fun f g h1 h2 h3 => ?_
  simp only [lmR0_6, h1, h2, h3]
  omega
def lmR0_7 (z zo : ClassId) (m : Nat → Nat) (a : Nat → Nat → Nat) (h : Nat → Hp) : va_W := (m 0, .inr (6, [.ref (a 0 0), .ref (a 1 0), .ref (a 2 0), .ref (m 3), .ref (m 1), .int (h 8 0 5), .int (h 8 0 6), .int (h 8 0 7), .int (h 8 0 8)])) :: (pdW z (lm_sh 1 m) (lm_sh 1 (h 8)) ++ (m 3, .inr (1, [.ref (m 4), .int (h 8 3 1), .int (h 8 3 2)])) :: (m 4, .inl (zo, 5, .inr (.inr (.inr (.inr (fun i => some (a (3 + i) 0))))))) :: (stW z (a 1) (h 1) ++ (stW z (a 2) (h 2) ++ (stW z (a 3) (h 3) ++ (stW z (a 4) (h 4) ++ (stW z (a 5) (h 5) ++ (stW z (a 6) (h 6) ++ [])))))))
theorem lm_g0_7 (z zo : ClassId) (m : Nat → Nat) (a : Nat → Nat → Nat) (h : Nat → Hp) : (lmW z zo m a h).Perm ((stW z (a 0) (h 0) ++ stW z (a 7) (h 7)) ++ lmR0_7 z zo m a h) := by
  refine lm_cnt fun f g h1 h2 h3 => ?_
  simp only [lmW, lmR0_7, h1, h2, h3]
  omega
theorem lm_p0_7 (z zo : ClassId) (m : Nat → Nat) (a : Nat → Nat → Nat) (h : Nat → Hp) (τ : Hp) : ((stW z (a 0) τ ++ stW z (a 7) (h 7)) ++ lmR0_7 z zo m a h).Perm (lmW z zo m a (lm_uB h 0 τ)) := by
  have e : lmW z zo m a (lm_uB h 0 τ) = (m 0, .inr (6, [.ref (a 0 0), .ref (a 1 0), .ref (a 2 0), .ref (m 3), .ref (m 1), .int (h 8 0 5), .int (h 8 0 6), .int (h 8 0 7), .int (h 8 0 8)])) :: (pdW z (lm_sh 1 m) (lm_sh 1 (h 8)) ++ (m 3, .inr (1, [.ref (m 4), .int (h 8 3 1), .int (h 8 3 2)])) :: (m 4, .inl (zo, 5, .inr (.inr (.inr (.inr (fun i => some (a (3 + i) 0))))))) :: (stW z (a 0) τ ++ (stW z (a 1) (h 1) ++ (stW z (a 2) (h 2) ++ (stW z (a 3) (h 3) ++ (stW z (a 4) (h 4) ++ (stW z (a 5) (h 5) ++ (stW z (a 6) (h 6) ++ (stW z (a 7) (h 7) ++ []))))))))) := rfl
  rw [e]
  refine lm_cnt fun f g h1 h2 h3 => ?_
  simp only [lmR0_7, h1, h2, h3]
  omega
theorem lm_pick {α : Type} : ∀ (w : List α) (i : Nat) (x : α), w[i]? = some x → w.Perm (x :: w.eraseIdx i)
  | [], i, x, h => by simp at h
  | y :: w, 0, x, h => by
    simp at h
    subst h
    exact List.Perm.refl _
  | y :: w, i + 1, x, h => by
    rw [List.getElem?_cons_succ] at h
    rw [List.eraseIdx_cons_succ]
    exact ((lm_pick w i x h).cons y).trans (List.Perm.swap x y _)
theorem lm_pick2 {α : Type} (w : List α) (i j : Nat) (x y : α) (h : w[i]? = some x) (h2 : (w.eraseIdx i)[j]? = some y) : w.Perm ([x, y] ++ (w.eraseIdx i).eraseIdx j) := (lm_pick w i x h).trans ((lm_pick _ j y h2).cons x)

theorem lm_pick2' {α : Type} {w' : List α} (i j : Nat) {x y : α} {wr : List α} (h : w'[i]? = some x) (h2 : (w'.eraseIdx i)[j]? = some y) (e : (w'.eraseIdx i).eraseIdx j = wr) : ([x, y] ++ wr).Perm w' := by
  subst e
  exact (lm_pick2 w' i j x y h h2).symm
theorem lm_pm4 {α : Type} {w1 t1 r1 w2 t2 r2 : List α} (h1 : w1.Perm (t1 ++ r1)) (h2 : w2.Perm (t2 ++ r2)) : (w1 ++ w2).Perm ((t1 ++ t2) ++ (r1 ++ r2)) := by
  refine (h1.append h2).trans ?_
  refine lm_cnt fun f g h1 h2 h3 => ?_
  simp only [h1]
  omega
theorem lm_pmc {α : Type} {w S R T R2 : List α} (h1 : w.Perm (S ++ R)) (h2 : S.Perm (T ++ R2)) : w.Perm (T ++ (R2 ++ R)) := by
  refine h1.trans ?_
  rw [← List.append_assoc]
  exact h2.append_right R
theorem lm_pmc' {α : Type} {w S R T R2 : List α} (h1 : (S ++ R).Perm w) (h2 : (T ++ R2).Perm S) : (T ++ (R2 ++ R)).Perm w := (lm_pmc h1.symm h2.symm).symm
def lm_rs (a : Nat → Nat → Nat) (r : Int32) : Value := if r = -1 then .null else .ref (a (3 + r.toNatClampNeg) 0)
theorem lm_pm4' {α : Type} {w1 t1 r1 w2 t2 r2 : List α} (h1 : (t1 ++ r1).Perm w1) (h2 : w2.Perm (t2 ++ r2)) : ((t1 ++ t2) ++ (r1 ++ r2)).Perm (w1 ++ w2) := (lm_pm4 h1.symm h2).symm
end
section
def F_X6_isWithin  (x1 x2 : Int32) : Option Int32 :=
  lm_br (x1 < 0)
   (some (0 : Int32))
   (lm_br (x2 < x1)
    (some (0 : Int32))
    (some (1 : Int32)))
set_option maxRecDepth 100000 in
set_option maxHeartbeats 4000000 in
theorem m_X6_isWithin (D : va_G) (z zo : ClassId) (l : Launch)   (x1 x2 : Int32) (r : Int32)  (hF : F_X6_isWithin  x1 x2 = some r) : lm_CR D z zo l yX6_isWithin wsX6_isWithin 0 0 [.int x1, .int x2] [] (some (.int r)) := by
  refine lm_CR.of (by decide) rfl (Nat.le_of_ble_eq_true rfl) (own := RX6) rfl ?_
  intro p e s m_ args below meth c C hr hk
  show lm_St p l e ({ frames := 0, cells := 0, slots := 0, locals := 0 }) s m_ args below meth c D (fun _ => False) 2 0 0 (lm_EndR below (some (.int r)) args s) true [] 0 [(0, .int x1), (1, .int x2)] []
  rw [F_X6_isWithin] at hF
  refine lm_iload_n C dX6_isWithin_0 rfl 0 rfl rfl ?_
  refine lm_if_lt C (tgt := 13) dX6_isWithin_1 (by decide) rfl (fun c1 => ?_) (fun c1 => ?_)
  · have hF := lm_brt hF c1
    refine lm_iconst C (v := (0 : Int32)) dX6_isWithin_13 (by decide) rfl ?_
    cases hF
    exact lm_zretR C hr hk rfl rfl dX6_isWithin_14
  · have hF := lm_brf hF c1
    refine lm_iload_n C dX6_isWithin_4 rfl 0 rfl rfl ?_
    refine lm_iload_n C dX6_isWithin_5 rfl 1 rfl rfl ?_
    refine lm_icmp_gt C (tgt := 13) dX6_isWithin_6 (by decide) rfl (fun c2 => ?_) (fun c2 => ?_)
    · have hF := lm_brt hF c2
      refine lm_iconst C (v := (0 : Int32)) dX6_isWithin_13 (by decide) rfl ?_
      cases hF
      exact lm_zretR C hr hk rfl rfl dX6_isWithin_14
    · have hF := lm_brf hF c2
      refine lm_iconst C (v := (1 : Int32)) dX6_isWithin_9 (by decide) rfl ?_
      refine lm_goto C (tgt := 14) dX6_isWithin_10 (by decide) ?_
      cases hF
      exact lm_zretR C hr hk rfl rfl dX6_isWithin_14
def F_X6_isKey  (x1 : Int32) : Option Int32 :=
  lm_bd (F_X6_isWithin x1 (9 : Int32)) fun r1 =>
  lm_gd (r1 = 0 ∨ r1 = 1) (some r1)
set_option maxRecDepth 100000 in
set_option maxHeartbeats 4000000 in
theorem m_X6_isKey (D : va_G) (z zo : ClassId) (l : Launch)   (x1 : Int32) (r : Int32)  (hF : F_X6_isKey  x1 = some r) : lm_CR D z zo l yX6_isKey wsX6_isKey 1 21 [.int x1] [] (some (.int r)) := by
  refine lm_CR.of (by decide) rfl (Nat.le_of_ble_eq_true rfl) (own := RX6) rfl ?_
  intro p e s m_ args below meth c C hr hk
  show lm_St p l e ({ frames := 1, cells := 0, slots := 0, locals := 21 }) s m_ args below meth c D (fun _ => False) 1 0 0 (lm_EndR below (some (.int r)) args s) true [] 0 [(0, .int x1)] []
  rw [F_X6_isKey] at hF
  refine lm_iload_n C dX6_isKey_0 rfl 0 rfl rfl ?_
  refine lm_bipush C (v := (9 : Int32)) dX6_isKey_1 (by decide) rfl ?_
  obtain ⟨r1, qr1, hF⟩ := lm_bde hF
  refine lm_callSR C (n := 2) (m_X6_isWithin D z zo l   x1 (9 : Int32) r1 qr1) gX6_isKey_X6_isWithin rfl (by decide +kernel) ⟨Nat.le_of_ble_eq_true rfl, Nat.le_of_ble_eq_true rfl⟩ ⟨Nat.le_of_ble_eq_true rfl, Nat.le_of_ble_eq_true rfl⟩ (fun _ h => absurd h List.not_mem_nil) rfl rfl (Nat.le_of_ble_eq_true rfl) dX6_isKey_3 (st' := [.int r1]) rfl rfl ?_
  obtain ⟨c2, hF⟩ := lm_gde hF
  cases hF
  exact lm_zretR C hr hk (lm_boolok c2) rfl dX6_isKey_6
def F_X6_isRow  (x1 x2 : Int32) : Option Int32 :=
  lm_bd (F_X6_isKey x1) fun r1 =>
  lm_br (r1 = 0)
   (some (0 : Int32))
   (lm_bd (F_X6_isWithin x2 (99 : Int32)) fun r3 =>
   lm_br (r3 = 0)
    (some (0 : Int32))
    (some (1 : Int32)))
set_option maxRecDepth 100000 in
set_option maxHeartbeats 4000000 in
theorem m_X6_isRow (D : va_G) (z zo : ClassId) (l : Launch)   (x1 x2 : Int32) (r : Int32)  (hF : F_X6_isRow  x1 x2 = some r) : lm_CR D z zo l yX6_isRow wsX6_isRow 2 41 [.int x1, .int x2] [] (some (.int r)) := by
  refine lm_CR.of (by decide) rfl (Nat.le_of_ble_eq_true rfl) (own := RX6) rfl ?_
  intro p e s m_ args below meth c C hr hk
  show lm_St p l e ({ frames := 2, cells := 0, slots := 0, locals := 41 }) s m_ args below meth c D (fun _ => False) 2 0 0 (lm_EndR below (some (.int r)) args s) true [] 0 [(0, .int x1), (1, .int x2)] []
  rw [F_X6_isRow] at hF
  refine lm_iload_n C dX6_isRow_0 rfl 0 rfl rfl ?_
  obtain ⟨r1, qr1, hF⟩ := lm_bde hF
  refine lm_callSR C (n := 1) (m_X6_isKey D z zo l   x1 r1 qr1) gX6_isRow_X6_isKey rfl (by decide +kernel) ⟨Nat.le_of_ble_eq_true rfl, Nat.le_of_ble_eq_true rfl⟩ ⟨Nat.le_of_ble_eq_true rfl, Nat.le_of_ble_eq_true rfl⟩ (fun _ h => absurd h List.not_mem_nil) rfl rfl (Nat.le_of_ble_eq_true rfl) dX6_isRow_1 (st' := [.int r1]) rfl rfl ?_
  refine lm_if_eq C (tgt := 20) dX6_isRow_4 (by decide) rfl (fun c2 => ?_) (fun c2 => ?_)
  · have hF := lm_brt hF c2
    refine lm_iconst C (v := (0 : Int32)) dX6_isRow_20 (by decide) rfl ?_
    cases hF
    exact lm_zretR C hr hk rfl rfl dX6_isRow_21
  · have hF := lm_brf hF c2
    refine lm_iload_n C dX6_isRow_7 rfl 1 rfl rfl ?_
    refine lm_bipush C (v := (99 : Int32)) dX6_isRow_8 (by decide) rfl ?_
    obtain ⟨r3, qr3, hF⟩ := lm_bde hF
    refine lm_callSR C (n := 2) (m_X6_isWithin D z zo l   x2 (99 : Int32) r3 qr3) gX6_isRow_X6_isWithin rfl (by decide +kernel) ⟨Nat.le_of_ble_eq_true rfl, Nat.le_of_ble_eq_true rfl⟩ ⟨Nat.le_of_ble_eq_true rfl, Nat.le_of_ble_eq_true rfl⟩ (fun _ h => absurd h List.not_mem_nil) rfl rfl (Nat.le_of_ble_eq_true rfl) dX6_isRow_10 (st' := [.int r3]) rfl rfl ?_
    refine lm_if_eq C (tgt := 20) dX6_isRow_13 (by decide) rfl (fun c4 => ?_) (fun c4 => ?_)
    · have hF := lm_brt hF c4
      refine lm_iconst C (v := (0 : Int32)) dX6_isRow_20 (by decide) rfl ?_
      cases hF
      exact lm_zretR C hr hk rfl rfl dX6_isRow_21
    · have hF := lm_brf hF c4
      refine lm_iconst C (v := (1 : Int32)) dX6_isRow_16 (by decide) rfl ?_
      refine lm_goto C (tgt := 21) dX6_isRow_17 (by decide) ?_
      cases hF
      exact lm_zretR C hr hk rfl rfl dX6_isRow_21
theorem cn_h0 : Cond.methodLink RX6 225 arraycopyName ∈ wsX6_copyNumbers := by decide +kernel
theorem cn_h1 : Cond.native arraycopyName ∈ wsX6_copyNumbers := by decide +kernel
theorem cn_h2 : Cond.static arraycopyName ∈ wsX6_copyNumbers := by decide +kernel
theorem cn_h3 : Cond.initialized "java/lang/System" ∈ wsX6_copyNumbers := by decide +kernel
theorem cn_m0 : Cond.methodLink RX6 117 Lib.Math.min.name ∈ wsX6_copyNumbers := by decide +kernel
theorem cn_m1 : Cond.static Lib.Math.min.name ∈ wsX6_copyNumbers := by decide +kernel
theorem cn_m2 : Cond.initialized "java/lang/Math" ∈ wsX6_copyNumbers := by decide +kernel
theorem cn_m3 : Cond.code Lib.Math.min.name Lib.Math.min.code 2 (some .int) ∈ wsX6_copyNumbers := by decide +kernel
set_option maxRecDepth 100000 in
set_option maxHeartbeats 4000000 in
theorem m_X6_copyNumbers (D : va_G) (z zo : ClassId) (l : Launch) (q1 q2 n : Nat) (f g : Nat → Int32) (hn : n < 1000) : lm_C D z zo l yX6_copyNumbers wsX6_copyNumbers 1 40 [.ref q1, .ref q2] [(q1, .inl (z, n, .inl f)), (q2, .inl (z, n, .inl g))] none [(q1, .inl (z, n, .inl f)), (q2, .inl (z, n, .inl (va_cpy f g 0 0 n)))] := by
  refine lm_C.of (by decide) rfl (Nat.le_of_ble_eq_true rfl) (own := RX6) rfl ?_
  intro p e s m_ args below meth c C hr hk hA
  refine lm_aload_n C dX6_copyNumbers_0 rfl 0 rfl rfl ?_
  refine lm_iconst C (v := 0) dX6_copyNumbers_1 (by decide) rfl ?_
  refine lm_aload_n C dX6_copyNumbers_2 rfl 1 rfl rfl ?_
  refine lm_iconst C (v := 0) dX6_copyNumbers_3 (by decide) rfl ?_
  refine lm_aload_n C dX6_copyNumbers_4 rfl 0 rfl rfl ?_
  refine lm_alen C (v := nI n) 0 rfl rfl dX6_copyNumbers_5 rfl ?_
  refine lm_aload_n C dX6_copyNumbers_6 rfl 1 rfl rfl ?_
  refine lm_alen C (v := nI n) 1 rfl rfl dX6_copyNumbers_7 rfl ?_
  refine lm_mmin C cn_m0 cn_m1 cn_m2 cn_m3 (Nat.le_of_ble_eq_true rfl) (Nat.le_of_ble_eq_true rfl) rfl (Nat.le_of_ble_eq_true rfl) dX6_copyNumbers_8 rfl ?_
  refine lm_copyi C (n := n) cn_h0 cn_h1 cn_h2 cn_h3 0 1 rfl rfl (by omega) (Nat.le_refl n) (Nat.le_refl n) (by simp) (Nat.le_of_ble_eq_true rfl) (Nat.le_of_ble_eq_true rfl) (by decide) dX6_copyNumbers_11 rfl rfl ?_
  exact lm_vret C hr hk rfl rfl dX6_copyNumbers_14
end
section
def F_X5_copyFrom (σ : Hp) (ρ : Hp)  : Option (Hp) :=
  lm_lt (lm_ua σ 1 (va_cpy (ρ 1) (σ 1) 0 0 20)) fun σ1 =>
  lm_lt (lm_ua σ1 2 (va_cpy (ρ 2) (σ1 2) 0 0 20)) fun σ2 =>
  lm_lt (lm_u σ2 0 2 (ρ 0 2)) fun σ3 =>
  some σ3
theorem in5_X5_copyFrom : ∀ w ∈ u_ws RX5 TX5 3, w ∈ wsX5_copyFrom := by decide +kernel
theorem fl9_X5_copyFrom : Cond.fieldLink RX5 9 "LoopMemo$Table" "keys" "[I" ∈ wsX5_copyFrom := by decide +kernel
theorem fl15_X5_copyFrom : Cond.fieldLink RX5 15 "LoopMemo$Table" "values" "[I" ∈ wsX5_copyFrom := by decide +kernel
theorem fl22_X5_copyFrom : Cond.fieldLink RX5 22 "LoopMemo$Table" "size" "I" ∈ wsX5_copyFrom := by decide +kernel
theorem ini_X6_copyNumbers_X5_copyFrom : Cond.initialized yX6_copyNumbers.cls ∈ wsX5_copyFrom := by decide +kernel
theorem sta_X6_copyNumbers_X5_copyFrom : Cond.static yX6_copyNumbers ∈ wsX5_copyFrom := by decide +kernel
set_option maxRecDepth 100000 in
set_option maxHeartbeats 4000000 in
theorem m_X5_copyFrom (D : va_G) (z zo : ClassId) (l : Launch) (a : Nat → Nat) (b : Nat → Nat) (σ : Hp) (ρ : Hp)   (σ' : Hp) (hF : F_X5_copyFrom σ ρ  = some σ') : lm_C D z zo l yX5_copyFrom wsX5_copyFrom 2 61 [.ref (a 0), .ref (b 0)] (tbW z a σ ++ tbW z b ρ) none (tbW z a σ' ++ tbW z b ρ) := by
  refine lm_C.of (by decide) rfl (Nat.le_of_ble_eq_true rfl) (own := RX5) rfl ?_
  intro p e s m_ args below meth c C hr hk hA
  show lm_St p l e ({ frames := 2, cells := 0, slots := 0, locals := 61 }) s m_ args below meth c D (va_A (tbW z a σ ++ tbW z b ρ) s.heap.size) 2 0 0 (lm_End below D none (tbW z a σ ++ tbW z b ρ) (tbW z a σ' ++ tbW z b ρ) args s) false (tbW z a σ ++ tbW z b ρ) 0 [(0, .ref (a 0)), (1, .ref (b 0))] []
  rw [F_X5_copyFrom] at hF
  refine lm_aload_n C dX5_copyFrom_0 rfl 1 rfl rfl ?_
  refine lm_getf C (T := TX5) (N := 3) (v := .ref (b 1)) in5_X5_copyFrom 3 rfl rfl 0 (by decide) fl9_X5_copyFrom rfl rfl dX5_copyFrom_1 rfl ?_
  refine lm_aload_n C dX5_copyFrom_4 rfl 0 rfl rfl ?_
  refine lm_getf C (T := TX5) (N := 3) (v := .ref (a 1)) in5_X5_copyFrom 0 rfl rfl 0 (by decide) fl9_X5_copyFrom rfl rfl dX5_copyFrom_5 rfl ?_
  obtain ⟨σ1, eσ1, hF⟩ := lm_lte hF
  refine lm_callSN C (n := 2) (w' := (tbW z a σ1 ++ tbW z b ρ)) (wr := ((tbW z a σ ++ tbW z b ρ).eraseIdx 4).eraseIdx 1) hA (m_X6_copyNumbers D z zo l (b 1) (a 1) 20 (ρ 1) (σ 1) (by decide)) gX5_copyFrom_X6_copyNumbers_n18 rfl ini_X6_copyNumbers_X5_copyFrom sta_X6_copyNumbers_X5_copyFrom (by decide +kernel) ⟨Nat.le_of_ble_eq_true rfl, Nat.le_of_ble_eq_true rfl⟩ ⟨Nat.le_of_ble_eq_true rfl, Nat.le_of_ble_eq_true rfl⟩ (by decide +kernel) (lm_pick2 (tbW z a σ ++ tbW z b ρ) 4 1 _ _ rfl rfl) (by rw [← eσ1]; exact lm_pick2' 4 1 rfl rfl rfl) rfl rfl (Nat.le_of_ble_eq_true rfl) dX5_copyFrom_8 (st' := []) rfl rfl ?_
  refine lm_aload_n C dX5_copyFrom_11 rfl 1 rfl rfl ?_
  refine lm_getf C (T := TX5) (N := 3) (v := .ref (b 2)) in5_X5_copyFrom 3 rfl rfl 1 (by decide) fl15_X5_copyFrom rfl rfl dX5_copyFrom_12 rfl ?_
  refine lm_aload_n C dX5_copyFrom_15 rfl 0 rfl rfl ?_
  refine lm_getf C (T := TX5) (N := 3) (v := .ref (a 2)) in5_X5_copyFrom 0 rfl rfl 1 (by decide) fl15_X5_copyFrom rfl rfl dX5_copyFrom_16 rfl ?_
  obtain ⟨σ2, eσ2, hF⟩ := lm_lte hF
  refine lm_callSN C (n := 2) (w' := (tbW z a σ2 ++ tbW z b ρ)) (wr := ((tbW z a σ1 ++ tbW z b ρ).eraseIdx 5).eraseIdx 2) hA (m_X6_copyNumbers D z zo l (b 2) (a 2) 20 (ρ 2) (σ1 2) (by decide)) gX5_copyFrom_X6_copyNumbers_n18 rfl ini_X6_copyNumbers_X5_copyFrom sta_X6_copyNumbers_X5_copyFrom (by decide +kernel) ⟨Nat.le_of_ble_eq_true rfl, Nat.le_of_ble_eq_true rfl⟩ ⟨Nat.le_of_ble_eq_true rfl, Nat.le_of_ble_eq_true rfl⟩ (by decide +kernel) (lm_pick2 (tbW z a σ1 ++ tbW z b ρ) 5 2 _ _ rfl rfl) (by rw [← eσ2]; exact lm_pick2' 5 2 rfl rfl rfl) rfl rfl (Nat.le_of_ble_eq_true rfl) dX5_copyFrom_19 (st' := []) rfl rfl ?_
  refine lm_aload_n C dX5_copyFrom_22 rfl 0 rfl rfl ?_
  refine lm_aload_n C dX5_copyFrom_23 rfl 1 rfl rfl ?_
  refine lm_getf C (T := TX5) (N := 3) (v := .int (ρ 0 2)) in5_X5_copyFrom 3 rfl rfl 2 (by decide) fl22_X5_copyFrom rfl rfl dX5_copyFrom_24 rfl ?_
  obtain ⟨σ3, eσ3, hF⟩ := lm_lte hF
  refine lm_putf C (T := TX5) (N := 3) (ty := .int) (v := .int (ρ 0 2)) (w' := (tbW z a σ3 ++ tbW z b ρ)) in5_X5_copyFrom tyX5 tyX5_ok nmX5 0 rfl rfl 2 (by decide) fl22_X5_copyFrom rfl rfl rfl rfl rfl (Nat.le_of_ble_eq_true rfl) dX5_copyFrom_27 (by rw [← eσ3]; rfl) rfl ?_
  cases hF
  exact lm_vret C hr hk rfl rfl dX5_copyFrom_30
def F_X5_size (σ : Hp)  : Option Int32 :=
  some (σ 0 2)
theorem in5_X5_size : ∀ w ∈ u_ws RX5 TX5 3, w ∈ wsX5_size := by decide +kernel
theorem fl22_X5_size : Cond.fieldLink RX5 22 "LoopMemo$Table" "size" "I" ∈ wsX5_size := by decide +kernel
set_option maxRecDepth 100000 in
set_option maxHeartbeats 4000000 in
theorem m_X5_size (D : va_G) (z zo : ClassId) (l : Launch) (a : Nat → Nat) (σ : Hp)  (r : Int32)  (hF : F_X5_size σ  = some r) : lm_CR D z zo l yX5_size wsX5_size 0 0 [.ref (a 0)] (tbW z a σ) (some (.int r)) := by
  refine lm_CR.of (by decide) rfl (Nat.le_of_ble_eq_true rfl) (own := RX5) rfl ?_
  intro p e s m_ args below meth c C hr hk
  show lm_St p l e ({ frames := 0, cells := 0, slots := 0, locals := 0 }) s m_ args below meth c D (fun _ => False) 1 0 0 (lm_EndR below (some (.int r)) args s) true (tbW z a σ) 0 [(0, .ref (a 0))] []
  rw [F_X5_size] at hF
  refine lm_aload_n C dX5_size_0 rfl 0 rfl rfl ?_
  refine lm_getf C (T := TX5) (N := 3) (v := .int (σ 0 2)) in5_X5_size 0 rfl rfl 2 (by decide) fl22_X5_size rfl rfl dX5_size_1 rfl ?_
  cases hF
  exact lm_iretR C hr hk rfl dX5_size_4
def F_X5_has (σ : Hp) (x1 : Int32) : Option Int32 :=
  lm_br (x1 < 0)
   (some (0 : Int32))
   (lm_br ((σ 0 2) ≤ x1)
    (some (0 : Int32))
    (some (1 : Int32)))
theorem in5_X5_has : ∀ w ∈ u_ws RX5 TX5 3, w ∈ wsX5_has := by decide +kernel
theorem fl22_X5_has : Cond.fieldLink RX5 22 "LoopMemo$Table" "size" "I" ∈ wsX5_has := by decide +kernel
set_option maxRecDepth 100000 in
set_option maxHeartbeats 4000000 in
theorem m_X5_has (D : va_G) (z zo : ClassId) (l : Launch) (a : Nat → Nat) (σ : Hp) (x1 : Int32) (r : Int32)  (hF : F_X5_has σ x1 = some r) : lm_CR D z zo l yX5_has wsX5_has 0 0 [.ref (a 0), .int x1] (tbW z a σ) (some (.int r)) := by
  refine lm_CR.of (by decide) rfl (Nat.le_of_ble_eq_true rfl) (own := RX5) rfl ?_
  intro p e s m_ args below meth c C hr hk
  show lm_St p l e ({ frames := 0, cells := 0, slots := 0, locals := 0 }) s m_ args below meth c D (fun _ => False) 2 0 0 (lm_EndR below (some (.int r)) args s) true (tbW z a σ) 0 [(0, .ref (a 0)), (1, .int x1)] []
  rw [F_X5_has] at hF
  refine lm_iload_n C dX5_has_0 rfl 1 rfl rfl ?_
  refine lm_if_lt C (tgt := 16) dX5_has_1 (by decide) rfl (fun c1 => ?_) (fun c1 => ?_)
  · have hF := lm_brt hF c1
    refine lm_iconst C (v := (0 : Int32)) dX5_has_16 (by decide) rfl ?_
    cases hF
    exact lm_zretR C hr hk rfl rfl dX5_has_17
  · have hF := lm_brf hF c1
    refine lm_iload_n C dX5_has_4 rfl 1 rfl rfl ?_
    refine lm_aload_n C dX5_has_5 rfl 0 rfl rfl ?_
    refine lm_getf C (T := TX5) (N := 3) (v := .int (σ 0 2)) in5_X5_has 0 rfl rfl 2 (by decide) fl22_X5_has rfl rfl dX5_has_6 rfl ?_
    refine lm_icmp_ge C (tgt := 16) dX5_has_9 (by decide) rfl (fun c2 => ?_) (fun c2 => ?_)
    · have hF := lm_brt hF c2
      refine lm_iconst C (v := (0 : Int32)) dX5_has_16 (by decide) rfl ?_
      cases hF
      exact lm_zretR C hr hk rfl rfl dX5_has_17
    · have hF := lm_brf hF c2
      refine lm_iconst C (v := (1 : Int32)) dX5_has_12 (by decide) rfl ?_
      refine lm_goto C (tgt := 17) dX5_has_13 (by decide) ?_
      cases hF
      exact lm_zretR C hr hk rfl rfl dX5_has_17
def F_X5_key (σ : Hp) (x1 : Int32) : Option Int32 :=
  lm_br (x1 < 0)
   (some (0 : Int32))
   (lm_br ((20 : Int32) ≤ x1)
    (some (0 : Int32))
    (lm_gi x1 20
    (some (σ 1 x1.toNatClampNeg))))
theorem in5_X5_key : ∀ w ∈ u_ws RX5 TX5 3, w ∈ wsX5_key := by decide +kernel
theorem fl9_X5_key : Cond.fieldLink RX5 9 "LoopMemo$Table" "keys" "[I" ∈ wsX5_key := by decide +kernel
set_option maxRecDepth 100000 in
set_option maxHeartbeats 4000000 in
theorem m_X5_key (D : va_G) (z zo : ClassId) (l : Launch) (a : Nat → Nat) (σ : Hp) (x1 : Int32) (r : Int32)  (hF : F_X5_key σ x1 = some r) : lm_CR D z zo l yX5_key wsX5_key 0 0 [.ref (a 0), .int x1] (tbW z a σ) (some (.int r)) := by
  refine lm_CR.of (by decide) rfl (Nat.le_of_ble_eq_true rfl) (own := RX5) rfl ?_
  intro p e s m_ args below meth c C hr hk
  show lm_St p l e ({ frames := 0, cells := 0, slots := 0, locals := 0 }) s m_ args below meth c D (fun _ => False) 2 0 0 (lm_EndR below (some (.int r)) args s) true (tbW z a σ) 0 [(0, .ref (a 0)), (1, .int x1)] []
  rw [F_X5_key] at hF
  refine lm_iload_n C dX5_key_0 rfl 1 rfl rfl ?_
  refine lm_if_lt C (tgt := 22) dX5_key_1 (by decide) rfl (fun c1 => ?_) (fun c1 => ?_)
  · have hF := lm_brt hF c1
    refine lm_iconst C (v := (0 : Int32)) dX5_key_22 (by decide) rfl ?_
    cases hF
    exact lm_iretR C hr hk rfl dX5_key_23
  · have hF := lm_brf hF c1
    refine lm_iload_n C dX5_key_4 rfl 1 rfl rfl ?_
    refine lm_aload_n C dX5_key_5 rfl 0 rfl rfl ?_
    refine lm_getf C (T := TX5) (N := 3) (v := .ref (a 1)) in5_X5_key 0 rfl rfl 0 (by decide) fl9_X5_key rfl rfl dX5_key_6 rfl ?_
    refine lm_alen C (v := (20 : Int32)) 1 rfl rfl dX5_key_9 rfl ?_
    refine lm_icmp_ge C (tgt := 22) dX5_key_10 (by decide) rfl (fun c2 => ?_) (fun c2 => ?_)
    · have hF := lm_brt hF c2
      refine lm_iconst C (v := (0 : Int32)) dX5_key_22 (by decide) rfl ?_
      cases hF
      exact lm_iretR C hr hk rfl dX5_key_23
    · have hF := lm_brf hF c2
      refine lm_aload_n C dX5_key_13 rfl 0 rfl rfl ?_
      refine lm_getf C (T := TX5) (N := 3) (v := .ref (a 1)) in5_X5_key 0 rfl rfl 0 (by decide) fl9_X5_key rfl rfl dX5_key_14 rfl ?_
      refine lm_iload_n C dX5_key_17 rfl 1 rfl rfl ?_
      obtain ⟨b3, hF⟩ := lm_gie hF
      refine lm_iald C (v := (σ 1 x1.toNatClampNeg)) 1 rfl b3 rfl dX5_key_18 rfl ?_
      refine lm_goto C (tgt := 23) dX5_key_19 (by decide) ?_
      cases hF
      exact lm_iretR C hr hk rfl dX5_key_23
def F_X5_value (σ : Hp) (x1 : Int32) : Option Int32 :=
  lm_br (x1 < 0)
   (some (0 : Int32))
   (lm_br ((20 : Int32) ≤ x1)
    (some (0 : Int32))
    (lm_gi x1 20
    (some (σ 2 x1.toNatClampNeg))))
theorem in5_X5_value : ∀ w ∈ u_ws RX5 TX5 3, w ∈ wsX5_value := by decide +kernel
theorem fl15_X5_value : Cond.fieldLink RX5 15 "LoopMemo$Table" "values" "[I" ∈ wsX5_value := by decide +kernel
set_option maxRecDepth 100000 in
set_option maxHeartbeats 4000000 in
theorem m_X5_value (D : va_G) (z zo : ClassId) (l : Launch) (a : Nat → Nat) (σ : Hp) (x1 : Int32) (r : Int32)  (hF : F_X5_value σ x1 = some r) : lm_CR D z zo l yX5_value wsX5_value 0 0 [.ref (a 0), .int x1] (tbW z a σ) (some (.int r)) := by
  refine lm_CR.of (by decide) rfl (Nat.le_of_ble_eq_true rfl) (own := RX5) rfl ?_
  intro p e s m_ args below meth c C hr hk
  show lm_St p l e ({ frames := 0, cells := 0, slots := 0, locals := 0 }) s m_ args below meth c D (fun _ => False) 2 0 0 (lm_EndR below (some (.int r)) args s) true (tbW z a σ) 0 [(0, .ref (a 0)), (1, .int x1)] []
  rw [F_X5_value] at hF
  refine lm_iload_n C dX5_value_0 rfl 1 rfl rfl ?_
  refine lm_if_lt C (tgt := 22) dX5_value_1 (by decide) rfl (fun c1 => ?_) (fun c1 => ?_)
  · have hF := lm_brt hF c1
    refine lm_iconst C (v := (0 : Int32)) dX5_value_22 (by decide) rfl ?_
    cases hF
    exact lm_iretR C hr hk rfl dX5_value_23
  · have hF := lm_brf hF c1
    refine lm_iload_n C dX5_value_4 rfl 1 rfl rfl ?_
    refine lm_aload_n C dX5_value_5 rfl 0 rfl rfl ?_
    refine lm_getf C (T := TX5) (N := 3) (v := .ref (a 2)) in5_X5_value 0 rfl rfl 1 (by decide) fl15_X5_value rfl rfl dX5_value_6 rfl ?_
    refine lm_alen C (v := (20 : Int32)) 2 rfl rfl dX5_value_9 rfl ?_
    refine lm_icmp_ge C (tgt := 22) dX5_value_10 (by decide) rfl (fun c2 => ?_) (fun c2 => ?_)
    · have hF := lm_brt hF c2
      refine lm_iconst C (v := (0 : Int32)) dX5_value_22 (by decide) rfl ?_
      cases hF
      exact lm_iretR C hr hk rfl dX5_value_23
    · have hF := lm_brf hF c2
      refine lm_aload_n C dX5_value_13 rfl 0 rfl rfl ?_
      refine lm_getf C (T := TX5) (N := 3) (v := .ref (a 2)) in5_X5_value 0 rfl rfl 1 (by decide) fl15_X5_value rfl rfl dX5_value_14 rfl ?_
      refine lm_iload_n C dX5_value_17 rfl 1 rfl rfl ?_
      obtain ⟨b3, hF⟩ := lm_gie hF
      refine lm_iald C (v := (σ 2 x1.toNatClampNeg)) 2 rfl b3 rfl dX5_value_18 rfl ?_
      refine lm_goto C (tgt := 23) dX5_value_19 (by decide) ?_
      cases hF
      exact lm_iretR C hr hk rfl dX5_value_23
def F_X5_put (σ : Hp) (x1 x2 x3 : Int32) : Option (Hp) :=
  lm_br (x1 < 0)
   (some σ)
   (lm_br ((20 : Int32) ≤ x1)
    (some σ)
    (lm_gi x1 20
    (lm_lt (lm_u σ 1 (x1.toNatClampNeg) x2) fun σ4 =>
    lm_gi x1 20
    (lm_lt (lm_u σ4 2 (x1.toNatClampNeg) x3) fun σ5 =>
    some σ5))))
theorem in5_X5_put : ∀ w ∈ u_ws RX5 TX5 3, w ∈ wsX5_put := by decide +kernel
theorem fl9_X5_put : Cond.fieldLink RX5 9 "LoopMemo$Table" "keys" "[I" ∈ wsX5_put := by decide +kernel
theorem fl15_X5_put : Cond.fieldLink RX5 15 "LoopMemo$Table" "values" "[I" ∈ wsX5_put := by decide +kernel
set_option maxRecDepth 100000 in
set_option maxHeartbeats 4000000 in
theorem m_X5_put (D : va_G) (z zo : ClassId) (l : Launch) (a : Nat → Nat) (σ : Hp) (x1 x2 x3 : Int32)  (σ' : Hp) (hF : F_X5_put σ x1 x2 x3 = some σ') : lm_C D z zo l yX5_put wsX5_put 0 0 [.ref (a 0), .int x1, .int x2, .int x3] (tbW z a σ) none (tbW z a σ') := by
  refine lm_C.of (by decide) rfl (Nat.le_of_ble_eq_true rfl) (own := RX5) rfl ?_
  intro p e s m_ args below meth c C hr hk hA
  show lm_St p l e ({ frames := 0, cells := 0, slots := 0, locals := 0 }) s m_ args below meth c D (va_A (tbW z a σ) s.heap.size) 4 0 0 (lm_End below D none (tbW z a σ) (tbW z a σ') args s) false (tbW z a σ) 0 [(0, .ref (a 0)), (1, .int x1), (2, .int x2), (3, .int x3)] []
  rw [F_X5_put] at hF
  refine lm_iload_n C dX5_put_0 rfl 1 rfl rfl ?_
  refine lm_if_lt C (tgt := 36) dX5_put_1 (by decide) rfl (fun c1 => ?_) (fun c1 => ?_)
  · have hF := lm_brt hF c1
    cases hF
    exact lm_vret C hr hk rfl rfl dX5_put_36
  · have hF := lm_brf hF c1
    refine lm_iload_n C dX5_put_4 rfl 1 rfl rfl ?_
    refine lm_aload_n C dX5_put_5 rfl 0 rfl rfl ?_
    refine lm_getf C (T := TX5) (N := 3) (v := .ref (a 1)) in5_X5_put 0 rfl rfl 0 (by decide) fl9_X5_put rfl rfl dX5_put_6 rfl ?_
    refine lm_alen C (v := (20 : Int32)) 1 rfl rfl dX5_put_9 rfl ?_
    refine lm_icmp_ge C (tgt := 36) dX5_put_10 (by decide) rfl (fun c2 => ?_) (fun c2 => ?_)
    · have hF := lm_brt hF c2
      cases hF
      exact lm_vret C hr hk rfl rfl dX5_put_36
    · have hF := lm_brf hF c2
      refine lm_iload_n C dX5_put_13 rfl 1 rfl rfl ?_
      refine lm_aload_n C dX5_put_14 rfl 0 rfl rfl ?_
      refine lm_getf C (T := TX5) (N := 3) (v := .ref (a 2)) in5_X5_put 0 rfl rfl 1 (by decide) fl15_X5_put rfl rfl dX5_put_15 rfl ?_
      refine lm_alen C (v := (20 : Int32)) 2 rfl rfl dX5_put_18 rfl ?_
      refine lm_icmp_ge C (tgt := 36) dX5_put_19 (by decide) rfl (fun c3 => ?_) (fun c3 => ?_)
      · exact (by simp_all : False).elim
      · refine lm_aload_n C dX5_put_22 rfl 0 rfl rfl ?_
        refine lm_getf C (T := TX5) (N := 3) (v := .ref (a 1)) in5_X5_put 0 rfl rfl 0 (by decide) fl9_X5_put rfl rfl dX5_put_23 rfl ?_
        refine lm_iload_n C dX5_put_26 rfl 1 rfl rfl ?_
        refine lm_iload_n C dX5_put_27 rfl 2 rfl rfl ?_
        obtain ⟨b7, hF⟩ := lm_gie hF
        obtain ⟨σ4, eσ4, hF⟩ := lm_lte hF
        refine lm_iast C (w' := (tbW z a σ4)) 1 rfl b7 dX5_put_28 (by rw [← eσ4]; rfl) rfl ?_
        refine lm_aload_n C dX5_put_29 rfl 0 rfl rfl ?_
        refine lm_getf C (T := TX5) (N := 3) (v := .ref (a 2)) in5_X5_put 0 rfl rfl 1 (by decide) fl15_X5_put rfl rfl dX5_put_30 rfl ?_
        refine lm_iload_n C dX5_put_33 rfl 1 rfl rfl ?_
        refine lm_iload_n C dX5_put_34 rfl 3 rfl rfl ?_
        obtain ⟨b6, hF⟩ := lm_gie hF
        obtain ⟨σ5, eσ5, hF⟩ := lm_lte hF
        refine lm_iast C (w' := (tbW z a σ5)) 2 rfl b6 dX5_put_35 (by rw [← eσ5]; rfl) rfl ?_
        cases hF
        exact lm_vret C hr hk rfl rfl dX5_put_36
def F_X5_push (σ : Hp) (x1 x2 : Int32) : Option (Hp) :=
  lm_br ((20 : Int32) ≤ (σ 0 2))
   (some σ)
   (lm_bd (F_X5_put σ (σ 0 2) x1 x2) fun σ2 =>
   lm_lt (lm_u σ2 0 2 ((σ2 0 2) + (1 : Int32))) fun σ3 =>
   some σ3)
theorem in5_X5_push : ∀ w ∈ u_ws RX5 TX5 3, w ∈ wsX5_push := by decide +kernel
theorem fl22_X5_push : Cond.fieldLink RX5 22 "LoopMemo$Table" "size" "I" ∈ wsX5_push := by decide +kernel
set_option maxRecDepth 100000 in
set_option maxHeartbeats 4000000 in
theorem m_X5_push (D : va_G) (z zo : ClassId) (l : Launch) (a : Nat → Nat) (σ : Hp) (x1 x2 : Int32)  (σ' : Hp) (hF : F_X5_push σ x1 x2 = some σ') : lm_C D z zo l yX5_push wsX5_push 1 23 [.ref (a 0), .int x1, .int x2] (tbW z a σ) none (tbW z a σ') := by
  refine lm_C.of (by decide) rfl (Nat.le_of_ble_eq_true rfl) (own := RX5) rfl ?_
  intro p e s m_ args below meth c C hr hk hA
  show lm_St p l e ({ frames := 1, cells := 0, slots := 0, locals := 23 }) s m_ args below meth c D (va_A (tbW z a σ) s.heap.size) 3 0 0 (lm_End below D none (tbW z a σ) (tbW z a σ') args s) false (tbW z a σ) 0 [(0, .ref (a 0)), (1, .int x1), (2, .int x2)] []
  rw [F_X5_push] at hF
  refine lm_aload_n C dX5_push_0 rfl 0 rfl rfl ?_
  refine lm_getf C (T := TX5) (N := 3) (v := .int (σ 0 2)) in5_X5_push 0 rfl rfl 2 (by decide) fl22_X5_push rfl rfl dX5_push_1 rfl ?_
  refine lm_bipush C (v := (20 : Int32)) dX5_push_4 (by decide) rfl ?_
  refine lm_icmp_ge C (tgt := 29) dX5_push_6 (by decide) rfl (fun c1 => ?_) (fun c1 => ?_)
  · have hF := lm_brt hF c1
    cases hF
    exact lm_vret C hr hk rfl rfl dX5_push_29
  · have hF := lm_brf hF c1
    refine lm_aload_n C dX5_push_9 rfl 0 rfl rfl ?_
    refine lm_aload_n C dX5_push_10 rfl 0 rfl rfl ?_
    refine lm_getf C (T := TX5) (N := 3) (v := .int (σ 0 2)) in5_X5_push 0 rfl rfl 2 (by decide) fl22_X5_push rfl rfl dX5_push_11 rfl ?_
    refine lm_iload_n C dX5_push_14 rfl 1 rfl rfl ?_
    refine lm_iload_n C dX5_push_15 rfl 2 rfl rfl ?_
    obtain ⟨σ2, qσ2, hF⟩ := lm_bde hF
    refine lm_callV C (n := 3) (ci := 5) (w' := (tbW z a σ2)) hA (m_X5_put D z zo l a σ (σ 0 2) x1 x2 σ2 qσ2) gX5_push_X5_put rfl (by decide +kernel) ⟨Nat.le_of_ble_eq_true rfl, Nat.le_of_ble_eq_true rfl⟩ ⟨Nat.le_of_ble_eq_true rfl, Nat.le_of_ble_eq_true rfl⟩ 0 rfl rfl lm_pr lm_pr' rfl rfl (Nat.le_of_ble_eq_true rfl) dX5_push_16 (st' := []) rfl rfl ?_
    refine lm_aload_n C dX5_push_19 rfl 0 rfl rfl ?_
    refine lm_dup C dX5_push_20 rfl rfl ?_
    refine lm_getf C (T := TX5) (N := 3) (v := .int (σ2 0 2)) in5_X5_push 0 rfl rfl 2 (by decide) fl22_X5_push rfl rfl dX5_push_21 rfl ?_
    refine lm_iconst C (v := (1 : Int32)) dX5_push_24 (by decide) rfl ?_
    refine lm_iadd C dX5_push_25 rfl rfl ?_
    obtain ⟨σ3, eσ3, hF⟩ := lm_lte hF
    refine lm_putf C (T := TX5) (N := 3) (ty := .int) (v := .int ((σ2 0 2) + (1 : Int32))) (w' := (tbW z a σ3)) in5_X5_push tyX5 tyX5_ok nmX5 0 rfl rfl 2 (by decide) fl22_X5_push rfl rfl rfl rfl rfl (Nat.le_of_ble_eq_true rfl) dX5_push_26 (by rw [← eσ3]; rfl) rfl ?_
    cases hF
    exact lm_vret C hr hk rfl rfl dX5_push_29
def F_X5_takeOut_L11 : Nat → Hp → Int32 → Option (Hp)
  | 0, _, _ => none
  | n + 1, σx, x2 =>
    lm_br (((σx 0 2) - (1 : Int32)) ≤ x2)
     (lm_lt (lm_u σx 0 2 ((σx 0 2) - (1 : Int32))) fun σ4 =>
     some σ4)
     (lm_bd (F_X5_key σx (x2 + (1 : Int32))) fun r5 =>
     lm_bd (F_X5_value σx (x2 + (1 : Int32))) fun r6 =>
     lm_bd (F_X5_put σx x2 r5 r6) fun σ7 =>
     F_X5_takeOut_L11 n σ7 (x2 + (1 : Int32)))
def F_X5_takeOut (σ : Hp) (x1 : Int32) : Option (Hp) :=
  lm_bd (F_X5_has σ x1) fun r1 =>
  lm_br (¬ r1 = 0)
   (F_X5_takeOut_L11 1000 σ x1)
   (some σ)
theorem in5_X5_takeOut : ∀ w ∈ u_ws RX5 TX5 3, w ∈ wsX5_takeOut := by decide +kernel
theorem fl22_X5_takeOut : Cond.fieldLink RX5 22 "LoopMemo$Table" "size" "I" ∈ wsX5_takeOut := by decide +kernel
set_option maxRecDepth 100000 in
set_option maxHeartbeats 4000000 in
theorem m_X5_takeOut (D : va_G) (z zo : ClassId) (l : Launch) (a : Nat → Nat) (σ : Hp) (x1 : Int32)  (σ' : Hp) (hF : F_X5_takeOut σ x1 = some σ') : lm_C D z zo l yX5_takeOut wsX5_takeOut 1 23 [.ref (a 0), .int x1] (tbW z a σ) none (tbW z a σ') := by
  refine lm_C.of (by decide) rfl (Nat.le_of_ble_eq_true rfl) (own := RX5) rfl ?_
  intro p e s m_ args below meth c C hr hk hA
  have loop_11 : ∀ (n : Nat) (σx : Hp) (x2 : Int32), F_X5_takeOut_L11 n σx x2 = some σ' → lm_St p l e ({ frames := 1, cells := 0, slots := 0, locals := 23 }) s m_ args below meth c D (va_A (tbW z a σ) s.heap.size) 3 0 0 (lm_End below D none (tbW z a σ) (tbW z a σ') args s) false (tbW z a σx) 11 [(0, .ref (a 0)), (2, .int x2)] [] := by
    intro n
    induction n with
    | zero => intro σx x2 hF; cases (show (none : Option _) = some _ from hF)
    | succ n ih =>
      intro σx x2 hF
      rw [F_X5_takeOut_L11] at hF
      refine lm_iload_n C dX5_takeOut_11 rfl 1 rfl rfl ?_
      refine lm_aload_n C dX5_takeOut_12 rfl 0 rfl rfl ?_
      refine lm_getf C (T := TX5) (N := 3) (v := .int (σx 0 2)) in5_X5_takeOut 0 rfl rfl 2 (by decide) fl22_X5_takeOut rfl rfl dX5_takeOut_13 rfl ?_
      refine lm_iconst C (v := (1 : Int32)) dX5_takeOut_16 (by decide) rfl ?_
      refine lm_isub C dX5_takeOut_17 rfl rfl ?_
      refine lm_icmp_ge C (tgt := 46) dX5_takeOut_18 (by decide) rfl (fun c3 => ?_) (fun c3 => ?_)
      · have hF := lm_brt hF c3
        refine lm_aload_n C dX5_takeOut_46 rfl 0 rfl rfl ?_
        refine lm_dup C dX5_takeOut_47 rfl rfl ?_
        refine lm_getf C (T := TX5) (N := 3) (v := .int (σx 0 2)) in5_X5_takeOut 0 rfl rfl 2 (by decide) fl22_X5_takeOut rfl rfl dX5_takeOut_48 rfl ?_
        refine lm_iconst C (v := (1 : Int32)) dX5_takeOut_51 (by decide) rfl ?_
        refine lm_isub C dX5_takeOut_52 rfl rfl ?_
        obtain ⟨σ4, eσ4, hF⟩ := lm_lte hF
        refine lm_putf C (T := TX5) (N := 3) (ty := .int) (v := .int ((σx 0 2) - (1 : Int32))) (w' := (tbW z a σ4)) in5_X5_takeOut tyX5 tyX5_ok nmX5 0 rfl rfl 2 (by decide) fl22_X5_takeOut rfl rfl rfl rfl rfl (Nat.le_of_ble_eq_true rfl) dX5_takeOut_53 (by rw [← eσ4]; rfl) rfl ?_
        cases hF
        exact lm_vret C hr hk rfl rfl dX5_takeOut_56
      · have hF := lm_brf hF c3
        refine lm_aload_n C dX5_takeOut_21 rfl 0 rfl rfl ?_
        refine lm_iload_n C dX5_takeOut_22 rfl 1 rfl rfl ?_
        refine lm_aload_n C dX5_takeOut_23 rfl 0 rfl rfl ?_
        refine lm_iload_n C dX5_takeOut_24 rfl 1 rfl rfl ?_
        refine lm_iconst C (v := (1 : Int32)) dX5_takeOut_25 (by decide) rfl ?_
        refine lm_iadd C dX5_takeOut_26 rfl rfl ?_
        obtain ⟨r5, qr5, hF⟩ := lm_bde hF
        refine lm_callVR C (n := 1) (ci := 5) (m_X5_key D z zo l a σx (x2 + (1 : Int32)) r5 qr5) gX5_takeOut_X5_key rfl (by decide +kernel) ⟨Nat.le_of_ble_eq_true rfl, Nat.le_of_ble_eq_true rfl⟩ ⟨Nat.le_of_ble_eq_true rfl, Nat.le_of_ble_eq_true rfl⟩ 0 rfl rfl (fun _ h => h) rfl rfl (Nat.le_of_ble_eq_true rfl) dX5_takeOut_27 (st' := [.int r5, .int x2, .ref (a 0)]) rfl rfl ?_
        refine lm_aload_n C dX5_takeOut_30 rfl 0 rfl rfl ?_
        refine lm_iload_n C dX5_takeOut_31 rfl 1 rfl rfl ?_
        refine lm_iconst C (v := (1 : Int32)) dX5_takeOut_32 (by decide) rfl ?_
        refine lm_iadd C dX5_takeOut_33 rfl rfl ?_
        obtain ⟨r6, qr6, hF⟩ := lm_bde hF
        refine lm_callVR C (n := 1) (ci := 5) (m_X5_value D z zo l a σx (x2 + (1 : Int32)) r6 qr6) gX5_takeOut_X5_value rfl (by decide +kernel) ⟨Nat.le_of_ble_eq_true rfl, Nat.le_of_ble_eq_true rfl⟩ ⟨Nat.le_of_ble_eq_true rfl, Nat.le_of_ble_eq_true rfl⟩ 0 rfl rfl (fun _ h => h) rfl rfl (Nat.le_of_ble_eq_true rfl) dX5_takeOut_34 (st' := [.int r6, .int r5, .int x2, .ref (a 0)]) rfl rfl ?_
        obtain ⟨σ7, qσ7, hF⟩ := lm_bde hF
        refine lm_callV C (n := 3) (ci := 5) (w' := (tbW z a σ7)) hA (m_X5_put D z zo l a σx x2 r5 r6 σ7 qσ7) gX5_takeOut_X5_put rfl (by decide +kernel) ⟨Nat.le_of_ble_eq_true rfl, Nat.le_of_ble_eq_true rfl⟩ ⟨Nat.le_of_ble_eq_true rfl, Nat.le_of_ble_eq_true rfl⟩ 0 rfl rfl lm_pr lm_pr' rfl rfl (Nat.le_of_ble_eq_true rfl) dX5_takeOut_37 (st' := []) rfl rfl ?_
        refine lm_iinc C (lv' := [(0, .ref (a 0)), (2, .int (x2 + (1 : Int32)))]) (x2 + (1 : Int32)) dX5_takeOut_40 1 rfl rfl (by decide) rfl [1, 0] rfl rfl ?_
        refine lm_goto C (tgt := 11) dX5_takeOut_43 (by decide) ?_
        exact ih σ7 (x2 + (1 : Int32)) hF
  show lm_St p l e ({ frames := 1, cells := 0, slots := 0, locals := 23 }) s m_ args below meth c D (va_A (tbW z a σ) s.heap.size) 3 0 0 (lm_End below D none (tbW z a σ) (tbW z a σ') args s) false (tbW z a σ) 0 [(0, .ref (a 0)), (1, .int x1)] []
  rw [F_X5_takeOut] at hF
  refine lm_aload_n C dX5_takeOut_0 rfl 0 rfl rfl ?_
  refine lm_iload_n C dX5_takeOut_1 rfl 1 rfl rfl ?_
  obtain ⟨r1, qr1, hF⟩ := lm_bde hF
  refine lm_callVR C (n := 1) (ci := 5) (m_X5_has D z zo l a σ x1 r1 qr1) gX5_takeOut_X5_has rfl (by decide +kernel) ⟨Nat.le_of_ble_eq_true rfl, Nat.le_of_ble_eq_true rfl⟩ ⟨Nat.le_of_ble_eq_true rfl, Nat.le_of_ble_eq_true rfl⟩ 0 rfl rfl (fun _ h => h) rfl rfl (Nat.le_of_ble_eq_true rfl) dX5_takeOut_2 (st' := [.int r1]) rfl rfl ?_
  refine lm_if_ne C (tgt := 9) dX5_takeOut_5 (by decide) rfl (fun c2 => ?_) (fun c2 => ?_)
  · have hF := lm_brt hF c2
    refine lm_iload_n C dX5_takeOut_9 rfl 1 rfl rfl ?_
    refine lm_istore_n C (lv' := [(0, .ref (a 0)), (1, .int x1), (2, .int x1)]) dX5_takeOut_10 rfl (by decide) rfl [1, 2, 0] rfl rfl ?_
    refine lm_lvsub (lv' := [(0, .ref (a 0)), (2, .int x1)]) [0, 2] rfl ?_
    exact loop_11 1000 σ x1 hF
  · have hF := lm_brf hF c2
    cases hF
    exact lm_vret C hr hk rfl rfl dX5_takeOut_8
end
section
def F_X0_copyFrom (σ : Hp) (ρ : Hp)  : Option (Hp) :=
  lm_lt (lm_ua σ 1 (va_cpy (ρ 1) (σ 1) 0 0 10)) fun σ1 =>
  lm_lt (lm_ua σ1 2 (va_cpy (ρ 2) (σ1 2) 0 0 10)) fun σ2 =>
  lm_lt (lm_ua σ2 3 (va_cpy (ρ 3) (σ2 3) 0 0 10)) fun σ3 =>
  some σ3
theorem in0_X0_copyFrom : ∀ w ∈ u_ws RX0 TX0 3, w ∈ wsX0_copyFrom := by decide +kernel
theorem fl9_X0_copyFrom : Cond.fieldLink RX0 9 "LoopMemo$Answers" "rows" "[I" ∈ wsX0_copyFrom := by decide +kernel
theorem fl15_X0_copyFrom : Cond.fieldLink RX0 15 "LoopMemo$Answers" "sums" "[I" ∈ wsX0_copyFrom := by decide +kernel
theorem fl18_X0_copyFrom : Cond.fieldLink RX0 18 "LoopMemo$Answers" "firstRows" "[I" ∈ wsX0_copyFrom := by decide +kernel
theorem ini_X6_copyNumbers_X0_copyFrom : Cond.initialized yX6_copyNumbers.cls ∈ wsX0_copyFrom := by decide +kernel
theorem sta_X6_copyNumbers_X0_copyFrom : Cond.static yX6_copyNumbers ∈ wsX0_copyFrom := by decide +kernel
set_option maxRecDepth 100000 in
set_option maxHeartbeats 4000000 in
theorem m_X0_copyFrom (D : va_G) (z zo : ClassId) (l : Launch) (a : Nat → Nat) (b : Nat → Nat) (σ : Hp) (ρ : Hp)   (σ' : Hp) (hF : F_X0_copyFrom σ ρ  = some σ') : lm_C D z zo l yX0_copyFrom wsX0_copyFrom 2 61 [.ref (a 0), .ref (b 0)] (anW z a σ ++ anW z b ρ) none (anW z a σ' ++ anW z b ρ) := by
  refine lm_C.of (by decide) rfl (Nat.le_of_ble_eq_true rfl) (own := RX0) rfl ?_
  intro p e s m_ args below meth c C hr hk hA
  show lm_St p l e ({ frames := 2, cells := 0, slots := 0, locals := 61 }) s m_ args below meth c D (va_A (anW z a σ ++ anW z b ρ) s.heap.size) 2 0 0 (lm_End below D none (anW z a σ ++ anW z b ρ) (anW z a σ' ++ anW z b ρ) args s) false (anW z a σ ++ anW z b ρ) 0 [(0, .ref (a 0)), (1, .ref (b 0))] []
  rw [F_X0_copyFrom] at hF
  refine lm_aload_n C dX0_copyFrom_0 rfl 1 rfl rfl ?_
  refine lm_getf C (T := TX0) (N := 3) (v := .ref (b 1)) in0_X0_copyFrom 4 rfl rfl 0 (by decide) fl9_X0_copyFrom rfl rfl dX0_copyFrom_1 rfl ?_
  refine lm_aload_n C dX0_copyFrom_4 rfl 0 rfl rfl ?_
  refine lm_getf C (T := TX0) (N := 3) (v := .ref (a 1)) in0_X0_copyFrom 0 rfl rfl 0 (by decide) fl9_X0_copyFrom rfl rfl dX0_copyFrom_5 rfl ?_
  obtain ⟨σ1, eσ1, hF⟩ := lm_lte hF
  refine lm_callSN C (n := 2) (w' := (anW z a σ1 ++ anW z b ρ)) (wr := ((anW z a σ ++ anW z b ρ).eraseIdx 5).eraseIdx 1) hA (m_X6_copyNumbers D z zo l (b 1) (a 1) 10 (ρ 1) (σ 1) (by decide)) gX0_copyFrom_X6_copyNumbers_n21 rfl ini_X6_copyNumbers_X0_copyFrom sta_X6_copyNumbers_X0_copyFrom (by decide +kernel) ⟨Nat.le_of_ble_eq_true rfl, Nat.le_of_ble_eq_true rfl⟩ ⟨Nat.le_of_ble_eq_true rfl, Nat.le_of_ble_eq_true rfl⟩ (by decide +kernel) (lm_pick2 (anW z a σ ++ anW z b ρ) 5 1 _ _ rfl rfl) (by rw [← eσ1]; exact lm_pick2' 5 1 rfl rfl rfl) rfl rfl (Nat.le_of_ble_eq_true rfl) dX0_copyFrom_8 (st' := []) rfl rfl ?_
  refine lm_aload_n C dX0_copyFrom_11 rfl 1 rfl rfl ?_
  refine lm_getf C (T := TX0) (N := 3) (v := .ref (b 2)) in0_X0_copyFrom 4 rfl rfl 1 (by decide) fl15_X0_copyFrom rfl rfl dX0_copyFrom_12 rfl ?_
  refine lm_aload_n C dX0_copyFrom_15 rfl 0 rfl rfl ?_
  refine lm_getf C (T := TX0) (N := 3) (v := .ref (a 2)) in0_X0_copyFrom 0 rfl rfl 1 (by decide) fl15_X0_copyFrom rfl rfl dX0_copyFrom_16 rfl ?_
  obtain ⟨σ2, eσ2, hF⟩ := lm_lte hF
  refine lm_callSN C (n := 2) (w' := (anW z a σ2 ++ anW z b ρ)) (wr := ((anW z a σ1 ++ anW z b ρ).eraseIdx 6).eraseIdx 2) hA (m_X6_copyNumbers D z zo l (b 2) (a 2) 10 (ρ 2) (σ1 2) (by decide)) gX0_copyFrom_X6_copyNumbers_n21 rfl ini_X6_copyNumbers_X0_copyFrom sta_X6_copyNumbers_X0_copyFrom (by decide +kernel) ⟨Nat.le_of_ble_eq_true rfl, Nat.le_of_ble_eq_true rfl⟩ ⟨Nat.le_of_ble_eq_true rfl, Nat.le_of_ble_eq_true rfl⟩ (by decide +kernel) (lm_pick2 (anW z a σ1 ++ anW z b ρ) 6 2 _ _ rfl rfl) (by rw [← eσ2]; exact lm_pick2' 6 2 rfl rfl rfl) rfl rfl (Nat.le_of_ble_eq_true rfl) dX0_copyFrom_19 (st' := []) rfl rfl ?_
  refine lm_aload_n C dX0_copyFrom_22 rfl 1 rfl rfl ?_
  refine lm_getf C (T := TX0) (N := 3) (v := .ref (b 3)) in0_X0_copyFrom 4 rfl rfl 2 (by decide) fl18_X0_copyFrom rfl rfl dX0_copyFrom_23 rfl ?_
  refine lm_aload_n C dX0_copyFrom_26 rfl 0 rfl rfl ?_
  refine lm_getf C (T := TX0) (N := 3) (v := .ref (a 3)) in0_X0_copyFrom 0 rfl rfl 2 (by decide) fl18_X0_copyFrom rfl rfl dX0_copyFrom_27 rfl ?_
  obtain ⟨σ3, eσ3, hF⟩ := lm_lte hF
  refine lm_callSN C (n := 2) (w' := (anW z a σ3 ++ anW z b ρ)) (wr := ((anW z a σ2 ++ anW z b ρ).eraseIdx 7).eraseIdx 3) hA (m_X6_copyNumbers D z zo l (b 3) (a 3) 10 (ρ 3) (σ2 3) (by decide)) gX0_copyFrom_X6_copyNumbers_n21 rfl ini_X6_copyNumbers_X0_copyFrom sta_X6_copyNumbers_X0_copyFrom (by decide +kernel) ⟨Nat.le_of_ble_eq_true rfl, Nat.le_of_ble_eq_true rfl⟩ ⟨Nat.le_of_ble_eq_true rfl, Nat.le_of_ble_eq_true rfl⟩ (by decide +kernel) (lm_pick2 (anW z a σ2 ++ anW z b ρ) 7 3 _ _ rfl rfl) (by rw [← eσ3]; exact lm_pick2' 7 3 rfl rfl rfl) rfl rfl (Nat.le_of_ble_eq_true rfl) dX0_copyFrom_30 (st' := []) rfl rfl ?_
  cases hF
  exact lm_vret C hr hk rfl rfl dX0_copyFrom_33
def F_X0_find_L40 : Nat → Hp → Hp → Int32 → Int32 → Int32 → Option (Hp)
  | 0, _, _, _, _, _ => none
  | n + 1, σx, ρ, x2, x3, x4 =>
    lm_br (x4 < 0)
     (some σx)
     (lm_bd (F_X5_value ρ x4) fun r4 =>
     lm_bd (F_X5_key ρ x4) fun r5 =>
     lm_br (r5 < 0)
      (F_X0_find_L40 n σx ρ x2 x3 (x4 + (-1 : Int32)))
      (lm_br ((10 : Int32) ≤ r5)
       (F_X0_find_L40 n σx ρ x2 x3 (x4 + (-1 : Int32)))
       (lm_br (r4 < x2)
        (F_X0_find_L40 n σx ρ x2 x3 (x4 + (-1 : Int32)))
        (lm_br (x3 < r4)
         (F_X0_find_L40 n σx ρ x2 x3 (x4 + (-1 : Int32)))
         (lm_gi r5 10
         (lm_gi r5 10
         (lm_lt (lm_u σx 1 (r5.toNatClampNeg) ((σx 1 r5.toNatClampNeg) + (1 : Int32))) fun σ11 =>
         lm_gi r5 10
         (lm_gi r5 10
         (lm_lt (lm_u σ11 2 (r5.toNatClampNeg) ((σ11 2 r5.toNatClampNeg) + r4)) fun σ13 =>
         lm_gi r5 10
         (lm_lt (lm_u σ13 3 (r5.toNatClampNeg) x4) fun σ14 =>
         F_X0_find_L40 n σ14 ρ x2 x3 (x4 + (-1 : Int32))))))))))))
def F_X0_find_L3 : Nat → Hp → Hp → Int32 → Int32 → Int32 → Option (Hp)
  | 0, _, _, _, _, _ => none
  | n + 1, σx, ρ, x2, x3, x4 =>
    lm_br ((10 : Int32) ≤ x4)
     (lm_bd (F_X5_size ρ) fun r2 =>
     F_X0_find_L40 1000 σx ρ x2 x3 (r2 - (1 : Int32)))
     (lm_gi x4 10
     (lm_lt (lm_u σx 1 (x4.toNatClampNeg) (0 : Int32)) fun σ18 =>
     lm_gi x4 10
     (lm_lt (lm_u σ18 2 (x4.toNatClampNeg) (0 : Int32)) fun σ19 =>
     F_X0_find_L3 n σ19 ρ x2 x3 (x4 + (1 : Int32)))))
def F_X0_find (σ : Hp) (ρ : Hp) (x2 x3 : Int32) : Option (Hp) :=
  F_X0_find_L3 1000 σ ρ x2 x3 (0 : Int32)
theorem in0_X0_find : ∀ w ∈ u_ws RX0 TX0 3, w ∈ wsX0_find := by decide +kernel
theorem fl9_X0_find : Cond.fieldLink RX0 9 "LoopMemo$Answers" "rows" "[I" ∈ wsX0_find := by decide +kernel
theorem fl15_X0_find : Cond.fieldLink RX0 15 "LoopMemo$Answers" "sums" "[I" ∈ wsX0_find := by decide +kernel
theorem fl18_X0_find : Cond.fieldLink RX0 18 "LoopMemo$Answers" "firstRows" "[I" ∈ wsX0_find := by decide +kernel
set_option maxRecDepth 100000 in
set_option maxHeartbeats 4000000 in
theorem m_X0_find (D : va_G) (z zo : ClassId) (l : Launch) (a : Nat → Nat) (b : Nat → Nat) (σ : Hp) (ρ : Hp) (x2 x3 : Int32)  (σ' : Hp) (hF : F_X0_find σ ρ x2 x3 = some σ') : lm_C D z zo l yX0_find wsX0_find 1 21 [.ref (a 0), .ref (b 0), .int x2, .int x3] (anW z a σ ++ tbW z b ρ) none (anW z a σ' ++ tbW z b ρ) := by
  refine lm_C.of (by decide) rfl (Nat.le_of_ble_eq_true rfl) (own := RX0) rfl ?_
  intro p e s m_ args below meth c C hr hk hA
  have loop_40 : ∀ (n : Nat) (σx : Hp) (x2 : Int32) (x3 : Int32) (x4 : Int32), F_X0_find_L40 n σx ρ x2 x3 x4 = some σ' → lm_St p l e ({ frames := 1, cells := 0, slots := 0, locals := 21 }) s m_ args below meth c D (va_A (anW z a σ ++ tbW z b ρ) s.heap.size) 7 0 0 (lm_End below D none (anW z a σ ++ tbW z b ρ) (anW z a σ' ++ tbW z b ρ) args s) false (anW z a σx ++ tbW z b ρ) 40 [(0, .ref (a 0)), (1, .ref (b 0)), (2, .int x2), (3, .int x3), (4, .int x4)] [] := by
    intro n
    induction n with
    | zero => intro σx x2 x3 x4 hF; cases (show (none : Option _) = some _ from hF)
    | succ n ih =>
      intro σx x2 x3 x4 hF
      rw [F_X0_find_L40] at hF
      refine lm_iload C dX0_find_40 4 rfl rfl ?_
      refine lm_if_lt C (tgt := 123) dX0_find_42 (by decide) rfl (fun c3 => ?_) (fun c3 => ?_)
      · have hF := lm_brt hF c3
        cases hF
        exact lm_vret C hr hk rfl rfl dX0_find_123
      · have hF := lm_brf hF c3
        refine lm_aload_n C dX0_find_45 rfl 1 rfl rfl ?_
        refine lm_iload C dX0_find_46 4 rfl rfl ?_
        obtain ⟨r4, qr4, hF⟩ := lm_bde hF
        refine lm_callVR C (n := 1) (ci := 5) (m_X5_value D z zo l b ρ x4 r4 qr4) gX0_find_X5_value rfl (by decide +kernel) ⟨Nat.le_of_ble_eq_true rfl, Nat.le_of_ble_eq_true rfl⟩ ⟨Nat.le_of_ble_eq_true rfl, Nat.le_of_ble_eq_true rfl⟩ 4 rfl rfl (fun _ h => List.mem_append_right _ h) rfl rfl (Nat.le_of_ble_eq_true rfl) dX0_find_48 (st' := [.int r4]) rfl rfl ?_
        refine lm_istore C (lv' := [(0, .ref (a 0)), (1, .ref (b 0)), (2, .int x2), (3, .int x3), (4, .int x4), (5, .int r4)]) dX0_find_51 (by decide) rfl [1, 2, 3, 4, 5, 0] rfl rfl ?_
        refine lm_aload_n C dX0_find_53 rfl 1 rfl rfl ?_
        refine lm_iload C dX0_find_54 4 rfl rfl ?_
        obtain ⟨r5, qr5, hF⟩ := lm_bde hF
        refine lm_callVR C (n := 1) (ci := 5) (m_X5_key D z zo l b ρ x4 r5 qr5) gX0_find_X5_key rfl (by decide +kernel) ⟨Nat.le_of_ble_eq_true rfl, Nat.le_of_ble_eq_true rfl⟩ ⟨Nat.le_of_ble_eq_true rfl, Nat.le_of_ble_eq_true rfl⟩ 4 rfl rfl (fun _ h => List.mem_append_right _ h) rfl rfl (Nat.le_of_ble_eq_true rfl) dX0_find_56 (st' := [.int r5]) rfl rfl ?_
        refine lm_istore C (lv' := [(0, .ref (a 0)), (1, .ref (b 0)), (2, .int x2), (3, .int x3), (4, .int x4), (5, .int r4), (6, .int r5)]) dX0_find_59 (by decide) rfl [1, 2, 3, 4, 5, 6, 0] rfl rfl ?_
        refine lm_iload C dX0_find_61 6 rfl rfl ?_
        refine lm_if_lt C (tgt := 117) dX0_find_63 (by decide) rfl (fun c6 => ?_) (fun c6 => ?_)
        · have hF := lm_brt hF c6
          refine lm_iinc C (lv' := [(0, .ref (a 0)), (1, .ref (b 0)), (2, .int x2), (3, .int x3), (4, .int (x4 + (-1 : Int32))), (5, .int r4), (6, .int r5)]) (x4 + (-1 : Int32)) dX0_find_117 4 rfl rfl (by decide) rfl [1, 2, 3, 4, 0, 5, 6] rfl rfl ?_
          refine lm_goto C (tgt := 40) dX0_find_120 (by decide) ?_
          refine lm_lvsub (lv' := [(0, .ref (a 0)), (1, .ref (b 0)), (2, .int x2), (3, .int x3), (4, .int (x4 + (-1 : Int32)))]) [0, 1, 2, 3, 4] rfl ?_
          exact ih σx x2 x3 (x4 + (-1 : Int32)) hF
        · have hF := lm_brf hF c6
          refine lm_iload C dX0_find_66 6 rfl rfl ?_
          refine lm_bipush C (v := (10 : Int32)) dX0_find_68 (by decide) rfl ?_
          refine lm_icmp_ge C (tgt := 117) dX0_find_70 (by decide) rfl (fun c7 => ?_) (fun c7 => ?_)
          · have hF := lm_brt hF c7
            refine lm_iinc C (lv' := [(0, .ref (a 0)), (1, .ref (b 0)), (2, .int x2), (3, .int x3), (4, .int (x4 + (-1 : Int32))), (5, .int r4), (6, .int r5)]) (x4 + (-1 : Int32)) dX0_find_117 4 rfl rfl (by decide) rfl [1, 2, 3, 4, 0, 5, 6] rfl rfl ?_
            refine lm_goto C (tgt := 40) dX0_find_120 (by decide) ?_
            refine lm_lvsub (lv' := [(0, .ref (a 0)), (1, .ref (b 0)), (2, .int x2), (3, .int x3), (4, .int (x4 + (-1 : Int32)))]) [0, 1, 2, 3, 4] rfl ?_
            exact ih σx x2 x3 (x4 + (-1 : Int32)) hF
          · have hF := lm_brf hF c7
            refine lm_iload C dX0_find_73 5 rfl rfl ?_
            refine lm_iload_n C dX0_find_75 rfl 2 rfl rfl ?_
            refine lm_icmp_lt C (tgt := 117) dX0_find_76 (by decide) rfl (fun c8 => ?_) (fun c8 => ?_)
            · have hF := lm_brt hF c8
              refine lm_iinc C (lv' := [(0, .ref (a 0)), (1, .ref (b 0)), (2, .int x2), (3, .int x3), (4, .int (x4 + (-1 : Int32))), (5, .int r4), (6, .int r5)]) (x4 + (-1 : Int32)) dX0_find_117 4 rfl rfl (by decide) rfl [1, 2, 3, 4, 0, 5, 6] rfl rfl ?_
              refine lm_goto C (tgt := 40) dX0_find_120 (by decide) ?_
              refine lm_lvsub (lv' := [(0, .ref (a 0)), (1, .ref (b 0)), (2, .int x2), (3, .int x3), (4, .int (x4 + (-1 : Int32)))]) [0, 1, 2, 3, 4] rfl ?_
              exact ih σx x2 x3 (x4 + (-1 : Int32)) hF
            · have hF := lm_brf hF c8
              refine lm_iload C dX0_find_79 5 rfl rfl ?_
              refine lm_iload_n C dX0_find_81 rfl 3 rfl rfl ?_
              refine lm_icmp_gt C (tgt := 117) dX0_find_82 (by decide) rfl (fun c9 => ?_) (fun c9 => ?_)
              · have hF := lm_brt hF c9
                refine lm_iinc C (lv' := [(0, .ref (a 0)), (1, .ref (b 0)), (2, .int x2), (3, .int x3), (4, .int (x4 + (-1 : Int32))), (5, .int r4), (6, .int r5)]) (x4 + (-1 : Int32)) dX0_find_117 4 rfl rfl (by decide) rfl [1, 2, 3, 4, 0, 5, 6] rfl rfl ?_
                refine lm_goto C (tgt := 40) dX0_find_120 (by decide) ?_
                refine lm_lvsub (lv' := [(0, .ref (a 0)), (1, .ref (b 0)), (2, .int x2), (3, .int x3), (4, .int (x4 + (-1 : Int32)))]) [0, 1, 2, 3, 4] rfl ?_
                exact ih σx x2 x3 (x4 + (-1 : Int32)) hF
              · have hF := lm_brf hF c9
                refine lm_aload_n C dX0_find_85 rfl 0 rfl rfl ?_
                refine lm_getf C (T := TX0) (N := 3) (v := .ref (a 1)) in0_X0_find 0 rfl rfl 0 (by decide) fl9_X0_find rfl rfl dX0_find_86 rfl ?_
                refine lm_iload C dX0_find_89 6 rfl rfl ?_
                refine lm_dup2 C dX0_find_91 rfl rfl rfl ?_
                obtain ⟨b10, hF⟩ := lm_gie hF
                refine lm_iald C (v := (σx 1 r5.toNatClampNeg)) 1 rfl b10 rfl dX0_find_92 rfl ?_
                refine lm_iconst C (v := (1 : Int32)) dX0_find_93 (by decide) rfl ?_
                refine lm_iadd C dX0_find_94 rfl rfl ?_
                obtain ⟨b17, hF⟩ := lm_gie hF
                obtain ⟨σ11, eσ11, hF⟩ := lm_lte hF
                refine lm_iast C (w' := (anW z a σ11 ++ tbW z b ρ)) 1 rfl b17 dX0_find_95 (by rw [← eσ11]; rfl) rfl ?_
                refine lm_aload_n C dX0_find_96 rfl 0 rfl rfl ?_
                refine lm_getf C (T := TX0) (N := 3) (v := .ref (a 2)) in0_X0_find 0 rfl rfl 1 (by decide) fl15_X0_find rfl rfl dX0_find_97 rfl ?_
                refine lm_iload C dX0_find_100 6 rfl rfl ?_
                refine lm_dup2 C dX0_find_102 rfl rfl rfl ?_
                obtain ⟨b12, hF⟩ := lm_gie hF
                refine lm_iald C (v := (σ11 2 r5.toNatClampNeg)) 2 rfl b12 rfl dX0_find_103 rfl ?_
                refine lm_iload C dX0_find_104 5 rfl rfl ?_
                refine lm_iadd C dX0_find_106 rfl rfl ?_
                obtain ⟨b16, hF⟩ := lm_gie hF
                obtain ⟨σ13, eσ13, hF⟩ := lm_lte hF
                refine lm_iast C (w' := (anW z a σ13 ++ tbW z b ρ)) 2 rfl b16 dX0_find_107 (by rw [← eσ13]; rfl) rfl ?_
                refine lm_aload_n C dX0_find_108 rfl 0 rfl rfl ?_
                refine lm_getf C (T := TX0) (N := 3) (v := .ref (a 3)) in0_X0_find 0 rfl rfl 2 (by decide) fl18_X0_find rfl rfl dX0_find_109 rfl ?_
                refine lm_iload C dX0_find_112 6 rfl rfl ?_
                refine lm_iload C dX0_find_114 4 rfl rfl ?_
                obtain ⟨b15, hF⟩ := lm_gie hF
                obtain ⟨σ14, eσ14, hF⟩ := lm_lte hF
                refine lm_iast C (w' := (anW z a σ14 ++ tbW z b ρ)) 3 rfl b15 dX0_find_116 (by rw [← eσ14]; rfl) rfl ?_
                refine lm_iinc C (lv' := [(0, .ref (a 0)), (1, .ref (b 0)), (2, .int x2), (3, .int x3), (4, .int (x4 + (-1 : Int32))), (5, .int r4), (6, .int r5)]) (x4 + (-1 : Int32)) dX0_find_117 4 rfl rfl (by decide) rfl [1, 2, 3, 4, 0, 5, 6] rfl rfl ?_
                refine lm_goto C (tgt := 40) dX0_find_120 (by decide) ?_
                refine lm_lvsub (lv' := [(0, .ref (a 0)), (1, .ref (b 0)), (2, .int x2), (3, .int x3), (4, .int (x4 + (-1 : Int32)))]) [0, 1, 2, 3, 4] rfl ?_
                exact ih σ14 x2 x3 (x4 + (-1 : Int32)) hF
  have loop_3 : ∀ (n : Nat) (σx : Hp) (x2 : Int32) (x3 : Int32) (x4 : Int32), F_X0_find_L3 n σx ρ x2 x3 x4 = some σ' → lm_St p l e ({ frames := 1, cells := 0, slots := 0, locals := 21 }) s m_ args below meth c D (va_A (anW z a σ ++ tbW z b ρ) s.heap.size) 7 0 0 (lm_End below D none (anW z a σ ++ tbW z b ρ) (anW z a σ' ++ tbW z b ρ) args s) false (anW z a σx ++ tbW z b ρ) 3 [(0, .ref (a 0)), (1, .ref (b 0)), (2, .int x2), (3, .int x3), (4, .int x4)] [] := by
    intro n
    induction n with
    | zero => intro σx x2 x3 x4 hF; cases (show (none : Option _) = some _ from hF)
    | succ n ih =>
      intro σx x2 x3 x4 hF
      rw [F_X0_find_L3] at hF
      refine lm_iload C dX0_find_3 4 rfl rfl ?_
      refine lm_bipush C (v := (10 : Int32)) dX0_find_5 (by decide) rfl ?_
      refine lm_icmp_ge C (tgt := 32) dX0_find_7 (by decide) rfl (fun c1 => ?_) (fun c1 => ?_)
      · have hF := lm_brt hF c1
        refine lm_aload_n C dX0_find_32 rfl 1 rfl rfl ?_
        obtain ⟨r2, qr2, hF⟩ := lm_bde hF
        refine lm_callVR C (n := 0) (ci := 5) (m_X5_size D z zo l b ρ  r2 qr2) gX0_find_X5_size rfl (by decide +kernel) ⟨Nat.le_of_ble_eq_true rfl, Nat.le_of_ble_eq_true rfl⟩ ⟨Nat.le_of_ble_eq_true rfl, Nat.le_of_ble_eq_true rfl⟩ 4 rfl rfl (fun _ h => List.mem_append_right _ h) rfl rfl (Nat.le_of_ble_eq_true rfl) dX0_find_33 (st' := [.int r2]) rfl rfl ?_
        refine lm_iconst C (v := (1 : Int32)) dX0_find_36 (by decide) rfl ?_
        refine lm_isub C dX0_find_37 rfl rfl ?_
        refine lm_istore C (lv' := [(0, .ref (a 0)), (1, .ref (b 0)), (2, .int x2), (3, .int x3), (4, .int (r2 - (1 : Int32)))]) dX0_find_38 (by decide) rfl [1, 2, 3, 4, 0] rfl rfl ?_
        exact loop_40 1000 σx x2 x3 (r2 - (1 : Int32)) hF
      · have hF := lm_brf hF c1
        refine lm_aload_n C dX0_find_10 rfl 0 rfl rfl ?_
        refine lm_getf C (T := TX0) (N := 3) (v := .ref (a 1)) in0_X0_find 0 rfl rfl 0 (by decide) fl9_X0_find rfl rfl dX0_find_11 rfl ?_
        refine lm_iload C dX0_find_14 4 rfl rfl ?_
        refine lm_iconst C (v := (0 : Int32)) dX0_find_16 (by decide) rfl ?_
        obtain ⟨b21, hF⟩ := lm_gie hF
        obtain ⟨σ18, eσ18, hF⟩ := lm_lte hF
        refine lm_iast C (w' := (anW z a σ18 ++ tbW z b ρ)) 1 rfl b21 dX0_find_17 (by rw [← eσ18]; rfl) rfl ?_
        refine lm_aload_n C dX0_find_18 rfl 0 rfl rfl ?_
        refine lm_getf C (T := TX0) (N := 3) (v := .ref (a 2)) in0_X0_find 0 rfl rfl 1 (by decide) fl15_X0_find rfl rfl dX0_find_19 rfl ?_
        refine lm_iload C dX0_find_22 4 rfl rfl ?_
        refine lm_iconst C (v := (0 : Int32)) dX0_find_24 (by decide) rfl ?_
        obtain ⟨b20, hF⟩ := lm_gie hF
        obtain ⟨σ19, eσ19, hF⟩ := lm_lte hF
        refine lm_iast C (w' := (anW z a σ19 ++ tbW z b ρ)) 2 rfl b20 dX0_find_25 (by rw [← eσ19]; rfl) rfl ?_
        refine lm_iinc C (lv' := [(0, .ref (a 0)), (1, .ref (b 0)), (2, .int x2), (3, .int x3), (4, .int (x4 + (1 : Int32)))]) (x4 + (1 : Int32)) dX0_find_26 4 rfl rfl (by decide) rfl [1, 2, 3, 4, 0] rfl rfl ?_
        refine lm_goto C (tgt := 3) dX0_find_29 (by decide) ?_
        exact ih σ19 x2 x3 (x4 + (1 : Int32)) hF
  show lm_St p l e ({ frames := 1, cells := 0, slots := 0, locals := 21 }) s m_ args below meth c D (va_A (anW z a σ ++ tbW z b ρ) s.heap.size) 7 0 0 (lm_End below D none (anW z a σ ++ tbW z b ρ) (anW z a σ' ++ tbW z b ρ) args s) false (anW z a σ ++ tbW z b ρ) 0 [(0, .ref (a 0)), (1, .ref (b 0)), (2, .int x2), (3, .int x3)] []
  rw [F_X0_find] at hF
  refine lm_iconst C (v := (0 : Int32)) dX0_find_0 (by decide) rfl ?_
  refine lm_istore C (lv' := [(0, .ref (a 0)), (1, .ref (b 0)), (2, .int x2), (3, .int x3), (4, .int (0 : Int32))]) dX0_find_1 (by decide) rfl [1, 2, 3, 4, 0] rfl rfl ?_
  exact loop_3 1000 σ x2 x3 (0 : Int32) hF
def F_X0_weight (σ : Hp) (x1 : Int32) : Option Int32 :=
  lm_br (x1 < 0)
   (some (2 : Int32))
   (lm_br ((10 : Int32) ≤ x1)
    (some (2 : Int32))
    (lm_gi x1 10
    (some ((2 : Int32) + (σ 1 x1.toNatClampNeg)))))
theorem in0_X0_weight : ∀ w ∈ u_ws RX0 TX0 3, w ∈ wsX0_weight := by decide +kernel
theorem fl9_X0_weight : Cond.fieldLink RX0 9 "LoopMemo$Answers" "rows" "[I" ∈ wsX0_weight := by decide +kernel
set_option maxRecDepth 100000 in
set_option maxHeartbeats 4000000 in
theorem m_X0_weight (D : va_G) (z zo : ClassId) (l : Launch) (a : Nat → Nat) (σ : Hp) (x1 : Int32) (r : Int32)  (hF : F_X0_weight σ x1 = some r) : lm_CR D z zo l yX0_weight wsX0_weight 0 0 [.ref (a 0), .int x1] (anW z a σ) (some (.int r)) := by
  refine lm_CR.of (by decide) rfl (Nat.le_of_ble_eq_true rfl) (own := RX0) rfl ?_
  intro p e s m_ args below meth c C hr hk
  show lm_St p l e ({ frames := 0, cells := 0, slots := 0, locals := 0 }) s m_ args below meth c D (fun _ => False) 2 0 0 (lm_EndR below (some (.int r)) args s) true (anW z a σ) 0 [(0, .ref (a 0)), (1, .int x1)] []
  rw [F_X0_weight] at hF
  refine lm_iconst C (v := (2 : Int32)) dX0_weight_0 (by decide) rfl ?_
  refine lm_iload_n C dX0_weight_1 rfl 1 rfl rfl ?_
  refine lm_if_lt C (tgt := 23) dX0_weight_2 (by decide) rfl (fun c1 => ?_) (fun c1 => ?_)
  · have hF := lm_brt hF c1
    refine lm_iconst C (v := (0 : Int32)) dX0_weight_23 (by decide) rfl ?_
    refine lm_iadd C (v := (2 : Int32)) dX0_weight_24 (by decide) rfl ?_
    cases hF
    exact lm_iretR C hr hk rfl dX0_weight_25
  · have hF := lm_brf hF c1
    refine lm_iload_n C dX0_weight_5 rfl 1 rfl rfl ?_
    refine lm_aload_n C dX0_weight_6 rfl 0 rfl rfl ?_
    refine lm_getf C (T := TX0) (N := 3) (v := .ref (a 1)) in0_X0_weight 0 rfl rfl 0 (by decide) fl9_X0_weight rfl rfl dX0_weight_7 rfl ?_
    refine lm_alen C (v := (10 : Int32)) 1 rfl rfl dX0_weight_10 rfl ?_
    refine lm_icmp_ge C (tgt := 23) dX0_weight_11 (by decide) rfl (fun c2 => ?_) (fun c2 => ?_)
    · have hF := lm_brt hF c2
      refine lm_iconst C (v := (0 : Int32)) dX0_weight_23 (by decide) rfl ?_
      refine lm_iadd C (v := (2 : Int32)) dX0_weight_24 (by decide) rfl ?_
      cases hF
      exact lm_iretR C hr hk rfl dX0_weight_25
    · have hF := lm_brf hF c2
      refine lm_aload_n C dX0_weight_14 rfl 0 rfl rfl ?_
      refine lm_getf C (T := TX0) (N := 3) (v := .ref (a 1)) in0_X0_weight 0 rfl rfl 0 (by decide) fl9_X0_weight rfl rfl dX0_weight_15 rfl ?_
      refine lm_iload_n C dX0_weight_18 rfl 1 rfl rfl ?_
      obtain ⟨b3, hF⟩ := lm_gie hF
      refine lm_iald C (v := (σ 1 x1.toNatClampNeg)) 1 rfl b3 rfl dX0_weight_19 rfl ?_
      refine lm_goto C (tgt := 24) dX0_weight_20 (by decide) ?_
      refine lm_iadd C dX0_weight_24 rfl rfl ?_
      cases hF
      exact lm_iretR C hr hk rfl dX0_weight_25
def F_X0_sum (σ : Hp) (x1 : Int32) : Option Int32 :=
  lm_br (x1 < 0)
   (some (0 : Int32))
   (lm_br ((10 : Int32) ≤ x1)
    (some (0 : Int32))
    (lm_gi x1 10
    (some (σ 2 x1.toNatClampNeg))))
theorem in0_X0_sum : ∀ w ∈ u_ws RX0 TX0 3, w ∈ wsX0_sum := by decide +kernel
theorem fl15_X0_sum : Cond.fieldLink RX0 15 "LoopMemo$Answers" "sums" "[I" ∈ wsX0_sum := by decide +kernel
set_option maxRecDepth 100000 in
set_option maxHeartbeats 4000000 in
theorem m_X0_sum (D : va_G) (z zo : ClassId) (l : Launch) (a : Nat → Nat) (σ : Hp) (x1 : Int32) (r : Int32)  (hF : F_X0_sum σ x1 = some r) : lm_CR D z zo l yX0_sum wsX0_sum 0 0 [.ref (a 0), .int x1] (anW z a σ) (some (.int r)) := by
  refine lm_CR.of (by decide) rfl (Nat.le_of_ble_eq_true rfl) (own := RX0) rfl ?_
  intro p e s m_ args below meth c C hr hk
  show lm_St p l e ({ frames := 0, cells := 0, slots := 0, locals := 0 }) s m_ args below meth c D (fun _ => False) 2 0 0 (lm_EndR below (some (.int r)) args s) true (anW z a σ) 0 [(0, .ref (a 0)), (1, .int x1)] []
  rw [F_X0_sum] at hF
  refine lm_iload_n C dX0_sum_0 rfl 1 rfl rfl ?_
  refine lm_if_lt C (tgt := 22) dX0_sum_1 (by decide) rfl (fun c1 => ?_) (fun c1 => ?_)
  · have hF := lm_brt hF c1
    refine lm_iconst C (v := (0 : Int32)) dX0_sum_22 (by decide) rfl ?_
    cases hF
    exact lm_iretR C hr hk rfl dX0_sum_23
  · have hF := lm_brf hF c1
    refine lm_iload_n C dX0_sum_4 rfl 1 rfl rfl ?_
    refine lm_aload_n C dX0_sum_5 rfl 0 rfl rfl ?_
    refine lm_getf C (T := TX0) (N := 3) (v := .ref (a 2)) in0_X0_sum 0 rfl rfl 1 (by decide) fl15_X0_sum rfl rfl dX0_sum_6 rfl ?_
    refine lm_alen C (v := (10 : Int32)) 2 rfl rfl dX0_sum_9 rfl ?_
    refine lm_icmp_ge C (tgt := 22) dX0_sum_10 (by decide) rfl (fun c2 => ?_) (fun c2 => ?_)
    · have hF := lm_brt hF c2
      refine lm_iconst C (v := (0 : Int32)) dX0_sum_22 (by decide) rfl ?_
      cases hF
      exact lm_iretR C hr hk rfl dX0_sum_23
    · have hF := lm_brf hF c2
      refine lm_aload_n C dX0_sum_13 rfl 0 rfl rfl ?_
      refine lm_getf C (T := TX0) (N := 3) (v := .ref (a 2)) in0_X0_sum 0 rfl rfl 1 (by decide) fl15_X0_sum rfl rfl dX0_sum_14 rfl ?_
      refine lm_iload_n C dX0_sum_17 rfl 1 rfl rfl ?_
      obtain ⟨b3, hF⟩ := lm_gie hF
      refine lm_iald C (v := (σ 2 x1.toNatClampNeg)) 2 rfl b3 rfl dX0_sum_18 rfl ?_
      refine lm_goto C (tgt := 23) dX0_sum_19 (by decide) ?_
      cases hF
      exact lm_iretR C hr hk rfl dX0_sum_23
def F_X0_tell (σ : Hp) (x1 x2 : Int32) : Option Int32 :=
  lm_br (x1 < 0)
   (some (-1 : Int32))
   (lm_br (x1 < (10 : Int32))
    (lm_br (x2 = (0 : Int32))
     (lm_gi x1 10
     (some (σ 1 x1.toNatClampNeg)))
     (lm_br (x2 = (1 : Int32))
      (lm_bd (F_X0_weight σ x1) fun r6 =>
      some r6)
      (lm_br (x2 = (2 : Int32))
       (lm_gi x1 10
       (some (σ 2 x1.toNatClampNeg)))
       (lm_gi x1 10
       (lm_br (¬ (σ 1 x1.toNatClampNeg) = 0)
        (lm_gi x1 10
        (some (σ 3 x1.toNatClampNeg)))
        (some (-4 : Int32)))))))
    (some (-1 : Int32)))
theorem in0_X0_tell : ∀ w ∈ u_ws RX0 TX0 3, w ∈ wsX0_tell := by decide +kernel
theorem fl9_X0_tell : Cond.fieldLink RX0 9 "LoopMemo$Answers" "rows" "[I" ∈ wsX0_tell := by decide +kernel
theorem fl15_X0_tell : Cond.fieldLink RX0 15 "LoopMemo$Answers" "sums" "[I" ∈ wsX0_tell := by decide +kernel
theorem fl18_X0_tell : Cond.fieldLink RX0 18 "LoopMemo$Answers" "firstRows" "[I" ∈ wsX0_tell := by decide +kernel
set_option maxRecDepth 100000 in
set_option maxHeartbeats 4000000 in
theorem m_X0_tell (D : va_G) (z zo : ClassId) (l : Launch) (a : Nat → Nat) (σ : Hp) (x1 x2 : Int32) (r : Int32)  (hF : F_X0_tell σ x1 x2 = some r) : lm_CR D z zo l yX0_tell wsX0_tell 1 21 [.ref (a 0), .int x1, .int x2] (anW z a σ) (some (.int r)) := by
  refine lm_CR.of (by decide) rfl (Nat.le_of_ble_eq_true rfl) (own := RX0) rfl ?_
  intro p e s m_ args below meth c C hr hk
  show lm_St p l e ({ frames := 1, cells := 0, slots := 0, locals := 21 }) s m_ args below meth c D (fun _ => False) 3 0 0 (lm_EndR below (some (.int r)) args s) true (anW z a σ) 0 [(0, .ref (a 0)), (1, .int x1), (2, .int x2)] []
  rw [F_X0_tell] at hF
  refine lm_iload_n C dX0_tell_0 rfl 1 rfl rfl ?_
  refine lm_if_lt C (tgt := 10) dX0_tell_1 (by decide) rfl (fun c1 => ?_) (fun c1 => ?_)
  · have hF := lm_brt hF c1
    refine lm_iconst C (v := (-1 : Int32)) dX0_tell_10 (by decide) rfl ?_
    cases hF
    exact lm_iretR C hr hk rfl dX0_tell_11
  · have hF := lm_brf hF c1
    refine lm_iload_n C dX0_tell_4 rfl 1 rfl rfl ?_
    refine lm_bipush C (v := (10 : Int32)) dX0_tell_5 (by decide) rfl ?_
    refine lm_icmp_lt C (tgt := 12) dX0_tell_7 (by decide) rfl (fun c2 => ?_) (fun c2 => ?_)
    · have hF := lm_brt hF c2
      refine lm_iload_n C dX0_tell_12 rfl 2 rfl rfl ?_
      rcases Classical.em (x2 = (0 : Int32)) with c3 | c3
      · have hF := lm_brt hF c3
        refine lm_tableIn C (0 : Int32) (off := 27) (tgt := 40) dX0_tell_13 c3 (by decide) (by decide) (by decide) (by decide) ?_
        refine lm_aload_n C dX0_tell_40 rfl 0 rfl rfl ?_
        refine lm_getf C (T := TX0) (N := 3) (v := .ref (a 1)) in0_X0_tell 0 rfl rfl 0 (by decide) fl9_X0_tell rfl rfl dX0_tell_41 rfl ?_
        refine lm_iload_n C dX0_tell_44 rfl 1 rfl rfl ?_
        obtain ⟨b4, hF⟩ := lm_gie hF
        refine lm_iald C (v := (σ 1 x1.toNatClampNeg)) 1 rfl b4 rfl dX0_tell_45 rfl ?_
        cases hF
        exact lm_iretR C hr hk rfl dX0_tell_46
      · have hF := lm_brf hF c3
        rcases Classical.em (x2 = (1 : Int32)) with c5 | c5
        · have hF := lm_brt hF c5
          refine lm_tableIn C (1 : Int32) (off := 34) (tgt := 47) dX0_tell_13 c5 (by decide) (by decide) (by decide) (by decide) ?_
          refine lm_aload_n C dX0_tell_47 rfl 0 rfl rfl ?_
          refine lm_iload_n C dX0_tell_48 rfl 1 rfl rfl ?_
          obtain ⟨r6, qr6, hF⟩ := lm_bde hF
          refine lm_callVR C (n := 1) (ci := 0) (m_X0_weight D z zo l a σ x1 r6 qr6) gX0_tell_X0_weight rfl (by decide +kernel) ⟨Nat.le_of_ble_eq_true rfl, Nat.le_of_ble_eq_true rfl⟩ ⟨Nat.le_of_ble_eq_true rfl, Nat.le_of_ble_eq_true rfl⟩ 0 rfl rfl (fun _ h => h) rfl rfl (Nat.le_of_ble_eq_true rfl) dX0_tell_49 (st' := [.int r6]) rfl rfl ?_
          cases hF
          exact lm_iretR C hr hk rfl dX0_tell_52
        · have hF := lm_brf hF c5
          rcases Classical.em (x2 = (2 : Int32)) with c7 | c7
          · have hF := lm_brt hF c7
            refine lm_tableIn C (2 : Int32) (off := 40) (tgt := 53) dX0_tell_13 c7 (by decide) (by decide) (by decide) (by decide) ?_
            refine lm_aload_n C dX0_tell_53 rfl 0 rfl rfl ?_
            refine lm_getf C (T := TX0) (N := 3) (v := .ref (a 2)) in0_X0_tell 0 rfl rfl 1 (by decide) fl15_X0_tell rfl rfl dX0_tell_54 rfl ?_
            refine lm_iload_n C dX0_tell_57 rfl 1 rfl rfl ?_
            obtain ⟨b8, hF⟩ := lm_gie hF
            refine lm_iald C (v := (σ 2 x1.toNatClampNeg)) 2 rfl b8 rfl dX0_tell_58 rfl ?_
            cases hF
            exact lm_iretR C hr hk rfl dX0_tell_59
          · have hF := lm_brf hF c7
            refine lm_tableOut C (tgt := 60) dX0_tell_13 (by have nc3 := lv_neT c3 (a := 0) (by decide); have nc5 := lv_neT c5 (a := 1) (by decide); have nc7 := lv_neT c7 (a := 2) (by decide); omega) (by decide) ?_
            refine lm_aload_n C dX0_tell_60 rfl 0 rfl rfl ?_
            refine lm_getf C (T := TX0) (N := 3) (v := .ref (a 1)) in0_X0_tell 0 rfl rfl 0 (by decide) fl9_X0_tell rfl rfl dX0_tell_61 rfl ?_
            refine lm_iload_n C dX0_tell_64 rfl 1 rfl rfl ?_
            obtain ⟨b9, hF⟩ := lm_gie hF
            refine lm_iald C (v := (σ 1 x1.toNatClampNeg)) 1 rfl b9 rfl dX0_tell_65 rfl ?_
            refine lm_if_ne C (tgt := 74) dX0_tell_66 (by decide) rfl (fun c10 => ?_) (fun c10 => ?_)
            · have hF := lm_brt hF c10
              refine lm_aload_n C dX0_tell_74 rfl 0 rfl rfl ?_
              refine lm_getf C (T := TX0) (N := 3) (v := .ref (a 3)) in0_X0_tell 0 rfl rfl 2 (by decide) fl18_X0_tell rfl rfl dX0_tell_75 rfl ?_
              refine lm_iload_n C dX0_tell_78 rfl 1 rfl rfl ?_
              obtain ⟨b11, hF⟩ := lm_gie hF
              refine lm_iald C (v := (σ 3 x1.toNatClampNeg)) 3 rfl b11 rfl dX0_tell_79 rfl ?_
              cases hF
              exact lm_iretR C hr hk rfl dX0_tell_80
            · have hF := lm_brf hF c10
              refine lm_bipush C (v := (-4 : Int32)) dX0_tell_69 (by decide) rfl ?_
              refine lm_goto C (tgt := 80) dX0_tell_71 (by decide) ?_
              cases hF
              exact lm_iretR C hr hk rfl dX0_tell_80
    · have hF := lm_brf hF c2
      refine lm_iconst C (v := (-1 : Int32)) dX0_tell_10 (by decide) rfl ?_
      cases hF
      exact lm_iretR C hr hk rfl dX0_tell_11
end
section
def F_X2_copyFrom (σ : Hp) (ρ : Hp)  : Option (Hp) :=
  lm_lt (lm_ua σ 1 (va_cpy (ρ 1) (σ 1) 0 0 10)) fun σ1 =>
  lm_lt (lm_ua σ1 2 (va_cpy (ρ 2) (σ1 2) 0 0 10)) fun σ2 =>
  lm_lt (lm_ua σ2 3 (va_cpy (ρ 3) (σ2 3) 0 0 10)) fun σ3 =>
  lm_lt (lm_u σ3 0 3 (ρ 0 3)) fun σ4 =>
  some σ4
theorem in2_X2_copyFrom : ∀ w ∈ u_ws RX2 TX2 4, w ∈ wsX2_copyFrom := by decide +kernel
theorem fl9_X2_copyFrom : Cond.fieldLink RX2 9 "LoopMemo$Memo" "uses" "[I" ∈ wsX2_copyFrom := by decide +kernel
theorem fl15_X2_copyFrom : Cond.fieldLink RX2 15 "LoopMemo$Memo" "lastLooks" "[I" ∈ wsX2_copyFrom := by decide +kernel
theorem fl18_X2_copyFrom : Cond.fieldLink RX2 18 "LoopMemo$Memo" "firstLooks" "[I" ∈ wsX2_copyFrom := by decide +kernel
theorem fl25_X2_copyFrom : Cond.fieldLink RX2 25 "LoopMemo$Memo" "looks" "I" ∈ wsX2_copyFrom := by decide +kernel
theorem ini_X6_copyNumbers_X2_copyFrom : Cond.initialized yX6_copyNumbers.cls ∈ wsX2_copyFrom := by decide +kernel
theorem sta_X6_copyNumbers_X2_copyFrom : Cond.static yX6_copyNumbers ∈ wsX2_copyFrom := by decide +kernel
set_option maxRecDepth 100000 in
set_option maxHeartbeats 4000000 in
theorem m_X2_copyFrom (D : va_G) (z zo : ClassId) (l : Launch) (a : Nat → Nat) (b : Nat → Nat) (σ : Hp) (ρ : Hp)   (σ' : Hp) (hF : F_X2_copyFrom σ ρ  = some σ') : lm_C D z zo l yX2_copyFrom wsX2_copyFrom 2 61 [.ref (a 0), .ref (b 0)] (meW z a σ ++ meW z b ρ) none (meW z a σ' ++ meW z b ρ) := by
  refine lm_C.of (by decide) rfl (Nat.le_of_ble_eq_true rfl) (own := RX2) rfl ?_
  intro p e s m_ args below meth c C hr hk hA
  show lm_St p l e ({ frames := 2, cells := 0, slots := 0, locals := 61 }) s m_ args below meth c D (va_A (meW z a σ ++ meW z b ρ) s.heap.size) 2 0 0 (lm_End below D none (meW z a σ ++ meW z b ρ) (meW z a σ' ++ meW z b ρ) args s) false (meW z a σ ++ meW z b ρ) 0 [(0, .ref (a 0)), (1, .ref (b 0))] []
  rw [F_X2_copyFrom] at hF
  refine lm_aload_n C dX2_copyFrom_0 rfl 1 rfl rfl ?_
  refine lm_getf C (T := TX2) (N := 4) (v := .ref (b 1)) in2_X2_copyFrom 4 rfl rfl 0 (by decide) fl9_X2_copyFrom rfl rfl dX2_copyFrom_1 rfl ?_
  refine lm_aload_n C dX2_copyFrom_4 rfl 0 rfl rfl ?_
  refine lm_getf C (T := TX2) (N := 4) (v := .ref (a 1)) in2_X2_copyFrom 0 rfl rfl 0 (by decide) fl9_X2_copyFrom rfl rfl dX2_copyFrom_5 rfl ?_
  obtain ⟨σ1, eσ1, hF⟩ := lm_lte hF
  refine lm_callSN C (n := 2) (w' := (meW z a σ1 ++ meW z b ρ)) (wr := ((meW z a σ ++ meW z b ρ).eraseIdx 5).eraseIdx 1) hA (m_X6_copyNumbers D z zo l (b 1) (a 1) 10 (ρ 1) (σ 1) (by decide)) gX2_copyFrom_X6_copyNumbers_n21 rfl ini_X6_copyNumbers_X2_copyFrom sta_X6_copyNumbers_X2_copyFrom (by decide +kernel) ⟨Nat.le_of_ble_eq_true rfl, Nat.le_of_ble_eq_true rfl⟩ ⟨Nat.le_of_ble_eq_true rfl, Nat.le_of_ble_eq_true rfl⟩ (by decide +kernel) (lm_pick2 (meW z a σ ++ meW z b ρ) 5 1 _ _ rfl rfl) (by rw [← eσ1]; exact lm_pick2' 5 1 rfl rfl rfl) rfl rfl (Nat.le_of_ble_eq_true rfl) dX2_copyFrom_8 (st' := []) rfl rfl ?_
  refine lm_aload_n C dX2_copyFrom_11 rfl 1 rfl rfl ?_
  refine lm_getf C (T := TX2) (N := 4) (v := .ref (b 2)) in2_X2_copyFrom 4 rfl rfl 1 (by decide) fl15_X2_copyFrom rfl rfl dX2_copyFrom_12 rfl ?_
  refine lm_aload_n C dX2_copyFrom_15 rfl 0 rfl rfl ?_
  refine lm_getf C (T := TX2) (N := 4) (v := .ref (a 2)) in2_X2_copyFrom 0 rfl rfl 1 (by decide) fl15_X2_copyFrom rfl rfl dX2_copyFrom_16 rfl ?_
  obtain ⟨σ2, eσ2, hF⟩ := lm_lte hF
  refine lm_callSN C (n := 2) (w' := (meW z a σ2 ++ meW z b ρ)) (wr := ((meW z a σ1 ++ meW z b ρ).eraseIdx 6).eraseIdx 2) hA (m_X6_copyNumbers D z zo l (b 2) (a 2) 10 (ρ 2) (σ1 2) (by decide)) gX2_copyFrom_X6_copyNumbers_n21 rfl ini_X6_copyNumbers_X2_copyFrom sta_X6_copyNumbers_X2_copyFrom (by decide +kernel) ⟨Nat.le_of_ble_eq_true rfl, Nat.le_of_ble_eq_true rfl⟩ ⟨Nat.le_of_ble_eq_true rfl, Nat.le_of_ble_eq_true rfl⟩ (by decide +kernel) (lm_pick2 (meW z a σ1 ++ meW z b ρ) 6 2 _ _ rfl rfl) (by rw [← eσ2]; exact lm_pick2' 6 2 rfl rfl rfl) rfl rfl (Nat.le_of_ble_eq_true rfl) dX2_copyFrom_19 (st' := []) rfl rfl ?_
  refine lm_aload_n C dX2_copyFrom_22 rfl 1 rfl rfl ?_
  refine lm_getf C (T := TX2) (N := 4) (v := .ref (b 3)) in2_X2_copyFrom 4 rfl rfl 2 (by decide) fl18_X2_copyFrom rfl rfl dX2_copyFrom_23 rfl ?_
  refine lm_aload_n C dX2_copyFrom_26 rfl 0 rfl rfl ?_
  refine lm_getf C (T := TX2) (N := 4) (v := .ref (a 3)) in2_X2_copyFrom 0 rfl rfl 2 (by decide) fl18_X2_copyFrom rfl rfl dX2_copyFrom_27 rfl ?_
  obtain ⟨σ3, eσ3, hF⟩ := lm_lte hF
  refine lm_callSN C (n := 2) (w' := (meW z a σ3 ++ meW z b ρ)) (wr := ((meW z a σ2 ++ meW z b ρ).eraseIdx 7).eraseIdx 3) hA (m_X6_copyNumbers D z zo l (b 3) (a 3) 10 (ρ 3) (σ2 3) (by decide)) gX2_copyFrom_X6_copyNumbers_n21 rfl ini_X6_copyNumbers_X2_copyFrom sta_X6_copyNumbers_X2_copyFrom (by decide +kernel) ⟨Nat.le_of_ble_eq_true rfl, Nat.le_of_ble_eq_true rfl⟩ ⟨Nat.le_of_ble_eq_true rfl, Nat.le_of_ble_eq_true rfl⟩ (by decide +kernel) (lm_pick2 (meW z a σ2 ++ meW z b ρ) 7 3 _ _ rfl rfl) (by rw [← eσ3]; exact lm_pick2' 7 3 rfl rfl rfl) rfl rfl (Nat.le_of_ble_eq_true rfl) dX2_copyFrom_30 (st' := []) rfl rfl ?_
  refine lm_aload_n C dX2_copyFrom_33 rfl 0 rfl rfl ?_
  refine lm_aload_n C dX2_copyFrom_34 rfl 1 rfl rfl ?_
  refine lm_getf C (T := TX2) (N := 4) (v := .int (ρ 0 3)) in2_X2_copyFrom 4 rfl rfl 3 (by decide) fl25_X2_copyFrom rfl rfl dX2_copyFrom_35 rfl ?_
  obtain ⟨σ4, eσ4, hF⟩ := lm_lte hF
  refine lm_putf C (T := TX2) (N := 4) (ty := .int) (v := .int (ρ 0 3)) (w' := (meW z a σ4 ++ meW z b ρ)) in2_X2_copyFrom tyX2 tyX2_ok nmX2 0 rfl rfl 3 (by decide) fl25_X2_copyFrom rfl rfl rfl rfl rfl (Nat.le_of_ble_eq_true rfl) dX2_copyFrom_38 (by rw [← eσ4]; rfl) rfl ?_
  cases hF
  exact lm_vret C hr hk rfl rfl dX2_copyFrom_41
def F_X2_holds (σ : Hp) (x1 : Int32) : Option Int32 :=
  lm_br (x1 < 0)
   (some (0 : Int32))
   (lm_br ((10 : Int32) ≤ x1)
    (some (0 : Int32))
    (lm_gi x1 10
    (lm_br ((σ 1 x1.toNatClampNeg) ≤ 0)
     (some (0 : Int32))
     (some (1 : Int32)))))
theorem in2_X2_holds : ∀ w ∈ u_ws RX2 TX2 4, w ∈ wsX2_holds := by decide +kernel
theorem fl9_X2_holds : Cond.fieldLink RX2 9 "LoopMemo$Memo" "uses" "[I" ∈ wsX2_holds := by decide +kernel
set_option maxRecDepth 100000 in
set_option maxHeartbeats 4000000 in
theorem m_X2_holds (D : va_G) (z zo : ClassId) (l : Launch) (a : Nat → Nat) (σ : Hp) (x1 : Int32) (r : Int32)  (hF : F_X2_holds σ x1 = some r) : lm_CR D z zo l yX2_holds wsX2_holds 0 0 [.ref (a 0), .int x1] (meW z a σ) (some (.int r)) := by
  refine lm_CR.of (by decide) rfl (Nat.le_of_ble_eq_true rfl) (own := RX2) rfl ?_
  intro p e s m_ args below meth c C hr hk
  show lm_St p l e ({ frames := 0, cells := 0, slots := 0, locals := 0 }) s m_ args below meth c D (fun _ => False) 2 0 0 (lm_EndR below (some (.int r)) args s) true (meW z a σ) 0 [(0, .ref (a 0)), (1, .int x1)] []
  rw [F_X2_holds] at hF
  refine lm_iload_n C dX2_holds_0 rfl 1 rfl rfl ?_
  refine lm_if_lt C (tgt := 26) dX2_holds_1 (by decide) rfl (fun c1 => ?_) (fun c1 => ?_)
  · have hF := lm_brt hF c1
    refine lm_iconst C (v := (0 : Int32)) dX2_holds_26 (by decide) rfl ?_
    cases hF
    exact lm_zretR C hr hk rfl rfl dX2_holds_27
  · have hF := lm_brf hF c1
    refine lm_iload_n C dX2_holds_4 rfl 1 rfl rfl ?_
    refine lm_aload_n C dX2_holds_5 rfl 0 rfl rfl ?_
    refine lm_getf C (T := TX2) (N := 4) (v := .ref (a 1)) in2_X2_holds 0 rfl rfl 0 (by decide) fl9_X2_holds rfl rfl dX2_holds_6 rfl ?_
    refine lm_alen C (v := (10 : Int32)) 1 rfl rfl dX2_holds_9 rfl ?_
    refine lm_icmp_ge C (tgt := 26) dX2_holds_10 (by decide) rfl (fun c2 => ?_) (fun c2 => ?_)
    · have hF := lm_brt hF c2
      refine lm_iconst C (v := (0 : Int32)) dX2_holds_26 (by decide) rfl ?_
      cases hF
      exact lm_zretR C hr hk rfl rfl dX2_holds_27
    · have hF := lm_brf hF c2
      refine lm_aload_n C dX2_holds_13 rfl 0 rfl rfl ?_
      refine lm_getf C (T := TX2) (N := 4) (v := .ref (a 1)) in2_X2_holds 0 rfl rfl 0 (by decide) fl9_X2_holds rfl rfl dX2_holds_14 rfl ?_
      refine lm_iload_n C dX2_holds_17 rfl 1 rfl rfl ?_
      obtain ⟨b3, hF⟩ := lm_gie hF
      refine lm_iald C (v := (σ 1 x1.toNatClampNeg)) 1 rfl b3 rfl dX2_holds_18 rfl ?_
      refine lm_if_le C (tgt := 26) dX2_holds_19 (by decide) rfl (fun c4 => ?_) (fun c4 => ?_)
      · have hF := lm_brt hF c4
        refine lm_iconst C (v := (0 : Int32)) dX2_holds_26 (by decide) rfl ?_
        cases hF
        exact lm_zretR C hr hk rfl rfl dX2_holds_27
      · have hF := lm_brf hF c4
        refine lm_iconst C (v := (1 : Int32)) dX2_holds_22 (by decide) rfl ?_
        refine lm_goto C (tgt := 27) dX2_holds_23 (by decide) ?_
        cases hF
        exact lm_zretR C hr hk rfl rfl dX2_holds_27
def F_X2_uses (σ : Hp) (x1 : Int32) : Option Int32 :=
  lm_br (x1 < 0)
   (some (0 : Int32))
   (lm_br ((10 : Int32) ≤ x1)
    (some (0 : Int32))
    (lm_gi x1 10
    (some (σ 1 x1.toNatClampNeg))))
theorem in2_X2_uses : ∀ w ∈ u_ws RX2 TX2 4, w ∈ wsX2_uses := by decide +kernel
theorem fl9_X2_uses : Cond.fieldLink RX2 9 "LoopMemo$Memo" "uses" "[I" ∈ wsX2_uses := by decide +kernel
set_option maxRecDepth 100000 in
set_option maxHeartbeats 4000000 in
theorem m_X2_uses (D : va_G) (z zo : ClassId) (l : Launch) (a : Nat → Nat) (σ : Hp) (x1 : Int32) (r : Int32)  (hF : F_X2_uses σ x1 = some r) : lm_CR D z zo l yX2_uses wsX2_uses 0 0 [.ref (a 0), .int x1] (meW z a σ) (some (.int r)) := by
  refine lm_CR.of (by decide) rfl (Nat.le_of_ble_eq_true rfl) (own := RX2) rfl ?_
  intro p e s m_ args below meth c C hr hk
  show lm_St p l e ({ frames := 0, cells := 0, slots := 0, locals := 0 }) s m_ args below meth c D (fun _ => False) 2 0 0 (lm_EndR below (some (.int r)) args s) true (meW z a σ) 0 [(0, .ref (a 0)), (1, .int x1)] []
  rw [F_X2_uses] at hF
  refine lm_iload_n C dX2_uses_0 rfl 1 rfl rfl ?_
  refine lm_if_lt C (tgt := 22) dX2_uses_1 (by decide) rfl (fun c1 => ?_) (fun c1 => ?_)
  · have hF := lm_brt hF c1
    refine lm_iconst C (v := (0 : Int32)) dX2_uses_22 (by decide) rfl ?_
    cases hF
    exact lm_iretR C hr hk rfl dX2_uses_23
  · have hF := lm_brf hF c1
    refine lm_iload_n C dX2_uses_4 rfl 1 rfl rfl ?_
    refine lm_aload_n C dX2_uses_5 rfl 0 rfl rfl ?_
    refine lm_getf C (T := TX2) (N := 4) (v := .ref (a 1)) in2_X2_uses 0 rfl rfl 0 (by decide) fl9_X2_uses rfl rfl dX2_uses_6 rfl ?_
    refine lm_alen C (v := (10 : Int32)) 1 rfl rfl dX2_uses_9 rfl ?_
    refine lm_icmp_ge C (tgt := 22) dX2_uses_10 (by decide) rfl (fun c2 => ?_) (fun c2 => ?_)
    · have hF := lm_brt hF c2
      refine lm_iconst C (v := (0 : Int32)) dX2_uses_22 (by decide) rfl ?_
      cases hF
      exact lm_iretR C hr hk rfl dX2_uses_23
    · have hF := lm_brf hF c2
      refine lm_aload_n C dX2_uses_13 rfl 0 rfl rfl ?_
      refine lm_getf C (T := TX2) (N := 4) (v := .ref (a 1)) in2_X2_uses 0 rfl rfl 0 (by decide) fl9_X2_uses rfl rfl dX2_uses_14 rfl ?_
      refine lm_iload_n C dX2_uses_17 rfl 1 rfl rfl ?_
      obtain ⟨b3, hF⟩ := lm_gie hF
      refine lm_iald C (v := (σ 1 x1.toNatClampNeg)) 1 rfl b3 rfl dX2_uses_18 rfl ?_
      refine lm_goto C (tgt := 23) dX2_uses_19 (by decide) ?_
      cases hF
      exact lm_iretR C hr hk rfl dX2_uses_23
def F_X2_size_L4 : Nat → Hp → Int32 → Int32 → Option Int32
  | 0, _, _, _ => none
  | n + 1, σx, x1, x2 =>
    lm_br ((10 : Int32) ≤ x2)
     (some x1)
     (lm_gi x2 10
     (lm_br ((σx 1 x2.toNatClampNeg) ≤ 0)
      (F_X2_size_L4 n σx (x1 + (0 : Int32)) (x2 + (1 : Int32)))
      (F_X2_size_L4 n σx (x1 + (1 : Int32)) (x2 + (1 : Int32)))))
def F_X2_size (σ : Hp)  : Option Int32 :=
  F_X2_size_L4 1000 σ (0 : Int32) (0 : Int32)
theorem in2_X2_size : ∀ w ∈ u_ws RX2 TX2 4, w ∈ wsX2_size := by decide +kernel
theorem fl9_X2_size : Cond.fieldLink RX2 9 "LoopMemo$Memo" "uses" "[I" ∈ wsX2_size := by decide +kernel
set_option maxRecDepth 100000 in
set_option maxHeartbeats 4000000 in
theorem m_X2_size (D : va_G) (z zo : ClassId) (l : Launch) (a : Nat → Nat) (σ : Hp)  (r : Int32)  (hF : F_X2_size σ  = some r) : lm_CR D z zo l yX2_size wsX2_size 0 0 [.ref (a 0)] (meW z a σ) (some (.int r)) := by
  refine lm_CR.of (by decide) rfl (Nat.le_of_ble_eq_true rfl) (own := RX2) rfl ?_
  intro p e s m_ args below meth c C hr hk
  have loop_4 : ∀ (n : Nat) (σx : Hp) (x1 : Int32) (x2 : Int32), F_X2_size_L4 n σx x1 x2 = some r → lm_St p l e ({ frames := 0, cells := 0, slots := 0, locals := 0 }) s m_ args below meth c D (fun _ => False) 3 0 0 (lm_EndR below (some (.int r)) args s) true (meW z a σx) 4 [(0, .ref (a 0)), (1, .int x1), (2, .int x2)] [] := by
    intro n
    induction n with
    | zero => intro σx x1 x2 hF; cases (show (none : Option _) = some _ from hF)
    | succ n ih =>
      intro σx x1 x2 hF
      rw [F_X2_size_L4] at hF
      refine lm_iload_n C dX2_size_4 rfl 2 rfl rfl ?_
      refine lm_bipush C (v := (10 : Int32)) dX2_size_5 (by decide) rfl ?_
      refine lm_icmp_ge C (tgt := 33) dX2_size_7 (by decide) rfl (fun c1 => ?_) (fun c1 => ?_)
      · have hF := lm_brt hF c1
        refine lm_iload_n C dX2_size_33 rfl 1 rfl rfl ?_
        cases hF
        exact lm_iretR C hr hk rfl dX2_size_34
      · have hF := lm_brf hF c1
        refine lm_iload_n C dX2_size_10 rfl 1 rfl rfl ?_
        refine lm_aload_n C dX2_size_11 rfl 0 rfl rfl ?_
        refine lm_getf C (T := TX2) (N := 4) (v := .ref (a 1)) in2_X2_size 0 rfl rfl 0 (by decide) fl9_X2_size rfl rfl dX2_size_12 rfl ?_
        refine lm_iload_n C dX2_size_15 rfl 2 rfl rfl ?_
        obtain ⟨b2, hF⟩ := lm_gie hF
        refine lm_iald C (v := (σx 1 x2.toNatClampNeg)) 1 rfl b2 rfl dX2_size_16 rfl ?_
        refine lm_if_le C (tgt := 24) dX2_size_17 (by decide) rfl (fun c3 => ?_) (fun c3 => ?_)
        · have hF := lm_brt hF c3
          refine lm_iconst C (v := (0 : Int32)) dX2_size_24 (by decide) rfl ?_
          refine lm_iadd C dX2_size_25 rfl rfl ?_
          refine lm_istore_n C (lv' := [(0, .ref (a 0)), (1, .int (x1 + (0 : Int32))), (2, .int x2)]) dX2_size_26 rfl (by decide) rfl [1, 0, 2] rfl rfl ?_
          refine lm_iinc C (lv' := [(0, .ref (a 0)), (1, .int (x1 + (0 : Int32))), (2, .int (x2 + (1 : Int32)))]) (x2 + (1 : Int32)) dX2_size_27 2 rfl rfl (by decide) rfl [1, 2, 0] rfl rfl ?_
          refine lm_goto C (tgt := 4) dX2_size_30 (by decide) ?_
          exact ih σx (x1 + (0 : Int32)) (x2 + (1 : Int32)) hF
        · have hF := lm_brf hF c3
          refine lm_iconst C (v := (1 : Int32)) dX2_size_20 (by decide) rfl ?_
          refine lm_goto C (tgt := 25) dX2_size_21 (by decide) ?_
          refine lm_iadd C dX2_size_25 rfl rfl ?_
          refine lm_istore_n C (lv' := [(0, .ref (a 0)), (1, .int (x1 + (1 : Int32))), (2, .int x2)]) dX2_size_26 rfl (by decide) rfl [1, 0, 2] rfl rfl ?_
          refine lm_iinc C (lv' := [(0, .ref (a 0)), (1, .int (x1 + (1 : Int32))), (2, .int (x2 + (1 : Int32)))]) (x2 + (1 : Int32)) dX2_size_27 2 rfl rfl (by decide) rfl [1, 2, 0] rfl rfl ?_
          refine lm_goto C (tgt := 4) dX2_size_30 (by decide) ?_
          exact ih σx (x1 + (1 : Int32)) (x2 + (1 : Int32)) hF
  show lm_St p l e ({ frames := 0, cells := 0, slots := 0, locals := 0 }) s m_ args below meth c D (fun _ => False) 3 0 0 (lm_EndR below (some (.int r)) args s) true (meW z a σ) 0 [(0, .ref (a 0))] []
  rw [F_X2_size] at hF
  refine lm_iconst C (v := (0 : Int32)) dX2_size_0 (by decide) rfl ?_
  refine lm_istore_n C (lv' := [(0, .ref (a 0)), (1, .int (0 : Int32))]) dX2_size_1 rfl (by decide) rfl [1, 0] rfl rfl ?_
  refine lm_iconst C (v := (0 : Int32)) dX2_size_2 (by decide) rfl ?_
  refine lm_istore_n C (lv' := [(0, .ref (a 0)), (1, .int (0 : Int32)), (2, .int (0 : Int32))]) dX2_size_3 rfl (by decide) rfl [1, 2, 0] rfl rfl ?_
  exact loop_4 1000 σ (0 : Int32) (0 : Int32) hF
def F_X2_take (σ : Hp) (x1 : Int32) : Option (Hp) :=
  lm_br (x1 < 0)
   (some σ)
   (lm_br ((10 : Int32) ≤ x1)
    (some σ)
    (lm_lt (lm_u σ 0 3 ((σ 0 3) + (1 : Int32))) fun σ3 =>
    lm_gi x1 10
    (lm_lt (lm_u σ3 1 (x1.toNatClampNeg) (1 : Int32)) fun σ4 =>
    lm_gi x1 10
    (lm_lt (lm_u σ4 3 (x1.toNatClampNeg) (σ4 0 3)) fun σ5 =>
    lm_gi x1 10
    (lm_lt (lm_u σ5 2 (x1.toNatClampNeg) (σ5 0 3)) fun σ6 =>
    some σ6)))))
theorem in2_X2_take : ∀ w ∈ u_ws RX2 TX2 4, w ∈ wsX2_take := by decide +kernel
theorem fl25_X2_take : Cond.fieldLink RX2 25 "LoopMemo$Memo" "looks" "I" ∈ wsX2_take := by decide +kernel
theorem fl9_X2_take : Cond.fieldLink RX2 9 "LoopMemo$Memo" "uses" "[I" ∈ wsX2_take := by decide +kernel
theorem fl18_X2_take : Cond.fieldLink RX2 18 "LoopMemo$Memo" "firstLooks" "[I" ∈ wsX2_take := by decide +kernel
theorem fl15_X2_take : Cond.fieldLink RX2 15 "LoopMemo$Memo" "lastLooks" "[I" ∈ wsX2_take := by decide +kernel
set_option maxRecDepth 100000 in
set_option maxHeartbeats 4000000 in
theorem m_X2_take (D : va_G) (z zo : ClassId) (l : Launch) (a : Nat → Nat) (σ : Hp) (x1 : Int32)  (σ' : Hp) (hF : F_X2_take σ x1 = some σ') : lm_C D z zo l yX2_take wsX2_take 0 0 [.ref (a 0), .int x1] (meW z a σ) none (meW z a σ') := by
  refine lm_C.of (by decide) rfl (Nat.le_of_ble_eq_true rfl) (own := RX2) rfl ?_
  intro p e s m_ args below meth c C hr hk hA
  show lm_St p l e ({ frames := 0, cells := 0, slots := 0, locals := 0 }) s m_ args below meth c D (va_A (meW z a σ) s.heap.size) 2 0 0 (lm_End below D none (meW z a σ) (meW z a σ') args s) false (meW z a σ) 0 [(0, .ref (a 0)), (1, .int x1)] []
  rw [F_X2_take] at hF
  refine lm_iload_n C dX2_take_0 rfl 1 rfl rfl ?_
  refine lm_if_lt C (tgt := 47) dX2_take_1 (by decide) rfl (fun c1 => ?_) (fun c1 => ?_)
  · have hF := lm_brt hF c1
    cases hF
    exact lm_vret C hr hk rfl rfl dX2_take_47
  · have hF := lm_brf hF c1
    refine lm_iload_n C dX2_take_4 rfl 1 rfl rfl ?_
    refine lm_bipush C (v := (10 : Int32)) dX2_take_5 (by decide) rfl ?_
    refine lm_icmp_ge C (tgt := 47) dX2_take_7 (by decide) rfl (fun c2 => ?_) (fun c2 => ?_)
    · have hF := lm_brt hF c2
      cases hF
      exact lm_vret C hr hk rfl rfl dX2_take_47
    · have hF := lm_brf hF c2
      refine lm_aload_n C dX2_take_10 rfl 0 rfl rfl ?_
      refine lm_dup C dX2_take_11 rfl rfl ?_
      refine lm_getf C (T := TX2) (N := 4) (v := .int (σ 0 3)) in2_X2_take 0 rfl rfl 3 (by decide) fl25_X2_take rfl rfl dX2_take_12 rfl ?_
      refine lm_iconst C (v := (1 : Int32)) dX2_take_15 (by decide) rfl ?_
      refine lm_iadd C dX2_take_16 rfl rfl ?_
      obtain ⟨σ3, eσ3, hF⟩ := lm_lte hF
      refine lm_putf C (T := TX2) (N := 4) (ty := .int) (v := .int ((σ 0 3) + (1 : Int32))) (w' := (meW z a σ3)) in2_X2_take tyX2 tyX2_ok nmX2 0 rfl rfl 3 (by decide) fl25_X2_take rfl rfl rfl rfl rfl (Nat.le_of_ble_eq_true rfl) dX2_take_17 (by rw [← eσ3]; rfl) rfl ?_
      refine lm_aload_n C dX2_take_20 rfl 0 rfl rfl ?_
      refine lm_getf C (T := TX2) (N := 4) (v := .ref (a 1)) in2_X2_take 0 rfl rfl 0 (by decide) fl9_X2_take rfl rfl dX2_take_21 rfl ?_
      refine lm_iload_n C dX2_take_24 rfl 1 rfl rfl ?_
      refine lm_iconst C (v := (1 : Int32)) dX2_take_25 (by decide) rfl ?_
      obtain ⟨b9, hF⟩ := lm_gie hF
      obtain ⟨σ4, eσ4, hF⟩ := lm_lte hF
      refine lm_iast C (w' := (meW z a σ4)) 1 rfl b9 dX2_take_26 (by rw [← eσ4]; rfl) rfl ?_
      refine lm_aload_n C dX2_take_27 rfl 0 rfl rfl ?_
      refine lm_getf C (T := TX2) (N := 4) (v := .ref (a 3)) in2_X2_take 0 rfl rfl 2 (by decide) fl18_X2_take rfl rfl dX2_take_28 rfl ?_
      refine lm_iload_n C dX2_take_31 rfl 1 rfl rfl ?_
      refine lm_aload_n C dX2_take_32 rfl 0 rfl rfl ?_
      refine lm_getf C (T := TX2) (N := 4) (v := .int (σ4 0 3)) in2_X2_take 0 rfl rfl 3 (by decide) fl25_X2_take rfl rfl dX2_take_33 rfl ?_
      obtain ⟨b8, hF⟩ := lm_gie hF
      obtain ⟨σ5, eσ5, hF⟩ := lm_lte hF
      refine lm_iast C (w' := (meW z a σ5)) 3 rfl b8 dX2_take_36 (by rw [← eσ5]; rfl) rfl ?_
      refine lm_aload_n C dX2_take_37 rfl 0 rfl rfl ?_
      refine lm_getf C (T := TX2) (N := 4) (v := .ref (a 2)) in2_X2_take 0 rfl rfl 1 (by decide) fl15_X2_take rfl rfl dX2_take_38 rfl ?_
      refine lm_iload_n C dX2_take_41 rfl 1 rfl rfl ?_
      refine lm_aload_n C dX2_take_42 rfl 0 rfl rfl ?_
      refine lm_getf C (T := TX2) (N := 4) (v := .int (σ5 0 3)) in2_X2_take 0 rfl rfl 3 (by decide) fl25_X2_take rfl rfl dX2_take_43 rfl ?_
      obtain ⟨b7, hF⟩ := lm_gie hF
      obtain ⟨σ6, eσ6, hF⟩ := lm_lte hF
      refine lm_iast C (w' := (meW z a σ6)) 2 rfl b7 dX2_take_46 (by rw [← eσ6]; rfl) rfl ?_
      cases hF
      exact lm_vret C hr hk rfl rfl dX2_take_47
def F_X2_touch (σ : Hp) (x1 : Int32) : Option (Hp) :=
  lm_br (x1 < 0)
   (some σ)
   (lm_br ((10 : Int32) ≤ x1)
    (some σ)
    (lm_lt (lm_u σ 0 3 ((σ 0 3) + (1 : Int32))) fun σ3 =>
    lm_gi x1 10
    (lm_gi x1 10
    (lm_lt (lm_u σ3 1 (x1.toNatClampNeg) ((σ3 1 x1.toNatClampNeg) + (1 : Int32))) fun σ5 =>
    lm_gi x1 10
    (lm_lt (lm_u σ5 2 (x1.toNatClampNeg) (σ5 0 3)) fun σ6 =>
    some σ6)))))
theorem in2_X2_touch : ∀ w ∈ u_ws RX2 TX2 4, w ∈ wsX2_touch := by decide +kernel
theorem fl25_X2_touch : Cond.fieldLink RX2 25 "LoopMemo$Memo" "looks" "I" ∈ wsX2_touch := by decide +kernel
theorem fl9_X2_touch : Cond.fieldLink RX2 9 "LoopMemo$Memo" "uses" "[I" ∈ wsX2_touch := by decide +kernel
theorem fl15_X2_touch : Cond.fieldLink RX2 15 "LoopMemo$Memo" "lastLooks" "[I" ∈ wsX2_touch := by decide +kernel
set_option maxRecDepth 100000 in
set_option maxHeartbeats 4000000 in
theorem m_X2_touch (D : va_G) (z zo : ClassId) (l : Launch) (a : Nat → Nat) (σ : Hp) (x1 : Int32)  (σ' : Hp) (hF : F_X2_touch σ x1 = some σ') : lm_C D z zo l yX2_touch wsX2_touch 0 0 [.ref (a 0), .int x1] (meW z a σ) none (meW z a σ') := by
  refine lm_C.of (by decide) rfl (Nat.le_of_ble_eq_true rfl) (own := RX2) rfl ?_
  intro p e s m_ args below meth c C hr hk hA
  show lm_St p l e ({ frames := 0, cells := 0, slots := 0, locals := 0 }) s m_ args below meth c D (va_A (meW z a σ) s.heap.size) 2 0 0 (lm_End below D none (meW z a σ) (meW z a σ') args s) false (meW z a σ) 0 [(0, .ref (a 0)), (1, .int x1)] []
  rw [F_X2_touch] at hF
  refine lm_iload_n C dX2_touch_0 rfl 1 rfl rfl ?_
  refine lm_if_lt C (tgt := 40) dX2_touch_1 (by decide) rfl (fun c1 => ?_) (fun c1 => ?_)
  · have hF := lm_brt hF c1
    cases hF
    exact lm_vret C hr hk rfl rfl dX2_touch_40
  · have hF := lm_brf hF c1
    refine lm_iload_n C dX2_touch_4 rfl 1 rfl rfl ?_
    refine lm_bipush C (v := (10 : Int32)) dX2_touch_5 (by decide) rfl ?_
    refine lm_icmp_ge C (tgt := 40) dX2_touch_7 (by decide) rfl (fun c2 => ?_) (fun c2 => ?_)
    · have hF := lm_brt hF c2
      cases hF
      exact lm_vret C hr hk rfl rfl dX2_touch_40
    · have hF := lm_brf hF c2
      refine lm_aload_n C dX2_touch_10 rfl 0 rfl rfl ?_
      refine lm_dup C dX2_touch_11 rfl rfl ?_
      refine lm_getf C (T := TX2) (N := 4) (v := .int (σ 0 3)) in2_X2_touch 0 rfl rfl 3 (by decide) fl25_X2_touch rfl rfl dX2_touch_12 rfl ?_
      refine lm_iconst C (v := (1 : Int32)) dX2_touch_15 (by decide) rfl ?_
      refine lm_iadd C dX2_touch_16 rfl rfl ?_
      obtain ⟨σ3, eσ3, hF⟩ := lm_lte hF
      refine lm_putf C (T := TX2) (N := 4) (ty := .int) (v := .int ((σ 0 3) + (1 : Int32))) (w' := (meW z a σ3)) in2_X2_touch tyX2 tyX2_ok nmX2 0 rfl rfl 3 (by decide) fl25_X2_touch rfl rfl rfl rfl rfl (Nat.le_of_ble_eq_true rfl) dX2_touch_17 (by rw [← eσ3]; rfl) rfl ?_
      refine lm_aload_n C dX2_touch_20 rfl 0 rfl rfl ?_
      refine lm_getf C (T := TX2) (N := 4) (v := .ref (a 1)) in2_X2_touch 0 rfl rfl 0 (by decide) fl9_X2_touch rfl rfl dX2_touch_21 rfl ?_
      refine lm_iload_n C dX2_touch_24 rfl 1 rfl rfl ?_
      refine lm_dup2 C dX2_touch_25 rfl rfl rfl ?_
      obtain ⟨b4, hF⟩ := lm_gie hF
      refine lm_iald C (v := (σ3 1 x1.toNatClampNeg)) 1 rfl b4 rfl dX2_touch_26 rfl ?_
      refine lm_iconst C (v := (1 : Int32)) dX2_touch_27 (by decide) rfl ?_
      refine lm_iadd C dX2_touch_28 rfl rfl ?_
      obtain ⟨b8, hF⟩ := lm_gie hF
      obtain ⟨σ5, eσ5, hF⟩ := lm_lte hF
      refine lm_iast C (w' := (meW z a σ5)) 1 rfl b8 dX2_touch_29 (by rw [← eσ5]; rfl) rfl ?_
      refine lm_aload_n C dX2_touch_30 rfl 0 rfl rfl ?_
      refine lm_getf C (T := TX2) (N := 4) (v := .ref (a 2)) in2_X2_touch 0 rfl rfl 1 (by decide) fl15_X2_touch rfl rfl dX2_touch_31 rfl ?_
      refine lm_iload_n C dX2_touch_34 rfl 1 rfl rfl ?_
      refine lm_aload_n C dX2_touch_35 rfl 0 rfl rfl ?_
      refine lm_getf C (T := TX2) (N := 4) (v := .int (σ5 0 3)) in2_X2_touch 0 rfl rfl 3 (by decide) fl25_X2_touch rfl rfl dX2_touch_36 rfl ?_
      obtain ⟨b7, hF⟩ := lm_gie hF
      obtain ⟨σ6, eσ6, hF⟩ := lm_lte hF
      refine lm_iast C (w' := (meW z a σ6)) 2 rfl b7 dX2_touch_39 (by rw [← eσ6]; rfl) rfl ?_
      cases hF
      exact lm_vret C hr hk rfl rfl dX2_touch_40
def F_X2_lose (σ : Hp) (x1 : Int32) : Option (Hp) :=
  lm_br (x1 < 0)
   (some σ)
   (lm_br ((10 : Int32) ≤ x1)
    (some σ)
    (lm_gi x1 10
    (lm_lt (lm_u σ 1 (x1.toNatClampNeg) (0 : Int32)) fun σ3 =>
    some σ3)))
theorem in2_X2_lose : ∀ w ∈ u_ws RX2 TX2 4, w ∈ wsX2_lose := by decide +kernel
theorem fl9_X2_lose : Cond.fieldLink RX2 9 "LoopMemo$Memo" "uses" "[I" ∈ wsX2_lose := by decide +kernel
set_option maxRecDepth 100000 in
set_option maxHeartbeats 4000000 in
theorem m_X2_lose (D : va_G) (z zo : ClassId) (l : Launch) (a : Nat → Nat) (σ : Hp) (x1 : Int32)  (σ' : Hp) (hF : F_X2_lose σ x1 = some σ') : lm_C D z zo l yX2_lose wsX2_lose 0 0 [.ref (a 0), .int x1] (meW z a σ) none (meW z a σ') := by
  refine lm_C.of (by decide) rfl (Nat.le_of_ble_eq_true rfl) (own := RX2) rfl ?_
  intro p e s m_ args below meth c C hr hk hA
  show lm_St p l e ({ frames := 0, cells := 0, slots := 0, locals := 0 }) s m_ args below meth c D (va_A (meW z a σ) s.heap.size) 2 0 0 (lm_End below D none (meW z a σ) (meW z a σ') args s) false (meW z a σ) 0 [(0, .ref (a 0)), (1, .int x1)] []
  rw [F_X2_lose] at hF
  refine lm_iload_n C dX2_lose_0 rfl 1 rfl rfl ?_
  refine lm_if_lt C (tgt := 20) dX2_lose_1 (by decide) rfl (fun c1 => ?_) (fun c1 => ?_)
  · have hF := lm_brt hF c1
    cases hF
    exact lm_vret C hr hk rfl rfl dX2_lose_20
  · have hF := lm_brf hF c1
    refine lm_iload_n C dX2_lose_4 rfl 1 rfl rfl ?_
    refine lm_aload_n C dX2_lose_5 rfl 0 rfl rfl ?_
    refine lm_getf C (T := TX2) (N := 4) (v := .ref (a 1)) in2_X2_lose 0 rfl rfl 0 (by decide) fl9_X2_lose rfl rfl dX2_lose_6 rfl ?_
    refine lm_alen C (v := (10 : Int32)) 1 rfl rfl dX2_lose_9 rfl ?_
    refine lm_icmp_ge C (tgt := 20) dX2_lose_10 (by decide) rfl (fun c2 => ?_) (fun c2 => ?_)
    · have hF := lm_brt hF c2
      cases hF
      exact lm_vret C hr hk rfl rfl dX2_lose_20
    · have hF := lm_brf hF c2
      refine lm_aload_n C dX2_lose_13 rfl 0 rfl rfl ?_
      refine lm_getf C (T := TX2) (N := 4) (v := .ref (a 1)) in2_X2_lose 0 rfl rfl 0 (by decide) fl9_X2_lose rfl rfl dX2_lose_14 rfl ?_
      refine lm_iload_n C dX2_lose_17 rfl 1 rfl rfl ?_
      refine lm_iconst C (v := (0 : Int32)) dX2_lose_18 (by decide) rfl ?_
      obtain ⟨b4, hF⟩ := lm_gie hF
      obtain ⟨σ3, eσ3, hF⟩ := lm_lte hF
      refine lm_iast C (w' := (meW z a σ3)) 1 rfl b4 dX2_lose_19 (by rw [← eσ3]; rfl) rfl ?_
      cases hF
      exact lm_vret C hr hk rfl rfl dX2_lose_20
def F_X2_loseAll_L7 : Nat → Hp → Int32 → Int32 → Option (Int32 × (Hp))
  | 0, _, _, _ => none
  | n + 1, σx, x1, x2 =>
    lm_br ((10 : Int32) ≤ x2)
     (some (x1, σx))
     (lm_gi x2 10
     (lm_lt (lm_u σx 1 (x2.toNatClampNeg) (0 : Int32)) fun σ3 =>
     F_X2_loseAll_L7 n σ3 x1 (x2 + (1 : Int32))))
def F_X2_loseAll (σ : Hp)  : Option (Int32 × (Hp)) :=
  lm_bd (F_X2_size σ) fun r1 =>
  F_X2_loseAll_L7 1000 σ r1 (0 : Int32)
theorem in2_X2_loseAll : ∀ w ∈ u_ws RX2 TX2 4, w ∈ wsX2_loseAll := by decide +kernel
theorem fl9_X2_loseAll : Cond.fieldLink RX2 9 "LoopMemo$Memo" "uses" "[I" ∈ wsX2_loseAll := by decide +kernel
set_option maxRecDepth 100000 in
set_option maxHeartbeats 4000000 in
theorem m_X2_loseAll (D : va_G) (z zo : ClassId) (l : Launch) (a : Nat → Nat) (σ : Hp)  (r : Int32) (σ' : Hp) (hF : F_X2_loseAll σ  = some (r, σ')) : lm_C D z zo l yX2_loseAll wsX2_loseAll 1 22 [.ref (a 0)] (meW z a σ) (some (.int r)) (meW z a σ') := by
  refine lm_C.of (by decide) rfl (Nat.le_of_ble_eq_true rfl) (own := RX2) rfl ?_
  intro p e s m_ args below meth c C hr hk hA
  have loop_7 : ∀ (n : Nat) (σx : Hp) (x1 : Int32) (x2 : Int32), F_X2_loseAll_L7 n σx x1 x2 = some (r, σ') → lm_St p l e ({ frames := 1, cells := 0, slots := 0, locals := 22 }) s m_ args below meth c D (va_A (meW z a σ) s.heap.size) 3 0 0 (lm_End below D (some (.int r)) (meW z a σ) (meW z a σ') args s) false (meW z a σx) 7 [(0, .ref (a 0)), (1, .int x1), (2, .int x2)] [] := by
    intro n
    induction n with
    | zero => intro σx x1 x2 hF; cases (show (none : Option _) = some _ from hF)
    | succ n ih =>
      intro σx x1 x2 hF
      rw [F_X2_loseAll_L7] at hF
      refine lm_iload_n C dX2_loseAll_7 rfl 2 rfl rfl ?_
      refine lm_bipush C (v := (10 : Int32)) dX2_loseAll_8 (by decide) rfl ?_
      refine lm_icmp_ge C (tgt := 26) dX2_loseAll_10 (by decide) rfl (fun c2 => ?_) (fun c2 => ?_)
      · have hF := lm_brt hF c2
        refine lm_iload_n C dX2_loseAll_26 rfl 1 rfl rfl ?_
        cases hF
        exact lm_iret C hr hk rfl rfl dX2_loseAll_27
      · have hF := lm_brf hF c2
        refine lm_aload_n C dX2_loseAll_13 rfl 0 rfl rfl ?_
        refine lm_getf C (T := TX2) (N := 4) (v := .ref (a 1)) in2_X2_loseAll 0 rfl rfl 0 (by decide) fl9_X2_loseAll rfl rfl dX2_loseAll_14 rfl ?_
        refine lm_iload_n C dX2_loseAll_17 rfl 2 rfl rfl ?_
        refine lm_iconst C (v := (0 : Int32)) dX2_loseAll_18 (by decide) rfl ?_
        obtain ⟨b4, hF⟩ := lm_gie hF
        obtain ⟨σ3, eσ3, hF⟩ := lm_lte hF
        refine lm_iast C (w' := (meW z a σ3)) 1 rfl b4 dX2_loseAll_19 (by rw [← eσ3]; rfl) rfl ?_
        refine lm_iinc C (lv' := [(0, .ref (a 0)), (1, .int x1), (2, .int (x2 + (1 : Int32)))]) (x2 + (1 : Int32)) dX2_loseAll_20 2 rfl rfl (by decide) rfl [1, 2, 0] rfl rfl ?_
        refine lm_goto C (tgt := 7) dX2_loseAll_23 (by decide) ?_
        exact ih σ3 x1 (x2 + (1 : Int32)) hF
  show lm_St p l e ({ frames := 1, cells := 0, slots := 0, locals := 22 }) s m_ args below meth c D (va_A (meW z a σ) s.heap.size) 3 0 0 (lm_End below D (some (.int r)) (meW z a σ) (meW z a σ') args s) false (meW z a σ) 0 [(0, .ref (a 0))] []
  rw [F_X2_loseAll] at hF
  refine lm_aload_n C dX2_loseAll_0 rfl 0 rfl rfl ?_
  obtain ⟨r1, qr1, hF⟩ := lm_bde hF
  refine lm_callVR C (n := 0) (ci := 2) (m_X2_size D z zo l a σ  r1 qr1) gX2_loseAll_X2_size rfl (by decide +kernel) ⟨Nat.le_of_ble_eq_true rfl, Nat.le_of_ble_eq_true rfl⟩ ⟨Nat.le_of_ble_eq_true rfl, Nat.le_of_ble_eq_true rfl⟩ 0 rfl rfl (fun _ h => h) rfl rfl (Nat.le_of_ble_eq_true rfl) dX2_loseAll_1 (st' := [.int r1]) rfl rfl ?_
  refine lm_istore_n C (lv' := [(0, .ref (a 0)), (1, .int r1)]) dX2_loseAll_4 rfl (by decide) rfl [1, 0] rfl rfl ?_
  refine lm_iconst C (v := (0 : Int32)) dX2_loseAll_5 (by decide) rfl ?_
  refine lm_istore_n C (lv' := [(0, .ref (a 0)), (1, .int r1), (2, .int (0 : Int32))]) dX2_loseAll_6 rfl (by decide) rfl [1, 2, 0] rfl rfl ?_
  exact loop_7 1000 σ r1 (0 : Int32) hF
def F_X2_rank (σ : Hp) (x1 x2 : Int32) : Option Int64 :=
  lm_br (x1 < 0)
   (some (0 : Int64))
   (lm_br (x1 < (10 : Int32))
    (lm_br (¬ x2 = (2 : Int32))
     (lm_br (¬ x2 = (1 : Int32))
      (lm_gi x1 10
      (some ((0 : Int64) + ((σ 2 x1.toNatClampNeg)).toInt64)))
      (lm_gi x1 10
      (lm_gi x1 10
      (some ((((σ 1 x1.toNatClampNeg)).toInt64 <<< (((32 : Int32)).toInt64 &&& 63)) + ((σ 2 x1.toNatClampNeg)).toInt64)))))
     (lm_gi x1 10
     (some ((σ 3 x1.toNatClampNeg)).toInt64)))
    (some (0 : Int64)))
theorem in2_X2_rank : ∀ w ∈ u_ws RX2 TX2 4, w ∈ wsX2_rank := by decide +kernel
theorem fl15_X2_rank : Cond.fieldLink RX2 15 "LoopMemo$Memo" "lastLooks" "[I" ∈ wsX2_rank := by decide +kernel
theorem fl9_X2_rank : Cond.fieldLink RX2 9 "LoopMemo$Memo" "uses" "[I" ∈ wsX2_rank := by decide +kernel
theorem fl18_X2_rank : Cond.fieldLink RX2 18 "LoopMemo$Memo" "firstLooks" "[I" ∈ wsX2_rank := by decide +kernel
set_option maxRecDepth 100000 in
set_option maxHeartbeats 4000000 in
theorem m_X2_rank (D : va_G) (z zo : ClassId) (l : Launch) (a : Nat → Nat) (σ : Hp) (x1 x2 : Int32) (r : Int64)  (hF : F_X2_rank σ x1 x2 = some r) : lm_CR D z zo l yX2_rank wsX2_rank 0 0 [.ref (a 0), .int x1, .int x2] (meW z a σ) (some (.long r)) := by
  refine lm_CR.of (by decide) rfl (Nat.le_of_ble_eq_true rfl) (own := RX2) rfl ?_
  intro p e s m_ args below meth c C hr hk
  show lm_St p l e ({ frames := 0, cells := 0, slots := 0, locals := 0 }) s m_ args below meth c D (fun _ => False) 3 0 0 (lm_EndR below (some (.long r)) args s) true (meW z a σ) 0 [(0, .ref (a 0)), (1, .int x1), (2, .int x2)] []
  rw [F_X2_rank] at hF
  refine lm_iload_n C dX2_rank_0 rfl 1 rfl rfl ?_
  refine lm_if_lt C (tgt := 10) dX2_rank_1 (by decide) rfl (fun c1 => ?_) (fun c1 => ?_)
  · have hF := lm_brt hF c1
    refine lm_lconst C (v := (0 : Int64)) dX2_rank_10 (by decide) rfl ?_
    cases hF
    exact lm_lretR C hr hk rfl dX2_rank_11
  · have hF := lm_brf hF c1
    refine lm_iload_n C dX2_rank_4 rfl 1 rfl rfl ?_
    refine lm_bipush C (v := (10 : Int32)) dX2_rank_5 (by decide) rfl ?_
    refine lm_icmp_lt C (tgt := 12) dX2_rank_7 (by decide) rfl (fun c2 => ?_) (fun c2 => ?_)
    · have hF := lm_brt hF c2
      refine lm_iload_n C dX2_rank_12 rfl 2 rfl rfl ?_
      refine lm_iconst C (v := (2 : Int32)) dX2_rank_13 (by decide) rfl ?_
      refine lm_icmp_ne C (tgt := 25) dX2_rank_14 (by decide) rfl (fun c3 => ?_) (fun c3 => ?_)
      · have hF := lm_brt hF c3
        refine lm_iload_n C dX2_rank_25 rfl 2 rfl rfl ?_
        refine lm_iconst C (v := (1 : Int32)) dX2_rank_26 (by decide) rfl ?_
        refine lm_icmp_ne C (tgt := 43) dX2_rank_27 (by decide) rfl (fun c4 => ?_) (fun c4 => ?_)
        · have hF := lm_brt hF c4
          refine lm_lconst C (v := (0 : Int64)) dX2_rank_43 (by decide) rfl ?_
          refine lm_aload_n C dX2_rank_44 rfl 0 rfl rfl ?_
          refine lm_getf C (T := TX2) (N := 4) (v := .ref (a 2)) in2_X2_rank 0 rfl rfl 1 (by decide) fl15_X2_rank rfl rfl dX2_rank_45 rfl ?_
          refine lm_iload_n C dX2_rank_48 rfl 1 rfl rfl ?_
          obtain ⟨b5, hF⟩ := lm_gie hF
          refine lm_iald C (v := (σ 2 x1.toNatClampNeg)) 2 rfl b5 rfl dX2_rank_49 rfl ?_
          refine lm_i2l C dX2_rank_50 rfl rfl ?_
          refine lm_ladd C dX2_rank_51 rfl rfl ?_
          cases hF
          exact lm_lretR C hr hk rfl dX2_rank_52
        · have hF := lm_brf hF c4
          refine lm_aload_n C dX2_rank_30 rfl 0 rfl rfl ?_
          refine lm_getf C (T := TX2) (N := 4) (v := .ref (a 1)) in2_X2_rank 0 rfl rfl 0 (by decide) fl9_X2_rank rfl rfl dX2_rank_31 rfl ?_
          refine lm_iload_n C dX2_rank_34 rfl 1 rfl rfl ?_
          obtain ⟨b6, hF⟩ := lm_gie hF
          refine lm_iald C (v := (σ 1 x1.toNatClampNeg)) 1 rfl b6 rfl dX2_rank_35 rfl ?_
          refine lm_i2l C dX2_rank_36 rfl rfl ?_
          refine lm_bipush C (v := (32 : Int32)) dX2_rank_37 (by decide) rfl ?_
          refine lm_lshl C dX2_rank_39 rfl rfl ?_
          refine lm_goto C (tgt := 44) dX2_rank_40 (by decide) ?_
          refine lm_aload_n C dX2_rank_44 rfl 0 rfl rfl ?_
          refine lm_getf C (T := TX2) (N := 4) (v := .ref (a 2)) in2_X2_rank 0 rfl rfl 1 (by decide) fl15_X2_rank rfl rfl dX2_rank_45 rfl ?_
          refine lm_iload_n C dX2_rank_48 rfl 1 rfl rfl ?_
          obtain ⟨b7, hF⟩ := lm_gie hF
          refine lm_iald C (v := (σ 2 x1.toNatClampNeg)) 2 rfl b7 rfl dX2_rank_49 rfl ?_
          refine lm_i2l C dX2_rank_50 rfl rfl ?_
          refine lm_ladd C dX2_rank_51 rfl rfl ?_
          cases hF
          exact lm_lretR C hr hk rfl dX2_rank_52
      · have hF := lm_brf hF c3
        refine lm_aload_n C dX2_rank_17 rfl 0 rfl rfl ?_
        refine lm_getf C (T := TX2) (N := 4) (v := .ref (a 3)) in2_X2_rank 0 rfl rfl 2 (by decide) fl18_X2_rank rfl rfl dX2_rank_18 rfl ?_
        refine lm_iload_n C dX2_rank_21 rfl 1 rfl rfl ?_
        obtain ⟨b8, hF⟩ := lm_gie hF
        refine lm_iald C (v := (σ 3 x1.toNatClampNeg)) 3 rfl b8 rfl dX2_rank_22 rfl ?_
        refine lm_i2l C dX2_rank_23 rfl rfl ?_
        cases hF
        exact lm_lretR C hr hk rfl dX2_rank_24
    · have hF := lm_brf hF c2
      refine lm_lconst C (v := (0 : Int64)) dX2_rank_10 (by decide) rfl ?_
      cases hF
      exact lm_lretR C hr hk rfl dX2_rank_11
def F_X2_firstOut_L5 : Nat → Hp → Int32 → Int32 → Int32 → Int32 → Option Int32
  | 0, _, _, _, _, _ => none
  | n + 1, σx, x1, x2, x3, x4 =>
    lm_br ((10 : Int32) ≤ x4)
     (some x3)
     (lm_gi x4 10
     (lm_br ((σx 1 x4.toNatClampNeg) ≤ 0)
      (F_X2_firstOut_L5 n σx x1 x2 x3 (x4 + (1 : Int32)))
      (lm_br (x4 = x2)
       (F_X2_firstOut_L5 n σx x1 x2 x3 (x4 + (1 : Int32)))
       (lm_br (x3 = (-1 : Int32))
        (F_X2_firstOut_L5 n σx x1 x2 x4 (x4 + (1 : Int32)))
        (lm_bd (F_X2_rank σx x4 x1) fun r6 =>
        lm_bd (F_X2_rank σx x3 x1) fun r7 =>
        lm_br (0 ≤ (lg_cmp r6 r7))
         (F_X2_firstOut_L5 n σx x1 x2 x3 (x4 + (1 : Int32)))
         (F_X2_firstOut_L5 n σx x1 x2 x4 (x4 + (1 : Int32))))))))
def F_X2_firstOut (σ : Hp) (x1 x2 : Int32) : Option Int32 :=
  F_X2_firstOut_L5 1000 σ x1 x2 (-1 : Int32) (0 : Int32)
theorem in2_X2_firstOut : ∀ w ∈ u_ws RX2 TX2 4, w ∈ wsX2_firstOut := by decide +kernel
theorem fl9_X2_firstOut : Cond.fieldLink RX2 9 "LoopMemo$Memo" "uses" "[I" ∈ wsX2_firstOut := by decide +kernel
set_option maxRecDepth 100000 in
set_option maxHeartbeats 4000000 in
theorem m_X2_firstOut (D : va_G) (z zo : ClassId) (l : Launch) (a : Nat → Nat) (σ : Hp) (x1 x2 : Int32) (r : Int32)  (hF : F_X2_firstOut σ x1 x2 = some r) : lm_CR D z zo l yX2_firstOut wsX2_firstOut 1 22 [.ref (a 0), .int x1, .int x2] (meW z a σ) (some (.int r)) := by
  refine lm_CR.of (by decide) rfl (Nat.le_of_ble_eq_true rfl) (own := RX2) rfl ?_
  intro p e s m_ args below meth c C hr hk
  have loop_5 : ∀ (n : Nat) (σx : Hp) (x1 : Int32) (x2 : Int32) (x3 : Int32) (x4 : Int32), F_X2_firstOut_L5 n σx x1 x2 x3 x4 = some r → lm_St p l e ({ frames := 1, cells := 0, slots := 0, locals := 22 }) s m_ args below meth c D (fun _ => False) 5 0 0 (lm_EndR below (some (.int r)) args s) true (meW z a σx) 5 [(0, .ref (a 0)), (1, .int x1), (2, .int x2), (3, .int x3), (4, .int x4)] [] := by
    intro n
    induction n with
    | zero => intro σx x1 x2 x3 x4 hF; cases (show (none : Option _) = some _ from hF)
    | succ n ih =>
      intro σx x1 x2 x3 x4 hF
      rw [F_X2_firstOut_L5] at hF
      refine lm_iload C dX2_firstOut_5 4 rfl rfl ?_
      refine lm_bipush C (v := (10 : Int32)) dX2_firstOut_7 (by decide) rfl ?_
      refine lm_icmp_ge C (tgt := 59) dX2_firstOut_9 (by decide) rfl (fun c1 => ?_) (fun c1 => ?_)
      · have hF := lm_brt hF c1
        refine lm_iload_n C dX2_firstOut_59 rfl 3 rfl rfl ?_
        cases hF
        exact lm_iretR C hr hk rfl dX2_firstOut_60
      · have hF := lm_brf hF c1
        refine lm_aload_n C dX2_firstOut_12 rfl 0 rfl rfl ?_
        refine lm_getf C (T := TX2) (N := 4) (v := .ref (a 1)) in2_X2_firstOut 0 rfl rfl 0 (by decide) fl9_X2_firstOut rfl rfl dX2_firstOut_13 rfl ?_
        refine lm_iload C dX2_firstOut_16 4 rfl rfl ?_
        obtain ⟨b2, hF⟩ := lm_gie hF
        refine lm_iald C (v := (σx 1 x4.toNatClampNeg)) 1 rfl b2 rfl dX2_firstOut_18 rfl ?_
        refine lm_if_le C (tgt := 53) dX2_firstOut_19 (by decide) rfl (fun c3 => ?_) (fun c3 => ?_)
        · have hF := lm_brt hF c3
          refine lm_iinc C (lv' := [(0, .ref (a 0)), (1, .int x1), (2, .int x2), (3, .int x3), (4, .int (x4 + (1 : Int32)))]) (x4 + (1 : Int32)) dX2_firstOut_53 4 rfl rfl (by decide) rfl [1, 2, 3, 4, 0] rfl rfl ?_
          refine lm_goto C (tgt := 5) dX2_firstOut_56 (by decide) ?_
          exact ih σx x1 x2 x3 (x4 + (1 : Int32)) hF
        · have hF := lm_brf hF c3
          refine lm_iload C dX2_firstOut_22 4 rfl rfl ?_
          refine lm_iload_n C dX2_firstOut_24 rfl 2 rfl rfl ?_
          refine lm_icmp_eq C (tgt := 53) dX2_firstOut_25 (by decide) rfl (fun c4 => ?_) (fun c4 => ?_)
          · have hF := lm_brt hF c4
            refine lm_iinc C (lv' := [(0, .ref (a 0)), (1, .int x1), (2, .int x2), (3, .int x3), (4, .int (x4 + (1 : Int32)))]) (x4 + (1 : Int32)) dX2_firstOut_53 4 rfl rfl (by decide) rfl [1, 2, 3, 4, 0] rfl rfl ?_
            refine lm_goto C (tgt := 5) dX2_firstOut_56 (by decide) ?_
            exact ih σx x1 x2 x3 (x4 + (1 : Int32)) hF
          · have hF := lm_brf hF c4
            refine lm_iload_n C dX2_firstOut_28 rfl 3 rfl rfl ?_
            refine lm_iconst C (v := (-1 : Int32)) dX2_firstOut_29 (by decide) rfl ?_
            refine lm_icmp_eq C (tgt := 50) dX2_firstOut_30 (by decide) rfl (fun c5 => ?_) (fun c5 => ?_)
            · have hF := lm_brt hF c5
              refine lm_iload C dX2_firstOut_50 4 rfl rfl ?_
              refine lm_istore_n C (lv' := [(0, .ref (a 0)), (1, .int x1), (2, .int x2), (3, .int x4), (4, .int x4)]) dX2_firstOut_52 rfl (by decide) rfl [1, 2, 3, 0, 4] rfl rfl ?_
              refine lm_iinc C (lv' := [(0, .ref (a 0)), (1, .int x1), (2, .int x2), (3, .int x4), (4, .int (x4 + (1 : Int32)))]) (x4 + (1 : Int32)) dX2_firstOut_53 4 rfl rfl (by decide) rfl [1, 2, 3, 4, 0] rfl rfl ?_
              refine lm_goto C (tgt := 5) dX2_firstOut_56 (by decide) ?_
              exact ih σx x1 x2 x4 (x4 + (1 : Int32)) hF
            · have hF := lm_brf hF c5
              refine lm_aload_n C dX2_firstOut_33 rfl 0 rfl rfl ?_
              refine lm_iload C dX2_firstOut_34 4 rfl rfl ?_
              refine lm_iload_n C dX2_firstOut_36 rfl 1 rfl rfl ?_
              obtain ⟨r6, qr6, hF⟩ := lm_bde hF
              refine lm_callVR C (n := 2) (ci := 2) (m_X2_rank D z zo l a σx x4 x1 r6 qr6) gX2_firstOut_X2_rank rfl (by decide +kernel) ⟨Nat.le_of_ble_eq_true rfl, Nat.le_of_ble_eq_true rfl⟩ ⟨Nat.le_of_ble_eq_true rfl, Nat.le_of_ble_eq_true rfl⟩ 0 rfl rfl (fun _ h => h) rfl rfl (Nat.le_of_ble_eq_true rfl) dX2_firstOut_37 (st' := [.long r6]) rfl rfl ?_
              refine lm_aload_n C dX2_firstOut_40 rfl 0 rfl rfl ?_
              refine lm_iload_n C dX2_firstOut_41 rfl 3 rfl rfl ?_
              refine lm_iload_n C dX2_firstOut_42 rfl 1 rfl rfl ?_
              obtain ⟨r7, qr7, hF⟩ := lm_bde hF
              refine lm_callVR C (n := 2) (ci := 2) (m_X2_rank D z zo l a σx x3 x1 r7 qr7) gX2_firstOut_X2_rank rfl (by decide +kernel) ⟨Nat.le_of_ble_eq_true rfl, Nat.le_of_ble_eq_true rfl⟩ ⟨Nat.le_of_ble_eq_true rfl, Nat.le_of_ble_eq_true rfl⟩ 0 rfl rfl (fun _ h => h) rfl rfl (Nat.le_of_ble_eq_true rfl) dX2_firstOut_43 (st' := [.long r7, .long r6]) rfl rfl ?_
              refine lm_lcmp C dX2_firstOut_46 rfl rfl ?_
              refine lm_if_ge C (tgt := 53) dX2_firstOut_47 (by decide) rfl (fun c8 => ?_) (fun c8 => ?_)
              · have hF := lm_brt hF c8
                refine lm_iinc C (lv' := [(0, .ref (a 0)), (1, .int x1), (2, .int x2), (3, .int x3), (4, .int (x4 + (1 : Int32)))]) (x4 + (1 : Int32)) dX2_firstOut_53 4 rfl rfl (by decide) rfl [1, 2, 3, 4, 0] rfl rfl ?_
                refine lm_goto C (tgt := 5) dX2_firstOut_56 (by decide) ?_
                exact ih σx x1 x2 x3 (x4 + (1 : Int32)) hF
              · have hF := lm_brf hF c8
                refine lm_iload C dX2_firstOut_50 4 rfl rfl ?_
                refine lm_istore_n C (lv' := [(0, .ref (a 0)), (1, .int x1), (2, .int x2), (3, .int x4), (4, .int x4)]) dX2_firstOut_52 rfl (by decide) rfl [1, 2, 3, 0, 4] rfl rfl ?_
                refine lm_iinc C (lv' := [(0, .ref (a 0)), (1, .int x1), (2, .int x2), (3, .int x4), (4, .int (x4 + (1 : Int32)))]) (x4 + (1 : Int32)) dX2_firstOut_53 4 rfl rfl (by decide) rfl [1, 2, 3, 4, 0] rfl rfl ?_
                refine lm_goto C (tgt := 5) dX2_firstOut_56 (by decide) ?_
                exact ih σx x1 x2 x4 (x4 + (1 : Int32)) hF
  show lm_St p l e ({ frames := 1, cells := 0, slots := 0, locals := 22 }) s m_ args below meth c D (fun _ => False) 5 0 0 (lm_EndR below (some (.int r)) args s) true (meW z a σ) 0 [(0, .ref (a 0)), (1, .int x1), (2, .int x2)] []
  rw [F_X2_firstOut] at hF
  refine lm_iconst C (v := (-1 : Int32)) dX2_firstOut_0 (by decide) rfl ?_
  refine lm_istore_n C (lv' := [(0, .ref (a 0)), (1, .int x1), (2, .int x2), (3, .int (-1 : Int32))]) dX2_firstOut_1 rfl (by decide) rfl [1, 2, 3, 0] rfl rfl ?_
  refine lm_iconst C (v := (0 : Int32)) dX2_firstOut_2 (by decide) rfl ?_
  refine lm_istore C (lv' := [(0, .ref (a 0)), (1, .int x1), (2, .int x2), (3, .int (-1 : Int32)), (4, .int (0 : Int32))]) dX2_firstOut_3 (by decide) rfl [1, 2, 3, 4, 0] rfl rfl ?_
  exact loop_5 1000 σ x1 x2 (-1 : Int32) (0 : Int32) hF
def F_X2_placeOf_L5 : Nat → Hp → Int32 → Int32 → Int32 → Int32 → Option Int32
  | 0, _, _, _, _, _ => none
  | n + 1, σx, x1, x2, x3, x4 =>
    lm_br ((10 : Int32) ≤ x4)
     (some x3)
     (lm_gi x4 10
     (lm_br ((σx 1 x4.toNatClampNeg) ≤ 0)
      (F_X2_placeOf_L5 n σx x1 x2 x3 (x4 + (1 : Int32)))
      (lm_bd (F_X2_rank σx x4 x2) fun r4 =>
      lm_bd (F_X2_rank σx x1 x2) fun r5 =>
      lm_br (0 ≤ (lg_cmp r4 r5))
       (F_X2_placeOf_L5 n σx x1 x2 x3 (x4 + (1 : Int32)))
       (F_X2_placeOf_L5 n σx x1 x2 (x3 + (1 : Int32)) (x4 + (1 : Int32))))))
def F_X2_placeOf (σ : Hp) (x1 x2 : Int32) : Option Int32 :=
  F_X2_placeOf_L5 1000 σ x1 x2 (0 : Int32) (0 : Int32)
theorem in2_X2_placeOf : ∀ w ∈ u_ws RX2 TX2 4, w ∈ wsX2_placeOf := by decide +kernel
theorem fl9_X2_placeOf : Cond.fieldLink RX2 9 "LoopMemo$Memo" "uses" "[I" ∈ wsX2_placeOf := by decide +kernel
set_option maxRecDepth 100000 in
set_option maxHeartbeats 4000000 in
theorem m_X2_placeOf (D : va_G) (z zo : ClassId) (l : Launch) (a : Nat → Nat) (σ : Hp) (x1 x2 : Int32) (r : Int32)  (hF : F_X2_placeOf σ x1 x2 = some r) : lm_CR D z zo l yX2_placeOf wsX2_placeOf 1 22 [.ref (a 0), .int x1, .int x2] (meW z a σ) (some (.int r)) := by
  refine lm_CR.of (by decide) rfl (Nat.le_of_ble_eq_true rfl) (own := RX2) rfl ?_
  intro p e s m_ args below meth c C hr hk
  have loop_5 : ∀ (n : Nat) (σx : Hp) (x1 : Int32) (x2 : Int32) (x3 : Int32) (x4 : Int32), F_X2_placeOf_L5 n σx x1 x2 x3 x4 = some r → lm_St p l e ({ frames := 1, cells := 0, slots := 0, locals := 22 }) s m_ args below meth c D (fun _ => False) 5 0 0 (lm_EndR below (some (.int r)) args s) true (meW z a σx) 5 [(0, .ref (a 0)), (1, .int x1), (2, .int x2), (3, .int x3), (4, .int x4)] [] := by
    intro n
    induction n with
    | zero => intro σx x1 x2 x3 x4 hF; cases (show (none : Option _) = some _ from hF)
    | succ n ih =>
      intro σx x1 x2 x3 x4 hF
      rw [F_X2_placeOf_L5] at hF
      refine lm_iload C dX2_placeOf_5 4 rfl rfl ?_
      refine lm_bipush C (v := (10 : Int32)) dX2_placeOf_7 (by decide) rfl ?_
      refine lm_icmp_ge C (tgt := 48) dX2_placeOf_9 (by decide) rfl (fun c1 => ?_) (fun c1 => ?_)
      · have hF := lm_brt hF c1
        refine lm_iload_n C dX2_placeOf_48 rfl 3 rfl rfl ?_
        cases hF
        exact lm_iretR C hr hk rfl dX2_placeOf_49
      · have hF := lm_brf hF c1
        refine lm_aload_n C dX2_placeOf_12 rfl 0 rfl rfl ?_
        refine lm_getf C (T := TX2) (N := 4) (v := .ref (a 1)) in2_X2_placeOf 0 rfl rfl 0 (by decide) fl9_X2_placeOf rfl rfl dX2_placeOf_13 rfl ?_
        refine lm_iload C dX2_placeOf_16 4 rfl rfl ?_
        obtain ⟨b2, hF⟩ := lm_gie hF
        refine lm_iald C (v := (σx 1 x4.toNatClampNeg)) 1 rfl b2 rfl dX2_placeOf_18 rfl ?_
        refine lm_if_le C (tgt := 42) dX2_placeOf_19 (by decide) rfl (fun c3 => ?_) (fun c3 => ?_)
        · have hF := lm_brt hF c3
          refine lm_iinc C (lv' := [(0, .ref (a 0)), (1, .int x1), (2, .int x2), (3, .int x3), (4, .int (x4 + (1 : Int32)))]) (x4 + (1 : Int32)) dX2_placeOf_42 4 rfl rfl (by decide) rfl [1, 2, 3, 4, 0] rfl rfl ?_
          refine lm_goto C (tgt := 5) dX2_placeOf_45 (by decide) ?_
          exact ih σx x1 x2 x3 (x4 + (1 : Int32)) hF
        · have hF := lm_brf hF c3
          refine lm_aload_n C dX2_placeOf_22 rfl 0 rfl rfl ?_
          refine lm_iload C dX2_placeOf_23 4 rfl rfl ?_
          refine lm_iload_n C dX2_placeOf_25 rfl 2 rfl rfl ?_
          obtain ⟨r4, qr4, hF⟩ := lm_bde hF
          refine lm_callVR C (n := 2) (ci := 2) (m_X2_rank D z zo l a σx x4 x2 r4 qr4) gX2_placeOf_X2_rank rfl (by decide +kernel) ⟨Nat.le_of_ble_eq_true rfl, Nat.le_of_ble_eq_true rfl⟩ ⟨Nat.le_of_ble_eq_true rfl, Nat.le_of_ble_eq_true rfl⟩ 0 rfl rfl (fun _ h => h) rfl rfl (Nat.le_of_ble_eq_true rfl) dX2_placeOf_26 (st' := [.long r4]) rfl rfl ?_
          refine lm_aload_n C dX2_placeOf_29 rfl 0 rfl rfl ?_
          refine lm_iload_n C dX2_placeOf_30 rfl 1 rfl rfl ?_
          refine lm_iload_n C dX2_placeOf_31 rfl 2 rfl rfl ?_
          obtain ⟨r5, qr5, hF⟩ := lm_bde hF
          refine lm_callVR C (n := 2) (ci := 2) (m_X2_rank D z zo l a σx x1 x2 r5 qr5) gX2_placeOf_X2_rank rfl (by decide +kernel) ⟨Nat.le_of_ble_eq_true rfl, Nat.le_of_ble_eq_true rfl⟩ ⟨Nat.le_of_ble_eq_true rfl, Nat.le_of_ble_eq_true rfl⟩ 0 rfl rfl (fun _ h => h) rfl rfl (Nat.le_of_ble_eq_true rfl) dX2_placeOf_32 (st' := [.long r5, .long r4]) rfl rfl ?_
          refine lm_lcmp C dX2_placeOf_35 rfl rfl ?_
          refine lm_if_ge C (tgt := 42) dX2_placeOf_36 (by decide) rfl (fun c6 => ?_) (fun c6 => ?_)
          · have hF := lm_brt hF c6
            refine lm_iinc C (lv' := [(0, .ref (a 0)), (1, .int x1), (2, .int x2), (3, .int x3), (4, .int (x4 + (1 : Int32)))]) (x4 + (1 : Int32)) dX2_placeOf_42 4 rfl rfl (by decide) rfl [1, 2, 3, 4, 0] rfl rfl ?_
            refine lm_goto C (tgt := 5) dX2_placeOf_45 (by decide) ?_
            exact ih σx x1 x2 x3 (x4 + (1 : Int32)) hF
          · have hF := lm_brf hF c6
            refine lm_iinc C (lv' := [(0, .ref (a 0)), (1, .int x1), (2, .int x2), (3, .int (x3 + (1 : Int32))), (4, .int x4)]) (x3 + (1 : Int32)) dX2_placeOf_39 3 rfl rfl (by decide) rfl [1, 2, 3, 0, 4] rfl rfl ?_
            refine lm_iinc C (lv' := [(0, .ref (a 0)), (1, .int x1), (2, .int x2), (3, .int (x3 + (1 : Int32))), (4, .int (x4 + (1 : Int32)))]) (x4 + (1 : Int32)) dX2_placeOf_42 4 rfl rfl (by decide) rfl [1, 2, 3, 4, 0] rfl rfl ?_
            refine lm_goto C (tgt := 5) dX2_placeOf_45 (by decide) ?_
            exact ih σx x1 x2 (x3 + (1 : Int32)) (x4 + (1 : Int32)) hF
  show lm_St p l e ({ frames := 1, cells := 0, slots := 0, locals := 22 }) s m_ args below meth c D (fun _ => False) 5 0 0 (lm_EndR below (some (.int r)) args s) true (meW z a σ) 0 [(0, .ref (a 0)), (1, .int x1), (2, .int x2)] []
  rw [F_X2_placeOf] at hF
  refine lm_iconst C (v := (0 : Int32)) dX2_placeOf_0 (by decide) rfl ?_
  refine lm_istore_n C (lv' := [(0, .ref (a 0)), (1, .int x1), (2, .int x2), (3, .int (0 : Int32))]) dX2_placeOf_1 rfl (by decide) rfl [1, 2, 3, 0] rfl rfl ?_
  refine lm_iconst C (v := (0 : Int32)) dX2_placeOf_2 (by decide) rfl ?_
  refine lm_istore C (lv' := [(0, .ref (a 0)), (1, .int x1), (2, .int x2), (3, .int (0 : Int32)), (4, .int (0 : Int32))]) dX2_placeOf_3 (by decide) rfl [1, 2, 3, 4, 0] rfl rfl ?_
  exact loop_5 1000 σ x1 x2 (0 : Int32) (0 : Int32) hF
end
section
def F_X4_copyFrom (σ : Hp) (ρ : Hp)  : Option (Hp) :=
  lm_bd (F_X5_copyFrom (lm_sh 1 σ) (lm_sh 1 ρ)) fun τ1 =>
  lm_lt (lm_sb σ 1 3 τ1) fun σ2 =>
  lm_bd (F_X5_copyFrom (lm_sh 4 σ2) (lm_sh 4 ρ)) fun τ3 =>
  lm_lt (lm_sb σ2 4 3 τ3) fun σ4 =>
  lm_bd (F_X0_copyFrom (lm_sh 7 σ4) (lm_sh 7 ρ)) fun τ5 =>
  lm_lt (lm_sb σ4 7 4 τ5) fun σ6 =>
  lm_bd (F_X2_copyFrom (lm_sh 11 σ6) (lm_sh 11 ρ)) fun τ7 =>
  lm_lt (lm_sb σ6 11 4 τ7) fun σ8 =>
  lm_lt (lm_ua σ8 15 (va_cpy (ρ 15) (σ8 15) 0 0 5)) fun σ9 =>
  lm_lt (lm_ua σ9 16 (va_cpy (ρ 16) (σ9 16) 0 0 7)) fun σ10 =>
  lm_lt (lm_u σ10 0 6 (ρ 0 6)) fun σ11 =>
  lm_lt (lm_u σ11 0 7 (ρ 0 7)) fun σ12 =>
  some σ12
theorem in4_X4_copyFrom : ∀ w ∈ u_ws RX4 TX4 8, w ∈ wsX4_copyFrom := by decide +kernel
theorem fl12_X4_copyFrom : Cond.fieldLink RX4 12 "LoopMemo$State" "outer" "LLoopMemo$Table;" ∈ wsX4_copyFrom := by decide +kernel
theorem fl18_X4_copyFrom : Cond.fieldLink RX4 18 "LoopMemo$State" "inner" "LLoopMemo$Table;" ∈ wsX4_copyFrom := by decide +kernel
theorem fl24_X4_copyFrom : Cond.fieldLink RX4 24 "LoopMemo$State" "answers" "LLoopMemo$Answers;" ∈ wsX4_copyFrom := by decide +kernel
theorem fl31_X4_copyFrom : Cond.fieldLink RX4 31 "LoopMemo$State" "memo" "LLoopMemo$Memo;" ∈ wsX4_copyFrom := by decide +kernel
theorem fl44_X4_copyFrom : Cond.fieldLink RX4 44 "LoopMemo$State" "settings" "[I" ∈ wsX4_copyFrom := by decide +kernel
theorem fl47_X4_copyFrom : Cond.fieldLink RX4 47 "LoopMemo$State" "tallies" "[I" ∈ wsX4_copyFrom := by decide +kernel
theorem fl64_X4_copyFrom : Cond.fieldLink RX4 64 "LoopMemo$State" "place" "I" ∈ wsX4_copyFrom := by decide +kernel
theorem fl68_X4_copyFrom : Cond.fieldLink RX4 68 "LoopMemo$State" "total" "I" ∈ wsX4_copyFrom := by decide +kernel
theorem ini_X6_copyNumbers_X4_copyFrom : Cond.initialized yX6_copyNumbers.cls ∈ wsX4_copyFrom := by decide +kernel
theorem sta_X6_copyNumbers_X4_copyFrom : Cond.static yX6_copyNumbers ∈ wsX4_copyFrom := by decide +kernel
set_option maxRecDepth 100000 in
set_option maxHeartbeats 4000000 in
theorem m_X4_copyFrom (D : va_G) (z zo : ClassId) (l : Launch) (a : Nat → Nat) (b : Nat → Nat) (σ : Hp) (ρ : Hp)   (σ' : Hp) (hF : F_X4_copyFrom σ ρ  = some σ') : lm_C D z zo l yX4_copyFrom wsX4_copyFrom 3 82 [.ref (a 0), .ref (b 0)] (stW z a σ ++ stW z b ρ) none (stW z a σ' ++ stW z b ρ) := by
  refine lm_C.of (by decide) rfl (Nat.le_of_ble_eq_true rfl) (own := RX4) rfl ?_
  intro p e s m_ args below meth c C hr hk hA
  show lm_St p l e ({ frames := 3, cells := 0, slots := 0, locals := 82 }) s m_ args below meth c D (va_A (stW z a σ ++ stW z b ρ) s.heap.size) 2 0 0 (lm_End below D none (stW z a σ ++ stW z b ρ) (stW z a σ' ++ stW z b ρ) args s) false (stW z a σ ++ stW z b ρ) 0 [(0, .ref (a 0)), (1, .ref (b 0))] []
  rw [F_X4_copyFrom] at hF
  refine lm_aload_n C dX4_copyFrom_0 rfl 0 rfl rfl ?_
  refine lm_getf C (T := TX4) (N := 8) (v := .ref (a 1)) in4_X4_copyFrom 0 rfl rfl 0 (by decide) fl12_X4_copyFrom rfl rfl dX4_copyFrom_1 rfl ?_
  refine lm_aload_n C dX4_copyFrom_4 rfl 1 rfl rfl ?_
  refine lm_getf C (T := TX4) (N := 8) (v := .ref (b 1)) in4_X4_copyFrom 17 rfl rfl 0 (by decide) fl12_X4_copyFrom rfl rfl dX4_copyFrom_5 rfl ?_
  obtain ⟨τ1, qτ1, hF⟩ := lm_bde hF
  obtain ⟨σ2, eσ2, hF⟩ := lm_lte hF
  refine lm_callV C (n := 1) (ci := 5) (w' := (stW z a σ2 ++ stW z b ρ)) hA (m_X5_copyFrom D z zo l (lm_sh 1 a) (lm_sh 1 b) (lm_sh 1 σ) (lm_sh 1 ρ) τ1 qτ1) gX4_copyFrom_X5_copyFrom rfl (by decide +kernel) ⟨Nat.le_of_ble_eq_true rfl, Nat.le_of_ble_eq_true rfl⟩ ⟨Nat.le_of_ble_eq_true rfl, Nat.le_of_ble_eq_true rfl⟩ 1 rfl rfl (lm_pm4 (st_g1 z a σ) (st_g1 z b ρ)) (by rw [← eσ2]; exact lm_pm4' (st_p1 z a σ τ1) (st_g1 z b ρ)) rfl rfl (Nat.le_of_ble_eq_true rfl) dX4_copyFrom_8 (st' := []) rfl rfl ?_
  refine lm_aload_n C dX4_copyFrom_11 rfl 0 rfl rfl ?_
  refine lm_getf C (T := TX4) (N := 8) (v := .ref (a 4)) in4_X4_copyFrom 0 rfl rfl 1 (by decide) fl18_X4_copyFrom rfl rfl dX4_copyFrom_12 rfl ?_
  refine lm_aload_n C dX4_copyFrom_15 rfl 1 rfl rfl ?_
  refine lm_getf C (T := TX4) (N := 8) (v := .ref (b 4)) in4_X4_copyFrom 17 rfl rfl 1 (by decide) fl18_X4_copyFrom rfl rfl dX4_copyFrom_16 rfl ?_
  obtain ⟨τ3, qτ3, hF⟩ := lm_bde hF
  obtain ⟨σ4, eσ4, hF⟩ := lm_lte hF
  refine lm_callV C (n := 1) (ci := 5) (w' := (stW z a σ4 ++ stW z b ρ)) hA (m_X5_copyFrom D z zo l (lm_sh 4 a) (lm_sh 4 b) (lm_sh 4 σ2) (lm_sh 4 ρ) τ3 qτ3) gX4_copyFrom_X5_copyFrom rfl (by decide +kernel) ⟨Nat.le_of_ble_eq_true rfl, Nat.le_of_ble_eq_true rfl⟩ ⟨Nat.le_of_ble_eq_true rfl, Nat.le_of_ble_eq_true rfl⟩ 4 rfl rfl (lm_pm4 (st_g4 z a σ2) (st_g4 z b ρ)) (by rw [← eσ4]; exact lm_pm4' (st_p4 z a σ2 τ3) (st_g4 z b ρ)) rfl rfl (Nat.le_of_ble_eq_true rfl) dX4_copyFrom_19 (st' := []) rfl rfl ?_
  refine lm_aload_n C dX4_copyFrom_22 rfl 0 rfl rfl ?_
  refine lm_getf C (T := TX4) (N := 8) (v := .ref (a 7)) in4_X4_copyFrom 0 rfl rfl 2 (by decide) fl24_X4_copyFrom rfl rfl dX4_copyFrom_23 rfl ?_
  refine lm_aload_n C dX4_copyFrom_26 rfl 1 rfl rfl ?_
  refine lm_getf C (T := TX4) (N := 8) (v := .ref (b 7)) in4_X4_copyFrom 17 rfl rfl 2 (by decide) fl24_X4_copyFrom rfl rfl dX4_copyFrom_27 rfl ?_
  obtain ⟨τ5, qτ5, hF⟩ := lm_bde hF
  obtain ⟨σ6, eσ6, hF⟩ := lm_lte hF
  refine lm_callV C (n := 1) (ci := 0) (w' := (stW z a σ6 ++ stW z b ρ)) hA (m_X0_copyFrom D z zo l (lm_sh 7 a) (lm_sh 7 b) (lm_sh 7 σ4) (lm_sh 7 ρ) τ5 qτ5) gX4_copyFrom_X0_copyFrom rfl (by decide +kernel) ⟨Nat.le_of_ble_eq_true rfl, Nat.le_of_ble_eq_true rfl⟩ ⟨Nat.le_of_ble_eq_true rfl, Nat.le_of_ble_eq_true rfl⟩ 7 rfl rfl (lm_pm4 (st_g7 z a σ4) (st_g7 z b ρ)) (by rw [← eσ6]; exact lm_pm4' (st_p7 z a σ4 τ5) (st_g7 z b ρ)) rfl rfl (Nat.le_of_ble_eq_true rfl) dX4_copyFrom_30 (st' := []) rfl rfl ?_
  refine lm_aload_n C dX4_copyFrom_33 rfl 0 rfl rfl ?_
  refine lm_getf C (T := TX4) (N := 8) (v := .ref (a 11)) in4_X4_copyFrom 0 rfl rfl 3 (by decide) fl31_X4_copyFrom rfl rfl dX4_copyFrom_34 rfl ?_
  refine lm_aload_n C dX4_copyFrom_37 rfl 1 rfl rfl ?_
  refine lm_getf C (T := TX4) (N := 8) (v := .ref (b 11)) in4_X4_copyFrom 17 rfl rfl 3 (by decide) fl31_X4_copyFrom rfl rfl dX4_copyFrom_38 rfl ?_
  obtain ⟨τ7, qτ7, hF⟩ := lm_bde hF
  obtain ⟨σ8, eσ8, hF⟩ := lm_lte hF
  refine lm_callV C (n := 1) (ci := 2) (w' := (stW z a σ8 ++ stW z b ρ)) hA (m_X2_copyFrom D z zo l (lm_sh 11 a) (lm_sh 11 b) (lm_sh 11 σ6) (lm_sh 11 ρ) τ7 qτ7) gX4_copyFrom_X2_copyFrom rfl (by decide +kernel) ⟨Nat.le_of_ble_eq_true rfl, Nat.le_of_ble_eq_true rfl⟩ ⟨Nat.le_of_ble_eq_true rfl, Nat.le_of_ble_eq_true rfl⟩ 11 rfl rfl (lm_pm4 (st_g11 z a σ6) (st_g11 z b ρ)) (by rw [← eσ8]; exact lm_pm4' (st_p11 z a σ6 τ7) (st_g11 z b ρ)) rfl rfl (Nat.le_of_ble_eq_true rfl) dX4_copyFrom_41 (st' := []) rfl rfl ?_
  refine lm_aload_n C dX4_copyFrom_44 rfl 1 rfl rfl ?_
  refine lm_getf C (T := TX4) (N := 8) (v := .ref (b 15)) in4_X4_copyFrom 17 rfl rfl 4 (by decide) fl44_X4_copyFrom rfl rfl dX4_copyFrom_45 rfl ?_
  refine lm_aload_n C dX4_copyFrom_48 rfl 0 rfl rfl ?_
  refine lm_getf C (T := TX4) (N := 8) (v := .ref (a 15)) in4_X4_copyFrom 0 rfl rfl 4 (by decide) fl44_X4_copyFrom rfl rfl dX4_copyFrom_49 rfl ?_
  obtain ⟨σ9, eσ9, hF⟩ := lm_lte hF
  refine lm_callSN C (n := 2) (w' := (stW z a σ9 ++ stW z b ρ)) (wr := ((stW z a σ8 ++ stW z b ρ).eraseIdx 32).eraseIdx 15) hA (m_X6_copyNumbers D z zo l (b 15) (a 15) 5 (ρ 15) (σ8 15) (by decide)) gX4_copyFrom_X6_copyNumbers_n60 rfl ini_X6_copyNumbers_X4_copyFrom sta_X6_copyNumbers_X4_copyFrom (by decide +kernel) ⟨Nat.le_of_ble_eq_true rfl, Nat.le_of_ble_eq_true rfl⟩ ⟨Nat.le_of_ble_eq_true rfl, Nat.le_of_ble_eq_true rfl⟩ (by decide +kernel) (lm_pick2 (stW z a σ8 ++ stW z b ρ) 32 15 _ _ rfl rfl) (by rw [← eσ9]; exact lm_pick2' 32 15 rfl rfl rfl) rfl rfl (Nat.le_of_ble_eq_true rfl) dX4_copyFrom_52 (st' := []) rfl rfl ?_
  refine lm_aload_n C dX4_copyFrom_55 rfl 1 rfl rfl ?_
  refine lm_getf C (T := TX4) (N := 8) (v := .ref (b 16)) in4_X4_copyFrom 17 rfl rfl 5 (by decide) fl47_X4_copyFrom rfl rfl dX4_copyFrom_56 rfl ?_
  refine lm_aload_n C dX4_copyFrom_59 rfl 0 rfl rfl ?_
  refine lm_getf C (T := TX4) (N := 8) (v := .ref (a 16)) in4_X4_copyFrom 0 rfl rfl 5 (by decide) fl47_X4_copyFrom rfl rfl dX4_copyFrom_60 rfl ?_
  obtain ⟨σ10, eσ10, hF⟩ := lm_lte hF
  refine lm_callSN C (n := 2) (w' := (stW z a σ10 ++ stW z b ρ)) (wr := ((stW z a σ9 ++ stW z b ρ).eraseIdx 33).eraseIdx 16) hA (m_X6_copyNumbers D z zo l (b 16) (a 16) 7 (ρ 16) (σ9 16) (by decide)) gX4_copyFrom_X6_copyNumbers_n60 rfl ini_X6_copyNumbers_X4_copyFrom sta_X6_copyNumbers_X4_copyFrom (by decide +kernel) ⟨Nat.le_of_ble_eq_true rfl, Nat.le_of_ble_eq_true rfl⟩ ⟨Nat.le_of_ble_eq_true rfl, Nat.le_of_ble_eq_true rfl⟩ (by decide +kernel) (lm_pick2 (stW z a σ9 ++ stW z b ρ) 33 16 _ _ rfl rfl) (by rw [← eσ10]; exact lm_pick2' 33 16 rfl rfl rfl) rfl rfl (Nat.le_of_ble_eq_true rfl) dX4_copyFrom_63 (st' := []) rfl rfl ?_
  refine lm_aload_n C dX4_copyFrom_66 rfl 0 rfl rfl ?_
  refine lm_aload_n C dX4_copyFrom_67 rfl 1 rfl rfl ?_
  refine lm_getf C (T := TX4) (N := 8) (v := .int (ρ 0 6)) in4_X4_copyFrom 17 rfl rfl 6 (by decide) fl64_X4_copyFrom rfl rfl dX4_copyFrom_68 rfl ?_
  obtain ⟨σ11, eσ11, hF⟩ := lm_lte hF
  refine lm_putf C (T := TX4) (N := 8) (ty := .int) (v := .int (ρ 0 6)) (w' := (stW z a σ11 ++ stW z b ρ)) in4_X4_copyFrom tyX4 tyX4_ok nmX4 0 rfl rfl 6 (by decide) fl64_X4_copyFrom rfl rfl rfl rfl rfl (Nat.le_of_ble_eq_true rfl) dX4_copyFrom_71 (by rw [← eσ11]; rfl) rfl ?_
  refine lm_aload_n C dX4_copyFrom_74 rfl 0 rfl rfl ?_
  refine lm_aload_n C dX4_copyFrom_75 rfl 1 rfl rfl ?_
  refine lm_getf C (T := TX4) (N := 8) (v := .int (ρ 0 7)) in4_X4_copyFrom 17 rfl rfl 7 (by decide) fl68_X4_copyFrom rfl rfl dX4_copyFrom_76 rfl ?_
  obtain ⟨σ12, eσ12, hF⟩ := lm_lte hF
  refine lm_putf C (T := TX4) (N := 8) (ty := .int) (v := .int (ρ 0 7)) (w' := (stW z a σ12 ++ stW z b ρ)) in4_X4_copyFrom tyX4 tyX4_ok nmX4 0 rfl rfl 7 (by decide) fl68_X4_copyFrom rfl rfl rfl rfl rfl (Nat.le_of_ble_eq_true rfl) dX4_copyFrom_79 (by rw [← eσ12]; rfl) rfl ?_
  cases hF
  exact lm_vret C hr hk rfl rfl dX4_copyFrom_82
theorem in4_X4_table : ∀ w ∈ u_ws RX4 TX4 8, w ∈ wsX4_table := by decide +kernel
theorem fl12_X4_table : Cond.fieldLink RX4 12 "LoopMemo$State" "outer" "LLoopMemo$Table;" ∈ wsX4_table := by decide +kernel
theorem fl18_X4_table : Cond.fieldLink RX4 18 "LoopMemo$State" "inner" "LLoopMemo$Table;" ∈ wsX4_table := by decide +kernel
set_option maxRecDepth 100000 in
set_option maxHeartbeats 4000000 in
theorem m_X4_table_1 (D : va_G) (z zo : ClassId) (l : Launch) (a : Nat → Nat) (σ : Hp) (x1 : Int32) (h0 : x1 = 0) : lm_CR D z zo l yX4_table wsX4_table 0 0 [.ref (a 0), .int x1] (stW z a σ) (some (.ref (a 1))) := by
  refine lm_CR.of (by decide) rfl (Nat.le_of_ble_eq_true rfl) (own := RX4) rfl ?_
  intro p e s m_ args below meth c C hr hk
  refine lm_iload_n C dX4_table_0 rfl 1 rfl rfl ?_
  refine lm_if_eq C (tgt := 11) dX4_table_1 (by decide) rfl (fun c => ?_) (fun c => ?_)
  rotate_left
  exact absurd h0 c
  refine lm_aload_n C dX4_table_11 rfl 0 rfl rfl ?_
  refine lm_getf C (T := TX4) (N := 8) (v := .ref (a 1)) in4_X4_table 0 rfl rfl 0 (by decide) fl12_X4_table rfl rfl dX4_table_12 rfl ?_
  exact lm_aretR C hr hk (Or.inl ⟨_, rfl⟩) (Or.inr ⟨_, rfl⟩) rfl dX4_table_15
set_option maxRecDepth 100000 in
set_option maxHeartbeats 4000000 in
theorem m_X4_table_2 (D : va_G) (z zo : ClassId) (l : Launch) (a : Nat → Nat) (σ : Hp) (x1 : Int32) (h0 : ¬ x1 = 0) : lm_CR D z zo l yX4_table wsX4_table 0 0 [.ref (a 0), .int x1] (stW z a σ) (some (.ref (a 4))) := by
  refine lm_CR.of (by decide) rfl (Nat.le_of_ble_eq_true rfl) (own := RX4) rfl ?_
  intro p e s m_ args below meth c C hr hk
  refine lm_iload_n C dX4_table_0 rfl 1 rfl rfl ?_
  refine lm_if_eq C (tgt := 11) dX4_table_1 (by decide) rfl (fun c => ?_) (fun c => ?_)
  exact absurd c h0
  refine lm_aload_n C dX4_table_4 rfl 0 rfl rfl ?_
  refine lm_getf C (T := TX4) (N := 8) (v := .ref (a 4)) in4_X4_table 0 rfl rfl 1 (by decide) fl18_X4_table rfl rfl dX4_table_5 rfl ?_
  refine lm_goto C (tgt := 15) dX4_table_8 (by decide) ?_
  exact lm_aretR C hr hk (Or.inl ⟨_, rfl⟩) (Or.inr ⟨_, rfl⟩) rfl dX4_table_15
theorem in4_X4_answers : ∀ w ∈ u_ws RX4 TX4 8, w ∈ wsX4_answers := by decide +kernel
theorem fl24_X4_answers : Cond.fieldLink RX4 24 "LoopMemo$State" "answers" "LLoopMemo$Answers;" ∈ wsX4_answers := by decide +kernel
set_option maxRecDepth 100000 in
set_option maxHeartbeats 4000000 in
theorem m_X4_answers_1 (D : va_G) (z zo : ClassId) (l : Launch) (a : Nat → Nat) (σ : Hp)   : lm_CR D z zo l yX4_answers wsX4_answers 0 0 [.ref (a 0)] (stW z a σ) (some (.ref (a 7))) := by
  refine lm_CR.of (by decide) rfl (Nat.le_of_ble_eq_true rfl) (own := RX4) rfl ?_
  intro p e s m_ args below meth c C hr hk
  refine lm_aload_n C dX4_answers_0 rfl 0 rfl rfl ?_
  refine lm_getf C (T := TX4) (N := 8) (v := .ref (a 7)) in4_X4_answers 0 rfl rfl 2 (by decide) fl24_X4_answers rfl rfl dX4_answers_1 rfl ?_
  exact lm_aretR C hr hk (Or.inl ⟨_, rfl⟩) (Or.inr ⟨_, rfl⟩) rfl dX4_answers_4
theorem in4_X4_memo : ∀ w ∈ u_ws RX4 TX4 8, w ∈ wsX4_memo := by decide +kernel
theorem fl31_X4_memo : Cond.fieldLink RX4 31 "LoopMemo$State" "memo" "LLoopMemo$Memo;" ∈ wsX4_memo := by decide +kernel
set_option maxRecDepth 100000 in
set_option maxHeartbeats 4000000 in
theorem m_X4_memo_1 (D : va_G) (z zo : ClassId) (l : Launch) (a : Nat → Nat) (σ : Hp)   : lm_CR D z zo l yX4_memo wsX4_memo 0 0 [.ref (a 0)] (stW z a σ) (some (.ref (a 11))) := by
  refine lm_CR.of (by decide) rfl (Nat.le_of_ble_eq_true rfl) (own := RX4) rfl ?_
  intro p e s m_ args below meth c C hr hk
  refine lm_aload_n C dX4_memo_0 rfl 0 rfl rfl ?_
  refine lm_getf C (T := TX4) (N := 8) (v := .ref (a 11)) in4_X4_memo 0 rfl rfl 3 (by decide) fl31_X4_memo rfl rfl dX4_memo_1 rfl ?_
  exact lm_aretR C hr hk (Or.inl ⟨_, rfl⟩) (Or.inr ⟨_, rfl⟩) rfl dX4_memo_4
def F_X4_setting (σ : Hp) (x1 : Int32) : Option Int32 :=
  lm_br (x1 < 0)
   (some (0 : Int32))
   (lm_br ((5 : Int32) ≤ x1)
    (some (0 : Int32))
    (lm_gi x1 5
    (some (σ 15 x1.toNatClampNeg))))
theorem in4_X4_setting : ∀ w ∈ u_ws RX4 TX4 8, w ∈ wsX4_setting := by decide +kernel
theorem fl44_X4_setting : Cond.fieldLink RX4 44 "LoopMemo$State" "settings" "[I" ∈ wsX4_setting := by decide +kernel
set_option maxRecDepth 100000 in
set_option maxHeartbeats 4000000 in
theorem m_X4_setting (D : va_G) (z zo : ClassId) (l : Launch) (a : Nat → Nat) (σ : Hp) (x1 : Int32) (r : Int32)  (hF : F_X4_setting σ x1 = some r) : lm_CR D z zo l yX4_setting wsX4_setting 0 0 [.ref (a 0), .int x1] (stW z a σ) (some (.int r)) := by
  refine lm_CR.of (by decide) rfl (Nat.le_of_ble_eq_true rfl) (own := RX4) rfl ?_
  intro p e s m_ args below meth c C hr hk
  show lm_St p l e ({ frames := 0, cells := 0, slots := 0, locals := 0 }) s m_ args below meth c D (fun _ => False) 2 0 0 (lm_EndR below (some (.int r)) args s) true (stW z a σ) 0 [(0, .ref (a 0)), (1, .int x1)] []
  rw [F_X4_setting] at hF
  refine lm_iload_n C dX4_setting_0 rfl 1 rfl rfl ?_
  refine lm_if_lt C (tgt := 22) dX4_setting_1 (by decide) rfl (fun c1 => ?_) (fun c1 => ?_)
  · have hF := lm_brt hF c1
    refine lm_iconst C (v := (0 : Int32)) dX4_setting_22 (by decide) rfl ?_
    cases hF
    exact lm_iretR C hr hk rfl dX4_setting_23
  · have hF := lm_brf hF c1
    refine lm_iload_n C dX4_setting_4 rfl 1 rfl rfl ?_
    refine lm_aload_n C dX4_setting_5 rfl 0 rfl rfl ?_
    refine lm_getf C (T := TX4) (N := 8) (v := .ref (a 15)) in4_X4_setting 0 rfl rfl 4 (by decide) fl44_X4_setting rfl rfl dX4_setting_6 rfl ?_
    refine lm_alen C (v := (5 : Int32)) 15 rfl rfl dX4_setting_9 rfl ?_
    refine lm_icmp_ge C (tgt := 22) dX4_setting_10 (by decide) rfl (fun c2 => ?_) (fun c2 => ?_)
    · have hF := lm_brt hF c2
      refine lm_iconst C (v := (0 : Int32)) dX4_setting_22 (by decide) rfl ?_
      cases hF
      exact lm_iretR C hr hk rfl dX4_setting_23
    · have hF := lm_brf hF c2
      refine lm_aload_n C dX4_setting_13 rfl 0 rfl rfl ?_
      refine lm_getf C (T := TX4) (N := 8) (v := .ref (a 15)) in4_X4_setting 0 rfl rfl 4 (by decide) fl44_X4_setting rfl rfl dX4_setting_14 rfl ?_
      refine lm_iload_n C dX4_setting_17 rfl 1 rfl rfl ?_
      obtain ⟨b3, hF⟩ := lm_gie hF
      refine lm_iald C (v := (σ 15 x1.toNatClampNeg)) 15 rfl b3 rfl dX4_setting_18 rfl ?_
      refine lm_goto C (tgt := 23) dX4_setting_19 (by decide) ?_
      cases hF
      exact lm_iretR C hr hk rfl dX4_setting_23
def F_X4_tally (σ : Hp) (x1 : Int32) : Option Int32 :=
  lm_br (x1 < 0)
   (some (0 : Int32))
   (lm_br ((7 : Int32) ≤ x1)
    (some (0 : Int32))
    (lm_gi x1 7
    (some (σ 16 x1.toNatClampNeg))))
theorem in4_X4_tally : ∀ w ∈ u_ws RX4 TX4 8, w ∈ wsX4_tally := by decide +kernel
theorem fl47_X4_tally : Cond.fieldLink RX4 47 "LoopMemo$State" "tallies" "[I" ∈ wsX4_tally := by decide +kernel
set_option maxRecDepth 100000 in
set_option maxHeartbeats 4000000 in
theorem m_X4_tally (D : va_G) (z zo : ClassId) (l : Launch) (a : Nat → Nat) (σ : Hp) (x1 : Int32) (r : Int32)  (hF : F_X4_tally σ x1 = some r) : lm_CR D z zo l yX4_tally wsX4_tally 0 0 [.ref (a 0), .int x1] (stW z a σ) (some (.int r)) := by
  refine lm_CR.of (by decide) rfl (Nat.le_of_ble_eq_true rfl) (own := RX4) rfl ?_
  intro p e s m_ args below meth c C hr hk
  show lm_St p l e ({ frames := 0, cells := 0, slots := 0, locals := 0 }) s m_ args below meth c D (fun _ => False) 2 0 0 (lm_EndR below (some (.int r)) args s) true (stW z a σ) 0 [(0, .ref (a 0)), (1, .int x1)] []
  rw [F_X4_tally] at hF
  refine lm_iload_n C dX4_tally_0 rfl 1 rfl rfl ?_
  refine lm_if_lt C (tgt := 22) dX4_tally_1 (by decide) rfl (fun c1 => ?_) (fun c1 => ?_)
  · have hF := lm_brt hF c1
    refine lm_iconst C (v := (0 : Int32)) dX4_tally_22 (by decide) rfl ?_
    cases hF
    exact lm_iretR C hr hk rfl dX4_tally_23
  · have hF := lm_brf hF c1
    refine lm_iload_n C dX4_tally_4 rfl 1 rfl rfl ?_
    refine lm_aload_n C dX4_tally_5 rfl 0 rfl rfl ?_
    refine lm_getf C (T := TX4) (N := 8) (v := .ref (a 16)) in4_X4_tally 0 rfl rfl 5 (by decide) fl47_X4_tally rfl rfl dX4_tally_6 rfl ?_
    refine lm_alen C (v := (7 : Int32)) 16 rfl rfl dX4_tally_9 rfl ?_
    refine lm_icmp_ge C (tgt := 22) dX4_tally_10 (by decide) rfl (fun c2 => ?_) (fun c2 => ?_)
    · have hF := lm_brt hF c2
      refine lm_iconst C (v := (0 : Int32)) dX4_tally_22 (by decide) rfl ?_
      cases hF
      exact lm_iretR C hr hk rfl dX4_tally_23
    · have hF := lm_brf hF c2
      refine lm_aload_n C dX4_tally_13 rfl 0 rfl rfl ?_
      refine lm_getf C (T := TX4) (N := 8) (v := .ref (a 16)) in4_X4_tally 0 rfl rfl 5 (by decide) fl47_X4_tally rfl rfl dX4_tally_14 rfl ?_
      refine lm_iload_n C dX4_tally_17 rfl 1 rfl rfl ?_
      obtain ⟨b3, hF⟩ := lm_gie hF
      refine lm_iald C (v := (σ 16 x1.toNatClampNeg)) 16 rfl b3 rfl dX4_tally_18 rfl ?_
      refine lm_goto C (tgt := 23) dX4_tally_19 (by decide) ?_
      cases hF
      exact lm_iretR C hr hk rfl dX4_tally_23
def F_X4_place (σ : Hp)  : Option Int32 :=
  some (σ 0 6)
theorem in4_X4_place : ∀ w ∈ u_ws RX4 TX4 8, w ∈ wsX4_place := by decide +kernel
theorem fl64_X4_place : Cond.fieldLink RX4 64 "LoopMemo$State" "place" "I" ∈ wsX4_place := by decide +kernel
set_option maxRecDepth 100000 in
set_option maxHeartbeats 4000000 in
theorem m_X4_place (D : va_G) (z zo : ClassId) (l : Launch) (a : Nat → Nat) (σ : Hp)  (r : Int32)  (hF : F_X4_place σ  = some r) : lm_CR D z zo l yX4_place wsX4_place 0 0 [.ref (a 0)] (stW z a σ) (some (.int r)) := by
  refine lm_CR.of (by decide) rfl (Nat.le_of_ble_eq_true rfl) (own := RX4) rfl ?_
  intro p e s m_ args below meth c C hr hk
  show lm_St p l e ({ frames := 0, cells := 0, slots := 0, locals := 0 }) s m_ args below meth c D (fun _ => False) 1 0 0 (lm_EndR below (some (.int r)) args s) true (stW z a σ) 0 [(0, .ref (a 0))] []
  rw [F_X4_place] at hF
  refine lm_aload_n C dX4_place_0 rfl 0 rfl rfl ?_
  refine lm_getf C (T := TX4) (N := 8) (v := .int (σ 0 6)) in4_X4_place 0 rfl rfl 6 (by decide) fl64_X4_place rfl rfl dX4_place_1 rfl ?_
  cases hF
  exact lm_iretR C hr hk rfl dX4_place_4
def F_X4_totalSoFar (σ : Hp)  : Option Int32 :=
  some (σ 0 7)
theorem in4_X4_totalSoFar : ∀ w ∈ u_ws RX4 TX4 8, w ∈ wsX4_totalSoFar := by decide +kernel
theorem fl68_X4_totalSoFar : Cond.fieldLink RX4 68 "LoopMemo$State" "total" "I" ∈ wsX4_totalSoFar := by decide +kernel
set_option maxRecDepth 100000 in
set_option maxHeartbeats 4000000 in
theorem m_X4_totalSoFar (D : va_G) (z zo : ClassId) (l : Launch) (a : Nat → Nat) (σ : Hp)  (r : Int32)  (hF : F_X4_totalSoFar σ  = some r) : lm_CR D z zo l yX4_totalSoFar wsX4_totalSoFar 0 0 [.ref (a 0)] (stW z a σ) (some (.int r)) := by
  refine lm_CR.of (by decide) rfl (Nat.le_of_ble_eq_true rfl) (own := RX4) rfl ?_
  intro p e s m_ args below meth c C hr hk
  show lm_St p l e ({ frames := 0, cells := 0, slots := 0, locals := 0 }) s m_ args below meth c D (fun _ => False) 1 0 0 (lm_EndR below (some (.int r)) args s) true (stW z a σ) 0 [(0, .ref (a 0))] []
  rw [F_X4_totalSoFar] at hF
  refine lm_aload_n C dX4_totalSoFar_0 rfl 0 rfl rfl ?_
  refine lm_getf C (T := TX4) (N := 8) (v := .int (σ 0 7)) in4_X4_totalSoFar 0 rfl rfl 7 (by decide) fl68_X4_totalSoFar rfl rfl dX4_totalSoFar_1 rfl ?_
  cases hF
  exact lm_iretR C hr hk rfl dX4_totalSoFar_4
def F_X4_isDone (σ : Hp) (x1 : Int32) : Option Int32 :=
  lm_br ((σ 0 6) ≤ x1)
   (some (0 : Int32))
   (some (1 : Int32))
theorem in4_X4_isDone : ∀ w ∈ u_ws RX4 TX4 8, w ∈ wsX4_isDone := by decide +kernel
theorem fl64_X4_isDone : Cond.fieldLink RX4 64 "LoopMemo$State" "place" "I" ∈ wsX4_isDone := by decide +kernel
set_option maxRecDepth 100000 in
set_option maxHeartbeats 4000000 in
theorem m_X4_isDone (D : va_G) (z zo : ClassId) (l : Launch) (a : Nat → Nat) (σ : Hp) (x1 : Int32) (r : Int32)  (hF : F_X4_isDone σ x1 = some r) : lm_CR D z zo l yX4_isDone wsX4_isDone 0 0 [.ref (a 0), .int x1] (stW z a σ) (some (.int r)) := by
  refine lm_CR.of (by decide) rfl (Nat.le_of_ble_eq_true rfl) (own := RX4) rfl ?_
  intro p e s m_ args below meth c C hr hk
  show lm_St p l e ({ frames := 0, cells := 0, slots := 0, locals := 0 }) s m_ args below meth c D (fun _ => False) 2 0 0 (lm_EndR below (some (.int r)) args s) true (stW z a σ) 0 [(0, .ref (a 0)), (1, .int x1)] []
  rw [F_X4_isDone] at hF
  refine lm_iload_n C dX4_isDone_0 rfl 1 rfl rfl ?_
  refine lm_aload_n C dX4_isDone_1 rfl 0 rfl rfl ?_
  refine lm_getf C (T := TX4) (N := 8) (v := .int (σ 0 6)) in4_X4_isDone 0 rfl rfl 6 (by decide) fl64_X4_isDone rfl rfl dX4_isDone_2 rfl ?_
  refine lm_icmp_ge C (tgt := 12) dX4_isDone_5 (by decide) rfl (fun c1 => ?_) (fun c1 => ?_)
  · have hF := lm_brt hF c1
    refine lm_iconst C (v := (0 : Int32)) dX4_isDone_12 (by decide) rfl ?_
    cases hF
    exact lm_zretR C hr hk rfl rfl dX4_isDone_13
  · have hF := lm_brf hF c1
    refine lm_iconst C (v := (1 : Int32)) dX4_isDone_8 (by decide) rfl ?_
    refine lm_goto C (tgt := 13) dX4_isDone_9 (by decide) ?_
    cases hF
    exact lm_zretR C hr hk rfl rfl dX4_isDone_13
def F_X4_isInBand (σ : Hp) (x1 : Int32) : Option Int32 :=
  lm_br (x1 < (σ 15 3))
   (some (0 : Int32))
   (lm_br ((σ 15 4) < x1)
    (some (0 : Int32))
    (some (1 : Int32)))
theorem in4_X4_isInBand : ∀ w ∈ u_ws RX4 TX4 8, w ∈ wsX4_isInBand := by decide +kernel
theorem fl44_X4_isInBand : Cond.fieldLink RX4 44 "LoopMemo$State" "settings" "[I" ∈ wsX4_isInBand := by decide +kernel
set_option maxRecDepth 100000 in
set_option maxHeartbeats 4000000 in
theorem m_X4_isInBand (D : va_G) (z zo : ClassId) (l : Launch) (a : Nat → Nat) (σ : Hp) (x1 : Int32) (r : Int32)  (hF : F_X4_isInBand σ x1 = some r) : lm_CR D z zo l yX4_isInBand wsX4_isInBand 0 0 [.ref (a 0), .int x1] (stW z a σ) (some (.int r)) := by
  refine lm_CR.of (by decide) rfl (Nat.le_of_ble_eq_true rfl) (own := RX4) rfl ?_
  intro p e s m_ args below meth c C hr hk
  show lm_St p l e ({ frames := 0, cells := 0, slots := 0, locals := 0 }) s m_ args below meth c D (fun _ => False) 2 0 0 (lm_EndR below (some (.int r)) args s) true (stW z a σ) 0 [(0, .ref (a 0)), (1, .int x1)] []
  rw [F_X4_isInBand] at hF
  refine lm_iload_n C dX4_isInBand_0 rfl 1 rfl rfl ?_
  refine lm_aload_n C dX4_isInBand_1 rfl 0 rfl rfl ?_
  refine lm_getf C (T := TX4) (N := 8) (v := .ref (a 15)) in4_X4_isInBand 0 rfl rfl 4 (by decide) fl44_X4_isInBand rfl rfl dX4_isInBand_2 rfl ?_
  refine lm_iconst C (v := (3 : Int32)) dX4_isInBand_5 (by decide) rfl ?_
  refine lm_iald C (v := (σ 15 3)) 15 rfl (by unfold vp_in; decide) rfl dX4_isInBand_6 rfl ?_
  refine lm_icmp_lt C (tgt := 24) dX4_isInBand_7 (by decide) rfl (fun c1 => ?_) (fun c1 => ?_)
  · have hF := lm_brt hF c1
    refine lm_iconst C (v := (0 : Int32)) dX4_isInBand_24 (by decide) rfl ?_
    cases hF
    exact lm_zretR C hr hk rfl rfl dX4_isInBand_25
  · have hF := lm_brf hF c1
    refine lm_iload_n C dX4_isInBand_10 rfl 1 rfl rfl ?_
    refine lm_aload_n C dX4_isInBand_11 rfl 0 rfl rfl ?_
    refine lm_getf C (T := TX4) (N := 8) (v := .ref (a 15)) in4_X4_isInBand 0 rfl rfl 4 (by decide) fl44_X4_isInBand rfl rfl dX4_isInBand_12 rfl ?_
    refine lm_iconst C (v := (4 : Int32)) dX4_isInBand_15 (by decide) rfl ?_
    refine lm_iald C (v := (σ 15 4)) 15 rfl (by unfold vp_in; decide) rfl dX4_isInBand_16 rfl ?_
    refine lm_icmp_gt C (tgt := 24) dX4_isInBand_17 (by decide) rfl (fun c2 => ?_) (fun c2 => ?_)
    · have hF := lm_brt hF c2
      refine lm_iconst C (v := (0 : Int32)) dX4_isInBand_24 (by decide) rfl ?_
      cases hF
      exact lm_zretR C hr hk rfl rfl dX4_isInBand_25
    · have hF := lm_brf hF c2
      refine lm_iconst C (v := (1 : Int32)) dX4_isInBand_20 (by decide) rfl ?_
      refine lm_goto C (tgt := 25) dX4_isInBand_21 (by decide) ?_
      cases hF
      exact lm_zretR C hr hk rfl rfl dX4_isInBand_25
def F_X4_isInRememberedAnswer (σ : Hp) (x1 : Int32) : Option Int32 :=
  lm_bd (F_X5_key (lm_sh 4 σ) x1) fun r1 =>
  lm_bd (F_X2_holds (lm_sh 11 σ) r1) fun r2 =>
  lm_br (r2 = 0)
   (some (0 : Int32))
   (lm_bd (F_X5_value (lm_sh 4 σ) x1) fun r4 =>
   lm_bd (F_X4_isInBand σ r4) fun r5 =>
   lm_br (r5 = 0)
    (some (0 : Int32))
    (some (1 : Int32)))
theorem in4_X4_isInRememberedAnswer : ∀ w ∈ u_ws RX4 TX4 8, w ∈ wsX4_isInRememberedAnswer := by decide +kernel
theorem fl31_X4_isInRememberedAnswer : Cond.fieldLink RX4 31 "LoopMemo$State" "memo" "LLoopMemo$Memo;" ∈ wsX4_isInRememberedAnswer := by decide +kernel
theorem fl18_X4_isInRememberedAnswer : Cond.fieldLink RX4 18 "LoopMemo$State" "inner" "LLoopMemo$Table;" ∈ wsX4_isInRememberedAnswer := by decide +kernel
set_option maxRecDepth 100000 in
set_option maxHeartbeats 4000000 in
theorem m_X4_isInRememberedAnswer (D : va_G) (z zo : ClassId) (l : Launch) (a : Nat → Nat) (σ : Hp) (x1 : Int32) (r : Int32)  (hF : F_X4_isInRememberedAnswer σ x1 = some r) : lm_CR D z zo l yX4_isInRememberedAnswer wsX4_isInRememberedAnswer 1 21 [.ref (a 0), .int x1] (stW z a σ) (some (.int r)) := by
  refine lm_CR.of (by decide) rfl (Nat.le_of_ble_eq_true rfl) (own := RX4) rfl ?_
  intro p e s m_ args below meth c C hr hk
  show lm_St p l e ({ frames := 1, cells := 0, slots := 0, locals := 21 }) s m_ args below meth c D (fun _ => False) 2 0 0 (lm_EndR below (some (.int r)) args s) true (stW z a σ) 0 [(0, .ref (a 0)), (1, .int x1)] []
  rw [F_X4_isInRememberedAnswer] at hF
  refine lm_aload_n C dX4_isInRememberedAnswer_0 rfl 0 rfl rfl ?_
  refine lm_getf C (T := TX4) (N := 8) (v := .ref (a 11)) in4_X4_isInRememberedAnswer 0 rfl rfl 3 (by decide) fl31_X4_isInRememberedAnswer rfl rfl dX4_isInRememberedAnswer_1 rfl ?_
  refine lm_aload_n C dX4_isInRememberedAnswer_4 rfl 0 rfl rfl ?_
  refine lm_getf C (T := TX4) (N := 8) (v := .ref (a 4)) in4_X4_isInRememberedAnswer 0 rfl rfl 1 (by decide) fl18_X4_isInRememberedAnswer rfl rfl dX4_isInRememberedAnswer_5 rfl ?_
  refine lm_iload_n C dX4_isInRememberedAnswer_8 rfl 1 rfl rfl ?_
  obtain ⟨r1, qr1, hF⟩ := lm_bde hF
  refine lm_callVR C (n := 1) (ci := 5) (m_X5_key D z zo l (lm_sh 4 a) (lm_sh 4 σ) x1 r1 qr1) gX4_isInRememberedAnswer_X5_key rfl (by decide +kernel) ⟨Nat.le_of_ble_eq_true rfl, Nat.le_of_ble_eq_true rfl⟩ ⟨Nat.le_of_ble_eq_true rfl, Nat.le_of_ble_eq_true rfl⟩ 4 rfl rfl (st_s4 z a σ) rfl rfl (Nat.le_of_ble_eq_true rfl) dX4_isInRememberedAnswer_9 (st' := [.int r1, .ref (a 11)]) rfl rfl ?_
  obtain ⟨r2, qr2, hF⟩ := lm_bde hF
  refine lm_callVR C (n := 1) (ci := 2) (m_X2_holds D z zo l (lm_sh 11 a) (lm_sh 11 σ) r1 r2 qr2) gX4_isInRememberedAnswer_X2_holds rfl (by decide +kernel) ⟨Nat.le_of_ble_eq_true rfl, Nat.le_of_ble_eq_true rfl⟩ ⟨Nat.le_of_ble_eq_true rfl, Nat.le_of_ble_eq_true rfl⟩ 11 rfl rfl (st_s11 z a σ) rfl rfl (Nat.le_of_ble_eq_true rfl) dX4_isInRememberedAnswer_12 (st' := [.int r2]) rfl rfl ?_
  refine lm_if_eq C (tgt := 37) dX4_isInRememberedAnswer_15 (by decide) rfl (fun c3 => ?_) (fun c3 => ?_)
  · have hF := lm_brt hF c3
    refine lm_iconst C (v := (0 : Int32)) dX4_isInRememberedAnswer_37 (by decide) rfl ?_
    cases hF
    exact lm_zretR C hr hk rfl rfl dX4_isInRememberedAnswer_38
  · have hF := lm_brf hF c3
    refine lm_aload_n C dX4_isInRememberedAnswer_18 rfl 0 rfl rfl ?_
    refine lm_aload_n C dX4_isInRememberedAnswer_19 rfl 0 rfl rfl ?_
    refine lm_getf C (T := TX4) (N := 8) (v := .ref (a 4)) in4_X4_isInRememberedAnswer 0 rfl rfl 1 (by decide) fl18_X4_isInRememberedAnswer rfl rfl dX4_isInRememberedAnswer_20 rfl ?_
    refine lm_iload_n C dX4_isInRememberedAnswer_23 rfl 1 rfl rfl ?_
    obtain ⟨r4, qr4, hF⟩ := lm_bde hF
    refine lm_callVR C (n := 1) (ci := 5) (m_X5_value D z zo l (lm_sh 4 a) (lm_sh 4 σ) x1 r4 qr4) gX4_isInRememberedAnswer_X5_value rfl (by decide +kernel) ⟨Nat.le_of_ble_eq_true rfl, Nat.le_of_ble_eq_true rfl⟩ ⟨Nat.le_of_ble_eq_true rfl, Nat.le_of_ble_eq_true rfl⟩ 4 rfl rfl (st_s4 z a σ) rfl rfl (Nat.le_of_ble_eq_true rfl) dX4_isInRememberedAnswer_24 (st' := [.int r4, .ref (a 0)]) rfl rfl ?_
    obtain ⟨r5, qr5, hF⟩ := lm_bde hF
    refine lm_callVR C (n := 1) (ci := 4) (m_X4_isInBand D z zo l a σ r4 r5 qr5) gX4_isInRememberedAnswer_X4_isInBand rfl (by decide +kernel) ⟨Nat.le_of_ble_eq_true rfl, Nat.le_of_ble_eq_true rfl⟩ ⟨Nat.le_of_ble_eq_true rfl, Nat.le_of_ble_eq_true rfl⟩ 0 rfl rfl (fun _ h => h) rfl rfl (Nat.le_of_ble_eq_true rfl) dX4_isInRememberedAnswer_27 (st' := [.int r5]) rfl rfl ?_
    refine lm_if_eq C (tgt := 37) dX4_isInRememberedAnswer_30 (by decide) rfl (fun c6 => ?_) (fun c6 => ?_)
    · have hF := lm_brt hF c6
      refine lm_iconst C (v := (0 : Int32)) dX4_isInRememberedAnswer_37 (by decide) rfl ?_
      cases hF
      exact lm_zretR C hr hk rfl rfl dX4_isInRememberedAnswer_38
    · have hF := lm_brf hF c6
      refine lm_iconst C (v := (1 : Int32)) dX4_isInRememberedAnswer_33 (by decide) rfl ?_
      refine lm_goto C (tgt := 38) dX4_isInRememberedAnswer_34 (by decide) ?_
      cases hF
      exact lm_zretR C hr hk rfl rfl dX4_isInRememberedAnswer_38
def F_X4_findAnswers (σ : Hp)  : Option (Hp) :=
  lm_bd (F_X0_find (lm_sh 7 σ) (lm_sh 4 σ) (σ 15 3) (σ 15 4)) fun τ1 =>
  lm_lt (lm_sb σ 7 4 τ1) fun σ2 =>
  some σ2
theorem in4_X4_findAnswers : ∀ w ∈ u_ws RX4 TX4 8, w ∈ wsX4_findAnswers := by decide +kernel
theorem fl24_X4_findAnswers : Cond.fieldLink RX4 24 "LoopMemo$State" "answers" "LLoopMemo$Answers;" ∈ wsX4_findAnswers := by decide +kernel
theorem fl18_X4_findAnswers : Cond.fieldLink RX4 18 "LoopMemo$State" "inner" "LLoopMemo$Table;" ∈ wsX4_findAnswers := by decide +kernel
theorem fl44_X4_findAnswers : Cond.fieldLink RX4 44 "LoopMemo$State" "settings" "[I" ∈ wsX4_findAnswers := by decide +kernel
set_option maxRecDepth 100000 in
set_option maxHeartbeats 4000000 in
theorem m_X4_findAnswers (D : va_G) (z zo : ClassId) (l : Launch) (a : Nat → Nat) (σ : Hp)   (σ' : Hp) (hF : F_X4_findAnswers σ  = some σ') : lm_C D z zo l yX4_findAnswers wsX4_findAnswers 2 47 [.ref (a 0)] (stW z a σ) none (stW z a σ') := by
  refine lm_C.of (by decide) rfl (Nat.le_of_ble_eq_true rfl) (own := RX4) rfl ?_
  intro p e s m_ args below meth c C hr hk hA
  show lm_St p l e ({ frames := 2, cells := 0, slots := 0, locals := 47 }) s m_ args below meth c D (va_A (stW z a σ) s.heap.size) 1 0 0 (lm_End below D none (stW z a σ) (stW z a σ') args s) false (stW z a σ) 0 [(0, .ref (a 0))] []
  rw [F_X4_findAnswers] at hF
  refine lm_aload_n C dX4_findAnswers_0 rfl 0 rfl rfl ?_
  refine lm_getf C (T := TX4) (N := 8) (v := .ref (a 7)) in4_X4_findAnswers 0 rfl rfl 2 (by decide) fl24_X4_findAnswers rfl rfl dX4_findAnswers_1 rfl ?_
  refine lm_aload_n C dX4_findAnswers_4 rfl 0 rfl rfl ?_
  refine lm_getf C (T := TX4) (N := 8) (v := .ref (a 4)) in4_X4_findAnswers 0 rfl rfl 1 (by decide) fl18_X4_findAnswers rfl rfl dX4_findAnswers_5 rfl ?_
  refine lm_aload_n C dX4_findAnswers_8 rfl 0 rfl rfl ?_
  refine lm_getf C (T := TX4) (N := 8) (v := .ref (a 15)) in4_X4_findAnswers 0 rfl rfl 4 (by decide) fl44_X4_findAnswers rfl rfl dX4_findAnswers_9 rfl ?_
  refine lm_iconst C (v := (3 : Int32)) dX4_findAnswers_12 (by decide) rfl ?_
  refine lm_iald C (v := (σ 15 3)) 15 rfl (by unfold vp_in; decide) rfl dX4_findAnswers_13 rfl ?_
  refine lm_aload_n C dX4_findAnswers_14 rfl 0 rfl rfl ?_
  refine lm_getf C (T := TX4) (N := 8) (v := .ref (a 15)) in4_X4_findAnswers 0 rfl rfl 4 (by decide) fl44_X4_findAnswers rfl rfl dX4_findAnswers_15 rfl ?_
  refine lm_iconst C (v := (4 : Int32)) dX4_findAnswers_18 (by decide) rfl ?_
  refine lm_iald C (v := (σ 15 4)) 15 rfl (by unfold vp_in; decide) rfl dX4_findAnswers_19 rfl ?_
  obtain ⟨τ1, qτ1, hF⟩ := lm_bde hF
  obtain ⟨σ2, eσ2, hF⟩ := lm_lte hF
  refine lm_callV C (n := 3) (ci := 0) (w' := (stW z a σ2)) hA (m_X0_find D z zo l (lm_sh 7 a) (lm_sh 4 a) (lm_sh 7 σ) (lm_sh 4 σ) (σ 15 3) (σ 15 4) τ1 qτ1) gX4_findAnswers_X0_find rfl (by decide +kernel) ⟨Nat.le_of_ble_eq_true rfl, Nat.le_of_ble_eq_true rfl⟩ ⟨Nat.le_of_ble_eq_true rfl, Nat.le_of_ble_eq_true rfl⟩ 7 rfl rfl (st_g74 z a σ) (by rw [← eσ2]; exact st_p74 z a σ τ1) rfl rfl (Nat.le_of_ble_eq_true rfl) dX4_findAnswers_20 (st' := []) rfl rfl ?_
  cases hF
  exact lm_vret C hr hk rfl rfl dX4_findAnswers_23
def F_X4_throwAllOut (σ : Hp)  : Option (Int32 × (Hp)) :=
  lm_b2 (F_X2_loseAll (lm_sh 11 σ)) fun r3 τ1 =>
  lm_lt (lm_sb σ 11 4 τ1) fun σ2 =>
  lm_lt (lm_u σ2 16 4 ((σ2 16 4) + r3)) fun σ4 =>
  some (r3, σ4)
theorem in4_X4_throwAllOut : ∀ w ∈ u_ws RX4 TX4 8, w ∈ wsX4_throwAllOut := by decide +kernel
theorem fl31_X4_throwAllOut : Cond.fieldLink RX4 31 "LoopMemo$State" "memo" "LLoopMemo$Memo;" ∈ wsX4_throwAllOut := by decide +kernel
theorem fl47_X4_throwAllOut : Cond.fieldLink RX4 47 "LoopMemo$State" "tallies" "[I" ∈ wsX4_throwAllOut := by decide +kernel
set_option maxRecDepth 100000 in
set_option maxHeartbeats 4000000 in
theorem m_X4_throwAllOut (D : va_G) (z zo : ClassId) (l : Launch) (a : Nat → Nat) (σ : Hp)  (r : Int32) (σ' : Hp) (hF : F_X4_throwAllOut σ  = some (r, σ')) : lm_C D z zo l yX4_throwAllOut wsX4_throwAllOut 2 44 [.ref (a 0)] (stW z a σ) (some (.int r)) (stW z a σ') := by
  refine lm_C.of (by decide) rfl (Nat.le_of_ble_eq_true rfl) (own := RX4) rfl ?_
  intro p e s m_ args below meth c C hr hk hA
  show lm_St p l e ({ frames := 2, cells := 0, slots := 0, locals := 44 }) s m_ args below meth c D (va_A (stW z a σ) s.heap.size) 2 0 0 (lm_End below D (some (.int r)) (stW z a σ) (stW z a σ') args s) false (stW z a σ) 0 [(0, .ref (a 0))] []
  rw [F_X4_throwAllOut] at hF
  refine lm_aload_n C dX4_throwAllOut_0 rfl 0 rfl rfl ?_
  refine lm_getf C (T := TX4) (N := 8) (v := .ref (a 11)) in4_X4_throwAllOut 0 rfl rfl 3 (by decide) fl31_X4_throwAllOut rfl rfl dX4_throwAllOut_1 rfl ?_
  obtain ⟨r3, τ1, qτ1, hF⟩ := lm_b2e hF
  obtain ⟨σ2, eσ2, hF⟩ := lm_lte hF
  refine lm_callV C (n := 0) (ci := 2) (w' := (stW z a σ2)) hA (m_X2_loseAll D z zo l (lm_sh 11 a) (lm_sh 11 σ)  r3 τ1 qτ1) gX4_throwAllOut_X2_loseAll rfl (by decide +kernel) ⟨Nat.le_of_ble_eq_true rfl, Nat.le_of_ble_eq_true rfl⟩ ⟨Nat.le_of_ble_eq_true rfl, Nat.le_of_ble_eq_true rfl⟩ 11 rfl rfl (st_g11 z a σ) (by rw [← eσ2]; exact st_p11 z a σ τ1) rfl rfl (Nat.le_of_ble_eq_true rfl) dX4_throwAllOut_4 (st' := [.int r3]) rfl rfl ?_
  refine lm_istore_n C (lv' := [(0, .ref (a 0)), (1, .int r3)]) dX4_throwAllOut_7 rfl (by decide) rfl [1, 0] rfl rfl ?_
  refine lm_aload_n C dX4_throwAllOut_8 rfl 0 rfl rfl ?_
  refine lm_getf C (T := TX4) (N := 8) (v := .ref (a 16)) in4_X4_throwAllOut 0 rfl rfl 5 (by decide) fl47_X4_throwAllOut rfl rfl dX4_throwAllOut_9 rfl ?_
  refine lm_iconst C (v := (4 : Int32)) dX4_throwAllOut_12 (by decide) rfl ?_
  refine lm_dup2 C dX4_throwAllOut_13 rfl rfl rfl ?_
  refine lm_iald C (v := (σ2 16 4)) 16 rfl (by unfold vp_in; decide) rfl dX4_throwAllOut_14 rfl ?_
  refine lm_iload_n C dX4_throwAllOut_15 rfl 1 rfl rfl ?_
  refine lm_iadd C dX4_throwAllOut_16 rfl rfl ?_
  obtain ⟨σ4, eσ4, hF⟩ := lm_lte hF
  refine lm_iast C (w' := (stW z a σ4)) 16 rfl (by unfold vp_in; decide) dX4_throwAllOut_17 (by rw [← eσ4]; rfl) rfl ?_
  refine lm_iload_n C dX4_throwAllOut_18 rfl 1 rfl rfl ?_
  cases hF
  exact lm_iret C hr hk rfl rfl dX4_throwAllOut_19
def F_X4_keepAnswerTrue (σ : Hp) (x1 : Int32) : Option (Hp) :=
  lm_bd (F_X2_holds (lm_sh 11 σ) x1) fun r1 =>
  lm_br (¬ r1 = 0)
   (lm_br (¬ (σ 15 2) = (2 : Int32))
    (lm_bd (F_X2_lose (lm_sh 11 σ) x1) fun τ4 =>
    lm_lt (lm_sb σ 11 4 τ4) fun σ5 =>
    lm_lt (lm_u σ5 16 4 ((σ5 16 4) + (1 : Int32))) fun σ6 =>
    some σ6)
    (lm_lt (lm_u σ 16 6 ((σ 16 6) + (1 : Int32))) fun σ7 =>
    some σ7))
   (some σ)
theorem in4_X4_keepAnswerTrue : ∀ w ∈ u_ws RX4 TX4 8, w ∈ wsX4_keepAnswerTrue := by decide +kernel
theorem fl31_X4_keepAnswerTrue : Cond.fieldLink RX4 31 "LoopMemo$State" "memo" "LLoopMemo$Memo;" ∈ wsX4_keepAnswerTrue := by decide +kernel
theorem fl44_X4_keepAnswerTrue : Cond.fieldLink RX4 44 "LoopMemo$State" "settings" "[I" ∈ wsX4_keepAnswerTrue := by decide +kernel
theorem fl47_X4_keepAnswerTrue : Cond.fieldLink RX4 47 "LoopMemo$State" "tallies" "[I" ∈ wsX4_keepAnswerTrue := by decide +kernel
set_option maxRecDepth 100000 in
set_option maxHeartbeats 4000000 in
theorem m_X4_keepAnswerTrue (D : va_G) (z zo : ClassId) (l : Launch) (a : Nat → Nat) (σ : Hp) (x1 : Int32)  (σ' : Hp) (hF : F_X4_keepAnswerTrue σ x1 = some σ') : lm_C D z zo l yX4_keepAnswerTrue wsX4_keepAnswerTrue 1 21 [.ref (a 0), .int x1] (stW z a σ) none (stW z a σ') := by
  refine lm_C.of (by decide) rfl (Nat.le_of_ble_eq_true rfl) (own := RX4) rfl ?_
  intro p e s m_ args below meth c C hr hk hA
  show lm_St p l e ({ frames := 1, cells := 0, slots := 0, locals := 21 }) s m_ args below meth c D (va_A (stW z a σ) s.heap.size) 2 0 0 (lm_End below D none (stW z a σ) (stW z a σ') args s) false (stW z a σ) 0 [(0, .ref (a 0)), (1, .int x1)] []
  rw [F_X4_keepAnswerTrue] at hF
  refine lm_aload_n C dX4_keepAnswerTrue_0 rfl 0 rfl rfl ?_
  refine lm_getf C (T := TX4) (N := 8) (v := .ref (a 11)) in4_X4_keepAnswerTrue 0 rfl rfl 3 (by decide) fl31_X4_keepAnswerTrue rfl rfl dX4_keepAnswerTrue_1 rfl ?_
  refine lm_iload_n C dX4_keepAnswerTrue_4 rfl 1 rfl rfl ?_
  obtain ⟨r1, qr1, hF⟩ := lm_bde hF
  refine lm_callVR C (n := 1) (ci := 2) (m_X2_holds D z zo l (lm_sh 11 a) (lm_sh 11 σ) x1 r1 qr1) gX4_keepAnswerTrue_X2_holds rfl (by decide +kernel) ⟨Nat.le_of_ble_eq_true rfl, Nat.le_of_ble_eq_true rfl⟩ ⟨Nat.le_of_ble_eq_true rfl, Nat.le_of_ble_eq_true rfl⟩ 11 rfl rfl (st_s11 z a σ) rfl rfl (Nat.le_of_ble_eq_true rfl) dX4_keepAnswerTrue_5 (st' := [.int r1]) rfl rfl ?_
  refine lm_if_ne C (tgt := 12) dX4_keepAnswerTrue_8 (by decide) rfl (fun c2 => ?_) (fun c2 => ?_)
  · have hF := lm_brt hF c2
    refine lm_aload_n C dX4_keepAnswerTrue_12 rfl 0 rfl rfl ?_
    refine lm_getf C (T := TX4) (N := 8) (v := .ref (a 15)) in4_X4_keepAnswerTrue 0 rfl rfl 4 (by decide) fl44_X4_keepAnswerTrue rfl rfl dX4_keepAnswerTrue_13 rfl ?_
    refine lm_iconst C (v := (2 : Int32)) dX4_keepAnswerTrue_16 (by decide) rfl ?_
    refine lm_iald C (v := (σ 15 2)) 15 rfl (by unfold vp_in; decide) rfl dX4_keepAnswerTrue_17 rfl ?_
    refine lm_iconst C (v := (2 : Int32)) dX4_keepAnswerTrue_18 (by decide) rfl ?_
    refine lm_icmp_ne C (tgt := 36) dX4_keepAnswerTrue_19 (by decide) rfl (fun c3 => ?_) (fun c3 => ?_)
    · have hF := lm_brt hF c3
      refine lm_aload_n C dX4_keepAnswerTrue_36 rfl 0 rfl rfl ?_
      refine lm_getf C (T := TX4) (N := 8) (v := .ref (a 11)) in4_X4_keepAnswerTrue 0 rfl rfl 3 (by decide) fl31_X4_keepAnswerTrue rfl rfl dX4_keepAnswerTrue_37 rfl ?_
      refine lm_iload_n C dX4_keepAnswerTrue_40 rfl 1 rfl rfl ?_
      obtain ⟨τ4, qτ4, hF⟩ := lm_bde hF
      obtain ⟨σ5, eσ5, hF⟩ := lm_lte hF
      refine lm_callV C (n := 1) (ci := 2) (w' := (stW z a σ5)) hA (m_X2_lose D z zo l (lm_sh 11 a) (lm_sh 11 σ) x1 τ4 qτ4) gX4_keepAnswerTrue_X2_lose rfl (by decide +kernel) ⟨Nat.le_of_ble_eq_true rfl, Nat.le_of_ble_eq_true rfl⟩ ⟨Nat.le_of_ble_eq_true rfl, Nat.le_of_ble_eq_true rfl⟩ 11 rfl rfl (st_g11 z a σ) (by rw [← eσ5]; exact st_p11 z a σ τ4) rfl rfl (Nat.le_of_ble_eq_true rfl) dX4_keepAnswerTrue_41 (st' := []) rfl rfl ?_
      refine lm_aload_n C dX4_keepAnswerTrue_44 rfl 0 rfl rfl ?_
      refine lm_getf C (T := TX4) (N := 8) (v := .ref (a 16)) in4_X4_keepAnswerTrue 0 rfl rfl 5 (by decide) fl47_X4_keepAnswerTrue rfl rfl dX4_keepAnswerTrue_45 rfl ?_
      refine lm_iconst C (v := (4 : Int32)) dX4_keepAnswerTrue_48 (by decide) rfl ?_
      refine lm_dup2 C dX4_keepAnswerTrue_49 rfl rfl rfl ?_
      refine lm_iald C (v := (σ5 16 4)) 16 rfl (by unfold vp_in; decide) rfl dX4_keepAnswerTrue_50 rfl ?_
      refine lm_iconst C (v := (1 : Int32)) dX4_keepAnswerTrue_51 (by decide) rfl ?_
      refine lm_iadd C dX4_keepAnswerTrue_52 rfl rfl ?_
      obtain ⟨σ6, eσ6, hF⟩ := lm_lte hF
      refine lm_iast C (w' := (stW z a σ6)) 16 rfl (by unfold vp_in; decide) dX4_keepAnswerTrue_53 (by rw [← eσ6]; rfl) rfl ?_
      cases hF
      exact lm_vret C hr hk rfl rfl dX4_keepAnswerTrue_54
    · have hF := lm_brf hF c3
      refine lm_aload_n C dX4_keepAnswerTrue_22 rfl 0 rfl rfl ?_
      refine lm_getf C (T := TX4) (N := 8) (v := .ref (a 16)) in4_X4_keepAnswerTrue 0 rfl rfl 5 (by decide) fl47_X4_keepAnswerTrue rfl rfl dX4_keepAnswerTrue_23 rfl ?_
      refine lm_bipush C (v := (6 : Int32)) dX4_keepAnswerTrue_26 (by decide) rfl ?_
      refine lm_dup2 C dX4_keepAnswerTrue_28 rfl rfl rfl ?_
      refine lm_iald C (v := (σ 16 6)) 16 rfl (by unfold vp_in; decide) rfl dX4_keepAnswerTrue_29 rfl ?_
      refine lm_iconst C (v := (1 : Int32)) dX4_keepAnswerTrue_30 (by decide) rfl ?_
      refine lm_iadd C dX4_keepAnswerTrue_31 rfl rfl ?_
      obtain ⟨σ7, eσ7, hF⟩ := lm_lte hF
      refine lm_iast C (w' := (stW z a σ7)) 16 rfl (by unfold vp_in; decide) dX4_keepAnswerTrue_32 (by rw [← eσ7]; rfl) rfl ?_
      refine lm_goto C (tgt := 54) dX4_keepAnswerTrue_33 (by decide) ?_
      cases hF
      exact lm_vret C hr hk rfl rfl dX4_keepAnswerTrue_54
  · have hF := lm_brf hF c2
    cases hF
    exact lm_vret C hr hk rfl rfl dX4_keepAnswerTrue_11
def F_X4_keepTrue (σ : Hp) (x1 x2 : Int32) : Option (Hp) :=
  lm_bd (F_X4_findAnswers σ) fun σ1 =>
  lm_br (¬ (σ1 15 2) = (1 : Int32))
   (lm_bd (F_X4_keepAnswerTrue σ1 x1) fun σ3 =>
   lm_br (x2 = x1)
    (some σ3)
    (lm_bd (F_X4_keepAnswerTrue σ3 x2) fun σ5 =>
    some σ5))
   (lm_b2 (F_X4_throwAllOut σ1) fun r7 σ6 =>
   some σ6)
theorem in4_X4_keepTrue : ∀ w ∈ u_ws RX4 TX4 8, w ∈ wsX4_keepTrue := by decide +kernel
theorem fl44_X4_keepTrue : Cond.fieldLink RX4 44 "LoopMemo$State" "settings" "[I" ∈ wsX4_keepTrue := by decide +kernel
set_option maxRecDepth 100000 in
set_option maxHeartbeats 4000000 in
theorem m_X4_keepTrue (D : va_G) (z zo : ClassId) (l : Launch) (a : Nat → Nat) (σ : Hp) (x1 x2 : Int32)  (σ' : Hp) (hF : F_X4_keepTrue σ x1 x2 = some σ') : lm_C D z zo l yX4_keepTrue wsX4_keepTrue 3 67 [.ref (a 0), .int x1, .int x2] (stW z a σ) none (stW z a σ') := by
  refine lm_C.of (by decide) rfl (Nat.le_of_ble_eq_true rfl) (own := RX4) rfl ?_
  intro p e s m_ args below meth c C hr hk hA
  show lm_St p l e ({ frames := 3, cells := 0, slots := 0, locals := 67 }) s m_ args below meth c D (va_A (stW z a σ) s.heap.size) 3 0 0 (lm_End below D none (stW z a σ) (stW z a σ') args s) false (stW z a σ) 0 [(0, .ref (a 0)), (1, .int x1), (2, .int x2)] []
  rw [F_X4_keepTrue] at hF
  refine lm_aload_n C dX4_keepTrue_0 rfl 0 rfl rfl ?_
  obtain ⟨σ1, qσ1, hF⟩ := lm_bde hF
  refine lm_callV C (n := 0) (ci := 4) (w' := (stW z a σ1)) hA (m_X4_findAnswers D z zo l a σ  σ1 qσ1) gX4_keepTrue_X4_findAnswers rfl (by decide +kernel) ⟨Nat.le_of_ble_eq_true rfl, Nat.le_of_ble_eq_true rfl⟩ ⟨Nat.le_of_ble_eq_true rfl, Nat.le_of_ble_eq_true rfl⟩ 0 rfl rfl lm_pr lm_pr' rfl rfl (Nat.le_of_ble_eq_true rfl) dX4_keepTrue_1 (st' := []) rfl rfl ?_
  refine lm_aload_n C dX4_keepTrue_4 rfl 0 rfl rfl ?_
  refine lm_getf C (T := TX4) (N := 8) (v := .ref (a 15)) in4_X4_keepTrue 0 rfl rfl 4 (by decide) fl44_X4_keepTrue rfl rfl dX4_keepTrue_5 rfl ?_
  refine lm_iconst C (v := (2 : Int32)) dX4_keepTrue_8 (by decide) rfl ?_
  refine lm_iald C (v := (σ1 15 2)) 15 rfl (by unfold vp_in; decide) rfl dX4_keepTrue_9 rfl ?_
  refine lm_iconst C (v := (1 : Int32)) dX4_keepTrue_10 (by decide) rfl ?_
  refine lm_icmp_ne C (tgt := 20) dX4_keepTrue_11 (by decide) rfl (fun c2 => ?_) (fun c2 => ?_)
  · have hF := lm_brt hF c2
    refine lm_aload_n C dX4_keepTrue_20 rfl 0 rfl rfl ?_
    refine lm_iload_n C dX4_keepTrue_21 rfl 1 rfl rfl ?_
    obtain ⟨σ3, qσ3, hF⟩ := lm_bde hF
    refine lm_callV C (n := 1) (ci := 4) (w' := (stW z a σ3)) hA (m_X4_keepAnswerTrue D z zo l a σ1 x1 σ3 qσ3) gX4_keepTrue_X4_keepAnswerTrue rfl (by decide +kernel) ⟨Nat.le_of_ble_eq_true rfl, Nat.le_of_ble_eq_true rfl⟩ ⟨Nat.le_of_ble_eq_true rfl, Nat.le_of_ble_eq_true rfl⟩ 0 rfl rfl lm_pr lm_pr' rfl rfl (Nat.le_of_ble_eq_true rfl) dX4_keepTrue_22 (st' := []) rfl rfl ?_
    refine lm_iload_n C dX4_keepTrue_25 rfl 2 rfl rfl ?_
    refine lm_iload_n C dX4_keepTrue_26 rfl 1 rfl rfl ?_
    refine lm_icmp_eq C (tgt := 35) dX4_keepTrue_27 (by decide) rfl (fun c4 => ?_) (fun c4 => ?_)
    · have hF := lm_brt hF c4
      cases hF
      exact lm_vret C hr hk rfl rfl dX4_keepTrue_35
    · have hF := lm_brf hF c4
      refine lm_aload_n C dX4_keepTrue_30 rfl 0 rfl rfl ?_
      refine lm_iload_n C dX4_keepTrue_31 rfl 2 rfl rfl ?_
      obtain ⟨σ5, qσ5, hF⟩ := lm_bde hF
      refine lm_callV C (n := 1) (ci := 4) (w' := (stW z a σ5)) hA (m_X4_keepAnswerTrue D z zo l a σ3 x2 σ5 qσ5) gX4_keepTrue_X4_keepAnswerTrue rfl (by decide +kernel) ⟨Nat.le_of_ble_eq_true rfl, Nat.le_of_ble_eq_true rfl⟩ ⟨Nat.le_of_ble_eq_true rfl, Nat.le_of_ble_eq_true rfl⟩ 0 rfl rfl lm_pr lm_pr' rfl rfl (Nat.le_of_ble_eq_true rfl) dX4_keepTrue_32 (st' := []) rfl rfl ?_
      cases hF
      exact lm_vret C hr hk rfl rfl dX4_keepTrue_35
  · have hF := lm_brf hF c2
    refine lm_aload_n C dX4_keepTrue_14 rfl 0 rfl rfl ?_
    obtain ⟨r7, σ6, qσ6, hF⟩ := lm_b2e hF
    refine lm_callV C (n := 0) (ci := 4) (w' := (stW z a σ6)) hA (m_X4_throwAllOut D z zo l a σ1  r7 σ6 qσ6) gX4_keepTrue_X4_throwAllOut rfl (by decide +kernel) ⟨Nat.le_of_ble_eq_true rfl, Nat.le_of_ble_eq_true rfl⟩ ⟨Nat.le_of_ble_eq_true rfl, Nat.le_of_ble_eq_true rfl⟩ 0 rfl rfl lm_pr lm_pr' rfl rfl (Nat.le_of_ble_eq_true rfl) dX4_keepTrue_15 (st' := [.int r7]) rfl rfl ?_
    refine lm_pop C dX4_keepTrue_18 rfl rfl ?_
    cases hF
    exact lm_vret C hr hk rfl rfl dX4_keepTrue_19
def F_X4_insertRow (σ : Hp) (x1 x2 x3 : Int32) : Option (Int32 × (Hp)) :=
  lm_bd (F_X6_isRow x2 x3) fun r1 =>
  lm_br (¬ r1 = 0)
   (lm_br (x1 = 0)
    (lm_bd (F_X5_size (lm_sh 1 σ)) fun r4 =>
    lm_br (r4 < (20 : Int32))
     (lm_bd (F_X5_push (lm_sh 1 σ) x2 x3) fun τ6 =>
     lm_lt (lm_sb σ 1 3 τ6) fun σ7 =>
     lm_bd (F_X5_size (lm_sh 1 σ7)) fun r9 =>
     some ((r9 - (1 : Int32)), σ7))
     (some ((-3 : Int32), σ)))
    (lm_bd (F_X5_size (lm_sh 4 σ)) fun r10 =>
    lm_br (r10 < (20 : Int32))
     (lm_bd (F_X5_push (lm_sh 4 σ) x2 x3) fun τ12 =>
     lm_lt (lm_sb σ 4 3 τ12) fun σ13 =>
     lm_bd (F_X4_keepTrue σ13 x2 x2) fun σ15 =>
     lm_bd (F_X5_size (lm_sh 4 σ15)) fun r16 =>
     some ((r16 - (1 : Int32)), σ15))
     (some ((-3 : Int32), σ))))
   (some ((-1 : Int32), σ))
theorem ini_X6_isRow_X4_insertRow : Cond.initialized yX6_isRow.cls ∈ wsX4_insertRow := by decide +kernel
theorem sta_X6_isRow_X4_insertRow : Cond.static yX6_isRow ∈ wsX4_insertRow := by decide +kernel
set_option maxRecDepth 100000 in
set_option maxHeartbeats 4000000 in
theorem m_X4_insertRow (D : va_G) (z zo : ClassId) (l : Launch) (a : Nat → Nat) (σ : Hp) (x1 x2 x3 : Int32) (r : Int32) (σ' : Hp) (hF : F_X4_insertRow σ x1 x2 x3 = some (r, σ')) : lm_C D z zo l yX4_insertRow wsX4_insertRow 4 89 [.ref (a 0), .int x1, .int x2, .int x3] (stW z a σ) (some (.int r)) (stW z a σ') := by
  refine lm_C.of (by decide) rfl (Nat.le_of_ble_eq_true rfl) (own := RX4) rfl ?_
  intro p e s m_ args below meth c C hr hk hA
  show lm_St p l e ({ frames := 4, cells := 0, slots := 0, locals := 89 }) s m_ args below meth c D (va_A (stW z a σ) s.heap.size) 5 0 0 (lm_End below D (some (.int r)) (stW z a σ) (stW z a σ') args s) false (stW z a σ) 0 [(0, .ref (a 0)), (1, .int x1), (2, .int x2), (3, .int x3)] []
  rw [F_X4_insertRow] at hF
  refine lm_iload_n C dX4_insertRow_0 rfl 2 rfl rfl ?_
  refine lm_iload_n C dX4_insertRow_1 rfl 3 rfl rfl ?_
  obtain ⟨r1, qr1, hF⟩ := lm_bde hF
  refine lm_callSNR C (n := 2) (m_X6_isRow D z zo l   x2 x3 r1 qr1) gX4_insertRow_X6_isRow_n85 rfl ini_X6_isRow_X4_insertRow sta_X6_isRow_X4_insertRow (by decide +kernel) ⟨Nat.le_of_ble_eq_true rfl, Nat.le_of_ble_eq_true rfl⟩ ⟨Nat.le_of_ble_eq_true rfl, Nat.le_of_ble_eq_true rfl⟩ (by decide +kernel) (fun _ h => absurd h List.not_mem_nil) rfl rfl (Nat.le_of_ble_eq_true rfl) dX4_insertRow_2 (st' := [.int r1]) rfl rfl ?_
  refine lm_if_ne C (tgt := 10) dX4_insertRow_5 (by decide) rfl (fun c2 => ?_) (fun c2 => ?_)
  · have hF := lm_brt hF c2
    refine lm_aload_n C dX4_insertRow_10 rfl 0 rfl rfl ?_
    refine lm_iload_n C dX4_insertRow_11 rfl 1 rfl rfl ?_
    rcases Classical.em (x1 = 0) with c3 | c3
    · have hF := lm_brt hF c3
      refine lm_callVR C (n := 1) (ci := 4) (m_X4_table_1 D z zo l a σ x1 c3) gX4_insertRow_X4_table rfl (by decide +kernel) ⟨Nat.le_of_ble_eq_true rfl, Nat.le_of_ble_eq_true rfl⟩ ⟨Nat.le_of_ble_eq_true rfl, Nat.le_of_ble_eq_true rfl⟩ 0 rfl rfl (fun _ h => h) rfl rfl (Nat.le_of_ble_eq_true rfl) dX4_insertRow_12 (st' := [.ref (a 1)]) rfl rfl ?_
      refine lm_astore C (lv' := [(0, .ref (a 0)), (1, .int x1), (2, .int x2), (3, .int x3), (4, .ref (a 1))]) dX4_insertRow_15 (by decide) rfl [1, 2, 3, 4, 0] rfl rfl ?_
      refine lm_aload C dX4_insertRow_17 4 rfl rfl ?_
      obtain ⟨r4, qr4, hF⟩ := lm_bde hF
      refine lm_callVR C (n := 0) (ci := 5) (m_X5_size D z zo l (lm_sh 1 a) (lm_sh 1 σ)  r4 qr4) gX4_insertRow_X5_size rfl (by decide +kernel) ⟨Nat.le_of_ble_eq_true rfl, Nat.le_of_ble_eq_true rfl⟩ ⟨Nat.le_of_ble_eq_true rfl, Nat.le_of_ble_eq_true rfl⟩ 1 rfl rfl (st_s1 z a σ) rfl rfl (Nat.le_of_ble_eq_true rfl) dX4_insertRow_19 (st' := [.int r4]) rfl rfl ?_
      refine lm_bipush C (v := (20 : Int32)) dX4_insertRow_22 (by decide) rfl ?_
      refine lm_icmp_lt C (tgt := 30) dX4_insertRow_24 (by decide) rfl (fun c5 => ?_) (fun c5 => ?_)
      · have hF := lm_brt hF c5
        refine lm_aload C dX4_insertRow_30 4 rfl rfl ?_
        refine lm_iload_n C dX4_insertRow_32 rfl 2 rfl rfl ?_
        refine lm_iload_n C dX4_insertRow_33 rfl 3 rfl rfl ?_
        obtain ⟨τ6, qτ6, hF⟩ := lm_bde hF
        obtain ⟨σ7, eσ7, hF⟩ := lm_lte hF
        refine lm_callV C (n := 2) (ci := 5) (w' := (stW z a σ7)) hA (m_X5_push D z zo l (lm_sh 1 a) (lm_sh 1 σ) x2 x3 τ6 qτ6) gX4_insertRow_X5_push rfl (by decide +kernel) ⟨Nat.le_of_ble_eq_true rfl, Nat.le_of_ble_eq_true rfl⟩ ⟨Nat.le_of_ble_eq_true rfl, Nat.le_of_ble_eq_true rfl⟩ 1 rfl rfl (st_g1 z a σ) (by rw [← eσ7]; exact st_p1 z a σ τ6) rfl rfl (Nat.le_of_ble_eq_true rfl) dX4_insertRow_34 (st' := []) rfl rfl ?_
        refine lm_iload_n C dX4_insertRow_37 rfl 1 rfl rfl ?_
        refine lm_if_eq C (tgt := 47) dX4_insertRow_38 (by decide) rfl (fun c8 => ?_) (fun c8 => ?_)
        · refine lm_aload C dX4_insertRow_47 4 rfl rfl ?_
          obtain ⟨r9, qr9, hF⟩ := lm_bde hF
          refine lm_callVR C (n := 0) (ci := 5) (m_X5_size D z zo l (lm_sh 1 a) (lm_sh 1 σ7)  r9 qr9) gX4_insertRow_X5_size rfl (by decide +kernel) ⟨Nat.le_of_ble_eq_true rfl, Nat.le_of_ble_eq_true rfl⟩ ⟨Nat.le_of_ble_eq_true rfl, Nat.le_of_ble_eq_true rfl⟩ 1 rfl rfl (st_s1 z a σ7) rfl rfl (Nat.le_of_ble_eq_true rfl) dX4_insertRow_49 (st' := [.int r9]) rfl rfl ?_
          refine lm_iconst C (v := (1 : Int32)) dX4_insertRow_52 (by decide) rfl ?_
          refine lm_isub C dX4_insertRow_53 rfl rfl ?_
          cases hF
          exact lm_iret C hr hk rfl rfl dX4_insertRow_54
        · exact (by simp_all : False).elim
      · have hF := lm_brf hF c5
        refine lm_bipush C (v := (-3 : Int32)) dX4_insertRow_27 (by decide) rfl ?_
        cases hF
        exact lm_iret C hr hk rfl rfl dX4_insertRow_29
    · have hF := lm_brf hF c3
      refine lm_callVR C (n := 1) (ci := 4) (m_X4_table_2 D z zo l a σ x1 c3) gX4_insertRow_X4_table rfl (by decide +kernel) ⟨Nat.le_of_ble_eq_true rfl, Nat.le_of_ble_eq_true rfl⟩ ⟨Nat.le_of_ble_eq_true rfl, Nat.le_of_ble_eq_true rfl⟩ 0 rfl rfl (fun _ h => h) rfl rfl (Nat.le_of_ble_eq_true rfl) dX4_insertRow_12 (st' := [.ref (a 4)]) rfl rfl ?_
      refine lm_astore C (lv' := [(0, .ref (a 0)), (1, .int x1), (2, .int x2), (3, .int x3), (4, .ref (a 4))]) dX4_insertRow_15 (by decide) rfl [1, 2, 3, 4, 0] rfl rfl ?_
      refine lm_aload C dX4_insertRow_17 4 rfl rfl ?_
      obtain ⟨r10, qr10, hF⟩ := lm_bde hF
      refine lm_callVR C (n := 0) (ci := 5) (m_X5_size D z zo l (lm_sh 4 a) (lm_sh 4 σ)  r10 qr10) gX4_insertRow_X5_size rfl (by decide +kernel) ⟨Nat.le_of_ble_eq_true rfl, Nat.le_of_ble_eq_true rfl⟩ ⟨Nat.le_of_ble_eq_true rfl, Nat.le_of_ble_eq_true rfl⟩ 4 rfl rfl (st_s4 z a σ) rfl rfl (Nat.le_of_ble_eq_true rfl) dX4_insertRow_19 (st' := [.int r10]) rfl rfl ?_
      refine lm_bipush C (v := (20 : Int32)) dX4_insertRow_22 (by decide) rfl ?_
      refine lm_icmp_lt C (tgt := 30) dX4_insertRow_24 (by decide) rfl (fun c11 => ?_) (fun c11 => ?_)
      · have hF := lm_brt hF c11
        refine lm_aload C dX4_insertRow_30 4 rfl rfl ?_
        refine lm_iload_n C dX4_insertRow_32 rfl 2 rfl rfl ?_
        refine lm_iload_n C dX4_insertRow_33 rfl 3 rfl rfl ?_
        obtain ⟨τ12, qτ12, hF⟩ := lm_bde hF
        obtain ⟨σ13, eσ13, hF⟩ := lm_lte hF
        refine lm_callV C (n := 2) (ci := 5) (w' := (stW z a σ13)) hA (m_X5_push D z zo l (lm_sh 4 a) (lm_sh 4 σ) x2 x3 τ12 qτ12) gX4_insertRow_X5_push rfl (by decide +kernel) ⟨Nat.le_of_ble_eq_true rfl, Nat.le_of_ble_eq_true rfl⟩ ⟨Nat.le_of_ble_eq_true rfl, Nat.le_of_ble_eq_true rfl⟩ 4 rfl rfl (st_g4 z a σ) (by rw [← eσ13]; exact st_p4 z a σ τ12) rfl rfl (Nat.le_of_ble_eq_true rfl) dX4_insertRow_34 (st' := []) rfl rfl ?_
        refine lm_iload_n C dX4_insertRow_37 rfl 1 rfl rfl ?_
        refine lm_if_eq C (tgt := 47) dX4_insertRow_38 (by decide) rfl (fun c14 => ?_) (fun c14 => ?_)
        · exact (by simp_all : False).elim
        · refine lm_aload_n C dX4_insertRow_41 rfl 0 rfl rfl ?_
          refine lm_iload_n C dX4_insertRow_42 rfl 2 rfl rfl ?_
          refine lm_iload_n C dX4_insertRow_43 rfl 2 rfl rfl ?_
          obtain ⟨σ15, qσ15, hF⟩ := lm_bde hF
          refine lm_callV C (n := 2) (ci := 4) (w' := (stW z a σ15)) hA (m_X4_keepTrue D z zo l a σ13 x2 x2 σ15 qσ15) gX4_insertRow_X4_keepTrue rfl (by decide +kernel) ⟨Nat.le_of_ble_eq_true rfl, Nat.le_of_ble_eq_true rfl⟩ ⟨Nat.le_of_ble_eq_true rfl, Nat.le_of_ble_eq_true rfl⟩ 0 rfl rfl lm_pr lm_pr' rfl rfl (Nat.le_of_ble_eq_true rfl) dX4_insertRow_44 (st' := []) rfl rfl ?_
          refine lm_aload C dX4_insertRow_47 4 rfl rfl ?_
          obtain ⟨r16, qr16, hF⟩ := lm_bde hF
          refine lm_callVR C (n := 0) (ci := 5) (m_X5_size D z zo l (lm_sh 4 a) (lm_sh 4 σ15)  r16 qr16) gX4_insertRow_X5_size rfl (by decide +kernel) ⟨Nat.le_of_ble_eq_true rfl, Nat.le_of_ble_eq_true rfl⟩ ⟨Nat.le_of_ble_eq_true rfl, Nat.le_of_ble_eq_true rfl⟩ 4 rfl rfl (st_s4 z a σ15) rfl rfl (Nat.le_of_ble_eq_true rfl) dX4_insertRow_49 (st' := [.int r16]) rfl rfl ?_
          refine lm_iconst C (v := (1 : Int32)) dX4_insertRow_52 (by decide) rfl ?_
          refine lm_isub C dX4_insertRow_53 rfl rfl ?_
          cases hF
          exact lm_iret C hr hk rfl rfl dX4_insertRow_54
      · have hF := lm_brf hF c11
        refine lm_bipush C (v := (-3 : Int32)) dX4_insertRow_27 (by decide) rfl ?_
        cases hF
        exact lm_iret C hr hk rfl rfl dX4_insertRow_29
  · have hF := lm_brf hF c2
    refine lm_iconst C (v := (-1 : Int32)) dX4_insertRow_8 (by decide) rfl ?_
    cases hF
    exact lm_iret C hr hk rfl rfl dX4_insertRow_9
def F_X4_removeRow (σ : Hp) (x1 x2 : Int32) : Option (Int32 × (Hp)) :=
  lm_br (x1 = 0)
   (lm_bd (F_X5_has (lm_sh 1 σ) x2) fun r2 =>
   lm_br (¬ r2 = 0)
    (lm_bd (F_X5_key (lm_sh 1 σ) x2) fun r4 =>
    lm_bd (F_X5_takeOut (lm_sh 1 σ) x2) fun τ5 =>
    lm_lt (lm_sb σ 1 3 τ5) fun σ6 =>
    lm_bd (F_X4_isDone σ6 x2) fun r8 =>
    lm_br (r8 = 0)
     (lm_bd (F_X5_size (lm_sh 1 σ6)) fun r10 =>
     some (r10, σ6))
     (lm_lt (lm_u σ6 0 6 ((σ6 0 6) - (1 : Int32))) fun σ11 =>
     lm_bd (F_X5_size (lm_sh 1 σ11)) fun r12 =>
     some (r12, σ11)))
    (some ((-1 : Int32), σ)))
   (lm_bd (F_X5_has (lm_sh 4 σ) x2) fun r13 =>
   lm_br (¬ r13 = 0)
    (lm_bd (F_X5_key (lm_sh 4 σ) x2) fun r15 =>
    lm_bd (F_X5_takeOut (lm_sh 4 σ) x2) fun τ16 =>
    lm_lt (lm_sb σ 4 3 τ16) fun σ17 =>
    lm_bd (F_X4_keepTrue σ17 r15 r15) fun σ19 =>
    lm_bd (F_X5_size (lm_sh 4 σ19)) fun r20 =>
    some (r20, σ19))
    (some ((-1 : Int32), σ)))
theorem in4_X4_removeRow : ∀ w ∈ u_ws RX4 TX4 8, w ∈ wsX4_removeRow := by decide +kernel
theorem fl64_X4_removeRow : Cond.fieldLink RX4 64 "LoopMemo$State" "place" "I" ∈ wsX4_removeRow := by decide +kernel
set_option maxRecDepth 100000 in
set_option maxHeartbeats 4000000 in
theorem m_X4_removeRow (D : va_G) (z zo : ClassId) (l : Launch) (a : Nat → Nat) (σ : Hp) (x1 x2 : Int32) (r : Int32) (σ' : Hp) (hF : F_X4_removeRow σ x1 x2 = some (r, σ')) : lm_C D z zo l yX4_removeRow wsX4_removeRow 4 89 [.ref (a 0), .int x1, .int x2] (stW z a σ) (some (.int r)) (stW z a σ') := by
  refine lm_C.of (by decide) rfl (Nat.le_of_ble_eq_true rfl) (own := RX4) rfl ?_
  intro p e s m_ args below meth c C hr hk hA
  show lm_St p l e ({ frames := 4, cells := 0, slots := 0, locals := 89 }) s m_ args below meth c D (va_A (stW z a σ) s.heap.size) 5 0 0 (lm_End below D (some (.int r)) (stW z a σ) (stW z a σ') args s) false (stW z a σ) 0 [(0, .ref (a 0)), (1, .int x1), (2, .int x2)] []
  rw [F_X4_removeRow] at hF
  refine lm_aload_n C dX4_removeRow_0 rfl 0 rfl rfl ?_
  refine lm_iload_n C dX4_removeRow_1 rfl 1 rfl rfl ?_
  rcases Classical.em (x1 = 0) with c1 | c1
  · have hF := lm_brt hF c1
    refine lm_callVR C (n := 1) (ci := 4) (m_X4_table_1 D z zo l a σ x1 c1) gX4_removeRow_X4_table rfl (by decide +kernel) ⟨Nat.le_of_ble_eq_true rfl, Nat.le_of_ble_eq_true rfl⟩ ⟨Nat.le_of_ble_eq_true rfl, Nat.le_of_ble_eq_true rfl⟩ 0 rfl rfl (fun _ h => h) rfl rfl (Nat.le_of_ble_eq_true rfl) dX4_removeRow_2 (st' := [.ref (a 1)]) rfl rfl ?_
    refine lm_astore_n C (lv' := [(0, .ref (a 0)), (1, .int x1), (2, .int x2), (3, .ref (a 1))]) dX4_removeRow_5 rfl (by decide) rfl [1, 2, 3, 0] rfl rfl ?_
    refine lm_aload_n C dX4_removeRow_6 rfl 3 rfl rfl ?_
    refine lm_iload_n C dX4_removeRow_7 rfl 2 rfl rfl ?_
    obtain ⟨r2, qr2, hF⟩ := lm_bde hF
    refine lm_callVR C (n := 1) (ci := 5) (m_X5_has D z zo l (lm_sh 1 a) (lm_sh 1 σ) x2 r2 qr2) gX4_removeRow_X5_has rfl (by decide +kernel) ⟨Nat.le_of_ble_eq_true rfl, Nat.le_of_ble_eq_true rfl⟩ ⟨Nat.le_of_ble_eq_true rfl, Nat.le_of_ble_eq_true rfl⟩ 1 rfl rfl (st_s1 z a σ) rfl rfl (Nat.le_of_ble_eq_true rfl) dX4_removeRow_8 (st' := [.int r2]) rfl rfl ?_
    refine lm_if_ne C (tgt := 16) dX4_removeRow_11 (by decide) rfl (fun c3 => ?_) (fun c3 => ?_)
    · have hF := lm_brt hF c3
      refine lm_aload_n C dX4_removeRow_16 rfl 3 rfl rfl ?_
      refine lm_iload_n C dX4_removeRow_17 rfl 2 rfl rfl ?_
      obtain ⟨r4, qr4, hF⟩ := lm_bde hF
      refine lm_callVR C (n := 1) (ci := 5) (m_X5_key D z zo l (lm_sh 1 a) (lm_sh 1 σ) x2 r4 qr4) gX4_removeRow_X5_key rfl (by decide +kernel) ⟨Nat.le_of_ble_eq_true rfl, Nat.le_of_ble_eq_true rfl⟩ ⟨Nat.le_of_ble_eq_true rfl, Nat.le_of_ble_eq_true rfl⟩ 1 rfl rfl (st_s1 z a σ) rfl rfl (Nat.le_of_ble_eq_true rfl) dX4_removeRow_18 (st' := [.int r4]) rfl rfl ?_
      refine lm_istore C (lv' := [(0, .ref (a 0)), (1, .int x1), (2, .int x2), (3, .ref (a 1)), (4, .int r4)]) dX4_removeRow_21 (by decide) rfl [1, 2, 3, 4, 0] rfl rfl ?_
      refine lm_aload_n C dX4_removeRow_23 rfl 3 rfl rfl ?_
      refine lm_iload_n C dX4_removeRow_24 rfl 2 rfl rfl ?_
      obtain ⟨τ5, qτ5, hF⟩ := lm_bde hF
      obtain ⟨σ6, eσ6, hF⟩ := lm_lte hF
      refine lm_callV C (n := 1) (ci := 5) (w' := (stW z a σ6)) hA (m_X5_takeOut D z zo l (lm_sh 1 a) (lm_sh 1 σ) x2 τ5 qτ5) gX4_removeRow_X5_takeOut rfl (by decide +kernel) ⟨Nat.le_of_ble_eq_true rfl, Nat.le_of_ble_eq_true rfl⟩ ⟨Nat.le_of_ble_eq_true rfl, Nat.le_of_ble_eq_true rfl⟩ 1 rfl rfl (st_g1 z a σ) (by rw [← eσ6]; exact st_p1 z a σ τ5) rfl rfl (Nat.le_of_ble_eq_true rfl) dX4_removeRow_25 (st' := []) rfl rfl ?_
      refine lm_iload_n C dX4_removeRow_28 rfl 1 rfl rfl ?_
      refine lm_if_eq C (tgt := 43) dX4_removeRow_29 (by decide) rfl (fun c7 => ?_) (fun c7 => ?_)
      · refine lm_aload_n C dX4_removeRow_43 rfl 0 rfl rfl ?_
        refine lm_iload_n C dX4_removeRow_44 rfl 2 rfl rfl ?_
        obtain ⟨r8, qr8, hF⟩ := lm_bde hF
        refine lm_callVR C (n := 1) (ci := 4) (m_X4_isDone D z zo l a σ6 x2 r8 qr8) gX4_removeRow_X4_isDone rfl (by decide +kernel) ⟨Nat.le_of_ble_eq_true rfl, Nat.le_of_ble_eq_true rfl⟩ ⟨Nat.le_of_ble_eq_true rfl, Nat.le_of_ble_eq_true rfl⟩ 0 rfl rfl (fun _ h => h) rfl rfl (Nat.le_of_ble_eq_true rfl) dX4_removeRow_45 (st' := [.int r8]) rfl rfl ?_
        refine lm_if_eq C (tgt := 61) dX4_removeRow_48 (by decide) rfl (fun c9 => ?_) (fun c9 => ?_)
        · have hF := lm_brt hF c9
          refine lm_aload_n C dX4_removeRow_61 rfl 3 rfl rfl ?_
          obtain ⟨r10, qr10, hF⟩ := lm_bde hF
          refine lm_callVR C (n := 0) (ci := 5) (m_X5_size D z zo l (lm_sh 1 a) (lm_sh 1 σ6)  r10 qr10) gX4_removeRow_X5_size rfl (by decide +kernel) ⟨Nat.le_of_ble_eq_true rfl, Nat.le_of_ble_eq_true rfl⟩ ⟨Nat.le_of_ble_eq_true rfl, Nat.le_of_ble_eq_true rfl⟩ 1 rfl rfl (st_s1 z a σ6) rfl rfl (Nat.le_of_ble_eq_true rfl) dX4_removeRow_62 (st' := [.int r10]) rfl rfl ?_
          cases hF
          exact lm_iret C hr hk rfl rfl dX4_removeRow_65
        · have hF := lm_brf hF c9
          refine lm_aload_n C dX4_removeRow_51 rfl 0 rfl rfl ?_
          refine lm_dup C dX4_removeRow_52 rfl rfl ?_
          refine lm_getf C (T := TX4) (N := 8) (v := .int (σ6 0 6)) in4_X4_removeRow 0 rfl rfl 6 (by decide) fl64_X4_removeRow rfl rfl dX4_removeRow_53 rfl ?_
          refine lm_iconst C (v := (1 : Int32)) dX4_removeRow_56 (by decide) rfl ?_
          refine lm_isub C dX4_removeRow_57 rfl rfl ?_
          obtain ⟨σ11, eσ11, hF⟩ := lm_lte hF
          refine lm_putf C (T := TX4) (N := 8) (ty := .int) (v := .int ((σ6 0 6) - (1 : Int32))) (w' := (stW z a σ11)) in4_X4_removeRow tyX4 tyX4_ok nmX4 0 rfl rfl 6 (by decide) fl64_X4_removeRow rfl rfl rfl rfl rfl (Nat.le_of_ble_eq_true rfl) dX4_removeRow_58 (by rw [← eσ11]; rfl) rfl ?_
          refine lm_aload_n C dX4_removeRow_61 rfl 3 rfl rfl ?_
          obtain ⟨r12, qr12, hF⟩ := lm_bde hF
          refine lm_callVR C (n := 0) (ci := 5) (m_X5_size D z zo l (lm_sh 1 a) (lm_sh 1 σ11)  r12 qr12) gX4_removeRow_X5_size rfl (by decide +kernel) ⟨Nat.le_of_ble_eq_true rfl, Nat.le_of_ble_eq_true rfl⟩ ⟨Nat.le_of_ble_eq_true rfl, Nat.le_of_ble_eq_true rfl⟩ 1 rfl rfl (st_s1 z a σ11) rfl rfl (Nat.le_of_ble_eq_true rfl) dX4_removeRow_62 (st' := [.int r12]) rfl rfl ?_
          cases hF
          exact lm_iret C hr hk rfl rfl dX4_removeRow_65
      · exact (by simp_all : False).elim
    · have hF := lm_brf hF c3
      refine lm_iconst C (v := (-1 : Int32)) dX4_removeRow_14 (by decide) rfl ?_
      cases hF
      exact lm_iret C hr hk rfl rfl dX4_removeRow_15
  · have hF := lm_brf hF c1
    refine lm_callVR C (n := 1) (ci := 4) (m_X4_table_2 D z zo l a σ x1 c1) gX4_removeRow_X4_table rfl (by decide +kernel) ⟨Nat.le_of_ble_eq_true rfl, Nat.le_of_ble_eq_true rfl⟩ ⟨Nat.le_of_ble_eq_true rfl, Nat.le_of_ble_eq_true rfl⟩ 0 rfl rfl (fun _ h => h) rfl rfl (Nat.le_of_ble_eq_true rfl) dX4_removeRow_2 (st' := [.ref (a 4)]) rfl rfl ?_
    refine lm_astore_n C (lv' := [(0, .ref (a 0)), (1, .int x1), (2, .int x2), (3, .ref (a 4))]) dX4_removeRow_5 rfl (by decide) rfl [1, 2, 3, 0] rfl rfl ?_
    refine lm_aload_n C dX4_removeRow_6 rfl 3 rfl rfl ?_
    refine lm_iload_n C dX4_removeRow_7 rfl 2 rfl rfl ?_
    obtain ⟨r13, qr13, hF⟩ := lm_bde hF
    refine lm_callVR C (n := 1) (ci := 5) (m_X5_has D z zo l (lm_sh 4 a) (lm_sh 4 σ) x2 r13 qr13) gX4_removeRow_X5_has rfl (by decide +kernel) ⟨Nat.le_of_ble_eq_true rfl, Nat.le_of_ble_eq_true rfl⟩ ⟨Nat.le_of_ble_eq_true rfl, Nat.le_of_ble_eq_true rfl⟩ 4 rfl rfl (st_s4 z a σ) rfl rfl (Nat.le_of_ble_eq_true rfl) dX4_removeRow_8 (st' := [.int r13]) rfl rfl ?_
    refine lm_if_ne C (tgt := 16) dX4_removeRow_11 (by decide) rfl (fun c14 => ?_) (fun c14 => ?_)
    · have hF := lm_brt hF c14
      refine lm_aload_n C dX4_removeRow_16 rfl 3 rfl rfl ?_
      refine lm_iload_n C dX4_removeRow_17 rfl 2 rfl rfl ?_
      obtain ⟨r15, qr15, hF⟩ := lm_bde hF
      refine lm_callVR C (n := 1) (ci := 5) (m_X5_key D z zo l (lm_sh 4 a) (lm_sh 4 σ) x2 r15 qr15) gX4_removeRow_X5_key rfl (by decide +kernel) ⟨Nat.le_of_ble_eq_true rfl, Nat.le_of_ble_eq_true rfl⟩ ⟨Nat.le_of_ble_eq_true rfl, Nat.le_of_ble_eq_true rfl⟩ 4 rfl rfl (st_s4 z a σ) rfl rfl (Nat.le_of_ble_eq_true rfl) dX4_removeRow_18 (st' := [.int r15]) rfl rfl ?_
      refine lm_istore C (lv' := [(0, .ref (a 0)), (1, .int x1), (2, .int x2), (3, .ref (a 4)), (4, .int r15)]) dX4_removeRow_21 (by decide) rfl [1, 2, 3, 4, 0] rfl rfl ?_
      refine lm_aload_n C dX4_removeRow_23 rfl 3 rfl rfl ?_
      refine lm_iload_n C dX4_removeRow_24 rfl 2 rfl rfl ?_
      obtain ⟨τ16, qτ16, hF⟩ := lm_bde hF
      obtain ⟨σ17, eσ17, hF⟩ := lm_lte hF
      refine lm_callV C (n := 1) (ci := 5) (w' := (stW z a σ17)) hA (m_X5_takeOut D z zo l (lm_sh 4 a) (lm_sh 4 σ) x2 τ16 qτ16) gX4_removeRow_X5_takeOut rfl (by decide +kernel) ⟨Nat.le_of_ble_eq_true rfl, Nat.le_of_ble_eq_true rfl⟩ ⟨Nat.le_of_ble_eq_true rfl, Nat.le_of_ble_eq_true rfl⟩ 4 rfl rfl (st_g4 z a σ) (by rw [← eσ17]; exact st_p4 z a σ τ16) rfl rfl (Nat.le_of_ble_eq_true rfl) dX4_removeRow_25 (st' := []) rfl rfl ?_
      refine lm_iload_n C dX4_removeRow_28 rfl 1 rfl rfl ?_
      refine lm_if_eq C (tgt := 43) dX4_removeRow_29 (by decide) rfl (fun c18 => ?_) (fun c18 => ?_)
      · exact (by simp_all : False).elim
      · refine lm_aload_n C dX4_removeRow_32 rfl 0 rfl rfl ?_
        refine lm_iload C dX4_removeRow_33 4 rfl rfl ?_
        refine lm_iload C dX4_removeRow_35 4 rfl rfl ?_
        obtain ⟨σ19, qσ19, hF⟩ := lm_bde hF
        refine lm_callV C (n := 2) (ci := 4) (w' := (stW z a σ19)) hA (m_X4_keepTrue D z zo l a σ17 r15 r15 σ19 qσ19) gX4_removeRow_X4_keepTrue rfl (by decide +kernel) ⟨Nat.le_of_ble_eq_true rfl, Nat.le_of_ble_eq_true rfl⟩ ⟨Nat.le_of_ble_eq_true rfl, Nat.le_of_ble_eq_true rfl⟩ 0 rfl rfl lm_pr lm_pr' rfl rfl (Nat.le_of_ble_eq_true rfl) dX4_removeRow_37 (st' := []) rfl rfl ?_
        refine lm_goto C (tgt := 61) dX4_removeRow_40 (by decide) ?_
        refine lm_aload_n C dX4_removeRow_61 rfl 3 rfl rfl ?_
        obtain ⟨r20, qr20, hF⟩ := lm_bde hF
        refine lm_callVR C (n := 0) (ci := 5) (m_X5_size D z zo l (lm_sh 4 a) (lm_sh 4 σ19)  r20 qr20) gX4_removeRow_X5_size rfl (by decide +kernel) ⟨Nat.le_of_ble_eq_true rfl, Nat.le_of_ble_eq_true rfl⟩ ⟨Nat.le_of_ble_eq_true rfl, Nat.le_of_ble_eq_true rfl⟩ 4 rfl rfl (st_s4 z a σ19) rfl rfl (Nat.le_of_ble_eq_true rfl) dX4_removeRow_62 (st' := [.int r20]) rfl rfl ?_
        cases hF
        exact lm_iret C hr hk rfl rfl dX4_removeRow_65
    · have hF := lm_brf hF c14
      refine lm_iconst C (v := (-1 : Int32)) dX4_removeRow_14 (by decide) rfl ?_
      cases hF
      exact lm_iret C hr hk rfl rfl dX4_removeRow_15
def F_X4_rewriteRow (σ : Hp) (x1 x2 x3 : Int32) : Option (Int32 × (Hp)) :=
  lm_bd (F_X5_has (lm_sh 4 σ) x1) fun r1 =>
  lm_br (r1 = 0)
   (some ((-1 : Int32), σ))
   (lm_bd (F_X6_isRow x2 x3) fun r3 =>
   lm_br (¬ r3 = 0)
    (lm_bd (F_X5_key (lm_sh 4 σ) x1) fun r5 =>
    lm_bd (F_X5_put (lm_sh 4 σ) x1 x2 x3) fun τ6 =>
    lm_lt (lm_sb σ 4 3 τ6) fun σ7 =>
    lm_bd (F_X4_keepTrue σ7 r5 x2) fun σ8 =>
    lm_bd (F_X2_size (lm_sh 11 σ8)) fun r9 =>
    some (r9, σ8))
    (some ((-1 : Int32), σ)))
theorem in4_X4_rewriteRow : ∀ w ∈ u_ws RX4 TX4 8, w ∈ wsX4_rewriteRow := by decide +kernel
theorem fl18_X4_rewriteRow : Cond.fieldLink RX4 18 "LoopMemo$State" "inner" "LLoopMemo$Table;" ∈ wsX4_rewriteRow := by decide +kernel
theorem fl31_X4_rewriteRow : Cond.fieldLink RX4 31 "LoopMemo$State" "memo" "LLoopMemo$Memo;" ∈ wsX4_rewriteRow := by decide +kernel
theorem ini_X6_isRow_X4_rewriteRow : Cond.initialized yX6_isRow.cls ∈ wsX4_rewriteRow := by decide +kernel
theorem sta_X6_isRow_X4_rewriteRow : Cond.static yX6_isRow ∈ wsX4_rewriteRow := by decide +kernel
set_option maxRecDepth 100000 in
set_option maxHeartbeats 4000000 in
theorem m_X4_rewriteRow (D : va_G) (z zo : ClassId) (l : Launch) (a : Nat → Nat) (σ : Hp) (x1 x2 x3 : Int32) (r : Int32) (σ' : Hp) (hF : F_X4_rewriteRow σ x1 x2 x3 = some (r, σ')) : lm_C D z zo l yX4_rewriteRow wsX4_rewriteRow 4 89 [.ref (a 0), .int x1, .int x2, .int x3] (stW z a σ) (some (.int r)) (stW z a σ') := by
  refine lm_C.of (by decide) rfl (Nat.le_of_ble_eq_true rfl) (own := RX4) rfl ?_
  intro p e s m_ args below meth c C hr hk hA
  show lm_St p l e ({ frames := 4, cells := 0, slots := 0, locals := 89 }) s m_ args below meth c D (va_A (stW z a σ) s.heap.size) 5 0 0 (lm_End below D (some (.int r)) (stW z a σ) (stW z a σ') args s) false (stW z a σ) 0 [(0, .ref (a 0)), (1, .int x1), (2, .int x2), (3, .int x3)] []
  rw [F_X4_rewriteRow] at hF
  refine lm_aload_n C dX4_rewriteRow_0 rfl 0 rfl rfl ?_
  refine lm_getf C (T := TX4) (N := 8) (v := .ref (a 4)) in4_X4_rewriteRow 0 rfl rfl 1 (by decide) fl18_X4_rewriteRow rfl rfl dX4_rewriteRow_1 rfl ?_
  refine lm_iload_n C dX4_rewriteRow_4 rfl 1 rfl rfl ?_
  obtain ⟨r1, qr1, hF⟩ := lm_bde hF
  refine lm_callVR C (n := 1) (ci := 5) (m_X5_has D z zo l (lm_sh 4 a) (lm_sh 4 σ) x1 r1 qr1) gX4_rewriteRow_X5_has rfl (by decide +kernel) ⟨Nat.le_of_ble_eq_true rfl, Nat.le_of_ble_eq_true rfl⟩ ⟨Nat.le_of_ble_eq_true rfl, Nat.le_of_ble_eq_true rfl⟩ 4 rfl rfl (st_s4 z a σ) rfl rfl (Nat.le_of_ble_eq_true rfl) dX4_rewriteRow_5 (st' := [.int r1]) rfl rfl ?_
  refine lm_if_eq C (tgt := 19) dX4_rewriteRow_8 (by decide) rfl (fun c2 => ?_) (fun c2 => ?_)
  · have hF := lm_brt hF c2
    refine lm_iconst C (v := (-1 : Int32)) dX4_rewriteRow_19 (by decide) rfl ?_
    cases hF
    exact lm_iret C hr hk rfl rfl dX4_rewriteRow_20
  · have hF := lm_brf hF c2
    refine lm_iload_n C dX4_rewriteRow_11 rfl 2 rfl rfl ?_
    refine lm_iload_n C dX4_rewriteRow_12 rfl 3 rfl rfl ?_
    obtain ⟨r3, qr3, hF⟩ := lm_bde hF
    refine lm_callSNR C (n := 2) (m_X6_isRow D z zo l   x2 x3 r3 qr3) gX4_rewriteRow_X6_isRow_n85 rfl ini_X6_isRow_X4_rewriteRow sta_X6_isRow_X4_rewriteRow (by decide +kernel) ⟨Nat.le_of_ble_eq_true rfl, Nat.le_of_ble_eq_true rfl⟩ ⟨Nat.le_of_ble_eq_true rfl, Nat.le_of_ble_eq_true rfl⟩ (by decide +kernel) (fun _ h => absurd h List.not_mem_nil) rfl rfl (Nat.le_of_ble_eq_true rfl) dX4_rewriteRow_13 (st' := [.int r3]) rfl rfl ?_
    refine lm_if_ne C (tgt := 21) dX4_rewriteRow_16 (by decide) rfl (fun c4 => ?_) (fun c4 => ?_)
    · have hF := lm_brt hF c4
      refine lm_aload_n C dX4_rewriteRow_21 rfl 0 rfl rfl ?_
      refine lm_getf C (T := TX4) (N := 8) (v := .ref (a 4)) in4_X4_rewriteRow 0 rfl rfl 1 (by decide) fl18_X4_rewriteRow rfl rfl dX4_rewriteRow_22 rfl ?_
      refine lm_iload_n C dX4_rewriteRow_25 rfl 1 rfl rfl ?_
      obtain ⟨r5, qr5, hF⟩ := lm_bde hF
      refine lm_callVR C (n := 1) (ci := 5) (m_X5_key D z zo l (lm_sh 4 a) (lm_sh 4 σ) x1 r5 qr5) gX4_rewriteRow_X5_key rfl (by decide +kernel) ⟨Nat.le_of_ble_eq_true rfl, Nat.le_of_ble_eq_true rfl⟩ ⟨Nat.le_of_ble_eq_true rfl, Nat.le_of_ble_eq_true rfl⟩ 4 rfl rfl (st_s4 z a σ) rfl rfl (Nat.le_of_ble_eq_true rfl) dX4_rewriteRow_26 (st' := [.int r5]) rfl rfl ?_
      refine lm_istore C (lv' := [(0, .ref (a 0)), (1, .int x1), (2, .int x2), (3, .int x3), (4, .int r5)]) dX4_rewriteRow_29 (by decide) rfl [1, 2, 3, 4, 0] rfl rfl ?_
      refine lm_aload_n C dX4_rewriteRow_31 rfl 0 rfl rfl ?_
      refine lm_getf C (T := TX4) (N := 8) (v := .ref (a 4)) in4_X4_rewriteRow 0 rfl rfl 1 (by decide) fl18_X4_rewriteRow rfl rfl dX4_rewriteRow_32 rfl ?_
      refine lm_iload_n C dX4_rewriteRow_35 rfl 1 rfl rfl ?_
      refine lm_iload_n C dX4_rewriteRow_36 rfl 2 rfl rfl ?_
      refine lm_iload_n C dX4_rewriteRow_37 rfl 3 rfl rfl ?_
      obtain ⟨τ6, qτ6, hF⟩ := lm_bde hF
      obtain ⟨σ7, eσ7, hF⟩ := lm_lte hF
      refine lm_callV C (n := 3) (ci := 5) (w' := (stW z a σ7)) hA (m_X5_put D z zo l (lm_sh 4 a) (lm_sh 4 σ) x1 x2 x3 τ6 qτ6) gX4_rewriteRow_X5_put rfl (by decide +kernel) ⟨Nat.le_of_ble_eq_true rfl, Nat.le_of_ble_eq_true rfl⟩ ⟨Nat.le_of_ble_eq_true rfl, Nat.le_of_ble_eq_true rfl⟩ 4 rfl rfl (st_g4 z a σ) (by rw [← eσ7]; exact st_p4 z a σ τ6) rfl rfl (Nat.le_of_ble_eq_true rfl) dX4_rewriteRow_38 (st' := []) rfl rfl ?_
      refine lm_aload_n C dX4_rewriteRow_41 rfl 0 rfl rfl ?_
      refine lm_iload C dX4_rewriteRow_42 4 rfl rfl ?_
      refine lm_iload_n C dX4_rewriteRow_44 rfl 2 rfl rfl ?_
      obtain ⟨σ8, qσ8, hF⟩ := lm_bde hF
      refine lm_callV C (n := 2) (ci := 4) (w' := (stW z a σ8)) hA (m_X4_keepTrue D z zo l a σ7 r5 x2 σ8 qσ8) gX4_rewriteRow_X4_keepTrue rfl (by decide +kernel) ⟨Nat.le_of_ble_eq_true rfl, Nat.le_of_ble_eq_true rfl⟩ ⟨Nat.le_of_ble_eq_true rfl, Nat.le_of_ble_eq_true rfl⟩ 0 rfl rfl lm_pr lm_pr' rfl rfl (Nat.le_of_ble_eq_true rfl) dX4_rewriteRow_45 (st' := []) rfl rfl ?_
      refine lm_aload_n C dX4_rewriteRow_48 rfl 0 rfl rfl ?_
      refine lm_getf C (T := TX4) (N := 8) (v := .ref (a 11)) in4_X4_rewriteRow 0 rfl rfl 3 (by decide) fl31_X4_rewriteRow rfl rfl dX4_rewriteRow_49 rfl ?_
      obtain ⟨r9, qr9, hF⟩ := lm_bde hF
      refine lm_callVR C (n := 0) (ci := 2) (m_X2_size D z zo l (lm_sh 11 a) (lm_sh 11 σ8)  r9 qr9) gX4_rewriteRow_X2_size rfl (by decide +kernel) ⟨Nat.le_of_ble_eq_true rfl, Nat.le_of_ble_eq_true rfl⟩ ⟨Nat.le_of_ble_eq_true rfl, Nat.le_of_ble_eq_true rfl⟩ 11 rfl rfl (st_s11 z a σ8) rfl rfl (Nat.le_of_ble_eq_true rfl) dX4_rewriteRow_52 (st' := [.int r9]) rfl rfl ?_
      cases hF
      exact lm_iret C hr hk rfl rfl dX4_rewriteRow_55
    · have hF := lm_brf hF c4
      refine lm_iconst C (v := (-1 : Int32)) dX4_rewriteRow_19 (by decide) rfl ?_
      cases hF
      exact lm_iret C hr hk rfl rfl dX4_rewriteRow_20
def F_X4_weightTogether_L4 : Nat → Hp → Int32 → Int32 → Option Int32
  | 0, _, _, _ => none
  | n + 1, σx, x1, x2 =>
    lm_br ((10 : Int32) ≤ x2)
     (some x1)
     (lm_bd (F_X2_holds (lm_sh 11 σx) x2) fun r2 =>
     lm_br (r2 = 0)
      (F_X4_weightTogether_L4 n σx x1 (x2 + (1 : Int32)))
      (lm_bd (F_X0_weight (lm_sh 7 σx) x2) fun r4 =>
      F_X4_weightTogether_L4 n σx (x1 + r4) (x2 + (1 : Int32))))
def F_X4_weightTogether (σ : Hp)  : Option Int32 :=
  F_X4_weightTogether_L4 1000 σ (0 : Int32) (0 : Int32)
theorem in4_X4_weightTogether : ∀ w ∈ u_ws RX4 TX4 8, w ∈ wsX4_weightTogether := by decide +kernel
theorem fl31_X4_weightTogether : Cond.fieldLink RX4 31 "LoopMemo$State" "memo" "LLoopMemo$Memo;" ∈ wsX4_weightTogether := by decide +kernel
theorem fl24_X4_weightTogether : Cond.fieldLink RX4 24 "LoopMemo$State" "answers" "LLoopMemo$Answers;" ∈ wsX4_weightTogether := by decide +kernel
set_option maxRecDepth 100000 in
set_option maxHeartbeats 4000000 in
theorem m_X4_weightTogether (D : va_G) (z zo : ClassId) (l : Launch) (a : Nat → Nat) (σ : Hp)  (r : Int32)  (hF : F_X4_weightTogether σ  = some r) : lm_CR D z zo l yX4_weightTogether wsX4_weightTogether 1 21 [.ref (a 0)] (stW z a σ) (some (.int r)) := by
  refine lm_CR.of (by decide) rfl (Nat.le_of_ble_eq_true rfl) (own := RX4) rfl ?_
  intro p e s m_ args below meth c C hr hk
  have loop_4 : ∀ (n : Nat) (σx : Hp) (x1 : Int32) (x2 : Int32), F_X4_weightTogether_L4 n σx x1 x2 = some r → lm_St p l e ({ frames := 1, cells := 0, slots := 0, locals := 21 }) s m_ args below meth c D (fun _ => False) 3 0 0 (lm_EndR below (some (.int r)) args s) true (stW z a σx) 4 [(0, .ref (a 0)), (1, .int x1), (2, .int x2)] [] := by
    intro n
    induction n with
    | zero => intro σx x1 x2 hF; cases (show (none : Option _) = some _ from hF)
    | succ n ih =>
      intro σx x1 x2 hF
      rw [F_X4_weightTogether_L4] at hF
      refine lm_iload_n C dX4_weightTogether_4 rfl 2 rfl rfl ?_
      refine lm_bipush C (v := (10 : Int32)) dX4_weightTogether_5 (by decide) rfl ?_
      refine lm_icmp_ge C (tgt := 38) dX4_weightTogether_7 (by decide) rfl (fun c1 => ?_) (fun c1 => ?_)
      · have hF := lm_brt hF c1
        refine lm_iload_n C dX4_weightTogether_38 rfl 1 rfl rfl ?_
        cases hF
        exact lm_iretR C hr hk rfl dX4_weightTogether_39
      · have hF := lm_brf hF c1
        refine lm_aload_n C dX4_weightTogether_10 rfl 0 rfl rfl ?_
        refine lm_getf C (T := TX4) (N := 8) (v := .ref (a 11)) in4_X4_weightTogether 0 rfl rfl 3 (by decide) fl31_X4_weightTogether rfl rfl dX4_weightTogether_11 rfl ?_
        refine lm_iload_n C dX4_weightTogether_14 rfl 2 rfl rfl ?_
        obtain ⟨r2, qr2, hF⟩ := lm_bde hF
        refine lm_callVR C (n := 1) (ci := 2) (m_X2_holds D z zo l (lm_sh 11 a) (lm_sh 11 σx) x2 r2 qr2) gX4_weightTogether_X2_holds rfl (by decide +kernel) ⟨Nat.le_of_ble_eq_true rfl, Nat.le_of_ble_eq_true rfl⟩ ⟨Nat.le_of_ble_eq_true rfl, Nat.le_of_ble_eq_true rfl⟩ 11 rfl rfl (st_s11 z a σx) rfl rfl (Nat.le_of_ble_eq_true rfl) dX4_weightTogether_15 (st' := [.int r2]) rfl rfl ?_
        refine lm_if_eq C (tgt := 32) dX4_weightTogether_18 (by decide) rfl (fun c3 => ?_) (fun c3 => ?_)
        · have hF := lm_brt hF c3
          refine lm_iinc C (lv' := [(0, .ref (a 0)), (1, .int x1), (2, .int (x2 + (1 : Int32)))]) (x2 + (1 : Int32)) dX4_weightTogether_32 2 rfl rfl (by decide) rfl [1, 2, 0] rfl rfl ?_
          refine lm_goto C (tgt := 4) dX4_weightTogether_35 (by decide) ?_
          exact ih σx x1 (x2 + (1 : Int32)) hF
        · have hF := lm_brf hF c3
          refine lm_iload_n C dX4_weightTogether_21 rfl 1 rfl rfl ?_
          refine lm_aload_n C dX4_weightTogether_22 rfl 0 rfl rfl ?_
          refine lm_getf C (T := TX4) (N := 8) (v := .ref (a 7)) in4_X4_weightTogether 0 rfl rfl 2 (by decide) fl24_X4_weightTogether rfl rfl dX4_weightTogether_23 rfl ?_
          refine lm_iload_n C dX4_weightTogether_26 rfl 2 rfl rfl ?_
          obtain ⟨r4, qr4, hF⟩ := lm_bde hF
          refine lm_callVR C (n := 1) (ci := 0) (m_X0_weight D z zo l (lm_sh 7 a) (lm_sh 7 σx) x2 r4 qr4) gX4_weightTogether_X0_weight rfl (by decide +kernel) ⟨Nat.le_of_ble_eq_true rfl, Nat.le_of_ble_eq_true rfl⟩ ⟨Nat.le_of_ble_eq_true rfl, Nat.le_of_ble_eq_true rfl⟩ 7 rfl rfl (st_s7 z a σx) rfl rfl (Nat.le_of_ble_eq_true rfl) dX4_weightTogether_27 (st' := [.int r4, .int x1]) rfl rfl ?_
          refine lm_iadd C dX4_weightTogether_30 rfl rfl ?_
          refine lm_istore_n C (lv' := [(0, .ref (a 0)), (1, .int (x1 + r4)), (2, .int x2)]) dX4_weightTogether_31 rfl (by decide) rfl [1, 0, 2] rfl rfl ?_
          refine lm_iinc C (lv' := [(0, .ref (a 0)), (1, .int (x1 + r4)), (2, .int (x2 + (1 : Int32)))]) (x2 + (1 : Int32)) dX4_weightTogether_32 2 rfl rfl (by decide) rfl [1, 2, 0] rfl rfl ?_
          refine lm_goto C (tgt := 4) dX4_weightTogether_35 (by decide) ?_
          exact ih σx (x1 + r4) (x2 + (1 : Int32)) hF
  show lm_St p l e ({ frames := 1, cells := 0, slots := 0, locals := 21 }) s m_ args below meth c D (fun _ => False) 3 0 0 (lm_EndR below (some (.int r)) args s) true (stW z a σ) 0 [(0, .ref (a 0))] []
  rw [F_X4_weightTogether] at hF
  refine lm_iconst C (v := (0 : Int32)) dX4_weightTogether_0 (by decide) rfl ?_
  refine lm_istore_n C (lv' := [(0, .ref (a 0)), (1, .int (0 : Int32))]) dX4_weightTogether_1 rfl (by decide) rfl [1, 0] rfl rfl ?_
  refine lm_iconst C (v := (0 : Int32)) dX4_weightTogether_2 (by decide) rfl ?_
  refine lm_istore_n C (lv' := [(0, .ref (a 0)), (1, .int (0 : Int32)), (2, .int (0 : Int32))]) dX4_weightTogether_3 rfl (by decide) rfl [1, 2, 0] rfl rfl ?_
  exact loop_4 1000 σ (0 : Int32) (0 : Int32) hF
def F_X4_makeRoom_L7 : Nat → Hp → Int32 → Int32 → Int32 → Option (Int32 × (Hp))
  | 0, _, _, _, _ => none
  | n + 1, σx, x1, x2, x3 =>
    lm_br ((10 : Int32) ≤ x2)
     (lm_lt (lm_u σx 16 3 ((σx 16 3) + x2)) fun σ3 =>
     some (x2, σ3))
     (lm_br (x3 ≤ (σx 15 0))
      (lm_lt (lm_u σx 16 3 ((σx 16 3) + x2)) fun σ5 =>
      some (x2, σ5))
      (lm_bd (F_X2_firstOut (lm_sh 11 σx) (σx 15 1) x1) fun r6 =>
      lm_bd (F_X0_weight (lm_sh 7 σx) r6) fun r7 =>
      lm_bd (F_X2_lose (lm_sh 11 σx) r6) fun τ8 =>
      lm_lt (lm_sb σx 11 4 τ8) fun σ9 =>
      F_X4_makeRoom_L7 n σ9 x1 (x2 + (1 : Int32)) (x3 - r7)))
def F_X4_makeRoom (σ : Hp) (x1 : Int32) : Option (Int32 × (Hp)) :=
  lm_bd (F_X4_weightTogether σ) fun r1 =>
  F_X4_makeRoom_L7 1000 σ x1 (0 : Int32) r1
theorem in4_X4_makeRoom : ∀ w ∈ u_ws RX4 TX4 8, w ∈ wsX4_makeRoom := by decide +kernel
theorem fl47_X4_makeRoom : Cond.fieldLink RX4 47 "LoopMemo$State" "tallies" "[I" ∈ wsX4_makeRoom := by decide +kernel
theorem fl44_X4_makeRoom : Cond.fieldLink RX4 44 "LoopMemo$State" "settings" "[I" ∈ wsX4_makeRoom := by decide +kernel
theorem fl31_X4_makeRoom : Cond.fieldLink RX4 31 "LoopMemo$State" "memo" "LLoopMemo$Memo;" ∈ wsX4_makeRoom := by decide +kernel
theorem fl24_X4_makeRoom : Cond.fieldLink RX4 24 "LoopMemo$State" "answers" "LLoopMemo$Answers;" ∈ wsX4_makeRoom := by decide +kernel
set_option maxRecDepth 100000 in
set_option maxHeartbeats 4000000 in
theorem m_X4_makeRoom (D : va_G) (z zo : ClassId) (l : Launch) (a : Nat → Nat) (σ : Hp) (x1 : Int32) (r : Int32) (σ' : Hp) (hF : F_X4_makeRoom σ x1 = some (r, σ')) : lm_C D z zo l yX4_makeRoom wsX4_makeRoom 2 46 [.ref (a 0), .int x1] (stW z a σ) (some (.int r)) (stW z a σ') := by
  refine lm_C.of (by decide) rfl (Nat.le_of_ble_eq_true rfl) (own := RX4) rfl ?_
  intro p e s m_ args below meth c C hr hk hA
  have loop_7 : ∀ (n : Nat) (σx : Hp) (x1 : Int32) (x2 : Int32) (x3 : Int32), F_X4_makeRoom_L7 n σx x1 x2 x3 = some (r, σ') → lm_St p l e ({ frames := 2, cells := 0, slots := 0, locals := 46 }) s m_ args below meth c D (va_A (stW z a σ) s.heap.size) 5 0 0 (lm_End below D (some (.int r)) (stW z a σ) (stW z a σ') args s) false (stW z a σx) 7 [(0, .ref (a 0)), (1, .int x1), (2, .int x2), (3, .int x3)] [] := by
    intro n
    induction n with
    | zero => intro σx x1 x2 x3 hF; cases (show (none : Option _) = some _ from hF)
    | succ n ih =>
      intro σx x1 x2 x3 hF
      rw [F_X4_makeRoom_L7] at hF
      refine lm_iload_n C dX4_makeRoom_7 rfl 2 rfl rfl ?_
      refine lm_bipush C (v := (10 : Int32)) dX4_makeRoom_8 (by decide) rfl ?_
      refine lm_icmp_ge C (tgt := 66) dX4_makeRoom_10 (by decide) rfl (fun c2 => ?_) (fun c2 => ?_)
      · have hF := lm_brt hF c2
        refine lm_aload_n C dX4_makeRoom_66 rfl 0 rfl rfl ?_
        refine lm_getf C (T := TX4) (N := 8) (v := .ref (a 16)) in4_X4_makeRoom 0 rfl rfl 5 (by decide) fl47_X4_makeRoom rfl rfl dX4_makeRoom_67 rfl ?_
        refine lm_iconst C (v := (3 : Int32)) dX4_makeRoom_70 (by decide) rfl ?_
        refine lm_dup2 C dX4_makeRoom_71 rfl rfl rfl ?_
        refine lm_iald C (v := (σx 16 3)) 16 rfl (by unfold vp_in; decide) rfl dX4_makeRoom_72 rfl ?_
        refine lm_iload_n C dX4_makeRoom_73 rfl 2 rfl rfl ?_
        refine lm_iadd C dX4_makeRoom_74 rfl rfl ?_
        obtain ⟨σ3, eσ3, hF⟩ := lm_lte hF
        refine lm_iast C (w' := (stW z a σ3)) 16 rfl (by unfold vp_in; decide) dX4_makeRoom_75 (by rw [← eσ3]; rfl) rfl ?_
        refine lm_iload_n C dX4_makeRoom_76 rfl 2 rfl rfl ?_
        cases hF
        exact lm_iret C hr hk rfl rfl dX4_makeRoom_77
      · have hF := lm_brf hF c2
        refine lm_iload_n C dX4_makeRoom_13 rfl 3 rfl rfl ?_
        refine lm_aload_n C dX4_makeRoom_14 rfl 0 rfl rfl ?_
        refine lm_getf C (T := TX4) (N := 8) (v := .ref (a 15)) in4_X4_makeRoom 0 rfl rfl 4 (by decide) fl44_X4_makeRoom rfl rfl dX4_makeRoom_15 rfl ?_
        refine lm_iconst C (v := (0 : Int32)) dX4_makeRoom_18 (by decide) rfl ?_
        refine lm_iald C (v := (σx 15 0)) 15 rfl (by unfold vp_in; decide) rfl dX4_makeRoom_19 rfl ?_
        refine lm_icmp_le C (tgt := 66) dX4_makeRoom_20 (by decide) rfl (fun c4 => ?_) (fun c4 => ?_)
        · have hF := lm_brt hF c4
          refine lm_aload_n C dX4_makeRoom_66 rfl 0 rfl rfl ?_
          refine lm_getf C (T := TX4) (N := 8) (v := .ref (a 16)) in4_X4_makeRoom 0 rfl rfl 5 (by decide) fl47_X4_makeRoom rfl rfl dX4_makeRoom_67 rfl ?_
          refine lm_iconst C (v := (3 : Int32)) dX4_makeRoom_70 (by decide) rfl ?_
          refine lm_dup2 C dX4_makeRoom_71 rfl rfl rfl ?_
          refine lm_iald C (v := (σx 16 3)) 16 rfl (by unfold vp_in; decide) rfl dX4_makeRoom_72 rfl ?_
          refine lm_iload_n C dX4_makeRoom_73 rfl 2 rfl rfl ?_
          refine lm_iadd C dX4_makeRoom_74 rfl rfl ?_
          obtain ⟨σ5, eσ5, hF⟩ := lm_lte hF
          refine lm_iast C (w' := (stW z a σ5)) 16 rfl (by unfold vp_in; decide) dX4_makeRoom_75 (by rw [← eσ5]; rfl) rfl ?_
          refine lm_iload_n C dX4_makeRoom_76 rfl 2 rfl rfl ?_
          cases hF
          exact lm_iret C hr hk rfl rfl dX4_makeRoom_77
        · have hF := lm_brf hF c4
          refine lm_aload_n C dX4_makeRoom_23 rfl 0 rfl rfl ?_
          refine lm_getf C (T := TX4) (N := 8) (v := .ref (a 11)) in4_X4_makeRoom 0 rfl rfl 3 (by decide) fl31_X4_makeRoom rfl rfl dX4_makeRoom_24 rfl ?_
          refine lm_aload_n C dX4_makeRoom_27 rfl 0 rfl rfl ?_
          refine lm_getf C (T := TX4) (N := 8) (v := .ref (a 15)) in4_X4_makeRoom 0 rfl rfl 4 (by decide) fl44_X4_makeRoom rfl rfl dX4_makeRoom_28 rfl ?_
          refine lm_iconst C (v := (1 : Int32)) dX4_makeRoom_31 (by decide) rfl ?_
          refine lm_iald C (v := (σx 15 1)) 15 rfl (by unfold vp_in; decide) rfl dX4_makeRoom_32 rfl ?_
          refine lm_iload_n C dX4_makeRoom_33 rfl 1 rfl rfl ?_
          obtain ⟨r6, qr6, hF⟩ := lm_bde hF
          refine lm_callVR C (n := 2) (ci := 2) (m_X2_firstOut D z zo l (lm_sh 11 a) (lm_sh 11 σx) (σx 15 1) x1 r6 qr6) gX4_makeRoom_X2_firstOut rfl (by decide +kernel) ⟨Nat.le_of_ble_eq_true rfl, Nat.le_of_ble_eq_true rfl⟩ ⟨Nat.le_of_ble_eq_true rfl, Nat.le_of_ble_eq_true rfl⟩ 11 rfl rfl (st_s11 z a σx) rfl rfl (Nat.le_of_ble_eq_true rfl) dX4_makeRoom_34 (st' := [.int r6]) rfl rfl ?_
          refine lm_istore C (lv' := [(0, .ref (a 0)), (1, .int x1), (2, .int x2), (3, .int x3), (4, .int r6)]) dX4_makeRoom_37 (by decide) rfl [1, 2, 3, 4, 0] rfl rfl ?_
          refine lm_iload_n C dX4_makeRoom_39 rfl 3 rfl rfl ?_
          refine lm_aload_n C dX4_makeRoom_40 rfl 0 rfl rfl ?_
          refine lm_getf C (T := TX4) (N := 8) (v := .ref (a 7)) in4_X4_makeRoom 0 rfl rfl 2 (by decide) fl24_X4_makeRoom rfl rfl dX4_makeRoom_41 rfl ?_
          refine lm_iload C dX4_makeRoom_44 4 rfl rfl ?_
          obtain ⟨r7, qr7, hF⟩ := lm_bde hF
          refine lm_callVR C (n := 1) (ci := 0) (m_X0_weight D z zo l (lm_sh 7 a) (lm_sh 7 σx) r6 r7 qr7) gX4_makeRoom_X0_weight rfl (by decide +kernel) ⟨Nat.le_of_ble_eq_true rfl, Nat.le_of_ble_eq_true rfl⟩ ⟨Nat.le_of_ble_eq_true rfl, Nat.le_of_ble_eq_true rfl⟩ 7 rfl rfl (st_s7 z a σx) rfl rfl (Nat.le_of_ble_eq_true rfl) dX4_makeRoom_46 (st' := [.int r7, .int x3]) rfl rfl ?_
          refine lm_isub C dX4_makeRoom_49 rfl rfl ?_
          refine lm_istore_n C (lv' := [(0, .ref (a 0)), (1, .int x1), (2, .int x2), (3, .int (x3 - r7)), (4, .int r6)]) dX4_makeRoom_50 rfl (by decide) rfl [1, 2, 3, 0, 4] rfl rfl ?_
          refine lm_aload_n C dX4_makeRoom_51 rfl 0 rfl rfl ?_
          refine lm_getf C (T := TX4) (N := 8) (v := .ref (a 11)) in4_X4_makeRoom 0 rfl rfl 3 (by decide) fl31_X4_makeRoom rfl rfl dX4_makeRoom_52 rfl ?_
          refine lm_iload C dX4_makeRoom_55 4 rfl rfl ?_
          obtain ⟨τ8, qτ8, hF⟩ := lm_bde hF
          obtain ⟨σ9, eσ9, hF⟩ := lm_lte hF
          refine lm_callV C (n := 1) (ci := 2) (w' := (stW z a σ9)) hA (m_X2_lose D z zo l (lm_sh 11 a) (lm_sh 11 σx) r6 τ8 qτ8) gX4_makeRoom_X2_lose rfl (by decide +kernel) ⟨Nat.le_of_ble_eq_true rfl, Nat.le_of_ble_eq_true rfl⟩ ⟨Nat.le_of_ble_eq_true rfl, Nat.le_of_ble_eq_true rfl⟩ 11 rfl rfl (st_g11 z a σx) (by rw [← eσ9]; exact st_p11 z a σx τ8) rfl rfl (Nat.le_of_ble_eq_true rfl) dX4_makeRoom_57 (st' := []) rfl rfl ?_
          refine lm_iinc C (lv' := [(0, .ref (a 0)), (1, .int x1), (2, .int (x2 + (1 : Int32))), (3, .int (x3 - r7)), (4, .int r6)]) (x2 + (1 : Int32)) dX4_makeRoom_60 2 rfl rfl (by decide) rfl [1, 2, 0, 3, 4] rfl rfl ?_
          refine lm_goto C (tgt := 7) dX4_makeRoom_63 (by decide) ?_
          refine lm_lvsub (lv' := [(0, .ref (a 0)), (1, .int x1), (2, .int (x2 + (1 : Int32))), (3, .int (x3 - r7))]) [0, 1, 2, 3] rfl ?_
          exact ih σ9 x1 (x2 + (1 : Int32)) (x3 - r7) hF
  show lm_St p l e ({ frames := 2, cells := 0, slots := 0, locals := 46 }) s m_ args below meth c D (va_A (stW z a σ) s.heap.size) 5 0 0 (lm_End below D (some (.int r)) (stW z a σ) (stW z a σ') args s) false (stW z a σ) 0 [(0, .ref (a 0)), (1, .int x1)] []
  rw [F_X4_makeRoom] at hF
  refine lm_iconst C (v := (0 : Int32)) dX4_makeRoom_0 (by decide) rfl ?_
  refine lm_istore_n C (lv' := [(0, .ref (a 0)), (1, .int x1), (2, .int (0 : Int32))]) dX4_makeRoom_1 rfl (by decide) rfl [1, 2, 0] rfl rfl ?_
  refine lm_aload_n C dX4_makeRoom_2 rfl 0 rfl rfl ?_
  obtain ⟨r1, qr1, hF⟩ := lm_bde hF
  refine lm_callVR C (n := 0) (ci := 4) (m_X4_weightTogether D z zo l a σ  r1 qr1) gX4_makeRoom_X4_weightTogether rfl (by decide +kernel) ⟨Nat.le_of_ble_eq_true rfl, Nat.le_of_ble_eq_true rfl⟩ ⟨Nat.le_of_ble_eq_true rfl, Nat.le_of_ble_eq_true rfl⟩ 0 rfl rfl (fun _ h => h) rfl rfl (Nat.le_of_ble_eq_true rfl) dX4_makeRoom_3 (st' := [.int r1]) rfl rfl ?_
  refine lm_istore_n C (lv' := [(0, .ref (a 0)), (1, .int x1), (2, .int (0 : Int32)), (3, .int r1)]) dX4_makeRoom_6 rfl (by decide) rfl [1, 2, 3, 0] rfl rfl ?_
  exact loop_7 1000 σ x1 (0 : Int32) r1 hF
def F_X4_lookUp (σ : Hp) (x1 : Int32) : Option (Hp) :=
  lm_bd (F_X2_holds (lm_sh 11 σ) x1) fun r1 =>
  lm_br (r1 = 0)
   (lm_lt (lm_u σ 16 1 ((σ 16 1) + (1 : Int32))) fun σ3 =>
   lm_bd (F_X5_size (lm_sh 4 σ3)) fun r4 =>
   lm_lt (lm_u σ3 16 2 ((σ3 16 2) + ((2 : Int32) + r4))) fun σ5 =>
   lm_bd (F_X0_weight (lm_sh 7 σ5) x1) fun r6 =>
   lm_br (r6 ≤ (σ5 15 0))
    (lm_bd (F_X2_take (lm_sh 11 σ5) x1) fun τ8 =>
    lm_lt (lm_sb σ5 11 4 τ8) fun σ9 =>
    lm_b2 (F_X4_makeRoom σ9 x1) fun r11 σ10 =>
    some σ10)
    (lm_lt (lm_u σ5 16 5 ((σ5 16 5) + (1 : Int32))) fun σ12 =>
    some σ12))
   (lm_lt (lm_u σ 16 0 ((σ 16 0) + (1 : Int32))) fun σ13 =>
   lm_lt (lm_u σ13 16 2 ((σ13 16 2) + (1 : Int32))) fun σ14 =>
   lm_bd (F_X2_touch (lm_sh 11 σ14) x1) fun τ15 =>
   lm_lt (lm_sb σ14 11 4 τ15) fun σ16 =>
   some σ16)
theorem in4_X4_lookUp : ∀ w ∈ u_ws RX4 TX4 8, w ∈ wsX4_lookUp := by decide +kernel
theorem fl31_X4_lookUp : Cond.fieldLink RX4 31 "LoopMemo$State" "memo" "LLoopMemo$Memo;" ∈ wsX4_lookUp := by decide +kernel
theorem fl47_X4_lookUp : Cond.fieldLink RX4 47 "LoopMemo$State" "tallies" "[I" ∈ wsX4_lookUp := by decide +kernel
theorem fl18_X4_lookUp : Cond.fieldLink RX4 18 "LoopMemo$State" "inner" "LLoopMemo$Table;" ∈ wsX4_lookUp := by decide +kernel
theorem fl24_X4_lookUp : Cond.fieldLink RX4 24 "LoopMemo$State" "answers" "LLoopMemo$Answers;" ∈ wsX4_lookUp := by decide +kernel
theorem fl44_X4_lookUp : Cond.fieldLink RX4 44 "LoopMemo$State" "settings" "[I" ∈ wsX4_lookUp := by decide +kernel
set_option maxRecDepth 100000 in
set_option maxHeartbeats 4000000 in
theorem m_X4_lookUp (D : va_G) (z zo : ClassId) (l : Launch) (a : Nat → Nat) (σ : Hp) (x1 : Int32)  (σ' : Hp) (hF : F_X4_lookUp σ x1 = some σ') : lm_C D z zo l yX4_lookUp wsX4_lookUp 3 70 [.ref (a 0), .int x1] (stW z a σ) none (stW z a σ') := by
  refine lm_C.of (by decide) rfl (Nat.le_of_ble_eq_true rfl) (own := RX4) rfl ?_
  intro p e s m_ args below meth c C hr hk hA
  show lm_St p l e ({ frames := 3, cells := 0, slots := 0, locals := 70 }) s m_ args below meth c D (va_A (stW z a σ) s.heap.size) 2 0 0 (lm_End below D none (stW z a σ) (stW z a σ') args s) false (stW z a σ) 0 [(0, .ref (a 0)), (1, .int x1)] []
  rw [F_X4_lookUp] at hF
  refine lm_aload_n C dX4_lookUp_0 rfl 0 rfl rfl ?_
  refine lm_getf C (T := TX4) (N := 8) (v := .ref (a 11)) in4_X4_lookUp 0 rfl rfl 3 (by decide) fl31_X4_lookUp rfl rfl dX4_lookUp_1 rfl ?_
  refine lm_iload_n C dX4_lookUp_4 rfl 1 rfl rfl ?_
  obtain ⟨r1, qr1, hF⟩ := lm_bde hF
  refine lm_callVR C (n := 1) (ci := 2) (m_X2_holds D z zo l (lm_sh 11 a) (lm_sh 11 σ) x1 r1 qr1) gX4_lookUp_X2_holds rfl (by decide +kernel) ⟨Nat.le_of_ble_eq_true rfl, Nat.le_of_ble_eq_true rfl⟩ ⟨Nat.le_of_ble_eq_true rfl, Nat.le_of_ble_eq_true rfl⟩ 11 rfl rfl (st_s11 z a σ) rfl rfl (Nat.le_of_ble_eq_true rfl) dX4_lookUp_5 (st' := [.int r1]) rfl rfl ?_
  refine lm_if_eq C (tgt := 40) dX4_lookUp_8 (by decide) rfl (fun c2 => ?_) (fun c2 => ?_)
  · have hF := lm_brt hF c2
    refine lm_aload_n C dX4_lookUp_40 rfl 0 rfl rfl ?_
    refine lm_getf C (T := TX4) (N := 8) (v := .ref (a 16)) in4_X4_lookUp 0 rfl rfl 5 (by decide) fl47_X4_lookUp rfl rfl dX4_lookUp_41 rfl ?_
    refine lm_iconst C (v := (1 : Int32)) dX4_lookUp_44 (by decide) rfl ?_
    refine lm_dup2 C dX4_lookUp_45 rfl rfl rfl ?_
    refine lm_iald C (v := (σ 16 1)) 16 rfl (by unfold vp_in; decide) rfl dX4_lookUp_46 rfl ?_
    refine lm_iconst C (v := (1 : Int32)) dX4_lookUp_47 (by decide) rfl ?_
    refine lm_iadd C dX4_lookUp_48 rfl rfl ?_
    obtain ⟨σ3, eσ3, hF⟩ := lm_lte hF
    refine lm_iast C (w' := (stW z a σ3)) 16 rfl (by unfold vp_in; decide) dX4_lookUp_49 (by rw [← eσ3]; rfl) rfl ?_
    refine lm_aload_n C dX4_lookUp_50 rfl 0 rfl rfl ?_
    refine lm_getf C (T := TX4) (N := 8) (v := .ref (a 16)) in4_X4_lookUp 0 rfl rfl 5 (by decide) fl47_X4_lookUp rfl rfl dX4_lookUp_51 rfl ?_
    refine lm_iconst C (v := (2 : Int32)) dX4_lookUp_54 (by decide) rfl ?_
    refine lm_dup2 C dX4_lookUp_55 rfl rfl rfl ?_
    refine lm_iald C (v := (σ3 16 2)) 16 rfl (by unfold vp_in; decide) rfl dX4_lookUp_56 rfl ?_
    refine lm_iconst C (v := (2 : Int32)) dX4_lookUp_57 (by decide) rfl ?_
    refine lm_aload_n C dX4_lookUp_58 rfl 0 rfl rfl ?_
    refine lm_getf C (T := TX4) (N := 8) (v := .ref (a 4)) in4_X4_lookUp 0 rfl rfl 1 (by decide) fl18_X4_lookUp rfl rfl dX4_lookUp_59 rfl ?_
    obtain ⟨r4, qr4, hF⟩ := lm_bde hF
    refine lm_callVR C (n := 0) (ci := 5) (m_X5_size D z zo l (lm_sh 4 a) (lm_sh 4 σ3)  r4 qr4) gX4_lookUp_X5_size rfl (by decide +kernel) ⟨Nat.le_of_ble_eq_true rfl, Nat.le_of_ble_eq_true rfl⟩ ⟨Nat.le_of_ble_eq_true rfl, Nat.le_of_ble_eq_true rfl⟩ 4 rfl rfl (st_s4 z a σ3) rfl rfl (Nat.le_of_ble_eq_true rfl) dX4_lookUp_62 (st' := [.int r4, .int (2 : Int32), .int (σ3 16 2), .int (2 : Int32), .ref (a 16)]) rfl rfl ?_
    refine lm_iadd C dX4_lookUp_65 rfl rfl ?_
    refine lm_iadd C dX4_lookUp_66 rfl rfl ?_
    obtain ⟨σ5, eσ5, hF⟩ := lm_lte hF
    refine lm_iast C (w' := (stW z a σ5)) 16 rfl (by unfold vp_in; decide) dX4_lookUp_67 (by rw [← eσ5]; rfl) rfl ?_
    refine lm_aload_n C dX4_lookUp_68 rfl 0 rfl rfl ?_
    refine lm_getf C (T := TX4) (N := 8) (v := .ref (a 7)) in4_X4_lookUp 0 rfl rfl 2 (by decide) fl24_X4_lookUp rfl rfl dX4_lookUp_69 rfl ?_
    refine lm_iload_n C dX4_lookUp_72 rfl 1 rfl rfl ?_
    obtain ⟨r6, qr6, hF⟩ := lm_bde hF
    refine lm_callVR C (n := 1) (ci := 0) (m_X0_weight D z zo l (lm_sh 7 a) (lm_sh 7 σ5) x1 r6 qr6) gX4_lookUp_X0_weight rfl (by decide +kernel) ⟨Nat.le_of_ble_eq_true rfl, Nat.le_of_ble_eq_true rfl⟩ ⟨Nat.le_of_ble_eq_true rfl, Nat.le_of_ble_eq_true rfl⟩ 7 rfl rfl (st_s7 z a σ5) rfl rfl (Nat.le_of_ble_eq_true rfl) dX4_lookUp_73 (st' := [.int r6]) rfl rfl ?_
    refine lm_aload_n C dX4_lookUp_76 rfl 0 rfl rfl ?_
    refine lm_getf C (T := TX4) (N := 8) (v := .ref (a 15)) in4_X4_lookUp 0 rfl rfl 4 (by decide) fl44_X4_lookUp rfl rfl dX4_lookUp_77 rfl ?_
    refine lm_iconst C (v := (0 : Int32)) dX4_lookUp_80 (by decide) rfl ?_
    refine lm_iald C (v := (σ5 15 0)) 15 rfl (by unfold vp_in; decide) rfl dX4_lookUp_81 rfl ?_
    refine lm_icmp_le C (tgt := 96) dX4_lookUp_82 (by decide) rfl (fun c7 => ?_) (fun c7 => ?_)
    · have hF := lm_brt hF c7
      refine lm_aload_n C dX4_lookUp_96 rfl 0 rfl rfl ?_
      refine lm_getf C (T := TX4) (N := 8) (v := .ref (a 11)) in4_X4_lookUp 0 rfl rfl 3 (by decide) fl31_X4_lookUp rfl rfl dX4_lookUp_97 rfl ?_
      refine lm_iload_n C dX4_lookUp_100 rfl 1 rfl rfl ?_
      obtain ⟨τ8, qτ8, hF⟩ := lm_bde hF
      obtain ⟨σ9, eσ9, hF⟩ := lm_lte hF
      refine lm_callV C (n := 1) (ci := 2) (w' := (stW z a σ9)) hA (m_X2_take D z zo l (lm_sh 11 a) (lm_sh 11 σ5) x1 τ8 qτ8) gX4_lookUp_X2_take rfl (by decide +kernel) ⟨Nat.le_of_ble_eq_true rfl, Nat.le_of_ble_eq_true rfl⟩ ⟨Nat.le_of_ble_eq_true rfl, Nat.le_of_ble_eq_true rfl⟩ 11 rfl rfl (st_g11 z a σ5) (by rw [← eσ9]; exact st_p11 z a σ5 τ8) rfl rfl (Nat.le_of_ble_eq_true rfl) dX4_lookUp_101 (st' := []) rfl rfl ?_
      refine lm_aload_n C dX4_lookUp_104 rfl 0 rfl rfl ?_
      refine lm_iload_n C dX4_lookUp_105 rfl 1 rfl rfl ?_
      obtain ⟨r11, σ10, qσ10, hF⟩ := lm_b2e hF
      refine lm_callV C (n := 1) (ci := 4) (w' := (stW z a σ10)) hA (m_X4_makeRoom D z zo l a σ9 x1 r11 σ10 qσ10) gX4_lookUp_X4_makeRoom rfl (by decide +kernel) ⟨Nat.le_of_ble_eq_true rfl, Nat.le_of_ble_eq_true rfl⟩ ⟨Nat.le_of_ble_eq_true rfl, Nat.le_of_ble_eq_true rfl⟩ 0 rfl rfl lm_pr lm_pr' rfl rfl (Nat.le_of_ble_eq_true rfl) dX4_lookUp_106 (st' := [.int r11]) rfl rfl ?_
      refine lm_pop C dX4_lookUp_109 rfl rfl ?_
      cases hF
      exact lm_vret C hr hk rfl rfl dX4_lookUp_110
    · have hF := lm_brf hF c7
      refine lm_aload_n C dX4_lookUp_85 rfl 0 rfl rfl ?_
      refine lm_getf C (T := TX4) (N := 8) (v := .ref (a 16)) in4_X4_lookUp 0 rfl rfl 5 (by decide) fl47_X4_lookUp rfl rfl dX4_lookUp_86 rfl ?_
      refine lm_iconst C (v := (5 : Int32)) dX4_lookUp_89 (by decide) rfl ?_
      refine lm_dup2 C dX4_lookUp_90 rfl rfl rfl ?_
      refine lm_iald C (v := (σ5 16 5)) 16 rfl (by unfold vp_in; decide) rfl dX4_lookUp_91 rfl ?_
      refine lm_iconst C (v := (1 : Int32)) dX4_lookUp_92 (by decide) rfl ?_
      refine lm_iadd C dX4_lookUp_93 rfl rfl ?_
      obtain ⟨σ12, eσ12, hF⟩ := lm_lte hF
      refine lm_iast C (w' := (stW z a σ12)) 16 rfl (by unfold vp_in; decide) dX4_lookUp_94 (by rw [← eσ12]; rfl) rfl ?_
      cases hF
      exact lm_vret C hr hk rfl rfl dX4_lookUp_95
  · have hF := lm_brf hF c2
    refine lm_aload_n C dX4_lookUp_11 rfl 0 rfl rfl ?_
    refine lm_getf C (T := TX4) (N := 8) (v := .ref (a 16)) in4_X4_lookUp 0 rfl rfl 5 (by decide) fl47_X4_lookUp rfl rfl dX4_lookUp_12 rfl ?_
    refine lm_iconst C (v := (0 : Int32)) dX4_lookUp_15 (by decide) rfl ?_
    refine lm_dup2 C dX4_lookUp_16 rfl rfl rfl ?_
    refine lm_iald C (v := (σ 16 0)) 16 rfl (by unfold vp_in; decide) rfl dX4_lookUp_17 rfl ?_
    refine lm_iconst C (v := (1 : Int32)) dX4_lookUp_18 (by decide) rfl ?_
    refine lm_iadd C dX4_lookUp_19 rfl rfl ?_
    obtain ⟨σ13, eσ13, hF⟩ := lm_lte hF
    refine lm_iast C (w' := (stW z a σ13)) 16 rfl (by unfold vp_in; decide) dX4_lookUp_20 (by rw [← eσ13]; rfl) rfl ?_
    refine lm_aload_n C dX4_lookUp_21 rfl 0 rfl rfl ?_
    refine lm_getf C (T := TX4) (N := 8) (v := .ref (a 16)) in4_X4_lookUp 0 rfl rfl 5 (by decide) fl47_X4_lookUp rfl rfl dX4_lookUp_22 rfl ?_
    refine lm_iconst C (v := (2 : Int32)) dX4_lookUp_25 (by decide) rfl ?_
    refine lm_dup2 C dX4_lookUp_26 rfl rfl rfl ?_
    refine lm_iald C (v := (σ13 16 2)) 16 rfl (by unfold vp_in; decide) rfl dX4_lookUp_27 rfl ?_
    refine lm_iconst C (v := (1 : Int32)) dX4_lookUp_28 (by decide) rfl ?_
    refine lm_iadd C dX4_lookUp_29 rfl rfl ?_
    obtain ⟨σ14, eσ14, hF⟩ := lm_lte hF
    refine lm_iast C (w' := (stW z a σ14)) 16 rfl (by unfold vp_in; decide) dX4_lookUp_30 (by rw [← eσ14]; rfl) rfl ?_
    refine lm_aload_n C dX4_lookUp_31 rfl 0 rfl rfl ?_
    refine lm_getf C (T := TX4) (N := 8) (v := .ref (a 11)) in4_X4_lookUp 0 rfl rfl 3 (by decide) fl31_X4_lookUp rfl rfl dX4_lookUp_32 rfl ?_
    refine lm_iload_n C dX4_lookUp_35 rfl 1 rfl rfl ?_
    obtain ⟨τ15, qτ15, hF⟩ := lm_bde hF
    obtain ⟨σ16, eσ16, hF⟩ := lm_lte hF
    refine lm_callV C (n := 1) (ci := 2) (w' := (stW z a σ16)) hA (m_X2_touch D z zo l (lm_sh 11 a) (lm_sh 11 σ14) x1 τ15 qτ15) gX4_lookUp_X2_touch rfl (by decide +kernel) ⟨Nat.le_of_ble_eq_true rfl, Nat.le_of_ble_eq_true rfl⟩ ⟨Nat.le_of_ble_eq_true rfl, Nat.le_of_ble_eq_true rfl⟩ 11 rfl rfl (st_g11 z a σ14) (by rw [← eσ16]; exact st_p11 z a σ14 τ15) rfl rfl (Nat.le_of_ble_eq_true rfl) dX4_lookUp_36 (st' := []) rfl rfl ?_
    cases hF
    exact lm_vret C hr hk rfl rfl dX4_lookUp_39
def F_X4_walk_L39 : Nat → Hp → Int32 → Int32 → Int32 → Option (Int32 × (Hp))
  | 0, _, _, _, _ => none
  | n + 1, σx, x1, x2, x3 =>
    lm_br (x1 ≤ x3)
     (some (((σx 16 2) - x2), σx))
     (lm_bd (F_X5_size (lm_sh 1 σx)) fun r6 =>
     lm_br (r6 ≤ (σx 0 6))
      (some (((σx 16 2) - x2), σx))
      (lm_bd (F_X5_key (lm_sh 1 σx) (σx 0 6)) fun r8 =>
      lm_bd (F_X4_lookUp σx r8) fun σ9 =>
      lm_bd (F_X5_value (lm_sh 1 σ9) (σ9 0 6)) fun r10 =>
      lm_bd (F_X0_sum (lm_sh 7 σ9) r8) fun r11 =>
      lm_lt (lm_u σ9 0 7 ((σ9 0 7) + (r10 * r11))) fun σ12 =>
      lm_lt (lm_u σ12 0 6 ((σ12 0 6) + (1 : Int32))) fun σ13 =>
      F_X4_walk_L39 n σ13 x1 x2 (x3 + (1 : Int32))))
def F_X4_walk (σ : Hp) (x1 : Int32) : Option (Int32 × (Hp)) :=
  lm_br (x1 < (1 : Int32))
   (some ((-1 : Int32), σ))
   (lm_br (x1 ≤ (20 : Int32))
    (lm_bd (F_X5_size (lm_sh 1 σ)) fun r3 =>
    lm_br ((σ 0 6) < r3)
     (F_X4_walk_L39 1000 σ x1 (σ 16 2) (0 : Int32))
     (some ((-2 : Int32), σ)))
    (some ((-1 : Int32), σ)))
theorem in4_X4_walk : ∀ w ∈ u_ws RX4 TX4 8, w ∈ wsX4_walk := by decide +kernel
theorem fl64_X4_walk : Cond.fieldLink RX4 64 "LoopMemo$State" "place" "I" ∈ wsX4_walk := by decide +kernel
theorem fl12_X4_walk : Cond.fieldLink RX4 12 "LoopMemo$State" "outer" "LLoopMemo$Table;" ∈ wsX4_walk := by decide +kernel
theorem fl47_X4_walk : Cond.fieldLink RX4 47 "LoopMemo$State" "tallies" "[I" ∈ wsX4_walk := by decide +kernel
theorem fl68_X4_walk : Cond.fieldLink RX4 68 "LoopMemo$State" "total" "I" ∈ wsX4_walk := by decide +kernel
theorem fl24_X4_walk : Cond.fieldLink RX4 24 "LoopMemo$State" "answers" "LLoopMemo$Answers;" ∈ wsX4_walk := by decide +kernel
set_option maxRecDepth 100000 in
set_option maxHeartbeats 4000000 in
theorem m_X4_walk (D : va_G) (z zo : ClassId) (l : Launch) (a : Nat → Nat) (σ : Hp) (x1 : Int32) (r : Int32) (σ' : Hp) (hF : F_X4_walk σ x1 = some (r, σ')) : lm_C D z zo l yX4_walk wsX4_walk 4 91 [.ref (a 0), .int x1] (stW z a σ) (some (.int r)) (stW z a σ') := by
  refine lm_C.of (by decide) rfl (Nat.le_of_ble_eq_true rfl) (own := RX4) rfl ?_
  intro p e s m_ args below meth c C hr hk hA
  have loop_39 : ∀ (n : Nat) (σx : Hp) (x1 : Int32) (x2 : Int32) (x3 : Int32), F_X4_walk_L39 n σx x1 x2 x3 = some (r, σ') → lm_St p l e ({ frames := 4, cells := 0, slots := 0, locals := 91 }) s m_ args below meth c D (va_A (stW z a σ) s.heap.size) 5 0 0 (lm_End below D (some (.int r)) (stW z a σ) (stW z a σ') args s) false (stW z a σx) 39 [(0, .ref (a 0)), (1, .int x1), (2, .int x2), (3, .int x3)] [] := by
    intro n
    induction n with
    | zero => intro σx x1 x2 x3 hF; cases (show (none : Option _) = some _ from hF)
    | succ n ih =>
      intro σx x1 x2 x3 hF
      rw [F_X4_walk_L39] at hF
      refine lm_iload_n C dX4_walk_39 rfl 3 rfl rfl ?_
      refine lm_iload_n C dX4_walk_40 rfl 1 rfl rfl ?_
      refine lm_icmp_ge C (tgt := 123) dX4_walk_41 (by decide) rfl (fun c5 => ?_) (fun c5 => ?_)
      · have hF := lm_brt hF c5
        refine lm_aload_n C dX4_walk_123 rfl 0 rfl rfl ?_
        refine lm_getf C (T := TX4) (N := 8) (v := .ref (a 16)) in4_X4_walk 0 rfl rfl 5 (by decide) fl47_X4_walk rfl rfl dX4_walk_124 rfl ?_
        refine lm_iconst C (v := (2 : Int32)) dX4_walk_127 (by decide) rfl ?_
        refine lm_iald C (v := (σx 16 2)) 16 rfl (by unfold vp_in; decide) rfl dX4_walk_128 rfl ?_
        refine lm_iload_n C dX4_walk_129 rfl 2 rfl rfl ?_
        refine lm_isub C dX4_walk_130 rfl rfl ?_
        cases hF
        exact lm_iret C hr hk rfl rfl dX4_walk_131
      · have hF := lm_brf hF c5
        refine lm_aload_n C dX4_walk_44 rfl 0 rfl rfl ?_
        refine lm_getf C (T := TX4) (N := 8) (v := .int (σx 0 6)) in4_X4_walk 0 rfl rfl 6 (by decide) fl64_X4_walk rfl rfl dX4_walk_45 rfl ?_
        refine lm_aload_n C dX4_walk_48 rfl 0 rfl rfl ?_
        refine lm_getf C (T := TX4) (N := 8) (v := .ref (a 1)) in4_X4_walk 0 rfl rfl 0 (by decide) fl12_X4_walk rfl rfl dX4_walk_49 rfl ?_
        obtain ⟨r6, qr6, hF⟩ := lm_bde hF
        refine lm_callVR C (n := 0) (ci := 5) (m_X5_size D z zo l (lm_sh 1 a) (lm_sh 1 σx)  r6 qr6) gX4_walk_X5_size rfl (by decide +kernel) ⟨Nat.le_of_ble_eq_true rfl, Nat.le_of_ble_eq_true rfl⟩ ⟨Nat.le_of_ble_eq_true rfl, Nat.le_of_ble_eq_true rfl⟩ 1 rfl rfl (st_s1 z a σx) rfl rfl (Nat.le_of_ble_eq_true rfl) dX4_walk_52 (st' := [.int r6, .int (σx 0 6)]) rfl rfl ?_
        refine lm_icmp_ge C (tgt := 123) dX4_walk_55 (by decide) rfl (fun c7 => ?_) (fun c7 => ?_)
        · have hF := lm_brt hF c7
          refine lm_aload_n C dX4_walk_123 rfl 0 rfl rfl ?_
          refine lm_getf C (T := TX4) (N := 8) (v := .ref (a 16)) in4_X4_walk 0 rfl rfl 5 (by decide) fl47_X4_walk rfl rfl dX4_walk_124 rfl ?_
          refine lm_iconst C (v := (2 : Int32)) dX4_walk_127 (by decide) rfl ?_
          refine lm_iald C (v := (σx 16 2)) 16 rfl (by unfold vp_in; decide) rfl dX4_walk_128 rfl ?_
          refine lm_iload_n C dX4_walk_129 rfl 2 rfl rfl ?_
          refine lm_isub C dX4_walk_130 rfl rfl ?_
          cases hF
          exact lm_iret C hr hk rfl rfl dX4_walk_131
        · have hF := lm_brf hF c7
          refine lm_aload_n C dX4_walk_58 rfl 0 rfl rfl ?_
          refine lm_getf C (T := TX4) (N := 8) (v := .ref (a 1)) in4_X4_walk 0 rfl rfl 0 (by decide) fl12_X4_walk rfl rfl dX4_walk_59 rfl ?_
          refine lm_aload_n C dX4_walk_62 rfl 0 rfl rfl ?_
          refine lm_getf C (T := TX4) (N := 8) (v := .int (σx 0 6)) in4_X4_walk 0 rfl rfl 6 (by decide) fl64_X4_walk rfl rfl dX4_walk_63 rfl ?_
          obtain ⟨r8, qr8, hF⟩ := lm_bde hF
          refine lm_callVR C (n := 1) (ci := 5) (m_X5_key D z zo l (lm_sh 1 a) (lm_sh 1 σx) (σx 0 6) r8 qr8) gX4_walk_X5_key rfl (by decide +kernel) ⟨Nat.le_of_ble_eq_true rfl, Nat.le_of_ble_eq_true rfl⟩ ⟨Nat.le_of_ble_eq_true rfl, Nat.le_of_ble_eq_true rfl⟩ 1 rfl rfl (st_s1 z a σx) rfl rfl (Nat.le_of_ble_eq_true rfl) dX4_walk_66 (st' := [.int r8]) rfl rfl ?_
          refine lm_istore C (lv' := [(0, .ref (a 0)), (1, .int x1), (2, .int x2), (3, .int x3), (4, .int r8)]) dX4_walk_69 (by decide) rfl [1, 2, 3, 4, 0] rfl rfl ?_
          refine lm_aload_n C dX4_walk_71 rfl 0 rfl rfl ?_
          refine lm_iload C dX4_walk_72 4 rfl rfl ?_
          obtain ⟨σ9, qσ9, hF⟩ := lm_bde hF
          refine lm_callV C (n := 1) (ci := 4) (w' := (stW z a σ9)) hA (m_X4_lookUp D z zo l a σx r8 σ9 qσ9) gX4_walk_X4_lookUp rfl (by decide +kernel) ⟨Nat.le_of_ble_eq_true rfl, Nat.le_of_ble_eq_true rfl⟩ ⟨Nat.le_of_ble_eq_true rfl, Nat.le_of_ble_eq_true rfl⟩ 0 rfl rfl lm_pr lm_pr' rfl rfl (Nat.le_of_ble_eq_true rfl) dX4_walk_74 (st' := []) rfl rfl ?_
          refine lm_aload_n C dX4_walk_77 rfl 0 rfl rfl ?_
          refine lm_dup C dX4_walk_78 rfl rfl ?_
          refine lm_getf C (T := TX4) (N := 8) (v := .int (σ9 0 7)) in4_X4_walk 0 rfl rfl 7 (by decide) fl68_X4_walk rfl rfl dX4_walk_79 rfl ?_
          refine lm_aload_n C dX4_walk_82 rfl 0 rfl rfl ?_
          refine lm_getf C (T := TX4) (N := 8) (v := .ref (a 1)) in4_X4_walk 0 rfl rfl 0 (by decide) fl12_X4_walk rfl rfl dX4_walk_83 rfl ?_
          refine lm_aload_n C dX4_walk_86 rfl 0 rfl rfl ?_
          refine lm_getf C (T := TX4) (N := 8) (v := .int (σ9 0 6)) in4_X4_walk 0 rfl rfl 6 (by decide) fl64_X4_walk rfl rfl dX4_walk_87 rfl ?_
          obtain ⟨r10, qr10, hF⟩ := lm_bde hF
          refine lm_callVR C (n := 1) (ci := 5) (m_X5_value D z zo l (lm_sh 1 a) (lm_sh 1 σ9) (σ9 0 6) r10 qr10) gX4_walk_X5_value rfl (by decide +kernel) ⟨Nat.le_of_ble_eq_true rfl, Nat.le_of_ble_eq_true rfl⟩ ⟨Nat.le_of_ble_eq_true rfl, Nat.le_of_ble_eq_true rfl⟩ 1 rfl rfl (st_s1 z a σ9) rfl rfl (Nat.le_of_ble_eq_true rfl) dX4_walk_90 (st' := [.int r10, .int (σ9 0 7), .ref (a 0)]) rfl rfl ?_
          refine lm_aload_n C dX4_walk_93 rfl 0 rfl rfl ?_
          refine lm_getf C (T := TX4) (N := 8) (v := .ref (a 7)) in4_X4_walk 0 rfl rfl 2 (by decide) fl24_X4_walk rfl rfl dX4_walk_94 rfl ?_
          refine lm_iload C dX4_walk_97 4 rfl rfl ?_
          obtain ⟨r11, qr11, hF⟩ := lm_bde hF
          refine lm_callVR C (n := 1) (ci := 0) (m_X0_sum D z zo l (lm_sh 7 a) (lm_sh 7 σ9) r8 r11 qr11) gX4_walk_X0_sum rfl (by decide +kernel) ⟨Nat.le_of_ble_eq_true rfl, Nat.le_of_ble_eq_true rfl⟩ ⟨Nat.le_of_ble_eq_true rfl, Nat.le_of_ble_eq_true rfl⟩ 7 rfl rfl (st_s7 z a σ9) rfl rfl (Nat.le_of_ble_eq_true rfl) dX4_walk_99 (st' := [.int r11, .int r10, .int (σ9 0 7), .ref (a 0)]) rfl rfl ?_
          refine lm_imul C dX4_walk_102 rfl rfl ?_
          refine lm_iadd C dX4_walk_103 rfl rfl ?_
          obtain ⟨σ12, eσ12, hF⟩ := lm_lte hF
          refine lm_putf C (T := TX4) (N := 8) (ty := .int) (v := .int ((σ9 0 7) + (r10 * r11))) (w' := (stW z a σ12)) in4_X4_walk tyX4 tyX4_ok nmX4 0 rfl rfl 7 (by decide) fl68_X4_walk rfl rfl rfl rfl rfl (Nat.le_of_ble_eq_true rfl) dX4_walk_104 (by rw [← eσ12]; rfl) rfl ?_
          refine lm_aload_n C dX4_walk_107 rfl 0 rfl rfl ?_
          refine lm_dup C dX4_walk_108 rfl rfl ?_
          refine lm_getf C (T := TX4) (N := 8) (v := .int (σ12 0 6)) in4_X4_walk 0 rfl rfl 6 (by decide) fl64_X4_walk rfl rfl dX4_walk_109 rfl ?_
          refine lm_iconst C (v := (1 : Int32)) dX4_walk_112 (by decide) rfl ?_
          refine lm_iadd C dX4_walk_113 rfl rfl ?_
          obtain ⟨σ13, eσ13, hF⟩ := lm_lte hF
          refine lm_putf C (T := TX4) (N := 8) (ty := .int) (v := .int ((σ12 0 6) + (1 : Int32))) (w' := (stW z a σ13)) in4_X4_walk tyX4 tyX4_ok nmX4 0 rfl rfl 6 (by decide) fl64_X4_walk rfl rfl rfl rfl rfl (Nat.le_of_ble_eq_true rfl) dX4_walk_114 (by rw [← eσ13]; rfl) rfl ?_
          refine lm_iinc C (lv' := [(0, .ref (a 0)), (1, .int x1), (2, .int x2), (3, .int (x3 + (1 : Int32))), (4, .int r8)]) (x3 + (1 : Int32)) dX4_walk_117 3 rfl rfl (by decide) rfl [1, 2, 3, 0, 4] rfl rfl ?_
          refine lm_goto C (tgt := 39) dX4_walk_120 (by decide) ?_
          refine lm_lvsub (lv' := [(0, .ref (a 0)), (1, .int x1), (2, .int x2), (3, .int (x3 + (1 : Int32)))]) [0, 1, 2, 3] rfl ?_
          exact ih σ13 x1 x2 (x3 + (1 : Int32)) hF
  show lm_St p l e ({ frames := 4, cells := 0, slots := 0, locals := 91 }) s m_ args below meth c D (va_A (stW z a σ) s.heap.size) 5 0 0 (lm_End below D (some (.int r)) (stW z a σ) (stW z a σ') args s) false (stW z a σ) 0 [(0, .ref (a 0)), (1, .int x1)] []
  rw [F_X4_walk] at hF
  refine lm_iload_n C dX4_walk_0 rfl 1 rfl rfl ?_
  refine lm_iconst C (v := (1 : Int32)) dX4_walk_1 (by decide) rfl ?_
  refine lm_icmp_lt C (tgt := 11) dX4_walk_2 (by decide) rfl (fun c1 => ?_) (fun c1 => ?_)
  · have hF := lm_brt hF c1
    refine lm_iconst C (v := (-1 : Int32)) dX4_walk_11 (by decide) rfl ?_
    cases hF
    exact lm_iret C hr hk rfl rfl dX4_walk_12
  · have hF := lm_brf hF c1
    refine lm_iload_n C dX4_walk_5 rfl 1 rfl rfl ?_
    refine lm_bipush C (v := (20 : Int32)) dX4_walk_6 (by decide) rfl ?_
    refine lm_icmp_le C (tgt := 13) dX4_walk_8 (by decide) rfl (fun c2 => ?_) (fun c2 => ?_)
    · have hF := lm_brt hF c2
      refine lm_aload_n C dX4_walk_13 rfl 0 rfl rfl ?_
      refine lm_getf C (T := TX4) (N := 8) (v := .int (σ 0 6)) in4_X4_walk 0 rfl rfl 6 (by decide) fl64_X4_walk rfl rfl dX4_walk_14 rfl ?_
      refine lm_aload_n C dX4_walk_17 rfl 0 rfl rfl ?_
      refine lm_getf C (T := TX4) (N := 8) (v := .ref (a 1)) in4_X4_walk 0 rfl rfl 0 (by decide) fl12_X4_walk rfl rfl dX4_walk_18 rfl ?_
      obtain ⟨r3, qr3, hF⟩ := lm_bde hF
      refine lm_callVR C (n := 0) (ci := 5) (m_X5_size D z zo l (lm_sh 1 a) (lm_sh 1 σ)  r3 qr3) gX4_walk_X5_size rfl (by decide +kernel) ⟨Nat.le_of_ble_eq_true rfl, Nat.le_of_ble_eq_true rfl⟩ ⟨Nat.le_of_ble_eq_true rfl, Nat.le_of_ble_eq_true rfl⟩ 1 rfl rfl (st_s1 z a σ) rfl rfl (Nat.le_of_ble_eq_true rfl) dX4_walk_21 (st' := [.int r3, .int (σ 0 6)]) rfl rfl ?_
      refine lm_icmp_lt C (tgt := 30) dX4_walk_24 (by decide) rfl (fun c4 => ?_) (fun c4 => ?_)
      · have hF := lm_brt hF c4
        refine lm_aload_n C dX4_walk_30 rfl 0 rfl rfl ?_
        refine lm_getf C (T := TX4) (N := 8) (v := .ref (a 16)) in4_X4_walk 0 rfl rfl 5 (by decide) fl47_X4_walk rfl rfl dX4_walk_31 rfl ?_
        refine lm_iconst C (v := (2 : Int32)) dX4_walk_34 (by decide) rfl ?_
        refine lm_iald C (v := (σ 16 2)) 16 rfl (by unfold vp_in; decide) rfl dX4_walk_35 rfl ?_
        refine lm_istore_n C (lv' := [(0, .ref (a 0)), (1, .int x1), (2, .int (σ 16 2))]) dX4_walk_36 rfl (by decide) rfl [1, 2, 0] rfl rfl ?_
        refine lm_iconst C (v := (0 : Int32)) dX4_walk_37 (by decide) rfl ?_
        refine lm_istore_n C (lv' := [(0, .ref (a 0)), (1, .int x1), (2, .int (σ 16 2)), (3, .int (0 : Int32))]) dX4_walk_38 rfl (by decide) rfl [1, 2, 3, 0] rfl rfl ?_
        exact loop_39 1000 σ x1 (σ 16 2) (0 : Int32) hF
      · have hF := lm_brf hF c4
        refine lm_bipush C (v := (-2 : Int32)) dX4_walk_27 (by decide) rfl ?_
        cases hF
        exact lm_iret C hr hk rfl rfl dX4_walk_29
    · have hF := lm_brf hF c2
      refine lm_iconst C (v := (-1 : Int32)) dX4_walk_11 (by decide) rfl ?_
      cases hF
      exact lm_iret C hr hk rfl rfl dX4_walk_12
def F_X4_beginAgain (σ : Hp)  : Option (Int32 × (Hp)) :=
  lm_lt (lm_u σ 0 6 (0 : Int32)) fun σ1 =>
  lm_lt (lm_u σ1 0 7 (0 : Int32)) fun σ2 =>
  some ((σ 0 7), σ2)
theorem in4_X4_beginAgain : ∀ w ∈ u_ws RX4 TX4 8, w ∈ wsX4_beginAgain := by decide +kernel
theorem fl68_X4_beginAgain : Cond.fieldLink RX4 68 "LoopMemo$State" "total" "I" ∈ wsX4_beginAgain := by decide +kernel
theorem fl64_X4_beginAgain : Cond.fieldLink RX4 64 "LoopMemo$State" "place" "I" ∈ wsX4_beginAgain := by decide +kernel
set_option maxRecDepth 100000 in
set_option maxHeartbeats 4000000 in
theorem m_X4_beginAgain (D : va_G) (z zo : ClassId) (l : Launch) (a : Nat → Nat) (σ : Hp)  (r : Int32) (σ' : Hp) (hF : F_X4_beginAgain σ  = some (r, σ')) : lm_C D z zo l yX4_beginAgain wsX4_beginAgain 0 0 [.ref (a 0)] (stW z a σ) (some (.int r)) (stW z a σ') := by
  refine lm_C.of (by decide) rfl (Nat.le_of_ble_eq_true rfl) (own := RX4) rfl ?_
  intro p e s m_ args below meth c C hr hk hA
  show lm_St p l e ({ frames := 0, cells := 0, slots := 0, locals := 0 }) s m_ args below meth c D (va_A (stW z a σ) s.heap.size) 2 0 0 (lm_End below D (some (.int r)) (stW z a σ) (stW z a σ') args s) false (stW z a σ) 0 [(0, .ref (a 0))] []
  rw [F_X4_beginAgain] at hF
  refine lm_aload_n C dX4_beginAgain_0 rfl 0 rfl rfl ?_
  refine lm_getf C (T := TX4) (N := 8) (v := .int (σ 0 7)) in4_X4_beginAgain 0 rfl rfl 7 (by decide) fl68_X4_beginAgain rfl rfl dX4_beginAgain_1 rfl ?_
  refine lm_istore_n C (lv' := [(0, .ref (a 0)), (1, .int (σ 0 7))]) dX4_beginAgain_4 rfl (by decide) rfl [1, 0] rfl rfl ?_
  refine lm_aload_n C dX4_beginAgain_5 rfl 0 rfl rfl ?_
  refine lm_iconst C (v := (0 : Int32)) dX4_beginAgain_6 (by decide) rfl ?_
  obtain ⟨σ1, eσ1, hF⟩ := lm_lte hF
  refine lm_putf C (T := TX4) (N := 8) (ty := .int) (v := .int (0 : Int32)) (w' := (stW z a σ1)) in4_X4_beginAgain tyX4 tyX4_ok nmX4 0 rfl rfl 6 (by decide) fl64_X4_beginAgain rfl rfl rfl rfl rfl (Nat.le_of_ble_eq_true rfl) dX4_beginAgain_7 (by rw [← eσ1]; rfl) rfl ?_
  refine lm_aload_n C dX4_beginAgain_10 rfl 0 rfl rfl ?_
  refine lm_iconst C (v := (0 : Int32)) dX4_beginAgain_11 (by decide) rfl ?_
  obtain ⟨σ2, eσ2, hF⟩ := lm_lte hF
  refine lm_putf C (T := TX4) (N := 8) (ty := .int) (v := .int (0 : Int32)) (w' := (stW z a σ2)) in4_X4_beginAgain tyX4 tyX4_ok nmX4 0 rfl rfl 7 (by decide) fl68_X4_beginAgain rfl rfl rfl rfl rfl (Nat.le_of_ble_eq_true rfl) dX4_beginAgain_12 (by rw [← eσ2]; rfl) rfl ?_
  refine lm_iload_n C dX4_beginAgain_15 rfl 1 rfl rfl ?_
  cases hF
  exact lm_iret C hr hk rfl rfl dX4_beginAgain_16
def F_X4_adjust (σ : Hp) (x1 x2 : Int32) : Option (Int32 × (Hp)) :=
  lm_br (x1 < 0)
   (some ((-1 : Int32), σ))
   (lm_br ((4 : Int32) < x1)
    (some ((-1 : Int32), σ))
    (lm_br (x2 < 0)
     (some ((-1 : Int32), σ))
     (lm_gi x1 5
     (lm_br (x2 ≤ (lm_hsI (x1).toNatClampNeg))
      (lm_gi x1 5
      (lm_lt (lm_u σ 15 (x1.toNatClampNeg) x2) fun σ7 =>
      lm_br (¬ x1 = 0)
       (lm_bd (F_X4_findAnswers σ7) fun σ9 =>
       lm_b2 (F_X4_throwAllOut σ9) fun r11 σ10 =>
       some (r11, σ10))
       (lm_b2 (F_X4_makeRoom σ7 (-1 : Int32)) fun r13 σ12 =>
       some (r13, σ12))))
      (some ((-1 : Int32), σ))))))
theorem in4_X4_adjust : ∀ w ∈ u_ws RX4 TX4 8, w ∈ wsX4_adjust := by decide +kernel
theorem fl44_X4_adjust : Cond.fieldLink RX4 44 "LoopMemo$State" "settings" "[I" ∈ wsX4_adjust := by decide +kernel
theorem fl128_X4_adjust : Cond.fieldLink RX4 128 "LoopMemo$State" "HIGHEST_SETTINGS" "[I" ∈ wsX4_adjust := by decide +kernel
set_option maxRecDepth 100000 in
set_option maxHeartbeats 4000000 in
theorem m_X4_adjust (D : va_G) (z zo : ClassId) (l : Launch) (a : Nat → Nat) (σ : Hp) (x1 x2 : Int32) (r : Int32) (σ' : Hp) (hF : F_X4_adjust σ x1 x2 = some (r, σ')) : lm_C D z zo l yX4_adjust wsX4_adjust 3 70 [.ref (a 0), .int x1, .int x2] (stW z a σ) (some (.int r)) (stW z a σ') := by
  refine lm_C.of (by decide) rfl (Nat.le_of_ble_eq_true rfl) (own := RX4) rfl ?_
  intro p e s m_ args below meth c C hr hk hA
  show lm_St p l e ({ frames := 3, cells := 0, slots := 0, locals := 70 }) s m_ args below meth c D (va_A (stW z a σ) s.heap.size) 3 0 0 (lm_End below D (some (.int r)) (stW z a σ) (stW z a σ') args s) false (stW z a σ) 0 [(0, .ref (a 0)), (1, .int x1), (2, .int x2)] []
  rw [F_X4_adjust] at hF
  refine lm_iload_n C dX4_adjust_0 rfl 1 rfl rfl ?_
  refine lm_if_lt C (tgt := 22) dX4_adjust_1 (by decide) rfl (fun c1 => ?_) (fun c1 => ?_)
  · have hF := lm_brt hF c1
    refine lm_iconst C (v := (-1 : Int32)) dX4_adjust_22 (by decide) rfl ?_
    cases hF
    exact lm_iret C hr hk rfl rfl dX4_adjust_23
  · have hF := lm_brf hF c1
    refine lm_iload_n C dX4_adjust_4 rfl 1 rfl rfl ?_
    refine lm_iconst C (v := (4 : Int32)) dX4_adjust_5 (by decide) rfl ?_
    refine lm_icmp_gt C (tgt := 22) dX4_adjust_6 (by decide) rfl (fun c2 => ?_) (fun c2 => ?_)
    · have hF := lm_brt hF c2
      refine lm_iconst C (v := (-1 : Int32)) dX4_adjust_22 (by decide) rfl ?_
      cases hF
      exact lm_iret C hr hk rfl rfl dX4_adjust_23
    · have hF := lm_brf hF c2
      refine lm_iload_n C dX4_adjust_9 rfl 2 rfl rfl ?_
      refine lm_if_lt C (tgt := 22) dX4_adjust_10 (by decide) rfl (fun c3 => ?_) (fun c3 => ?_)
      · have hF := lm_brt hF c3
        refine lm_iconst C (v := (-1 : Int32)) dX4_adjust_22 (by decide) rfl ?_
        cases hF
        exact lm_iret C hr hk rfl rfl dX4_adjust_23
      · have hF := lm_brf hF c3
        refine lm_iload_n C dX4_adjust_13 rfl 2 rfl rfl ?_
        refine lm_getsH C hA fl128_X4_adjust dX4_adjust_14 rfl (fun t4 hTt4 => ?_)
        refine lm_iload_n C dX4_adjust_17 rfl 1 rfl rfl ?_
        obtain ⟨b5, hF⟩ := lm_gie hF
        refine lm_tiald C (f := lm_hsI) (v := (lm_hsI (x1).toNatClampNeg)) hTt4 b5 rfl dX4_adjust_18 rfl ?_
        refine lm_icmp_le C (tgt := 24) dX4_adjust_19 (by decide) rfl (fun c6 => ?_) (fun c6 => ?_)
        · have hF := lm_brt hF c6
          refine lm_aload_n C dX4_adjust_24 rfl 0 rfl rfl ?_
          refine lm_getf C (T := TX4) (N := 8) (v := .ref (a 15)) in4_X4_adjust 0 rfl rfl 4 (by decide) fl44_X4_adjust rfl rfl dX4_adjust_25 rfl ?_
          refine lm_iload_n C dX4_adjust_28 rfl 1 rfl rfl ?_
          refine lm_iload_n C dX4_adjust_29 rfl 2 rfl rfl ?_
          obtain ⟨b14, hF⟩ := lm_gie hF
          obtain ⟨σ7, eσ7, hF⟩ := lm_lte hF
          refine lm_iast C (w' := (stW z a σ7)) 15 rfl b14 dX4_adjust_30 (by rw [← eσ7]; rfl) rfl ?_
          refine lm_iload_n C dX4_adjust_31 rfl 1 rfl rfl ?_
          refine lm_if_ne C (tgt := 41) dX4_adjust_32 (by decide) rfl (fun c8 => ?_) (fun c8 => ?_)
          · have hF := lm_brt hF c8
            refine lm_aload_n C dX4_adjust_41 rfl 0 rfl rfl ?_
            obtain ⟨σ9, qσ9, hF⟩ := lm_bde hF
            refine lm_callV C (n := 0) (ci := 4) (w' := (stW z a σ9)) hA (m_X4_findAnswers D z zo l a σ7  σ9 qσ9) gX4_adjust_X4_findAnswers rfl (by decide +kernel) ⟨Nat.le_of_ble_eq_true rfl, Nat.le_of_ble_eq_true rfl⟩ ⟨Nat.le_of_ble_eq_true rfl, Nat.le_of_ble_eq_true rfl⟩ 0 rfl rfl lm_pr lm_pr' rfl rfl (Nat.le_of_ble_eq_true rfl) dX4_adjust_42 (st' := []) rfl rfl ?_
            refine lm_aload_n C dX4_adjust_45 rfl 0 rfl rfl ?_
            obtain ⟨r11, σ10, qσ10, hF⟩ := lm_b2e hF
            refine lm_callV C (n := 0) (ci := 4) (w' := (stW z a σ10)) hA (m_X4_throwAllOut D z zo l a σ9  r11 σ10 qσ10) gX4_adjust_X4_throwAllOut rfl (by decide +kernel) ⟨Nat.le_of_ble_eq_true rfl, Nat.le_of_ble_eq_true rfl⟩ ⟨Nat.le_of_ble_eq_true rfl, Nat.le_of_ble_eq_true rfl⟩ 0 rfl rfl lm_pr lm_pr' rfl rfl (Nat.le_of_ble_eq_true rfl) dX4_adjust_46 (st' := [.int r11]) rfl rfl ?_
            cases hF
            exact lm_iret C hr hk rfl rfl dX4_adjust_49
          · have hF := lm_brf hF c8
            refine lm_aload_n C dX4_adjust_35 rfl 0 rfl rfl ?_
            refine lm_iconst C (v := (-1 : Int32)) dX4_adjust_36 (by decide) rfl ?_
            obtain ⟨r13, σ12, qσ12, hF⟩ := lm_b2e hF
            refine lm_callV C (n := 1) (ci := 4) (w' := (stW z a σ12)) hA (m_X4_makeRoom D z zo l a σ7 (-1 : Int32) r13 σ12 qσ12) gX4_adjust_X4_makeRoom rfl (by decide +kernel) ⟨Nat.le_of_ble_eq_true rfl, Nat.le_of_ble_eq_true rfl⟩ ⟨Nat.le_of_ble_eq_true rfl, Nat.le_of_ble_eq_true rfl⟩ 0 rfl rfl lm_pr lm_pr' rfl rfl (Nat.le_of_ble_eq_true rfl) dX4_adjust_37 (st' := [.int r13]) rfl rfl ?_
            cases hF
            exact lm_iret C hr hk rfl rfl dX4_adjust_40
        · have hF := lm_brf hF c6
          refine lm_iconst C (v := (-1 : Int32)) dX4_adjust_22 (by decide) rfl ?_
          cases hF
          exact lm_iret C hr hk rfl rfl dX4_adjust_23
def F_X4_totalByAnswers_L4 : Nat → Hp → Int32 → Int32 → Option Int32
  | 0, _, _, _ => none
  | n + 1, σx, x1, x2 =>
    lm_bd (F_X5_size (lm_sh 1 σx)) fun r1 =>
    lm_br (r1 ≤ x2)
     (some x1)
     (lm_bd (F_X5_value (lm_sh 1 σx) x2) fun r3 =>
     lm_bd (F_X5_key (lm_sh 1 σx) x2) fun r4 =>
     lm_bd (F_X0_sum (lm_sh 7 σx) r4) fun r5 =>
     F_X4_totalByAnswers_L4 n σx (x1 + (r3 * r5)) (x2 + (1 : Int32)))
def F_X4_totalByAnswers (σ : Hp)  : Option Int32 :=
  F_X4_totalByAnswers_L4 1000 σ (0 : Int32) (0 : Int32)
theorem in4_X4_totalByAnswers : ∀ w ∈ u_ws RX4 TX4 8, w ∈ wsX4_totalByAnswers := by decide +kernel
theorem fl12_X4_totalByAnswers : Cond.fieldLink RX4 12 "LoopMemo$State" "outer" "LLoopMemo$Table;" ∈ wsX4_totalByAnswers := by decide +kernel
theorem fl24_X4_totalByAnswers : Cond.fieldLink RX4 24 "LoopMemo$State" "answers" "LLoopMemo$Answers;" ∈ wsX4_totalByAnswers := by decide +kernel
set_option maxRecDepth 100000 in
set_option maxHeartbeats 4000000 in
theorem m_X4_totalByAnswers (D : va_G) (z zo : ClassId) (l : Launch) (a : Nat → Nat) (σ : Hp)  (r : Int32)  (hF : F_X4_totalByAnswers σ  = some r) : lm_CR D z zo l yX4_totalByAnswers wsX4_totalByAnswers 1 21 [.ref (a 0)] (stW z a σ) (some (.int r)) := by
  refine lm_CR.of (by decide) rfl (Nat.le_of_ble_eq_true rfl) (own := RX4) rfl ?_
  intro p e s m_ args below meth c C hr hk
  have loop_4 : ∀ (n : Nat) (σx : Hp) (x1 : Int32) (x2 : Int32), F_X4_totalByAnswers_L4 n σx x1 x2 = some r → lm_St p l e ({ frames := 1, cells := 0, slots := 0, locals := 21 }) s m_ args below meth c D (fun _ => False) 3 0 0 (lm_EndR below (some (.int r)) args s) true (stW z a σx) 4 [(0, .ref (a 0)), (1, .int x1), (2, .int x2)] [] := by
    intro n
    induction n with
    | zero => intro σx x1 x2 hF; cases (show (none : Option _) = some _ from hF)
    | succ n ih =>
      intro σx x1 x2 hF
      rw [F_X4_totalByAnswers_L4] at hF
      refine lm_iload_n C dX4_totalByAnswers_4 rfl 2 rfl rfl ?_
      refine lm_aload_n C dX4_totalByAnswers_5 rfl 0 rfl rfl ?_
      refine lm_getf C (T := TX4) (N := 8) (v := .ref (a 1)) in4_X4_totalByAnswers 0 rfl rfl 0 (by decide) fl12_X4_totalByAnswers rfl rfl dX4_totalByAnswers_6 rfl ?_
      obtain ⟨r1, qr1, hF⟩ := lm_bde hF
      refine lm_callVR C (n := 0) (ci := 5) (m_X5_size D z zo l (lm_sh 1 a) (lm_sh 1 σx)  r1 qr1) gX4_totalByAnswers_X5_size rfl (by decide +kernel) ⟨Nat.le_of_ble_eq_true rfl, Nat.le_of_ble_eq_true rfl⟩ ⟨Nat.le_of_ble_eq_true rfl, Nat.le_of_ble_eq_true rfl⟩ 1 rfl rfl (st_s1 z a σx) rfl rfl (Nat.le_of_ble_eq_true rfl) dX4_totalByAnswers_9 (st' := [.int r1, .int x2]) rfl rfl ?_
      refine lm_icmp_ge C (tgt := 48) dX4_totalByAnswers_12 (by decide) rfl (fun c2 => ?_) (fun c2 => ?_)
      · have hF := lm_brt hF c2
        refine lm_iload_n C dX4_totalByAnswers_48 rfl 1 rfl rfl ?_
        cases hF
        exact lm_iretR C hr hk rfl dX4_totalByAnswers_49
      · have hF := lm_brf hF c2
        refine lm_iload_n C dX4_totalByAnswers_15 rfl 1 rfl rfl ?_
        refine lm_aload_n C dX4_totalByAnswers_16 rfl 0 rfl rfl ?_
        refine lm_getf C (T := TX4) (N := 8) (v := .ref (a 1)) in4_X4_totalByAnswers 0 rfl rfl 0 (by decide) fl12_X4_totalByAnswers rfl rfl dX4_totalByAnswers_17 rfl ?_
        refine lm_iload_n C dX4_totalByAnswers_20 rfl 2 rfl rfl ?_
        obtain ⟨r3, qr3, hF⟩ := lm_bde hF
        refine lm_callVR C (n := 1) (ci := 5) (m_X5_value D z zo l (lm_sh 1 a) (lm_sh 1 σx) x2 r3 qr3) gX4_totalByAnswers_X5_value rfl (by decide +kernel) ⟨Nat.le_of_ble_eq_true rfl, Nat.le_of_ble_eq_true rfl⟩ ⟨Nat.le_of_ble_eq_true rfl, Nat.le_of_ble_eq_true rfl⟩ 1 rfl rfl (st_s1 z a σx) rfl rfl (Nat.le_of_ble_eq_true rfl) dX4_totalByAnswers_21 (st' := [.int r3, .int x1]) rfl rfl ?_
        refine lm_aload_n C dX4_totalByAnswers_24 rfl 0 rfl rfl ?_
        refine lm_getf C (T := TX4) (N := 8) (v := .ref (a 7)) in4_X4_totalByAnswers 0 rfl rfl 2 (by decide) fl24_X4_totalByAnswers rfl rfl dX4_totalByAnswers_25 rfl ?_
        refine lm_aload_n C dX4_totalByAnswers_28 rfl 0 rfl rfl ?_
        refine lm_getf C (T := TX4) (N := 8) (v := .ref (a 1)) in4_X4_totalByAnswers 0 rfl rfl 0 (by decide) fl12_X4_totalByAnswers rfl rfl dX4_totalByAnswers_29 rfl ?_
        refine lm_iload_n C dX4_totalByAnswers_32 rfl 2 rfl rfl ?_
        obtain ⟨r4, qr4, hF⟩ := lm_bde hF
        refine lm_callVR C (n := 1) (ci := 5) (m_X5_key D z zo l (lm_sh 1 a) (lm_sh 1 σx) x2 r4 qr4) gX4_totalByAnswers_X5_key rfl (by decide +kernel) ⟨Nat.le_of_ble_eq_true rfl, Nat.le_of_ble_eq_true rfl⟩ ⟨Nat.le_of_ble_eq_true rfl, Nat.le_of_ble_eq_true rfl⟩ 1 rfl rfl (st_s1 z a σx) rfl rfl (Nat.le_of_ble_eq_true rfl) dX4_totalByAnswers_33 (st' := [.int r4, .ref (a 7), .int r3, .int x1]) rfl rfl ?_
        obtain ⟨r5, qr5, hF⟩ := lm_bde hF
        refine lm_callVR C (n := 1) (ci := 0) (m_X0_sum D z zo l (lm_sh 7 a) (lm_sh 7 σx) r4 r5 qr5) gX4_totalByAnswers_X0_sum rfl (by decide +kernel) ⟨Nat.le_of_ble_eq_true rfl, Nat.le_of_ble_eq_true rfl⟩ ⟨Nat.le_of_ble_eq_true rfl, Nat.le_of_ble_eq_true rfl⟩ 7 rfl rfl (st_s7 z a σx) rfl rfl (Nat.le_of_ble_eq_true rfl) dX4_totalByAnswers_36 (st' := [.int r5, .int r3, .int x1]) rfl rfl ?_
        refine lm_imul C dX4_totalByAnswers_39 rfl rfl ?_
        refine lm_iadd C dX4_totalByAnswers_40 rfl rfl ?_
        refine lm_istore_n C (lv' := [(0, .ref (a 0)), (1, .int (x1 + (r3 * r5))), (2, .int x2)]) dX4_totalByAnswers_41 rfl (by decide) rfl [1, 0, 2] rfl rfl ?_
        refine lm_iinc C (lv' := [(0, .ref (a 0)), (1, .int (x1 + (r3 * r5))), (2, .int (x2 + (1 : Int32)))]) (x2 + (1 : Int32)) dX4_totalByAnswers_42 2 rfl rfl (by decide) rfl [1, 2, 0] rfl rfl ?_
        refine lm_goto C (tgt := 4) dX4_totalByAnswers_45 (by decide) ?_
        exact ih σx (x1 + (r3 * r5)) (x2 + (1 : Int32)) hF
  show lm_St p l e ({ frames := 1, cells := 0, slots := 0, locals := 21 }) s m_ args below meth c D (fun _ => False) 3 0 0 (lm_EndR below (some (.int r)) args s) true (stW z a σ) 0 [(0, .ref (a 0))] []
  rw [F_X4_totalByAnswers] at hF
  refine lm_iconst C (v := (0 : Int32)) dX4_totalByAnswers_0 (by decide) rfl ?_
  refine lm_istore_n C (lv' := [(0, .ref (a 0)), (1, .int (0 : Int32))]) dX4_totalByAnswers_1 rfl (by decide) rfl [1, 0] rfl rfl ?_
  refine lm_iconst C (v := (0 : Int32)) dX4_totalByAnswers_2 (by decide) rfl ?_
  refine lm_istore_n C (lv' := [(0, .ref (a 0)), (1, .int (0 : Int32)), (2, .int (0 : Int32))]) dX4_totalByAnswers_3 rfl (by decide) rfl [1, 2, 0] rfl rfl ?_
  exact loop_4 1000 σ (0 : Int32) (0 : Int32) hF
def F_X4_totalByRows_L17 : Nat → Hp → Int32 → Int32 → Int32 → Option (Int32)
  | 0, _, _, _, _ => none
  | n + 1, σx, x1, x2, x3 =>
    lm_bd (F_X5_size (lm_sh 4 σx)) fun r3 =>
    lm_br (r3 ≤ x3)
     (some (x1))
     (lm_bd (F_X5_key (lm_sh 4 σx) x3) fun r5 =>
     lm_bd (F_X5_key (lm_sh 1 σx) x2) fun r6 =>
     lm_br (¬ r5 = r6)
      (F_X4_totalByRows_L17 n σx x1 x2 (x3 + (1 : Int32)))
      (lm_bd (F_X5_value (lm_sh 4 σx) x3) fun r8 =>
      lm_bd (F_X4_isInBand σx r8) fun r9 =>
      lm_br (r9 = 0)
       (F_X4_totalByRows_L17 n σx x1 x2 (x3 + (1 : Int32)))
       (lm_bd (F_X5_value (lm_sh 1 σx) x2) fun r11 =>
       lm_bd (F_X5_value (lm_sh 4 σx) x3) fun r12 =>
       F_X4_totalByRows_L17 n σx (x1 + (r11 * r12)) x2 (x3 + (1 : Int32)))))
def F_X4_totalByRows_L4 : Nat → Hp → Int32 → Int32 → Option Int32
  | 0, _, _, _ => none
  | n + 1, σx, x1, x2 =>
    lm_bd (F_X5_size (lm_sh 1 σx)) fun r1 =>
    lm_br (r1 ≤ x2)
     (some x1)
     (lm_bd (F_X4_totalByRows_L17 1000 σx x1 x2 (0 : Int32)) fun y13 =>
     F_X4_totalByRows_L4 n σx y13 (x2 + (1 : Int32)))
def F_X4_totalByRows (σ : Hp)  : Option Int32 :=
  F_X4_totalByRows_L4 1000 σ (0 : Int32) (0 : Int32)
theorem in4_X4_totalByRows : ∀ w ∈ u_ws RX4 TX4 8, w ∈ wsX4_totalByRows := by decide +kernel
theorem fl12_X4_totalByRows : Cond.fieldLink RX4 12 "LoopMemo$State" "outer" "LLoopMemo$Table;" ∈ wsX4_totalByRows := by decide +kernel
theorem fl18_X4_totalByRows : Cond.fieldLink RX4 18 "LoopMemo$State" "inner" "LLoopMemo$Table;" ∈ wsX4_totalByRows := by decide +kernel
set_option maxRecDepth 100000 in
set_option maxHeartbeats 4000000 in
theorem m_X4_totalByRows (D : va_G) (z zo : ClassId) (l : Launch) (a : Nat → Nat) (σ : Hp)  (r : Int32)  (hF : F_X4_totalByRows σ  = some r) : lm_CR D z zo l yX4_totalByRows wsX4_totalByRows 1 21 [.ref (a 0)] (stW z a σ) (some (.int r)) := by
  refine lm_CR.of (by decide) rfl (Nat.le_of_ble_eq_true rfl) (own := RX4) rfl ?_
  intro p e s m_ args below meth c C hr hk
  have loop_17 : ∀ (n : Nat) (σx : Hp) (x1 : Int32) (x2 : Int32) (x3 : Int32) (o0 : Int32), F_X4_totalByRows_L17 n σx x1 x2 x3 = some o0 → lm_St p l e ({ frames := 1, cells := 0, slots := 0, locals := 21 }) s m_ args below meth c D (fun _ => False) 4 0 0 (lm_EndR below (some (.int r)) args s) true (stW z a σx) 88 [(0, .ref (a 0)), (1, .int o0), (2, .int x2)] [] → lm_St p l e ({ frames := 1, cells := 0, slots := 0, locals := 21 }) s m_ args below meth c D (fun _ => False) 4 0 0 (lm_EndR below (some (.int r)) args s) true (stW z a σx) 17 [(0, .ref (a 0)), (1, .int x1), (2, .int x2), (3, .int x3)] [] := by
    intro n
    induction n with
    | zero => intro σx x1 x2 x3 o0 hF hK; cases (show (none : Option _) = some _ from hF)
    | succ n ih =>
      intro σx x1 x2 x3 o0 hF hK
      rw [F_X4_totalByRows_L17] at hF
      refine lm_iload_n C dX4_totalByRows_17 rfl 3 rfl rfl ?_
      refine lm_aload_n C dX4_totalByRows_18 rfl 0 rfl rfl ?_
      refine lm_getf C (T := TX4) (N := 8) (v := .ref (a 4)) in4_X4_totalByRows 0 rfl rfl 1 (by decide) fl18_X4_totalByRows rfl rfl dX4_totalByRows_19 rfl ?_
      obtain ⟨r3, qr3, hF⟩ := lm_bde hF
      refine lm_callVR C (n := 0) (ci := 5) (m_X5_size D z zo l (lm_sh 4 a) (lm_sh 4 σx)  r3 qr3) gX4_totalByRows_X5_size rfl (by decide +kernel) ⟨Nat.le_of_ble_eq_true rfl, Nat.le_of_ble_eq_true rfl⟩ ⟨Nat.le_of_ble_eq_true rfl, Nat.le_of_ble_eq_true rfl⟩ 4 rfl rfl (st_s4 z a σx) rfl rfl (Nat.le_of_ble_eq_true rfl) dX4_totalByRows_22 (st' := [.int r3, .int x3]) rfl rfl ?_
      refine lm_icmp_ge C (tgt := 88) dX4_totalByRows_25 (by decide) rfl (fun c4 => ?_) (fun c4 => ?_)
      · have hF := lm_brt hF c4
        refine lm_lvsub (lv' := [(0, .ref (a 0)), (1, .int x1), (2, .int x2)]) [0, 1, 2] rfl ?_
        cases hF
        exact hK
      · have hF := lm_brf hF c4
        refine lm_aload_n C dX4_totalByRows_28 rfl 0 rfl rfl ?_
        refine lm_getf C (T := TX4) (N := 8) (v := .ref (a 4)) in4_X4_totalByRows 0 rfl rfl 1 (by decide) fl18_X4_totalByRows rfl rfl dX4_totalByRows_29 rfl ?_
        refine lm_iload_n C dX4_totalByRows_32 rfl 3 rfl rfl ?_
        obtain ⟨r5, qr5, hF⟩ := lm_bde hF
        refine lm_callVR C (n := 1) (ci := 5) (m_X5_key D z zo l (lm_sh 4 a) (lm_sh 4 σx) x3 r5 qr5) gX4_totalByRows_X5_key rfl (by decide +kernel) ⟨Nat.le_of_ble_eq_true rfl, Nat.le_of_ble_eq_true rfl⟩ ⟨Nat.le_of_ble_eq_true rfl, Nat.le_of_ble_eq_true rfl⟩ 4 rfl rfl (st_s4 z a σx) rfl rfl (Nat.le_of_ble_eq_true rfl) dX4_totalByRows_33 (st' := [.int r5]) rfl rfl ?_
        refine lm_aload_n C dX4_totalByRows_36 rfl 0 rfl rfl ?_
        refine lm_getf C (T := TX4) (N := 8) (v := .ref (a 1)) in4_X4_totalByRows 0 rfl rfl 0 (by decide) fl12_X4_totalByRows rfl rfl dX4_totalByRows_37 rfl ?_
        refine lm_iload_n C dX4_totalByRows_40 rfl 2 rfl rfl ?_
        obtain ⟨r6, qr6, hF⟩ := lm_bde hF
        refine lm_callVR C (n := 1) (ci := 5) (m_X5_key D z zo l (lm_sh 1 a) (lm_sh 1 σx) x2 r6 qr6) gX4_totalByRows_X5_key rfl (by decide +kernel) ⟨Nat.le_of_ble_eq_true rfl, Nat.le_of_ble_eq_true rfl⟩ ⟨Nat.le_of_ble_eq_true rfl, Nat.le_of_ble_eq_true rfl⟩ 1 rfl rfl (st_s1 z a σx) rfl rfl (Nat.le_of_ble_eq_true rfl) dX4_totalByRows_41 (st' := [.int r6, .int r5]) rfl rfl ?_
        refine lm_icmp_ne C (tgt := 82) dX4_totalByRows_44 (by decide) rfl (fun c7 => ?_) (fun c7 => ?_)
        · have hF := lm_brt hF c7
          refine lm_iinc C (lv' := [(0, .ref (a 0)), (1, .int x1), (2, .int x2), (3, .int (x3 + (1 : Int32)))]) (x3 + (1 : Int32)) dX4_totalByRows_82 3 rfl rfl (by decide) rfl [1, 2, 3, 0] rfl rfl ?_
          refine lm_goto C (tgt := 17) dX4_totalByRows_85 (by decide) ?_
          exact ih σx x1 x2 (x3 + (1 : Int32)) _ hF hK
        · have hF := lm_brf hF c7
          refine lm_aload_n C dX4_totalByRows_47 rfl 0 rfl rfl ?_
          refine lm_aload_n C dX4_totalByRows_48 rfl 0 rfl rfl ?_
          refine lm_getf C (T := TX4) (N := 8) (v := .ref (a 4)) in4_X4_totalByRows 0 rfl rfl 1 (by decide) fl18_X4_totalByRows rfl rfl dX4_totalByRows_49 rfl ?_
          refine lm_iload_n C dX4_totalByRows_52 rfl 3 rfl rfl ?_
          obtain ⟨r8, qr8, hF⟩ := lm_bde hF
          refine lm_callVR C (n := 1) (ci := 5) (m_X5_value D z zo l (lm_sh 4 a) (lm_sh 4 σx) x3 r8 qr8) gX4_totalByRows_X5_value rfl (by decide +kernel) ⟨Nat.le_of_ble_eq_true rfl, Nat.le_of_ble_eq_true rfl⟩ ⟨Nat.le_of_ble_eq_true rfl, Nat.le_of_ble_eq_true rfl⟩ 4 rfl rfl (st_s4 z a σx) rfl rfl (Nat.le_of_ble_eq_true rfl) dX4_totalByRows_53 (st' := [.int r8, .ref (a 0)]) rfl rfl ?_
          obtain ⟨r9, qr9, hF⟩ := lm_bde hF
          refine lm_callVR C (n := 1) (ci := 4) (m_X4_isInBand D z zo l a σx r8 r9 qr9) gX4_totalByRows_X4_isInBand rfl (by decide +kernel) ⟨Nat.le_of_ble_eq_true rfl, Nat.le_of_ble_eq_true rfl⟩ ⟨Nat.le_of_ble_eq_true rfl, Nat.le_of_ble_eq_true rfl⟩ 0 rfl rfl (fun _ h => h) rfl rfl (Nat.le_of_ble_eq_true rfl) dX4_totalByRows_56 (st' := [.int r9]) rfl rfl ?_
          refine lm_if_eq C (tgt := 82) dX4_totalByRows_59 (by decide) rfl (fun c10 => ?_) (fun c10 => ?_)
          · have hF := lm_brt hF c10
            refine lm_iinc C (lv' := [(0, .ref (a 0)), (1, .int x1), (2, .int x2), (3, .int (x3 + (1 : Int32)))]) (x3 + (1 : Int32)) dX4_totalByRows_82 3 rfl rfl (by decide) rfl [1, 2, 3, 0] rfl rfl ?_
            refine lm_goto C (tgt := 17) dX4_totalByRows_85 (by decide) ?_
            exact ih σx x1 x2 (x3 + (1 : Int32)) _ hF hK
          · have hF := lm_brf hF c10
            refine lm_iload_n C dX4_totalByRows_62 rfl 1 rfl rfl ?_
            refine lm_aload_n C dX4_totalByRows_63 rfl 0 rfl rfl ?_
            refine lm_getf C (T := TX4) (N := 8) (v := .ref (a 1)) in4_X4_totalByRows 0 rfl rfl 0 (by decide) fl12_X4_totalByRows rfl rfl dX4_totalByRows_64 rfl ?_
            refine lm_iload_n C dX4_totalByRows_67 rfl 2 rfl rfl ?_
            obtain ⟨r11, qr11, hF⟩ := lm_bde hF
            refine lm_callVR C (n := 1) (ci := 5) (m_X5_value D z zo l (lm_sh 1 a) (lm_sh 1 σx) x2 r11 qr11) gX4_totalByRows_X5_value rfl (by decide +kernel) ⟨Nat.le_of_ble_eq_true rfl, Nat.le_of_ble_eq_true rfl⟩ ⟨Nat.le_of_ble_eq_true rfl, Nat.le_of_ble_eq_true rfl⟩ 1 rfl rfl (st_s1 z a σx) rfl rfl (Nat.le_of_ble_eq_true rfl) dX4_totalByRows_68 (st' := [.int r11, .int x1]) rfl rfl ?_
            refine lm_aload_n C dX4_totalByRows_71 rfl 0 rfl rfl ?_
            refine lm_getf C (T := TX4) (N := 8) (v := .ref (a 4)) in4_X4_totalByRows 0 rfl rfl 1 (by decide) fl18_X4_totalByRows rfl rfl dX4_totalByRows_72 rfl ?_
            refine lm_iload_n C dX4_totalByRows_75 rfl 3 rfl rfl ?_
            obtain ⟨r12, qr12, hF⟩ := lm_bde hF
            refine lm_callVR C (n := 1) (ci := 5) (m_X5_value D z zo l (lm_sh 4 a) (lm_sh 4 σx) x3 r12 qr12) gX4_totalByRows_X5_value rfl (by decide +kernel) ⟨Nat.le_of_ble_eq_true rfl, Nat.le_of_ble_eq_true rfl⟩ ⟨Nat.le_of_ble_eq_true rfl, Nat.le_of_ble_eq_true rfl⟩ 4 rfl rfl (st_s4 z a σx) rfl rfl (Nat.le_of_ble_eq_true rfl) dX4_totalByRows_76 (st' := [.int r12, .int r11, .int x1]) rfl rfl ?_
            refine lm_imul C dX4_totalByRows_79 rfl rfl ?_
            refine lm_iadd C dX4_totalByRows_80 rfl rfl ?_
            refine lm_istore_n C (lv' := [(0, .ref (a 0)), (1, .int (x1 + (r11 * r12))), (2, .int x2), (3, .int x3)]) dX4_totalByRows_81 rfl (by decide) rfl [1, 0, 2, 3] rfl rfl ?_
            refine lm_iinc C (lv' := [(0, .ref (a 0)), (1, .int (x1 + (r11 * r12))), (2, .int x2), (3, .int (x3 + (1 : Int32)))]) (x3 + (1 : Int32)) dX4_totalByRows_82 3 rfl rfl (by decide) rfl [1, 2, 3, 0] rfl rfl ?_
            refine lm_goto C (tgt := 17) dX4_totalByRows_85 (by decide) ?_
            exact ih σx (x1 + (r11 * r12)) x2 (x3 + (1 : Int32)) _ hF hK
  have loop_4 : ∀ (n : Nat) (σx : Hp) (x1 : Int32) (x2 : Int32), F_X4_totalByRows_L4 n σx x1 x2 = some r → lm_St p l e ({ frames := 1, cells := 0, slots := 0, locals := 21 }) s m_ args below meth c D (fun _ => False) 4 0 0 (lm_EndR below (some (.int r)) args s) true (stW z a σx) 4 [(0, .ref (a 0)), (1, .int x1), (2, .int x2)] [] := by
    intro n
    induction n with
    | zero => intro σx x1 x2 hF; cases (show (none : Option _) = some _ from hF)
    | succ n ih =>
      intro σx x1 x2 hF
      rw [F_X4_totalByRows_L4] at hF
      refine lm_iload_n C dX4_totalByRows_4 rfl 2 rfl rfl ?_
      refine lm_aload_n C dX4_totalByRows_5 rfl 0 rfl rfl ?_
      refine lm_getf C (T := TX4) (N := 8) (v := .ref (a 1)) in4_X4_totalByRows 0 rfl rfl 0 (by decide) fl12_X4_totalByRows rfl rfl dX4_totalByRows_6 rfl ?_
      obtain ⟨r1, qr1, hF⟩ := lm_bde hF
      refine lm_callVR C (n := 0) (ci := 5) (m_X5_size D z zo l (lm_sh 1 a) (lm_sh 1 σx)  r1 qr1) gX4_totalByRows_X5_size rfl (by decide +kernel) ⟨Nat.le_of_ble_eq_true rfl, Nat.le_of_ble_eq_true rfl⟩ ⟨Nat.le_of_ble_eq_true rfl, Nat.le_of_ble_eq_true rfl⟩ 1 rfl rfl (st_s1 z a σx) rfl rfl (Nat.le_of_ble_eq_true rfl) dX4_totalByRows_9 (st' := [.int r1, .int x2]) rfl rfl ?_
      refine lm_icmp_ge C (tgt := 94) dX4_totalByRows_12 (by decide) rfl (fun c2 => ?_) (fun c2 => ?_)
      · have hF := lm_brt hF c2
        refine lm_iload_n C dX4_totalByRows_94 rfl 1 rfl rfl ?_
        cases hF
        exact lm_iretR C hr hk rfl dX4_totalByRows_95
      · have hF := lm_brf hF c2
        refine lm_iconst C (v := (0 : Int32)) dX4_totalByRows_15 (by decide) rfl ?_
        refine lm_istore_n C (lv' := [(0, .ref (a 0)), (1, .int x1), (2, .int x2), (3, .int (0 : Int32))]) dX4_totalByRows_16 rfl (by decide) rfl [1, 2, 3, 0] rfl rfl ?_
        obtain ⟨y13, hqy13, hF⟩ := lm_bde hF
        refine loop_17 1000 σx x1 x2 (0 : Int32) y13 hqy13 ?_
        refine lm_iinc C (lv' := [(0, .ref (a 0)), (1, .int y13), (2, .int (x2 + (1 : Int32)))]) (x2 + (1 : Int32)) dX4_totalByRows_88 2 rfl rfl (by decide) rfl [1, 2, 0] rfl rfl ?_
        refine lm_goto C (tgt := 4) dX4_totalByRows_91 (by decide) ?_
        exact ih σx y13 (x2 + (1 : Int32)) hF
  show lm_St p l e ({ frames := 1, cells := 0, slots := 0, locals := 21 }) s m_ args below meth c D (fun _ => False) 4 0 0 (lm_EndR below (some (.int r)) args s) true (stW z a σ) 0 [(0, .ref (a 0))] []
  rw [F_X4_totalByRows] at hF
  refine lm_iconst C (v := (0 : Int32)) dX4_totalByRows_0 (by decide) rfl ?_
  refine lm_istore_n C (lv' := [(0, .ref (a 0)), (1, .int (0 : Int32))]) dX4_totalByRows_1 rfl (by decide) rfl [1, 0] rfl rfl ?_
  refine lm_iconst C (v := (0 : Int32)) dX4_totalByRows_2 (by decide) rfl ?_
  refine lm_istore_n C (lv' := [(0, .ref (a 0)), (1, .int (0 : Int32)), (2, .int (0 : Int32))]) dX4_totalByRows_3 rfl (by decide) rfl [1, 2, 0] rfl rfl ?_
  exact loop_4 1000 σ (0 : Int32) (0 : Int32) hF
end
section
def F_X3_size (σ : Hp)  : Option Int32 :=
  some (σ 0 1)
theorem in3_X3_size : ∀ w ∈ u_ws RX3 TX3 9, w ∈ wsX3_size := by decide +kernel
theorem fl15_X3_size : Cond.fieldLink RX3 15 "LoopMemo$Pad" "size" "I" ∈ wsX3_size := by decide +kernel
set_option maxRecDepth 100000 in
set_option maxHeartbeats 4000000 in
theorem m_X3_size (D : va_G) (z zo : ClassId) (l : Launch) (a : Nat → Nat) (σ : Hp)  (r : Int32)  (hF : F_X3_size σ  = some r) : lm_CR D z zo l yX3_size wsX3_size 0 0 [.ref (a 0)] (pdW z a σ) (some (.int r)) := by
  refine lm_CR.of (by decide) rfl (Nat.le_of_ble_eq_true rfl) (own := RX3) rfl ?_
  intro p e s m_ args below meth c C hr hk
  show lm_St p l e ({ frames := 0, cells := 0, slots := 0, locals := 0 }) s m_ args below meth c D (fun _ => False) 1 0 0 (lm_EndR below (some (.int r)) args s) true (pdW z a σ) 0 [(0, .ref (a 0))] []
  rw [F_X3_size] at hF
  refine lm_aload_n C dX3_size_0 rfl 0 rfl rfl ?_
  refine lm_getf C (T := TX3) (N := 9) (v := .int (σ 0 1)) in3_X3_size 0 rfl rfl 1 (by decide) fl15_X3_size rfl rfl dX3_size_1 rfl ?_
  cases hF
  exact lm_iretR C hr hk rfl dX3_size_4
end
section
section LM
variable {p : Program} {l : Launch} {e : Env} {R : Room} {s : State} {m : MethodId} {args : Array Value} {below : List Frame} {meth : Method} {c : Code} {D : va_G} {z zo : ClassId} {A : Nat → Prop} {nL ce sl : Nat} {Q : State → Prop} {own : String} {Ts : List Cond} {cc : ByteArray} {ro : Bool} {w w' : va_W} {pc pc' : Nat} {lv lv' : Lv} {st : List Value}
theorem lm_aload_nN (C : lm_Cx p s m args c D z zo nL own Ts cc) {k : Fin 4} {i : Nat} (hd : decode cc pc = .ok (.aload_n k, 1)) (hi : (k : Nat) = i) (q : Nat) (hl : lv[q]? = some (i, .null)) (hpc : pc + 1 = pc') (K : lm_St p l e R s m args below meth c D A nL ce sl Q ro w pc' lv (.null :: st)) : lm_St p l e R s m args below meth c D A nL ce sl Q ro w pc lv st := by
  subst hpc
  exact fun H locs ls hI hL => lv_aload_nN C.1 C.2.1 hd hi (lv_at hL q hl) (K H locs ls hI hL)
theorem lm_astore_nN (C : lm_Cx p s m args c D z zo nL own Ts cc) {k : Fin 4} {i : Nat}  {lv1 : Lv} (hd : decode cc pc = .ok (.astore_n k, 1)) (hi : (k : Nat) = i) (hn : i < nL) (hl : (i, Value.null) :: lv.filter (fun q => !(q.1 == i) && !(q.1 + 1 == i && q.2.category == 2)) = lv1) (ks : List Nat) (hq : lv_pick lv1 ks = lv') (hpc : pc + 1 = pc') (K : lm_St p l e R s m args below meth c D A nL ce sl Q ro w pc' lv' st) : lm_St p l e R s m args below meth c D A nL ce sl Q ro w pc lv (Value.null :: st) := by
  subst hpc
  exact fun H locs ls hI hL => lv_astore_nN C.1 C.2.1 hd hi hL hn hl (fun ls hl => K H locs ls hI (lv_sub hl ks hq))
end LM
theorem in1_X1_slot : ∀ w ∈ u_ws RX1 TX1 3, w ∈ wsX1_slot := by decide +kernel
theorem fl13_X1_slot : Cond.fieldLink RX1 13 "LoopMemo$History" "slots" "[LLoopMemo$State;" ∈ wsX1_slot := by decide +kernel
set_option maxRecDepth 100000 in
set_option maxHeartbeats 4000000 in
theorem m_X1_slot_0 (D : va_G) (z zo : ClassId) (l : Launch) (m : Nat → Nat) (a : Nat → Nat → Nat) (h : Nat → Hp) : lm_CR D z zo l yX1_slot wsX1_slot 0 0 [.ref (m 3), .int (0 : Int32)] (lmW z zo m a h) (some (.ref (a 3 0))) := by
  refine lm_CR.of (by decide) rfl (Nat.le_of_ble_eq_true rfl) (own := RX1) rfl ?_
  intro p e s m_ args below meth c C hr hk
  refine lm_iload_n C dX1_slot_0 rfl 1 rfl rfl ?_
  refine lm_if_lt C (tgt := 22) dX1_slot_1 (by decide) rfl (fun c1 => ?_) (fun c1 => ?_)
  · exact absurd c1 (by decide)
  · refine lm_iload_n C dX1_slot_4 rfl 1 rfl rfl ?_
    refine lm_aload_n C dX1_slot_5 rfl 0 rfl rfl ?_
    refine lm_getf C (T := TX1) (N := 3) (v := .ref (m 4)) in1_X1_slot 3 rfl rfl 0 (by decide) fl13_X1_slot rfl rfl dX1_slot_6 rfl ?_
    refine lm_alenO C (v := (5 : Int32)) 4 rfl rfl dX1_slot_9 rfl ?_
    refine lm_icmp_ge C (tgt := 22) dX1_slot_10 (by decide) rfl (fun c2 => ?_) (fun c2 => ?_)
    · exact absurd c2 (by decide)
    · refine lm_aload_n C dX1_slot_13 rfl 0 rfl rfl ?_
      refine lm_getf C (T := TX1) (N := 3) (v := .ref (m 4)) in1_X1_slot 3 rfl rfl 0 (by decide) fl13_X1_slot rfl rfl dX1_slot_14 rfl ?_
      refine lm_iload_n C dX1_slot_17 rfl 1 rfl rfl ?_
      refine lm_aald C (v := .ref (a 3 0)) 4 rfl (by unfold vp_in; decide) rfl dX1_slot_18 rfl ?_
      refine lm_goto C (tgt := 23) dX1_slot_19 (by decide) ?_
      exact lm_aretR C hr hk (Or.inl ⟨_, rfl⟩) (Or.inr ⟨_, rfl⟩) rfl dX1_slot_23
set_option maxRecDepth 100000 in
set_option maxHeartbeats 4000000 in
theorem m_X1_slot_1 (D : va_G) (z zo : ClassId) (l : Launch) (m : Nat → Nat) (a : Nat → Nat → Nat) (h : Nat → Hp) : lm_CR D z zo l yX1_slot wsX1_slot 0 0 [.ref (m 3), .int (1 : Int32)] (lmW z zo m a h) (some (.ref (a 4 0))) := by
  refine lm_CR.of (by decide) rfl (Nat.le_of_ble_eq_true rfl) (own := RX1) rfl ?_
  intro p e s m_ args below meth c C hr hk
  refine lm_iload_n C dX1_slot_0 rfl 1 rfl rfl ?_
  refine lm_if_lt C (tgt := 22) dX1_slot_1 (by decide) rfl (fun c1 => ?_) (fun c1 => ?_)
  · exact absurd c1 (by decide)
  · refine lm_iload_n C dX1_slot_4 rfl 1 rfl rfl ?_
    refine lm_aload_n C dX1_slot_5 rfl 0 rfl rfl ?_
    refine lm_getf C (T := TX1) (N := 3) (v := .ref (m 4)) in1_X1_slot 3 rfl rfl 0 (by decide) fl13_X1_slot rfl rfl dX1_slot_6 rfl ?_
    refine lm_alenO C (v := (5 : Int32)) 4 rfl rfl dX1_slot_9 rfl ?_
    refine lm_icmp_ge C (tgt := 22) dX1_slot_10 (by decide) rfl (fun c2 => ?_) (fun c2 => ?_)
    · exact absurd c2 (by decide)
    · refine lm_aload_n C dX1_slot_13 rfl 0 rfl rfl ?_
      refine lm_getf C (T := TX1) (N := 3) (v := .ref (m 4)) in1_X1_slot 3 rfl rfl 0 (by decide) fl13_X1_slot rfl rfl dX1_slot_14 rfl ?_
      refine lm_iload_n C dX1_slot_17 rfl 1 rfl rfl ?_
      refine lm_aald C (v := .ref (a 4 0)) 4 rfl (by unfold vp_in; decide) rfl dX1_slot_18 rfl ?_
      refine lm_goto C (tgt := 23) dX1_slot_19 (by decide) ?_
      exact lm_aretR C hr hk (Or.inl ⟨_, rfl⟩) (Or.inr ⟨_, rfl⟩) rfl dX1_slot_23
set_option maxRecDepth 100000 in
set_option maxHeartbeats 4000000 in
theorem m_X1_slot_2 (D : va_G) (z zo : ClassId) (l : Launch) (m : Nat → Nat) (a : Nat → Nat → Nat) (h : Nat → Hp) : lm_CR D z zo l yX1_slot wsX1_slot 0 0 [.ref (m 3), .int (2 : Int32)] (lmW z zo m a h) (some (.ref (a 5 0))) := by
  refine lm_CR.of (by decide) rfl (Nat.le_of_ble_eq_true rfl) (own := RX1) rfl ?_
  intro p e s m_ args below meth c C hr hk
  refine lm_iload_n C dX1_slot_0 rfl 1 rfl rfl ?_
  refine lm_if_lt C (tgt := 22) dX1_slot_1 (by decide) rfl (fun c1 => ?_) (fun c1 => ?_)
  · exact absurd c1 (by decide)
  · refine lm_iload_n C dX1_slot_4 rfl 1 rfl rfl ?_
    refine lm_aload_n C dX1_slot_5 rfl 0 rfl rfl ?_
    refine lm_getf C (T := TX1) (N := 3) (v := .ref (m 4)) in1_X1_slot 3 rfl rfl 0 (by decide) fl13_X1_slot rfl rfl dX1_slot_6 rfl ?_
    refine lm_alenO C (v := (5 : Int32)) 4 rfl rfl dX1_slot_9 rfl ?_
    refine lm_icmp_ge C (tgt := 22) dX1_slot_10 (by decide) rfl (fun c2 => ?_) (fun c2 => ?_)
    · exact absurd c2 (by decide)
    · refine lm_aload_n C dX1_slot_13 rfl 0 rfl rfl ?_
      refine lm_getf C (T := TX1) (N := 3) (v := .ref (m 4)) in1_X1_slot 3 rfl rfl 0 (by decide) fl13_X1_slot rfl rfl dX1_slot_14 rfl ?_
      refine lm_iload_n C dX1_slot_17 rfl 1 rfl rfl ?_
      refine lm_aald C (v := .ref (a 5 0)) 4 rfl (by unfold vp_in; decide) rfl dX1_slot_18 rfl ?_
      refine lm_goto C (tgt := 23) dX1_slot_19 (by decide) ?_
      exact lm_aretR C hr hk (Or.inl ⟨_, rfl⟩) (Or.inr ⟨_, rfl⟩) rfl dX1_slot_23
set_option maxRecDepth 100000 in
set_option maxHeartbeats 4000000 in
theorem m_X1_slot_3 (D : va_G) (z zo : ClassId) (l : Launch) (m : Nat → Nat) (a : Nat → Nat → Nat) (h : Nat → Hp) : lm_CR D z zo l yX1_slot wsX1_slot 0 0 [.ref (m 3), .int (3 : Int32)] (lmW z zo m a h) (some (.ref (a 6 0))) := by
  refine lm_CR.of (by decide) rfl (Nat.le_of_ble_eq_true rfl) (own := RX1) rfl ?_
  intro p e s m_ args below meth c C hr hk
  refine lm_iload_n C dX1_slot_0 rfl 1 rfl rfl ?_
  refine lm_if_lt C (tgt := 22) dX1_slot_1 (by decide) rfl (fun c1 => ?_) (fun c1 => ?_)
  · exact absurd c1 (by decide)
  · refine lm_iload_n C dX1_slot_4 rfl 1 rfl rfl ?_
    refine lm_aload_n C dX1_slot_5 rfl 0 rfl rfl ?_
    refine lm_getf C (T := TX1) (N := 3) (v := .ref (m 4)) in1_X1_slot 3 rfl rfl 0 (by decide) fl13_X1_slot rfl rfl dX1_slot_6 rfl ?_
    refine lm_alenO C (v := (5 : Int32)) 4 rfl rfl dX1_slot_9 rfl ?_
    refine lm_icmp_ge C (tgt := 22) dX1_slot_10 (by decide) rfl (fun c2 => ?_) (fun c2 => ?_)
    · exact absurd c2 (by decide)
    · refine lm_aload_n C dX1_slot_13 rfl 0 rfl rfl ?_
      refine lm_getf C (T := TX1) (N := 3) (v := .ref (m 4)) in1_X1_slot 3 rfl rfl 0 (by decide) fl13_X1_slot rfl rfl dX1_slot_14 rfl ?_
      refine lm_iload_n C dX1_slot_17 rfl 1 rfl rfl ?_
      refine lm_aald C (v := .ref (a 6 0)) 4 rfl (by unfold vp_in; decide) rfl dX1_slot_18 rfl ?_
      refine lm_goto C (tgt := 23) dX1_slot_19 (by decide) ?_
      exact lm_aretR C hr hk (Or.inl ⟨_, rfl⟩) (Or.inr ⟨_, rfl⟩) rfl dX1_slot_23
set_option maxRecDepth 100000 in
set_option maxHeartbeats 4000000 in
theorem m_X1_slot_4 (D : va_G) (z zo : ClassId) (l : Launch) (m : Nat → Nat) (a : Nat → Nat → Nat) (h : Nat → Hp) : lm_CR D z zo l yX1_slot wsX1_slot 0 0 [.ref (m 3), .int (4 : Int32)] (lmW z zo m a h) (some (.ref (a 7 0))) := by
  refine lm_CR.of (by decide) rfl (Nat.le_of_ble_eq_true rfl) (own := RX1) rfl ?_
  intro p e s m_ args below meth c C hr hk
  refine lm_iload_n C dX1_slot_0 rfl 1 rfl rfl ?_
  refine lm_if_lt C (tgt := 22) dX1_slot_1 (by decide) rfl (fun c1 => ?_) (fun c1 => ?_)
  · exact absurd c1 (by decide)
  · refine lm_iload_n C dX1_slot_4 rfl 1 rfl rfl ?_
    refine lm_aload_n C dX1_slot_5 rfl 0 rfl rfl ?_
    refine lm_getf C (T := TX1) (N := 3) (v := .ref (m 4)) in1_X1_slot 3 rfl rfl 0 (by decide) fl13_X1_slot rfl rfl dX1_slot_6 rfl ?_
    refine lm_alenO C (v := (5 : Int32)) 4 rfl rfl dX1_slot_9 rfl ?_
    refine lm_icmp_ge C (tgt := 22) dX1_slot_10 (by decide) rfl (fun c2 => ?_) (fun c2 => ?_)
    · exact absurd c2 (by decide)
    · refine lm_aload_n C dX1_slot_13 rfl 0 rfl rfl ?_
      refine lm_getf C (T := TX1) (N := 3) (v := .ref (m 4)) in1_X1_slot 3 rfl rfl 0 (by decide) fl13_X1_slot rfl rfl dX1_slot_14 rfl ?_
      refine lm_iload_n C dX1_slot_17 rfl 1 rfl rfl ?_
      refine lm_aald C (v := .ref (a 7 0)) 4 rfl (by unfold vp_in; decide) rfl dX1_slot_18 rfl ?_
      refine lm_goto C (tgt := 23) dX1_slot_19 (by decide) ?_
      exact lm_aretR C hr hk (Or.inl ⟨_, rfl⟩) (Or.inr ⟨_, rfl⟩) rfl dX1_slot_23
def F_X1_size (h : Nat → Hp)  : Option Int32 :=
  some (h 8 3 2)
theorem in1_X1_size : ∀ w ∈ u_ws RX1 TX1 3, w ∈ wsX1_size := by decide +kernel
theorem fl18_X1_size : Cond.fieldLink RX1 18 "LoopMemo$History" "size" "I" ∈ wsX1_size := by decide +kernel
set_option maxRecDepth 100000 in
set_option maxHeartbeats 4000000 in
theorem m_X1_size (D : va_G) (z zo : ClassId) (l : Launch) (m : Nat → Nat) (a : Nat → Nat → Nat) (h : Nat → Hp)  (r : Int32)  (hF : F_X1_size h  = some r) : lm_CR D z zo l yX1_size wsX1_size 0 0 [.ref (m 3)] (lmW z zo m a h) (some (.int r)) := by
  refine lm_CR.of (by decide) rfl (Nat.le_of_ble_eq_true rfl) (own := RX1) rfl ?_
  intro p e s m_ args below meth c C hr hk
  show lm_St p l e ({ frames := 0, cells := 0, slots := 0, locals := 0 }) s m_ args below meth c D (fun _ => False) 1 0 0 (lm_EndR below (some (.int r)) args s) true (lmW z zo m a h) 0 [(0, .ref (m 3))] []
  rw [F_X1_size] at hF
  refine lm_aload_n C dX1_size_0 rfl 0 rfl rfl ?_
  refine lm_getf C (T := TX1) (N := 3) (v := .int (h 8 3 2)) in1_X1_size 3 rfl rfl 2 (by decide) fl18_X1_size rfl rfl dX1_size_1 rfl ?_
  cases hF
  exact lm_iretR C hr hk rfl dX1_size_4
def F_X1_prepare (h : Nat → Hp)  : Option (Nat → Hp) :=
  lm_br ((h 8 3 1) = (0 : Int32))
   (lm_bd (F_X4_copyFrom (h 3) (h 0)) fun τ2 =>
   lm_lt (lm_uB h 3 τ2) fun h3 =>
   some h3)
   (lm_br ((h 8 3 1) = (1 : Int32))
    (lm_bd (F_X4_copyFrom (h 4) (h 0)) fun τ5 =>
    lm_lt (lm_uB h 4 τ5) fun h6 =>
    some h6)
    (lm_br ((h 8 3 1) = (2 : Int32))
     (lm_bd (F_X4_copyFrom (h 5) (h 0)) fun τ8 =>
     lm_lt (lm_uB h 5 τ8) fun h9 =>
     some h9)
     (lm_br ((h 8 3 1) = (3 : Int32))
      (lm_bd (F_X4_copyFrom (h 6) (h 0)) fun τ11 =>
      lm_lt (lm_uB h 6 τ11) fun h12 =>
      some h12)
      (lm_br ((h 8 3 1) = (4 : Int32))
       (lm_bd (F_X4_copyFrom (h 7) (h 0)) fun τ14 =>
       lm_lt (lm_uB h 7 τ14) fun h15 =>
       some h15)
       (none)))))
theorem in1_X1_prepare : ∀ w ∈ u_ws RX1 TX1 3, w ∈ wsX1_prepare := by decide +kernel
theorem fl22_X1_prepare : Cond.fieldLink RX1 22 "LoopMemo$History" "next" "I" ∈ wsX1_prepare := by decide +kernel
set_option maxRecDepth 100000 in
set_option maxHeartbeats 4000000 in
theorem m_X1_prepare (D : va_G) (z zo : ClassId) (l : Launch) (m : Nat → Nat) (a : Nat → Nat → Nat) (h : Nat → Hp)   (h' : Nat → Hp) (hF : F_X1_prepare h  = some h') : lm_C D z zo l yX1_prepare wsX1_prepare 4 103 [.ref (m 3), .ref (a 0 0)] (lmW z zo m a h) none (lmW z zo m a h') := by
  refine lm_C.of (by decide) rfl (Nat.le_of_ble_eq_true rfl) (own := RX1) rfl ?_
  intro p e s m_ args below meth c C hr hk hA
  show lm_St p l e ({ frames := 4, cells := 0, slots := 0, locals := 103 }) s m_ args below meth c D (va_A (lmW z zo m a h) s.heap.size) 3 0 0 (lm_End below D none (lmW z zo m a h) (lmW z zo m a h') args s) false (lmW z zo m a h) 0 [(0, .ref (m 3)), (1, .ref (a 0 0))] []
  rw [F_X1_prepare] at hF
  refine lm_aload_n C dX1_prepare_0 rfl 0 rfl rfl ?_
  refine lm_aload_n C dX1_prepare_1 rfl 0 rfl rfl ?_
  refine lm_getf C (T := TX1) (N := 3) (v := .int (h 8 3 1)) in1_X1_prepare 3 rfl rfl 1 (by decide) fl22_X1_prepare rfl rfl dX1_prepare_2 rfl ?_
  rcases Classical.em ((h 8 3 1) = (0 : Int32)) with c1 | c1
  · have hF := lm_brt hF c1
    refine lm_callVR C (n := 1) (ci := 1) (by rw [c1]; exact m_X1_slot_0 D z zo l m a h) gX1_prepare_X1_slot rfl (by decide +kernel) ⟨Nat.le_of_ble_eq_true rfl, Nat.le_of_ble_eq_true rfl⟩ ⟨Nat.le_of_ble_eq_true rfl, Nat.le_of_ble_eq_true rfl⟩ 3 rfl rfl (fun _ h => h) rfl (As := [.int (h 8 3 1)]) rfl (Nat.le_of_ble_eq_true rfl) dX1_prepare_5 (st' := [.ref (a 3 0)]) rfl rfl ?_
    refine lm_astore_n C (lv' := [(0, .ref (m 3)), (1, .ref (a 0 0)), (2, .ref (a 3 0))]) dX1_prepare_8 rfl (by decide) rfl [1, 2, 0] rfl rfl ?_
    refine lm_aload_n C dX1_prepare_9 rfl 2 rfl rfl ?_
    refine lm_ifnull C dX1_prepare_10 rfl ?_
    refine lm_aload_n C dX1_prepare_13 rfl 2 rfl rfl ?_
    refine lm_aload_n C dX1_prepare_14 rfl 1 rfl rfl ?_
    obtain ⟨τ2, qτ2, hF⟩ := lm_bde hF
    obtain ⟨h3, eh3, hF⟩ := lm_lte hF
    refine lm_callV C (n := 1) (ci := 4) (w' := (lmW z zo m a h3)) hA (m_X4_copyFrom D z zo l (a 3) (a 0) (h 3) (h 0) τ2 qτ2) gX1_prepare_X4_copyFrom rfl (by decide +kernel) ⟨Nat.le_of_ble_eq_true rfl, Nat.le_of_ble_eq_true rfl⟩ ⟨Nat.le_of_ble_eq_true rfl, Nat.le_of_ble_eq_true rfl⟩ 56 rfl rfl (lm_g3_0 z zo m a h) (by rw [← eh3]; exact lm_p3_0 z zo m a h τ2) rfl rfl (Nat.le_of_ble_eq_true rfl) dX1_prepare_15 (st' := []) rfl rfl ?_
    cases hF
    exact lm_vret C hr hk rfl rfl dX1_prepare_18
  · have hF := lm_brf hF c1
    rcases Classical.em ((h 8 3 1) = (1 : Int32)) with c4 | c4
    · have hF := lm_brt hF c4
      refine lm_callVR C (n := 1) (ci := 1) (by rw [c4]; exact m_X1_slot_1 D z zo l m a h) gX1_prepare_X1_slot rfl (by decide +kernel) ⟨Nat.le_of_ble_eq_true rfl, Nat.le_of_ble_eq_true rfl⟩ ⟨Nat.le_of_ble_eq_true rfl, Nat.le_of_ble_eq_true rfl⟩ 3 rfl rfl (fun _ h => h) rfl (As := [.int (h 8 3 1)]) rfl (Nat.le_of_ble_eq_true rfl) dX1_prepare_5 (st' := [.ref (a 4 0)]) rfl rfl ?_
      refine lm_astore_n C (lv' := [(0, .ref (m 3)), (1, .ref (a 0 0)), (2, .ref (a 4 0))]) dX1_prepare_8 rfl (by decide) rfl [1, 2, 0] rfl rfl ?_
      refine lm_aload_n C dX1_prepare_9 rfl 2 rfl rfl ?_
      refine lm_ifnull C dX1_prepare_10 rfl ?_
      refine lm_aload_n C dX1_prepare_13 rfl 2 rfl rfl ?_
      refine lm_aload_n C dX1_prepare_14 rfl 1 rfl rfl ?_
      obtain ⟨τ5, qτ5, hF⟩ := lm_bde hF
      obtain ⟨h6, eh6, hF⟩ := lm_lte hF
      refine lm_callV C (n := 1) (ci := 4) (w' := (lmW z zo m a h6)) hA (m_X4_copyFrom D z zo l (a 4) (a 0) (h 4) (h 0) τ5 qτ5) gX1_prepare_X4_copyFrom rfl (by decide +kernel) ⟨Nat.le_of_ble_eq_true rfl, Nat.le_of_ble_eq_true rfl⟩ ⟨Nat.le_of_ble_eq_true rfl, Nat.le_of_ble_eq_true rfl⟩ 73 rfl rfl (lm_g4_0 z zo m a h) (by rw [← eh6]; exact lm_p4_0 z zo m a h τ5) rfl rfl (Nat.le_of_ble_eq_true rfl) dX1_prepare_15 (st' := []) rfl rfl ?_
      cases hF
      exact lm_vret C hr hk rfl rfl dX1_prepare_18
    · have hF := lm_brf hF c4
      rcases Classical.em ((h 8 3 1) = (2 : Int32)) with c7 | c7
      · have hF := lm_brt hF c7
        refine lm_callVR C (n := 1) (ci := 1) (by rw [c7]; exact m_X1_slot_2 D z zo l m a h) gX1_prepare_X1_slot rfl (by decide +kernel) ⟨Nat.le_of_ble_eq_true rfl, Nat.le_of_ble_eq_true rfl⟩ ⟨Nat.le_of_ble_eq_true rfl, Nat.le_of_ble_eq_true rfl⟩ 3 rfl rfl (fun _ h => h) rfl (As := [.int (h 8 3 1)]) rfl (Nat.le_of_ble_eq_true rfl) dX1_prepare_5 (st' := [.ref (a 5 0)]) rfl rfl ?_
        refine lm_astore_n C (lv' := [(0, .ref (m 3)), (1, .ref (a 0 0)), (2, .ref (a 5 0))]) dX1_prepare_8 rfl (by decide) rfl [1, 2, 0] rfl rfl ?_
        refine lm_aload_n C dX1_prepare_9 rfl 2 rfl rfl ?_
        refine lm_ifnull C dX1_prepare_10 rfl ?_
        refine lm_aload_n C dX1_prepare_13 rfl 2 rfl rfl ?_
        refine lm_aload_n C dX1_prepare_14 rfl 1 rfl rfl ?_
        obtain ⟨τ8, qτ8, hF⟩ := lm_bde hF
        obtain ⟨h9, eh9, hF⟩ := lm_lte hF
        refine lm_callV C (n := 1) (ci := 4) (w' := (lmW z zo m a h9)) hA (m_X4_copyFrom D z zo l (a 5) (a 0) (h 5) (h 0) τ8 qτ8) gX1_prepare_X4_copyFrom rfl (by decide +kernel) ⟨Nat.le_of_ble_eq_true rfl, Nat.le_of_ble_eq_true rfl⟩ ⟨Nat.le_of_ble_eq_true rfl, Nat.le_of_ble_eq_true rfl⟩ 90 rfl rfl (lm_g5_0 z zo m a h) (by rw [← eh9]; exact lm_p5_0 z zo m a h τ8) rfl rfl (Nat.le_of_ble_eq_true rfl) dX1_prepare_15 (st' := []) rfl rfl ?_
        cases hF
        exact lm_vret C hr hk rfl rfl dX1_prepare_18
      · have hF := lm_brf hF c7
        rcases Classical.em ((h 8 3 1) = (3 : Int32)) with c10 | c10
        · have hF := lm_brt hF c10
          refine lm_callVR C (n := 1) (ci := 1) (by rw [c10]; exact m_X1_slot_3 D z zo l m a h) gX1_prepare_X1_slot rfl (by decide +kernel) ⟨Nat.le_of_ble_eq_true rfl, Nat.le_of_ble_eq_true rfl⟩ ⟨Nat.le_of_ble_eq_true rfl, Nat.le_of_ble_eq_true rfl⟩ 3 rfl rfl (fun _ h => h) rfl (As := [.int (h 8 3 1)]) rfl (Nat.le_of_ble_eq_true rfl) dX1_prepare_5 (st' := [.ref (a 6 0)]) rfl rfl ?_
          refine lm_astore_n C (lv' := [(0, .ref (m 3)), (1, .ref (a 0 0)), (2, .ref (a 6 0))]) dX1_prepare_8 rfl (by decide) rfl [1, 2, 0] rfl rfl ?_
          refine lm_aload_n C dX1_prepare_9 rfl 2 rfl rfl ?_
          refine lm_ifnull C dX1_prepare_10 rfl ?_
          refine lm_aload_n C dX1_prepare_13 rfl 2 rfl rfl ?_
          refine lm_aload_n C dX1_prepare_14 rfl 1 rfl rfl ?_
          obtain ⟨τ11, qτ11, hF⟩ := lm_bde hF
          obtain ⟨h12, eh12, hF⟩ := lm_lte hF
          refine lm_callV C (n := 1) (ci := 4) (w' := (lmW z zo m a h12)) hA (m_X4_copyFrom D z zo l (a 6) (a 0) (h 6) (h 0) τ11 qτ11) gX1_prepare_X4_copyFrom rfl (by decide +kernel) ⟨Nat.le_of_ble_eq_true rfl, Nat.le_of_ble_eq_true rfl⟩ ⟨Nat.le_of_ble_eq_true rfl, Nat.le_of_ble_eq_true rfl⟩ 107 rfl rfl (lm_g6_0 z zo m a h) (by rw [← eh12]; exact lm_p6_0 z zo m a h τ11) rfl rfl (Nat.le_of_ble_eq_true rfl) dX1_prepare_15 (st' := []) rfl rfl ?_
          cases hF
          exact lm_vret C hr hk rfl rfl dX1_prepare_18
        · have hF := lm_brf hF c10
          rcases Classical.em ((h 8 3 1) = (4 : Int32)) with c13 | c13
          · have hF := lm_brt hF c13
            refine lm_callVR C (n := 1) (ci := 1) (by rw [c13]; exact m_X1_slot_4 D z zo l m a h) gX1_prepare_X1_slot rfl (by decide +kernel) ⟨Nat.le_of_ble_eq_true rfl, Nat.le_of_ble_eq_true rfl⟩ ⟨Nat.le_of_ble_eq_true rfl, Nat.le_of_ble_eq_true rfl⟩ 3 rfl rfl (fun _ h => h) rfl (As := [.int (h 8 3 1)]) rfl (Nat.le_of_ble_eq_true rfl) dX1_prepare_5 (st' := [.ref (a 7 0)]) rfl rfl ?_
            refine lm_astore_n C (lv' := [(0, .ref (m 3)), (1, .ref (a 0 0)), (2, .ref (a 7 0))]) dX1_prepare_8 rfl (by decide) rfl [1, 2, 0] rfl rfl ?_
            refine lm_aload_n C dX1_prepare_9 rfl 2 rfl rfl ?_
            refine lm_ifnull C dX1_prepare_10 rfl ?_
            refine lm_aload_n C dX1_prepare_13 rfl 2 rfl rfl ?_
            refine lm_aload_n C dX1_prepare_14 rfl 1 rfl rfl ?_
            obtain ⟨τ14, qτ14, hF⟩ := lm_bde hF
            obtain ⟨h15, eh15, hF⟩ := lm_lte hF
            refine lm_callV C (n := 1) (ci := 4) (w' := (lmW z zo m a h15)) hA (m_X4_copyFrom D z zo l (a 7) (a 0) (h 7) (h 0) τ14 qτ14) gX1_prepare_X4_copyFrom rfl (by decide +kernel) ⟨Nat.le_of_ble_eq_true rfl, Nat.le_of_ble_eq_true rfl⟩ ⟨Nat.le_of_ble_eq_true rfl, Nat.le_of_ble_eq_true rfl⟩ 124 rfl rfl (lm_g7_0 z zo m a h) (by rw [← eh15]; exact lm_p7_0 z zo m a h τ14) rfl rfl (Nat.le_of_ble_eq_true rfl) dX1_prepare_15 (st' := []) rfl rfl ?_
            cases hF
            exact lm_vret C hr hk rfl rfl dX1_prepare_18
          · have hF := lm_brf hF c13
            cases hF
def F_X1_commit (h : Nat → Hp) (x1 : Int32) : Option (Int32 × (Nat → Hp)) :=
  lm_br (x1 < 0)
   (some (x1, h))
   (lm_lt (lm_uB h 8 (lm_u (h 8) 3 1 (((h 8 3 1) + (1 : Int32)) - ((h 8 3 1) + (1 : Int32)) / (5 : Int32) * (5 : Int32)))) fun h2 =>
   lm_lt (lm_uB h2 8 (lm_u (h2 8) 3 2 (if (4 : Int32) < ((h2 8 3 2) + (1 : Int32)) then (4 : Int32) else ((h2 8 3 2) + (1 : Int32))))) fun h3 =>
   some (x1, h3))
theorem in1_X1_commit : ∀ w ∈ u_ws RX1 TX1 3, w ∈ wsX1_commit := by decide +kernel
theorem fl22_X1_commit : Cond.fieldLink RX1 22 "LoopMemo$History" "next" "I" ∈ wsX1_commit := by decide +kernel
theorem fl18_X1_commit : Cond.fieldLink RX1 18 "LoopMemo$History" "size" "I" ∈ wsX1_commit := by decide +kernel
theorem min0_X1_commit : Cond.methodLink RX1 33 Lib.Math.min.name ∈ wsX1_commit := by decide +kernel
theorem min1_X1_commit : Cond.static Lib.Math.min.name ∈ wsX1_commit := by decide +kernel
theorem min2_X1_commit : Cond.initialized "java/lang/Math" ∈ wsX1_commit := by decide +kernel
theorem min3_X1_commit : Cond.code Lib.Math.min.name Lib.Math.min.code 2 (some .int) ∈ wsX1_commit := by decide +kernel
set_option maxRecDepth 100000 in
set_option maxHeartbeats 4000000 in
theorem m_X1_commit (D : va_G) (z zo : ClassId) (l : Launch) (m : Nat → Nat) (a : Nat → Nat → Nat) (h : Nat → Hp) (x1 : Int32) (r : Int32) (h' : Nat → Hp) (hF : F_X1_commit h x1 = some (r, h')) : lm_C D z zo l yX1_commit wsX1_commit 1 21 [.ref (m 3), .int x1] (lmW z zo m a h) (some (.int r)) (lmW z zo m a h') := by
  refine lm_C.of (by decide) rfl (Nat.le_of_ble_eq_true rfl) (own := RX1) rfl ?_
  intro p e s m_ args below meth c C hr hk hA
  show lm_St p l e ({ frames := 1, cells := 0, slots := 0, locals := 21 }) s m_ args below meth c D (va_A (lmW z zo m a h) s.heap.size) 2 0 0 (lm_End below D (some (.int r)) (lmW z zo m a h) (lmW z zo m a h') args s) false (lmW z zo m a h) 0 [(0, .ref (m 3)), (1, .int x1)] []
  rw [F_X1_commit] at hF
  refine lm_iload_n C dX1_commit_0 rfl 1 rfl rfl ?_
  refine lm_if_lt C (tgt := 30) dX1_commit_1 (by decide) rfl (fun c1 => ?_) (fun c1 => ?_)
  · have hF := lm_brt hF c1
    refine lm_iload_n C dX1_commit_30 rfl 1 rfl rfl ?_
    cases hF
    exact lm_iret C hr hk rfl rfl dX1_commit_31
  · have hF := lm_brf hF c1
    refine lm_aload_n C dX1_commit_4 rfl 0 rfl rfl ?_
    refine lm_aload_n C dX1_commit_5 rfl 0 rfl rfl ?_
    refine lm_getf C (T := TX1) (N := 3) (v := .int (h 8 3 1)) in1_X1_commit 3 rfl rfl 1 (by decide) fl22_X1_commit rfl rfl dX1_commit_6 rfl ?_
    refine lm_iconst C (v := (1 : Int32)) dX1_commit_9 (by decide) rfl ?_
    refine lm_iadd C dX1_commit_10 rfl rfl ?_
    refine lm_iconst C (v := (5 : Int32)) dX1_commit_11 (by decide) rfl ?_
    refine lm_irem C dX1_commit_12 (by decide) rfl rfl ?_
    obtain ⟨h2, eh2, hF⟩ := lm_lte hF
    refine lm_putf C (T := TX1) (N := 3) (ty := .int) (v := .int (((h 8 3 1) + (1 : Int32)) - ((h 8 3 1) + (1 : Int32)) / (5 : Int32) * (5 : Int32))) (w' := (lmW z zo m a h2)) in1_X1_commit tyX1 tyX1_ok nmX1 3 rfl rfl 1 (by decide) fl22_X1_commit rfl rfl rfl rfl rfl (Nat.le_of_ble_eq_true rfl) dX1_commit_13 (by rw [← eh2]; rfl) rfl ?_
    refine lm_aload_n C dX1_commit_16 rfl 0 rfl rfl ?_
    refine lm_aload_n C dX1_commit_17 rfl 0 rfl rfl ?_
    refine lm_getf C (T := TX1) (N := 3) (v := .int (h2 8 3 2)) in1_X1_commit 3 rfl rfl 2 (by decide) fl18_X1_commit rfl rfl dX1_commit_18 rfl ?_
    refine lm_iconst C (v := (1 : Int32)) dX1_commit_21 (by decide) rfl ?_
    refine lm_iadd C dX1_commit_22 rfl rfl ?_
    refine lm_iconst C (v := (4 : Int32)) dX1_commit_23 (by decide) rfl ?_
    refine lm_mmin C min0_X1_commit min1_X1_commit min2_X1_commit min3_X1_commit (Nat.le_of_ble_eq_true rfl) (Nat.le_of_ble_eq_true rfl) rfl (Nat.le_of_ble_eq_true rfl) dX1_commit_24 rfl ?_
    obtain ⟨h3, eh3, hF⟩ := lm_lte hF
    refine lm_putf C (T := TX1) (N := 3) (ty := .int) (v := .int (if (4 : Int32) < ((h2 8 3 2) + (1 : Int32)) then (4 : Int32) else ((h2 8 3 2) + (1 : Int32)))) (w' := (lmW z zo m a h3)) in1_X1_commit tyX1 tyX1_ok nmX1 3 rfl rfl 2 (by decide) fl18_X1_commit rfl rfl rfl rfl rfl (Nat.le_of_ble_eq_true rfl) dX1_commit_27 (by rw [← eh3]; rfl) rfl ?_
    refine lm_iload_n C dX1_commit_30 rfl 1 rfl rfl ?_
    cases hF
    exact lm_iret C hr hk rfl rfl dX1_commit_31
end
section
def F_X6_add (h : Nat → Hp) (x1 x2 x3 : Int32) : Option (Int32 × (Nat → Hp)) :=
  lm_bd (F_X1_prepare h) fun h1 =>
  lm_b2 (F_X4_insertRow (h1 0) x1 x2 x3) fun r4 τ2 =>
  lm_lt (lm_uB h1 0 τ2) fun h3 =>
  lm_b2 (F_X1_commit h3 r4) fun r6 h5 =>
  some (r6, h5)
theorem in6_X6_add : ∀ w ∈ u_ws RX6 TX6 9, w ∈ wsX6_add := by decide +kernel
theorem fl25_X6_add : Cond.fieldLink RX6 25 "LoopMemo" "history" "LLoopMemo$History;" ∈ wsX6_add := by decide +kernel
theorem fl10_X6_add : Cond.fieldLink RX6 10 "LoopMemo" "now" "LLoopMemo$State;" ∈ wsX6_add := by decide +kernel
set_option maxRecDepth 100000 in
set_option maxHeartbeats 4000000 in
theorem m_X6_add (D : va_G) (z zo : ClassId) (l : Launch) (m : Nat → Nat) (a : Nat → Nat → Nat) (h : Nat → Hp) (x1 x2 x3 : Int32) (r : Int32) (h' : Nat → Hp) (hF : F_X6_add h x1 x2 x3 = some (r, h')) : lm_C D z zo l yX6_add wsX6_add 5 125 [.ref (m 0), .int x1, .int x2, .int x3] (lmW z zo m a h) (some (.int r)) (lmW z zo m a h') := by
  refine lm_C.of (by decide) rfl (Nat.le_of_ble_eq_true rfl) (own := RX6) rfl ?_
  intro p e s m_ args below meth c C hr hk hA
  show lm_St p l e ({ frames := 5, cells := 0, slots := 0, locals := 125 }) s m_ args below meth c D (va_A (lmW z zo m a h) s.heap.size) 4 0 0 (lm_End below D (some (.int r)) (lmW z zo m a h) (lmW z zo m a h') args s) false (lmW z zo m a h) 0 [(0, .ref (m 0)), (1, .int x1), (2, .int x2), (3, .int x3)] []
  rw [F_X6_add] at hF
  refine lm_aload_n C dX6_add_0 rfl 0 rfl rfl ?_
  refine lm_getf C (T := TX6) (N := 9) (v := .ref (m 3)) in6_X6_add 0 rfl rfl 3 (by decide) fl25_X6_add rfl rfl dX6_add_1 rfl ?_
  refine lm_aload_n C dX6_add_4 rfl 0 rfl rfl ?_
  refine lm_getf C (T := TX6) (N := 9) (v := .ref (a 0 0)) in6_X6_add 0 rfl rfl 0 (by decide) fl10_X6_add rfl rfl dX6_add_5 rfl ?_
  obtain ⟨h1, qh1, hF⟩ := lm_bde hF
  refine lm_callV C (n := 1) (ci := 1) (w' := (lmW z zo m a h1)) hA (m_X1_prepare D z zo l m a h  h1 qh1) gX6_add_X1_prepare rfl (by decide +kernel) ⟨Nat.le_of_ble_eq_true rfl, Nat.le_of_ble_eq_true rfl⟩ ⟨Nat.le_of_ble_eq_true rfl, Nat.le_of_ble_eq_true rfl⟩ 3 rfl rfl lm_pr lm_pr' rfl rfl (Nat.le_of_ble_eq_true rfl) dX6_add_8 (st' := []) rfl rfl ?_
  refine lm_aload_n C dX6_add_11 rfl 0 rfl rfl ?_
  refine lm_getf C (T := TX6) (N := 9) (v := .ref (m 3)) in6_X6_add 0 rfl rfl 3 (by decide) fl25_X6_add rfl rfl dX6_add_12 rfl ?_
  refine lm_aload_n C dX6_add_15 rfl 0 rfl rfl ?_
  refine lm_getf C (T := TX6) (N := 9) (v := .ref (a 0 0)) in6_X6_add 0 rfl rfl 0 (by decide) fl10_X6_add rfl rfl dX6_add_16 rfl ?_
  refine lm_iload_n C dX6_add_19 rfl 1 rfl rfl ?_
  refine lm_iload_n C dX6_add_20 rfl 2 rfl rfl ?_
  refine lm_iload_n C dX6_add_21 rfl 3 rfl rfl ?_
  obtain ⟨r4, τ2, qτ2, hF⟩ := lm_b2e hF
  obtain ⟨h3, eh3, hF⟩ := lm_lte hF
  refine lm_callV C (n := 3) (ci := 4) (w' := (lmW z zo m a h3)) hA (m_X4_insertRow D z zo l (a 0) (h1 0) x1 x2 x3 r4 τ2 qτ2) gX6_add_X4_insertRow rfl (by decide +kernel) ⟨Nat.le_of_ble_eq_true rfl, Nat.le_of_ble_eq_true rfl⟩ ⟨Nat.le_of_ble_eq_true rfl, Nat.le_of_ble_eq_true rfl⟩ 5 rfl rfl (lm_g0 z zo m a h1) (by rw [← eh3]; exact lm_p0 z zo m a h1 τ2) rfl rfl (Nat.le_of_ble_eq_true rfl) dX6_add_22 (st' := [.int r4, .ref (m 3)]) rfl rfl ?_
  obtain ⟨r6, h5, qh5, hF⟩ := lm_b2e hF
  refine lm_callV C (n := 1) (ci := 1) (w' := (lmW z zo m a h5)) hA (m_X1_commit D z zo l m a h3 r4 r6 h5 qh5) gX6_add_X1_commit rfl (by decide +kernel) ⟨Nat.le_of_ble_eq_true rfl, Nat.le_of_ble_eq_true rfl⟩ ⟨Nat.le_of_ble_eq_true rfl, Nat.le_of_ble_eq_true rfl⟩ 3 rfl rfl lm_pr lm_pr' rfl rfl (Nat.le_of_ble_eq_true rfl) dX6_add_25 (st' := [.int r6]) rfl rfl ?_
  cases hF
  exact lm_iret C hr hk rfl rfl dX6_add_28
def F_X6_drop (h : Nat → Hp) (x1 x2 : Int32) : Option (Int32 × (Nat → Hp)) :=
  lm_bd (F_X1_prepare h) fun h1 =>
  lm_b2 (F_X4_removeRow (h1 0) x1 x2) fun r4 τ2 =>
  lm_lt (lm_uB h1 0 τ2) fun h3 =>
  lm_b2 (F_X1_commit h3 r4) fun r6 h5 =>
  some (r6, h5)
theorem in6_X6_drop : ∀ w ∈ u_ws RX6 TX6 9, w ∈ wsX6_drop := by decide +kernel
theorem fl25_X6_drop : Cond.fieldLink RX6 25 "LoopMemo" "history" "LLoopMemo$History;" ∈ wsX6_drop := by decide +kernel
theorem fl10_X6_drop : Cond.fieldLink RX6 10 "LoopMemo" "now" "LLoopMemo$State;" ∈ wsX6_drop := by decide +kernel
set_option maxRecDepth 100000 in
set_option maxHeartbeats 4000000 in
theorem m_X6_drop (D : va_G) (z zo : ClassId) (l : Launch) (m : Nat → Nat) (a : Nat → Nat → Nat) (h : Nat → Hp) (x1 x2 : Int32) (r : Int32) (h' : Nat → Hp) (hF : F_X6_drop h x1 x2 = some (r, h')) : lm_C D z zo l yX6_drop wsX6_drop 5 125 [.ref (m 0), .int x1, .int x2] (lmW z zo m a h) (some (.int r)) (lmW z zo m a h') := by
  refine lm_C.of (by decide) rfl (Nat.le_of_ble_eq_true rfl) (own := RX6) rfl ?_
  intro p e s m_ args below meth c C hr hk hA
  show lm_St p l e ({ frames := 5, cells := 0, slots := 0, locals := 125 }) s m_ args below meth c D (va_A (lmW z zo m a h) s.heap.size) 3 0 0 (lm_End below D (some (.int r)) (lmW z zo m a h) (lmW z zo m a h') args s) false (lmW z zo m a h) 0 [(0, .ref (m 0)), (1, .int x1), (2, .int x2)] []
  rw [F_X6_drop] at hF
  refine lm_aload_n C dX6_drop_0 rfl 0 rfl rfl ?_
  refine lm_getf C (T := TX6) (N := 9) (v := .ref (m 3)) in6_X6_drop 0 rfl rfl 3 (by decide) fl25_X6_drop rfl rfl dX6_drop_1 rfl ?_
  refine lm_aload_n C dX6_drop_4 rfl 0 rfl rfl ?_
  refine lm_getf C (T := TX6) (N := 9) (v := .ref (a 0 0)) in6_X6_drop 0 rfl rfl 0 (by decide) fl10_X6_drop rfl rfl dX6_drop_5 rfl ?_
  obtain ⟨h1, qh1, hF⟩ := lm_bde hF
  refine lm_callV C (n := 1) (ci := 1) (w' := (lmW z zo m a h1)) hA (m_X1_prepare D z zo l m a h  h1 qh1) gX6_drop_X1_prepare rfl (by decide +kernel) ⟨Nat.le_of_ble_eq_true rfl, Nat.le_of_ble_eq_true rfl⟩ ⟨Nat.le_of_ble_eq_true rfl, Nat.le_of_ble_eq_true rfl⟩ 3 rfl rfl lm_pr lm_pr' rfl rfl (Nat.le_of_ble_eq_true rfl) dX6_drop_8 (st' := []) rfl rfl ?_
  refine lm_aload_n C dX6_drop_11 rfl 0 rfl rfl ?_
  refine lm_getf C (T := TX6) (N := 9) (v := .ref (m 3)) in6_X6_drop 0 rfl rfl 3 (by decide) fl25_X6_drop rfl rfl dX6_drop_12 rfl ?_
  refine lm_aload_n C dX6_drop_15 rfl 0 rfl rfl ?_
  refine lm_getf C (T := TX6) (N := 9) (v := .ref (a 0 0)) in6_X6_drop 0 rfl rfl 0 (by decide) fl10_X6_drop rfl rfl dX6_drop_16 rfl ?_
  refine lm_iload_n C dX6_drop_19 rfl 1 rfl rfl ?_
  refine lm_iload_n C dX6_drop_20 rfl 2 rfl rfl ?_
  obtain ⟨r4, τ2, qτ2, hF⟩ := lm_b2e hF
  obtain ⟨h3, eh3, hF⟩ := lm_lte hF
  refine lm_callV C (n := 2) (ci := 4) (w' := (lmW z zo m a h3)) hA (m_X4_removeRow D z zo l (a 0) (h1 0) x1 x2 r4 τ2 qτ2) gX6_drop_X4_removeRow rfl (by decide +kernel) ⟨Nat.le_of_ble_eq_true rfl, Nat.le_of_ble_eq_true rfl⟩ ⟨Nat.le_of_ble_eq_true rfl, Nat.le_of_ble_eq_true rfl⟩ 5 rfl rfl (lm_g0 z zo m a h1) (by rw [← eh3]; exact lm_p0 z zo m a h1 τ2) rfl rfl (Nat.le_of_ble_eq_true rfl) dX6_drop_21 (st' := [.int r4, .ref (m 3)]) rfl rfl ?_
  obtain ⟨r6, h5, qh5, hF⟩ := lm_b2e hF
  refine lm_callV C (n := 1) (ci := 1) (w' := (lmW z zo m a h5)) hA (m_X1_commit D z zo l m a h3 r4 r6 h5 qh5) gX6_drop_X1_commit rfl (by decide +kernel) ⟨Nat.le_of_ble_eq_true rfl, Nat.le_of_ble_eq_true rfl⟩ ⟨Nat.le_of_ble_eq_true rfl, Nat.le_of_ble_eq_true rfl⟩ 3 rfl rfl lm_pr lm_pr' rfl rfl (Nat.le_of_ble_eq_true rfl) dX6_drop_24 (st' := [.int r6]) rfl rfl ?_
  cases hF
  exact lm_iret C hr hk rfl rfl dX6_drop_27
def F_X6_change (h : Nat → Hp) (x1 x2 x3 : Int32) : Option (Int32 × (Nat → Hp)) :=
  lm_bd (F_X1_prepare h) fun h1 =>
  lm_b2 (F_X4_rewriteRow (h1 0) x1 x2 x3) fun r4 τ2 =>
  lm_lt (lm_uB h1 0 τ2) fun h3 =>
  lm_b2 (F_X1_commit h3 r4) fun r6 h5 =>
  some (r6, h5)
theorem in6_X6_change : ∀ w ∈ u_ws RX6 TX6 9, w ∈ wsX6_change := by decide +kernel
theorem fl25_X6_change : Cond.fieldLink RX6 25 "LoopMemo" "history" "LLoopMemo$History;" ∈ wsX6_change := by decide +kernel
theorem fl10_X6_change : Cond.fieldLink RX6 10 "LoopMemo" "now" "LLoopMemo$State;" ∈ wsX6_change := by decide +kernel
set_option maxRecDepth 100000 in
set_option maxHeartbeats 4000000 in
theorem m_X6_change (D : va_G) (z zo : ClassId) (l : Launch) (m : Nat → Nat) (a : Nat → Nat → Nat) (h : Nat → Hp) (x1 x2 x3 : Int32) (r : Int32) (h' : Nat → Hp) (hF : F_X6_change h x1 x2 x3 = some (r, h')) : lm_C D z zo l yX6_change wsX6_change 5 125 [.ref (m 0), .int x1, .int x2, .int x3] (lmW z zo m a h) (some (.int r)) (lmW z zo m a h') := by
  refine lm_C.of (by decide) rfl (Nat.le_of_ble_eq_true rfl) (own := RX6) rfl ?_
  intro p e s m_ args below meth c C hr hk hA
  show lm_St p l e ({ frames := 5, cells := 0, slots := 0, locals := 125 }) s m_ args below meth c D (va_A (lmW z zo m a h) s.heap.size) 4 0 0 (lm_End below D (some (.int r)) (lmW z zo m a h) (lmW z zo m a h') args s) false (lmW z zo m a h) 0 [(0, .ref (m 0)), (1, .int x1), (2, .int x2), (3, .int x3)] []
  rw [F_X6_change] at hF
  refine lm_aload_n C dX6_change_0 rfl 0 rfl rfl ?_
  refine lm_getf C (T := TX6) (N := 9) (v := .ref (m 3)) in6_X6_change 0 rfl rfl 3 (by decide) fl25_X6_change rfl rfl dX6_change_1 rfl ?_
  refine lm_aload_n C dX6_change_4 rfl 0 rfl rfl ?_
  refine lm_getf C (T := TX6) (N := 9) (v := .ref (a 0 0)) in6_X6_change 0 rfl rfl 0 (by decide) fl10_X6_change rfl rfl dX6_change_5 rfl ?_
  obtain ⟨h1, qh1, hF⟩ := lm_bde hF
  refine lm_callV C (n := 1) (ci := 1) (w' := (lmW z zo m a h1)) hA (m_X1_prepare D z zo l m a h  h1 qh1) gX6_change_X1_prepare rfl (by decide +kernel) ⟨Nat.le_of_ble_eq_true rfl, Nat.le_of_ble_eq_true rfl⟩ ⟨Nat.le_of_ble_eq_true rfl, Nat.le_of_ble_eq_true rfl⟩ 3 rfl rfl lm_pr lm_pr' rfl rfl (Nat.le_of_ble_eq_true rfl) dX6_change_8 (st' := []) rfl rfl ?_
  refine lm_aload_n C dX6_change_11 rfl 0 rfl rfl ?_
  refine lm_getf C (T := TX6) (N := 9) (v := .ref (m 3)) in6_X6_change 0 rfl rfl 3 (by decide) fl25_X6_change rfl rfl dX6_change_12 rfl ?_
  refine lm_aload_n C dX6_change_15 rfl 0 rfl rfl ?_
  refine lm_getf C (T := TX6) (N := 9) (v := .ref (a 0 0)) in6_X6_change 0 rfl rfl 0 (by decide) fl10_X6_change rfl rfl dX6_change_16 rfl ?_
  refine lm_iload_n C dX6_change_19 rfl 1 rfl rfl ?_
  refine lm_iload_n C dX6_change_20 rfl 2 rfl rfl ?_
  refine lm_iload_n C dX6_change_21 rfl 3 rfl rfl ?_
  obtain ⟨r4, τ2, qτ2, hF⟩ := lm_b2e hF
  obtain ⟨h3, eh3, hF⟩ := lm_lte hF
  refine lm_callV C (n := 3) (ci := 4) (w' := (lmW z zo m a h3)) hA (m_X4_rewriteRow D z zo l (a 0) (h1 0) x1 x2 x3 r4 τ2 qτ2) gX6_change_X4_rewriteRow rfl (by decide +kernel) ⟨Nat.le_of_ble_eq_true rfl, Nat.le_of_ble_eq_true rfl⟩ ⟨Nat.le_of_ble_eq_true rfl, Nat.le_of_ble_eq_true rfl⟩ 5 rfl rfl (lm_g0 z zo m a h1) (by rw [← eh3]; exact lm_p0 z zo m a h1 τ2) rfl rfl (Nat.le_of_ble_eq_true rfl) dX6_change_22 (st' := [.int r4, .ref (m 3)]) rfl rfl ?_
  obtain ⟨r6, h5, qh5, hF⟩ := lm_b2e hF
  refine lm_callV C (n := 1) (ci := 1) (w' := (lmW z zo m a h5)) hA (m_X1_commit D z zo l m a h3 r4 r6 h5 qh5) gX6_change_X1_commit rfl (by decide +kernel) ⟨Nat.le_of_ble_eq_true rfl, Nat.le_of_ble_eq_true rfl⟩ ⟨Nat.le_of_ble_eq_true rfl, Nat.le_of_ble_eq_true rfl⟩ 3 rfl rfl lm_pr lm_pr' rfl rfl (Nat.le_of_ble_eq_true rfl) dX6_change_25 (st' := [.int r6]) rfl rfl ?_
  cases hF
  exact lm_iret C hr hk rfl rfl dX6_change_28
def F_X6_step (h : Nat → Hp) (x1 : Int32) : Option (Int32 × (Nat → Hp)) :=
  lm_bd (F_X1_prepare h) fun h1 =>
  lm_b2 (F_X4_walk (h1 0) x1) fun r4 τ2 =>
  lm_lt (lm_uB h1 0 τ2) fun h3 =>
  lm_b2 (F_X1_commit h3 r4) fun r6 h5 =>
  some (r6, h5)
theorem in6_X6_step : ∀ w ∈ u_ws RX6 TX6 9, w ∈ wsX6_step := by decide +kernel
theorem fl25_X6_step : Cond.fieldLink RX6 25 "LoopMemo" "history" "LLoopMemo$History;" ∈ wsX6_step := by decide +kernel
theorem fl10_X6_step : Cond.fieldLink RX6 10 "LoopMemo" "now" "LLoopMemo$State;" ∈ wsX6_step := by decide +kernel
set_option maxRecDepth 100000 in
set_option maxHeartbeats 4000000 in
theorem m_X6_step (D : va_G) (z zo : ClassId) (l : Launch) (m : Nat → Nat) (a : Nat → Nat → Nat) (h : Nat → Hp) (x1 : Int32) (r : Int32) (h' : Nat → Hp) (hF : F_X6_step h x1 = some (r, h')) : lm_C D z zo l yX6_step wsX6_step 5 125 [.ref (m 0), .int x1] (lmW z zo m a h) (some (.int r)) (lmW z zo m a h') := by
  refine lm_C.of (by decide) rfl (Nat.le_of_ble_eq_true rfl) (own := RX6) rfl ?_
  intro p e s m_ args below meth c C hr hk hA
  show lm_St p l e ({ frames := 5, cells := 0, slots := 0, locals := 125 }) s m_ args below meth c D (va_A (lmW z zo m a h) s.heap.size) 2 0 0 (lm_End below D (some (.int r)) (lmW z zo m a h) (lmW z zo m a h') args s) false (lmW z zo m a h) 0 [(0, .ref (m 0)), (1, .int x1)] []
  rw [F_X6_step] at hF
  refine lm_aload_n C dX6_step_0 rfl 0 rfl rfl ?_
  refine lm_getf C (T := TX6) (N := 9) (v := .ref (m 3)) in6_X6_step 0 rfl rfl 3 (by decide) fl25_X6_step rfl rfl dX6_step_1 rfl ?_
  refine lm_aload_n C dX6_step_4 rfl 0 rfl rfl ?_
  refine lm_getf C (T := TX6) (N := 9) (v := .ref (a 0 0)) in6_X6_step 0 rfl rfl 0 (by decide) fl10_X6_step rfl rfl dX6_step_5 rfl ?_
  obtain ⟨h1, qh1, hF⟩ := lm_bde hF
  refine lm_callV C (n := 1) (ci := 1) (w' := (lmW z zo m a h1)) hA (m_X1_prepare D z zo l m a h  h1 qh1) gX6_step_X1_prepare rfl (by decide +kernel) ⟨Nat.le_of_ble_eq_true rfl, Nat.le_of_ble_eq_true rfl⟩ ⟨Nat.le_of_ble_eq_true rfl, Nat.le_of_ble_eq_true rfl⟩ 3 rfl rfl lm_pr lm_pr' rfl rfl (Nat.le_of_ble_eq_true rfl) dX6_step_8 (st' := []) rfl rfl ?_
  refine lm_aload_n C dX6_step_11 rfl 0 rfl rfl ?_
  refine lm_getf C (T := TX6) (N := 9) (v := .ref (m 3)) in6_X6_step 0 rfl rfl 3 (by decide) fl25_X6_step rfl rfl dX6_step_12 rfl ?_
  refine lm_aload_n C dX6_step_15 rfl 0 rfl rfl ?_
  refine lm_getf C (T := TX6) (N := 9) (v := .ref (a 0 0)) in6_X6_step 0 rfl rfl 0 (by decide) fl10_X6_step rfl rfl dX6_step_16 rfl ?_
  refine lm_iload_n C dX6_step_19 rfl 1 rfl rfl ?_
  obtain ⟨r4, τ2, qτ2, hF⟩ := lm_b2e hF
  obtain ⟨h3, eh3, hF⟩ := lm_lte hF
  refine lm_callV C (n := 1) (ci := 4) (w' := (lmW z zo m a h3)) hA (m_X4_walk D z zo l (a 0) (h1 0) x1 r4 τ2 qτ2) gX6_step_X4_walk rfl (by decide +kernel) ⟨Nat.le_of_ble_eq_true rfl, Nat.le_of_ble_eq_true rfl⟩ ⟨Nat.le_of_ble_eq_true rfl, Nat.le_of_ble_eq_true rfl⟩ 5 rfl rfl (lm_g0 z zo m a h1) (by rw [← eh3]; exact lm_p0 z zo m a h1 τ2) rfl rfl (Nat.le_of_ble_eq_true rfl) dX6_step_20 (st' := [.int r4, .ref (m 3)]) rfl rfl ?_
  obtain ⟨r6, h5, qh5, hF⟩ := lm_b2e hF
  refine lm_callV C (n := 1) (ci := 1) (w' := (lmW z zo m a h5)) hA (m_X1_commit D z zo l m a h3 r4 r6 h5 qh5) gX6_step_X1_commit rfl (by decide +kernel) ⟨Nat.le_of_ble_eq_true rfl, Nat.le_of_ble_eq_true rfl⟩ ⟨Nat.le_of_ble_eq_true rfl, Nat.le_of_ble_eq_true rfl⟩ 3 rfl rfl lm_pr lm_pr' rfl rfl (Nat.le_of_ble_eq_true rfl) dX6_step_23 (st' := [.int r6]) rfl rfl ?_
  cases hF
  exact lm_iret C hr hk rfl rfl dX6_step_26
def F_X6_again (h : Nat → Hp)  : Option (Int32 × (Nat → Hp)) :=
  lm_bd (F_X1_prepare h) fun h1 =>
  lm_b2 (F_X4_beginAgain (h1 0)) fun r4 τ2 =>
  lm_lt (lm_uB h1 0 τ2) fun h3 =>
  lm_b2 (F_X1_commit h3 r4) fun r6 h5 =>
  some (r6, h5)
theorem in6_X6_again : ∀ w ∈ u_ws RX6 TX6 9, w ∈ wsX6_again := by decide +kernel
theorem fl25_X6_again : Cond.fieldLink RX6 25 "LoopMemo" "history" "LLoopMemo$History;" ∈ wsX6_again := by decide +kernel
theorem fl10_X6_again : Cond.fieldLink RX6 10 "LoopMemo" "now" "LLoopMemo$State;" ∈ wsX6_again := by decide +kernel
set_option maxRecDepth 100000 in
set_option maxHeartbeats 4000000 in
theorem m_X6_again (D : va_G) (z zo : ClassId) (l : Launch) (m : Nat → Nat) (a : Nat → Nat → Nat) (h : Nat → Hp)  (r : Int32) (h' : Nat → Hp) (hF : F_X6_again h  = some (r, h')) : lm_C D z zo l yX6_again wsX6_again 5 125 [.ref (m 0)] (lmW z zo m a h) (some (.int r)) (lmW z zo m a h') := by
  refine lm_C.of (by decide) rfl (Nat.le_of_ble_eq_true rfl) (own := RX6) rfl ?_
  intro p e s m_ args below meth c C hr hk hA
  show lm_St p l e ({ frames := 5, cells := 0, slots := 0, locals := 125 }) s m_ args below meth c D (va_A (lmW z zo m a h) s.heap.size) 1 0 0 (lm_End below D (some (.int r)) (lmW z zo m a h) (lmW z zo m a h') args s) false (lmW z zo m a h) 0 [(0, .ref (m 0))] []
  rw [F_X6_again] at hF
  refine lm_aload_n C dX6_again_0 rfl 0 rfl rfl ?_
  refine lm_getf C (T := TX6) (N := 9) (v := .ref (m 3)) in6_X6_again 0 rfl rfl 3 (by decide) fl25_X6_again rfl rfl dX6_again_1 rfl ?_
  refine lm_aload_n C dX6_again_4 rfl 0 rfl rfl ?_
  refine lm_getf C (T := TX6) (N := 9) (v := .ref (a 0 0)) in6_X6_again 0 rfl rfl 0 (by decide) fl10_X6_again rfl rfl dX6_again_5 rfl ?_
  obtain ⟨h1, qh1, hF⟩ := lm_bde hF
  refine lm_callV C (n := 1) (ci := 1) (w' := (lmW z zo m a h1)) hA (m_X1_prepare D z zo l m a h  h1 qh1) gX6_again_X1_prepare rfl (by decide +kernel) ⟨Nat.le_of_ble_eq_true rfl, Nat.le_of_ble_eq_true rfl⟩ ⟨Nat.le_of_ble_eq_true rfl, Nat.le_of_ble_eq_true rfl⟩ 3 rfl rfl lm_pr lm_pr' rfl rfl (Nat.le_of_ble_eq_true rfl) dX6_again_8 (st' := []) rfl rfl ?_
  refine lm_aload_n C dX6_again_11 rfl 0 rfl rfl ?_
  refine lm_getf C (T := TX6) (N := 9) (v := .ref (m 3)) in6_X6_again 0 rfl rfl 3 (by decide) fl25_X6_again rfl rfl dX6_again_12 rfl ?_
  refine lm_aload_n C dX6_again_15 rfl 0 rfl rfl ?_
  refine lm_getf C (T := TX6) (N := 9) (v := .ref (a 0 0)) in6_X6_again 0 rfl rfl 0 (by decide) fl10_X6_again rfl rfl dX6_again_16 rfl ?_
  obtain ⟨r4, τ2, qτ2, hF⟩ := lm_b2e hF
  obtain ⟨h3, eh3, hF⟩ := lm_lte hF
  refine lm_callV C (n := 0) (ci := 4) (w' := (lmW z zo m a h3)) hA (m_X4_beginAgain D z zo l (a 0) (h1 0)  r4 τ2 qτ2) gX6_again_X4_beginAgain rfl (by decide +kernel) ⟨Nat.le_of_ble_eq_true rfl, Nat.le_of_ble_eq_true rfl⟩ ⟨Nat.le_of_ble_eq_true rfl, Nat.le_of_ble_eq_true rfl⟩ 5 rfl rfl (lm_g0 z zo m a h1) (by rw [← eh3]; exact lm_p0 z zo m a h1 τ2) rfl rfl (Nat.le_of_ble_eq_true rfl) dX6_again_19 (st' := [.int r4, .ref (m 3)]) rfl rfl ?_
  obtain ⟨r6, h5, qh5, hF⟩ := lm_b2e hF
  refine lm_callV C (n := 1) (ci := 1) (w' := (lmW z zo m a h5)) hA (m_X1_commit D z zo l m a h3 r4 r6 h5 qh5) gX6_again_X1_commit rfl (by decide +kernel) ⟨Nat.le_of_ble_eq_true rfl, Nat.le_of_ble_eq_true rfl⟩ ⟨Nat.le_of_ble_eq_true rfl, Nat.le_of_ble_eq_true rfl⟩ 3 rfl rfl lm_pr lm_pr' rfl rfl (Nat.le_of_ble_eq_true rfl) dX6_again_22 (st' := [.int r6]) rfl rfl ?_
  cases hF
  exact lm_iret C hr hk rfl rfl dX6_again_25
def F_X6_forget (h : Nat → Hp)  : Option (Int32 × (Nat → Hp)) :=
  lm_bd (F_X1_prepare h) fun h1 =>
  lm_b2 (F_X4_throwAllOut (h1 0)) fun r4 τ2 =>
  lm_lt (lm_uB h1 0 τ2) fun h3 =>
  lm_b2 (F_X1_commit h3 r4) fun r6 h5 =>
  some (r6, h5)
theorem in6_X6_forget : ∀ w ∈ u_ws RX6 TX6 9, w ∈ wsX6_forget := by decide +kernel
theorem fl25_X6_forget : Cond.fieldLink RX6 25 "LoopMemo" "history" "LLoopMemo$History;" ∈ wsX6_forget := by decide +kernel
theorem fl10_X6_forget : Cond.fieldLink RX6 10 "LoopMemo" "now" "LLoopMemo$State;" ∈ wsX6_forget := by decide +kernel
set_option maxRecDepth 100000 in
set_option maxHeartbeats 4000000 in
theorem m_X6_forget (D : va_G) (z zo : ClassId) (l : Launch) (m : Nat → Nat) (a : Nat → Nat → Nat) (h : Nat → Hp)  (r : Int32) (h' : Nat → Hp) (hF : F_X6_forget h  = some (r, h')) : lm_C D z zo l yX6_forget wsX6_forget 5 125 [.ref (m 0)] (lmW z zo m a h) (some (.int r)) (lmW z zo m a h') := by
  refine lm_C.of (by decide) rfl (Nat.le_of_ble_eq_true rfl) (own := RX6) rfl ?_
  intro p e s m_ args below meth c C hr hk hA
  show lm_St p l e ({ frames := 5, cells := 0, slots := 0, locals := 125 }) s m_ args below meth c D (va_A (lmW z zo m a h) s.heap.size) 1 0 0 (lm_End below D (some (.int r)) (lmW z zo m a h) (lmW z zo m a h') args s) false (lmW z zo m a h) 0 [(0, .ref (m 0))] []
  rw [F_X6_forget] at hF
  refine lm_aload_n C dX6_forget_0 rfl 0 rfl rfl ?_
  refine lm_getf C (T := TX6) (N := 9) (v := .ref (m 3)) in6_X6_forget 0 rfl rfl 3 (by decide) fl25_X6_forget rfl rfl dX6_forget_1 rfl ?_
  refine lm_aload_n C dX6_forget_4 rfl 0 rfl rfl ?_
  refine lm_getf C (T := TX6) (N := 9) (v := .ref (a 0 0)) in6_X6_forget 0 rfl rfl 0 (by decide) fl10_X6_forget rfl rfl dX6_forget_5 rfl ?_
  obtain ⟨h1, qh1, hF⟩ := lm_bde hF
  refine lm_callV C (n := 1) (ci := 1) (w' := (lmW z zo m a h1)) hA (m_X1_prepare D z zo l m a h  h1 qh1) gX6_forget_X1_prepare rfl (by decide +kernel) ⟨Nat.le_of_ble_eq_true rfl, Nat.le_of_ble_eq_true rfl⟩ ⟨Nat.le_of_ble_eq_true rfl, Nat.le_of_ble_eq_true rfl⟩ 3 rfl rfl lm_pr lm_pr' rfl rfl (Nat.le_of_ble_eq_true rfl) dX6_forget_8 (st' := []) rfl rfl ?_
  refine lm_aload_n C dX6_forget_11 rfl 0 rfl rfl ?_
  refine lm_getf C (T := TX6) (N := 9) (v := .ref (m 3)) in6_X6_forget 0 rfl rfl 3 (by decide) fl25_X6_forget rfl rfl dX6_forget_12 rfl ?_
  refine lm_aload_n C dX6_forget_15 rfl 0 rfl rfl ?_
  refine lm_getf C (T := TX6) (N := 9) (v := .ref (a 0 0)) in6_X6_forget 0 rfl rfl 0 (by decide) fl10_X6_forget rfl rfl dX6_forget_16 rfl ?_
  obtain ⟨r4, τ2, qτ2, hF⟩ := lm_b2e hF
  obtain ⟨h3, eh3, hF⟩ := lm_lte hF
  refine lm_callV C (n := 0) (ci := 4) (w' := (lmW z zo m a h3)) hA (m_X4_throwAllOut D z zo l (a 0) (h1 0)  r4 τ2 qτ2) gX6_forget_X4_throwAllOut rfl (by decide +kernel) ⟨Nat.le_of_ble_eq_true rfl, Nat.le_of_ble_eq_true rfl⟩ ⟨Nat.le_of_ble_eq_true rfl, Nat.le_of_ble_eq_true rfl⟩ 5 rfl rfl (lm_g0 z zo m a h1) (by rw [← eh3]; exact lm_p0 z zo m a h1 τ2) rfl rfl (Nat.le_of_ble_eq_true rfl) dX6_forget_19 (st' := [.int r4, .ref (m 3)]) rfl rfl ?_
  obtain ⟨r6, h5, qh5, hF⟩ := lm_b2e hF
  refine lm_callV C (n := 1) (ci := 1) (w' := (lmW z zo m a h5)) hA (m_X1_commit D z zo l m a h3 r4 r6 h5 qh5) gX6_forget_X1_commit rfl (by decide +kernel) ⟨Nat.le_of_ble_eq_true rfl, Nat.le_of_ble_eq_true rfl⟩ ⟨Nat.le_of_ble_eq_true rfl, Nat.le_of_ble_eq_true rfl⟩ 3 rfl rfl lm_pr lm_pr' rfl rfl (Nat.le_of_ble_eq_true rfl) dX6_forget_22 (st' := [.int r6]) rfl rfl ?_
  cases hF
  exact lm_iret C hr hk rfl rfl dX6_forget_25
def F_X6_set (h : Nat → Hp) (x1 x2 : Int32) : Option (Int32 × (Nat → Hp)) :=
  lm_bd (F_X1_prepare h) fun h1 =>
  lm_b2 (F_X4_adjust (h1 0) x1 x2) fun r4 τ2 =>
  lm_lt (lm_uB h1 0 τ2) fun h3 =>
  lm_b2 (F_X1_commit h3 r4) fun r6 h5 =>
  some (r6, h5)
theorem in6_X6_set : ∀ w ∈ u_ws RX6 TX6 9, w ∈ wsX6_set := by decide +kernel
theorem fl25_X6_set : Cond.fieldLink RX6 25 "LoopMemo" "history" "LLoopMemo$History;" ∈ wsX6_set := by decide +kernel
theorem fl10_X6_set : Cond.fieldLink RX6 10 "LoopMemo" "now" "LLoopMemo$State;" ∈ wsX6_set := by decide +kernel
set_option maxRecDepth 100000 in
set_option maxHeartbeats 4000000 in
theorem m_X6_set (D : va_G) (z zo : ClassId) (l : Launch) (m : Nat → Nat) (a : Nat → Nat → Nat) (h : Nat → Hp) (x1 x2 : Int32) (r : Int32) (h' : Nat → Hp) (hF : F_X6_set h x1 x2 = some (r, h')) : lm_C D z zo l yX6_set wsX6_set 5 125 [.ref (m 0), .int x1, .int x2] (lmW z zo m a h) (some (.int r)) (lmW z zo m a h') := by
  refine lm_C.of (by decide) rfl (Nat.le_of_ble_eq_true rfl) (own := RX6) rfl ?_
  intro p e s m_ args below meth c C hr hk hA
  show lm_St p l e ({ frames := 5, cells := 0, slots := 0, locals := 125 }) s m_ args below meth c D (va_A (lmW z zo m a h) s.heap.size) 3 0 0 (lm_End below D (some (.int r)) (lmW z zo m a h) (lmW z zo m a h') args s) false (lmW z zo m a h) 0 [(0, .ref (m 0)), (1, .int x1), (2, .int x2)] []
  rw [F_X6_set] at hF
  refine lm_aload_n C dX6_set_0 rfl 0 rfl rfl ?_
  refine lm_getf C (T := TX6) (N := 9) (v := .ref (m 3)) in6_X6_set 0 rfl rfl 3 (by decide) fl25_X6_set rfl rfl dX6_set_1 rfl ?_
  refine lm_aload_n C dX6_set_4 rfl 0 rfl rfl ?_
  refine lm_getf C (T := TX6) (N := 9) (v := .ref (a 0 0)) in6_X6_set 0 rfl rfl 0 (by decide) fl10_X6_set rfl rfl dX6_set_5 rfl ?_
  obtain ⟨h1, qh1, hF⟩ := lm_bde hF
  refine lm_callV C (n := 1) (ci := 1) (w' := (lmW z zo m a h1)) hA (m_X1_prepare D z zo l m a h  h1 qh1) gX6_set_X1_prepare rfl (by decide +kernel) ⟨Nat.le_of_ble_eq_true rfl, Nat.le_of_ble_eq_true rfl⟩ ⟨Nat.le_of_ble_eq_true rfl, Nat.le_of_ble_eq_true rfl⟩ 3 rfl rfl lm_pr lm_pr' rfl rfl (Nat.le_of_ble_eq_true rfl) dX6_set_8 (st' := []) rfl rfl ?_
  refine lm_aload_n C dX6_set_11 rfl 0 rfl rfl ?_
  refine lm_getf C (T := TX6) (N := 9) (v := .ref (m 3)) in6_X6_set 0 rfl rfl 3 (by decide) fl25_X6_set rfl rfl dX6_set_12 rfl ?_
  refine lm_aload_n C dX6_set_15 rfl 0 rfl rfl ?_
  refine lm_getf C (T := TX6) (N := 9) (v := .ref (a 0 0)) in6_X6_set 0 rfl rfl 0 (by decide) fl10_X6_set rfl rfl dX6_set_16 rfl ?_
  refine lm_iload_n C dX6_set_19 rfl 1 rfl rfl ?_
  refine lm_iload_n C dX6_set_20 rfl 2 rfl rfl ?_
  obtain ⟨r4, τ2, qτ2, hF⟩ := lm_b2e hF
  obtain ⟨h3, eh3, hF⟩ := lm_lte hF
  refine lm_callV C (n := 2) (ci := 4) (w' := (lmW z zo m a h3)) hA (m_X4_adjust D z zo l (a 0) (h1 0) x1 x2 r4 τ2 qτ2) gX6_set_X4_adjust rfl (by decide +kernel) ⟨Nat.le_of_ble_eq_true rfl, Nat.le_of_ble_eq_true rfl⟩ ⟨Nat.le_of_ble_eq_true rfl, Nat.le_of_ble_eq_true rfl⟩ 5 rfl rfl (lm_g0 z zo m a h1) (by rw [← eh3]; exact lm_p0 z zo m a h1 τ2) rfl rfl (Nat.le_of_ble_eq_true rfl) dX6_set_21 (st' := [.int r4, .ref (m 3)]) rfl rfl ?_
  obtain ⟨r6, h5, qh5, hF⟩ := lm_b2e hF
  refine lm_callV C (n := 1) (ci := 1) (w' := (lmW z zo m a h5)) hA (m_X1_commit D z zo l m a h3 r4 r6 h5 qh5) gX6_set_X1_commit rfl (by decide +kernel) ⟨Nat.le_of_ble_eq_true rfl, Nat.le_of_ble_eq_true rfl⟩ ⟨Nat.le_of_ble_eq_true rfl, Nat.le_of_ble_eq_true rfl⟩ 3 rfl rfl lm_pr lm_pr' rfl rfl (Nat.le_of_ble_eq_true rfl) dX6_set_24 (st' := [.int r6]) rfl rfl ?_
  cases hF
  exact lm_iret C hr hk rfl rfl dX6_set_27
def F_X6_row (h : Nat → Hp) (x1 x2 x3 : Int32) : Option Int32 :=
  lm_br (x1 = 0)
   (lm_bd (F_X5_has (lm_sh 1 (h 0)) x2) fun r2 =>
   lm_br (r2 = 0)
    (some (-1 : Int32))
    (lm_bd (F_X6_isWithin x3 (2 : Int32)) fun r4 =>
    lm_br (¬ r4 = 0)
     (lm_br (x3 = (0 : Int32))
      (lm_bd (F_X5_key (lm_sh 1 (h 0)) x2) fun r7 =>
      some r7)
      (lm_br (x3 = (1 : Int32))
       (lm_bd (F_X5_value (lm_sh 1 (h 0)) x2) fun r9 =>
       some r9)
       (lm_bd (F_X4_isDone (h 0) x2) fun r11 =>
       lm_br (r11 = 0)
        (some (0 : Int32))
        (some (1 : Int32)))))
     (some (-1 : Int32))))
   (lm_bd (F_X5_has (lm_sh 4 (h 0)) x2) fun r13 =>
   lm_br (r13 = 0)
    (some (-1 : Int32))
    (lm_bd (F_X6_isWithin x3 (2 : Int32)) fun r15 =>
    lm_br (¬ r15 = 0)
     (lm_br (x3 = (0 : Int32))
      (lm_bd (F_X5_key (lm_sh 4 (h 0)) x2) fun r18 =>
      some r18)
      (lm_br (x3 = (1 : Int32))
       (lm_bd (F_X5_value (lm_sh 4 (h 0)) x2) fun r20 =>
       some r20)
       (lm_bd (F_X4_isInRememberedAnswer (h 0) x2) fun r22 =>
       lm_br (r22 = 0)
        (some (0 : Int32))
        (some (1 : Int32)))))
     (some (-1 : Int32))))
theorem in6_X6_row : ∀ w ∈ u_ws RX6 TX6 9, w ∈ wsX6_row := by decide +kernel
theorem fl10_X6_row : Cond.fieldLink RX6 10 "LoopMemo" "now" "LLoopMemo$State;" ∈ wsX6_row := by decide +kernel
set_option maxRecDepth 100000 in
set_option maxHeartbeats 4000000 in
theorem m_X6_row (D : va_G) (z zo : ClassId) (l : Launch) (m : Nat → Nat) (a : Nat → Nat → Nat) (h : Nat → Hp) (x1 x2 x3 : Int32) (r : Int32)  (hF : F_X6_row h x1 x2 x3 = some r) : lm_CR D z zo l yX6_row wsX6_row 2 42 [.ref (m 0), .int x1, .int x2, .int x3] (lmW z zo m a h) (some (.int r)) := by
  refine lm_CR.of (by decide) rfl (Nat.le_of_ble_eq_true rfl) (own := RX6) rfl ?_
  intro p e s m_ args below meth c C hr hk
  show lm_St p l e ({ frames := 2, cells := 0, slots := 0, locals := 42 }) s m_ args below meth c D (fun _ => False) 5 0 0 (lm_EndR below (some (.int r)) args s) true (lmW z zo m a h) 0 [(0, .ref (m 0)), (1, .int x1), (2, .int x2), (3, .int x3)] []
  rw [F_X6_row] at hF
  refine lm_aload_n C dX6_row_0 rfl 0 rfl rfl ?_
  refine lm_getf C (T := TX6) (N := 9) (v := .ref (a 0 0)) in6_X6_row 0 rfl rfl 0 (by decide) fl10_X6_row rfl rfl dX6_row_1 rfl ?_
  refine lm_iload_n C dX6_row_4 rfl 1 rfl rfl ?_
  rcases Classical.em (x1 = 0) with c1 | c1
  · have hF := lm_brt hF c1
    refine lm_callVR C (n := 1) (ci := 4) (m_X4_table_1 D z zo l (a 0) (h 0) x1 c1) gX6_row_X4_table rfl (by decide +kernel) ⟨Nat.le_of_ble_eq_true rfl, Nat.le_of_ble_eq_true rfl⟩ ⟨Nat.le_of_ble_eq_true rfl, Nat.le_of_ble_eq_true rfl⟩ 5 rfl rfl (lm_s0 z zo m a h) rfl rfl (Nat.le_of_ble_eq_true rfl) dX6_row_5 (st' := [.ref (a 0 1)]) rfl rfl ?_
    refine lm_astore C (lv' := [(0, .ref (m 0)), (1, .int x1), (2, .int x2), (3, .int x3), (4, .ref (a 0 1))]) dX6_row_8 (by decide) rfl [1, 2, 3, 4, 0] rfl rfl ?_
    refine lm_aload C dX6_row_10 4 rfl rfl ?_
    refine lm_iload_n C dX6_row_12 rfl 2 rfl rfl ?_
    obtain ⟨r2, qr2, hF⟩ := lm_bde hF
    refine lm_callVR C (n := 1) (ci := 5) (m_X5_has D z zo l (lm_sh 1 (a 0)) (lm_sh 1 (h 0)) x2 r2 qr2) gX6_row_X5_has rfl (by decide +kernel) ⟨Nat.le_of_ble_eq_true rfl, Nat.le_of_ble_eq_true rfl⟩ ⟨Nat.le_of_ble_eq_true rfl, Nat.le_of_ble_eq_true rfl⟩ 6 rfl rfl (fun q hq => lm_s0 z zo m a h q (st_s1 z (a 0) (h 0) q hq)) rfl rfl (Nat.le_of_ble_eq_true rfl) dX6_row_13 (st' := [.int r2]) rfl rfl ?_
    refine lm_if_eq C (tgt := 27) dX6_row_16 (by decide) rfl (fun c3 => ?_) (fun c3 => ?_)
    · have hF := lm_brt hF c3
      refine lm_iconst C (v := (-1 : Int32)) dX6_row_27 (by decide) rfl ?_
      cases hF
      exact lm_iretR C hr hk rfl dX6_row_28
    · have hF := lm_brf hF c3
      refine lm_iload_n C dX6_row_19 rfl 3 rfl rfl ?_
      refine lm_iconst C (v := (2 : Int32)) dX6_row_20 (by decide) rfl ?_
      obtain ⟨r4, qr4, hF⟩ := lm_bde hF
      refine lm_callSR C (n := 2) (m_X6_isWithin D z zo l   x3 (2 : Int32) r4 qr4) gX6_row_X6_isWithin rfl (by decide +kernel) ⟨Nat.le_of_ble_eq_true rfl, Nat.le_of_ble_eq_true rfl⟩ ⟨Nat.le_of_ble_eq_true rfl, Nat.le_of_ble_eq_true rfl⟩ (fun _ h => absurd h List.not_mem_nil) rfl rfl (Nat.le_of_ble_eq_true rfl) dX6_row_21 (st' := [.int r4]) rfl rfl ?_
      refine lm_if_ne C (tgt := 29) dX6_row_24 (by decide) rfl (fun c5 => ?_) (fun c5 => ?_)
      · have hF := lm_brt hF c5
        refine lm_iload_n C dX6_row_29 rfl 3 rfl rfl ?_
        rcases Classical.em (x3 = (0 : Int32)) with c6 | c6
        · have hF := lm_brt hF c6
          refine lm_lookup C (off := 26) (tgt := 56) dX6_row_30 (by decide) (by rw [c6]; decide) (by decide) ?_
          refine lm_aload C dX6_row_56 4 rfl rfl ?_
          refine lm_iload_n C dX6_row_58 rfl 2 rfl rfl ?_
          obtain ⟨r7, qr7, hF⟩ := lm_bde hF
          refine lm_callVR C (n := 1) (ci := 5) (m_X5_key D z zo l (lm_sh 1 (a 0)) (lm_sh 1 (h 0)) x2 r7 qr7) gX6_row_X5_key rfl (by decide +kernel) ⟨Nat.le_of_ble_eq_true rfl, Nat.le_of_ble_eq_true rfl⟩ ⟨Nat.le_of_ble_eq_true rfl, Nat.le_of_ble_eq_true rfl⟩ 6 rfl rfl (fun q hq => lm_s0 z zo m a h q (st_s1 z (a 0) (h 0) q hq)) rfl rfl (Nat.le_of_ble_eq_true rfl) dX6_row_59 (st' := [.int r7]) rfl rfl ?_
          cases hF
          exact lm_iretR C hr hk rfl dX6_row_62
        · have hF := lm_brf hF c6
          rcases Classical.em (x3 = (1 : Int32)) with c8 | c8
          · have hF := lm_brt hF c8
            refine lm_lookup C (off := 33) (tgt := 63) dX6_row_30 (by decide) (by rw [c8]; decide) (by decide) ?_
            refine lm_aload C dX6_row_63 4 rfl rfl ?_
            refine lm_iload_n C dX6_row_65 rfl 2 rfl rfl ?_
            obtain ⟨r9, qr9, hF⟩ := lm_bde hF
            refine lm_callVR C (n := 1) (ci := 5) (m_X5_value D z zo l (lm_sh 1 (a 0)) (lm_sh 1 (h 0)) x2 r9 qr9) gX6_row_X5_value rfl (by decide +kernel) ⟨Nat.le_of_ble_eq_true rfl, Nat.le_of_ble_eq_true rfl⟩ ⟨Nat.le_of_ble_eq_true rfl, Nat.le_of_ble_eq_true rfl⟩ 6 rfl rfl (fun q hq => lm_s0 z zo m a h q (st_s1 z (a 0) (h 0) q hq)) rfl rfl (Nat.le_of_ble_eq_true rfl) dX6_row_66 (st' := [.int r9]) rfl rfl ?_
            cases hF
            exact lm_iretR C hr hk rfl dX6_row_69
          · have hF := lm_brf hF c8
            refine lm_lookup C (off := 40) (tgt := 70) dX6_row_30 (by decide) (by rw [lv_osw c6 (by decide)]; rw [lv_osw c8 (by decide)]; rfl) (by decide) ?_
            refine lm_iload_n C dX6_row_70 rfl 1 rfl rfl ?_
            refine lm_if_eq C (tgt := 88) dX6_row_71 (by decide) rfl (fun c10 => ?_) (fun c10 => ?_)
            · refine lm_aload_n C dX6_row_88 rfl 0 rfl rfl ?_
              refine lm_getf C (T := TX6) (N := 9) (v := .ref (a 0 0)) in6_X6_row 0 rfl rfl 0 (by decide) fl10_X6_row rfl rfl dX6_row_89 rfl ?_
              refine lm_iload_n C dX6_row_92 rfl 2 rfl rfl ?_
              obtain ⟨r11, qr11, hF⟩ := lm_bde hF
              refine lm_callVR C (n := 1) (ci := 4) (m_X4_isDone D z zo l (a 0) (h 0) x2 r11 qr11) gX6_row_X4_isDone rfl (by decide +kernel) ⟨Nat.le_of_ble_eq_true rfl, Nat.le_of_ble_eq_true rfl⟩ ⟨Nat.le_of_ble_eq_true rfl, Nat.le_of_ble_eq_true rfl⟩ 5 rfl rfl (lm_s0 z zo m a h) rfl rfl (Nat.le_of_ble_eq_true rfl) dX6_row_93 (st' := [.int r11]) rfl rfl ?_
              refine lm_if_eq C (tgt := 103) dX6_row_96 (by decide) rfl (fun c12 => ?_) (fun c12 => ?_)
              · have hF := lm_brt hF c12
                refine lm_iconst C (v := (0 : Int32)) dX6_row_103 (by decide) rfl ?_
                cases hF
                exact lm_iretR C hr hk rfl dX6_row_104
              · have hF := lm_brf hF c12
                refine lm_iconst C (v := (1 : Int32)) dX6_row_99 (by decide) rfl ?_
                refine lm_goto C (tgt := 104) dX6_row_100 (by decide) ?_
                cases hF
                exact lm_iretR C hr hk rfl dX6_row_104
            · exact (by simp_all : False).elim
      · have hF := lm_brf hF c5
        refine lm_iconst C (v := (-1 : Int32)) dX6_row_27 (by decide) rfl ?_
        cases hF
        exact lm_iretR C hr hk rfl dX6_row_28
  · have hF := lm_brf hF c1
    refine lm_callVR C (n := 1) (ci := 4) (m_X4_table_2 D z zo l (a 0) (h 0) x1 c1) gX6_row_X4_table rfl (by decide +kernel) ⟨Nat.le_of_ble_eq_true rfl, Nat.le_of_ble_eq_true rfl⟩ ⟨Nat.le_of_ble_eq_true rfl, Nat.le_of_ble_eq_true rfl⟩ 5 rfl rfl (lm_s0 z zo m a h) rfl rfl (Nat.le_of_ble_eq_true rfl) dX6_row_5 (st' := [.ref (a 0 4)]) rfl rfl ?_
    refine lm_astore C (lv' := [(0, .ref (m 0)), (1, .int x1), (2, .int x2), (3, .int x3), (4, .ref (a 0 4))]) dX6_row_8 (by decide) rfl [1, 2, 3, 4, 0] rfl rfl ?_
    refine lm_aload C dX6_row_10 4 rfl rfl ?_
    refine lm_iload_n C dX6_row_12 rfl 2 rfl rfl ?_
    obtain ⟨r13, qr13, hF⟩ := lm_bde hF
    refine lm_callVR C (n := 1) (ci := 5) (m_X5_has D z zo l (lm_sh 4 (a 0)) (lm_sh 4 (h 0)) x2 r13 qr13) gX6_row_X5_has rfl (by decide +kernel) ⟨Nat.le_of_ble_eq_true rfl, Nat.le_of_ble_eq_true rfl⟩ ⟨Nat.le_of_ble_eq_true rfl, Nat.le_of_ble_eq_true rfl⟩ 9 rfl rfl (fun q hq => lm_s0 z zo m a h q (st_s4 z (a 0) (h 0) q hq)) rfl rfl (Nat.le_of_ble_eq_true rfl) dX6_row_13 (st' := [.int r13]) rfl rfl ?_
    refine lm_if_eq C (tgt := 27) dX6_row_16 (by decide) rfl (fun c14 => ?_) (fun c14 => ?_)
    · have hF := lm_brt hF c14
      refine lm_iconst C (v := (-1 : Int32)) dX6_row_27 (by decide) rfl ?_
      cases hF
      exact lm_iretR C hr hk rfl dX6_row_28
    · have hF := lm_brf hF c14
      refine lm_iload_n C dX6_row_19 rfl 3 rfl rfl ?_
      refine lm_iconst C (v := (2 : Int32)) dX6_row_20 (by decide) rfl ?_
      obtain ⟨r15, qr15, hF⟩ := lm_bde hF
      refine lm_callSR C (n := 2) (m_X6_isWithin D z zo l   x3 (2 : Int32) r15 qr15) gX6_row_X6_isWithin rfl (by decide +kernel) ⟨Nat.le_of_ble_eq_true rfl, Nat.le_of_ble_eq_true rfl⟩ ⟨Nat.le_of_ble_eq_true rfl, Nat.le_of_ble_eq_true rfl⟩ (fun _ h => absurd h List.not_mem_nil) rfl rfl (Nat.le_of_ble_eq_true rfl) dX6_row_21 (st' := [.int r15]) rfl rfl ?_
      refine lm_if_ne C (tgt := 29) dX6_row_24 (by decide) rfl (fun c16 => ?_) (fun c16 => ?_)
      · have hF := lm_brt hF c16
        refine lm_iload_n C dX6_row_29 rfl 3 rfl rfl ?_
        rcases Classical.em (x3 = (0 : Int32)) with c17 | c17
        · have hF := lm_brt hF c17
          refine lm_lookup C (off := 26) (tgt := 56) dX6_row_30 (by decide) (by rw [c17]; decide) (by decide) ?_
          refine lm_aload C dX6_row_56 4 rfl rfl ?_
          refine lm_iload_n C dX6_row_58 rfl 2 rfl rfl ?_
          obtain ⟨r18, qr18, hF⟩ := lm_bde hF
          refine lm_callVR C (n := 1) (ci := 5) (m_X5_key D z zo l (lm_sh 4 (a 0)) (lm_sh 4 (h 0)) x2 r18 qr18) gX6_row_X5_key rfl (by decide +kernel) ⟨Nat.le_of_ble_eq_true rfl, Nat.le_of_ble_eq_true rfl⟩ ⟨Nat.le_of_ble_eq_true rfl, Nat.le_of_ble_eq_true rfl⟩ 9 rfl rfl (fun q hq => lm_s0 z zo m a h q (st_s4 z (a 0) (h 0) q hq)) rfl rfl (Nat.le_of_ble_eq_true rfl) dX6_row_59 (st' := [.int r18]) rfl rfl ?_
          cases hF
          exact lm_iretR C hr hk rfl dX6_row_62
        · have hF := lm_brf hF c17
          rcases Classical.em (x3 = (1 : Int32)) with c19 | c19
          · have hF := lm_brt hF c19
            refine lm_lookup C (off := 33) (tgt := 63) dX6_row_30 (by decide) (by rw [c19]; decide) (by decide) ?_
            refine lm_aload C dX6_row_63 4 rfl rfl ?_
            refine lm_iload_n C dX6_row_65 rfl 2 rfl rfl ?_
            obtain ⟨r20, qr20, hF⟩ := lm_bde hF
            refine lm_callVR C (n := 1) (ci := 5) (m_X5_value D z zo l (lm_sh 4 (a 0)) (lm_sh 4 (h 0)) x2 r20 qr20) gX6_row_X5_value rfl (by decide +kernel) ⟨Nat.le_of_ble_eq_true rfl, Nat.le_of_ble_eq_true rfl⟩ ⟨Nat.le_of_ble_eq_true rfl, Nat.le_of_ble_eq_true rfl⟩ 9 rfl rfl (fun q hq => lm_s0 z zo m a h q (st_s4 z (a 0) (h 0) q hq)) rfl rfl (Nat.le_of_ble_eq_true rfl) dX6_row_66 (st' := [.int r20]) rfl rfl ?_
            cases hF
            exact lm_iretR C hr hk rfl dX6_row_69
          · have hF := lm_brf hF c19
            refine lm_lookup C (off := 40) (tgt := 70) dX6_row_30 (by decide) (by rw [lv_osw c17 (by decide)]; rw [lv_osw c19 (by decide)]; rfl) (by decide) ?_
            refine lm_iload_n C dX6_row_70 rfl 1 rfl rfl ?_
            refine lm_if_eq C (tgt := 88) dX6_row_71 (by decide) rfl (fun c21 => ?_) (fun c21 => ?_)
            · exact (by simp_all : False).elim
            · refine lm_aload_n C dX6_row_74 rfl 0 rfl rfl ?_
              refine lm_getf C (T := TX6) (N := 9) (v := .ref (a 0 0)) in6_X6_row 0 rfl rfl 0 (by decide) fl10_X6_row rfl rfl dX6_row_75 rfl ?_
              refine lm_iload_n C dX6_row_78 rfl 2 rfl rfl ?_
              obtain ⟨r22, qr22, hF⟩ := lm_bde hF
              refine lm_callVR C (n := 1) (ci := 4) (m_X4_isInRememberedAnswer D z zo l (a 0) (h 0) x2 r22 qr22) gX6_row_X4_isInRememberedAnswer rfl (by decide +kernel) ⟨Nat.le_of_ble_eq_true rfl, Nat.le_of_ble_eq_true rfl⟩ ⟨Nat.le_of_ble_eq_true rfl, Nat.le_of_ble_eq_true rfl⟩ 5 rfl rfl (lm_s0 z zo m a h) rfl rfl (Nat.le_of_ble_eq_true rfl) dX6_row_79 (st' := [.int r22]) rfl rfl ?_
              refine lm_if_eq C (tgt := 103) dX6_row_82 (by decide) rfl (fun c23 => ?_) (fun c23 => ?_)
              · have hF := lm_brt hF c23
                refine lm_iconst C (v := (0 : Int32)) dX6_row_103 (by decide) rfl ?_
                cases hF
                exact lm_iretR C hr hk rfl dX6_row_104
              · have hF := lm_brf hF c23
                refine lm_goto C (tgt := 99) dX6_row_85 (by decide) ?_
                refine lm_iconst C (v := (1 : Int32)) dX6_row_99 (by decide) rfl ?_
                refine lm_goto C (tgt := 104) dX6_row_100 (by decide) ?_
                cases hF
                exact lm_iretR C hr hk rfl dX6_row_104
      · have hF := lm_brf hF c16
        refine lm_iconst C (v := (-1 : Int32)) dX6_row_27 (by decide) rfl ?_
        cases hF
        exact lm_iretR C hr hk rfl dX6_row_28
def F_X6_answer (h : Nat → Hp) (x1 x2 : Int32) : Option Int32 :=
  lm_bd (F_X6_isKey x1) fun r1 =>
  lm_br (r1 = 0)
   (some (-1 : Int32))
   (lm_bd (F_X6_isWithin x2 (3 : Int32)) fun r3 =>
   lm_br (r3 = 0)
    (some (-1 : Int32))
    (lm_bd (F_X0_tell (lm_sh 7 (h 0)) x1 x2) fun r5 =>
    some r5))
theorem in6_X6_answer : ∀ w ∈ u_ws RX6 TX6 9, w ∈ wsX6_answer := by decide +kernel
theorem fl10_X6_answer : Cond.fieldLink RX6 10 "LoopMemo" "now" "LLoopMemo$State;" ∈ wsX6_answer := by decide +kernel
set_option maxRecDepth 100000 in
set_option maxHeartbeats 4000000 in
theorem m_X6_answer (D : va_G) (z zo : ClassId) (l : Launch) (m : Nat → Nat) (a : Nat → Nat → Nat) (h : Nat → Hp) (x1 x2 : Int32) (r : Int32)  (hF : F_X6_answer h x1 x2 = some r) : lm_CR D z zo l yX6_answer wsX6_answer 2 43 [.ref (m 0), .int x1, .int x2] (lmW z zo m a h) (some (.int r)) := by
  refine lm_CR.of (by decide) rfl (Nat.le_of_ble_eq_true rfl) (own := RX6) rfl ?_
  intro p e s m_ args below meth c C hr hk
  show lm_St p l e ({ frames := 2, cells := 0, slots := 0, locals := 43 }) s m_ args below meth c D (fun _ => False) 3 0 0 (lm_EndR below (some (.int r)) args s) true (lmW z zo m a h) 0 [(0, .ref (m 0)), (1, .int x1), (2, .int x2)] []
  rw [F_X6_answer] at hF
  refine lm_iload_n C dX6_answer_0 rfl 1 rfl rfl ?_
  obtain ⟨r1, qr1, hF⟩ := lm_bde hF
  refine lm_callSR C (n := 1) (m_X6_isKey D z zo l   x1 r1 qr1) gX6_answer_X6_isKey rfl (by decide +kernel) ⟨Nat.le_of_ble_eq_true rfl, Nat.le_of_ble_eq_true rfl⟩ ⟨Nat.le_of_ble_eq_true rfl, Nat.le_of_ble_eq_true rfl⟩ (fun _ h => absurd h List.not_mem_nil) rfl rfl (Nat.le_of_ble_eq_true rfl) dX6_answer_1 (st' := [.int r1]) rfl rfl ?_
  refine lm_if_eq C (tgt := 30) dX6_answer_4 (by decide) rfl (fun c2 => ?_) (fun c2 => ?_)
  · have hF := lm_brt hF c2
    refine lm_iconst C (v := (-1 : Int32)) dX6_answer_30 (by decide) rfl ?_
    cases hF
    exact lm_iretR C hr hk rfl dX6_answer_31
  · have hF := lm_brf hF c2
    refine lm_iload_n C dX6_answer_7 rfl 2 rfl rfl ?_
    refine lm_iconst C (v := (3 : Int32)) dX6_answer_8 (by decide) rfl ?_
    obtain ⟨r3, qr3, hF⟩ := lm_bde hF
    refine lm_callSR C (n := 2) (m_X6_isWithin D z zo l   x2 (3 : Int32) r3 qr3) gX6_answer_X6_isWithin rfl (by decide +kernel) ⟨Nat.le_of_ble_eq_true rfl, Nat.le_of_ble_eq_true rfl⟩ ⟨Nat.le_of_ble_eq_true rfl, Nat.le_of_ble_eq_true rfl⟩ (fun _ h => absurd h List.not_mem_nil) rfl rfl (Nat.le_of_ble_eq_true rfl) dX6_answer_9 (st' := [.int r3]) rfl rfl ?_
    refine lm_if_eq C (tgt := 30) dX6_answer_12 (by decide) rfl (fun c4 => ?_) (fun c4 => ?_)
    · have hF := lm_brt hF c4
      refine lm_iconst C (v := (-1 : Int32)) dX6_answer_30 (by decide) rfl ?_
      cases hF
      exact lm_iretR C hr hk rfl dX6_answer_31
    · have hF := lm_brf hF c4
      refine lm_aload_n C dX6_answer_15 rfl 0 rfl rfl ?_
      refine lm_getf C (T := TX6) (N := 9) (v := .ref (a 0 0)) in6_X6_answer 0 rfl rfl 0 (by decide) fl10_X6_answer rfl rfl dX6_answer_16 rfl ?_
      refine lm_callVR C (n := 0) (ci := 4) (m_X4_answers_1 D z zo l (a 0) (h 0)  ) gX6_answer_X4_answers rfl (by decide +kernel) ⟨Nat.le_of_ble_eq_true rfl, Nat.le_of_ble_eq_true rfl⟩ ⟨Nat.le_of_ble_eq_true rfl, Nat.le_of_ble_eq_true rfl⟩ 5 rfl rfl (lm_s0 z zo m a h) rfl rfl (Nat.le_of_ble_eq_true rfl) dX6_answer_19 (st' := [.ref (a 0 7)]) rfl rfl ?_
      refine lm_iload_n C dX6_answer_22 rfl 1 rfl rfl ?_
      refine lm_iload_n C dX6_answer_23 rfl 2 rfl rfl ?_
      obtain ⟨r5, qr5, hF⟩ := lm_bde hF
      refine lm_callVR C (n := 2) (ci := 0) (m_X0_tell D z zo l (lm_sh 7 (a 0)) (lm_sh 7 (h 0)) x1 x2 r5 qr5) gX6_answer_X0_tell rfl (by decide +kernel) ⟨Nat.le_of_ble_eq_true rfl, Nat.le_of_ble_eq_true rfl⟩ ⟨Nat.le_of_ble_eq_true rfl, Nat.le_of_ble_eq_true rfl⟩ 12 rfl rfl (fun q hq => lm_s0 z zo m a h q (st_s7 z (a 0) (h 0) q hq)) rfl rfl (Nat.le_of_ble_eq_true rfl) dX6_answer_24 (st' := [.int r5]) rfl rfl ?_
      refine lm_goto C (tgt := 31) dX6_answer_27 (by decide) ?_
      cases hF
      exact lm_iretR C hr hk rfl dX6_answer_31
def F_X6_remembered (h : Nat → Hp) (x1 x2 : Int32) : Option Int32 :=
  lm_bd (F_X6_isKey x1) fun r1 =>
  lm_br (r1 = 0)
   (some (-1 : Int32))
   (lm_bd (F_X6_isWithin x2 (5 : Int32)) fun r3 =>
   lm_br (¬ r3 = 0)
    (lm_bd (F_X2_holds (lm_sh 11 (h 0)) x1) fun r5 =>
    lm_br (¬ r5 = 0)
     (lm_br (x2 = (4 : Int32))
      (lm_bd (F_X2_uses (lm_sh 11 (h 0)) x1) fun r8 =>
      some r8)
      (lm_br (x2 = (5 : Int32))
       (lm_bd (F_X4_setting (h 0) (1 : Int32)) fun r10 =>
       lm_bd (F_X2_placeOf (lm_sh 11 (h 0)) x1 r10) fun r11 =>
       some r11)
       (lm_bd (F_X0_tell (lm_sh 7 (h 0)) x1 x2) fun r12 =>
       some r12)))
     (some (-4 : Int32)))
    (some (-1 : Int32)))
theorem in6_X6_remembered : ∀ w ∈ u_ws RX6 TX6 9, w ∈ wsX6_remembered := by decide +kernel
theorem fl10_X6_remembered : Cond.fieldLink RX6 10 "LoopMemo" "now" "LLoopMemo$State;" ∈ wsX6_remembered := by decide +kernel
set_option maxRecDepth 100000 in
set_option maxHeartbeats 4000000 in
theorem m_X6_remembered (D : va_G) (z zo : ClassId) (l : Launch) (m : Nat → Nat) (a : Nat → Nat → Nat) (h : Nat → Hp) (x1 x2 : Int32) (r : Int32)  (hF : F_X6_remembered h x1 x2 = some r) : lm_CR D z zo l yX6_remembered wsX6_remembered 2 46 [.ref (m 0), .int x1, .int x2] (lmW z zo m a h) (some (.int r)) := by
  refine lm_CR.of (by decide) rfl (Nat.le_of_ble_eq_true rfl) (own := RX6) rfl ?_
  intro p e s m_ args below meth c C hr hk
  show lm_St p l e ({ frames := 2, cells := 0, slots := 0, locals := 46 }) s m_ args below meth c D (fun _ => False) 3 0 0 (lm_EndR below (some (.int r)) args s) true (lmW z zo m a h) 0 [(0, .ref (m 0)), (1, .int x1), (2, .int x2)] []
  rw [F_X6_remembered] at hF
  refine lm_iload_n C dX6_remembered_0 rfl 1 rfl rfl ?_
  obtain ⟨r1, qr1, hF⟩ := lm_bde hF
  refine lm_callSR C (n := 1) (m_X6_isKey D z zo l   x1 r1 qr1) gX6_remembered_X6_isKey rfl (by decide +kernel) ⟨Nat.le_of_ble_eq_true rfl, Nat.le_of_ble_eq_true rfl⟩ ⟨Nat.le_of_ble_eq_true rfl, Nat.le_of_ble_eq_true rfl⟩ (fun _ h => absurd h List.not_mem_nil) rfl rfl (Nat.le_of_ble_eq_true rfl) dX6_remembered_1 (st' := [.int r1]) rfl rfl ?_
  refine lm_if_eq C (tgt := 15) dX6_remembered_4 (by decide) rfl (fun c2 => ?_) (fun c2 => ?_)
  · have hF := lm_brt hF c2
    refine lm_iconst C (v := (-1 : Int32)) dX6_remembered_15 (by decide) rfl ?_
    cases hF
    exact lm_iretR C hr hk rfl dX6_remembered_16
  · have hF := lm_brf hF c2
    refine lm_iload_n C dX6_remembered_7 rfl 2 rfl rfl ?_
    refine lm_iconst C (v := (5 : Int32)) dX6_remembered_8 (by decide) rfl ?_
    obtain ⟨r3, qr3, hF⟩ := lm_bde hF
    refine lm_callSR C (n := 2) (m_X6_isWithin D z zo l   x2 (5 : Int32) r3 qr3) gX6_remembered_X6_isWithin rfl (by decide +kernel) ⟨Nat.le_of_ble_eq_true rfl, Nat.le_of_ble_eq_true rfl⟩ ⟨Nat.le_of_ble_eq_true rfl, Nat.le_of_ble_eq_true rfl⟩ (fun _ h => absurd h List.not_mem_nil) rfl rfl (Nat.le_of_ble_eq_true rfl) dX6_remembered_9 (st' := [.int r3]) rfl rfl ?_
    refine lm_if_ne C (tgt := 17) dX6_remembered_12 (by decide) rfl (fun c4 => ?_) (fun c4 => ?_)
    · have hF := lm_brt hF c4
      refine lm_aload_n C dX6_remembered_17 rfl 0 rfl rfl ?_
      refine lm_getf C (T := TX6) (N := 9) (v := .ref (a 0 0)) in6_X6_remembered 0 rfl rfl 0 (by decide) fl10_X6_remembered rfl rfl dX6_remembered_18 rfl ?_
      refine lm_callVR C (n := 0) (ci := 4) (m_X4_memo_1 D z zo l (a 0) (h 0)  ) gX6_remembered_X4_memo rfl (by decide +kernel) ⟨Nat.le_of_ble_eq_true rfl, Nat.le_of_ble_eq_true rfl⟩ ⟨Nat.le_of_ble_eq_true rfl, Nat.le_of_ble_eq_true rfl⟩ 5 rfl rfl (lm_s0 z zo m a h) rfl rfl (Nat.le_of_ble_eq_true rfl) dX6_remembered_21 (st' := [.ref (a 0 11)]) rfl rfl ?_
      refine lm_iload_n C dX6_remembered_24 rfl 1 rfl rfl ?_
      obtain ⟨r5, qr5, hF⟩ := lm_bde hF
      refine lm_callVR C (n := 1) (ci := 2) (m_X2_holds D z zo l (lm_sh 11 (a 0)) (lm_sh 11 (h 0)) x1 r5 qr5) gX6_remembered_X2_holds rfl (by decide +kernel) ⟨Nat.le_of_ble_eq_true rfl, Nat.le_of_ble_eq_true rfl⟩ ⟨Nat.le_of_ble_eq_true rfl, Nat.le_of_ble_eq_true rfl⟩ 16 rfl rfl (fun q hq => lm_s0 z zo m a h q (st_s11 z (a 0) (h 0) q hq)) rfl rfl (Nat.le_of_ble_eq_true rfl) dX6_remembered_25 (st' := [.int r5]) rfl rfl ?_
      refine lm_if_ne C (tgt := 34) dX6_remembered_28 (by decide) rfl (fun c6 => ?_) (fun c6 => ?_)
      · have hF := lm_brt hF c6
        refine lm_iload_n C dX6_remembered_34 rfl 2 rfl rfl ?_
        rcases Classical.em (x2 = (4 : Int32)) with c7 | c7
        · have hF := lm_brt hF c7
          refine lm_lookup C (off := 25) (tgt := 60) dX6_remembered_35 (by decide) (by rw [c7]; decide) (by decide) ?_
          refine lm_aload_n C dX6_remembered_60 rfl 0 rfl rfl ?_
          refine lm_getf C (T := TX6) (N := 9) (v := .ref (a 0 0)) in6_X6_remembered 0 rfl rfl 0 (by decide) fl10_X6_remembered rfl rfl dX6_remembered_61 rfl ?_
          refine lm_callVR C (n := 0) (ci := 4) (m_X4_memo_1 D z zo l (a 0) (h 0)  ) gX6_remembered_X4_memo rfl (by decide +kernel) ⟨Nat.le_of_ble_eq_true rfl, Nat.le_of_ble_eq_true rfl⟩ ⟨Nat.le_of_ble_eq_true rfl, Nat.le_of_ble_eq_true rfl⟩ 5 rfl rfl (lm_s0 z zo m a h) rfl rfl (Nat.le_of_ble_eq_true rfl) dX6_remembered_64 (st' := [.ref (a 0 11)]) rfl rfl ?_
          refine lm_iload_n C dX6_remembered_67 rfl 1 rfl rfl ?_
          obtain ⟨r8, qr8, hF⟩ := lm_bde hF
          refine lm_callVR C (n := 1) (ci := 2) (m_X2_uses D z zo l (lm_sh 11 (a 0)) (lm_sh 11 (h 0)) x1 r8 qr8) gX6_remembered_X2_uses rfl (by decide +kernel) ⟨Nat.le_of_ble_eq_true rfl, Nat.le_of_ble_eq_true rfl⟩ ⟨Nat.le_of_ble_eq_true rfl, Nat.le_of_ble_eq_true rfl⟩ 16 rfl rfl (fun q hq => lm_s0 z zo m a h q (st_s11 z (a 0) (h 0) q hq)) rfl rfl (Nat.le_of_ble_eq_true rfl) dX6_remembered_68 (st' := [.int r8]) rfl rfl ?_
          cases hF
          exact lm_iretR C hr hk rfl dX6_remembered_71
        · have hF := lm_brf hF c7
          rcases Classical.em (x2 = (5 : Int32)) with c9 | c9
          · have hF := lm_brt hF c9
            refine lm_lookup C (off := 37) (tgt := 72) dX6_remembered_35 (by decide) (by rw [c9]; decide) (by decide) ?_
            refine lm_aload_n C dX6_remembered_72 rfl 0 rfl rfl ?_
            refine lm_getf C (T := TX6) (N := 9) (v := .ref (a 0 0)) in6_X6_remembered 0 rfl rfl 0 (by decide) fl10_X6_remembered rfl rfl dX6_remembered_73 rfl ?_
            refine lm_callVR C (n := 0) (ci := 4) (m_X4_memo_1 D z zo l (a 0) (h 0)  ) gX6_remembered_X4_memo rfl (by decide +kernel) ⟨Nat.le_of_ble_eq_true rfl, Nat.le_of_ble_eq_true rfl⟩ ⟨Nat.le_of_ble_eq_true rfl, Nat.le_of_ble_eq_true rfl⟩ 5 rfl rfl (lm_s0 z zo m a h) rfl rfl (Nat.le_of_ble_eq_true rfl) dX6_remembered_76 (st' := [.ref (a 0 11)]) rfl rfl ?_
            refine lm_iload_n C dX6_remembered_79 rfl 1 rfl rfl ?_
            refine lm_aload_n C dX6_remembered_80 rfl 0 rfl rfl ?_
            refine lm_getf C (T := TX6) (N := 9) (v := .ref (a 0 0)) in6_X6_remembered 0 rfl rfl 0 (by decide) fl10_X6_remembered rfl rfl dX6_remembered_81 rfl ?_
            refine lm_iconst C (v := (1 : Int32)) dX6_remembered_84 (by decide) rfl ?_
            obtain ⟨r10, qr10, hF⟩ := lm_bde hF
            refine lm_callVR C (n := 1) (ci := 4) (m_X4_setting D z zo l (a 0) (h 0) (1 : Int32) r10 qr10) gX6_remembered_X4_setting rfl (by decide +kernel) ⟨Nat.le_of_ble_eq_true rfl, Nat.le_of_ble_eq_true rfl⟩ ⟨Nat.le_of_ble_eq_true rfl, Nat.le_of_ble_eq_true rfl⟩ 5 rfl rfl (lm_s0 z zo m a h) rfl rfl (Nat.le_of_ble_eq_true rfl) dX6_remembered_85 (st' := [.int r10, .int x1, .ref (a 0 11)]) rfl rfl ?_
            obtain ⟨r11, qr11, hF⟩ := lm_bde hF
            refine lm_callVR C (n := 2) (ci := 2) (m_X2_placeOf D z zo l (lm_sh 11 (a 0)) (lm_sh 11 (h 0)) x1 r10 r11 qr11) gX6_remembered_X2_placeOf rfl (by decide +kernel) ⟨Nat.le_of_ble_eq_true rfl, Nat.le_of_ble_eq_true rfl⟩ ⟨Nat.le_of_ble_eq_true rfl, Nat.le_of_ble_eq_true rfl⟩ 16 rfl rfl (fun q hq => lm_s0 z zo m a h q (st_s11 z (a 0) (h 0) q hq)) rfl rfl (Nat.le_of_ble_eq_true rfl) dX6_remembered_88 (st' := [.int r11]) rfl rfl ?_
            cases hF
            exact lm_iretR C hr hk rfl dX6_remembered_91
          · have hF := lm_brf hF c9
            refine lm_lookup C (off := 57) (tgt := 92) dX6_remembered_35 (by decide) (by rw [lv_osw c7 (by decide)]; rw [lv_osw c9 (by decide)]; rfl) (by decide) ?_
            refine lm_aload_n C dX6_remembered_92 rfl 0 rfl rfl ?_
            refine lm_getf C (T := TX6) (N := 9) (v := .ref (a 0 0)) in6_X6_remembered 0 rfl rfl 0 (by decide) fl10_X6_remembered rfl rfl dX6_remembered_93 rfl ?_
            refine lm_callVR C (n := 0) (ci := 4) (m_X4_answers_1 D z zo l (a 0) (h 0)  ) gX6_remembered_X4_answers rfl (by decide +kernel) ⟨Nat.le_of_ble_eq_true rfl, Nat.le_of_ble_eq_true rfl⟩ ⟨Nat.le_of_ble_eq_true rfl, Nat.le_of_ble_eq_true rfl⟩ 5 rfl rfl (lm_s0 z zo m a h) rfl rfl (Nat.le_of_ble_eq_true rfl) dX6_remembered_96 (st' := [.ref (a 0 7)]) rfl rfl ?_
            refine lm_iload_n C dX6_remembered_99 rfl 1 rfl rfl ?_
            refine lm_iload_n C dX6_remembered_100 rfl 2 rfl rfl ?_
            obtain ⟨r12, qr12, hF⟩ := lm_bde hF
            refine lm_callVR C (n := 2) (ci := 0) (m_X0_tell D z zo l (lm_sh 7 (a 0)) (lm_sh 7 (h 0)) x1 x2 r12 qr12) gX6_remembered_X0_tell rfl (by decide +kernel) ⟨Nat.le_of_ble_eq_true rfl, Nat.le_of_ble_eq_true rfl⟩ ⟨Nat.le_of_ble_eq_true rfl, Nat.le_of_ble_eq_true rfl⟩ 12 rfl rfl (fun q hq => lm_s0 z zo m a h q (st_s7 z (a 0) (h 0) q hq)) rfl rfl (Nat.le_of_ble_eq_true rfl) dX6_remembered_101 (st' := [.int r12]) rfl rfl ?_
            cases hF
            exact lm_iretR C hr hk rfl dX6_remembered_104
      · have hF := lm_brf hF c6
        refine lm_bipush C (v := (-4 : Int32)) dX6_remembered_31 (by decide) rfl ?_
        cases hF
        exact lm_iretR C hr hk rfl dX6_remembered_33
    · have hF := lm_brf hF c4
      refine lm_iconst C (v := (-1 : Int32)) dX6_remembered_15 (by decide) rfl ?_
      cases hF
      exact lm_iretR C hr hk rfl dX6_remembered_16
def F_X6_count (h : Nat → Hp) (x1 : Int32) : Option Int32 :=
  lm_br (x1 = (0 : Int32))
   (lm_bd (F_X5_size (lm_sh 1 (h 0))) fun r3 =>
   some r3)
   (lm_br (x1 = (1 : Int32))
    (lm_bd (F_X5_size (lm_sh 4 (h 0))) fun r6 =>
    some r6)
    (lm_br (x1 = (2 : Int32))
     (lm_bd (F_X2_size (lm_sh 11 (h 0))) fun r8 =>
     some r8)
     (lm_br (x1 = (3 : Int32))
      (lm_bd (F_X4_weightTogether (h 0)) fun r10 =>
      some r10)
      (lm_br (x1 = (4 : Int32))
       (lm_bd (F_X4_place (h 0)) fun r12 =>
       some r12)
       (lm_br (x1 = (5 : Int32))
        (lm_bd (F_X4_totalSoFar (h 0)) fun r14 =>
        some r14)
        (lm_br (x1 = (6 : Int32))
         (lm_bd (F_X6_isWithin x1 (19 : Int32)) fun r16 =>
         lm_br (r16 = 0)
          (some (-1 : Int32))
          (lm_bd (F_X4_tally (h 0) (x1 - (6 : Int32))) fun r18 =>
          some r18))
         (lm_br (x1 = (7 : Int32))
          (lm_bd (F_X6_isWithin x1 (19 : Int32)) fun r20 =>
          lm_br (r20 = 0)
           (some (-1 : Int32))
           (lm_bd (F_X4_tally (h 0) (x1 - (6 : Int32))) fun r22 =>
           some r22))
          (lm_br (x1 = (8 : Int32))
           (lm_bd (F_X6_isWithin x1 (19 : Int32)) fun r24 =>
           lm_br (r24 = 0)
            (some (-1 : Int32))
            (lm_bd (F_X4_tally (h 0) (x1 - (6 : Int32))) fun r26 =>
            some r26))
           (lm_br (x1 = (9 : Int32))
            (lm_bd (F_X6_isWithin x1 (19 : Int32)) fun r28 =>
            lm_br (r28 = 0)
             (some (-1 : Int32))
             (lm_bd (F_X4_tally (h 0) (x1 - (6 : Int32))) fun r30 =>
             some r30))
            (lm_br (x1 = (10 : Int32))
             (lm_bd (F_X6_isWithin x1 (19 : Int32)) fun r32 =>
             lm_br (r32 = 0)
              (some (-1 : Int32))
              (lm_bd (F_X4_tally (h 0) (x1 - (6 : Int32))) fun r34 =>
              some r34))
             (lm_br (x1 = (11 : Int32))
              (lm_bd (F_X6_isWithin x1 (19 : Int32)) fun r36 =>
              lm_br (r36 = 0)
               (some (-1 : Int32))
               (lm_bd (F_X4_tally (h 0) (x1 - (6 : Int32))) fun r38 =>
               some r38))
              (lm_br (x1 = (12 : Int32))
               (lm_bd (F_X6_isWithin x1 (19 : Int32)) fun r40 =>
               lm_br (r40 = 0)
                (some (-1 : Int32))
                (lm_bd (F_X4_tally (h 0) (x1 - (6 : Int32))) fun r42 =>
                some r42))
               (lm_br (x1 = (13 : Int32))
                (lm_bd (F_X4_setting (h 0) (x1 - (13 : Int32))) fun r44 =>
                some r44)
                (lm_br (x1 = (14 : Int32))
                 (lm_bd (F_X4_setting (h 0) (x1 - (13 : Int32))) fun r46 =>
                 some r46)
                 (lm_br (x1 = (15 : Int32))
                  (lm_bd (F_X4_setting (h 0) (x1 - (13 : Int32))) fun r48 =>
                  some r48)
                  (lm_br (x1 = (16 : Int32))
                   (lm_bd (F_X4_setting (h 0) (x1 - (13 : Int32))) fun r50 =>
                   some r50)
                   (lm_br (x1 = (17 : Int32))
                    (lm_bd (F_X4_setting (h 0) (x1 - (13 : Int32))) fun r52 =>
                    some r52)
                    (lm_br (x1 = (18 : Int32))
                     (lm_bd (F_X3_size (lm_sh 1 (h 8))) fun r54 =>
                     some r54)
                     (lm_br (x1 = (19 : Int32))
                      (lm_bd (F_X1_size h) fun r56 =>
                      some r56)
                      (lm_bd (F_X6_isWithin x1 (19 : Int32)) fun r57 =>
                      lm_br (r57 = 0)
                       (some (-1 : Int32))
                       (lm_bd (F_X4_tally (h 0) (x1 - (6 : Int32))) fun r59 =>
                       some r59)))))))))))))))))))))
theorem in6_X6_count : ∀ w ∈ u_ws RX6 TX6 9, w ∈ wsX6_count := by decide +kernel
theorem fl10_X6_count : Cond.fieldLink RX6 10 "LoopMemo" "now" "LLoopMemo$State;" ∈ wsX6_count := by decide +kernel
theorem fl32_X6_count : Cond.fieldLink RX6 32 "LoopMemo" "pad" "LLoopMemo$Pad;" ∈ wsX6_count := by decide +kernel
theorem fl25_X6_count : Cond.fieldLink RX6 25 "LoopMemo" "history" "LLoopMemo$History;" ∈ wsX6_count := by decide +kernel
set_option maxRecDepth 100000 in
set_option maxHeartbeats 4000000 in
theorem m_X6_count (D : va_G) (z zo : ClassId) (l : Launch) (m : Nat → Nat) (a : Nat → Nat → Nat) (h : Nat → Hp) (x1 : Int32) (r : Int32)  (hF : F_X6_count h x1 = some r) : lm_CR D z zo l yX6_count wsX6_count 2 43 [.ref (m 0), .int x1] (lmW z zo m a h) (some (.int r)) := by
  refine lm_CR.of (by decide) rfl (Nat.le_of_ble_eq_true rfl) (own := RX6) rfl ?_
  intro p e s m_ args below meth c C hr hk
  show lm_St p l e ({ frames := 2, cells := 0, slots := 0, locals := 43 }) s m_ args below meth c D (fun _ => False) 2 0 0 (lm_EndR below (some (.int r)) args s) true (lmW z zo m a h) 0 [(0, .ref (m 0)), (1, .int x1)] []
  rw [F_X6_count] at hF
  refine lm_iload_n C dX6_count_0 rfl 1 rfl rfl ?_
  rcases Classical.em (x1 = (0 : Int32)) with c1 | c1
  · have hF := lm_brt hF c1
    refine lm_tableIn C (0 : Int32) (off := 95) (tgt := 96) dX6_count_1 c1 (by decide) (by decide) (by decide) (by decide) ?_
    refine lm_aload_n C dX6_count_96 rfl 0 rfl rfl ?_
    refine lm_getf C (T := TX6) (N := 9) (v := .ref (a 0 0)) in6_X6_count 0 rfl rfl 0 (by decide) fl10_X6_count rfl rfl dX6_count_97 rfl ?_
    refine lm_iconst C (v := (0 : Int32)) dX6_count_100 (by decide) rfl ?_
    refine lm_callVR C (n := 1) (ci := 4) (m_X4_table_1 D z zo l (a 0) (h 0) (0 : Int32) (by decide)) gX6_count_X4_table rfl (by decide +kernel) ⟨Nat.le_of_ble_eq_true rfl, Nat.le_of_ble_eq_true rfl⟩ ⟨Nat.le_of_ble_eq_true rfl, Nat.le_of_ble_eq_true rfl⟩ 5 rfl rfl (lm_s0 z zo m a h) rfl rfl (Nat.le_of_ble_eq_true rfl) dX6_count_101 (st' := [.ref (a 0 1)]) rfl rfl ?_
    obtain ⟨r3, qr3, hF⟩ := lm_bde hF
    refine lm_callVR C (n := 0) (ci := 5) (m_X5_size D z zo l (lm_sh 1 (a 0)) (lm_sh 1 (h 0))  r3 qr3) gX6_count_X5_size rfl (by decide +kernel) ⟨Nat.le_of_ble_eq_true rfl, Nat.le_of_ble_eq_true rfl⟩ ⟨Nat.le_of_ble_eq_true rfl, Nat.le_of_ble_eq_true rfl⟩ 6 rfl rfl (fun q hq => lm_s0 z zo m a h q (st_s1 z (a 0) (h 0) q hq)) rfl rfl (Nat.le_of_ble_eq_true rfl) dX6_count_104 (st' := [.int r3]) rfl rfl ?_
    cases hF
    exact lm_iretR C hr hk rfl dX6_count_107
  · have hF := lm_brf hF c1
    rcases Classical.em (x1 = (1 : Int32)) with c4 | c4
    · have hF := lm_brt hF c4
      refine lm_tableIn C (1 : Int32) (off := 107) (tgt := 108) dX6_count_1 c4 (by decide) (by decide) (by decide) (by decide) ?_
      refine lm_aload_n C dX6_count_108 rfl 0 rfl rfl ?_
      refine lm_getf C (T := TX6) (N := 9) (v := .ref (a 0 0)) in6_X6_count 0 rfl rfl 0 (by decide) fl10_X6_count rfl rfl dX6_count_109 rfl ?_
      refine lm_iconst C (v := (1 : Int32)) dX6_count_112 (by decide) rfl ?_
      refine lm_callVR C (n := 1) (ci := 4) (m_X4_table_2 D z zo l (a 0) (h 0) (1 : Int32) (by decide)) gX6_count_X4_table rfl (by decide +kernel) ⟨Nat.le_of_ble_eq_true rfl, Nat.le_of_ble_eq_true rfl⟩ ⟨Nat.le_of_ble_eq_true rfl, Nat.le_of_ble_eq_true rfl⟩ 5 rfl rfl (lm_s0 z zo m a h) rfl rfl (Nat.le_of_ble_eq_true rfl) dX6_count_113 (st' := [.ref (a 0 4)]) rfl rfl ?_
      obtain ⟨r6, qr6, hF⟩ := lm_bde hF
      refine lm_callVR C (n := 0) (ci := 5) (m_X5_size D z zo l (lm_sh 4 (a 0)) (lm_sh 4 (h 0))  r6 qr6) gX6_count_X5_size rfl (by decide +kernel) ⟨Nat.le_of_ble_eq_true rfl, Nat.le_of_ble_eq_true rfl⟩ ⟨Nat.le_of_ble_eq_true rfl, Nat.le_of_ble_eq_true rfl⟩ 9 rfl rfl (fun q hq => lm_s0 z zo m a h q (st_s4 z (a 0) (h 0) q hq)) rfl rfl (Nat.le_of_ble_eq_true rfl) dX6_count_116 (st' := [.int r6]) rfl rfl ?_
      cases hF
      exact lm_iretR C hr hk rfl dX6_count_119
    · have hF := lm_brf hF c4
      rcases Classical.em (x1 = (2 : Int32)) with c7 | c7
      · have hF := lm_brt hF c7
        refine lm_tableIn C (2 : Int32) (off := 119) (tgt := 120) dX6_count_1 c7 (by decide) (by decide) (by decide) (by decide) ?_
        refine lm_aload_n C dX6_count_120 rfl 0 rfl rfl ?_
        refine lm_getf C (T := TX6) (N := 9) (v := .ref (a 0 0)) in6_X6_count 0 rfl rfl 0 (by decide) fl10_X6_count rfl rfl dX6_count_121 rfl ?_
        refine lm_callVR C (n := 0) (ci := 4) (m_X4_memo_1 D z zo l (a 0) (h 0)  ) gX6_count_X4_memo rfl (by decide +kernel) ⟨Nat.le_of_ble_eq_true rfl, Nat.le_of_ble_eq_true rfl⟩ ⟨Nat.le_of_ble_eq_true rfl, Nat.le_of_ble_eq_true rfl⟩ 5 rfl rfl (lm_s0 z zo m a h) rfl rfl (Nat.le_of_ble_eq_true rfl) dX6_count_124 (st' := [.ref (a 0 11)]) rfl rfl ?_
        obtain ⟨r8, qr8, hF⟩ := lm_bde hF
        refine lm_callVR C (n := 0) (ci := 2) (m_X2_size D z zo l (lm_sh 11 (a 0)) (lm_sh 11 (h 0))  r8 qr8) gX6_count_X2_size rfl (by decide +kernel) ⟨Nat.le_of_ble_eq_true rfl, Nat.le_of_ble_eq_true rfl⟩ ⟨Nat.le_of_ble_eq_true rfl, Nat.le_of_ble_eq_true rfl⟩ 16 rfl rfl (fun q hq => lm_s0 z zo m a h q (st_s11 z (a 0) (h 0) q hq)) rfl rfl (Nat.le_of_ble_eq_true rfl) dX6_count_127 (st' := [.int r8]) rfl rfl ?_
        cases hF
        exact lm_iretR C hr hk rfl dX6_count_130
      · have hF := lm_brf hF c7
        rcases Classical.em (x1 = (3 : Int32)) with c9 | c9
        · have hF := lm_brt hF c9
          refine lm_tableIn C (3 : Int32) (off := 130) (tgt := 131) dX6_count_1 c9 (by decide) (by decide) (by decide) (by decide) ?_
          refine lm_aload_n C dX6_count_131 rfl 0 rfl rfl ?_
          refine lm_getf C (T := TX6) (N := 9) (v := .ref (a 0 0)) in6_X6_count 0 rfl rfl 0 (by decide) fl10_X6_count rfl rfl dX6_count_132 rfl ?_
          obtain ⟨r10, qr10, hF⟩ := lm_bde hF
          refine lm_callVR C (n := 0) (ci := 4) (m_X4_weightTogether D z zo l (a 0) (h 0)  r10 qr10) gX6_count_X4_weightTogether rfl (by decide +kernel) ⟨Nat.le_of_ble_eq_true rfl, Nat.le_of_ble_eq_true rfl⟩ ⟨Nat.le_of_ble_eq_true rfl, Nat.le_of_ble_eq_true rfl⟩ 5 rfl rfl (lm_s0 z zo m a h) rfl rfl (Nat.le_of_ble_eq_true rfl) dX6_count_135 (st' := [.int r10]) rfl rfl ?_
          cases hF
          exact lm_iretR C hr hk rfl dX6_count_138
        · have hF := lm_brf hF c9
          rcases Classical.em (x1 = (4 : Int32)) with c11 | c11
          · have hF := lm_brt hF c11
            refine lm_tableIn C (4 : Int32) (off := 138) (tgt := 139) dX6_count_1 c11 (by decide) (by decide) (by decide) (by decide) ?_
            refine lm_aload_n C dX6_count_139 rfl 0 rfl rfl ?_
            refine lm_getf C (T := TX6) (N := 9) (v := .ref (a 0 0)) in6_X6_count 0 rfl rfl 0 (by decide) fl10_X6_count rfl rfl dX6_count_140 rfl ?_
            obtain ⟨r12, qr12, hF⟩ := lm_bde hF
            refine lm_callVR C (n := 0) (ci := 4) (m_X4_place D z zo l (a 0) (h 0)  r12 qr12) gX6_count_X4_place rfl (by decide +kernel) ⟨Nat.le_of_ble_eq_true rfl, Nat.le_of_ble_eq_true rfl⟩ ⟨Nat.le_of_ble_eq_true rfl, Nat.le_of_ble_eq_true rfl⟩ 5 rfl rfl (lm_s0 z zo m a h) rfl rfl (Nat.le_of_ble_eq_true rfl) dX6_count_143 (st' := [.int r12]) rfl rfl ?_
            cases hF
            exact lm_iretR C hr hk rfl dX6_count_146
          · have hF := lm_brf hF c11
            rcases Classical.em (x1 = (5 : Int32)) with c13 | c13
            · have hF := lm_brt hF c13
              refine lm_tableIn C (5 : Int32) (off := 146) (tgt := 147) dX6_count_1 c13 (by decide) (by decide) (by decide) (by decide) ?_
              refine lm_aload_n C dX6_count_147 rfl 0 rfl rfl ?_
              refine lm_getf C (T := TX6) (N := 9) (v := .ref (a 0 0)) in6_X6_count 0 rfl rfl 0 (by decide) fl10_X6_count rfl rfl dX6_count_148 rfl ?_
              obtain ⟨r14, qr14, hF⟩ := lm_bde hF
              refine lm_callVR C (n := 0) (ci := 4) (m_X4_totalSoFar D z zo l (a 0) (h 0)  r14 qr14) gX6_count_X4_totalSoFar rfl (by decide +kernel) ⟨Nat.le_of_ble_eq_true rfl, Nat.le_of_ble_eq_true rfl⟩ ⟨Nat.le_of_ble_eq_true rfl, Nat.le_of_ble_eq_true rfl⟩ 5 rfl rfl (lm_s0 z zo m a h) rfl rfl (Nat.le_of_ble_eq_true rfl) dX6_count_151 (st' := [.int r14]) rfl rfl ?_
              cases hF
              exact lm_iretR C hr hk rfl dX6_count_154
            · have hF := lm_brf hF c13
              rcases Classical.em (x1 = (6 : Int32)) with c15 | c15
              · have hF := lm_brt hF c15
                refine lm_tableIn C (6 : Int32) (off := 182) (tgt := 183) dX6_count_1 c15 (by decide) (by decide) (by decide) (by decide) ?_
                refine lm_iload_n C dX6_count_183 rfl 1 rfl rfl ?_
                refine lm_bipush C (v := (19 : Int32)) dX6_count_184 (by decide) rfl ?_
                obtain ⟨r16, qr16, hF⟩ := lm_bde hF
                refine lm_callSR C (n := 2) (m_X6_isWithin D z zo l   x1 (19 : Int32) r16 qr16) gX6_count_X6_isWithin rfl (by decide +kernel) ⟨Nat.le_of_ble_eq_true rfl, Nat.le_of_ble_eq_true rfl⟩ ⟨Nat.le_of_ble_eq_true rfl, Nat.le_of_ble_eq_true rfl⟩ (fun _ h => absurd h List.not_mem_nil) rfl rfl (Nat.le_of_ble_eq_true rfl) dX6_count_186 (st' := [.int r16]) rfl rfl ?_
                refine lm_if_eq C (tgt := 206) dX6_count_189 (by decide) rfl (fun c17 => ?_) (fun c17 => ?_)
                · have hF := lm_brt hF c17
                  refine lm_iconst C (v := (-1 : Int32)) dX6_count_206 (by decide) rfl ?_
                  cases hF
                  exact lm_iretR C hr hk rfl dX6_count_207
                · have hF := lm_brf hF c17
                  refine lm_aload_n C dX6_count_192 rfl 0 rfl rfl ?_
                  refine lm_getf C (T := TX6) (N := 9) (v := .ref (a 0 0)) in6_X6_count 0 rfl rfl 0 (by decide) fl10_X6_count rfl rfl dX6_count_193 rfl ?_
                  refine lm_iload_n C dX6_count_196 rfl 1 rfl rfl ?_
                  refine lm_bipush C (v := (6 : Int32)) dX6_count_197 (by decide) rfl ?_
                  refine lm_isub C dX6_count_199 rfl rfl ?_
                  obtain ⟨r18, qr18, hF⟩ := lm_bde hF
                  refine lm_callVR C (n := 1) (ci := 4) (m_X4_tally D z zo l (a 0) (h 0) (x1 - (6 : Int32)) r18 qr18) gX6_count_X4_tally rfl (by decide +kernel) ⟨Nat.le_of_ble_eq_true rfl, Nat.le_of_ble_eq_true rfl⟩ ⟨Nat.le_of_ble_eq_true rfl, Nat.le_of_ble_eq_true rfl⟩ 5 rfl rfl (lm_s0 z zo m a h) rfl rfl (Nat.le_of_ble_eq_true rfl) dX6_count_200 (st' := [.int r18]) rfl rfl ?_
                  refine lm_goto C (tgt := 207) dX6_count_203 (by decide) ?_
                  cases hF
                  exact lm_iretR C hr hk rfl dX6_count_207
              · have hF := lm_brf hF c15
                rcases Classical.em (x1 = (7 : Int32)) with c19 | c19
                · have hF := lm_brt hF c19
                  refine lm_tableIn C (7 : Int32) (off := 182) (tgt := 183) dX6_count_1 c19 (by decide) (by decide) (by decide) (by decide) ?_
                  refine lm_iload_n C dX6_count_183 rfl 1 rfl rfl ?_
                  refine lm_bipush C (v := (19 : Int32)) dX6_count_184 (by decide) rfl ?_
                  obtain ⟨r20, qr20, hF⟩ := lm_bde hF
                  refine lm_callSR C (n := 2) (m_X6_isWithin D z zo l   x1 (19 : Int32) r20 qr20) gX6_count_X6_isWithin rfl (by decide +kernel) ⟨Nat.le_of_ble_eq_true rfl, Nat.le_of_ble_eq_true rfl⟩ ⟨Nat.le_of_ble_eq_true rfl, Nat.le_of_ble_eq_true rfl⟩ (fun _ h => absurd h List.not_mem_nil) rfl rfl (Nat.le_of_ble_eq_true rfl) dX6_count_186 (st' := [.int r20]) rfl rfl ?_
                  refine lm_if_eq C (tgt := 206) dX6_count_189 (by decide) rfl (fun c21 => ?_) (fun c21 => ?_)
                  · have hF := lm_brt hF c21
                    refine lm_iconst C (v := (-1 : Int32)) dX6_count_206 (by decide) rfl ?_
                    cases hF
                    exact lm_iretR C hr hk rfl dX6_count_207
                  · have hF := lm_brf hF c21
                    refine lm_aload_n C dX6_count_192 rfl 0 rfl rfl ?_
                    refine lm_getf C (T := TX6) (N := 9) (v := .ref (a 0 0)) in6_X6_count 0 rfl rfl 0 (by decide) fl10_X6_count rfl rfl dX6_count_193 rfl ?_
                    refine lm_iload_n C dX6_count_196 rfl 1 rfl rfl ?_
                    refine lm_bipush C (v := (6 : Int32)) dX6_count_197 (by decide) rfl ?_
                    refine lm_isub C dX6_count_199 rfl rfl ?_
                    obtain ⟨r22, qr22, hF⟩ := lm_bde hF
                    refine lm_callVR C (n := 1) (ci := 4) (m_X4_tally D z zo l (a 0) (h 0) (x1 - (6 : Int32)) r22 qr22) gX6_count_X4_tally rfl (by decide +kernel) ⟨Nat.le_of_ble_eq_true rfl, Nat.le_of_ble_eq_true rfl⟩ ⟨Nat.le_of_ble_eq_true rfl, Nat.le_of_ble_eq_true rfl⟩ 5 rfl rfl (lm_s0 z zo m a h) rfl rfl (Nat.le_of_ble_eq_true rfl) dX6_count_200 (st' := [.int r22]) rfl rfl ?_
                    refine lm_goto C (tgt := 207) dX6_count_203 (by decide) ?_
                    cases hF
                    exact lm_iretR C hr hk rfl dX6_count_207
                · have hF := lm_brf hF c19
                  rcases Classical.em (x1 = (8 : Int32)) with c23 | c23
                  · have hF := lm_brt hF c23
                    refine lm_tableIn C (8 : Int32) (off := 182) (tgt := 183) dX6_count_1 c23 (by decide) (by decide) (by decide) (by decide) ?_
                    refine lm_iload_n C dX6_count_183 rfl 1 rfl rfl ?_
                    refine lm_bipush C (v := (19 : Int32)) dX6_count_184 (by decide) rfl ?_
                    obtain ⟨r24, qr24, hF⟩ := lm_bde hF
                    refine lm_callSR C (n := 2) (m_X6_isWithin D z zo l   x1 (19 : Int32) r24 qr24) gX6_count_X6_isWithin rfl (by decide +kernel) ⟨Nat.le_of_ble_eq_true rfl, Nat.le_of_ble_eq_true rfl⟩ ⟨Nat.le_of_ble_eq_true rfl, Nat.le_of_ble_eq_true rfl⟩ (fun _ h => absurd h List.not_mem_nil) rfl rfl (Nat.le_of_ble_eq_true rfl) dX6_count_186 (st' := [.int r24]) rfl rfl ?_
                    refine lm_if_eq C (tgt := 206) dX6_count_189 (by decide) rfl (fun c25 => ?_) (fun c25 => ?_)
                    · have hF := lm_brt hF c25
                      refine lm_iconst C (v := (-1 : Int32)) dX6_count_206 (by decide) rfl ?_
                      cases hF
                      exact lm_iretR C hr hk rfl dX6_count_207
                    · have hF := lm_brf hF c25
                      refine lm_aload_n C dX6_count_192 rfl 0 rfl rfl ?_
                      refine lm_getf C (T := TX6) (N := 9) (v := .ref (a 0 0)) in6_X6_count 0 rfl rfl 0 (by decide) fl10_X6_count rfl rfl dX6_count_193 rfl ?_
                      refine lm_iload_n C dX6_count_196 rfl 1 rfl rfl ?_
                      refine lm_bipush C (v := (6 : Int32)) dX6_count_197 (by decide) rfl ?_
                      refine lm_isub C dX6_count_199 rfl rfl ?_
                      obtain ⟨r26, qr26, hF⟩ := lm_bde hF
                      refine lm_callVR C (n := 1) (ci := 4) (m_X4_tally D z zo l (a 0) (h 0) (x1 - (6 : Int32)) r26 qr26) gX6_count_X4_tally rfl (by decide +kernel) ⟨Nat.le_of_ble_eq_true rfl, Nat.le_of_ble_eq_true rfl⟩ ⟨Nat.le_of_ble_eq_true rfl, Nat.le_of_ble_eq_true rfl⟩ 5 rfl rfl (lm_s0 z zo m a h) rfl rfl (Nat.le_of_ble_eq_true rfl) dX6_count_200 (st' := [.int r26]) rfl rfl ?_
                      refine lm_goto C (tgt := 207) dX6_count_203 (by decide) ?_
                      cases hF
                      exact lm_iretR C hr hk rfl dX6_count_207
                  · have hF := lm_brf hF c23
                    rcases Classical.em (x1 = (9 : Int32)) with c27 | c27
                    · have hF := lm_brt hF c27
                      refine lm_tableIn C (9 : Int32) (off := 182) (tgt := 183) dX6_count_1 c27 (by decide) (by decide) (by decide) (by decide) ?_
                      refine lm_iload_n C dX6_count_183 rfl 1 rfl rfl ?_
                      refine lm_bipush C (v := (19 : Int32)) dX6_count_184 (by decide) rfl ?_
                      obtain ⟨r28, qr28, hF⟩ := lm_bde hF
                      refine lm_callSR C (n := 2) (m_X6_isWithin D z zo l   x1 (19 : Int32) r28 qr28) gX6_count_X6_isWithin rfl (by decide +kernel) ⟨Nat.le_of_ble_eq_true rfl, Nat.le_of_ble_eq_true rfl⟩ ⟨Nat.le_of_ble_eq_true rfl, Nat.le_of_ble_eq_true rfl⟩ (fun _ h => absurd h List.not_mem_nil) rfl rfl (Nat.le_of_ble_eq_true rfl) dX6_count_186 (st' := [.int r28]) rfl rfl ?_
                      refine lm_if_eq C (tgt := 206) dX6_count_189 (by decide) rfl (fun c29 => ?_) (fun c29 => ?_)
                      · have hF := lm_brt hF c29
                        refine lm_iconst C (v := (-1 : Int32)) dX6_count_206 (by decide) rfl ?_
                        cases hF
                        exact lm_iretR C hr hk rfl dX6_count_207
                      · have hF := lm_brf hF c29
                        refine lm_aload_n C dX6_count_192 rfl 0 rfl rfl ?_
                        refine lm_getf C (T := TX6) (N := 9) (v := .ref (a 0 0)) in6_X6_count 0 rfl rfl 0 (by decide) fl10_X6_count rfl rfl dX6_count_193 rfl ?_
                        refine lm_iload_n C dX6_count_196 rfl 1 rfl rfl ?_
                        refine lm_bipush C (v := (6 : Int32)) dX6_count_197 (by decide) rfl ?_
                        refine lm_isub C dX6_count_199 rfl rfl ?_
                        obtain ⟨r30, qr30, hF⟩ := lm_bde hF
                        refine lm_callVR C (n := 1) (ci := 4) (m_X4_tally D z zo l (a 0) (h 0) (x1 - (6 : Int32)) r30 qr30) gX6_count_X4_tally rfl (by decide +kernel) ⟨Nat.le_of_ble_eq_true rfl, Nat.le_of_ble_eq_true rfl⟩ ⟨Nat.le_of_ble_eq_true rfl, Nat.le_of_ble_eq_true rfl⟩ 5 rfl rfl (lm_s0 z zo m a h) rfl rfl (Nat.le_of_ble_eq_true rfl) dX6_count_200 (st' := [.int r30]) rfl rfl ?_
                        refine lm_goto C (tgt := 207) dX6_count_203 (by decide) ?_
                        cases hF
                        exact lm_iretR C hr hk rfl dX6_count_207
                    · have hF := lm_brf hF c27
                      rcases Classical.em (x1 = (10 : Int32)) with c31 | c31
                      · have hF := lm_brt hF c31
                        refine lm_tableIn C (10 : Int32) (off := 182) (tgt := 183) dX6_count_1 c31 (by decide) (by decide) (by decide) (by decide) ?_
                        refine lm_iload_n C dX6_count_183 rfl 1 rfl rfl ?_
                        refine lm_bipush C (v := (19 : Int32)) dX6_count_184 (by decide) rfl ?_
                        obtain ⟨r32, qr32, hF⟩ := lm_bde hF
                        refine lm_callSR C (n := 2) (m_X6_isWithin D z zo l   x1 (19 : Int32) r32 qr32) gX6_count_X6_isWithin rfl (by decide +kernel) ⟨Nat.le_of_ble_eq_true rfl, Nat.le_of_ble_eq_true rfl⟩ ⟨Nat.le_of_ble_eq_true rfl, Nat.le_of_ble_eq_true rfl⟩ (fun _ h => absurd h List.not_mem_nil) rfl rfl (Nat.le_of_ble_eq_true rfl) dX6_count_186 (st' := [.int r32]) rfl rfl ?_
                        refine lm_if_eq C (tgt := 206) dX6_count_189 (by decide) rfl (fun c33 => ?_) (fun c33 => ?_)
                        · have hF := lm_brt hF c33
                          refine lm_iconst C (v := (-1 : Int32)) dX6_count_206 (by decide) rfl ?_
                          cases hF
                          exact lm_iretR C hr hk rfl dX6_count_207
                        · have hF := lm_brf hF c33
                          refine lm_aload_n C dX6_count_192 rfl 0 rfl rfl ?_
                          refine lm_getf C (T := TX6) (N := 9) (v := .ref (a 0 0)) in6_X6_count 0 rfl rfl 0 (by decide) fl10_X6_count rfl rfl dX6_count_193 rfl ?_
                          refine lm_iload_n C dX6_count_196 rfl 1 rfl rfl ?_
                          refine lm_bipush C (v := (6 : Int32)) dX6_count_197 (by decide) rfl ?_
                          refine lm_isub C dX6_count_199 rfl rfl ?_
                          obtain ⟨r34, qr34, hF⟩ := lm_bde hF
                          refine lm_callVR C (n := 1) (ci := 4) (m_X4_tally D z zo l (a 0) (h 0) (x1 - (6 : Int32)) r34 qr34) gX6_count_X4_tally rfl (by decide +kernel) ⟨Nat.le_of_ble_eq_true rfl, Nat.le_of_ble_eq_true rfl⟩ ⟨Nat.le_of_ble_eq_true rfl, Nat.le_of_ble_eq_true rfl⟩ 5 rfl rfl (lm_s0 z zo m a h) rfl rfl (Nat.le_of_ble_eq_true rfl) dX6_count_200 (st' := [.int r34]) rfl rfl ?_
                          refine lm_goto C (tgt := 207) dX6_count_203 (by decide) ?_
                          cases hF
                          exact lm_iretR C hr hk rfl dX6_count_207
                      · have hF := lm_brf hF c31
                        rcases Classical.em (x1 = (11 : Int32)) with c35 | c35
                        · have hF := lm_brt hF c35
                          refine lm_tableIn C (11 : Int32) (off := 182) (tgt := 183) dX6_count_1 c35 (by decide) (by decide) (by decide) (by decide) ?_
                          refine lm_iload_n C dX6_count_183 rfl 1 rfl rfl ?_
                          refine lm_bipush C (v := (19 : Int32)) dX6_count_184 (by decide) rfl ?_
                          obtain ⟨r36, qr36, hF⟩ := lm_bde hF
                          refine lm_callSR C (n := 2) (m_X6_isWithin D z zo l   x1 (19 : Int32) r36 qr36) gX6_count_X6_isWithin rfl (by decide +kernel) ⟨Nat.le_of_ble_eq_true rfl, Nat.le_of_ble_eq_true rfl⟩ ⟨Nat.le_of_ble_eq_true rfl, Nat.le_of_ble_eq_true rfl⟩ (fun _ h => absurd h List.not_mem_nil) rfl rfl (Nat.le_of_ble_eq_true rfl) dX6_count_186 (st' := [.int r36]) rfl rfl ?_
                          refine lm_if_eq C (tgt := 206) dX6_count_189 (by decide) rfl (fun c37 => ?_) (fun c37 => ?_)
                          · have hF := lm_brt hF c37
                            refine lm_iconst C (v := (-1 : Int32)) dX6_count_206 (by decide) rfl ?_
                            cases hF
                            exact lm_iretR C hr hk rfl dX6_count_207
                          · have hF := lm_brf hF c37
                            refine lm_aload_n C dX6_count_192 rfl 0 rfl rfl ?_
                            refine lm_getf C (T := TX6) (N := 9) (v := .ref (a 0 0)) in6_X6_count 0 rfl rfl 0 (by decide) fl10_X6_count rfl rfl dX6_count_193 rfl ?_
                            refine lm_iload_n C dX6_count_196 rfl 1 rfl rfl ?_
                            refine lm_bipush C (v := (6 : Int32)) dX6_count_197 (by decide) rfl ?_
                            refine lm_isub C dX6_count_199 rfl rfl ?_
                            obtain ⟨r38, qr38, hF⟩ := lm_bde hF
                            refine lm_callVR C (n := 1) (ci := 4) (m_X4_tally D z zo l (a 0) (h 0) (x1 - (6 : Int32)) r38 qr38) gX6_count_X4_tally rfl (by decide +kernel) ⟨Nat.le_of_ble_eq_true rfl, Nat.le_of_ble_eq_true rfl⟩ ⟨Nat.le_of_ble_eq_true rfl, Nat.le_of_ble_eq_true rfl⟩ 5 rfl rfl (lm_s0 z zo m a h) rfl rfl (Nat.le_of_ble_eq_true rfl) dX6_count_200 (st' := [.int r38]) rfl rfl ?_
                            refine lm_goto C (tgt := 207) dX6_count_203 (by decide) ?_
                            cases hF
                            exact lm_iretR C hr hk rfl dX6_count_207
                        · have hF := lm_brf hF c35
                          rcases Classical.em (x1 = (12 : Int32)) with c39 | c39
                          · have hF := lm_brt hF c39
                            refine lm_tableIn C (12 : Int32) (off := 182) (tgt := 183) dX6_count_1 c39 (by decide) (by decide) (by decide) (by decide) ?_
                            refine lm_iload_n C dX6_count_183 rfl 1 rfl rfl ?_
                            refine lm_bipush C (v := (19 : Int32)) dX6_count_184 (by decide) rfl ?_
                            obtain ⟨r40, qr40, hF⟩ := lm_bde hF
                            refine lm_callSR C (n := 2) (m_X6_isWithin D z zo l   x1 (19 : Int32) r40 qr40) gX6_count_X6_isWithin rfl (by decide +kernel) ⟨Nat.le_of_ble_eq_true rfl, Nat.le_of_ble_eq_true rfl⟩ ⟨Nat.le_of_ble_eq_true rfl, Nat.le_of_ble_eq_true rfl⟩ (fun _ h => absurd h List.not_mem_nil) rfl rfl (Nat.le_of_ble_eq_true rfl) dX6_count_186 (st' := [.int r40]) rfl rfl ?_
                            refine lm_if_eq C (tgt := 206) dX6_count_189 (by decide) rfl (fun c41 => ?_) (fun c41 => ?_)
                            · have hF := lm_brt hF c41
                              refine lm_iconst C (v := (-1 : Int32)) dX6_count_206 (by decide) rfl ?_
                              cases hF
                              exact lm_iretR C hr hk rfl dX6_count_207
                            · have hF := lm_brf hF c41
                              refine lm_aload_n C dX6_count_192 rfl 0 rfl rfl ?_
                              refine lm_getf C (T := TX6) (N := 9) (v := .ref (a 0 0)) in6_X6_count 0 rfl rfl 0 (by decide) fl10_X6_count rfl rfl dX6_count_193 rfl ?_
                              refine lm_iload_n C dX6_count_196 rfl 1 rfl rfl ?_
                              refine lm_bipush C (v := (6 : Int32)) dX6_count_197 (by decide) rfl ?_
                              refine lm_isub C dX6_count_199 rfl rfl ?_
                              obtain ⟨r42, qr42, hF⟩ := lm_bde hF
                              refine lm_callVR C (n := 1) (ci := 4) (m_X4_tally D z zo l (a 0) (h 0) (x1 - (6 : Int32)) r42 qr42) gX6_count_X4_tally rfl (by decide +kernel) ⟨Nat.le_of_ble_eq_true rfl, Nat.le_of_ble_eq_true rfl⟩ ⟨Nat.le_of_ble_eq_true rfl, Nat.le_of_ble_eq_true rfl⟩ 5 rfl rfl (lm_s0 z zo m a h) rfl rfl (Nat.le_of_ble_eq_true rfl) dX6_count_200 (st' := [.int r42]) rfl rfl ?_
                              refine lm_goto C (tgt := 207) dX6_count_203 (by decide) ?_
                              cases hF
                              exact lm_iretR C hr hk rfl dX6_count_207
                          · have hF := lm_brf hF c39
                            rcases Classical.em (x1 = (13 : Int32)) with c43 | c43
                            · have hF := lm_brt hF c43
                              refine lm_tableIn C (13 : Int32) (off := 154) (tgt := 155) dX6_count_1 c43 (by decide) (by decide) (by decide) (by decide) ?_
                              refine lm_aload_n C dX6_count_155 rfl 0 rfl rfl ?_
                              refine lm_getf C (T := TX6) (N := 9) (v := .ref (a 0 0)) in6_X6_count 0 rfl rfl 0 (by decide) fl10_X6_count rfl rfl dX6_count_156 rfl ?_
                              refine lm_iload_n C dX6_count_159 rfl 1 rfl rfl ?_
                              refine lm_bipush C (v := (13 : Int32)) dX6_count_160 (by decide) rfl ?_
                              refine lm_isub C dX6_count_162 rfl rfl ?_
                              obtain ⟨r44, qr44, hF⟩ := lm_bde hF
                              refine lm_callVR C (n := 1) (ci := 4) (m_X4_setting D z zo l (a 0) (h 0) (x1 - (13 : Int32)) r44 qr44) gX6_count_X4_setting rfl (by decide +kernel) ⟨Nat.le_of_ble_eq_true rfl, Nat.le_of_ble_eq_true rfl⟩ ⟨Nat.le_of_ble_eq_true rfl, Nat.le_of_ble_eq_true rfl⟩ 5 rfl rfl (lm_s0 z zo m a h) rfl rfl (Nat.le_of_ble_eq_true rfl) dX6_count_163 (st' := [.int r44]) rfl rfl ?_
                              cases hF
                              exact lm_iretR C hr hk rfl dX6_count_166
                            · have hF := lm_brf hF c43
                              rcases Classical.em (x1 = (14 : Int32)) with c45 | c45
                              · have hF := lm_brt hF c45
                                refine lm_tableIn C (14 : Int32) (off := 154) (tgt := 155) dX6_count_1 c45 (by decide) (by decide) (by decide) (by decide) ?_
                                refine lm_aload_n C dX6_count_155 rfl 0 rfl rfl ?_
                                refine lm_getf C (T := TX6) (N := 9) (v := .ref (a 0 0)) in6_X6_count 0 rfl rfl 0 (by decide) fl10_X6_count rfl rfl dX6_count_156 rfl ?_
                                refine lm_iload_n C dX6_count_159 rfl 1 rfl rfl ?_
                                refine lm_bipush C (v := (13 : Int32)) dX6_count_160 (by decide) rfl ?_
                                refine lm_isub C dX6_count_162 rfl rfl ?_
                                obtain ⟨r46, qr46, hF⟩ := lm_bde hF
                                refine lm_callVR C (n := 1) (ci := 4) (m_X4_setting D z zo l (a 0) (h 0) (x1 - (13 : Int32)) r46 qr46) gX6_count_X4_setting rfl (by decide +kernel) ⟨Nat.le_of_ble_eq_true rfl, Nat.le_of_ble_eq_true rfl⟩ ⟨Nat.le_of_ble_eq_true rfl, Nat.le_of_ble_eq_true rfl⟩ 5 rfl rfl (lm_s0 z zo m a h) rfl rfl (Nat.le_of_ble_eq_true rfl) dX6_count_163 (st' := [.int r46]) rfl rfl ?_
                                cases hF
                                exact lm_iretR C hr hk rfl dX6_count_166
                              · have hF := lm_brf hF c45
                                rcases Classical.em (x1 = (15 : Int32)) with c47 | c47
                                · have hF := lm_brt hF c47
                                  refine lm_tableIn C (15 : Int32) (off := 154) (tgt := 155) dX6_count_1 c47 (by decide) (by decide) (by decide) (by decide) ?_
                                  refine lm_aload_n C dX6_count_155 rfl 0 rfl rfl ?_
                                  refine lm_getf C (T := TX6) (N := 9) (v := .ref (a 0 0)) in6_X6_count 0 rfl rfl 0 (by decide) fl10_X6_count rfl rfl dX6_count_156 rfl ?_
                                  refine lm_iload_n C dX6_count_159 rfl 1 rfl rfl ?_
                                  refine lm_bipush C (v := (13 : Int32)) dX6_count_160 (by decide) rfl ?_
                                  refine lm_isub C dX6_count_162 rfl rfl ?_
                                  obtain ⟨r48, qr48, hF⟩ := lm_bde hF
                                  refine lm_callVR C (n := 1) (ci := 4) (m_X4_setting D z zo l (a 0) (h 0) (x1 - (13 : Int32)) r48 qr48) gX6_count_X4_setting rfl (by decide +kernel) ⟨Nat.le_of_ble_eq_true rfl, Nat.le_of_ble_eq_true rfl⟩ ⟨Nat.le_of_ble_eq_true rfl, Nat.le_of_ble_eq_true rfl⟩ 5 rfl rfl (lm_s0 z zo m a h) rfl rfl (Nat.le_of_ble_eq_true rfl) dX6_count_163 (st' := [.int r48]) rfl rfl ?_
                                  cases hF
                                  exact lm_iretR C hr hk rfl dX6_count_166
                                · have hF := lm_brf hF c47
                                  rcases Classical.em (x1 = (16 : Int32)) with c49 | c49
                                  · have hF := lm_brt hF c49
                                    refine lm_tableIn C (16 : Int32) (off := 154) (tgt := 155) dX6_count_1 c49 (by decide) (by decide) (by decide) (by decide) ?_
                                    refine lm_aload_n C dX6_count_155 rfl 0 rfl rfl ?_
                                    refine lm_getf C (T := TX6) (N := 9) (v := .ref (a 0 0)) in6_X6_count 0 rfl rfl 0 (by decide) fl10_X6_count rfl rfl dX6_count_156 rfl ?_
                                    refine lm_iload_n C dX6_count_159 rfl 1 rfl rfl ?_
                                    refine lm_bipush C (v := (13 : Int32)) dX6_count_160 (by decide) rfl ?_
                                    refine lm_isub C dX6_count_162 rfl rfl ?_
                                    obtain ⟨r50, qr50, hF⟩ := lm_bde hF
                                    refine lm_callVR C (n := 1) (ci := 4) (m_X4_setting D z zo l (a 0) (h 0) (x1 - (13 : Int32)) r50 qr50) gX6_count_X4_setting rfl (by decide +kernel) ⟨Nat.le_of_ble_eq_true rfl, Nat.le_of_ble_eq_true rfl⟩ ⟨Nat.le_of_ble_eq_true rfl, Nat.le_of_ble_eq_true rfl⟩ 5 rfl rfl (lm_s0 z zo m a h) rfl rfl (Nat.le_of_ble_eq_true rfl) dX6_count_163 (st' := [.int r50]) rfl rfl ?_
                                    cases hF
                                    exact lm_iretR C hr hk rfl dX6_count_166
                                  · have hF := lm_brf hF c49
                                    rcases Classical.em (x1 = (17 : Int32)) with c51 | c51
                                    · have hF := lm_brt hF c51
                                      refine lm_tableIn C (17 : Int32) (off := 154) (tgt := 155) dX6_count_1 c51 (by decide) (by decide) (by decide) (by decide) ?_
                                      refine lm_aload_n C dX6_count_155 rfl 0 rfl rfl ?_
                                      refine lm_getf C (T := TX6) (N := 9) (v := .ref (a 0 0)) in6_X6_count 0 rfl rfl 0 (by decide) fl10_X6_count rfl rfl dX6_count_156 rfl ?_
                                      refine lm_iload_n C dX6_count_159 rfl 1 rfl rfl ?_
                                      refine lm_bipush C (v := (13 : Int32)) dX6_count_160 (by decide) rfl ?_
                                      refine lm_isub C dX6_count_162 rfl rfl ?_
                                      obtain ⟨r52, qr52, hF⟩ := lm_bde hF
                                      refine lm_callVR C (n := 1) (ci := 4) (m_X4_setting D z zo l (a 0) (h 0) (x1 - (13 : Int32)) r52 qr52) gX6_count_X4_setting rfl (by decide +kernel) ⟨Nat.le_of_ble_eq_true rfl, Nat.le_of_ble_eq_true rfl⟩ ⟨Nat.le_of_ble_eq_true rfl, Nat.le_of_ble_eq_true rfl⟩ 5 rfl rfl (lm_s0 z zo m a h) rfl rfl (Nat.le_of_ble_eq_true rfl) dX6_count_163 (st' := [.int r52]) rfl rfl ?_
                                      cases hF
                                      exact lm_iretR C hr hk rfl dX6_count_166
                                    · have hF := lm_brf hF c51
                                      rcases Classical.em (x1 = (18 : Int32)) with c53 | c53
                                      · have hF := lm_brt hF c53
                                        refine lm_tableIn C (18 : Int32) (off := 166) (tgt := 167) dX6_count_1 c53 (by decide) (by decide) (by decide) (by decide) ?_
                                        refine lm_aload_n C dX6_count_167 rfl 0 rfl rfl ?_
                                        refine lm_getf C (T := TX6) (N := 9) (v := .ref (m 1)) in6_X6_count 0 rfl rfl 4 (by decide) fl32_X6_count rfl rfl dX6_count_168 rfl ?_
                                        obtain ⟨r54, qr54, hF⟩ := lm_bde hF
                                        refine lm_callVR C (n := 0) (ci := 3) (m_X3_size D z zo l (lm_sh 1 m) (lm_sh 1 (h 8))  r54 qr54) gX6_count_X3_size rfl (by decide +kernel) ⟨Nat.le_of_ble_eq_true rfl, Nat.le_of_ble_eq_true rfl⟩ ⟨Nat.le_of_ble_eq_true rfl, Nat.le_of_ble_eq_true rfl⟩ 1 rfl rfl (lm_sP z zo m a h) rfl rfl (Nat.le_of_ble_eq_true rfl) dX6_count_171 (st' := [.int r54]) rfl rfl ?_
                                        cases hF
                                        exact lm_iretR C hr hk rfl dX6_count_174
                                      · have hF := lm_brf hF c53
                                        rcases Classical.em (x1 = (19 : Int32)) with c55 | c55
                                        · have hF := lm_brt hF c55
                                          refine lm_tableIn C (19 : Int32) (off := 174) (tgt := 175) dX6_count_1 c55 (by decide) (by decide) (by decide) (by decide) ?_
                                          refine lm_aload_n C dX6_count_175 rfl 0 rfl rfl ?_
                                          refine lm_getf C (T := TX6) (N := 9) (v := .ref (m 3)) in6_X6_count 0 rfl rfl 3 (by decide) fl25_X6_count rfl rfl dX6_count_176 rfl ?_
                                          obtain ⟨r56, qr56, hF⟩ := lm_bde hF
                                          refine lm_callVR C (n := 0) (ci := 1) (m_X1_size D z zo l m a h  r56 qr56) gX6_count_X1_size rfl (by decide +kernel) ⟨Nat.le_of_ble_eq_true rfl, Nat.le_of_ble_eq_true rfl⟩ ⟨Nat.le_of_ble_eq_true rfl, Nat.le_of_ble_eq_true rfl⟩ 3 rfl rfl (fun _ h => h) rfl rfl (Nat.le_of_ble_eq_true rfl) dX6_count_179 (st' := [.int r56]) rfl rfl ?_
                                          cases hF
                                          exact lm_iretR C hr hk rfl dX6_count_182
                                        · have hF := lm_brf hF c55
                                          refine lm_tableOut C (tgt := 183) dX6_count_1 (by have nc1 := lv_neT c1 (a := 0) (by decide); have nc4 := lv_neT c4 (a := 1) (by decide); have nc7 := lv_neT c7 (a := 2) (by decide); have nc9 := lv_neT c9 (a := 3) (by decide); have nc11 := lv_neT c11 (a := 4) (by decide); have nc13 := lv_neT c13 (a := 5) (by decide); have nc15 := lv_neT c15 (a := 6) (by decide); have nc19 := lv_neT c19 (a := 7) (by decide); have nc23 := lv_neT c23 (a := 8) (by decide); have nc27 := lv_neT c27 (a := 9) (by decide); have nc31 := lv_neT c31 (a := 10) (by decide); have nc35 := lv_neT c35 (a := 11) (by decide); have nc39 := lv_neT c39 (a := 12) (by decide); have nc43 := lv_neT c43 (a := 13) (by decide); have nc45 := lv_neT c45 (a := 14) (by decide); have nc47 := lv_neT c47 (a := 15) (by decide); have nc49 := lv_neT c49 (a := 16) (by decide); have nc51 := lv_neT c51 (a := 17) (by decide); have nc53 := lv_neT c53 (a := 18) (by decide); have nc55 := lv_neT c55 (a := 19) (by decide); omega) (by decide) ?_
                                          refine lm_iload_n C dX6_count_183 rfl 1 rfl rfl ?_
                                          refine lm_bipush C (v := (19 : Int32)) dX6_count_184 (by decide) rfl ?_
                                          obtain ⟨r57, qr57, hF⟩ := lm_bde hF
                                          refine lm_callSR C (n := 2) (m_X6_isWithin D z zo l   x1 (19 : Int32) r57 qr57) gX6_count_X6_isWithin rfl (by decide +kernel) ⟨Nat.le_of_ble_eq_true rfl, Nat.le_of_ble_eq_true rfl⟩ ⟨Nat.le_of_ble_eq_true rfl, Nat.le_of_ble_eq_true rfl⟩ (fun _ h => absurd h List.not_mem_nil) rfl rfl (Nat.le_of_ble_eq_true rfl) dX6_count_186 (st' := [.int r57]) rfl rfl ?_
                                          refine lm_if_eq C (tgt := 206) dX6_count_189 (by decide) rfl (fun c58 => ?_) (fun c58 => ?_)
                                          · have hF := lm_brt hF c58
                                            refine lm_iconst C (v := (-1 : Int32)) dX6_count_206 (by decide) rfl ?_
                                            cases hF
                                            exact lm_iretR C hr hk rfl dX6_count_207
                                          · have hF := lm_brf hF c58
                                            refine lm_aload_n C dX6_count_192 rfl 0 rfl rfl ?_
                                            refine lm_getf C (T := TX6) (N := 9) (v := .ref (a 0 0)) in6_X6_count 0 rfl rfl 0 (by decide) fl10_X6_count rfl rfl dX6_count_193 rfl ?_
                                            refine lm_iload_n C dX6_count_196 rfl 1 rfl rfl ?_
                                            refine lm_bipush C (v := (6 : Int32)) dX6_count_197 (by decide) rfl ?_
                                            refine lm_isub C dX6_count_199 rfl rfl ?_
                                            obtain ⟨r59, qr59, hF⟩ := lm_bde hF
                                            refine lm_callVR C (n := 1) (ci := 4) (m_X4_tally D z zo l (a 0) (h 0) (x1 - (6 : Int32)) r59 qr59) gX6_count_X4_tally rfl (by decide +kernel) ⟨Nat.le_of_ble_eq_true rfl, Nat.le_of_ble_eq_true rfl⟩ ⟨Nat.le_of_ble_eq_true rfl, Nat.le_of_ble_eq_true rfl⟩ 5 rfl rfl (lm_s0 z zo m a h) rfl rfl (Nat.le_of_ble_eq_true rfl) dX6_count_200 (st' := [.int r59]) rfl rfl ?_
                                            refine lm_goto C (tgt := 207) dX6_count_203 (by decide) ?_
                                            cases hF
                                            exact lm_iretR C hr hk rfl dX6_count_207
def F_X6_total (h : Nat → Hp) (x1 : Int32) : Option Int32 :=
  lm_bd (F_X6_isWithin x1 (1 : Int32)) fun r1 =>
  lm_br (¬ r1 = 0)
   (lm_br (¬ x1 = 0)
    (lm_bd (F_X4_totalByRows (h 0)) fun r4 =>
    some r4)
    (lm_bd (F_X4_totalByAnswers (h 0)) fun r5 =>
    some r5))
   (some (-1 : Int32))
theorem in6_X6_total : ∀ w ∈ u_ws RX6 TX6 9, w ∈ wsX6_total := by decide +kernel
theorem fl10_X6_total : Cond.fieldLink RX6 10 "LoopMemo" "now" "LLoopMemo$State;" ∈ wsX6_total := by decide +kernel
set_option maxRecDepth 100000 in
set_option maxHeartbeats 4000000 in
theorem m_X6_total (D : va_G) (z zo : ClassId) (l : Launch) (m : Nat → Nat) (a : Nat → Nat → Nat) (h : Nat → Hp) (x1 : Int32) (r : Int32)  (hF : F_X6_total h x1 = some r) : lm_CR D z zo l yX6_total wsX6_total 2 44 [.ref (m 0), .int x1] (lmW z zo m a h) (some (.int r)) := by
  refine lm_CR.of (by decide) rfl (Nat.le_of_ble_eq_true rfl) (own := RX6) rfl ?_
  intro p e s m_ args below meth c C hr hk
  show lm_St p l e ({ frames := 2, cells := 0, slots := 0, locals := 44 }) s m_ args below meth c D (fun _ => False) 2 0 0 (lm_EndR below (some (.int r)) args s) true (lmW z zo m a h) 0 [(0, .ref (m 0)), (1, .int x1)] []
  rw [F_X6_total] at hF
  refine lm_iload_n C dX6_total_0 rfl 1 rfl rfl ?_
  refine lm_iconst C (v := (1 : Int32)) dX6_total_1 (by decide) rfl ?_
  obtain ⟨r1, qr1, hF⟩ := lm_bde hF
  refine lm_callSR C (n := 2) (m_X6_isWithin D z zo l   x1 (1 : Int32) r1 qr1) gX6_total_X6_isWithin rfl (by decide +kernel) ⟨Nat.le_of_ble_eq_true rfl, Nat.le_of_ble_eq_true rfl⟩ ⟨Nat.le_of_ble_eq_true rfl, Nat.le_of_ble_eq_true rfl⟩ (fun _ h => absurd h List.not_mem_nil) rfl rfl (Nat.le_of_ble_eq_true rfl) dX6_total_2 (st' := [.int r1]) rfl rfl ?_
  refine lm_if_ne C (tgt := 10) dX6_total_5 (by decide) rfl (fun c2 => ?_) (fun c2 => ?_)
  · have hF := lm_brt hF c2
    refine lm_iload_n C dX6_total_10 rfl 1 rfl rfl ?_
    refine lm_if_ne C (tgt := 24) dX6_total_11 (by decide) rfl (fun c3 => ?_) (fun c3 => ?_)
    · have hF := lm_brt hF c3
      refine lm_aload_n C dX6_total_24 rfl 0 rfl rfl ?_
      refine lm_getf C (T := TX6) (N := 9) (v := .ref (a 0 0)) in6_X6_total 0 rfl rfl 0 (by decide) fl10_X6_total rfl rfl dX6_total_25 rfl ?_
      obtain ⟨r4, qr4, hF⟩ := lm_bde hF
      refine lm_callVR C (n := 0) (ci := 4) (m_X4_totalByRows D z zo l (a 0) (h 0)  r4 qr4) gX6_total_X4_totalByRows rfl (by decide +kernel) ⟨Nat.le_of_ble_eq_true rfl, Nat.le_of_ble_eq_true rfl⟩ ⟨Nat.le_of_ble_eq_true rfl, Nat.le_of_ble_eq_true rfl⟩ 5 rfl rfl (lm_s0 z zo m a h) rfl rfl (Nat.le_of_ble_eq_true rfl) dX6_total_28 (st' := [.int r4]) rfl rfl ?_
      cases hF
      exact lm_iretR C hr hk rfl dX6_total_31
    · have hF := lm_brf hF c3
      refine lm_aload_n C dX6_total_14 rfl 0 rfl rfl ?_
      refine lm_getf C (T := TX6) (N := 9) (v := .ref (a 0 0)) in6_X6_total 0 rfl rfl 0 (by decide) fl10_X6_total rfl rfl dX6_total_15 rfl ?_
      obtain ⟨r5, qr5, hF⟩ := lm_bde hF
      refine lm_callVR C (n := 0) (ci := 4) (m_X4_totalByAnswers D z zo l (a 0) (h 0)  r5 qr5) gX6_total_X4_totalByAnswers rfl (by decide +kernel) ⟨Nat.le_of_ble_eq_true rfl, Nat.le_of_ble_eq_true rfl⟩ ⟨Nat.le_of_ble_eq_true rfl, Nat.le_of_ble_eq_true rfl⟩ 5 rfl rfl (lm_s0 z zo m a h) rfl rfl (Nat.le_of_ble_eq_true rfl) dX6_total_18 (st' := [.int r5]) rfl rfl ?_
      refine lm_goto C (tgt := 31) dX6_total_21 (by decide) ?_
      cases hF
      exact lm_iretR C hr hk rfl dX6_total_31
  · have hF := lm_brf hF c2
    refine lm_iconst C (v := (-1 : Int32)) dX6_total_8 (by decide) rfl ?_
    cases hF
    exact lm_iretR C hr hk rfl dX6_total_9
end
