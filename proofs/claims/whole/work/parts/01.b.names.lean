/-! ===== BEGIN words of one list among another's, by their places ===== -/
theorem goodIn_r {big : List Cond} (ws : List Cond) (ps : List Nat) (hp : ws = ps.filterMap (fun i => big[i]?)) (h : ws.all goodWord = true) : GoodIn big ws := by
  intro w hw
  have h1 := List.all_eq_true.mp h w hw
  rw [hp] at hw
  obtain ⟨i, -, hi⟩ := List.mem_filterMap.mp hw
  have hm : w ∈ big := by first | exact List.mem_of_getElem? hi | exact List.getElem?_mem hi
  exact ⟨hm, good_of_word h1⟩
theorem goodIn_app {big a b : List Cond} (ha : GoodIn big a) (hb : GoodIn big b) : GoodIn big (a ++ b) := fun w h => (List.mem_append.mp h).elim (ha w) (hb w)
theorem goodIn_ca {big a b : List Cond} {c : Cond} (ha : GoodIn big (c :: a)) (hb : GoodIn big b) : GoodIn big (c :: (a ++ b)) := fun w h => (List.mem_cons.mp h).elim (fun e => ha w (List.mem_cons.mpr (Or.inl e))) (fun h => (List.mem_append.mp h).elim (fun h => ha w (List.mem_cons.mpr (Or.inr h))) (hb w))
theorem goodIn_sub {big ws : List Cond} (hm : ∀ w ∈ ws, w ∈ big) (h : ws.all goodWord = true) : GoodIn big ws := fun w hw => ⟨hm w hw, good_of_word (List.all_eq_true.mp h w hw)⟩
/-! ===== END ===== -/

/-! ===== BEGIN printed: names, fields, word lists, decode rows ===== -/
def RX0 : String := "MeltingMarks$Ahead"
def TX0 : u_T := fun k => match k with
  | 0 => ("MeltingMarks$Ahead", "worlds", "[LMeltingMarks$World;", true)
  | 1 => ("MeltingMarks$Ahead", "hungerBefore", "J", false)
  | 2 => ("MeltingMarks$Ahead", "bestHunger", "J", false)
  | 3 => ("MeltingMarks$Ahead", "bestPrice", "J", false)
  | 4 => ("MeltingMarks$Ahead", "bestTaxes", "I", false)
  | _ => ("MeltingMarks$Ahead", "bestNumber", "I", false)
def tyX0 : Nat → FieldType := fun k => match k with
  | 0 => .array (.object "MeltingMarks$World")
  | 1 => .long
  | 2 => .long
  | 3 => .long
  | 4 => .int
  | _ => .int
abbrev wsX00 : List Cond := u_ws RX0 TX0 6
theorem nmX0 : ∀ a, a < 6 → ∀ b, b < 6 → a ≠ b → (TX0 a).2.1 ≠ (TX0 b).2.1 := by decide +kernel
theorem tyX0_ok : ∀ k, k < 6 → parseFieldDescriptor (TX0 k).2.2.1 = some (tyX0 k) := by decide +kernel
abbrev cX0_init : ByteArray := prog_2_method_1_code
def yX0_init : MethodName := ⟨RX0, "<init>", "(LMeltingMarks$Laws;[JLMeltingMarks$Judge;LMeltingMarks$Market;)V"⟩
abbrev cX0_printedIn : ByteArray := prog_2_method_2_code
def yX0_printedIn : MethodName := ⟨RX0, "printedIn", "(LMeltingMarks$World;I)J"⟩
abbrev cX0_daysToMelting : ByteArray := prog_2_method_3_code
def yX0_daysToMelting : MethodName := ⟨RX0, "daysToMelting", "(LMeltingMarks$World;I)I"⟩
abbrev cX0_priceWith : ByteArray := prog_2_method_4_code
def yX0_priceWith : MethodName := ⟨RX0, "priceWith", "(LMeltingMarks$World;IJI)J"⟩
abbrev cX0_hungerBy : ByteArray := prog_2_method_5_code
def yX0_hungerBy : MethodName := ⟨RX0, "hungerBy", "(LMeltingMarks$World;LMeltingMarks$Sheet;)J"⟩
abbrev cX0_beginSearch : ByteArray := prog_2_method_6_code
def yX0_beginSearch : MethodName := ⟨RX0, "beginSearch", "(LMeltingMarks$World;)V"⟩
abbrev cX0_search : ByteArray := prog_2_method_7_code
def yX0_search : MethodName := ⟨RX0, "search", "(III)V"⟩
abbrev cX0_weigh : ByteArray := prog_2_method_8_code
def yX0_weigh : MethodName := ⟨RX0, "weigh", "(LMeltingMarks$World;I)V"⟩
abbrev cX0_isBetter : ByteArray := prog_2_method_9_code
def yX0_isBetter : MethodName := ⟨RX0, "isBetter", "(JJII)Z"⟩
def RX1 : String := "MeltingMarks$Code"
def TX1 : u_T := fun k => match k with
  | 0 => ("MeltingMarks$Code", "steps", "[I", true)
  | 1 => ("MeltingMarks$Code", "rentAt", "I", true)
  | _ => ("MeltingMarks$Code", "wageAt", "I", true)
def tyX1 : Nat → FieldType := fun k => match k with
  | 0 => .array .int
  | 1 => .int
  | _ => .int
abbrev wsX10 : List Cond := u_ws RX1 TX1 3
theorem nmX1 : ∀ a, a < 3 → ∀ b, b < 3 → a ≠ b → (TX1 a).2.1 ≠ (TX1 b).2.1 := by decide +kernel
theorem tyX1_ok : ∀ k, k < 3 → parseFieldDescriptor (TX1 k).2.2.1 = some (tyX1 k) := by decide +kernel
abbrev cX1_init : ByteArray := prog_3_method_1_code
def yX1_init : MethodName := ⟨RX1, "<init>", "([III)V"⟩
abbrev cX1_startFor : ByteArray := prog_3_method_2_code
def yX1_startFor : MethodName := ⟨RX1, "startFor", "(I)I"⟩
abbrev cX1_endFor : ByteArray := prog_3_method_3_code
def yX1_endFor : MethodName := ⟨RX1, "endFor", "(I)I"⟩
abbrev cX1_run : ByteArray := prog_3_method_4_code
def yX1_run : MethodName := ⟨RX1, "run", "(I[J[J)J"⟩
abbrev cX1_join : ByteArray := prog_3_method_5_code
def yX1_join : MethodName := ⟨RX1, "join", "(IJJ)J"⟩
def RX2 : String := "MeltingMarks$Judge"
def TX2 : u_T := fun k => match k with
  | 0 => ("MeltingMarks$Judge", "names", "[J", true)
  | _ => ("MeltingMarks$Judge", "waiting", "[J", true)
def tyX2 : Nat → FieldType := fun k => match k with
  | 0 => .array .long
  | _ => .array .long
abbrev wsX20 : List Cond := u_ws RX2 TX2 2
theorem nmX2 : ∀ a, a < 2 → ∀ b, b < 2 → a ≠ b → (TX2 a).2.1 ≠ (TX2 b).2.1 := by decide +kernel
theorem tyX2_ok : ∀ k, k < 2 → parseFieldDescriptor (TX2 k).2.2.1 = some (tyX2 k) := by decide +kernel
abbrev cX2_init : ByteArray := prog_4_method_1_code
def yX2_init : MethodName := ⟨RX2, "<init>", "()V"⟩
abbrev cX2_rule : ByteArray := prog_4_method_2_code
def yX2_rule : MethodName := ⟨RX2, "rule", "(LMeltingMarks$World;LMeltingMarks$Paper;I)J"⟩
abbrev cX2_goldIn : ByteArray := prog_4_method_3_code
def yX2_goldIn : MethodName := ⟨RX2, "goldIn", "(JJ)J"⟩
abbrev cX2_fillNames : ByteArray := prog_4_method_4_code
def yX2_fillNames : MethodName := ⟨RX2, "fillNames", "(LMeltingMarks$World;LMeltingMarks$Paper;)V"⟩
def RX3 : String := "MeltingMarks$Laws"
def TX3 : u_T := fun k => match k with
  | 0 => ("MeltingMarks$Laws", "texts", "[LMeltingMarks$Code;", true)
  | 1 => ("MeltingMarks$Laws", "codes", "[LMeltingMarks$Code;", true)
  | 2 => ("MeltingMarks$Laws", "courts", "[I", true)
  | 3 => ("MeltingMarks$Laws", "from", "[I", true)
  | _ => ("MeltingMarks$Laws", "made", "I", false)
def tyX3 : Nat → FieldType := fun k => match k with
  | 0 => .array (.object "MeltingMarks$Code")
  | 1 => .array (.object "MeltingMarks$Code")
  | 2 => .array .int
  | 3 => .array .int
  | _ => .int
abbrev wsX30 : List Cond := u_ws RX3 TX3 5
theorem nmX3 : ∀ a, a < 5 → ∀ b, b < 5 → a ≠ b → (TX3 a).2.1 ≠ (TX3 b).2.1 := by decide +kernel
theorem tyX3_ok : ∀ k, k < 5 → parseFieldDescriptor (TX3 k).2.2.1 = some (tyX3 k) := by decide +kernel
abbrev cX3_init : ByteArray := prog_5_method_1_code
def yX3_init : MethodName := ⟨RX3, "<init>", "()V"⟩
abbrev cX3_take : ByteArray := prog_5_method_2_code
def yX3_take : MethodName := ⟨RX3, "take", "(LMeltingMarks$Laws;)V"⟩
abbrev cX3_enact : ByteArray := prog_5_method_3_code
def yX3_enact : MethodName := ⟨RX3, "enact", "(LMeltingMarks$Code;II)I"⟩
abbrev cX3_latest : ByteArray := prog_5_method_4_code
def yX3_latest : MethodName := ⟨RX3, "latest", "(II)I"⟩
def RX4 : String := "MeltingMarks$Market"
def TX4 : u_T := fun k => match k with
  | 0 => ("MeltingMarks$Market", "asks", "[J", true)
  | _ => ("MeltingMarks$Market", "offers", "[I", true)
def tyX4 : Nat → FieldType := fun k => match k with
  | 0 => .array .long
  | _ => .array .int
abbrev wsX40 : List Cond := u_ws RX4 TX4 2
theorem nmX4 : ∀ a, a < 2 → ∀ b, b < 2 → a ≠ b → (TX4 a).2.1 ≠ (TX4 b).2.1 := by decide +kernel
theorem tyX4_ok : ∀ k, k < 2 → parseFieldDescriptor (TX4 k).2.2.1 = some (tyX4 k) := by decide +kernel
abbrev cX4_init : ByteArray := prog_6_method_1_code
def yX4_init : MethodName := ⟨RX4, "<init>", "()V"⟩
abbrev cX4_hold : ByteArray := prog_6_method_2_code
def yX4_hold : MethodName := ⟨RX4, "hold", "(LMeltingMarks$World;)J"⟩
abbrev cX4_buyFor : ByteArray := prog_6_method_3_code
def yX4_buyFor : MethodName := ⟨RX4, "buyFor", "(LMeltingMarks$World;IJ)V"⟩
def RX5 : String := "MeltingMarks$Paper"
def TX5 : u_T := fun k => match k with
  | 0 => ("MeltingMarks$Paper", "kind", "I", false)
  | 1 => ("MeltingMarks$Paper", "by", "I", false)
  | 2 => ("MeltingMarks$Paper", "to", "I", false)
  | 3 => ("MeltingMarks$Paper", "sum", "J", false)
  | 4 => ("MeltingMarks$Paper", "since", "I", false)
  | 5 => ("MeltingMarks$Paper", "due", "I", false)
  | _ => ("MeltingMarks$Paper", "state", "I", false)
def tyX5 : Nat → FieldType := fun k => match k with
  | 0 => .int
  | 1 => .int
  | 2 => .int
  | 3 => .long
  | 4 => .int
  | 5 => .int
  | _ => .int
abbrev wsX50 : List Cond := u_ws RX5 TX5 7
theorem nmX5 : ∀ a, a < 7 → ∀ b, b < 7 → a ≠ b → (TX5 a).2.1 ≠ (TX5 b).2.1 := by decide +kernel
theorem tyX5_ok : ∀ k, k < 7 → parseFieldDescriptor (TX5 k).2.2.1 = some (tyX5 k) := by decide +kernel
abbrev cX5_init : ByteArray := prog_7_method_1_code
def yX5_init : MethodName := ⟨RX5, "<init>", "()V"⟩
abbrev cX5_take : ByteArray := prog_7_method_2_code
def yX5_take : MethodName := ⟨RX5, "take", "(LMeltingMarks$Paper;)V"⟩
abbrev cX5_isOpen : ByteArray := prog_7_method_3_code
def yX5_isOpen : MethodName := ⟨RX5, "isOpen", "()Z"⟩
abbrev cX5_isPaidAtOnce : ByteArray := prog_7_method_4_code
def yX5_isPaidAtOnce : MethodName := ⟨RX5, "isPaidAtOnce", "()Z"⟩
abbrev cX5_isUnder : ByteArray := prog_7_method_5_code
def yX5_isUnder : MethodName := ⟨RX5, "isUnder", "(I)Z"⟩
abbrev cX5_isPayDay : ByteArray := prog_7_method_6_code
def yX5_isPayDay : MethodName := ⟨RX5, "isPayDay", "(I)Z"⟩
abbrev cX5_endsOn : ByteArray := prog_7_method_7_code
def yX5_endsOn : MethodName := ⟨RX5, "endsOn", "(I)Z"⟩
abbrev cX5_tell : ByteArray := prog_7_method_8_code
def yX5_tell : MethodName := ⟨RX5, "tell", "(I)J"⟩
def RX6 : String := "MeltingMarks$Person"
def TX6 : u_T := fun k => match k with
  | 0 => ("MeltingMarks$Person", "marks", "J", false)
  | 1 => ("MeltingMarks$Person", "loaves", "I", false)
  | 2 => ("MeltingMarks$Person", "bakes", "I", false)
  | 3 => ("MeltingMarks$Person", "spend", "I", false)
  | 4 => ("MeltingMarks$Person", "keep", "I", false)
  | 5 => ("MeltingMarks$Person", "hungered", "I", false)
  | 6 => ("MeltingMarks$Person", "sold", "J", false)
  | 7 => ("MeltingMarks$Person", "bought", "J", false)
  | 8 => ("MeltingMarks$Person", "gained", "J", false)
  | _ => ("MeltingMarks$Person", "lost", "J", false)
def tyX6 : Nat → FieldType := fun k => match k with
  | 0 => .long
  | 1 => .int
  | 2 => .int
  | 3 => .int
  | 4 => .int
  | 5 => .int
  | 6 => .long
  | 7 => .long
  | 8 => .long
  | _ => .long
abbrev wsX60 : List Cond := u_ws RX6 TX6 10
theorem nmX6 : ∀ a, a < 10 → ∀ b, b < 10 → a ≠ b → (TX6 a).2.1 ≠ (TX6 b).2.1 := by decide +kernel
theorem tyX6_ok : ∀ k, k < 10 → parseFieldDescriptor (TX6 k).2.2.1 = some (tyX6 k) := by decide +kernel
abbrev cX6_init : ByteArray := prog_8_method_1_code
def yX6_init : MethodName := ⟨RX6, "<init>", "()V"⟩
abbrev cX6_begin : ByteArray := prog_8_method_2_code
def yX6_begin : MethodName := ⟨RX6, "begin", "(JII)V"⟩
abbrev cX6_take : ByteArray := prog_8_method_3_code
def yX6_take : MethodName := ⟨RX6, "take", "(LMeltingMarks$Person;)V"⟩
abbrev cX6_changeHabit : ByteArray := prog_8_method_4_code
def yX6_changeHabit : MethodName := ⟨RX6, "changeHabit", "(II)I"⟩
abbrev cX6_tell : ByteArray := prog_8_method_5_code
def yX6_tell : MethodName := ⟨RX6, "tell", "(I)J"⟩
abbrev cX6_bakeLoaves : ByteArray := prog_8_method_6_code
def yX6_bakeLoaves : MethodName := ⟨RX6, "bakeLoaves", "()V"⟩
abbrev cX6_eatLoaf : ByteArray := prog_8_method_7_code
def yX6_eatLoaf : MethodName := ⟨RX6, "eatLoaf", "()V"⟩
def RX7 : String := "MeltingMarks$Reader"
def TX7 : u_T := fun k => match k with
  | 0 => ("MeltingMarks$Reader", "tape", "[B", true)
  | 1 => ("MeltingMarks$Reader", "steps", "[I", true)
  | 2 => ("MeltingMarks$Reader", "length", "I", false)
  | 3 => ("MeltingMarks$Reader", "made", "I", false)
  | 4 => ("MeltingMarks$Reader", "place", "I", false)
  | 5 => ("MeltingMarks$Reader", "token", "I", false)
  | 6 => ("MeltingMarks$Reader", "tokenAt", "I", false)
  | _ => ("MeltingMarks$Reader", "fault", "I", false)
def tyX7 : Nat → FieldType := fun k => match k with
  | 0 => .array .byte
  | 1 => .array .int
  | 2 => .int
  | 3 => .int
  | 4 => .int
  | 5 => .int
  | 6 => .int
  | _ => .int
abbrev wsX70 : List Cond := u_ws RX7 TX7 8
theorem nmX7 : ∀ a, a < 8 → ∀ b, b < 8 → a ≠ b → (TX7 a).2.1 ≠ (TX7 b).2.1 := by decide +kernel
theorem tyX7_ok : ∀ k, k < 8 → parseFieldDescriptor (TX7 k).2.2.1 = some (tyX7 k) := by decide +kernel
abbrev cX7_init : ByteArray := prog_9_method_1_code
def yX7_init : MethodName := ⟨RX7, "<init>", "()V"⟩
abbrev cX7_append : ByteArray := prog_9_method_2_code
def yX7_append : MethodName := ⟨RX7, "append", "(IJ)V"⟩
abbrev cX7_readTape : ByteArray := prog_9_method_3_code
def yX7_readTape : MethodName := ⟨RX7, "readTape", "()LMeltingMarks$Code;"⟩
abbrev cX7_readClause : ByteArray := prog_9_method_4_code
def yX7_readClause : MethodName := ⟨RX7, "readClause", "(I)V"⟩
abbrev cX7_readOr : ByteArray := prog_9_method_5_code
def yX7_readOr : MethodName := ⟨RX7, "readOr", "(I)V"⟩
abbrev cX7_readAnd : ByteArray := prog_9_method_6_code
def yX7_readAnd : MethodName := ⟨RX7, "readAnd", "(I)V"⟩
abbrev cX7_readNot : ByteArray := prog_9_method_7_code
def yX7_readNot : MethodName := ⟨RX7, "readNot", "(I)V"⟩
abbrev cX7_readSum : ByteArray := prog_9_method_8_code
def yX7_readSum : MethodName := ⟨RX7, "readSum", "(I)V"⟩
abbrev cX7_readOne : ByteArray := prog_9_method_9_code
def yX7_readOne : MethodName := ⟨RX7, "readOne", "(I)V"⟩
abbrev cX7_readValue : ByteArray := prog_9_method_10_code
def yX7_readValue : MethodName := ⟨RX7, "readValue", "(I)V"⟩
abbrev cX7_expect : ByteArray := prog_9_method_11_code
def yX7_expect : MethodName := ⟨RX7, "expect", "(I)V"⟩
abbrev cX7_refuse : ByteArray := prog_9_method_12_code
def yX7_refuse : MethodName := ⟨RX7, "refuse", "()V"⟩
abbrev cX7_emit : ByteArray := prog_9_method_13_code
def yX7_emit : MethodName := ⟨RX7, "emit", "(I)V"⟩
abbrev cX7_advance : ByteArray := prog_9_method_14_code
def yX7_advance : MethodName := ⟨RX7, "advance", "()V"⟩
abbrev cX7_nextWord : ByteArray := prog_9_method_15_code
def yX7_nextWord : MethodName := ⟨RX7, "nextWord", "()I"⟩
abbrev cX7_isWord : ByteArray := prog_9_method_16_code
def yX7_isWord : MethodName := ⟨RX7, "isWord", "(III)Z"⟩
abbrev cX7_nextNumber : ByteArray := prog_9_method_17_code
def yX7_nextNumber : MethodName := ⟨RX7, "nextNumber", "()I"⟩
abbrev cX7_nextSign : ByteArray := prog_9_method_18_code
def yX7_nextSign : MethodName := ⟨RX7, "nextSign", "()I"⟩
abbrev cX7_isLetter : ByteArray := prog_9_method_19_code
def yX7_isLetter : MethodName := ⟨RX7, "isLetter", "(B)Z"⟩
abbrev cX7_isDigit : ByteArray := prog_9_method_20_code
def yX7_isDigit : MethodName := ⟨RX7, "isDigit", "(B)Z"⟩
def RX8 : String := "MeltingMarks$Sheet"
def TX8 : u_T := fun k => match k with
  | 0 => ("MeltingMarks$Sheet", "numbers", "[I", true)
  | 1 => ("MeltingMarks$Sheet", "bits", "I", false)
  | _ => ("MeltingMarks$Sheet", "size", "I", false)
def tyX8 : Nat → FieldType := fun k => match k with
  | 0 => .array .int
  | 1 => .int
  | _ => .int
abbrev wsX80 : List Cond := u_ws RX8 TX8 3
theorem nmX8 : ∀ a, a < 3 → ∀ b, b < 3 → a ≠ b → (TX8 a).2.1 ≠ (TX8 b).2.1 := by decide +kernel
theorem tyX8_ok : ∀ k, k < 3 → parseFieldDescriptor (TX8 k).2.2.1 = some (tyX8 k) := by decide +kernel
abbrev cX8_init : ByteArray := prog_10_method_1_code
def yX8_init : MethodName := ⟨RX8, "<init>", "()V"⟩
abbrev cX8_isMissing : ByteArray := prog_10_method_2_code
def yX8_isMissing : MethodName := ⟨RX8, "isMissing", "()Z"⟩
abbrev cX8_lay : ByteArray := prog_10_method_3_code
def yX8_lay : MethodName := ⟨RX8, "lay", "(II)V"⟩
abbrev cX8_write : ByteArray := prog_10_method_4_code
def yX8_write : MethodName := ⟨RX8, "write", "(II)V"⟩
abbrev cX8_hasRun : ByteArray := prog_10_method_5_code
def yX8_hasRun : MethodName := ⟨RX8, "hasRun", "(II)Z"⟩
abbrev cX8_firstNoBit : ByteArray := prog_10_method_6_code
def yX8_firstNoBit : MethodName := ⟨RX8, "firstNoBit", "()I"⟩
def RX9 : String := "MeltingMarks$World"
def TX9 : u_T := fun k => match k with
  | 0 => ("MeltingMarks$World", "persons", "[LMeltingMarks$Person;", true)
  | 1 => ("MeltingMarks$World", "papers", "[LMeltingMarks$Paper;", true)
  | 2 => ("MeltingMarks$World", "laws", "LMeltingMarks$Laws;", true)
  | 3 => ("MeltingMarks$World", "prices", "[J", true)
  | 4 => ("MeltingMarks$World", "judge", "LMeltingMarks$Judge;", true)
  | 5 => ("MeltingMarks$World", "market", "LMeltingMarks$Market;", true)
  | 6 => ("MeltingMarks$World", "people", "I", false)
  | 7 => ("MeltingMarks$World", "written", "I", false)
  | 8 => ("MeltingMarks$World", "day", "I", false)
  | 9 => ("MeltingMarks$World", "state", "J", false)
  | 10 => ("MeltingMarks$World", "printed", "J", false)
  | _ => ("MeltingMarks$World", "burnt", "J", false)
def tyX9 : Nat → FieldType := fun k => match k with
  | 0 => .array (.object "MeltingMarks$Person")
  | 1 => .array (.object "MeltingMarks$Paper")
  | 2 => .object "MeltingMarks$Laws"
  | 3 => .array .long
  | 4 => .object "MeltingMarks$Judge"
  | 5 => .object "MeltingMarks$Market"
  | 6 => .int
  | 7 => .int
  | 8 => .int
  | 9 => .long
  | 10 => .long
  | _ => .long
abbrev wsX90 : List Cond := u_ws RX9 TX9 12
theorem nmX9 : ∀ a, a < 12 → ∀ b, b < 12 → a ≠ b → (TX9 a).2.1 ≠ (TX9 b).2.1 := by decide +kernel
theorem tyX9_ok : ∀ k, k < 12 → parseFieldDescriptor (TX9 k).2.2.1 = some (tyX9 k) := by decide +kernel
abbrev cX9_init : ByteArray := prog_11_method_1_code
def yX9_init : MethodName := ⟨RX9, "<init>", "(LMeltingMarks$Laws;[JLMeltingMarks$Judge;LMeltingMarks$Market;)V"⟩
abbrev cX9_takeMoving : ByteArray := prog_11_method_2_code
def yX9_takeMoving : MethodName := ⟨RX9, "takeMoving", "(LMeltingMarks$World;)V"⟩
abbrev cX9_takeAll : ByteArray := prog_11_method_3_code
def yX9_takeAll : MethodName := ⟨RX9, "takeAll", "(LMeltingMarks$World;)V"⟩
abbrev cX9_hasPerson : ByteArray := prog_11_method_4_code
def yX9_hasPerson : MethodName := ⟨RX9, "hasPerson", "(I)Z"⟩
abbrev cX9_hasPaper : ByteArray := prog_11_method_5_code
def yX9_hasPaper : MethodName := ⟨RX9, "hasPaper", "(I)Z"⟩
abbrev cX9_addPerson : ByteArray := prog_11_method_6_code
def yX9_addPerson : MethodName := ⟨RX9, "addPerson", "(JII)I"⟩
abbrev cX9_addPaper : ByteArray := prog_11_method_7_code
def yX9_addPaper : MethodName := ⟨RX9, "addPaper", "(IIIJI)I"⟩
abbrev cX9_priceOn : ByteArray := prog_11_method_8_code
def yX9_priceOn : MethodName := ⟨RX9, "priceOn", "(I)J"⟩
abbrev cX9_credit : ByteArray := prog_11_method_9_code
def yX9_credit : MethodName := ⟨RX9, "credit", "(LMeltingMarks$Person;J)V"⟩
abbrev cX9_creditState : ByteArray := prog_11_method_10_code
def yX9_creditState : MethodName := ⟨RX9, "creditState", "(J)V"⟩
abbrev cX9_handOver : ByteArray := prog_11_method_11_code
def yX9_handOver : MethodName := ⟨RX9, "handOver", "(LMeltingMarks$Paper;J)V"⟩
abbrev cX9_closePaid : ByteArray := prog_11_method_12_code
def yX9_closePaid : MethodName := ⟨RX9, "closePaid", "(LMeltingMarks$Paper;J)V"⟩
abbrev cX9_isThin : ByteArray := prog_11_method_13_code
def yX9_isThin : MethodName := ⟨RX9, "isThin", "(I)Z"⟩
abbrev cX9_keepsBack : ByteArray := prog_11_method_14_code
def yX9_keepsBack : MethodName := ⟨RX9, "keepsBack", "(LMeltingMarks$Person;)Z"⟩
abbrev cX9_trade : ByteArray := prog_11_method_15_code
def yX9_trade : MethodName := ⟨RX9, "trade", "(LMeltingMarks$Person;LMeltingMarks$Person;IJ)V"⟩
abbrev cX9_goDay : ByteArray := prog_11_method_16_code
def yX9_goDay : MethodName := ⟨RX9, "goDay", "()V"⟩
abbrev cX9_payWages : ByteArray := prog_11_method_17_code
def yX9_payWages : MethodName := ⟨RX9, "payWages", "()V"⟩
abbrev cX9_payDebts : ByteArray := prog_11_method_18_code
def yX9_payDebts : MethodName := ⟨RX9, "payDebts", "()V"⟩
abbrev cX9_payAsFarAsItGoes : ByteArray := prog_11_method_19_code
def yX9_payAsFarAsItGoes : MethodName := ⟨RX9, "payAsFarAsItGoes", "(LMeltingMarks$Paper;J)V"⟩
abbrev cX9_collectTax : ByteArray := prog_11_method_20_code
def yX9_collectTax : MethodName := ⟨RX9, "collectTax", "()J"⟩
abbrev cX9_cutNoughts : ByteArray := prog_11_method_21_code
def yX9_cutNoughts : MethodName := ⟨RX9, "cutNoughts", "(I)V"⟩
abbrev cX9_hungerOfAll : ByteArray := prog_11_method_22_code
def yX9_hungerOfAll : MethodName := ⟨RX9, "hungerOfAll", "()J"⟩
abbrev cX9_tally : ByteArray := prog_11_method_23_code
def yX9_tally : MethodName := ⟨RX9, "tally", "(I)J"⟩
abbrev cX9_openPapers : ByteArray := prog_11_method_24_code
def yX9_openPapers : MethodName := ⟨RX9, "openPapers", "()J"⟩
abbrev cX9_marksOfAll : ByteArray := prog_11_method_25_code
def yX9_marksOfAll : MethodName := ⟨RX9, "marksOfAll", "()J"⟩
abbrev cX9_loavesOfAll : ByteArray := prog_11_method_26_code
def yX9_loavesOfAll : MethodName := ⟨RX9, "loavesOfAll", "()J"⟩
def RX10 : String := "MeltingMarks"
def TX10 : u_T := fun k => match k with
  | 0 => ("MeltingMarks", "now", "LMeltingMarks$World;", true)
  | 1 => ("MeltingMarks", "kept", "LMeltingMarks$World;", true)
  | 2 => ("MeltingMarks", "lookout", "LMeltingMarks$Ahead;", true)
  | 3 => ("MeltingMarks", "reader", "LMeltingMarks$Reader;", true)
  | 4 => ("MeltingMarks", "sheets", "[LMeltingMarks$Sheet;", true)
  | 5 => ("MeltingMarks", "hasImage", "Z", false)
  | _ => ("MeltingMarks", "findings", "J", false)
def tyX10 : Nat → FieldType := fun k => match k with
  | 0 => .object "MeltingMarks$World"
  | 1 => .object "MeltingMarks$World"
  | 2 => .object "MeltingMarks$Ahead"
  | 3 => .object "MeltingMarks$Reader"
  | 4 => .array (.object "MeltingMarks$Sheet")
  | 5 => .boolean
  | _ => .long
abbrev wsX100 : List Cond := u_ws RX10 TX10 7
theorem nmX10 : ∀ a, a < 7 → ∀ b, b < 7 → a ≠ b → (TX10 a).2.1 ≠ (TX10 b).2.1 := by decide +kernel
theorem tyX10_ok : ∀ k, k < 7 → parseFieldDescriptor (TX10 k).2.2.1 = some (tyX10 k) := by decide +kernel
abbrev cX10_init : ByteArray := prog_1_method_1_code
def yX10_init : MethodName := ⟨RX10, "<init>", "()V"⟩
abbrev cX10_person : ByteArray := prog_1_method_2_code
def yX10_person : MethodName := ⟨RX10, "person", "(JII)J"⟩
abbrev cX10_habit : ByteArray := prog_1_method_3_code
def yX10_habit : MethodName := ⟨RX10, "habit", "(III)J"⟩
abbrev cX10_personIs : ByteArray := prog_1_method_4_code
def yX10_personIs : MethodName := ⟨RX10, "personIs", "(II)J"⟩
abbrev cX10_gain : ByteArray := prog_1_method_5_code
def yX10_gain : MethodName := ⟨RX10, "gain", "(IZ)J"⟩
abbrev cX10_paper : ByteArray := prog_1_method_6_code
def yX10_paper : MethodName := ⟨RX10, "paper", "(IIJI)J"⟩
abbrev cX10_as : ByteArray := prog_1_method_7_code
def yX10_as : MethodName := ⟨RX10, "as", "(II)J"⟩
abbrev cX10_paperIs : ByteArray := prog_1_method_8_code
def yX10_paperIs : MethodName := ⟨RX10, "paperIs", "(II)J"⟩
abbrev cX10_owed : ByteArray := prog_1_method_9_code
def yX10_owed : MethodName := ⟨RX10, "owed", "(II)J"⟩
abbrev cX10_pay : ByteArray := prog_1_method_10_code
def yX10_pay : MethodName := ⟨RX10, "pay", "(I)J"⟩
abbrev cX10_tear : ByteArray := prog_1_method_11_code
def yX10_tear : MethodName := ⟨RX10, "tear", "(I)J"⟩
abbrev cX10_thin : ByteArray := prog_1_method_12_code
def yX10_thin : MethodName := ⟨RX10, "thin", "()J"⟩
abbrev cX10_feed : ByteArray := prog_1_method_13_code
def yX10_feed : MethodName := ⟨RX10, "feed", "(IJ)J"⟩
abbrev cX10_text : ByteArray := prog_1_method_14_code
def yX10_text : MethodName := ⟨RX10, "text", "(I)J"⟩
abbrev cX10_force : ByteArray := prog_1_method_15_code
def yX10_force : MethodName := ⟨RX10, "force", "(III)J"⟩
abbrev cX10_law : ByteArray := prog_1_method_16_code
def yX10_law : MethodName := ⟨RX10, "law", "(II)J"⟩
abbrev cX10_unlike : ByteArray := prog_1_method_17_code
def yX10_unlike : MethodName := ⟨RX10, "unlike", "()J"⟩
abbrev cX10_days : ByteArray := prog_1_method_18_code
def yX10_days : MethodName := ⟨RX10, "days", "(I)J"⟩
abbrev cX10_price : ByteArray := prog_1_method_19_code
def yX10_price : MethodName := ⟨RX10, "price", "(I)J"⟩
abbrev cX10_index : ByteArray := prog_1_method_20_code
def yX10_index : MethodName := ⟨RX10, "index", "(II)J"⟩
abbrev cX10_press : ByteArray := prog_1_method_21_code
def yX10_press : MethodName := ⟨RX10, "press", "(J)J"⟩
abbrev cX10_give : ByteArray := prog_1_method_22_code
def yX10_give : MethodName := ⟨RX10, "give", "(IJ)J"⟩
abbrev cX10_tax : ByteArray := prog_1_method_23_code
def yX10_tax : MethodName := ⟨RX10, "tax", "()J"⟩
abbrev cX10_swap : ByteArray := prog_1_method_24_code
def yX10_swap : MethodName := ⟨RX10, "swap", "(I)J"⟩
abbrev cX10_need : ByteArray := prog_1_method_25_code
def yX10_need : MethodName := ⟨RX10, "need", "(I)J"⟩
abbrev cX10_melts : ByteArray := prog_1_method_26_code
def yX10_melts : MethodName := ⟨RX10, "melts", "(I)J"⟩
abbrev cX10_choices : ByteArray := prog_1_method_27_code
def yX10_choices : MethodName := ⟨RX10, "choices", "(II)J"⟩
abbrev cX10_proves : ByteArray := prog_1_method_28_code
def yX10_proves : MethodName := ⟨RX10, "proves", "(II)J"⟩
abbrev cX10_beside : ByteArray := prog_1_method_29_code
def yX10_beside : MethodName := ⟨RX10, "beside", "(IJI)J"⟩
abbrev cX10_sheet : ByteArray := prog_1_method_30_code
def yX10_sheet : MethodName := ⟨RX10, "sheet", "(III)J"⟩
abbrev cX10_put : ByteArray := prog_1_method_31_code
def yX10_put : MethodName := ⟨RX10, "put", "(III)J"⟩
abbrev cX10_copy : ByteArray := prog_1_method_32_code
def yX10_copy : MethodName := ⟨RX10, "copy", "(IIIII)J"⟩
abbrev cX10_image : ByteArray := prog_1_method_33_code
def yX10_image : MethodName := ⟨RX10, "image", "()J"⟩
abbrev cX10_restore : ByteArray := prog_1_method_34_code
def yX10_restore : MethodName := ⟨RX10, "restore", "()J"⟩
abbrev cX10_count : ByteArray := prog_1_method_35_code
def yX10_count : MethodName := ⟨RX10, "count", "(I)J"⟩
abbrev cX10_found : ByteArray := prog_1_method_36_code
def yX10_found : MethodName := ⟨RX10, "found", "(J)J"⟩
abbrev cX10_ruling : ByteArray := prog_1_method_37_code
def yX10_ruling : MethodName := ⟨RX10, "ruling", "(LMeltingMarks$Paper;I)J"⟩
abbrev cX10_within : ByteArray := prog_1_method_38_code
def yX10_within : MethodName := ⟨RX10, "within", "(JJJ)Z"⟩
abbrev cX10_isCourt : ByteArray := prog_1_method_39_code
def yX10_isCourt : MethodName := ⟨RX10, "isCourt", "(I)Z"⟩
abbrev cX10_isSheet : ByteArray := prog_1_method_40_code
def yX10_isSheet : MethodName := ⟨RX10, "isSheet", "(I)Z"⟩
abbrev cX10_mostOfHabit : ByteArray := prog_1_method_41_code
def yX10_mostOfHabit : MethodName := ⟨RX10, "mostOfHabit", "(I)I"⟩
def RX11 : String := "MeltingMarksModel"
def TX11 : u_T := fun k => match k with
  | 0 => ("MeltingMarksModel", "now", "[J", true)
  | 1 => ("MeltingMarksModel", "aside", "[J", true)
  | 2 => ("MeltingMarksModel", "image", "[J", true)
  | 3 => ("MeltingMarksModel", "codes", "[I", true)
  | 4 => ("MeltingMarksModel", "imageCodes", "[I", true)
  | 5 => ("MeltingMarksModel", "hasImage", "Z", false)
  | 6 => ("MeltingMarksModel", "findings", "I", false)
  | 7 => ("MeltingMarksModel", "tape", "[I", true)
  | 8 => ("MeltingMarksModel", "taped", "I", false)
  | 9 => ("MeltingMarksModel", "widths", "[I", true)
  | 10 => ("MeltingMarksModel", "sizes", "[I", true)
  | 11 => ("MeltingMarksModel", "sheets", "[I", true)
  | 12 => ("MeltingMarksModel", "from", "I", false)
  | 13 => ("MeltingMarksModel", "to", "I", false)
  | 14 => ("MeltingMarksModel", "sort", "I", false)
  | 15 => ("MeltingMarksModel", "which", "I", false)
  | 16 => ("MeltingMarksModel", "isFault", "Z", false)
  | 17 => ("MeltingMarksModel", "deep", "I", false)
  | 18 => ("MeltingMarksModel", "code", "[I", true)
  | 19 => ("MeltingMarksModel", "coded", "I", false)
  | 20 => ("MeltingMarksModel", "pile", "[J", true)
  | 21 => ("MeltingMarksModel", "asks", "[J", true)
  | 22 => ("MeltingMarksModel", "offers", "[J", true)
  | _ => ("MeltingMarksModel", "between", "[I", true)
def tyX11 : Nat → FieldType := fun k => match k with
  | 0 => .array .long
  | 1 => .array .long
  | 2 => .array .long
  | 3 => .array .int
  | 4 => .array .int
  | 5 => .boolean
  | 6 => .int
  | 7 => .array .int
  | 8 => .int
  | 9 => .array .int
  | 10 => .array .int
  | 11 => .array .int
  | 12 => .int
  | 13 => .int
  | 14 => .int
  | 15 => .int
  | 16 => .boolean
  | 17 => .int
  | 18 => .array .int
  | 19 => .int
  | 20 => .array .long
  | 21 => .array .long
  | 22 => .array .long
  | _ => .array .int
abbrev wsX110 : List Cond := u_ws RX11 TX11 24
theorem nmX11 : ∀ a, a < 24 → ∀ b, b < 24 → a ≠ b → (TX11 a).2.1 ≠ (TX11 b).2.1 := by decide +kernel
theorem tyX11_ok : ∀ k, k < 24 → parseFieldDescriptor (TX11 k).2.2.1 = some (tyX11 k) := by decide +kernel
abbrev cX11_init : ByteArray := prog_13_method_1_code
def yX11_init : MethodName := ⟨RX11, "<init>", "()V"⟩
abbrev cX11_finding : ByteArray := prog_13_method_2_code
def yX11_finding : MethodName := ⟨RX11, "finding", "(I)I"⟩
abbrev cX11_within : ByteArray := prog_13_method_3_code
def yX11_within : MethodName := ⟨RX11, "within", "(JJJ)Z"⟩
abbrev cX11_isPerson : ByteArray := prog_13_method_4_code
def yX11_isPerson : MethodName := ⟨RX11, "isPerson", "(J)Z"⟩
abbrev cX11_isPaper : ByteArray := prog_13_method_5_code
def yX11_isPaper : MethodName := ⟨RX11, "isPaper", "(I)Z"⟩
abbrev cX11_of : ByteArray := prog_13_method_6_code
def yX11_of : MethodName := ⟨RX11, "of", "(II)I"⟩
abbrev cX11_ofPaper : ByteArray := prog_13_method_7_code
def yX11_ofPaper : MethodName := ⟨RX11, "ofPaper", "(II)I"⟩
abbrev cX11_today : ByteArray := prog_13_method_8_code
def yX11_today : MethodName := ⟨RX11, "today", "()I"⟩
abbrev cX11_priceOf : ByteArray := prog_13_method_9_code
def yX11_priceOf : MethodName := ⟨RX11, "priceOf", "(I)J"⟩
abbrev cX11_gets : ByteArray := prog_13_method_10_code
def yX11_gets : MethodName := ⟨RX11, "gets", "(IJ)V"⟩
abbrev cX11_person : ByteArray := prog_13_method_11_code
def yX11_person : MethodName := ⟨RX11, "person", "(JII)J"⟩
abbrev cX11_habit : ByteArray := prog_13_method_12_code
def yX11_habit : MethodName := ⟨RX11, "habit", "(III)J"⟩
abbrev cX11_personIs : ByteArray := prog_13_method_13_code
def yX11_personIs : MethodName := ⟨RX11, "personIs", "(II)J"⟩
abbrev cX11_gain : ByteArray := prog_13_method_14_code
def yX11_gain : MethodName := ⟨RX11, "gain", "(IZ)J"⟩
abbrev cX11_paper : ByteArray := prog_13_method_15_code
def yX11_paper : MethodName := ⟨RX11, "paper", "(IIJI)J"⟩
abbrev cX11_as : ByteArray := prog_13_method_16_code
def yX11_as : MethodName := ⟨RX11, "as", "(II)J"⟩
abbrev cX11_paperIs : ByteArray := prog_13_method_17_code
def yX11_paperIs : MethodName := ⟨RX11, "paperIs", "(II)J"⟩
abbrev cX11_isOpen : ByteArray := prog_13_method_18_code
def yX11_isOpen : MethodName := ⟨RX11, "isOpen", "(I)Z"⟩
abbrev cX11_lawOn : ByteArray := prog_13_method_19_code
def yX11_lawOn : MethodName := ⟨RX11, "lawOn", "(II)I"⟩
abbrev cX11_owedOf : ByteArray := prog_13_method_20_code
def yX11_owedOf : MethodName := ⟨RX11, "owedOf", "(II)J"⟩
abbrev cX11_owed : ByteArray := prog_13_method_21_code
def yX11_owed : MethodName := ⟨RX11, "owed", "(II)J"⟩
abbrev cX11_settles : ByteArray := prog_13_method_22_code
def yX11_settles : MethodName := ⟨RX11, "settles", "(IJ)V"⟩
abbrev cX11_pays : ByteArray := prog_13_method_23_code
def yX11_pays : MethodName := ⟨RX11, "pays", "(IJ)V"⟩
abbrev cX11_pay : ByteArray := prog_13_method_24_code
def yX11_pay : MethodName := ⟨RX11, "pay", "(I)J"⟩
abbrev cX11_tear : ByteArray := prog_13_method_25_code
def yX11_tear : MethodName := ⟨RX11, "tear", "(I)J"⟩
abbrev cX11_thin : ByteArray := prog_13_method_26_code
def yX11_thin : MethodName := ⟨RX11, "thin", "()J"⟩
abbrev cX11_feed : ByteArray := prog_13_method_27_code
def yX11_feed : MethodName := ⟨RX11, "feed", "(IJ)J"⟩
abbrev cX11_isIn : ByteArray := prog_13_method_28_code
def yX11_isIn : MethodName := ⟨RX11, "isIn", "(III)Z"⟩
abbrev cX11_wordHere : ByteArray := prog_13_method_29_code
def yX11_wordHere : MethodName := ⟨RX11, "wordHere", "()I"⟩
abbrev cX11_next : ByteArray := prog_13_method_30_code
def yX11_next : MethodName := ⟨RX11, "next", "()V"⟩
abbrev cX11_isWord : ByteArray := prog_13_method_31_code
def yX11_isWord : MethodName := ⟨RX11, "isWord", "(I)Z"⟩
abbrev cX11_isSign : ByteArray := prog_13_method_32_code
def yX11_isSign : MethodName := ⟨RX11, "isSign", "(I)Z"⟩
abbrev cX11_need : ByteArray := prog_13_method_33_code
def yX11_need : MethodName := ⟨RX11, "need", "(Z)V"⟩
abbrev cX11_codes : ByteArray := prog_13_method_34_code
def yX11_codes : MethodName := ⟨RX11, "codes", "(I)V"⟩
abbrev cX11_either : ByteArray := prog_13_method_35_code
def yX11_either : MethodName := ⟨RX11, "either", "()V"⟩
abbrev cX11_both : ByteArray := prog_13_method_36_code
def yX11_both : MethodName := ⟨RX11, "both", "()V"⟩
abbrev cX11_notOf : ByteArray := prog_13_method_37_code
def yX11_notOf : MethodName := ⟨RX11, "notOf", "()V"⟩
abbrev cX11_sumOf : ByteArray := prog_13_method_38_code
def yX11_sumOf : MethodName := ⟨RX11, "sumOf", "()V"⟩
abbrev cX11_oneOf : ByteArray := prog_13_method_39_code
def yX11_oneOf : MethodName := ⟨RX11, "oneOf", "()V"⟩
abbrev cX11_value : ByteArray := prog_13_method_40_code
def yX11_value : MethodName := ⟨RX11, "value", "()V"⟩
abbrev cX11_clause : ByteArray := prog_13_method_41_code
def yX11_clause : MethodName := ⟨RX11, "clause", "(I)V"⟩
abbrev cX11_text : ByteArray := prog_13_method_42_code
def yX11_text : MethodName := ⟨RX11, "text", "(I)J"⟩
abbrev cX11_named : ByteArray := prog_13_method_43_code
def yX11_named : MethodName := ⟨RX11, "named", "(II)J"⟩
abbrev cX11_done : ByteArray := prog_13_method_44_code
def yX11_done : MethodName := ⟨RX11, "done", "(IJJ)J"⟩
abbrev cX11_worked : ByteArray := prog_13_method_45_code
def yX11_worked : MethodName := ⟨RX11, "worked", "(III)J"⟩
abbrev cX11_force : ByteArray := prog_13_method_46_code
def yX11_force : MethodName := ⟨RX11, "force", "(III)J"⟩
abbrev cX11_law : ByteArray := prog_13_method_47_code
def yX11_law : MethodName := ⟨RX11, "law", "(II)J"⟩
abbrev cX11_unlike : ByteArray := prog_13_method_48_code
def yX11_unlike : MethodName := ⟨RX11, "unlike", "()J"⟩
abbrev cX11_payWages : ByteArray := prog_13_method_49_code
def yX11_payWages : MethodName := ⟨RX11, "payWages", "()V"⟩
abbrev cX11_askAndOffer : ByteArray := prog_13_method_50_code
def yX11_askAndOffer : MethodName := ⟨RX11, "askAndOffer", "()V"⟩
abbrev cX11_priceMade : ByteArray := prog_13_method_51_code
def yX11_priceMade : MethodName := ⟨RX11, "priceMade", "()J"⟩
abbrev cX11_buys : ByteArray := prog_13_method_52_code
def yX11_buys : MethodName := ⟨RX11, "buys", "(IJ)V"⟩
abbrev cX11_eat : ByteArray := prog_13_method_53_code
def yX11_eat : MethodName := ⟨RX11, "eat", "()V"⟩
abbrev cX11_payDebts : ByteArray := prog_13_method_54_code
def yX11_payDebts : MethodName := ⟨RX11, "payDebts", "()V"⟩
abbrev cX11_goesBy : ByteArray := prog_13_method_55_code
def yX11_goesBy : MethodName := ⟨RX11, "goesBy", "()V"⟩
abbrev cX11_days : ByteArray := prog_13_method_56_code
def yX11_days : MethodName := ⟨RX11, "days", "(I)J"⟩
abbrev cX11_isDay : ByteArray := prog_13_method_57_code
def yX11_isDay : MethodName := ⟨RX11, "isDay", "(I)Z"⟩
abbrev cX11_price : ByteArray := prog_13_method_58_code
def yX11_price : MethodName := ⟨RX11, "price", "(I)J"⟩
abbrev cX11_index : ByteArray := prog_13_method_59_code
def yX11_index : MethodName := ⟨RX11, "index", "(II)J"⟩
abbrev cX11_press : ByteArray := prog_13_method_60_code
def yX11_press : MethodName := ⟨RX11, "press", "(J)J"⟩
abbrev cX11_give : ByteArray := prog_13_method_61_code
def yX11_give : MethodName := ⟨RX11, "give", "(IJ)J"⟩
abbrev cX11_taxes : ByteArray := prog_13_method_62_code
def yX11_taxes : MethodName := ⟨RX11, "taxes", "()J"⟩
abbrev cX11_tax : ByteArray := prog_13_method_63_code
def yX11_tax : MethodName := ⟨RX11, "tax", "()J"⟩
abbrev cX11_cutBy : ByteArray := prog_13_method_64_code
def yX11_cutBy : MethodName := ⟨RX11, "cutBy", "(IJ)J"⟩
abbrev cX11_swap : ByteArray := prog_13_method_65_code
def yX11_swap : MethodName := ⟨RX11, "swap", "(I)J"⟩
abbrev cX11_putAside : ByteArray := prog_13_method_66_code
def yX11_putAside : MethodName := ⟨RX11, "putAside", "()V"⟩
abbrev cX11_comesBack : ByteArray := prog_13_method_67_code
def yX11_comesBack : MethodName := ⟨RX11, "comesBack", "()V"⟩
abbrev cX11_notAhead : ByteArray := prog_13_method_68_code
def yX11_notAhead : MethodName := ⟨RX11, "notAhead", "(II)I"⟩
abbrev cX11_need_ : ByteArray := prog_13_method_69_code
def yX11_need_ : MethodName := ⟨RX11, "need", "(I)J"⟩
abbrev cX11_melts : ByteArray := prog_13_method_70_code
def yX11_melts : MethodName := ⟨RX11, "melts", "(I)J"⟩
abbrev cX11_hungers : ByteArray := prog_13_method_71_code
def yX11_hungers : MethodName := ⟨RX11, "hungers", "()J"⟩
abbrev cX11_choices : ByteArray := prog_13_method_72_code
def yX11_choices : MethodName := ⟨RX11, "choices", "(II)J"⟩
abbrev cX11_proves : ByteArray := prog_13_method_73_code
def yX11_proves : MethodName := ⟨RX11, "proves", "(II)J"⟩
abbrev cX11_beside : ByteArray := prog_13_method_74_code
def yX11_beside : MethodName := ⟨RX11, "beside", "(IJI)J"⟩
abbrev cX11_isSheet : ByteArray := prog_13_method_75_code
def yX11_isSheet : MethodName := ⟨RX11, "isSheet", "(I)Z"⟩
abbrev cX11_sheet : ByteArray := prog_13_method_76_code
def yX11_sheet : MethodName := ⟨RX11, "sheet", "(III)J"⟩
abbrev cX11_put : ByteArray := prog_13_method_77_code
def yX11_put : MethodName := ⟨RX11, "put", "(III)J"⟩
abbrev cX11_copy : ByteArray := prog_13_method_78_code
def yX11_copy : MethodName := ⟨RX11, "copy", "(IIIII)J"⟩
abbrev cX11_image : ByteArray := prog_13_method_79_code
def yX11_image : MethodName := ⟨RX11, "image", "()J"⟩
abbrev cX11_restore : ByteArray := prog_13_method_80_code
def yX11_restore : MethodName := ⟨RX11, "restore", "()J"⟩
abbrev cX11_allOf : ByteArray := prog_13_method_81_code
def yX11_allOf : MethodName := ⟨RX11, "allOf", "(I)J"⟩
abbrev cX11_count : ByteArray := prog_13_method_82_code
def yX11_count : MethodName := ⟨RX11, "count", "(I)J"⟩
def RJx145de : String := "java/io/Serializable"
def TJx145de : u_T := fun k => match k with
  | _ => ("", "", "", false)
def tyJx145de : Nat → FieldType := fun k => match k with
  | _ => .int
abbrev wsJx145de0 : List Cond := u_ws RJx145de TJx145de 0
theorem nmJx145de : ∀ a, a < 0 → ∀ b, b < 0 → a ≠ b → (TJx145de a).2.1 ≠ (TJx145de b).2.1 := by decide +kernel
theorem tyJx145de_ok : ∀ k, k < 0 → parseFieldDescriptor (TJx145de k).2.2.1 = some (tyJx145de k) := by decide +kernel
def RJx9f9b0 : String := "java/lang/CharSequence"
def TJx9f9b0 : u_T := fun k => match k with
  | _ => ("", "", "", false)
def tyJx9f9b0 : Nat → FieldType := fun k => match k with
  | _ => .int
abbrev wsJx9f9b00 : List Cond := u_ws RJx9f9b0 TJx9f9b0 0
theorem nmJx9f9b0 : ∀ a, a < 0 → ∀ b, b < 0 → a ≠ b → (TJx9f9b0 a).2.1 ≠ (TJx9f9b0 b).2.1 := by decide +kernel
theorem tyJx9f9b0_ok : ∀ k, k < 0 → parseFieldDescriptor (TJx9f9b0 k).2.2.1 = some (tyJx9f9b0 k) := by decide +kernel
def RJ11 : String := "java/lang/Character"
def TJ11 : u_T := fun k => match k with
  | _ => ("", "", "", false)
def tyJ11 : Nat → FieldType := fun k => match k with
  | _ => .int
abbrev wsJ110 : List Cond := u_ws RJ11 TJ11 0
theorem nmJ11 : ∀ a, a < 0 → ∀ b, b < 0 → a ≠ b → (TJ11 a).2.1 ≠ (TJ11 b).2.1 := by decide +kernel
theorem tyJ11_ok : ∀ k, k < 0 → parseFieldDescriptor (TJ11 k).2.2.1 = some (tyJ11 k) := by decide +kernel
abbrev cJ11_isValidCodePoint_9a6ad : ByteArray := prog_14_method_11_code
def yJ11_isValidCodePoint_9a6ad : MethodName := ⟨RJ11, "isValidCodePoint", "(I)Z"⟩
abbrev cJ11_highSurrogate_5068e : ByteArray := prog_14_method_28_code
def yJ11_highSurrogate_5068e : MethodName := ⟨RJ11, "highSurrogate", "(I)C"⟩
abbrev cJ11_lowSurrogate_5068e : ByteArray := prog_14_method_29_code
def yJ11_lowSurrogate_5068e : MethodName := ⟨RJ11, "lowSurrogate", "(I)C"⟩
def RJx8e188 : String := "java/lang/Cloneable"
def TJx8e188 : u_T := fun k => match k with
  | _ => ("", "", "", false)
def tyJx8e188 : Nat → FieldType := fun k => match k with
  | _ => .int
abbrev wsJx8e1880 : List Cond := u_ws RJx8e188 TJx8e188 0
theorem nmJx8e188 : ∀ a, a < 0 → ∀ b, b < 0 → a ≠ b → (TJx8e188 a).2.1 ≠ (TJx8e188 b).2.1 := by decide +kernel
theorem tyJx8e188_ok : ∀ k, k < 0 → parseFieldDescriptor (TJx8e188 k).2.2.1 = some (tyJx8e188 k) := by decide +kernel
def RJxb160c : String := "java/lang/Comparable"
def TJxb160c : u_T := fun k => match k with
  | _ => ("", "", "", false)
def tyJxb160c : Nat → FieldType := fun k => match k with
  | _ => .int
abbrev wsJxb160c0 : List Cond := u_ws RJxb160c TJxb160c 0
theorem nmJxb160c : ∀ a, a < 0 → ∀ b, b < 0 → a ≠ b → (TJxb160c a).2.1 ≠ (TJxb160c b).2.1 := by decide +kernel
theorem tyJxb160c_ok : ∀ k, k < 0 → parseFieldDescriptor (TJxb160c k).2.2.1 = some (tyJxb160c k) := by decide +kernel
def RJ6 : String := "java/lang/Integer"
def TJ6 : u_T := fun k => match k with
  | _ => ("", "", "", false)
def tyJ6 : Nat → FieldType := fun k => match k with
  | _ => .int
abbrev wsJ60 : List Cond := u_ws RJ6 TJ6 0
theorem nmJ6 : ∀ a, a < 0 → ∀ b, b < 0 → a ≠ b → (TJ6 a).2.1 ≠ (TJ6 b).2.1 := by decide +kernel
theorem tyJ6_ok : ∀ k, k < 0 → parseFieldDescriptor (TJ6 k).2.2.1 = some (tyJ6 k) := by decide +kernel
abbrev cJ6_bitCount_0f7a4 : ByteArray := prog_16_method_49_code
def yJ6_bitCount_0f7a4 : MethodName := ⟨RJ6, "bitCount", "(I)I"⟩
def RJ9 : String := "java/lang/Math"
def TJ9 : u_T := fun k => match k with
  | _ => ("", "", "", false)
def tyJ9 : Nat → FieldType := fun k => match k with
  | _ => .int
abbrev wsJ90 : List Cond := u_ws RJ9 TJ9 0
theorem nmJ9 : ∀ a, a < 0 → ∀ b, b < 0 → a ≠ b → (TJ9 a).2.1 ≠ (TJ9 b).2.1 := by decide +kernel
theorem tyJ9_ok : ∀ k, k < 0 → parseFieldDescriptor (TJ9 k).2.2.1 = some (tyJ9 k) := by decide +kernel
abbrev cJ9_max_7cf53 : ByteArray := prog_17_method_65_code
def yJ9_max_7cf53 : MethodName := ⟨RJ9, "max", "(II)I"⟩
abbrev cJ9_max_f86c9 : ByteArray := prog_17_method_66_code
def yJ9_max_f86c9 : MethodName := ⟨RJ9, "max", "(JJ)J"⟩
abbrev cJ9_min_7cf53 : ByteArray := prog_17_method_69_code
def yJ9_min_7cf53 : MethodName := ⟨RJ9, "min", "(II)I"⟩
abbrev cJ9_min_f86c9 : ByteArray := prog_17_method_70_code
def yJ9_min_f86c9 : MethodName := ⟨RJ9, "min", "(JJ)J"⟩
def RJ0 : String := "java/lang/String"
def TJ0 : u_T := fun k => match k with
  | _ => ("", "", "", false)
def tyJ0 : Nat → FieldType := fun k => match k with
  | _ => .int
abbrev wsJ00 : List Cond := u_ws RJ0 TJ0 0
theorem nmJ0 : ∀ a, a < 0 → ∀ b, b < 0 → a ≠ b → (TJ0 a).2.1 ≠ (TJ0 b).2.1 := by decide +kernel
theorem tyJ0_ok : ∀ k, k < 0 → parseFieldDescriptor (TJ0 k).2.2.1 = some (tyJ0 k) := by decide +kernel
abbrev cJ0_length_8abf5 : ByteArray := prog_18_method_54_code
def yJ0_length_8abf5 : MethodName := ⟨RJ0, "length", "()I"⟩
abbrev cJ0_charAt_5068e : ByteArray := prog_18_method_56_code
def yJ0_charAt_5068e : MethodName := ⟨RJ0, "charAt", "(I)C"⟩
abbrev cJ0_indexOf_0f7a4 : ByteArray := prog_18_method_79_code
def yJ0_indexOf_0f7a4 : MethodName := ⟨RJ0, "indexOf", "(I)I"⟩
abbrev cJ0_indexOf_7cf53 : ByteArray := prog_18_method_80_code
def yJ0_indexOf_7cf53 : MethodName := ⟨RJ0, "indexOf", "(II)I"⟩
abbrev cJ0_coder_7d493 : ByteArray := prog_18_method_152_code
def yJ0_coder_7d493 : MethodName := ⟨RJ0, "coder", "()B"⟩
abbrev cJ0_isLatin1_aae02 : ByteArray := prog_18_method_154_code
def yJ0_isLatin1_aae02 : MethodName := ⟨RJ0, "isLatin1", "()Z"⟩
abbrev cJ0_checkIndex_df160 : ByteArray := prog_18_method_155_code
def yJ0_checkIndex_df160 : MethodName := ⟨RJ0, "checkIndex", "(II)V"⟩
abbrev cJ0_checkBoundsBeginEnd_23922 : ByteArray := prog_18_method_158_code
def yJ0_checkBoundsBeginEnd_23922 : MethodName := ⟨RJ0, "checkBoundsBeginEnd", "(III)V"⟩
def RJ1 : String := "java/lang/StringLatin1"
def TJ1 : u_T := fun k => match k with
  | _ => ("", "", "", false)
def tyJ1 : Nat → FieldType := fun k => match k with
  | _ => .int
abbrev wsJ10 : List Cond := u_ws RJ1 TJ1 0
theorem nmJ1 : ∀ a, a < 0 → ∀ b, b < 0 → a ≠ b → (TJ1 a).2.1 ≠ (TJ1 b).2.1 := by decide +kernel
theorem tyJ1_ok : ∀ k, k < 0 → parseFieldDescriptor (TJ1 k).2.2.1 = some (tyJ1 k) := by decide +kernel
abbrev cJ1_charAt_3b067 : ByteArray := prog_19_method_2_code
def yJ1_charAt_3b067 : MethodName := ⟨RJ1, "charAt", "([BI)C"⟩
abbrev cJ1_canEncode_9a6ad : ByteArray := prog_19_method_4_code
def yJ1_canEncode_9a6ad : MethodName := ⟨RJ1, "canEncode", "(I)Z"⟩
abbrev cJ1_indexOf_4cfef : ByteArray := prog_19_method_22_code
def yJ1_indexOf_4cfef : MethodName := ⟨RJ1, "indexOf", "([BIII)I"⟩
abbrev cJ1_indexOfChar_4cfef : ByteArray := prog_19_method_23_code
def yJ1_indexOfChar_4cfef : MethodName := ⟨RJ1, "indexOfChar", "([BIII)I"⟩
def RJ2 : String := "java/lang/StringUTF16"
def TJ2 : u_T := fun k => match k with
  | _ => ("", "", "", false)
def tyJ2 : Nat → FieldType := fun k => match k with
  | _ => .int
abbrev wsJ20 : List Cond := u_ws RJ2 TJ2 0
theorem nmJ2 : ∀ a, a < 0 → ∀ b, b < 0 → a ≠ b → (TJ2 a).2.1 ≠ (TJ2 b).2.1 := by decide +kernel
theorem tyJ2_ok : ∀ k, k < 0 → parseFieldDescriptor (TJ2 k).2.2.1 = some (tyJ2 k) := by decide +kernel
abbrev cJ2_getChar_3b067 : ByteArray := prog_20_method_5_code
def yJ2_getChar_3b067 : MethodName := ⟨RJ2, "getChar", "([BI)C"⟩
abbrev cJ2_length_9d52b : ByteArray := prog_20_method_6_code
def yJ2_length_9d52b : MethodName := ⟨RJ2, "length", "([B)I"⟩
abbrev cJ2_indexOf_4cfef : ByteArray := prog_20_method_40_code
def yJ2_indexOf_4cfef : MethodName := ⟨RJ2, "indexOf", "([BIII)I"⟩
abbrev cJ2_indexOfChar_4cfef : ByteArray := prog_20_method_47_code
def yJ2_indexOfChar_4cfef : MethodName := ⟨RJ2, "indexOfChar", "([BIII)I"⟩
abbrev cJ2_indexOfCharUnsafe_4cfef : ByteArray := prog_20_method_48_code
def yJ2_indexOfCharUnsafe_4cfef : MethodName := ⟨RJ2, "indexOfCharUnsafe", "([BIII)I"⟩
abbrev cJ2_indexOfSupplementary_4cfef : ByteArray := prog_20_method_49_code
def yJ2_indexOfSupplementary_4cfef : MethodName := ⟨RJ2, "indexOfSupplementary", "([BIII)I"⟩
abbrev cJ2_charAt_3b067 : ByteArray := prog_20_method_83_code
def yJ2_charAt_3b067 : MethodName := ⟨RJ2, "charAt", "([BI)C"⟩
abbrev cJ2_checkIndex_2214a : ByteArray := prog_20_method_91_code
def yJ2_checkIndex_2214a : MethodName := ⟨RJ2, "checkIndex", "(I[B)V"⟩
abbrev cJ2_checkBoundsBeginEnd_d044e : ByteArray := prog_20_method_93_code
def yJ2_checkBoundsBeginEnd_d044e : MethodName := ⟨RJ2, "checkBoundsBeginEnd", "(II[B)V"⟩
def RJ10 : String := "java/lang/System"
def TJ10 : u_T := fun k => match k with
  | _ => ("", "", "", false)
def tyJ10 : Nat → FieldType := fun k => match k with
  | _ => .int
abbrev wsJ100 : List Cond := u_ws RJ10 TJ10 0
theorem nmJ10 : ∀ a, a < 0 → ∀ b, b < 0 → a ≠ b → (TJ10 a).2.1 ≠ (TJ10 b).2.1 := by decide +kernel
theorem tyJ10_ok : ∀ k, k < 0 → parseFieldDescriptor (TJ10 k).2.2.1 = some (tyJ10 k) := by decide +kernel
def RJxfd54e : String := "java/lang/constant/Constable"
def TJxfd54e : u_T := fun k => match k with
  | _ => ("", "", "", false)
def tyJxfd54e : Nat → FieldType := fun k => match k with
  | _ => .int
abbrev wsJxfd54e0 : List Cond := u_ws RJxfd54e TJxfd54e 0
theorem nmJxfd54e : ∀ a, a < 0 → ∀ b, b < 0 → a ≠ b → (TJxfd54e a).2.1 ≠ (TJxfd54e b).2.1 := by decide +kernel
theorem tyJxfd54e_ok : ∀ k, k < 0 → parseFieldDescriptor (TJxfd54e k).2.2.1 = some (tyJxfd54e k) := by decide +kernel
def RJx3cf43 : String := "java/lang/constant/ConstantDesc"
def TJx3cf43 : u_T := fun k => match k with
  | _ => ("", "", "", false)
def tyJx3cf43 : Nat → FieldType := fun k => match k with
  | _ => .int
abbrev wsJx3cf430 : List Cond := u_ws RJx3cf43 TJx3cf43 0
theorem nmJx3cf43 : ∀ a, a < 0 → ∀ b, b < 0 → a ≠ b → (TJx3cf43 a).2.1 ≠ (TJx3cf43 b).2.1 := by decide +kernel
theorem tyJx3cf43_ok : ∀ k, k < 0 → parseFieldDescriptor (TJx3cf43 k).2.2.1 = some (tyJx3cf43 k) := by decide +kernel
def RJ7 : String := "java/util/Arrays"
def TJ7 : u_T := fun k => match k with
  | _ => ("", "", "", false)
def tyJ7 : Nat → FieldType := fun k => match k with
  | _ => .int
abbrev wsJ70 : List Cond := u_ws RJ7 TJ7 0
theorem nmJ7 : ∀ a, a < 0 → ∀ b, b < 0 → a ≠ b → (TJ7 a).2.1 ≠ (TJ7 b).2.1 := by decide +kernel
theorem tyJ7_ok : ∀ k, k < 0 → parseFieldDescriptor (TJ7 k).2.2.1 = some (tyJ7 k) := by decide +kernel
abbrev cJ7_fill_53178 : ByteArray := prog_22_method_103_code
def yJ7_fill_53178 : MethodName := ⟨RJ7, "fill", "([II)V"⟩
abbrev cJ7_copyOf_59c91 : ByteArray := prog_22_method_123_code
def yJ7_copyOf_59c91 : MethodName := ⟨RJ7, "copyOf", "([II)[I"⟩
def RJ3 : String := "jdk/internal/util/Preconditions"
def TJ3 : u_T := fun k => match k with
  | _ => ("", "", "", false)
def tyJ3 : Nat → FieldType := fun k => match k with
  | _ => .int
abbrev wsJ30 : List Cond := u_ws RJ3 TJ3 0
theorem nmJ3 : ∀ a, a < 0 → ∀ b, b < 0 → a ≠ b → (TJ3 a).2.1 ≠ (TJ3 b).2.1 := by decide +kernel
theorem tyJ3_ok : ∀ k, k < 0 → parseFieldDescriptor (TJ3 k).2.2.1 = some (tyJ3 k) := by decide +kernel
abbrev cJ3_checkIndex_8e157 : ByteArray := prog_23_method_11_code
def yJ3_checkIndex_8e157 : MethodName := ⟨RJ3, "checkIndex", "(IILjava/util/function/BiFunction;)I"⟩
abbrev cJ3_checkFromToIndex_8c36e : ByteArray := prog_23_method_12_code
def yJ3_checkFromToIndex_8c36e : MethodName := ⟨RJ3, "checkFromToIndex", "(IIILjava/util/function/BiFunction;)I"⟩
def RL : String := "MeltingMarksLaw"
abbrev cL_law : ByteArray := code
def yL_law : MethodName := ⟨RL, "law", "([I)Z"⟩
abbrev vwCl : List vw_C := [(RX0, TX0, 6), (RX1, TX1, 3), (RX2, TX2, 2), (RX3, TX3, 5), (RX4, TX4, 2), (RX5, TX5, 7), (RX6, TX6, 10), (RX7, TX7, 8), (RX8, TX8, 3), (RX9, TX9, 12), (RX10, TX10, 7), (RX11, TX11, 24)]
