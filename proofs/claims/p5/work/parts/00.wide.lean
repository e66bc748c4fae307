section
theorem vx_wide : True := by
  have _h := @Stand.thenCaughtThrough
  trivial
end
section
theorem goodIn_r {big : List Cond} (ws : List Cond) (ps : List Nat) (hp : ws = ps.filterMap (fun i => big[i]?)) (h : ws.all goodWord = true) : GoodIn big ws := by
  intro w hw
  have h1 := List.all_eq_true.mp h w hw
  rw [hp] at hw
  obtain ⟨i, -, hi⟩ := List.mem_filterMap.mp hw
  have hm : w ∈ big := by first | exact List.mem_of_getElem? hi | exact List.getElem?_mem hi
  exact ⟨hm, good_of_word h1⟩
theorem goodIn_app {big a b : List Cond} (ha : GoodIn big a) (hb : GoodIn big b) : GoodIn big (a ++ b) := fun w h => (List.mem_append.mp h).elim (ha w) (hb w)
theorem goodIn_ca {big a b : List Cond} {c : Cond} (ha : GoodIn big (c :: a)) (hb : GoodIn big b) : GoodIn big (c :: (a ++ b)) := fun w h => (List.mem_cons.mp h).elim (fun e => ha w (List.mem_cons.mpr (Or.inl e))) (fun h => (List.mem_append.mp h).elim (fun h => ha w (List.mem_cons.mpr (Or.inr h))) (hb w))
theorem goodIn_sub {big ws : List Cond} (hm : ∀ w ∈ ws, w ∈ big) (h : ws.all goodWord = true) : GoodIn big ws := fun w hw => ⟨hm w hw, good_of_word (List.all_eq_true.mp h w hw)⟩
def RX0 : String := "MoveTexts$Board"
def TX0 : u_T := fun k => match k with
  | 0 => ("MoveTexts$Board", "men", "[I", true)
  | 1 => ("MoveTexts$Board", "whiteKing", "I", false)
  | 2 => ("MoveTexts$Board", "blackKing", "I", false)
  | 3 => ("MoveTexts$Board", "side", "I", false)
  | 4 => ("MoveTexts$Board", "rights", "I", false)
  | 5 => ("MoveTexts$Board", "passed", "I", false)
  | _ => ("MoveTexts$Board", "number", "I", false)
def tyX0 : Nat → FieldType := fun k => match k with
  | 0 => .array .int
  | 1 => .int
  | 2 => .int
  | 3 => .int
  | 4 => .int
  | 5 => .int
  | _ => .int
abbrev wsX00 : List Cond := u_ws RX0 TX0 7
theorem nmX0 : ∀ a, a < 7 → ∀ b, b < 7 → a ≠ b → (TX0 a).2.1 ≠ (TX0 b).2.1 := by decide +kernel
theorem tyX0_ok : ∀ k, k < 7 → parseFieldDescriptor (TX0 k).2.2.1 = some (tyX0 k) := by decide +kernel
abbrev cX0_init : ByteArray := prog_2_method_1_code
def yX0_init : MethodName := ⟨RX0, "<init>", "()V"⟩
abbrev cX0_setUp : ByteArray := prog_2_method_2_code
def yX0_setUp : MethodName := ⟨RX0, "setUp", "()V"⟩
abbrev cX0_wipe : ByteArray := prog_2_method_3_code
def yX0_wipe : MethodName := ⟨RX0, "wipe", "()V"⟩
abbrev cX0_copyFrom : ByteArray := prog_2_method_4_code
def yX0_copyFrom : MethodName := ⟨RX0, "copyFrom", "(LMoveTexts$Board;)V"⟩
abbrev cX0_put : ByteArray := prog_2_method_5_code
def yX0_put : MethodName := ⟨RX0, "put", "(II)V"⟩
abbrev cX0_kindAt : ByteArray := prog_2_method_6_code
def yX0_kindAt : MethodName := ⟨RX0, "kindAt", "(I)I"⟩
abbrev cX0_kingOf : ByteArray := prog_2_method_7_code
def yX0_kingOf : MethodName := ⟨RX0, "kingOf", "(I)I"⟩
abbrev cX0_attacked : ByteArray := prog_2_method_8_code
def yX0_attacked : MethodName := ⟨RX0, "attacked", "(II)Z"⟩
abbrev cX0_attacks : ByteArray := prog_2_method_9_code
def yX0_attacks : MethodName := ⟨RX0, "attacks", "(II)Z"⟩
abbrev cX0_reaches : ByteArray := prog_2_method_10_code
def yX0_reaches : MethodName := ⟨RX0, "reaches", "(II)Z"⟩
abbrev cX0_pawnReaches : ByteArray := prog_2_method_11_code
def yX0_pawnReaches : MethodName := ⟨RX0, "pawnReaches", "(II)Z"⟩
abbrev cX0_castles : ByteArray := prog_2_method_12_code
def yX0_castles : MethodName := ⟨RX0, "castles", "(II)Z"⟩
abbrev cX0_castlingIsOpen : ByteArray := prog_2_method_13_code
def yX0_castlingIsOpen : MethodName := ⟨RX0, "castlingIsOpen", "(II)Z"⟩
abbrev cX0_takes : ByteArray := prog_2_method_14_code
def yX0_takes : MethodName := ⟨RX0, "takes", "(II)Z"⟩
abbrev cX0_becomesAnother : ByteArray := prog_2_method_15_code
def yX0_becomesAnother : MethodName := ⟨RX0, "becomesAnother", "(II)Z"⟩
abbrev cX0_pawnAttacks : ByteArray := prog_2_method_16_code
def yX0_pawnAttacks : MethodName := ⟨RX0, "pawnAttacks", "(II)Z"⟩
abbrev cX0_play : ByteArray := prog_2_method_17_code
def yX0_play : MethodName := ⟨RX0, "play", "(I)V"⟩
abbrev cX0_rightsOf : ByteArray := prog_2_method_18_code
def yX0_rightsOf : MethodName := ⟨RX0, "rightsOf", "(I)I"⟩
def RX1 : String := "MoveTexts$Game"
def TX1 : u_T := fun k => match k with
  | 0 => ("MoveTexts$Game", "start", "LMoveTexts$Board;", true)
  | 1 => ("MoveTexts$Game", "root", "LMoveTexts$Node;", true)
  | 2 => ("MoveTexts$Game", "others", "[LMoveTexts$Node;", true)
  | 3 => ("MoveTexts$Game", "greatest", "I", false)
  | 4 => ("MoveTexts$Game", "tagRow", "[LMoveTexts$Tag;", true)
  | 5 => ("MoveTexts$Game", "tagCount", "I", false)
  | 6 => ("MoveTexts$Game", "result", "I", false)
  | _ => ("MoveTexts$Game", "scratch", "[I", true)
def tyX1 : Nat → FieldType := fun k => match k with
  | 0 => .object "MoveTexts$Board"
  | 1 => .object "MoveTexts$Node"
  | 2 => .array (.object "MoveTexts$Node")
  | 3 => .int
  | 4 => .array (.object "MoveTexts$Tag")
  | 5 => .int
  | 6 => .int
  | _ => .array .int
abbrev wsX10 : List Cond := u_ws RX1 TX1 8
theorem nmX1 : ∀ a, a < 8 → ∀ b, b < 8 → a ≠ b → (TX1 a).2.1 ≠ (TX1 b).2.1 := by decide +kernel
theorem tyX1_ok : ∀ k, k < 8 → parseFieldDescriptor (TX1 k).2.2.1 = some (tyX1 k) := by decide +kernel
abbrev cX1_init : ByteArray := prog_3_method_1_code
def yX1_init : MethodName := ⟨RX1, "<init>", "()V"⟩
abbrev cX1_wipe : ByteArray := prog_3_method_2_code
def yX1_wipe : MethodName := ⟨RX1, "wipe", "()V"⟩
abbrev cX1_has : ByteArray := prog_3_method_3_code
def yX1_has : MethodName := ⟨RX1, "has", "(I)Z"⟩
abbrev cX1_at : ByteArray := prog_3_method_4_code
def yX1_at : MethodName := ⟨RX1, "at", "(I)LMoveTexts$Node;"⟩
abbrev cX1_childWith : ByteArray := prog_3_method_5_code
def yX1_childWith : MethodName := ⟨RX1, "childWith", "(II)I"⟩
abbrev cX1_grow : ByteArray := prog_3_method_6_code
def yX1_grow : MethodName := ⟨RX1, "grow", "(II)I"⟩
abbrev cX1_goesOn : ByteArray := prog_3_method_7_code
def yX1_goesOn : MethodName := ⟨RX1, "goesOn", "(I)Z"⟩
abbrev cX1_deepOfNext : ByteArray := prog_3_method_8_code
def yX1_deepOfNext : MethodName := ⟨RX1, "deepOfNext", "(I)I"⟩
abbrev cX1_mayLead : ByteArray := prog_3_method_9_code
def yX1_mayLead : MethodName := ⟨RX1, "mayLead", "(I)Z"⟩
abbrev cX1_putFirst : ByteArray := prog_3_method_10_code
def yX1_putFirst : MethodName := ⟨RX1, "putFirst", "(I)V"⟩
abbrev cX1_standAt : ByteArray := prog_3_method_11_code
def yX1_standAt : MethodName := ⟨RX1, "standAt", "(ILMoveTexts$Board;)V"⟩
abbrev cX1_tagAt : ByteArray := prog_3_method_12_code
def yX1_tagAt : MethodName := ⟨RX1, "tagAt", "(I)LMoveTexts$Tag;"⟩
abbrev cX1_hasTag : ByteArray := prog_3_method_13_code
def yX1_hasTag : MethodName := ⟨RX1, "hasTag", "(LMoveTexts$Row;)Z"⟩
abbrev cX1_putTag : ByteArray := prog_3_method_14_code
def yX1_putTag : MethodName := ⟨RX1, "putTag", "(LMoveTexts$Row;LMoveTexts$Row;)V"⟩
abbrev cX1_agreesWith : ByteArray := prog_3_method_15_code
def yX1_agreesWith : MethodName := ⟨RX1, "agreesWith", "(I)Z"⟩
def RX2 : String := "MoveTexts$GameReader"
def TX2 : u_T := fun k => match k with
  | 0 => ("MoveTexts$GameReader", "signReader", "LMoveTexts$SignReader;", true)
  | 1 => ("MoveTexts$GameReader", "positionReader", "LMoveTexts$PositionReader;", true)
  | 2 => ("MoveTexts$GameReader", "text", "LMoveTexts$Row;", false)
  | 3 => ("MoveTexts$GameReader", "game", "LMoveTexts$Game;", false)
  | 4 => ("MoveTexts$GameReader", "at", "I", false)
  | 5 => ("MoveTexts$GameReader", "fault", "I", false)
  | 6 => ("MoveTexts$GameReader", "name", "LMoveTexts$Row;", true)
  | 7 => ("MoveTexts$GameReader", "value", "LMoveTexts$Row;", true)
  | 8 => ("MoveTexts$GameReader", "root", "[I", true)
  | 9 => ("MoveTexts$GameReader", "last", "[I", true)
  | 10 => ("MoveTexts$GameReader", "before", "[LMoveTexts$Board;", true)
  | _ => ("MoveTexts$GameReader", "behind", "[LMoveTexts$Board;", true)
def tyX2 : Nat → FieldType := fun k => match k with
  | 0 => .object "MoveTexts$SignReader"
  | 1 => .object "MoveTexts$PositionReader"
  | 2 => .object "MoveTexts$Row"
  | 3 => .object "MoveTexts$Game"
  | 4 => .int
  | 5 => .int
  | 6 => .object "MoveTexts$Row"
  | 7 => .object "MoveTexts$Row"
  | 8 => .array .int
  | 9 => .array .int
  | 10 => .array (.object "MoveTexts$Board")
  | _ => .array (.object "MoveTexts$Board")
abbrev wsX20 : List Cond := u_ws RX2 TX2 12
theorem nmX2 : ∀ a, a < 12 → ∀ b, b < 12 → a ≠ b → (TX2 a).2.1 ≠ (TX2 b).2.1 := by decide +kernel
theorem tyX2_ok : ∀ k, k < 12 → parseFieldDescriptor (TX2 k).2.2.1 = some (tyX2 k) := by decide +kernel
abbrev cX2_init : ByteArray := prog_4_method_1_code
def yX2_init : MethodName := ⟨RX2, "<init>", "()V"⟩
abbrev cX2_begin : ByteArray := prog_4_method_2_code
def yX2_begin : MethodName := ⟨RX2, "begin", "(LMoveTexts$Row;)V"⟩
abbrev cX2_fault : ByteArray := prog_4_method_3_code
def yX2_fault : MethodName := ⟨RX2, "fault", "()I"⟩
abbrev cX2_exchange : ByteArray := prog_4_method_4_code
def yX2_exchange : MethodName := ⟨RX2, "exchange", "(LMoveTexts$Game;)LMoveTexts$Game;"⟩
abbrev cX2_refuse : ByteArray := prog_4_method_5_code
def yX2_refuse : MethodName := ⟨RX2, "refuse", "(II)Z"⟩
abbrev cX2_skipBlanks : ByteArray := prog_4_method_6_code
def yX2_skipBlanks : MethodName := ⟨RX2, "skipBlanks", "()V"⟩
abbrev cX2_readHead : ByteArray := prog_4_method_7_code
def yX2_readHead : MethodName := ⟨RX2, "readHead", "()Z"⟩
abbrev cX2_readTag : ByteArray := prog_4_method_8_code
def yX2_readTag : MethodName := ⟨RX2, "readTag", "()Z"⟩
abbrev cX2_readName : ByteArray := prog_4_method_9_code
def yX2_readName : MethodName := ⟨RX2, "readName", "()Z"⟩
abbrev cX2_readValue : ByteArray := prog_4_method_10_code
def yX2_readValue : MethodName := ⟨RX2, "readValue", "()Z"⟩
abbrev cX2_readRemarks : ByteArray := prog_4_method_11_code
def yX2_readRemarks : MethodName := ⟨RX2, "readRemarks", "(LMoveTexts$Node;)Z"⟩
abbrev cX2_readRemark : ByteArray := prog_4_method_12_code
def yX2_readRemark : MethodName := ⟨RX2, "readRemark", "(LMoveTexts$Node;)Z"⟩
abbrev cX2_readMoves : ByteArray := prog_4_method_13_code
def yX2_readMoves : MethodName := ⟨RX2, "readMoves", "()Z"⟩
abbrev cX2_openLine : ByteArray := prog_4_method_14_code
def yX2_openLine : MethodName := ⟨RX2, "openLine", "(I)V"⟩
abbrev cX2_readMove : ByteArray := prog_4_method_15_code
def yX2_readMove : MethodName := ⟨RX2, "readMove", "(I)Z"⟩
abbrev cX2_readNumber : ByteArray := prog_4_method_16_code
def yX2_readNumber : MethodName := ⟨RX2, "readNumber", "(I)Z"⟩
abbrev cX2_readDigits : ByteArray := prog_4_method_17_code
def yX2_readDigits : MethodName := ⟨RX2, "readDigits", "(I)I"⟩
abbrev cX2_skipSigns : ByteArray := prog_4_method_18_code
def yX2_skipSigns : MethodName := ⟨RX2, "skipSigns", "()V"⟩
abbrev cX2_isSign : ByteArray := prog_4_method_19_code
def yX2_isSign : MethodName := ⟨RX2, "isSign", "(C)Z"⟩
abbrev cX2_readMarks : ByteArray := prog_4_method_20_code
def yX2_readMarks : MethodName := ⟨RX2, "readMarks", "(LMoveTexts$Node;)Z"⟩
abbrev cX2_shortMark : ByteArray := prog_4_method_21_code
def yX2_shortMark : MethodName := ⟨RX2, "shortMark", "(CC)I"⟩
abbrev cX2_readMark : ByteArray := prog_4_method_22_code
def yX2_readMark : MethodName := ⟨RX2, "readMark", "(LMoveTexts$Node;)Z"⟩
abbrev cX2_resultHere : ByteArray := prog_4_method_23_code
def yX2_resultHere : MethodName := ⟨RX2, "resultHere", "()I"⟩
abbrev cX2_readEnd : ByteArray := prog_4_method_24_code
def yX2_readEnd : MethodName := ⟨RX2, "readEnd", "()Z"⟩
def RX3 : String := "MoveTexts$GameWriter"
def TX3 : u_T := fun k => match k with
  | 0 => ("MoveTexts$GameWriter", "signWriter", "LMoveTexts$SignWriter;", true)
  | _ => ("MoveTexts$GameWriter", "boards", "[LMoveTexts$Board;", true)
def tyX3 : Nat → FieldType := fun k => match k with
  | 0 => .object "MoveTexts$SignWriter"
  | _ => .array (.object "MoveTexts$Board")
abbrev wsX30 : List Cond := u_ws RX3 TX3 2
theorem nmX3 : ∀ a, a < 2 → ∀ b, b < 2 → a ≠ b → (TX3 a).2.1 ≠ (TX3 b).2.1 := by decide +kernel
theorem tyX3_ok : ∀ k, k < 2 → parseFieldDescriptor (TX3 k).2.2.1 = some (tyX3 k) := by decide +kernel
abbrev cX3_init : ByteArray := prog_5_method_1_code
def yX3_init : MethodName := ⟨RX3, "<init>", "()V"⟩
abbrev cX3_putHead : ByteArray := prog_5_method_2_code
def yX3_putHead : MethodName := ⟨RX3, "putHead", "(LMoveTexts$Game;LMoveTexts$Row;)V"⟩
abbrev cX3_putQuoted : ByteArray := prog_5_method_3_code
def yX3_putQuoted : MethodName := ⟨RX3, "putQuoted", "(LMoveTexts$Row;LMoveTexts$Row;)V"⟩
abbrev cX3_putEnd : ByteArray := prog_5_method_4_code
def yX3_putEnd : MethodName := ⟨RX3, "putEnd", "(LMoveTexts$Game;LMoveTexts$Row;)V"⟩
abbrev cX3_putGap : ByteArray := prog_5_method_5_code
def yX3_putGap : MethodName := ⟨RX3, "putGap", "(LMoveTexts$Row;)V"⟩
abbrev cX3_putRemark : ByteArray := prog_5_method_6_code
def yX3_putRemark : MethodName := ⟨RX3, "putRemark", "(LMoveTexts$Node;LMoveTexts$Row;)V"⟩
abbrev cX3_putLine : ByteArray := prog_5_method_7_code
def yX3_putLine : MethodName := ⟨RX3, "putLine", "(LMoveTexts$Game;IILMoveTexts$Row;)V"⟩
abbrev cX3_putMove : ByteArray := prog_5_method_8_code
def yX3_putMove : MethodName := ⟨RX3, "putMove", "(LMoveTexts$Board;LMoveTexts$Node;ZLMoveTexts$Row;)V"⟩
def RX4 : String := "MoveTexts$Node"
def TX4 : u_T := fun k => match k with
  | 0 => ("MoveTexts$Node", "parent", "I", false)
  | 1 => ("MoveTexts$Node", "move", "I", false)
  | 2 => ("MoveTexts$Node", "first", "I", false)
  | 3 => ("MoveTexts$Node", "next", "I", false)
  | 4 => ("MoveTexts$Node", "markCount", "I", false)
  | 5 => ("MoveTexts$Node", "marks", "I", false)
  | _ => ("MoveTexts$Node", "remark", "LMoveTexts$Row;", true)
def tyX4 : Nat → FieldType := fun k => match k with
  | 0 => .int
  | 1 => .int
  | 2 => .int
  | 3 => .int
  | 4 => .int
  | 5 => .int
  | _ => .object "MoveTexts$Row"
abbrev wsX40 : List Cond := u_ws RX4 TX4 7
theorem nmX4 : ∀ a, a < 7 → ∀ b, b < 7 → a ≠ b → (TX4 a).2.1 ≠ (TX4 b).2.1 := by decide +kernel
theorem tyX4_ok : ∀ k, k < 7 → parseFieldDescriptor (TX4 k).2.2.1 = some (tyX4 k) := by decide +kernel
abbrev cX4_init : ByteArray := prog_6_method_1_code
def yX4_init : MethodName := ⟨RX4, "<init>", "()V"⟩
abbrev cX4_become : ByteArray := prog_6_method_2_code
def yX4_become : MethodName := ⟨RX4, "become", "(II)V"⟩
abbrev cX4_markAt : ByteArray := prog_6_method_3_code
def yX4_markAt : MethodName := ⟨RX4, "markAt", "(I)I"⟩
abbrev cX4_putMark : ByteArray := prog_6_method_4_code
def yX4_putMark : MethodName := ⟨RX4, "putMark", "(I)V"⟩
abbrev cX4_joinRemark : ByteArray := prog_6_method_5_code
def yX4_joinRemark : MethodName := ⟨RX4, "joinRemark", "(LMoveTexts$Row;II)Z"⟩
def RX5 : String := "MoveTexts$PositionReader"
def TX5 : u_T := fun k => match k with
  | 0 => ("MoveTexts$PositionReader", "text", "LMoveTexts$Row;", false)
  | _ => ("MoveTexts$PositionReader", "at", "I", false)
def tyX5 : Nat → FieldType := fun k => match k with
  | 0 => .object "MoveTexts$Row"
  | _ => .int
abbrev wsX50 : List Cond := u_ws RX5 TX5 2
theorem nmX5 : ∀ a, a < 2 → ∀ b, b < 2 → a ≠ b → (TX5 a).2.1 ≠ (TX5 b).2.1 := by decide +kernel
theorem tyX5_ok : ∀ k, k < 2 → parseFieldDescriptor (TX5 k).2.2.1 = some (tyX5 k) := by decide +kernel
abbrev cX5_init : ByteArray := prog_7_method_1_code
def yX5_init : MethodName := ⟨RX5, "<init>", "()V"⟩
abbrev cX5_readInto : ByteArray := prog_7_method_2_code
def yX5_readInto : MethodName := ⟨RX5, "readInto", "(LMoveTexts$Board;LMoveTexts$Row;)Z"⟩
abbrev cX5_skip : ByteArray := prog_7_method_3_code
def yX5_skip : MethodName := ⟨RX5, "skip", "(C)Z"⟩
abbrev cX5_readMen : ByteArray := prog_7_method_4_code
def yX5_readMen : MethodName := ⟨RX5, "readMen", "(LMoveTexts$Board;)Z"⟩
abbrev cX5_readRank : ByteArray := prog_7_method_5_code
def yX5_readRank : MethodName := ⟨RX5, "readRank", "(LMoveTexts$Board;I)Z"⟩
abbrev cX5_readSide : ByteArray := prog_7_method_6_code
def yX5_readSide : MethodName := ⟨RX5, "readSide", "(LMoveTexts$Board;)Z"⟩
abbrev cX5_readRights : ByteArray := prog_7_method_7_code
def yX5_readRights : MethodName := ⟨RX5, "readRights", "(LMoveTexts$Board;)Z"⟩
abbrev cX5_readPassed : ByteArray := prog_7_method_8_code
def yX5_readPassed : MethodName := ⟨RX5, "readPassed", "(LMoveTexts$Board;)Z"⟩
abbrev cX5_readNumber : ByteArray := prog_7_method_9_code
def yX5_readNumber : MethodName := ⟨RX5, "readNumber", "()I"⟩
abbrev cX5_readMoveNumber : ByteArray := prog_7_method_10_code
def yX5_readMoveNumber : MethodName := ⟨RX5, "readMoveNumber", "(LMoveTexts$Board;)Z"⟩
abbrev cX5_hasSoundMen : ByteArray := prog_7_method_11_code
def yX5_hasSoundMen : MethodName := ⟨RX5, "hasSoundMen", "(LMoveTexts$Board;)Z"⟩
abbrev cX5_hasSoundRights : ByteArray := prog_7_method_12_code
def yX5_hasSoundRights : MethodName := ⟨RX5, "hasSoundRights", "(LMoveTexts$Board;)Z"⟩
abbrev cX5_hasSoundPassed : ByteArray := prog_7_method_13_code
def yX5_hasSoundPassed : MethodName := ⟨RX5, "hasSoundPassed", "(LMoveTexts$Board;)Z"⟩
def RX6 : String := "MoveTexts$Row"
def TX6 : u_T := fun k => match k with
  | 0 => ("MoveTexts$Row", "chars", "[C", false)
  | _ => ("MoveTexts$Row", "length", "I", false)
def tyX6 : Nat → FieldType := fun k => match k with
  | 0 => .array .char
  | _ => .int
abbrev wsX60 : List Cond := u_ws RX6 TX6 2
theorem nmX6 : ∀ a, a < 2 → ∀ b, b < 2 → a ≠ b → (TX6 a).2.1 ≠ (TX6 b).2.1 := by decide +kernel
theorem tyX6_ok : ∀ k, k < 2 → parseFieldDescriptor (TX6 k).2.2.1 = some (tyX6 k) := by decide +kernel
abbrev cX6_init : ByteArray := prog_8_method_1_code
def yX6_init : MethodName := ⟨RX6, "<init>", "()V"⟩
abbrev cX6_size : ByteArray := prog_8_method_2_code
def yX6_size : MethodName := ⟨RX6, "size", "()I"⟩
abbrev cX6_at : ByteArray := prog_8_method_3_code
def yX6_at : MethodName := ⟨RX6, "at", "(I)C"⟩
abbrev cX6_keep : ByteArray := prog_8_method_4_code
def yX6_keep : MethodName := ⟨RX6, "keep", "(I)V"⟩
abbrev cX6_put : ByteArray := prog_8_method_5_code
def yX6_put : MethodName := ⟨RX6, "put", "(C)V"⟩
abbrev cX6_putText : ByteArray := prog_8_method_6_code
def yX6_putText : MethodName := ⟨RX6, "putText", "(Ljava/lang/String;)V"⟩
abbrev cX6_putNumber : ByteArray := prog_8_method_7_code
def yX6_putNumber : MethodName := ⟨RX6, "putNumber", "(I)V"⟩
abbrev cX6_copyFrom : ByteArray := prog_8_method_8_code
def yX6_copyFrom : MethodName := ⟨RX6, "copyFrom", "(LMoveTexts$Row;)V"⟩
abbrev cX6_putAll : ByteArray := prog_8_method_9_code
def yX6_putAll : MethodName := ⟨RX6, "putAll", "(LMoveTexts$Row;)V"⟩
abbrev cX6_indexOf : ByteArray := prog_8_method_10_code
def yX6_indexOf : MethodName := ⟨RX6, "indexOf", "(CI)I"⟩
abbrev cX6_holds : ByteArray := prog_8_method_11_code
def yX6_holds : MethodName := ⟨RX6, "holds", "(Ljava/lang/String;I)Z"⟩
abbrev cX6_is : ByteArray := prog_8_method_12_code
def yX6_is : MethodName := ⟨RX6, "is", "(Ljava/lang/String;)Z"⟩
abbrev cX6_isLike : ByteArray := prog_8_method_13_code
def yX6_isLike : MethodName := ⟨RX6, "isLike", "(LMoveTexts$Row;)Z"⟩
def RX7 : String := "MoveTexts$Rules"
def TX7 : u_T := fun k => match k with
  | 0 => ("MoveTexts$Rules", "trial", "LMoveTexts$Board;", true)
  | _ => ("MoveTexts$Rules", "after", "LMoveTexts$Board;", true)
def tyX7 : Nat → FieldType := fun k => match k with
  | 0 => .object "MoveTexts$Board"
  | _ => .object "MoveTexts$Board"
abbrev wsX70 : List Cond := u_ws RX7 TX7 2
theorem nmX7 : ∀ a, a < 2 → ∀ b, b < 2 → a ≠ b → (TX7 a).2.1 ≠ (TX7 b).2.1 := by decide +kernel
theorem tyX7_ok : ∀ k, k < 2 → parseFieldDescriptor (TX7 k).2.2.1 = some (tyX7 k) := by decide +kernel
abbrev cX7_init : ByteArray := prog_9_method_1_code
def yX7_init : MethodName := ⟨RX7, "<init>", "()V"⟩
abbrev cX7_isSafe : ByteArray := prog_9_method_2_code
def yX7_isSafe : MethodName := ⟨RX7, "isSafe", "(LMoveTexts$Board;I)Z"⟩
abbrev cX7_isLegal : ByteArray := prog_9_method_3_code
def yX7_isLegal : MethodName := ⟨RX7, "isLegal", "(LMoveTexts$Board;I)Z"⟩
abbrev cX7_legalMove : ByteArray := prog_9_method_4_code
def yX7_legalMove : MethodName := ⟨RX7, "legalMove", "(LMoveTexts$Board;I)I"⟩
abbrev cX7_checkSign : ByteArray := prog_9_method_5_code
def yX7_checkSign : MethodName := ⟨RX7, "checkSign", "(LMoveTexts$Board;I)C"⟩
def RX8 : String := "MoveTexts$SignReader"
def TX8 : u_T := fun k => match k with
  | 0 => ("MoveTexts$SignReader", "rules", "LMoveTexts$Rules;", true)
  | 1 => ("MoveTexts$SignReader", "row", "LMoveTexts$Row;", true)
  | 2 => ("MoveTexts$SignReader", "castling", "I", false)
  | 3 => ("MoveTexts$SignReader", "kind", "I", false)
  | 4 => ("MoveTexts$SignReader", "file", "I", false)
  | 5 => ("MoveTexts$SignReader", "rank", "I", false)
  | 6 => ("MoveTexts$SignReader", "to", "I", false)
  | 7 => ("MoveTexts$SignReader", "becomes", "I", false)
  | 8 => ("MoveTexts$SignReader", "taking", "I", false)
  | 9 => ("MoveTexts$SignReader", "check", "C", false)
  | 10 => ("MoveTexts$SignReader", "fitting", "[I", true)
  | _ => ("MoveTexts$SignReader", "fits", "I", false)
def tyX8 : Nat → FieldType := fun k => match k with
  | 0 => .object "MoveTexts$Rules"
  | 1 => .object "MoveTexts$Row"
  | 2 => .int
  | 3 => .int
  | 4 => .int
  | 5 => .int
  | 6 => .int
  | 7 => .int
  | 8 => .int
  | 9 => .char
  | 10 => .array .int
  | _ => .int
abbrev wsX80 : List Cond := u_ws RX8 TX8 12
theorem nmX8 : ∀ a, a < 12 → ∀ b, b < 12 → a ≠ b → (TX8 a).2.1 ≠ (TX8 b).2.1 := by decide +kernel
theorem tyX8_ok : ∀ k, k < 12 → parseFieldDescriptor (TX8 k).2.2.1 = some (tyX8 k) := by decide +kernel
abbrev cX8_init : ByteArray := prog_10_method_1_code
def yX8_init : MethodName := ⟨RX8, "<init>", "()V"⟩
abbrev cX8_matched : ByteArray := prog_10_method_2_code
def yX8_matched : MethodName := ⟨RX8, "matched", "(LMoveTexts$Board;LMoveTexts$Row;II)I"⟩
abbrev cX8_copyWhole : ByteArray := prog_10_method_3_code
def yX8_copyWhole : MethodName := ⟨RX8, "copyWhole", "(LMoveTexts$Row;II)V"⟩
abbrev cX8_copyBare : ByteArray := prog_10_method_4_code
def yX8_copyBare : MethodName := ⟨RX8, "copyBare", "(LMoveTexts$Row;II)V"⟩
abbrev cX8_parse : ByteArray := prog_10_method_5_code
def yX8_parse : MethodName := ⟨RX8, "parse", "()Z"⟩
abbrev cX8_parseApart : ByteArray := prog_10_method_6_code
def yX8_parseApart : MethodName := ⟨RX8, "parseApart", "(II)Z"⟩
abbrev cX8_gather : ByteArray := prog_10_method_7_code
def yX8_gather : MethodName := ⟨RX8, "gather", "(LMoveTexts$Board;)V"⟩
abbrev cX8_fitsFrom : ByteArray := prog_10_method_8_code
def yX8_fitsFrom : MethodName := ⟨RX8, "fitsFrom", "(LMoveTexts$Board;I)Z"⟩
def RX9 : String := "MoveTexts$SignWriter"
def TX9 : u_T := fun k => match k with
  | _ => ("MoveTexts$SignWriter", "rules", "LMoveTexts$Rules;", true)
def tyX9 : Nat → FieldType := fun k => match k with
  | _ => .object "MoveTexts$Rules"
abbrev wsX90 : List Cond := u_ws RX9 TX9 1
theorem nmX9 : ∀ a, a < 1 → ∀ b, b < 1 → a ≠ b → (TX9 a).2.1 ≠ (TX9 b).2.1 := by decide +kernel
theorem tyX9_ok : ∀ k, k < 1 → parseFieldDescriptor (TX9 k).2.2.1 = some (tyX9 k) := by decide +kernel
abbrev cX9_init : ByteArray := prog_11_method_1_code
def yX9_init : MethodName := ⟨RX9, "<init>", "()V"⟩
abbrev cX9_putSigns : ByteArray := prog_11_method_2_code
def yX9_putSigns : MethodName := ⟨RX9, "putSigns", "(LMoveTexts$Board;ILMoveTexts$Row;)V"⟩
abbrev cX9_putApart : ByteArray := prog_11_method_3_code
def yX9_putApart : MethodName := ⟨RX9, "putApart", "(LMoveTexts$Board;IILMoveTexts$Row;)V"⟩
def RX10 : String := "MoveTexts$Tag"
def TX10 : u_T := fun k => match k with
  | 0 => ("MoveTexts$Tag", "name", "LMoveTexts$Row;", true)
  | _ => ("MoveTexts$Tag", "value", "LMoveTexts$Row;", true)
def tyX10 : Nat → FieldType := fun k => match k with
  | 0 => .object "MoveTexts$Row"
  | _ => .object "MoveTexts$Row"
abbrev wsX100 : List Cond := u_ws RX10 TX10 2
theorem nmX10 : ∀ a, a < 2 → ∀ b, b < 2 → a ≠ b → (TX10 a).2.1 ≠ (TX10 b).2.1 := by decide +kernel
theorem tyX10_ok : ∀ k, k < 2 → parseFieldDescriptor (TX10 k).2.2.1 = some (tyX10 k) := by decide +kernel
abbrev cX10_init : ByteArray := prog_12_method_1_code
def yX10_init : MethodName := ⟨RX10, "<init>", "()V"⟩
def RX11 : String := "MoveTexts"
def TX11 : u_T := fun k => match k with
  | 0 => ("MoveTexts", "text", "LMoveTexts$Row;", true)
  | 1 => ("MoveTexts", "out", "LMoveTexts$Row;", true)
  | 2 => ("MoveTexts", "rules", "LMoveTexts$Rules;", true)
  | 3 => ("MoveTexts", "signReader", "LMoveTexts$SignReader;", true)
  | 4 => ("MoveTexts", "signWriter", "LMoveTexts$SignWriter;", true)
  | 5 => ("MoveTexts", "gameReader", "LMoveTexts$GameReader;", true)
  | 6 => ("MoveTexts", "gameWriter", "LMoveTexts$GameWriter;", true)
  | 7 => ("MoveTexts", "game", "LMoveTexts$Game;", false)
  | 8 => ("MoveTexts", "here", "I", false)
  | _ => ("MoveTexts", "board", "LMoveTexts$Board;", true)
def tyX11 : Nat → FieldType := fun k => match k with
  | 0 => .object "MoveTexts$Row"
  | 1 => .object "MoveTexts$Row"
  | 2 => .object "MoveTexts$Rules"
  | 3 => .object "MoveTexts$SignReader"
  | 4 => .object "MoveTexts$SignWriter"
  | 5 => .object "MoveTexts$GameReader"
  | 6 => .object "MoveTexts$GameWriter"
  | 7 => .object "MoveTexts$Game"
  | 8 => .int
  | _ => .object "MoveTexts$Board"
abbrev wsX110 : List Cond := u_ws RX11 TX11 10
theorem nmX11 : ∀ a, a < 10 → ∀ b, b < 10 → a ≠ b → (TX11 a).2.1 ≠ (TX11 b).2.1 := by decide +kernel
theorem tyX11_ok : ∀ k, k < 10 → parseFieldDescriptor (TX11 k).2.2.1 = some (tyX11 k) := by decide +kernel
abbrev cX11_init : ByteArray := prog_1_method_1_code
def yX11_init : MethodName := ⟨RX11, "<init>", "()V"⟩
abbrev cX11_type : ByteArray := prog_1_method_2_code
def yX11_type : MethodName := ⟨RX11, "type", "(JI)Z"⟩
abbrev cX11_cut : ByteArray := prog_1_method_3_code
def yX11_cut : MethodName := ⟨RX11, "cut", "(I)Z"⟩
abbrev cX11_read : ByteArray := prog_1_method_4_code
def yX11_read : MethodName := ⟨RX11, "read", "()I"⟩
abbrev cX11_find : ByteArray := prog_1_method_5_code
def yX11_find : MethodName := ⟨RX11, "find", "()I"⟩
abbrev cX11_write : ByteArray := prog_1_method_6_code
def yX11_write : MethodName := ⟨RX11, "write", "()I"⟩
abbrev cX11_signs : ByteArray := prog_1_method_7_code
def yX11_signs : MethodName := ⟨RX11, "signs", "(I)I"⟩
abbrev cX11_out : ByteArray := prog_1_method_8_code
def yX11_out : MethodName := ⟨RX11, "out", "(I)I"⟩
abbrev cX11_nodes : ByteArray := prog_1_method_9_code
def yX11_nodes : MethodName := ⟨RX11, "nodes", "()I"⟩
abbrev cX11_node : ByteArray := prog_1_method_10_code
def yX11_node : MethodName := ⟨RX11, "node", "(II)I"⟩
abbrev cX11_mark : ByteArray := prog_1_method_11_code
def yX11_mark : MethodName := ⟨RX11, "mark", "(II)I"⟩
abbrev cX11_remark : ByteArray := prog_1_method_12_code
def yX11_remark : MethodName := ⟨RX11, "remark", "(II)I"⟩
abbrev cX11_here : ByteArray := prog_1_method_13_code
def yX11_here : MethodName := ⟨RX11, "here", "()I"⟩
abbrev cX11_go : ByteArray := prog_1_method_14_code
def yX11_go : MethodName := ⟨RX11, "go", "(I)V"⟩
abbrev cX11_man : ByteArray := prog_1_method_15_code
def yX11_man : MethodName := ⟨RX11, "man", "(I)I"⟩
abbrev cX11_move : ByteArray := prog_1_method_16_code
def yX11_move : MethodName := ⟨RX11, "move", "(I)I"⟩
abbrev cX11_add : ByteArray := prog_1_method_17_code
def yX11_add : MethodName := ⟨RX11, "add", "(I)I"⟩
abbrev cX11_addMark : ByteArray := prog_1_method_18_code
def yX11_addMark : MethodName := ⟨RX11, "addMark", "(I)I"⟩
abbrev cX11_say : ByteArray := prog_1_method_19_code
def yX11_say : MethodName := ⟨RX11, "say", "()I"⟩
abbrev cX11_lead : ByteArray := prog_1_method_20_code
def yX11_lead : MethodName := ⟨RX11, "lead", "()Z"⟩
abbrev cX11_end : ByteArray := prog_1_method_21_code
def yX11_end : MethodName := ⟨RX11, "end", "(I)V"⟩
abbrev cX11_result : ByteArray := prog_1_method_22_code
def yX11_result : MethodName := ⟨RX11, "result", "()I"⟩
abbrev cX11_tags : ByteArray := prog_1_method_23_code
def yX11_tags : MethodName := ⟨RX11, "tags", "()I"⟩
abbrev cX11_tag : ByteArray := prog_1_method_24_code
def yX11_tag : MethodName := ⟨RX11, "tag", "(IZI)I"⟩
abbrev cX11_byteOf : ByteArray := prog_1_method_25_code
def yX11_byteOf : MethodName := ⟨RX11, "byteOf", "(JI)C"⟩
abbrev cX11_isDigit : ByteArray := prog_1_method_26_code
def yX11_isDigit : MethodName := ⟨RX11, "isDigit", "(C)Z"⟩
abbrev cX11_isLetter : ByteArray := prog_1_method_27_code
def yX11_isLetter : MethodName := ⟨RX11, "isLetter", "(C)Z"⟩
abbrev cX11_isFile : ByteArray := prog_1_method_28_code
def yX11_isFile : MethodName := ⟨RX11, "isFile", "(C)Z"⟩
abbrev cX11_isRank : ByteArray := prog_1_method_29_code
def yX11_isRank : MethodName := ⟨RX11, "isRank", "(C)Z"⟩
abbrev cX11_squareOf : ByteArray := prog_1_method_30_code
def yX11_squareOf : MethodName := ⟨RX11, "squareOf", "(CC)I"⟩
abbrev cX11_fileLetter : ByteArray := prog_1_method_31_code
def yX11_fileLetter : MethodName := ⟨RX11, "fileLetter", "(I)C"⟩
abbrev cX11_rankDigit : ByteArray := prog_1_method_32_code
def yX11_rankDigit : MethodName := ⟨RX11, "rankDigit", "(I)C"⟩
abbrev cX11_kindOf : ByteArray := prog_1_method_33_code
def yX11_kindOf : MethodName := ⟨RX11, "kindOf", "(C)I"⟩
abbrev cX11_letterOf : ByteArray := prog_1_method_34_code
def yX11_letterOf : MethodName := ⟨RX11, "letterOf", "(I)C"⟩
abbrev cX11_resultSign : ByteArray := prog_1_method_35_code
def yX11_resultSign : MethodName := ⟨RX11, "resultSign", "(I)Ljava/lang/String;"⟩
def RX12 : String := "MoveTextsModel"
def TX12 : u_T := fun k => match k with
  | 0 => ("MoveTextsModel", "thrown", "I", false)
  | 1 => ("MoveTextsModel", "typed", "I", false)
  | 2 => ("MoveTextsModel", "text", "[C", true)
  | 3 => ("MoveTextsModel", "told", "I", false)
  | 4 => ("MoveTextsModel", "out", "[C", true)
  | 5 => ("MoveTextsModel", "game", "I", false)
  | 6 => ("MoveTextsModel", "here", "I", false)
  | 7 => ("MoveTextsModel", "count", "[I", true)
  | 8 => ("MoveTextsModel", "parent", "[I", true)
  | 9 => ("MoveTextsModel", "moveOf", "[I", true)
  | 10 => ("MoveTextsModel", "child", "[I", true)
  | 11 => ("MoveTextsModel", "next", "[I", true)
  | 12 => ("MoveTextsModel", "markCount", "[I", true)
  | 13 => ("MoveTextsModel", "marks", "[I", true)
  | 14 => ("MoveTextsModel", "remarkSize", "[I", true)
  | 15 => ("MoveTextsModel", "remarks", "[C", true)
  | 16 => ("MoveTextsModel", "startMen", "[I", true)
  | 17 => ("MoveTextsModel", "startRest", "[I", true)
  | 18 => ("MoveTextsModel", "tagCount", "[I", true)
  | 19 => ("MoveTextsModel", "nameSize", "[I", true)
  | 20 => ("MoveTextsModel", "names", "[C", true)
  | 21 => ("MoveTextsModel", "valueSize", "[I", true)
  | 22 => ("MoveTextsModel", "values", "[C", true)
  | 23 => ("MoveTextsModel", "results", "[I", true)
  | 24 => ("MoveTextsModel", "men", "[I", true)
  | 25 => ("MoveTextsModel", "side", "I", false)
  | 26 => ("MoveTextsModel", "rights", "I", false)
  | 27 => ("MoveTextsModel", "passed", "I", false)
  | 28 => ("MoveTextsModel", "clock", "I", false)
  | 29 => ("MoveTextsModel", "number", "I", false)
  | 30 => ("MoveTextsModel", "keptMen", "[I", true)
  | 31 => ("MoveTextsModel", "keptRest", "[I", true)
  | 32 => ("MoveTextsModel", "list", "[I", true)
  | 33 => ("MoveTextsModel", "moves", "I", false)
  | 34 => ("MoveTextsModel", "path", "[I", true)
  | 35 => ("MoveTextsModel", "spelled", "[C", true)
  | 36 => ("MoveTextsModel", "spelledSize", "I", false)
  | 37 => ("MoveTextsModel", "at", "I", false)
  | 38 => ("MoveTextsModel", "valueAt", "I", false)
  | _ => ("MoveTextsModel", "valueEnd", "I", false)
def tyX12 : Nat → FieldType := fun k => match k with
  | 0 => .int
  | 1 => .int
  | 2 => .array .char
  | 3 => .int
  | 4 => .array .char
  | 5 => .int
  | 6 => .int
  | 7 => .array .int
  | 8 => .array .int
  | 9 => .array .int
  | 10 => .array .int
  | 11 => .array .int
  | 12 => .array .int
  | 13 => .array .int
  | 14 => .array .int
  | 15 => .array .char
  | 16 => .array .int
  | 17 => .array .int
  | 18 => .array .int
  | 19 => .array .int
  | 20 => .array .char
  | 21 => .array .int
  | 22 => .array .char
  | 23 => .array .int
  | 24 => .array .int
  | 25 => .int
  | 26 => .int
  | 27 => .int
  | 28 => .int
  | 29 => .int
  | 30 => .array .int
  | 31 => .array .int
  | 32 => .array .int
  | 33 => .int
  | 34 => .array .int
  | 35 => .array .char
  | 36 => .int
  | 37 => .int
  | 38 => .int
  | _ => .int
abbrev wsX120 : List Cond := u_ws RX12 TX12 40
theorem nmX12 : ∀ a, a < 40 → ∀ b, b < 40 → a ≠ b → (TX12 a).2.1 ≠ (TX12 b).2.1 := by decide +kernel
theorem tyX12_ok : ∀ k, k < 40 → parseFieldDescriptor (TX12 k).2.2.1 = some (tyX12 k) := by decide +kernel
abbrev cX12_init : ByteArray := prog_14_method_1_code
def yX12_init : MethodName := ⟨RX12, "<init>", "()V"⟩
abbrev cX12_kind : ByteArray := prog_14_method_3_code
def yX12_kind : MethodName := ⟨RX12, "kind", "(I)I"⟩
abbrev cX12_sideOf : ByteArray := prog_14_method_4_code
def yX12_sideOf : MethodName := ⟨RX12, "sideOf", "(I)I"⟩
abbrev cX12_step : ByteArray := prog_14_method_5_code
def yX12_step : MethodName := ⟨RX12, "step", "(III)I"⟩
abbrev cX12_stands : ByteArray := prog_14_method_6_code
def yX12_stands : MethodName := ⟨RX12, "stands", "(II)Z"⟩
abbrev cX12_met : ByteArray := prog_14_method_7_code
def yX12_met : MethodName := ⟨RX12, "met", "(III)I"⟩
abbrev cX12_isAttacked : ByteArray := prog_14_method_8_code
def yX12_isAttacked : MethodName := ⟨RX12, "isAttacked", "(II)Z"⟩
abbrev cX12_kingOf : ByteArray := prog_14_method_9_code
def yX12_kingOf : MethodName := ⟨RX12, "kingOf", "(I)I"⟩
abbrev cX12_isInCheck : ByteArray := prog_14_method_10_code
def yX12_isInCheck : MethodName := ⟨RX12, "isInCheck", "(I)Z"⟩
abbrev cX12_keep : ByteArray := prog_14_method_11_code
def yX12_keep : MethodName := ⟨RX12, "keep", "()V"⟩
abbrev cX12_bringBack : ByteArray := prog_14_method_12_code
def yX12_bringBack : MethodName := ⟨RX12, "bringBack", "()V"⟩
abbrev cX12_lose : ByteArray := prog_14_method_13_code
def yX12_lose : MethodName := ⟨RX12, "lose", "(I)V"⟩
abbrev cX12_isTaking : ByteArray := prog_14_method_14_code
def yX12_isTaking : MethodName := ⟨RX12, "isTaking", "(I)Z"⟩
abbrev cX12_make : ByteArray := prog_14_method_15_code
def yX12_make : MethodName := ⟨RX12, "make", "(I)V"⟩
abbrev cX12_isSafe : ByteArray := prog_14_method_16_code
def yX12_isSafe : MethodName := ⟨RX12, "isSafe", "(I)Z"⟩
abbrev cX12_isClear : ByteArray := prog_14_method_17_code
def yX12_isClear : MethodName := ⟨RX12, "isClear", "(II)Z"⟩
abbrev cX12_mayCastle : ByteArray := prog_14_method_18_code
def yX12_mayCastle : MethodName := ⟨RX12, "mayCastle", "(I)Z"⟩
abbrev cX12_pawnGoes : ByteArray := prog_14_method_19_code
def yX12_pawnGoes : MethodName := ⟨RX12, "pawnGoes", "(II)Z"⟩
abbrev cX12_goes : ByteArray := prog_14_method_20_code
def yX12_goes : MethodName := ⟨RX12, "goes", "(II)Z"⟩
abbrev cX12_findMoves : ByteArray := prog_14_method_21_code
def yX12_findMoves : MethodName := ⟨RX12, "findMoves", "()V"⟩
abbrev cX12_clearGame : ByteArray := prog_14_method_22_code
def yX12_clearGame : MethodName := ⟨RX12, "clearGame", "(I)V"⟩
abbrev cX12_clearNode : ByteArray := prog_14_method_23_code
def yX12_clearNode : MethodName := ⟨RX12, "clearNode", "(I)V"⟩
abbrev cX12_usual : ByteArray := prog_14_method_24_code
def yX12_usual : MethodName := ⟨RX12, "usual", "(I)V"⟩
abbrev cX12_start : ByteArray := prog_14_method_25_code
def yX12_start : MethodName := ⟨RX12, "start", "(I)V"⟩
abbrev cX12_place : ByteArray := prog_14_method_26_code
def yX12_place : MethodName := ⟨RX12, "place", "(II)V"⟩
abbrev cX12_childWith : ByteArray := prog_14_method_27_code
def yX12_childWith : MethodName := ⟨RX12, "childWith", "(III)I"⟩
abbrev cX12_append : ByteArray := prog_14_method_28_code
def yX12_append : MethodName := ⟨RX12, "append", "(III)I"⟩
abbrev cX12_isFirst : ByteArray := prog_14_method_29_code
def yX12_isFirst : MethodName := ⟨RX12, "isFirst", "(II)Z"⟩
abbrev cX12_deepOf : ByteArray := prog_14_method_30_code
def yX12_deepOf : MethodName := ⟨RX12, "deepOf", "(II)I"⟩
abbrev cX12_spell : ByteArray := prog_14_method_31_code
def yX12_spell : MethodName := ⟨RX12, "spell", "(C)V"⟩
abbrev cX12_spellSquare : ByteArray := prog_14_method_32_code
def yX12_spellSquare : MethodName := ⟨RX12, "spellSquare", "(I)V"⟩
abbrev cX12_letter : ByteArray := prog_14_method_33_code
def yX12_letter : MethodName := ⟨RX12, "letter", "(I)C"⟩
abbrev cX12_isCastling : ByteArray := prog_14_method_34_code
def yX12_isCastling : MethodName := ⟨RX12, "isCastling", "(I)Z"⟩
abbrev cX12_spellMove : ByteArray := prog_14_method_35_code
def yX12_spellMove : MethodName := ⟨RX12, "spellMove", "(IIZ)V"⟩
abbrev cX12_behind : ByteArray := prog_14_method_36_code
def yX12_behind : MethodName := ⟨RX12, "behind", "(I)C"⟩
abbrev cX12_isSafeOnce : ByteArray := prog_14_method_37_code
def yX12_isSafeOnce : MethodName := ⟨RX12, "isSafeOnce", "(I)Z"⟩
abbrev cX12_apartOf : ByteArray := prog_14_method_38_code
def yX12_apartOf : MethodName := ⟨RX12, "apartOf", "(I)I"⟩
abbrev cX12_spellWhole : ByteArray := prog_14_method_39_code
def yX12_spellWhole : MethodName := ⟨RX12, "spellWhole", "(I)V"⟩
abbrev cX12_isSpelled : ByteArray := prog_14_method_40_code
def yX12_isSpelled : MethodName := ⟨RX12, "isSpelled", "(IIZ)Z"⟩
abbrev cX12_fits : ByteArray := prog_14_method_41_code
def yX12_fits : MethodName := ⟨RX12, "fits", "(IIIZ)Z"⟩
abbrev cX12_understood : ByteArray := prog_14_method_42_code
def yX12_understood : MethodName := ⟨RX12, "understood", "(II)I"⟩
abbrev cX12_sign : ByteArray := prog_14_method_43_code
def yX12_sign : MethodName := ⟨RX12, "sign", "()C"⟩
abbrev cX12_pass : ByteArray := prog_14_method_44_code
def yX12_pass : MethodName := ⟨RX12, "pass", "(C)Z"⟩
abbrev cX12_manOf : ByteArray := prog_14_method_45_code
def yX12_manOf : MethodName := ⟨RX12, "manOf", "(C)I"⟩
abbrev cX12_readRank : ByteArray := prog_14_method_46_code
def yX12_readRank : MethodName := ⟨RX12, "readRank", "(I)Z"⟩
abbrev cX12_readNumber : ByteArray := prog_14_method_47_code
def yX12_readNumber : MethodName := ⟨RX12, "readNumber", "()I"⟩
abbrev cX12_readRights : ByteArray := prog_14_method_48_code
def yX12_readRights : MethodName := ⟨RX12, "readRights", "()Z"⟩
abbrev cX12_readPassed : ByteArray := prog_14_method_49_code
def yX12_readPassed : MethodName := ⟨RX12, "readPassed", "()Z"⟩
abbrev cX12_countOf : ByteArray := prog_14_method_50_code
def yX12_countOf : MethodName := ⟨RX12, "countOf", "(I)I"⟩
abbrev cX12_mayStand : ByteArray := prog_14_method_51_code
def yX12_mayStand : MethodName := ⟨RX12, "mayStand", "()Z"⟩
abbrev cX12_readPosition : ByteArray := prog_14_method_52_code
def yX12_readPosition : MethodName := ⟨RX12, "readPosition", "(II)Z"⟩
abbrev cX12_look : ByteArray := prog_14_method_53_code
def yX12_look : MethodName := ⟨RX12, "look", "()C"⟩
abbrev cX12_blanks : ByteArray := prog_14_method_54_code
def yX12_blanks : MethodName := ⟨RX12, "blanks", "()V"⟩
abbrev cX12_fault : ByteArray := prog_14_method_55_code
def yX12_fault : MethodName := ⟨RX12, "fault", "(II)I"⟩
abbrev cX12_isLetter : ByteArray := prog_14_method_56_code
def yX12_isLetter : MethodName := ⟨RX12, "isLetter", "(C)Z"⟩
abbrev cX12_isDigit : ByteArray := prog_14_method_57_code
def yX12_isDigit : MethodName := ⟨RX12, "isDigit", "(C)Z"⟩
abbrev cX12_isTag : ByteArray := prog_14_method_58_code
def yX12_isTag : MethodName := ⟨RX12, "isTag", "(III)Z"⟩
abbrev cX12_isNameThere : ByteArray := prog_14_method_59_code
def yX12_isNameThere : MethodName := ⟨RX12, "isNameThere", "(II)Z"⟩
abbrev cX12_readTag : ByteArray := prog_14_method_60_code
def yX12_readTag : MethodName := ⟨RX12, "readTag", "(I)I"⟩
abbrev cX12_readRemarks : ByteArray := prog_14_method_61_code
def yX12_readRemarks : MethodName := ⟨RX12, "readRemarks", "(II)I"⟩
abbrev cX12_goesOnWith : ByteArray := prog_14_method_62_code
def yX12_goesOnWith : MethodName := ⟨RX12, "goesOnWith", "(CCC)Z"⟩
abbrev cX12_resultHere : ByteArray := prog_14_method_63_code
def yX12_resultHere : MethodName := ⟨RX12, "resultHere", "()I"⟩
abbrev cX12_addMarkTo : ByteArray := prog_14_method_64_code
def yX12_addMarkTo : MethodName := ⟨RX12, "addMarkTo", "(III)V"⟩
abbrev cX12_readMarks : ByteArray := prog_14_method_65_code
def yX12_readMarks : MethodName := ⟨RX12, "readMarks", "(II)I"⟩
abbrev cX12_readMoveNumber : ByteArray := prog_14_method_66_code
def yX12_readMoveNumber : MethodName := ⟨RX12, "readMoveNumber", "()I"⟩
abbrev cX12_readMove : ByteArray := prog_14_method_67_code
def yX12_readMove : MethodName := ⟨RX12, "readMove", "(II)I"⟩
abbrev cX12_readLine : ByteArray := prog_14_method_68_code
def yX12_readLine : MethodName := ⟨RX12, "readLine", "(III)I"⟩
abbrev cX12_readGame : ByteArray := prog_14_method_69_code
def yX12_readGame : MethodName := ⟨RX12, "readGame", "(I)I"⟩
abbrev cX12_resultSign : ByteArray := prog_14_method_70_code
def yX12_resultSign : MethodName := ⟨RX12, "resultSign", "(II)C"⟩
abbrev cX12_resultSize : ByteArray := prog_14_method_71_code
def yX12_resultSize : MethodName := ⟨RX12, "resultSize", "(I)I"⟩
abbrev cX12_isResultValue : ByteArray := prog_14_method_72_code
def yX12_isResultValue : MethodName := ⟨RX12, "isResultValue", "(III)Z"⟩
abbrev cX12_read : ByteArray := prog_14_method_73_code
def yX12_read : MethodName := ⟨RX12, "read", "()I"⟩
abbrev cX12_find : ByteArray := prog_14_method_74_code
def yX12_find : MethodName := ⟨RX12, "find", "()I"⟩
abbrev cX12_type : ByteArray := prog_14_method_75_code
def yX12_type : MethodName := ⟨RX12, "type", "(JI)Z"⟩
abbrev cX12_cut : ByteArray := prog_14_method_76_code
def yX12_cut : MethodName := ⟨RX12, "cut", "(I)Z"⟩
abbrev cX12_ink : ByteArray := prog_14_method_77_code
def yX12_ink : MethodName := ⟨RX12, "ink", "(C)V"⟩
abbrev cX12_sayNumber : ByteArray := prog_14_method_78_code
def yX12_sayNumber : MethodName := ⟨RX12, "sayNumber", "(I)V"⟩
abbrev cX12_sayRemark : ByteArray := prog_14_method_79_code
def yX12_sayRemark : MethodName := ⟨RX12, "sayRemark", "(I)V"⟩
abbrev cX12_sayMove : ByteArray := prog_14_method_80_code
def yX12_sayMove : MethodName := ⟨RX12, "sayMove", "(IZ)V"⟩
abbrev cX12_sayLine : ByteArray := prog_14_method_81_code
def yX12_sayLine : MethodName := ⟨RX12, "sayLine", "(IZ)V"⟩
abbrev cX12_write : ByteArray := prog_14_method_82_code
def yX12_write : MethodName := ⟨RX12, "write", "()I"⟩
abbrev cX12_isLegal : ByteArray := prog_14_method_83_code
def yX12_isLegal : MethodName := ⟨RX12, "isLegal", "(I)Z"⟩
abbrev cX12_signs : ByteArray := prog_14_method_84_code
def yX12_signs : MethodName := ⟨RX12, "signs", "(I)I"⟩
abbrev cX12_out : ByteArray := prog_14_method_85_code
def yX12_out : MethodName := ⟨RX12, "out", "(I)I"⟩
abbrev cX12_isNode : ByteArray := prog_14_method_86_code
def yX12_isNode : MethodName := ⟨RX12, "isNode", "(I)Z"⟩
abbrev cX12_nodes : ByteArray := prog_14_method_87_code
def yX12_nodes : MethodName := ⟨RX12, "nodes", "()I"⟩
abbrev cX12_node : ByteArray := prog_14_method_88_code
def yX12_node : MethodName := ⟨RX12, "node", "(II)I"⟩
abbrev cX12_mark : ByteArray := prog_14_method_89_code
def yX12_mark : MethodName := ⟨RX12, "mark", "(II)I"⟩
abbrev cX12_remark : ByteArray := prog_14_method_90_code
def yX12_remark : MethodName := ⟨RX12, "remark", "(II)I"⟩
abbrev cX12_here : ByteArray := prog_14_method_91_code
def yX12_here : MethodName := ⟨RX12, "here", "()I"⟩
abbrev cX12_go : ByteArray := prog_14_method_92_code
def yX12_go : MethodName := ⟨RX12, "go", "(I)V"⟩
abbrev cX12_man : ByteArray := prog_14_method_93_code
def yX12_man : MethodName := ⟨RX12, "man", "(I)I"⟩
abbrev cX12_move : ByteArray := prog_14_method_94_code
def yX12_move : MethodName := ⟨RX12, "move", "(I)I"⟩
abbrev cX12_add : ByteArray := prog_14_method_95_code
def yX12_add : MethodName := ⟨RX12, "add", "(I)I"⟩
abbrev cX12_addMark : ByteArray := prog_14_method_96_code
def yX12_addMark : MethodName := ⟨RX12, "addMark", "(I)I"⟩
abbrev cX12_say : ByteArray := prog_14_method_97_code
def yX12_say : MethodName := ⟨RX12, "say", "()I"⟩
abbrev cX12_isBehind : ByteArray := prog_14_method_98_code
def yX12_isBehind : MethodName := ⟨RX12, "isBehind", "(II)Z"⟩
abbrev cX12_lead : ByteArray := prog_14_method_99_code
def yX12_lead : MethodName := ⟨RX12, "lead", "()Z"⟩
abbrev cX12_end : ByteArray := prog_14_method_100_code
def yX12_end : MethodName := ⟨RX12, "end", "(I)V"⟩
abbrev cX12_result : ByteArray := prog_14_method_101_code
def yX12_result : MethodName := ⟨RX12, "result", "()I"⟩
abbrev cX12_tags : ByteArray := prog_14_method_102_code
def yX12_tags : MethodName := ⟨RX12, "tags", "()I"⟩
abbrev cX12_tag : ByteArray := prog_14_method_103_code
def yX12_tag : MethodName := ⟨RX12, "tag", "(IZI)I"⟩
abbrev vwCl : List vw_C := [(RX0, TX0, 7), (RX1, TX1, 8), (RX2, TX2, 12), (RX3, TX3, 2), (RX4, TX4, 7), (RX5, TX5, 2), (RX6, TX6, 2), (RX7, TX7, 2), (RX8, TX8, 12), (RX9, TX9, 1), (RX10, TX10, 2), (RX11, TX11, 10), (RX12, TX12, 40)]
end
section
def wsX12_clearNode : List Cond := .code yX12_clearNode cX12_clearNode 2 none :: ([.fieldLink RX12 27 "MoveTextsModel" "child" "[I", .fieldLink RX12 30 "MoveTextsModel" "next" "[I", .fieldLink RX12 33 "MoveTextsModel" "markCount" "[I", .fieldLink RX12 39 "MoveTextsModel" "remarkSize" "[I"] ++ wsX120)
def wsX12_clearGame : List Cond := .code yX12_clearGame cX12_clearGame 2 none :: ([.fieldLink RX12 17 "MoveTextsModel" "count" "[I", .fieldLink RX12 52 "MoveTextsModel" "tagCount" "[I", .fieldLink RX12 67 "MoveTextsModel" "results" "[I", .fieldLink RX12 21 "MoveTextsModel" "parent" "[I", .fieldLink RX12 24 "MoveTextsModel" "moveOf" "[I", .methodLink RX12 179 yX12_clearNode, .instanceMethod yX12_clearNode, .selects RX12 yX12_clearNode yX12_clearNode, .initialized RX12, .code yX12_clearNode cX12_clearNode 2 none, .fieldLink RX12 27 "MoveTextsModel" "child" "[I", .fieldLink RX12 30 "MoveTextsModel" "next" "[I", .fieldLink RX12 33 "MoveTextsModel" "markCount" "[I", .fieldLink RX12 39 "MoveTextsModel" "remarkSize" "[I"] ++ wsX120)
def wsX12_start : List Cond := .code yX12_start cX12_start 3 none :: ([.fieldLink RX12 46 "MoveTextsModel" "startMen" "[I", .fieldLink RX12 70 "MoveTextsModel" "men" "[I", .fieldLink RX12 49 "MoveTextsModel" "startRest" "[I", .fieldLink RX12 121 "MoveTextsModel" "side" "I", .fieldLink RX12 124 "MoveTextsModel" "rights" "I", .fieldLink RX12 127 "MoveTextsModel" "passed" "I", .fieldLink RX12 130 "MoveTextsModel" "clock" "I", .fieldLink RX12 133 "MoveTextsModel" "number" "I"] ++ wsX120)
def wsX12_usual : List Cond := .code yX12_usual cX12_usual 4 none :: ([.fieldLink RX12 70 "MoveTextsModel" "men" "[I", .fieldLink RX12 121 "MoveTextsModel" "side" "I", .fieldLink RX12 124 "MoveTextsModel" "rights" "I", .fieldLink RX12 127 "MoveTextsModel" "passed" "I", .fieldLink RX12 130 "MoveTextsModel" "clock" "I", .fieldLink RX12 133 "MoveTextsModel" "number" "I", .methodLink RX12 182 yX12_start, .instanceMethod yX12_start, .selects RX12 yX12_start yX12_start, .initialized RX12, .code yX12_start cX12_start 3 none, .fieldLink RX12 46 "MoveTextsModel" "startMen" "[I", .fieldLink RX12 49 "MoveTextsModel" "startRest" "[I"] ++ wsX120)
def wsX12_kind : List Cond := .code yX12_kind cX12_kind 1 (some .int) :: ([])
def wsX12_isTaking : List Cond := .code yX12_isTaking cX12_isTaking 4 (some .boolean) :: ([.fieldLink RX12 70 "MoveTextsModel" "men" "[I", .methodLink RX12 136 yX12_kind, .static yX12_kind, .initialized RX12, .code yX12_kind cX12_kind 1 (some .int)] ++ wsX120)
def wsX12_lose : List Cond := .code yX12_lose cX12_lose 3 none :: ([.fieldLink RX12 124 "MoveTextsModel" "rights" "I"] ++ wsX120)
def wsX12_step : List Cond := .code yX12_step cX12_step 5 (some .int) :: ([])
def wsX12_stands : List Cond := .code yX12_stands cX12_stands 3 (some .boolean) :: ([.fieldLink RX12 70 "MoveTextsModel" "men" "[I"] ++ wsX120)
def wsX12_make_r1 : List Cond := [Cond.fieldLink RX12 70 "MoveTextsModel" "men" "[I", Cond.fieldLink RX12 130 "MoveTextsModel" "clock" "I", Cond.fieldLink RX12 121 "MoveTextsModel" "side" "I", Cond.fieldLink RX12 127 "MoveTextsModel" "passed" "I", Cond.fieldLink RX12 133 "MoveTextsModel" "number" "I", Cond.methodLink RX12 136 yX12_kind, Cond.static yX12_kind, Cond.initialized RX12, Cond.code yX12_kind cX12_kind 1 (some .int), Cond.methodLink RX12 139 yX12_isTaking, Cond.instanceMethod yX12_isTaking, Cond.selects RX12 yX12_isTaking yX12_isTaking, Cond.code yX12_isTaking cX12_isTaking 4 (some .boolean), Cond.methodLink RX12 143 yX12_lose, Cond.instanceMethod yX12_lose, Cond.selects RX12 yX12_lose yX12_lose, Cond.code yX12_lose cX12_lose 3 none, Cond.fieldLink RX12 124 "MoveTextsModel" "rights" "I", Cond.methodLink RX12 103 yX12_step, Cond.static yX12_step, Cond.code yX12_step cX12_step 5 (some .int), Cond.methodLink RX12 107 yX12_stands, Cond.instanceMethod yX12_stands, Cond.selects RX12 yX12_stands yX12_stands]
def wsX12_make_r2 : List Cond := [Cond.code yX12_stands cX12_stands 3 (some .boolean)]
def wsX12_make : List Cond := .code yX12_make cX12_make 8 none :: ((wsX12_make_r1 ++ wsX12_make_r2) ++ wsX120)
def wsX12_sideOf : List Cond := .code yX12_sideOf cX12_sideOf 1 (some .int) :: ([])
def wsX12_pawnGoes : List Cond := .code yX12_pawnGoes cX12_pawnGoes 5 (some .boolean) :: ([.fieldLink RX12 121 "MoveTextsModel" "side" "I", .fieldLink RX12 70 "MoveTextsModel" "men" "[I", .fieldLink RX12 127 "MoveTextsModel" "passed" "I", .methodLink RX12 161 yX12_sideOf, .static yX12_sideOf, .initialized RX12, .code yX12_sideOf cX12_sideOf 1 (some .int)] ++ wsX120)
def wsX12_isClear : List Cond := .code yX12_isClear cX12_isClear 5 (some .boolean) :: ([.fieldLink RX12 70 "MoveTextsModel" "men" "[I"] ++ wsX120)
def wsX12_met : List Cond := .code yX12_met cX12_met 5 (some .int) :: ([.fieldLink RX12 70 "MoveTextsModel" "men" "[I", .methodLink RX12 103 yX12_step, .static yX12_step, .initialized RX12, .code yX12_step cX12_step 5 (some .int)] ++ wsX120)
def wsX12_isAttacked : List Cond := .code yX12_isAttacked cX12_isAttacked 10 (some .boolean) :: ([.methodLink RX12 103 yX12_step, .static yX12_step, .initialized RX12, .code yX12_step cX12_step 5 (some .int), .methodLink RX12 107 yX12_stands, .instanceMethod yX12_stands, .selects RX12 yX12_stands yX12_stands, .code yX12_stands cX12_stands 3 (some .boolean), .fieldLink RX12 70 "MoveTextsModel" "men" "[I", .methodLink RX12 111 yX12_met, .instanceMethod yX12_met, .selects RX12 yX12_met yX12_met, .code yX12_met cX12_met 5 (some .int)] ++ wsX120)
def wsX12_mayCastle : List Cond := .code yX12_mayCastle cX12_mayCastle 6 (some .boolean) :: ([.fieldLink RX12 121 "MoveTextsModel" "side" "I", .fieldLink RX12 124 "MoveTextsModel" "rights" "I", .methodLink RX12 158 yX12_isClear, .instanceMethod yX12_isClear, .selects RX12 yX12_isClear yX12_isClear, .initialized RX12, .code yX12_isClear cX12_isClear 5 (some .boolean), .fieldLink RX12 70 "MoveTextsModel" "men" "[I", .methodLink RX12 118 yX12_isAttacked, .instanceMethod yX12_isAttacked, .selects RX12 yX12_isAttacked yX12_isAttacked, .code yX12_isAttacked cX12_isAttacked 10 (some .boolean), .methodLink RX12 103 yX12_step, .static yX12_step, .code yX12_step cX12_step 5 (some .int), .methodLink RX12 107 yX12_stands, .instanceMethod yX12_stands, .selects RX12 yX12_stands yX12_stands, .code yX12_stands cX12_stands 3 (some .boolean), .methodLink RX12 111 yX12_met, .instanceMethod yX12_met, .selects RX12 yX12_met yX12_met, .code yX12_met cX12_met 5 (some .int)] ++ wsX120)
def wsX12_goes_r1 : List Cond := [Cond.fieldLink RX12 70 "MoveTextsModel" "men" "[I", Cond.fieldLink RX12 121 "MoveTextsModel" "side" "I", Cond.methodLink RX12 161 yX12_sideOf, Cond.static yX12_sideOf, Cond.initialized RX12, Cond.code yX12_sideOf cX12_sideOf 1 (some .int), Cond.methodLink RX12 136 yX12_kind, Cond.static yX12_kind, Cond.code yX12_kind cX12_kind 1 (some .int), Cond.methodLink RX12 164 yX12_pawnGoes, Cond.instanceMethod yX12_pawnGoes, Cond.selects RX12 yX12_pawnGoes yX12_pawnGoes, Cond.code yX12_pawnGoes cX12_pawnGoes 5 (some .boolean), Cond.fieldLink RX12 127 "MoveTextsModel" "passed" "I", Cond.methodLink RX12 167 yX12_mayCastle, Cond.instanceMethod yX12_mayCastle, Cond.selects RX12 yX12_mayCastle yX12_mayCastle, Cond.code yX12_mayCastle cX12_mayCastle 6 (some .boolean), Cond.fieldLink RX12 124 "MoveTextsModel" "rights" "I", Cond.methodLink RX12 158 yX12_isClear, Cond.instanceMethod yX12_isClear, Cond.selects RX12 yX12_isClear yX12_isClear, Cond.code yX12_isClear cX12_isClear 5 (some .boolean), Cond.methodLink RX12 118 yX12_isAttacked]
def wsX12_goes_r2 : List Cond := [Cond.instanceMethod yX12_isAttacked, Cond.selects RX12 yX12_isAttacked yX12_isAttacked, Cond.code yX12_isAttacked cX12_isAttacked 10 (some .boolean), Cond.methodLink RX12 103 yX12_step, Cond.static yX12_step, Cond.code yX12_step cX12_step 5 (some .int), Cond.methodLink RX12 107 yX12_stands, Cond.instanceMethod yX12_stands, Cond.selects RX12 yX12_stands yX12_stands, Cond.code yX12_stands cX12_stands 3 (some .boolean), Cond.methodLink RX12 111 yX12_met, Cond.instanceMethod yX12_met, Cond.selects RX12 yX12_met yX12_met, Cond.code yX12_met cX12_met 5 (some .int)]
def wsX12_goes : List Cond := .code yX12_goes cX12_goes 11 (some .boolean) :: ((wsX12_goes_r1 ++ wsX12_goes_r2) ++ wsX120)
def wsX12_keep : List Cond := .code yX12_keep cX12_keep 2 none :: ([.fieldLink RX12 73 "MoveTextsModel" "keptMen" "[I", .fieldLink RX12 70 "MoveTextsModel" "men" "[I", .fieldLink RX12 76 "MoveTextsModel" "keptRest" "[I", .fieldLink RX12 121 "MoveTextsModel" "side" "I", .fieldLink RX12 124 "MoveTextsModel" "rights" "I", .fieldLink RX12 127 "MoveTextsModel" "passed" "I", .fieldLink RX12 130 "MoveTextsModel" "clock" "I", .fieldLink RX12 133 "MoveTextsModel" "number" "I"] ++ wsX120)
def wsX12_kingOf : List Cond := .code yX12_kingOf cX12_kingOf 4 (some .int) :: ([.fieldLink RX12 70 "MoveTextsModel" "men" "[I"] ++ wsX120)
def wsX12_isInCheck : List Cond := .code yX12_isInCheck cX12_isInCheck 2 (some .boolean) :: ([.methodLink RX12 114 yX12_kingOf, .instanceMethod yX12_kingOf, .selects RX12 yX12_kingOf yX12_kingOf, .initialized RX12, .code yX12_kingOf cX12_kingOf 4 (some .int), .fieldLink RX12 70 "MoveTextsModel" "men" "[I", .methodLink RX12 118 yX12_isAttacked, .instanceMethod yX12_isAttacked, .selects RX12 yX12_isAttacked yX12_isAttacked, .code yX12_isAttacked cX12_isAttacked 10 (some .boolean), .methodLink RX12 103 yX12_step, .static yX12_step, .code yX12_step cX12_step 5 (some .int), .methodLink RX12 107 yX12_stands, .instanceMethod yX12_stands, .selects RX12 yX12_stands yX12_stands, .code yX12_stands cX12_stands 3 (some .boolean), .methodLink RX12 111 yX12_met, .instanceMethod yX12_met, .selects RX12 yX12_met yX12_met, .code yX12_met cX12_met 5 (some .int)] ++ wsX120)
def wsX12_bringBack : List Cond := .code yX12_bringBack cX12_bringBack 2 none :: ([.fieldLink RX12 70 "MoveTextsModel" "men" "[I", .fieldLink RX12 73 "MoveTextsModel" "keptMen" "[I", .fieldLink RX12 76 "MoveTextsModel" "keptRest" "[I", .fieldLink RX12 121 "MoveTextsModel" "side" "I", .fieldLink RX12 124 "MoveTextsModel" "rights" "I", .fieldLink RX12 127 "MoveTextsModel" "passed" "I", .fieldLink RX12 130 "MoveTextsModel" "clock" "I", .fieldLink RX12 133 "MoveTextsModel" "number" "I"] ++ wsX120)
def wsX12_isSafe_r1 : List Cond := [Cond.fieldLink RX12 121 "MoveTextsModel" "side" "I", Cond.methodLink RX12 146 yX12_keep, Cond.instanceMethod yX12_keep, Cond.selects RX12 yX12_keep yX12_keep, Cond.initialized RX12, Cond.code yX12_keep cX12_keep 2 none, Cond.fieldLink RX12 73 "MoveTextsModel" "keptMen" "[I", Cond.fieldLink RX12 70 "MoveTextsModel" "men" "[I", Cond.fieldLink RX12 76 "MoveTextsModel" "keptRest" "[I", Cond.fieldLink RX12 124 "MoveTextsModel" "rights" "I", Cond.fieldLink RX12 127 "MoveTextsModel" "passed" "I", Cond.fieldLink RX12 130 "MoveTextsModel" "clock" "I", Cond.fieldLink RX12 133 "MoveTextsModel" "number" "I", Cond.methodLink RX12 149 yX12_make, Cond.instanceMethod yX12_make, Cond.selects RX12 yX12_make yX12_make, Cond.code yX12_make cX12_make 8 none, Cond.methodLink RX12 136 yX12_kind, Cond.static yX12_kind, Cond.code yX12_kind cX12_kind 1 (some .int), Cond.methodLink RX12 139 yX12_isTaking, Cond.instanceMethod yX12_isTaking, Cond.selects RX12 yX12_isTaking yX12_isTaking, Cond.code yX12_isTaking cX12_isTaking 4 (some .boolean)]
def wsX12_isSafe_r2 : List Cond := [Cond.methodLink RX12 143 yX12_lose, Cond.instanceMethod yX12_lose, Cond.selects RX12 yX12_lose yX12_lose, Cond.code yX12_lose cX12_lose 3 none, Cond.methodLink RX12 103 yX12_step, Cond.static yX12_step, Cond.code yX12_step cX12_step 5 (some .int), Cond.methodLink RX12 107 yX12_stands, Cond.instanceMethod yX12_stands, Cond.selects RX12 yX12_stands yX12_stands, Cond.code yX12_stands cX12_stands 3 (some .boolean), Cond.methodLink RX12 152 yX12_isInCheck, Cond.instanceMethod yX12_isInCheck, Cond.selects RX12 yX12_isInCheck yX12_isInCheck, Cond.code yX12_isInCheck cX12_isInCheck 2 (some .boolean), Cond.methodLink RX12 114 yX12_kingOf, Cond.instanceMethod yX12_kingOf, Cond.selects RX12 yX12_kingOf yX12_kingOf, Cond.code yX12_kingOf cX12_kingOf 4 (some .int), Cond.methodLink RX12 118 yX12_isAttacked, Cond.instanceMethod yX12_isAttacked, Cond.selects RX12 yX12_isAttacked yX12_isAttacked, Cond.code yX12_isAttacked cX12_isAttacked 10 (some .boolean), Cond.methodLink RX12 111 yX12_met]
def wsX12_isSafe_r3 : List Cond := [Cond.instanceMethod yX12_met, Cond.selects RX12 yX12_met yX12_met, Cond.code yX12_met cX12_met 5 (some .int), Cond.methodLink RX12 155 yX12_bringBack, Cond.instanceMethod yX12_bringBack, Cond.selects RX12 yX12_bringBack yX12_bringBack, Cond.code yX12_bringBack cX12_bringBack 2 none]
def wsX12_isSafe : List Cond := .code yX12_isSafe cX12_isSafe 3 (some .boolean) :: ((wsX12_isSafe_r1 ++ (wsX12_isSafe_r2 ++ wsX12_isSafe_r3)) ++ wsX120)
def wsX12_findMoves_r1 : List Cond := [Cond.fieldLink RX12 170 "MoveTextsModel" "moves" "I", Cond.fieldLink RX12 70 "MoveTextsModel" "men" "[I", Cond.fieldLink RX12 121 "MoveTextsModel" "side" "I", Cond.fieldLink RX12 79 "MoveTextsModel" "list" "[I", Cond.methodLink RX12 161 yX12_sideOf, Cond.static yX12_sideOf, Cond.initialized RX12, Cond.code yX12_sideOf cX12_sideOf 1 (some .int), Cond.methodLink RX12 173 yX12_goes, Cond.instanceMethod yX12_goes, Cond.selects RX12 yX12_goes yX12_goes, Cond.code yX12_goes cX12_goes 11 (some .boolean), Cond.methodLink RX12 136 yX12_kind, Cond.static yX12_kind, Cond.code yX12_kind cX12_kind 1 (some .int), Cond.methodLink RX12 164 yX12_pawnGoes, Cond.instanceMethod yX12_pawnGoes, Cond.selects RX12 yX12_pawnGoes yX12_pawnGoes, Cond.code yX12_pawnGoes cX12_pawnGoes 5 (some .boolean), Cond.fieldLink RX12 127 "MoveTextsModel" "passed" "I", Cond.methodLink RX12 167 yX12_mayCastle, Cond.instanceMethod yX12_mayCastle, Cond.selects RX12 yX12_mayCastle yX12_mayCastle, Cond.code yX12_mayCastle cX12_mayCastle 6 (some .boolean)]
def wsX12_findMoves_r2 : List Cond := [Cond.fieldLink RX12 124 "MoveTextsModel" "rights" "I", Cond.methodLink RX12 158 yX12_isClear, Cond.instanceMethod yX12_isClear, Cond.selects RX12 yX12_isClear yX12_isClear, Cond.code yX12_isClear cX12_isClear 5 (some .boolean), Cond.methodLink RX12 118 yX12_isAttacked, Cond.instanceMethod yX12_isAttacked, Cond.selects RX12 yX12_isAttacked yX12_isAttacked, Cond.code yX12_isAttacked cX12_isAttacked 10 (some .boolean), Cond.methodLink RX12 103 yX12_step, Cond.static yX12_step, Cond.code yX12_step cX12_step 5 (some .int), Cond.methodLink RX12 107 yX12_stands, Cond.instanceMethod yX12_stands, Cond.selects RX12 yX12_stands yX12_stands, Cond.code yX12_stands cX12_stands 3 (some .boolean), Cond.methodLink RX12 111 yX12_met, Cond.instanceMethod yX12_met, Cond.selects RX12 yX12_met yX12_met, Cond.code yX12_met cX12_met 5 (some .int), Cond.methodLink RX12 176 yX12_isSafe, Cond.instanceMethod yX12_isSafe, Cond.selects RX12 yX12_isSafe yX12_isSafe, Cond.code yX12_isSafe cX12_isSafe 3 (some .boolean)]
def wsX12_findMoves_r3 : List Cond := [Cond.methodLink RX12 146 yX12_keep, Cond.instanceMethod yX12_keep, Cond.selects RX12 yX12_keep yX12_keep, Cond.code yX12_keep cX12_keep 2 none, Cond.fieldLink RX12 73 "MoveTextsModel" "keptMen" "[I", Cond.fieldLink RX12 76 "MoveTextsModel" "keptRest" "[I", Cond.fieldLink RX12 130 "MoveTextsModel" "clock" "I", Cond.fieldLink RX12 133 "MoveTextsModel" "number" "I", Cond.methodLink RX12 149 yX12_make, Cond.instanceMethod yX12_make, Cond.selects RX12 yX12_make yX12_make, Cond.code yX12_make cX12_make 8 none, Cond.methodLink RX12 139 yX12_isTaking, Cond.instanceMethod yX12_isTaking, Cond.selects RX12 yX12_isTaking yX12_isTaking, Cond.code yX12_isTaking cX12_isTaking 4 (some .boolean), Cond.methodLink RX12 143 yX12_lose, Cond.instanceMethod yX12_lose, Cond.selects RX12 yX12_lose yX12_lose, Cond.code yX12_lose cX12_lose 3 none, Cond.methodLink RX12 152 yX12_isInCheck, Cond.instanceMethod yX12_isInCheck, Cond.selects RX12 yX12_isInCheck yX12_isInCheck, Cond.code yX12_isInCheck cX12_isInCheck 2 (some .boolean)]
def wsX12_findMoves_r4 : List Cond := [Cond.methodLink RX12 114 yX12_kingOf, Cond.instanceMethod yX12_kingOf, Cond.selects RX12 yX12_kingOf yX12_kingOf, Cond.code yX12_kingOf cX12_kingOf 4 (some .int), Cond.methodLink RX12 155 yX12_bringBack, Cond.instanceMethod yX12_bringBack, Cond.selects RX12 yX12_bringBack yX12_bringBack, Cond.code yX12_bringBack cX12_bringBack 2 none]
def wsX12_findMoves : List Cond := .code yX12_findMoves cX12_findMoves 6 none :: ((wsX12_findMoves_r1 ++ (wsX12_findMoves_r2 ++ (wsX12_findMoves_r3 ++ wsX12_findMoves_r4))) ++ wsX120)
def wsX12_place_r1 : List Cond := [Cond.fieldLink RX12 82 "MoveTextsModel" "path" "[I", Cond.fieldLink RX12 21 "MoveTextsModel" "parent" "[I", Cond.fieldLink RX12 70 "MoveTextsModel" "men" "[I", Cond.fieldLink RX12 46 "MoveTextsModel" "startMen" "[I", Cond.fieldLink RX12 49 "MoveTextsModel" "startRest" "[I", Cond.fieldLink RX12 121 "MoveTextsModel" "side" "I", Cond.fieldLink RX12 124 "MoveTextsModel" "rights" "I", Cond.fieldLink RX12 127 "MoveTextsModel" "passed" "I", Cond.fieldLink RX12 130 "MoveTextsModel" "clock" "I", Cond.fieldLink RX12 133 "MoveTextsModel" "number" "I", Cond.fieldLink RX12 24 "MoveTextsModel" "moveOf" "[I", Cond.methodLink RX12 149 yX12_make, Cond.instanceMethod yX12_make, Cond.selects RX12 yX12_make yX12_make, Cond.initialized RX12, Cond.code yX12_make cX12_make 8 none, Cond.methodLink RX12 136 yX12_kind, Cond.static yX12_kind, Cond.code yX12_kind cX12_kind 1 (some .int), Cond.methodLink RX12 139 yX12_isTaking, Cond.instanceMethod yX12_isTaking, Cond.selects RX12 yX12_isTaking yX12_isTaking, Cond.code yX12_isTaking cX12_isTaking 4 (some .boolean), Cond.methodLink RX12 143 yX12_lose]
def wsX12_place_r2 : List Cond := [Cond.instanceMethod yX12_lose, Cond.selects RX12 yX12_lose yX12_lose, Cond.code yX12_lose cX12_lose 3 none, Cond.methodLink RX12 103 yX12_step, Cond.static yX12_step, Cond.code yX12_step cX12_step 5 (some .int), Cond.methodLink RX12 107 yX12_stands, Cond.instanceMethod yX12_stands, Cond.selects RX12 yX12_stands yX12_stands, Cond.code yX12_stands cX12_stands 3 (some .boolean), Cond.methodLink RX12 185 yX12_findMoves, Cond.instanceMethod yX12_findMoves, Cond.selects RX12 yX12_findMoves yX12_findMoves, Cond.code yX12_findMoves cX12_findMoves 6 none, Cond.fieldLink RX12 170 "MoveTextsModel" "moves" "I", Cond.fieldLink RX12 79 "MoveTextsModel" "list" "[I", Cond.methodLink RX12 161 yX12_sideOf, Cond.static yX12_sideOf, Cond.code yX12_sideOf cX12_sideOf 1 (some .int), Cond.methodLink RX12 173 yX12_goes, Cond.instanceMethod yX12_goes, Cond.selects RX12 yX12_goes yX12_goes, Cond.code yX12_goes cX12_goes 11 (some .boolean), Cond.methodLink RX12 164 yX12_pawnGoes]
def wsX12_place_r3 : List Cond := [Cond.instanceMethod yX12_pawnGoes, Cond.selects RX12 yX12_pawnGoes yX12_pawnGoes, Cond.code yX12_pawnGoes cX12_pawnGoes 5 (some .boolean), Cond.methodLink RX12 167 yX12_mayCastle, Cond.instanceMethod yX12_mayCastle, Cond.selects RX12 yX12_mayCastle yX12_mayCastle, Cond.code yX12_mayCastle cX12_mayCastle 6 (some .boolean), Cond.methodLink RX12 158 yX12_isClear, Cond.instanceMethod yX12_isClear, Cond.selects RX12 yX12_isClear yX12_isClear, Cond.code yX12_isClear cX12_isClear 5 (some .boolean), Cond.methodLink RX12 118 yX12_isAttacked, Cond.instanceMethod yX12_isAttacked, Cond.selects RX12 yX12_isAttacked yX12_isAttacked, Cond.code yX12_isAttacked cX12_isAttacked 10 (some .boolean), Cond.methodLink RX12 111 yX12_met, Cond.instanceMethod yX12_met, Cond.selects RX12 yX12_met yX12_met, Cond.code yX12_met cX12_met 5 (some .int), Cond.methodLink RX12 176 yX12_isSafe, Cond.instanceMethod yX12_isSafe, Cond.selects RX12 yX12_isSafe yX12_isSafe, Cond.code yX12_isSafe cX12_isSafe 3 (some .boolean), Cond.methodLink RX12 146 yX12_keep]
def wsX12_place_r4 : List Cond := [Cond.instanceMethod yX12_keep, Cond.selects RX12 yX12_keep yX12_keep, Cond.code yX12_keep cX12_keep 2 none, Cond.fieldLink RX12 73 "MoveTextsModel" "keptMen" "[I", Cond.fieldLink RX12 76 "MoveTextsModel" "keptRest" "[I", Cond.methodLink RX12 152 yX12_isInCheck, Cond.instanceMethod yX12_isInCheck, Cond.selects RX12 yX12_isInCheck yX12_isInCheck, Cond.code yX12_isInCheck cX12_isInCheck 2 (some .boolean), Cond.methodLink RX12 114 yX12_kingOf, Cond.instanceMethod yX12_kingOf, Cond.selects RX12 yX12_kingOf yX12_kingOf, Cond.code yX12_kingOf cX12_kingOf 4 (some .int), Cond.methodLink RX12 155 yX12_bringBack, Cond.instanceMethod yX12_bringBack, Cond.selects RX12 yX12_bringBack yX12_bringBack, Cond.code yX12_bringBack cX12_bringBack 2 none]
def wsX12_place : List Cond := .code yX12_place cX12_place 5 none :: ((wsX12_place_r1 ++ (wsX12_place_r2 ++ (wsX12_place_r3 ++ wsX12_place_r4))) ++ wsX120)
def wsX12_init_r1 : List Cond := [Cond.methodLink RX12 1 objectInit, Cond.instanceMethod objectInit, Cond.code objectInit ⟨#[0xb1]⟩ 1 none, Cond.arrayClass .char, Cond.fieldLink RX12 7 "MoveTextsModel" "text" "[C", Cond.constant RX12 13 (80000), Cond.fieldLink RX12 14 "MoveTextsModel" "out" "[C", Cond.arrayClass .int, Cond.fieldLink RX12 17 "MoveTextsModel" "count" "[I", Cond.fieldLink RX12 21 "MoveTextsModel" "parent" "[I", Cond.fieldLink RX12 24 "MoveTextsModel" "moveOf" "[I", Cond.fieldLink RX12 27 "MoveTextsModel" "child" "[I", Cond.fieldLink RX12 30 "MoveTextsModel" "next" "[I", Cond.fieldLink RX12 33 "MoveTextsModel" "markCount" "[I", Cond.fieldLink RX12 36 "MoveTextsModel" "marks" "[I", Cond.fieldLink RX12 39 "MoveTextsModel" "remarkSize" "[I", Cond.constant RX12 42 (120400), Cond.fieldLink RX12 43 "MoveTextsModel" "remarks" "[C", Cond.fieldLink RX12 46 "MoveTextsModel" "startMen" "[I", Cond.fieldLink RX12 49 "MoveTextsModel" "startRest" "[I", Cond.fieldLink RX12 52 "MoveTextsModel" "tagCount" "[I", Cond.fieldLink RX12 55 "MoveTextsModel" "nameSize" "[I", Cond.fieldLink RX12 58 "MoveTextsModel" "names" "[C", Cond.fieldLink RX12 61 "MoveTextsModel" "valueSize" "[I"]
def wsX12_init_r2 : List Cond := [Cond.fieldLink RX12 64 "MoveTextsModel" "values" "[C", Cond.fieldLink RX12 67 "MoveTextsModel" "results" "[I", Cond.fieldLink RX12 70 "MoveTextsModel" "men" "[I", Cond.fieldLink RX12 73 "MoveTextsModel" "keptMen" "[I", Cond.fieldLink RX12 76 "MoveTextsModel" "keptRest" "[I", Cond.fieldLink RX12 79 "MoveTextsModel" "list" "[I", Cond.fieldLink RX12 82 "MoveTextsModel" "path" "[I", Cond.fieldLink RX12 85 "MoveTextsModel" "spelled" "[C", Cond.methodLink RX12 88 yX12_clearGame, Cond.instanceMethod yX12_clearGame, Cond.selects RX12 yX12_clearGame yX12_clearGame, Cond.initialized RX12, Cond.code yX12_clearGame cX12_clearGame 2 none, Cond.methodLink RX12 179 yX12_clearNode, Cond.instanceMethod yX12_clearNode, Cond.selects RX12 yX12_clearNode yX12_clearNode, Cond.code yX12_clearNode cX12_clearNode 2 none, Cond.methodLink RX12 92 yX12_usual, Cond.instanceMethod yX12_usual, Cond.selects RX12 yX12_usual yX12_usual, Cond.code yX12_usual cX12_usual 4 none, Cond.fieldLink RX12 121 "MoveTextsModel" "side" "I", Cond.fieldLink RX12 124 "MoveTextsModel" "rights" "I", Cond.fieldLink RX12 127 "MoveTextsModel" "passed" "I"]
def wsX12_init_r3 : List Cond := [Cond.fieldLink RX12 130 "MoveTextsModel" "clock" "I", Cond.fieldLink RX12 133 "MoveTextsModel" "number" "I", Cond.methodLink RX12 182 yX12_start, Cond.instanceMethod yX12_start, Cond.selects RX12 yX12_start yX12_start, Cond.code yX12_start cX12_start 3 none, Cond.methodLink RX12 95 yX12_place, Cond.instanceMethod yX12_place, Cond.selects RX12 yX12_place yX12_place, Cond.code yX12_place cX12_place 5 none, Cond.methodLink RX12 149 yX12_make, Cond.instanceMethod yX12_make, Cond.selects RX12 yX12_make yX12_make, Cond.code yX12_make cX12_make 8 none, Cond.methodLink RX12 136 yX12_kind, Cond.static yX12_kind, Cond.code yX12_kind cX12_kind 1 (some .int), Cond.methodLink RX12 139 yX12_isTaking, Cond.instanceMethod yX12_isTaking, Cond.selects RX12 yX12_isTaking yX12_isTaking, Cond.code yX12_isTaking cX12_isTaking 4 (some .boolean), Cond.methodLink RX12 143 yX12_lose, Cond.instanceMethod yX12_lose, Cond.selects RX12 yX12_lose yX12_lose]
def wsX12_init_r4 : List Cond := [Cond.code yX12_lose cX12_lose 3 none, Cond.methodLink RX12 103 yX12_step, Cond.static yX12_step, Cond.code yX12_step cX12_step 5 (some .int), Cond.methodLink RX12 107 yX12_stands, Cond.instanceMethod yX12_stands, Cond.selects RX12 yX12_stands yX12_stands, Cond.code yX12_stands cX12_stands 3 (some .boolean), Cond.methodLink RX12 185 yX12_findMoves, Cond.instanceMethod yX12_findMoves, Cond.selects RX12 yX12_findMoves yX12_findMoves, Cond.code yX12_findMoves cX12_findMoves 6 none, Cond.fieldLink RX12 170 "MoveTextsModel" "moves" "I", Cond.methodLink RX12 161 yX12_sideOf, Cond.static yX12_sideOf, Cond.code yX12_sideOf cX12_sideOf 1 (some .int), Cond.methodLink RX12 173 yX12_goes, Cond.instanceMethod yX12_goes, Cond.selects RX12 yX12_goes yX12_goes, Cond.code yX12_goes cX12_goes 11 (some .boolean), Cond.methodLink RX12 164 yX12_pawnGoes, Cond.instanceMethod yX12_pawnGoes, Cond.selects RX12 yX12_pawnGoes yX12_pawnGoes, Cond.code yX12_pawnGoes cX12_pawnGoes 5 (some .boolean)]
def wsX12_init_r5 : List Cond := [Cond.methodLink RX12 167 yX12_mayCastle, Cond.instanceMethod yX12_mayCastle, Cond.selects RX12 yX12_mayCastle yX12_mayCastle, Cond.code yX12_mayCastle cX12_mayCastle 6 (some .boolean), Cond.methodLink RX12 158 yX12_isClear, Cond.instanceMethod yX12_isClear, Cond.selects RX12 yX12_isClear yX12_isClear, Cond.code yX12_isClear cX12_isClear 5 (some .boolean), Cond.methodLink RX12 118 yX12_isAttacked, Cond.instanceMethod yX12_isAttacked, Cond.selects RX12 yX12_isAttacked yX12_isAttacked, Cond.code yX12_isAttacked cX12_isAttacked 10 (some .boolean), Cond.methodLink RX12 111 yX12_met, Cond.instanceMethod yX12_met, Cond.selects RX12 yX12_met yX12_met, Cond.code yX12_met cX12_met 5 (some .int), Cond.methodLink RX12 176 yX12_isSafe, Cond.instanceMethod yX12_isSafe, Cond.selects RX12 yX12_isSafe yX12_isSafe, Cond.code yX12_isSafe cX12_isSafe 3 (some .boolean), Cond.methodLink RX12 146 yX12_keep, Cond.instanceMethod yX12_keep, Cond.selects RX12 yX12_keep yX12_keep, Cond.code yX12_keep cX12_keep 2 none]
def wsX12_init_r6 : List Cond := [Cond.methodLink RX12 152 yX12_isInCheck, Cond.instanceMethod yX12_isInCheck, Cond.selects RX12 yX12_isInCheck yX12_isInCheck, Cond.code yX12_isInCheck cX12_isInCheck 2 (some .boolean), Cond.methodLink RX12 114 yX12_kingOf, Cond.instanceMethod yX12_kingOf, Cond.selects RX12 yX12_kingOf yX12_kingOf, Cond.code yX12_kingOf cX12_kingOf 4 (some .int), Cond.methodLink RX12 155 yX12_bringBack, Cond.instanceMethod yX12_bringBack, Cond.selects RX12 yX12_bringBack yX12_bringBack, Cond.code yX12_bringBack cX12_bringBack 2 none]
def wsX12_init : List Cond := .code yX12_init cX12_init 1 none :: ((wsX12_init_r1 ++ (wsX12_init_r2 ++ (wsX12_init_r3 ++ (wsX12_init_r4 ++ (wsX12_init_r5 ++ wsX12_init_r6))))) ++ wsX120)
def wsX12_childWith : List Cond := .code yX12_childWith cX12_childWith 5 (some .int) :: ([.fieldLink RX12 27 "MoveTextsModel" "child" "[I", .fieldLink RX12 24 "MoveTextsModel" "moveOf" "[I", .fieldLink RX12 30 "MoveTextsModel" "next" "[I"] ++ wsX120)
def wsX12_append : List Cond := .code yX12_append cX12_append 6 (some .int) :: ([.fieldLink RX12 17 "MoveTextsModel" "count" "[I", .fieldLink RX12 21 "MoveTextsModel" "parent" "[I", .fieldLink RX12 24 "MoveTextsModel" "moveOf" "[I", .fieldLink RX12 27 "MoveTextsModel" "child" "[I", .fieldLink RX12 30 "MoveTextsModel" "next" "[I", .methodLink RX12 179 yX12_clearNode, .instanceMethod yX12_clearNode, .selects RX12 yX12_clearNode yX12_clearNode, .initialized RX12, .code yX12_clearNode cX12_clearNode 2 none, .fieldLink RX12 33 "MoveTextsModel" "markCount" "[I", .fieldLink RX12 39 "MoveTextsModel" "remarkSize" "[I"] ++ wsX120)
def wsX12_isFirst : List Cond := .code yX12_isFirst cX12_isFirst 3 (some .boolean) :: ([.fieldLink RX12 27 "MoveTextsModel" "child" "[I", .fieldLink RX12 21 "MoveTextsModel" "parent" "[I"] ++ wsX120)
def wsX12_deepOf : List Cond := .code yX12_deepOf cX12_deepOf 5 (some .int) :: ([.fieldLink RX12 21 "MoveTextsModel" "parent" "[I", .methodLink RX12 188 yX12_isFirst, .instanceMethod yX12_isFirst, .selects RX12 yX12_isFirst yX12_isFirst, .initialized RX12, .code yX12_isFirst cX12_isFirst 3 (some .boolean), .fieldLink RX12 27 "MoveTextsModel" "child" "[I"] ++ wsX120)
def wsX12_spell : List Cond := .code yX12_spell cX12_spell 2 none :: ([.fieldLink RX12 85 "MoveTextsModel" "spelled" "[C", .fieldLink RX12 191 "MoveTextsModel" "spelledSize" "I"] ++ wsX120)
def wsX12_spellSquare : List Cond := .code yX12_spellSquare cX12_spellSquare 2 none :: ([.methodLink RX12 194 yX12_spell, .instanceMethod yX12_spell, .selects RX12 yX12_spell yX12_spell, .initialized RX12, .code yX12_spell cX12_spell 2 none, .fieldLink RX12 85 "MoveTextsModel" "spelled" "[C", .fieldLink RX12 191 "MoveTextsModel" "spelledSize" "I"] ++ wsX120)
def wsX12_letter : List Cond := .code yX12_letter cX12_letter 1 (some .char) :: ([])
def wsX12_isCastling : List Cond := .code yX12_isCastling cX12_isCastling 4 (some .boolean) :: ([.fieldLink RX12 70 "MoveTextsModel" "men" "[I", .methodLink RX12 136 yX12_kind, .static yX12_kind, .initialized RX12, .code yX12_kind cX12_kind 1 (some .int)] ++ wsX120)
def wsX12_spellMove : List Cond := .code yX12_spellMove cX12_spellMove 8 none :: ([.fieldLink RX12 191 "MoveTextsModel" "spelledSize" "I", .fieldLink RX12 70 "MoveTextsModel" "men" "[I", .methodLink RX12 198 yX12_isCastling, .instanceMethod yX12_isCastling, .selects RX12 yX12_isCastling yX12_isCastling, .initialized RX12, .code yX12_isCastling cX12_isCastling 4 (some .boolean), .methodLink RX12 136 yX12_kind, .static yX12_kind, .code yX12_kind cX12_kind 1 (some .int), .methodLink RX12 194 yX12_spell, .instanceMethod yX12_spell, .selects RX12 yX12_spell yX12_spell, .code yX12_spell cX12_spell 2 none, .fieldLink RX12 85 "MoveTextsModel" "spelled" "[C", .methodLink RX12 201 yX12_letter, .static yX12_letter, .code yX12_letter cX12_letter 1 (some .char), .methodLink RX12 205 yX12_spellSquare, .instanceMethod yX12_spellSquare, .selects RX12 yX12_spellSquare yX12_spellSquare, .code yX12_spellSquare cX12_spellSquare 2 none] ++ wsX120)
def wsX12_isSafeOnce_r1 : List Cond := [Cond.fieldLink RX12 70 "MoveTextsModel" "men" "[I", Cond.fieldLink RX12 121 "MoveTextsModel" "side" "I", Cond.methodLink RX12 136 yX12_kind, Cond.static yX12_kind, Cond.initialized RX12, Cond.code yX12_kind cX12_kind 1 (some .int), Cond.methodLink RX12 152 yX12_isInCheck, Cond.instanceMethod yX12_isInCheck, Cond.selects RX12 yX12_isInCheck yX12_isInCheck, Cond.code yX12_isInCheck cX12_isInCheck 2 (some .boolean), Cond.methodLink RX12 114 yX12_kingOf, Cond.instanceMethod yX12_kingOf, Cond.selects RX12 yX12_kingOf yX12_kingOf, Cond.code yX12_kingOf cX12_kingOf 4 (some .int), Cond.methodLink RX12 118 yX12_isAttacked, Cond.instanceMethod yX12_isAttacked, Cond.selects RX12 yX12_isAttacked yX12_isAttacked, Cond.code yX12_isAttacked cX12_isAttacked 10 (some .boolean), Cond.methodLink RX12 103 yX12_step, Cond.static yX12_step, Cond.code yX12_step cX12_step 5 (some .int), Cond.methodLink RX12 107 yX12_stands, Cond.instanceMethod yX12_stands, Cond.selects RX12 yX12_stands yX12_stands]
def wsX12_isSafeOnce_r2 : List Cond := [Cond.code yX12_stands cX12_stands 3 (some .boolean), Cond.methodLink RX12 111 yX12_met, Cond.instanceMethod yX12_met, Cond.selects RX12 yX12_met yX12_met, Cond.code yX12_met cX12_met 5 (some .int)]
def wsX12_isSafeOnce : List Cond := .code yX12_isSafeOnce cX12_isSafeOnce 10 (some .boolean) :: ((wsX12_isSafeOnce_r1 ++ wsX12_isSafeOnce_r2) ++ wsX120)
def wsX12_behind_r1 : List Cond := [Cond.fieldLink RX12 121 "MoveTextsModel" "side" "I", Cond.methodLink RX12 146 yX12_keep, Cond.instanceMethod yX12_keep, Cond.selects RX12 yX12_keep yX12_keep, Cond.initialized RX12, Cond.code yX12_keep cX12_keep 2 none, Cond.fieldLink RX12 73 "MoveTextsModel" "keptMen" "[I", Cond.fieldLink RX12 70 "MoveTextsModel" "men" "[I", Cond.fieldLink RX12 76 "MoveTextsModel" "keptRest" "[I", Cond.fieldLink RX12 124 "MoveTextsModel" "rights" "I", Cond.fieldLink RX12 127 "MoveTextsModel" "passed" "I", Cond.fieldLink RX12 130 "MoveTextsModel" "clock" "I", Cond.fieldLink RX12 133 "MoveTextsModel" "number" "I", Cond.methodLink RX12 149 yX12_make, Cond.instanceMethod yX12_make, Cond.selects RX12 yX12_make yX12_make, Cond.code yX12_make cX12_make 8 none, Cond.methodLink RX12 136 yX12_kind, Cond.static yX12_kind, Cond.code yX12_kind cX12_kind 1 (some .int), Cond.methodLink RX12 139 yX12_isTaking, Cond.instanceMethod yX12_isTaking, Cond.selects RX12 yX12_isTaking yX12_isTaking, Cond.code yX12_isTaking cX12_isTaking 4 (some .boolean)]
def wsX12_behind_r2 : List Cond := [Cond.methodLink RX12 143 yX12_lose, Cond.instanceMethod yX12_lose, Cond.selects RX12 yX12_lose yX12_lose, Cond.code yX12_lose cX12_lose 3 none, Cond.methodLink RX12 103 yX12_step, Cond.static yX12_step, Cond.code yX12_step cX12_step 5 (some .int), Cond.methodLink RX12 107 yX12_stands, Cond.instanceMethod yX12_stands, Cond.selects RX12 yX12_stands yX12_stands, Cond.code yX12_stands cX12_stands 3 (some .boolean), Cond.methodLink RX12 152 yX12_isInCheck, Cond.instanceMethod yX12_isInCheck, Cond.selects RX12 yX12_isInCheck yX12_isInCheck, Cond.code yX12_isInCheck cX12_isInCheck 2 (some .boolean), Cond.methodLink RX12 114 yX12_kingOf, Cond.instanceMethod yX12_kingOf, Cond.selects RX12 yX12_kingOf yX12_kingOf, Cond.code yX12_kingOf cX12_kingOf 4 (some .int), Cond.methodLink RX12 118 yX12_isAttacked, Cond.instanceMethod yX12_isAttacked, Cond.selects RX12 yX12_isAttacked yX12_isAttacked, Cond.code yX12_isAttacked cX12_isAttacked 10 (some .boolean), Cond.methodLink RX12 111 yX12_met]
def wsX12_behind_r3 : List Cond := [Cond.instanceMethod yX12_met, Cond.selects RX12 yX12_met yX12_met, Cond.code yX12_met cX12_met 5 (some .int), Cond.methodLink RX12 173 yX12_goes, Cond.instanceMethod yX12_goes, Cond.selects RX12 yX12_goes yX12_goes, Cond.code yX12_goes cX12_goes 11 (some .boolean), Cond.methodLink RX12 161 yX12_sideOf, Cond.static yX12_sideOf, Cond.code yX12_sideOf cX12_sideOf 1 (some .int), Cond.methodLink RX12 164 yX12_pawnGoes, Cond.instanceMethod yX12_pawnGoes, Cond.selects RX12 yX12_pawnGoes yX12_pawnGoes, Cond.code yX12_pawnGoes cX12_pawnGoes 5 (some .boolean), Cond.methodLink RX12 167 yX12_mayCastle, Cond.instanceMethod yX12_mayCastle, Cond.selects RX12 yX12_mayCastle yX12_mayCastle, Cond.code yX12_mayCastle cX12_mayCastle 6 (some .boolean), Cond.methodLink RX12 158 yX12_isClear, Cond.instanceMethod yX12_isClear, Cond.selects RX12 yX12_isClear yX12_isClear, Cond.code yX12_isClear cX12_isClear 5 (some .boolean), Cond.methodLink RX12 208 yX12_isSafeOnce, Cond.instanceMethod yX12_isSafeOnce]
def wsX12_behind_r4 : List Cond := [Cond.selects RX12 yX12_isSafeOnce yX12_isSafeOnce, Cond.code yX12_isSafeOnce cX12_isSafeOnce 10 (some .boolean), Cond.methodLink RX12 155 yX12_bringBack, Cond.instanceMethod yX12_bringBack, Cond.selects RX12 yX12_bringBack yX12_bringBack, Cond.code yX12_bringBack cX12_bringBack 2 none]
def wsX12_behind : List Cond := .code yX12_behind cX12_behind 5 (some .char) :: ((wsX12_behind_r1 ++ (wsX12_behind_r2 ++ (wsX12_behind_r3 ++ wsX12_behind_r4))) ++ wsX120)
def wsX12_apartOf : List Cond := .code yX12_apartOf cX12_apartOf 9 (some .int) :: ([.fieldLink RX12 70 "MoveTextsModel" "men" "[I", .fieldLink RX12 170 "MoveTextsModel" "moves" "I", .fieldLink RX12 79 "MoveTextsModel" "list" "[I", .methodLink RX12 136 yX12_kind, .static yX12_kind, .initialized RX12, .code yX12_kind cX12_kind 1 (some .int), .methodLink RX12 139 yX12_isTaking, .instanceMethod yX12_isTaking, .selects RX12 yX12_isTaking yX12_isTaking, .code yX12_isTaking cX12_isTaking 4 (some .boolean)] ++ wsX120)
def wsX12_spellWhole_r1 : List Cond := [Cond.methodLink RX12 211 yX12_apartOf, Cond.instanceMethod yX12_apartOf, Cond.selects RX12 yX12_apartOf yX12_apartOf, Cond.initialized RX12, Cond.code yX12_apartOf cX12_apartOf 9 (some .int), Cond.fieldLink RX12 70 "MoveTextsModel" "men" "[I", Cond.fieldLink RX12 170 "MoveTextsModel" "moves" "I", Cond.fieldLink RX12 79 "MoveTextsModel" "list" "[I", Cond.methodLink RX12 136 yX12_kind, Cond.static yX12_kind, Cond.code yX12_kind cX12_kind 1 (some .int), Cond.methodLink RX12 139 yX12_isTaking, Cond.instanceMethod yX12_isTaking, Cond.selects RX12 yX12_isTaking yX12_isTaking, Cond.code yX12_isTaking cX12_isTaking 4 (some .boolean), Cond.methodLink RX12 214 yX12_spellMove, Cond.instanceMethod yX12_spellMove, Cond.selects RX12 yX12_spellMove yX12_spellMove, Cond.code yX12_spellMove cX12_spellMove 8 none, Cond.fieldLink RX12 191 "MoveTextsModel" "spelledSize" "I", Cond.methodLink RX12 198 yX12_isCastling, Cond.instanceMethod yX12_isCastling, Cond.selects RX12 yX12_isCastling yX12_isCastling, Cond.code yX12_isCastling cX12_isCastling 4 (some .boolean)]
def wsX12_spellWhole_r2 : List Cond := [Cond.methodLink RX12 194 yX12_spell, Cond.instanceMethod yX12_spell, Cond.selects RX12 yX12_spell yX12_spell, Cond.code yX12_spell cX12_spell 2 none, Cond.fieldLink RX12 85 "MoveTextsModel" "spelled" "[C", Cond.methodLink RX12 201 yX12_letter, Cond.static yX12_letter, Cond.code yX12_letter cX12_letter 1 (some .char), Cond.methodLink RX12 205 yX12_spellSquare, Cond.instanceMethod yX12_spellSquare, Cond.selects RX12 yX12_spellSquare yX12_spellSquare, Cond.code yX12_spellSquare cX12_spellSquare 2 none, Cond.methodLink RX12 218 yX12_behind, Cond.instanceMethod yX12_behind, Cond.selects RX12 yX12_behind yX12_behind, Cond.code yX12_behind cX12_behind 5 (some .char), Cond.fieldLink RX12 121 "MoveTextsModel" "side" "I", Cond.methodLink RX12 146 yX12_keep, Cond.instanceMethod yX12_keep, Cond.selects RX12 yX12_keep yX12_keep, Cond.code yX12_keep cX12_keep 2 none, Cond.fieldLink RX12 73 "MoveTextsModel" "keptMen" "[I", Cond.fieldLink RX12 76 "MoveTextsModel" "keptRest" "[I", Cond.fieldLink RX12 124 "MoveTextsModel" "rights" "I"]
def wsX12_spellWhole_r3 : List Cond := [Cond.fieldLink RX12 127 "MoveTextsModel" "passed" "I", Cond.fieldLink RX12 130 "MoveTextsModel" "clock" "I", Cond.fieldLink RX12 133 "MoveTextsModel" "number" "I", Cond.methodLink RX12 149 yX12_make, Cond.instanceMethod yX12_make, Cond.selects RX12 yX12_make yX12_make, Cond.code yX12_make cX12_make 8 none, Cond.methodLink RX12 143 yX12_lose, Cond.instanceMethod yX12_lose, Cond.selects RX12 yX12_lose yX12_lose, Cond.code yX12_lose cX12_lose 3 none, Cond.methodLink RX12 103 yX12_step, Cond.static yX12_step, Cond.code yX12_step cX12_step 5 (some .int), Cond.methodLink RX12 107 yX12_stands, Cond.instanceMethod yX12_stands, Cond.selects RX12 yX12_stands yX12_stands, Cond.code yX12_stands cX12_stands 3 (some .boolean), Cond.methodLink RX12 152 yX12_isInCheck, Cond.instanceMethod yX12_isInCheck, Cond.selects RX12 yX12_isInCheck yX12_isInCheck, Cond.code yX12_isInCheck cX12_isInCheck 2 (some .boolean), Cond.methodLink RX12 114 yX12_kingOf, Cond.instanceMethod yX12_kingOf]
def wsX12_spellWhole_r4 : List Cond := [Cond.selects RX12 yX12_kingOf yX12_kingOf, Cond.code yX12_kingOf cX12_kingOf 4 (some .int), Cond.methodLink RX12 118 yX12_isAttacked, Cond.instanceMethod yX12_isAttacked, Cond.selects RX12 yX12_isAttacked yX12_isAttacked, Cond.code yX12_isAttacked cX12_isAttacked 10 (some .boolean), Cond.methodLink RX12 111 yX12_met, Cond.instanceMethod yX12_met, Cond.selects RX12 yX12_met yX12_met, Cond.code yX12_met cX12_met 5 (some .int), Cond.methodLink RX12 173 yX12_goes, Cond.instanceMethod yX12_goes, Cond.selects RX12 yX12_goes yX12_goes, Cond.code yX12_goes cX12_goes 11 (some .boolean), Cond.methodLink RX12 161 yX12_sideOf, Cond.static yX12_sideOf, Cond.code yX12_sideOf cX12_sideOf 1 (some .int), Cond.methodLink RX12 164 yX12_pawnGoes, Cond.instanceMethod yX12_pawnGoes, Cond.selects RX12 yX12_pawnGoes yX12_pawnGoes, Cond.code yX12_pawnGoes cX12_pawnGoes 5 (some .boolean), Cond.methodLink RX12 167 yX12_mayCastle, Cond.instanceMethod yX12_mayCastle, Cond.selects RX12 yX12_mayCastle yX12_mayCastle]
def wsX12_spellWhole_r5 : List Cond := [Cond.code yX12_mayCastle cX12_mayCastle 6 (some .boolean), Cond.methodLink RX12 158 yX12_isClear, Cond.instanceMethod yX12_isClear, Cond.selects RX12 yX12_isClear yX12_isClear, Cond.code yX12_isClear cX12_isClear 5 (some .boolean), Cond.methodLink RX12 208 yX12_isSafeOnce, Cond.instanceMethod yX12_isSafeOnce, Cond.selects RX12 yX12_isSafeOnce yX12_isSafeOnce, Cond.code yX12_isSafeOnce cX12_isSafeOnce 10 (some .boolean), Cond.methodLink RX12 155 yX12_bringBack, Cond.instanceMethod yX12_bringBack, Cond.selects RX12 yX12_bringBack yX12_bringBack, Cond.code yX12_bringBack cX12_bringBack 2 none]
def wsX12_spellWhole : List Cond := .code yX12_spellWhole cX12_spellWhole 3 none :: ((wsX12_spellWhole_r1 ++ (wsX12_spellWhole_r2 ++ (wsX12_spellWhole_r3 ++ (wsX12_spellWhole_r4 ++ wsX12_spellWhole_r5)))) ++ wsX120)
def wsX12_isSpelled : List Cond := .code yX12_isSpelled cX12_isSpelled 7 (some .boolean) :: ([.fieldLink RX12 7 "MoveTextsModel" "text" "[C", .fieldLink RX12 191 "MoveTextsModel" "spelledSize" "I", .fieldLink RX12 85 "MoveTextsModel" "spelled" "[C"] ++ wsX120)
def wsX12_fits_r1 : List Cond := [Cond.fieldLink RX12 70 "MoveTextsModel" "men" "[I", Cond.fieldLink RX12 7 "MoveTextsModel" "text" "[C", Cond.methodLink RX12 136 yX12_kind, Cond.static yX12_kind, Cond.initialized RX12, Cond.code yX12_kind cX12_kind 1 (some .int), Cond.methodLink RX12 139 yX12_isTaking, Cond.instanceMethod yX12_isTaking, Cond.selects RX12 yX12_isTaking yX12_isTaking, Cond.code yX12_isTaking cX12_isTaking 4 (some .boolean), Cond.methodLink RX12 198 yX12_isCastling, Cond.instanceMethod yX12_isCastling, Cond.selects RX12 yX12_isCastling yX12_isCastling, Cond.code yX12_isCastling cX12_isCastling 4 (some .boolean), Cond.methodLink RX12 214 yX12_spellMove, Cond.instanceMethod yX12_spellMove, Cond.selects RX12 yX12_spellMove yX12_spellMove, Cond.code yX12_spellMove cX12_spellMove 8 none, Cond.fieldLink RX12 191 "MoveTextsModel" "spelledSize" "I", Cond.methodLink RX12 194 yX12_spell, Cond.instanceMethod yX12_spell, Cond.selects RX12 yX12_spell yX12_spell, Cond.code yX12_spell cX12_spell 2 none, Cond.fieldLink RX12 85 "MoveTextsModel" "spelled" "[C"]
def wsX12_fits_r2 : List Cond := [Cond.methodLink RX12 201 yX12_letter, Cond.static yX12_letter, Cond.code yX12_letter cX12_letter 1 (some .char), Cond.methodLink RX12 205 yX12_spellSquare, Cond.instanceMethod yX12_spellSquare, Cond.selects RX12 yX12_spellSquare yX12_spellSquare, Cond.code yX12_spellSquare cX12_spellSquare 2 none, Cond.methodLink RX12 221 yX12_isSpelled, Cond.instanceMethod yX12_isSpelled, Cond.selects RX12 yX12_isSpelled yX12_isSpelled, Cond.code yX12_isSpelled cX12_isSpelled 7 (some .boolean), Cond.methodLink RX12 218 yX12_behind, Cond.instanceMethod yX12_behind, Cond.selects RX12 yX12_behind yX12_behind, Cond.code yX12_behind cX12_behind 5 (some .char), Cond.fieldLink RX12 121 "MoveTextsModel" "side" "I", Cond.methodLink RX12 146 yX12_keep, Cond.instanceMethod yX12_keep, Cond.selects RX12 yX12_keep yX12_keep, Cond.code yX12_keep cX12_keep 2 none, Cond.fieldLink RX12 73 "MoveTextsModel" "keptMen" "[I", Cond.fieldLink RX12 76 "MoveTextsModel" "keptRest" "[I", Cond.fieldLink RX12 124 "MoveTextsModel" "rights" "I", Cond.fieldLink RX12 127 "MoveTextsModel" "passed" "I"]
def wsX12_fits_r3 : List Cond := [Cond.fieldLink RX12 130 "MoveTextsModel" "clock" "I", Cond.fieldLink RX12 133 "MoveTextsModel" "number" "I", Cond.methodLink RX12 149 yX12_make, Cond.instanceMethod yX12_make, Cond.selects RX12 yX12_make yX12_make, Cond.code yX12_make cX12_make 8 none, Cond.methodLink RX12 143 yX12_lose, Cond.instanceMethod yX12_lose, Cond.selects RX12 yX12_lose yX12_lose, Cond.code yX12_lose cX12_lose 3 none, Cond.methodLink RX12 103 yX12_step, Cond.static yX12_step, Cond.code yX12_step cX12_step 5 (some .int), Cond.methodLink RX12 107 yX12_stands, Cond.instanceMethod yX12_stands, Cond.selects RX12 yX12_stands yX12_stands, Cond.code yX12_stands cX12_stands 3 (some .boolean), Cond.methodLink RX12 152 yX12_isInCheck, Cond.instanceMethod yX12_isInCheck, Cond.selects RX12 yX12_isInCheck yX12_isInCheck, Cond.code yX12_isInCheck cX12_isInCheck 2 (some .boolean), Cond.methodLink RX12 114 yX12_kingOf, Cond.instanceMethod yX12_kingOf, Cond.selects RX12 yX12_kingOf yX12_kingOf]
def wsX12_fits_r4 : List Cond := [Cond.code yX12_kingOf cX12_kingOf 4 (some .int), Cond.methodLink RX12 118 yX12_isAttacked, Cond.instanceMethod yX12_isAttacked, Cond.selects RX12 yX12_isAttacked yX12_isAttacked, Cond.code yX12_isAttacked cX12_isAttacked 10 (some .boolean), Cond.methodLink RX12 111 yX12_met, Cond.instanceMethod yX12_met, Cond.selects RX12 yX12_met yX12_met, Cond.code yX12_met cX12_met 5 (some .int), Cond.methodLink RX12 173 yX12_goes, Cond.instanceMethod yX12_goes, Cond.selects RX12 yX12_goes yX12_goes, Cond.code yX12_goes cX12_goes 11 (some .boolean), Cond.methodLink RX12 161 yX12_sideOf, Cond.static yX12_sideOf, Cond.code yX12_sideOf cX12_sideOf 1 (some .int), Cond.methodLink RX12 164 yX12_pawnGoes, Cond.instanceMethod yX12_pawnGoes, Cond.selects RX12 yX12_pawnGoes yX12_pawnGoes, Cond.code yX12_pawnGoes cX12_pawnGoes 5 (some .boolean), Cond.methodLink RX12 167 yX12_mayCastle, Cond.instanceMethod yX12_mayCastle, Cond.selects RX12 yX12_mayCastle yX12_mayCastle, Cond.code yX12_mayCastle cX12_mayCastle 6 (some .boolean)]
def wsX12_fits_r5 : List Cond := [Cond.methodLink RX12 158 yX12_isClear, Cond.instanceMethod yX12_isClear, Cond.selects RX12 yX12_isClear yX12_isClear, Cond.code yX12_isClear cX12_isClear 5 (some .boolean), Cond.methodLink RX12 208 yX12_isSafeOnce, Cond.instanceMethod yX12_isSafeOnce, Cond.selects RX12 yX12_isSafeOnce yX12_isSafeOnce, Cond.code yX12_isSafeOnce cX12_isSafeOnce 10 (some .boolean), Cond.methodLink RX12 155 yX12_bringBack, Cond.instanceMethod yX12_bringBack, Cond.selects RX12 yX12_bringBack yX12_bringBack, Cond.code yX12_bringBack cX12_bringBack 2 none]
def wsX12_fits : List Cond := .code yX12_fits cX12_fits 10 (some .boolean) :: ((wsX12_fits_r1 ++ (wsX12_fits_r2 ++ (wsX12_fits_r3 ++ (wsX12_fits_r4 ++ wsX12_fits_r5)))) ++ wsX120)
def wsX12_understood_r1 : List Cond := [Cond.fieldLink RX12 170 "MoveTextsModel" "moves" "I", Cond.fieldLink RX12 79 "MoveTextsModel" "list" "[I", Cond.methodLink RX12 225 yX12_fits, Cond.instanceMethod yX12_fits, Cond.selects RX12 yX12_fits yX12_fits, Cond.initialized RX12, Cond.code yX12_fits cX12_fits 10 (some .boolean), Cond.fieldLink RX12 70 "MoveTextsModel" "men" "[I", Cond.fieldLink RX12 7 "MoveTextsModel" "text" "[C", Cond.methodLink RX12 136 yX12_kind, Cond.static yX12_kind, Cond.code yX12_kind cX12_kind 1 (some .int), Cond.methodLink RX12 139 yX12_isTaking, Cond.instanceMethod yX12_isTaking, Cond.selects RX12 yX12_isTaking yX12_isTaking, Cond.code yX12_isTaking cX12_isTaking 4 (some .boolean), Cond.methodLink RX12 198 yX12_isCastling, Cond.instanceMethod yX12_isCastling, Cond.selects RX12 yX12_isCastling yX12_isCastling, Cond.code yX12_isCastling cX12_isCastling 4 (some .boolean), Cond.methodLink RX12 214 yX12_spellMove, Cond.instanceMethod yX12_spellMove, Cond.selects RX12 yX12_spellMove yX12_spellMove, Cond.code yX12_spellMove cX12_spellMove 8 none]
def wsX12_understood_r2 : List Cond := [Cond.fieldLink RX12 191 "MoveTextsModel" "spelledSize" "I", Cond.methodLink RX12 194 yX12_spell, Cond.instanceMethod yX12_spell, Cond.selects RX12 yX12_spell yX12_spell, Cond.code yX12_spell cX12_spell 2 none, Cond.fieldLink RX12 85 "MoveTextsModel" "spelled" "[C", Cond.methodLink RX12 201 yX12_letter, Cond.static yX12_letter, Cond.code yX12_letter cX12_letter 1 (some .char), Cond.methodLink RX12 205 yX12_spellSquare, Cond.instanceMethod yX12_spellSquare, Cond.selects RX12 yX12_spellSquare yX12_spellSquare, Cond.code yX12_spellSquare cX12_spellSquare 2 none, Cond.methodLink RX12 221 yX12_isSpelled, Cond.instanceMethod yX12_isSpelled, Cond.selects RX12 yX12_isSpelled yX12_isSpelled, Cond.code yX12_isSpelled cX12_isSpelled 7 (some .boolean), Cond.methodLink RX12 218 yX12_behind, Cond.instanceMethod yX12_behind, Cond.selects RX12 yX12_behind yX12_behind, Cond.code yX12_behind cX12_behind 5 (some .char), Cond.fieldLink RX12 121 "MoveTextsModel" "side" "I", Cond.methodLink RX12 146 yX12_keep, Cond.instanceMethod yX12_keep]
def wsX12_understood_r3 : List Cond := [Cond.selects RX12 yX12_keep yX12_keep, Cond.code yX12_keep cX12_keep 2 none, Cond.fieldLink RX12 73 "MoveTextsModel" "keptMen" "[I", Cond.fieldLink RX12 76 "MoveTextsModel" "keptRest" "[I", Cond.fieldLink RX12 124 "MoveTextsModel" "rights" "I", Cond.fieldLink RX12 127 "MoveTextsModel" "passed" "I", Cond.fieldLink RX12 130 "MoveTextsModel" "clock" "I", Cond.fieldLink RX12 133 "MoveTextsModel" "number" "I", Cond.methodLink RX12 149 yX12_make, Cond.instanceMethod yX12_make, Cond.selects RX12 yX12_make yX12_make, Cond.code yX12_make cX12_make 8 none, Cond.methodLink RX12 143 yX12_lose, Cond.instanceMethod yX12_lose, Cond.selects RX12 yX12_lose yX12_lose, Cond.code yX12_lose cX12_lose 3 none, Cond.methodLink RX12 103 yX12_step, Cond.static yX12_step, Cond.code yX12_step cX12_step 5 (some .int), Cond.methodLink RX12 107 yX12_stands, Cond.instanceMethod yX12_stands, Cond.selects RX12 yX12_stands yX12_stands, Cond.code yX12_stands cX12_stands 3 (some .boolean), Cond.methodLink RX12 152 yX12_isInCheck]
def wsX12_understood_r4 : List Cond := [Cond.instanceMethod yX12_isInCheck, Cond.selects RX12 yX12_isInCheck yX12_isInCheck, Cond.code yX12_isInCheck cX12_isInCheck 2 (some .boolean), Cond.methodLink RX12 114 yX12_kingOf, Cond.instanceMethod yX12_kingOf, Cond.selects RX12 yX12_kingOf yX12_kingOf, Cond.code yX12_kingOf cX12_kingOf 4 (some .int), Cond.methodLink RX12 118 yX12_isAttacked, Cond.instanceMethod yX12_isAttacked, Cond.selects RX12 yX12_isAttacked yX12_isAttacked, Cond.code yX12_isAttacked cX12_isAttacked 10 (some .boolean), Cond.methodLink RX12 111 yX12_met, Cond.instanceMethod yX12_met, Cond.selects RX12 yX12_met yX12_met, Cond.code yX12_met cX12_met 5 (some .int), Cond.methodLink RX12 173 yX12_goes, Cond.instanceMethod yX12_goes, Cond.selects RX12 yX12_goes yX12_goes, Cond.code yX12_goes cX12_goes 11 (some .boolean), Cond.methodLink RX12 161 yX12_sideOf, Cond.static yX12_sideOf, Cond.code yX12_sideOf cX12_sideOf 1 (some .int), Cond.methodLink RX12 164 yX12_pawnGoes, Cond.instanceMethod yX12_pawnGoes]
def wsX12_understood_r5 : List Cond := [Cond.selects RX12 yX12_pawnGoes yX12_pawnGoes, Cond.code yX12_pawnGoes cX12_pawnGoes 5 (some .boolean), Cond.methodLink RX12 167 yX12_mayCastle, Cond.instanceMethod yX12_mayCastle, Cond.selects RX12 yX12_mayCastle yX12_mayCastle, Cond.code yX12_mayCastle cX12_mayCastle 6 (some .boolean), Cond.methodLink RX12 158 yX12_isClear, Cond.instanceMethod yX12_isClear, Cond.selects RX12 yX12_isClear yX12_isClear, Cond.code yX12_isClear cX12_isClear 5 (some .boolean), Cond.methodLink RX12 208 yX12_isSafeOnce, Cond.instanceMethod yX12_isSafeOnce, Cond.selects RX12 yX12_isSafeOnce yX12_isSafeOnce, Cond.code yX12_isSafeOnce cX12_isSafeOnce 10 (some .boolean), Cond.methodLink RX12 155 yX12_bringBack, Cond.instanceMethod yX12_bringBack, Cond.selects RX12 yX12_bringBack yX12_bringBack, Cond.code yX12_bringBack cX12_bringBack 2 none]
def wsX12_understood : List Cond := .code yX12_understood cX12_understood 6 (some .int) :: ((wsX12_understood_r1 ++ (wsX12_understood_r2 ++ (wsX12_understood_r3 ++ (wsX12_understood_r4 ++ wsX12_understood_r5)))) ++ wsX120)
def wsX12_sign : List Cond := .code yX12_sign cX12_sign 1 (some .char) :: ([.fieldLink RX12 229 "MoveTextsModel" "valueAt" "I", .fieldLink RX12 232 "MoveTextsModel" "valueEnd" "I", .fieldLink RX12 64 "MoveTextsModel" "values" "[C"] ++ wsX120)
def wsX12_pass : List Cond := .code yX12_pass cX12_pass 3 (some .boolean) :: ([.fieldLink RX12 229 "MoveTextsModel" "valueAt" "I", .methodLink RX12 235 yX12_sign, .instanceMethod yX12_sign, .selects RX12 yX12_sign yX12_sign, .initialized RX12, .code yX12_sign cX12_sign 1 (some .char), .fieldLink RX12 232 "MoveTextsModel" "valueEnd" "I", .fieldLink RX12 64 "MoveTextsModel" "values" "[C"] ++ wsX120)
def wsX12_manOf : List Cond := .code yX12_manOf cX12_manOf 1 (some .int) :: ([.methodLink RX12 239 yX12_manOf, .static yX12_manOf, .initialized RX12])
def wsX12_readRank : List Cond := .code yX12_readRank cX12_readRank 6 (some .boolean) :: ([.fieldLink RX12 70 "MoveTextsModel" "men" "[I", .fieldLink RX12 229 "MoveTextsModel" "valueAt" "I", .methodLink RX12 235 yX12_sign, .instanceMethod yX12_sign, .selects RX12 yX12_sign yX12_sign, .initialized RX12, .code yX12_sign cX12_sign 1 (some .char), .fieldLink RX12 232 "MoveTextsModel" "valueEnd" "I", .fieldLink RX12 64 "MoveTextsModel" "values" "[C", .methodLink RX12 239 yX12_manOf, .static yX12_manOf, .code yX12_manOf cX12_manOf 1 (some .int)] ++ wsX120)
def wsX12_readNumber : List Cond := .code yX12_readNumber cX12_readNumber 4 (some .int) :: ([.fieldLink RX12 229 "MoveTextsModel" "valueAt" "I", .methodLink RX12 235 yX12_sign, .instanceMethod yX12_sign, .selects RX12 yX12_sign yX12_sign, .initialized RX12, .code yX12_sign cX12_sign 1 (some .char), .fieldLink RX12 232 "MoveTextsModel" "valueEnd" "I", .fieldLink RX12 64 "MoveTextsModel" "values" "[C"] ++ wsX120)
def wsX12_readRights : List Cond := .code yX12_readRights cX12_readRights 2 (some .boolean) :: ([.fieldLink RX12 124 "MoveTextsModel" "rights" "I", .fieldLink RX12 229 "MoveTextsModel" "valueAt" "I", .methodLink RX12 235 yX12_sign, .instanceMethod yX12_sign, .selects RX12 yX12_sign yX12_sign, .initialized RX12, .code yX12_sign cX12_sign 1 (some .char), .fieldLink RX12 232 "MoveTextsModel" "valueEnd" "I", .fieldLink RX12 64 "MoveTextsModel" "values" "[C", .methodLink RX12 243 yX12_pass, .instanceMethod yX12_pass, .selects RX12 yX12_pass yX12_pass, .code yX12_pass cX12_pass 3 (some .boolean)] ++ wsX120)
def wsX12_readPassed : List Cond := .code yX12_readPassed cX12_readPassed 3 (some .boolean) :: ([.fieldLink RX12 127 "MoveTextsModel" "passed" "I", .fieldLink RX12 229 "MoveTextsModel" "valueAt" "I", .methodLink RX12 235 yX12_sign, .instanceMethod yX12_sign, .selects RX12 yX12_sign yX12_sign, .initialized RX12, .code yX12_sign cX12_sign 1 (some .char), .fieldLink RX12 232 "MoveTextsModel" "valueEnd" "I", .fieldLink RX12 64 "MoveTextsModel" "values" "[C", .methodLink RX12 243 yX12_pass, .instanceMethod yX12_pass, .selects RX12 yX12_pass yX12_pass, .code yX12_pass cX12_pass 3 (some .boolean)] ++ wsX120)
def wsX12_countOf : List Cond := .code yX12_countOf cX12_countOf 4 (some .int) :: ([.fieldLink RX12 70 "MoveTextsModel" "men" "[I"] ++ wsX120)
def wsX12_mayStand_r1 : List Cond := [Cond.fieldLink RX12 70 "MoveTextsModel" "men" "[I", Cond.fieldLink RX12 121 "MoveTextsModel" "side" "I", Cond.fieldLink RX12 124 "MoveTextsModel" "rights" "I", Cond.fieldLink RX12 127 "MoveTextsModel" "passed" "I", Cond.methodLink RX12 247 yX12_countOf, Cond.instanceMethod yX12_countOf, Cond.selects RX12 yX12_countOf yX12_countOf, Cond.initialized RX12, Cond.code yX12_countOf cX12_countOf 4 (some .int), Cond.methodLink RX12 136 yX12_kind, Cond.static yX12_kind, Cond.code yX12_kind cX12_kind 1 (some .int), Cond.methodLink RX12 152 yX12_isInCheck, Cond.instanceMethod yX12_isInCheck, Cond.selects RX12 yX12_isInCheck yX12_isInCheck, Cond.code yX12_isInCheck cX12_isInCheck 2 (some .boolean), Cond.methodLink RX12 114 yX12_kingOf, Cond.instanceMethod yX12_kingOf, Cond.selects RX12 yX12_kingOf yX12_kingOf, Cond.code yX12_kingOf cX12_kingOf 4 (some .int), Cond.methodLink RX12 118 yX12_isAttacked, Cond.instanceMethod yX12_isAttacked, Cond.selects RX12 yX12_isAttacked yX12_isAttacked, Cond.code yX12_isAttacked cX12_isAttacked 10 (some .boolean)]
def wsX12_mayStand_r2 : List Cond := [Cond.methodLink RX12 103 yX12_step, Cond.static yX12_step, Cond.code yX12_step cX12_step 5 (some .int), Cond.methodLink RX12 107 yX12_stands, Cond.instanceMethod yX12_stands, Cond.selects RX12 yX12_stands yX12_stands, Cond.code yX12_stands cX12_stands 3 (some .boolean), Cond.methodLink RX12 111 yX12_met, Cond.instanceMethod yX12_met, Cond.selects RX12 yX12_met yX12_met, Cond.code yX12_met cX12_met 5 (some .int)]
def wsX12_mayStand : List Cond := .code yX12_mayStand cX12_mayStand 5 (some .boolean) :: ((wsX12_mayStand_r1 ++ wsX12_mayStand_r2) ++ wsX120)
def wsX12_readPosition_r1 : List Cond := [Cond.fieldLink RX12 229 "MoveTextsModel" "valueAt" "I", Cond.fieldLink RX12 232 "MoveTextsModel" "valueEnd" "I", Cond.fieldLink RX12 70 "MoveTextsModel" "men" "[I", Cond.fieldLink RX12 121 "MoveTextsModel" "side" "I", Cond.fieldLink RX12 130 "MoveTextsModel" "clock" "I", Cond.fieldLink RX12 133 "MoveTextsModel" "number" "I", Cond.methodLink RX12 250 yX12_readRank, Cond.instanceMethod yX12_readRank, Cond.selects RX12 yX12_readRank yX12_readRank, Cond.initialized RX12, Cond.code yX12_readRank cX12_readRank 6 (some .boolean), Cond.methodLink RX12 235 yX12_sign, Cond.instanceMethod yX12_sign, Cond.selects RX12 yX12_sign yX12_sign, Cond.code yX12_sign cX12_sign 1 (some .char), Cond.fieldLink RX12 64 "MoveTextsModel" "values" "[C", Cond.methodLink RX12 239 yX12_manOf, Cond.static yX12_manOf, Cond.code yX12_manOf cX12_manOf 1 (some .int), Cond.methodLink RX12 243 yX12_pass, Cond.instanceMethod yX12_pass, Cond.selects RX12 yX12_pass yX12_pass, Cond.code yX12_pass cX12_pass 3 (some .boolean), Cond.methodLink RX12 253 yX12_readRights]
def wsX12_readPosition_r2 : List Cond := [Cond.instanceMethod yX12_readRights, Cond.selects RX12 yX12_readRights yX12_readRights, Cond.code yX12_readRights cX12_readRights 2 (some .boolean), Cond.fieldLink RX12 124 "MoveTextsModel" "rights" "I", Cond.methodLink RX12 257 yX12_readPassed, Cond.instanceMethod yX12_readPassed, Cond.selects RX12 yX12_readPassed yX12_readPassed, Cond.code yX12_readPassed cX12_readPassed 3 (some .boolean), Cond.fieldLink RX12 127 "MoveTextsModel" "passed" "I", Cond.methodLink RX12 260 yX12_readNumber, Cond.instanceMethod yX12_readNumber, Cond.selects RX12 yX12_readNumber yX12_readNumber, Cond.code yX12_readNumber cX12_readNumber 4 (some .int), Cond.methodLink RX12 264 yX12_mayStand, Cond.instanceMethod yX12_mayStand, Cond.selects RX12 yX12_mayStand yX12_mayStand, Cond.code yX12_mayStand cX12_mayStand 5 (some .boolean), Cond.methodLink RX12 247 yX12_countOf, Cond.instanceMethod yX12_countOf, Cond.selects RX12 yX12_countOf yX12_countOf, Cond.code yX12_countOf cX12_countOf 4 (some .int), Cond.methodLink RX12 136 yX12_kind, Cond.static yX12_kind, Cond.code yX12_kind cX12_kind 1 (some .int)]
def wsX12_readPosition_r3 : List Cond := [Cond.methodLink RX12 152 yX12_isInCheck, Cond.instanceMethod yX12_isInCheck, Cond.selects RX12 yX12_isInCheck yX12_isInCheck, Cond.code yX12_isInCheck cX12_isInCheck 2 (some .boolean), Cond.methodLink RX12 114 yX12_kingOf, Cond.instanceMethod yX12_kingOf, Cond.selects RX12 yX12_kingOf yX12_kingOf, Cond.code yX12_kingOf cX12_kingOf 4 (some .int), Cond.methodLink RX12 118 yX12_isAttacked, Cond.instanceMethod yX12_isAttacked, Cond.selects RX12 yX12_isAttacked yX12_isAttacked, Cond.code yX12_isAttacked cX12_isAttacked 10 (some .boolean), Cond.methodLink RX12 103 yX12_step, Cond.static yX12_step, Cond.code yX12_step cX12_step 5 (some .int), Cond.methodLink RX12 107 yX12_stands, Cond.instanceMethod yX12_stands, Cond.selects RX12 yX12_stands yX12_stands, Cond.code yX12_stands cX12_stands 3 (some .boolean), Cond.methodLink RX12 111 yX12_met, Cond.instanceMethod yX12_met, Cond.selects RX12 yX12_met yX12_met, Cond.code yX12_met cX12_met 5 (some .int)]
def wsX12_readPosition : List Cond := .code yX12_readPosition cX12_readPosition 5 (some .boolean) :: ((wsX12_readPosition_r1 ++ (wsX12_readPosition_r2 ++ wsX12_readPosition_r3)) ++ wsX120)
def wsX12_look : List Cond := .code yX12_look cX12_look 1 (some .char) :: ([.fieldLink RX12 267 "MoveTextsModel" "at" "I", .fieldLink RX12 270 "MoveTextsModel" "typed" "I", .fieldLink RX12 7 "MoveTextsModel" "text" "[C"] ++ wsX120)
def wsX12_blanks : List Cond := .code yX12_blanks cX12_blanks 1 none :: ([.fieldLink RX12 267 "MoveTextsModel" "at" "I", .fieldLink RX12 270 "MoveTextsModel" "typed" "I", .fieldLink RX12 7 "MoveTextsModel" "text" "[C"] ++ wsX120)
def wsX12_fault : List Cond := .code yX12_fault cX12_fault 2 (some .int) :: ([])
def wsX12_isLetter : List Cond := .code yX12_isLetter cX12_isLetter 1 (some .boolean) :: ([])
def wsX12_isDigit : List Cond := .code yX12_isDigit cX12_isDigit 1 (some .boolean) :: ([])
def wsX12_isTag : List Cond := .code yX12_isTag cX12_isTag 8 (some .boolean) :: ([.fieldLink RX12 55 "MoveTextsModel" "nameSize" "[I", .fieldLink RX12 58 "MoveTextsModel" "names" "[C"] ++ wsX120)
def wsX12_isNameThere : List Cond := .code yX12_isNameThere cX12_isNameThere 7 (some .boolean) :: ([.fieldLink RX12 55 "MoveTextsModel" "nameSize" "[I", .fieldLink RX12 58 "MoveTextsModel" "names" "[C"] ++ wsX120)
def wsX12_readTag_r1 : List Cond := [Cond.fieldLink RX12 267 "MoveTextsModel" "at" "I", Cond.fieldLink RX12 52 "MoveTextsModel" "tagCount" "[I", Cond.fieldLink RX12 58 "MoveTextsModel" "names" "[C", Cond.fieldLink RX12 270 "MoveTextsModel" "typed" "I", Cond.fieldLink RX12 64 "MoveTextsModel" "values" "[C", Cond.fieldLink RX12 55 "MoveTextsModel" "nameSize" "[I", Cond.fieldLink RX12 61 "MoveTextsModel" "valueSize" "[I", Cond.methodLink RX12 273 yX12_blanks, Cond.instanceMethod yX12_blanks, Cond.selects RX12 yX12_blanks yX12_blanks, Cond.initialized RX12, Cond.code yX12_blanks cX12_blanks 1 none, Cond.fieldLink RX12 7 "MoveTextsModel" "text" "[C", Cond.methodLink RX12 276 yX12_look, Cond.instanceMethod yX12_look, Cond.selects RX12 yX12_look yX12_look, Cond.code yX12_look cX12_look 1 (some .char), Cond.methodLink RX12 279 yX12_isLetter, Cond.static yX12_isLetter, Cond.code yX12_isLetter cX12_isLetter 1 (some .boolean), Cond.methodLink RX12 282 yX12_isDigit, Cond.static yX12_isDigit, Cond.code yX12_isDigit cX12_isDigit 1 (some .boolean), Cond.methodLink RX12 285 yX12_fault]
def wsX12_readTag_r2 : List Cond := [Cond.static yX12_fault, Cond.code yX12_fault cX12_fault 2 (some .int), Cond.methodLink RX12 289 yX12_isNameThere, Cond.instanceMethod yX12_isNameThere, Cond.selects RX12 yX12_isNameThere yX12_isNameThere, Cond.code yX12_isNameThere cX12_isNameThere 7 (some .boolean), Cond.methodLink RX12 292 yX12_isTag, Cond.instanceMethod yX12_isTag, Cond.selects RX12 yX12_isTag yX12_isTag, Cond.code yX12_isTag cX12_isTag 8 (some .boolean), Cond.methodLink RX12 296 yX12_readPosition, Cond.instanceMethod yX12_readPosition, Cond.selects RX12 yX12_readPosition yX12_readPosition, Cond.code yX12_readPosition cX12_readPosition 5 (some .boolean), Cond.fieldLink RX12 229 "MoveTextsModel" "valueAt" "I", Cond.fieldLink RX12 232 "MoveTextsModel" "valueEnd" "I", Cond.fieldLink RX12 70 "MoveTextsModel" "men" "[I", Cond.fieldLink RX12 121 "MoveTextsModel" "side" "I", Cond.fieldLink RX12 130 "MoveTextsModel" "clock" "I", Cond.fieldLink RX12 133 "MoveTextsModel" "number" "I", Cond.methodLink RX12 250 yX12_readRank, Cond.instanceMethod yX12_readRank, Cond.selects RX12 yX12_readRank yX12_readRank, Cond.code yX12_readRank cX12_readRank 6 (some .boolean)]
def wsX12_readTag_r3 : List Cond := [Cond.methodLink RX12 235 yX12_sign, Cond.instanceMethod yX12_sign, Cond.selects RX12 yX12_sign yX12_sign, Cond.code yX12_sign cX12_sign 1 (some .char), Cond.methodLink RX12 239 yX12_manOf, Cond.static yX12_manOf, Cond.code yX12_manOf cX12_manOf 1 (some .int), Cond.methodLink RX12 243 yX12_pass, Cond.instanceMethod yX12_pass, Cond.selects RX12 yX12_pass yX12_pass, Cond.code yX12_pass cX12_pass 3 (some .boolean), Cond.methodLink RX12 253 yX12_readRights, Cond.instanceMethod yX12_readRights, Cond.selects RX12 yX12_readRights yX12_readRights, Cond.code yX12_readRights cX12_readRights 2 (some .boolean), Cond.fieldLink RX12 124 "MoveTextsModel" "rights" "I", Cond.methodLink RX12 257 yX12_readPassed, Cond.instanceMethod yX12_readPassed, Cond.selects RX12 yX12_readPassed yX12_readPassed, Cond.code yX12_readPassed cX12_readPassed 3 (some .boolean), Cond.fieldLink RX12 127 "MoveTextsModel" "passed" "I", Cond.methodLink RX12 260 yX12_readNumber, Cond.instanceMethod yX12_readNumber, Cond.selects RX12 yX12_readNumber yX12_readNumber]
def wsX12_readTag_r4 : List Cond := [Cond.code yX12_readNumber cX12_readNumber 4 (some .int), Cond.methodLink RX12 264 yX12_mayStand, Cond.instanceMethod yX12_mayStand, Cond.selects RX12 yX12_mayStand yX12_mayStand, Cond.code yX12_mayStand cX12_mayStand 5 (some .boolean), Cond.methodLink RX12 247 yX12_countOf, Cond.instanceMethod yX12_countOf, Cond.selects RX12 yX12_countOf yX12_countOf, Cond.code yX12_countOf cX12_countOf 4 (some .int), Cond.methodLink RX12 136 yX12_kind, Cond.static yX12_kind, Cond.code yX12_kind cX12_kind 1 (some .int), Cond.methodLink RX12 152 yX12_isInCheck, Cond.instanceMethod yX12_isInCheck, Cond.selects RX12 yX12_isInCheck yX12_isInCheck, Cond.code yX12_isInCheck cX12_isInCheck 2 (some .boolean), Cond.methodLink RX12 114 yX12_kingOf, Cond.instanceMethod yX12_kingOf, Cond.selects RX12 yX12_kingOf yX12_kingOf, Cond.code yX12_kingOf cX12_kingOf 4 (some .int), Cond.methodLink RX12 118 yX12_isAttacked, Cond.instanceMethod yX12_isAttacked, Cond.selects RX12 yX12_isAttacked yX12_isAttacked, Cond.code yX12_isAttacked cX12_isAttacked 10 (some .boolean)]
def wsX12_readTag_r5 : List Cond := [Cond.methodLink RX12 103 yX12_step, Cond.static yX12_step, Cond.code yX12_step cX12_step 5 (some .int), Cond.methodLink RX12 107 yX12_stands, Cond.instanceMethod yX12_stands, Cond.selects RX12 yX12_stands yX12_stands, Cond.code yX12_stands cX12_stands 3 (some .boolean), Cond.methodLink RX12 111 yX12_met, Cond.instanceMethod yX12_met, Cond.selects RX12 yX12_met yX12_met, Cond.code yX12_met cX12_met 5 (some .int), Cond.methodLink RX12 182 yX12_start, Cond.instanceMethod yX12_start, Cond.selects RX12 yX12_start yX12_start, Cond.code yX12_start cX12_start 3 none, Cond.fieldLink RX12 46 "MoveTextsModel" "startMen" "[I", Cond.fieldLink RX12 49 "MoveTextsModel" "startRest" "[I"]
def wsX12_readTag : List Cond := .code yX12_readTag cX12_readTag 7 (some .int) :: ((wsX12_readTag_r1 ++ (wsX12_readTag_r2 ++ (wsX12_readTag_r3 ++ (wsX12_readTag_r4 ++ wsX12_readTag_r5)))) ++ wsX120)
def wsX12_readRemarks : List Cond := .code yX12_readRemarks cX12_readRemarks 11 (some .int) :: ([.fieldLink RX12 267 "MoveTextsModel" "at" "I", .fieldLink RX12 270 "MoveTextsModel" "typed" "I", .fieldLink RX12 39 "MoveTextsModel" "remarkSize" "[I", .fieldLink RX12 43 "MoveTextsModel" "remarks" "[C", .fieldLink RX12 7 "MoveTextsModel" "text" "[C", .methodLink RX12 273 yX12_blanks, .instanceMethod yX12_blanks, .selects RX12 yX12_blanks yX12_blanks, .initialized RX12, .code yX12_blanks cX12_blanks 1 none, .methodLink RX12 276 yX12_look, .instanceMethod yX12_look, .selects RX12 yX12_look yX12_look, .code yX12_look cX12_look 1 (some .char), .methodLink RX12 285 yX12_fault, .static yX12_fault, .code yX12_fault cX12_fault 2 (some .int)] ++ wsX120)
def wsX12_goesOnWith : List Cond := .code yX12_goesOnWith cX12_goesOnWith 4 (some .boolean) :: ([.fieldLink RX12 267 "MoveTextsModel" "at" "I", .fieldLink RX12 270 "MoveTextsModel" "typed" "I", .fieldLink RX12 7 "MoveTextsModel" "text" "[C"] ++ wsX120)
def wsX12_resultHere : List Cond := .code yX12_resultHere cX12_resultHere 2 (some .int) :: ([.fieldLink RX12 267 "MoveTextsModel" "at" "I", .fieldLink RX12 270 "MoveTextsModel" "typed" "I", .fieldLink RX12 7 "MoveTextsModel" "text" "[C", .methodLink RX12 276 yX12_look, .instanceMethod yX12_look, .selects RX12 yX12_look yX12_look, .initialized RX12, .code yX12_look cX12_look 1 (some .char), .methodLink RX12 299 yX12_goesOnWith, .instanceMethod yX12_goesOnWith, .selects RX12 yX12_goesOnWith yX12_goesOnWith, .code yX12_goesOnWith cX12_goesOnWith 4 (some .boolean)] ++ wsX120)
def wsX12_addMarkTo : List Cond := .code yX12_addMarkTo cX12_addMarkTo 5 none :: ([.fieldLink RX12 36 "MoveTextsModel" "marks" "[I", .fieldLink RX12 33 "MoveTextsModel" "markCount" "[I"] ++ wsX120)
def wsX12_readMarks : List Cond := .code yX12_readMarks cX12_readMarks 6 (some .int) :: ([.fieldLink RX12 267 "MoveTextsModel" "at" "I", .fieldLink RX12 33 "MoveTextsModel" "markCount" "[I", .methodLink RX12 273 yX12_blanks, .instanceMethod yX12_blanks, .selects RX12 yX12_blanks yX12_blanks, .initialized RX12, .code yX12_blanks cX12_blanks 1 none, .fieldLink RX12 270 "MoveTextsModel" "typed" "I", .fieldLink RX12 7 "MoveTextsModel" "text" "[C", .methodLink RX12 276 yX12_look, .instanceMethod yX12_look, .selects RX12 yX12_look yX12_look, .code yX12_look cX12_look 1 (some .char), .methodLink RX12 303 yX12_addMarkTo, .instanceMethod yX12_addMarkTo, .selects RX12 yX12_addMarkTo yX12_addMarkTo, .code yX12_addMarkTo cX12_addMarkTo 5 none, .fieldLink RX12 36 "MoveTextsModel" "marks" "[I", .methodLink RX12 282 yX12_isDigit, .static yX12_isDigit, .code yX12_isDigit cX12_isDigit 1 (some .boolean), .methodLink RX12 285 yX12_fault, .static yX12_fault, .code yX12_fault cX12_fault 2 (some .int)] ++ wsX120)
def wsX12_readMoveNumber : List Cond := .code yX12_readMoveNumber cX12_readMoveNumber 4 (some .int) :: ([.fieldLink RX12 267 "MoveTextsModel" "at" "I", .fieldLink RX12 133 "MoveTextsModel" "number" "I", .methodLink RX12 276 yX12_look, .instanceMethod yX12_look, .selects RX12 yX12_look yX12_look, .initialized RX12, .code yX12_look cX12_look 1 (some .char), .fieldLink RX12 270 "MoveTextsModel" "typed" "I", .fieldLink RX12 7 "MoveTextsModel" "text" "[C", .methodLink RX12 282 yX12_isDigit, .static yX12_isDigit, .code yX12_isDigit cX12_isDigit 1 (some .boolean), .methodLink RX12 285 yX12_fault, .static yX12_fault, .code yX12_fault cX12_fault 2 (some .int), .methodLink RX12 273 yX12_blanks, .instanceMethod yX12_blanks, .selects RX12 yX12_blanks yX12_blanks, .code yX12_blanks cX12_blanks 1 none] ++ wsX120)
def wsX12_readMove_r1 : List Cond := [Cond.fieldLink RX12 267 "MoveTextsModel" "at" "I", Cond.fieldLink RX12 17 "MoveTextsModel" "count" "[I", Cond.methodLink RX12 276 yX12_look, Cond.instanceMethod yX12_look, Cond.selects RX12 yX12_look yX12_look, Cond.initialized RX12, Cond.code yX12_look cX12_look 1 (some .char), Cond.fieldLink RX12 270 "MoveTextsModel" "typed" "I", Cond.fieldLink RX12 7 "MoveTextsModel" "text" "[C", Cond.methodLink RX12 279 yX12_isLetter, Cond.static yX12_isLetter, Cond.code yX12_isLetter cX12_isLetter 1 (some .boolean), Cond.methodLink RX12 285 yX12_fault, Cond.static yX12_fault, Cond.code yX12_fault cX12_fault 2 (some .int), Cond.methodLink RX12 282 yX12_isDigit, Cond.static yX12_isDigit, Cond.code yX12_isDigit cX12_isDigit 1 (some .boolean), Cond.methodLink RX12 307 yX12_understood, Cond.instanceMethod yX12_understood, Cond.selects RX12 yX12_understood yX12_understood, Cond.code yX12_understood cX12_understood 6 (some .int), Cond.fieldLink RX12 170 "MoveTextsModel" "moves" "I", Cond.fieldLink RX12 79 "MoveTextsModel" "list" "[I"]
def wsX12_readMove_r2 : List Cond := [Cond.methodLink RX12 225 yX12_fits, Cond.instanceMethod yX12_fits, Cond.selects RX12 yX12_fits yX12_fits, Cond.code yX12_fits cX12_fits 10 (some .boolean), Cond.fieldLink RX12 70 "MoveTextsModel" "men" "[I", Cond.methodLink RX12 136 yX12_kind, Cond.static yX12_kind, Cond.code yX12_kind cX12_kind 1 (some .int), Cond.methodLink RX12 139 yX12_isTaking, Cond.instanceMethod yX12_isTaking, Cond.selects RX12 yX12_isTaking yX12_isTaking, Cond.code yX12_isTaking cX12_isTaking 4 (some .boolean), Cond.methodLink RX12 198 yX12_isCastling, Cond.instanceMethod yX12_isCastling, Cond.selects RX12 yX12_isCastling yX12_isCastling, Cond.code yX12_isCastling cX12_isCastling 4 (some .boolean), Cond.methodLink RX12 214 yX12_spellMove, Cond.instanceMethod yX12_spellMove, Cond.selects RX12 yX12_spellMove yX12_spellMove, Cond.code yX12_spellMove cX12_spellMove 8 none, Cond.fieldLink RX12 191 "MoveTextsModel" "spelledSize" "I", Cond.methodLink RX12 194 yX12_spell, Cond.instanceMethod yX12_spell, Cond.selects RX12 yX12_spell yX12_spell]
def wsX12_readMove_r3 : List Cond := [Cond.code yX12_spell cX12_spell 2 none, Cond.fieldLink RX12 85 "MoveTextsModel" "spelled" "[C", Cond.methodLink RX12 201 yX12_letter, Cond.static yX12_letter, Cond.code yX12_letter cX12_letter 1 (some .char), Cond.methodLink RX12 205 yX12_spellSquare, Cond.instanceMethod yX12_spellSquare, Cond.selects RX12 yX12_spellSquare yX12_spellSquare, Cond.code yX12_spellSquare cX12_spellSquare 2 none, Cond.methodLink RX12 221 yX12_isSpelled, Cond.instanceMethod yX12_isSpelled, Cond.selects RX12 yX12_isSpelled yX12_isSpelled, Cond.code yX12_isSpelled cX12_isSpelled 7 (some .boolean), Cond.methodLink RX12 218 yX12_behind, Cond.instanceMethod yX12_behind, Cond.selects RX12 yX12_behind yX12_behind, Cond.code yX12_behind cX12_behind 5 (some .char), Cond.fieldLink RX12 121 "MoveTextsModel" "side" "I", Cond.methodLink RX12 146 yX12_keep, Cond.instanceMethod yX12_keep, Cond.selects RX12 yX12_keep yX12_keep, Cond.code yX12_keep cX12_keep 2 none, Cond.fieldLink RX12 73 "MoveTextsModel" "keptMen" "[I", Cond.fieldLink RX12 76 "MoveTextsModel" "keptRest" "[I"]
def wsX12_readMove_r4 : List Cond := [Cond.fieldLink RX12 124 "MoveTextsModel" "rights" "I", Cond.fieldLink RX12 127 "MoveTextsModel" "passed" "I", Cond.fieldLink RX12 130 "MoveTextsModel" "clock" "I", Cond.fieldLink RX12 133 "MoveTextsModel" "number" "I", Cond.methodLink RX12 149 yX12_make, Cond.instanceMethod yX12_make, Cond.selects RX12 yX12_make yX12_make, Cond.code yX12_make cX12_make 8 none, Cond.methodLink RX12 143 yX12_lose, Cond.instanceMethod yX12_lose, Cond.selects RX12 yX12_lose yX12_lose, Cond.code yX12_lose cX12_lose 3 none, Cond.methodLink RX12 103 yX12_step, Cond.static yX12_step, Cond.code yX12_step cX12_step 5 (some .int), Cond.methodLink RX12 107 yX12_stands, Cond.instanceMethod yX12_stands, Cond.selects RX12 yX12_stands yX12_stands, Cond.code yX12_stands cX12_stands 3 (some .boolean), Cond.methodLink RX12 152 yX12_isInCheck, Cond.instanceMethod yX12_isInCheck, Cond.selects RX12 yX12_isInCheck yX12_isInCheck, Cond.code yX12_isInCheck cX12_isInCheck 2 (some .boolean), Cond.methodLink RX12 114 yX12_kingOf]
def wsX12_readMove_r5 : List Cond := [Cond.instanceMethod yX12_kingOf, Cond.selects RX12 yX12_kingOf yX12_kingOf, Cond.code yX12_kingOf cX12_kingOf 4 (some .int), Cond.methodLink RX12 118 yX12_isAttacked, Cond.instanceMethod yX12_isAttacked, Cond.selects RX12 yX12_isAttacked yX12_isAttacked, Cond.code yX12_isAttacked cX12_isAttacked 10 (some .boolean), Cond.methodLink RX12 111 yX12_met, Cond.instanceMethod yX12_met, Cond.selects RX12 yX12_met yX12_met, Cond.code yX12_met cX12_met 5 (some .int), Cond.methodLink RX12 173 yX12_goes, Cond.instanceMethod yX12_goes, Cond.selects RX12 yX12_goes yX12_goes, Cond.code yX12_goes cX12_goes 11 (some .boolean), Cond.methodLink RX12 161 yX12_sideOf, Cond.static yX12_sideOf, Cond.code yX12_sideOf cX12_sideOf 1 (some .int), Cond.methodLink RX12 164 yX12_pawnGoes, Cond.instanceMethod yX12_pawnGoes, Cond.selects RX12 yX12_pawnGoes yX12_pawnGoes, Cond.code yX12_pawnGoes cX12_pawnGoes 5 (some .boolean), Cond.methodLink RX12 167 yX12_mayCastle, Cond.instanceMethod yX12_mayCastle]
def wsX12_readMove_r6 : List Cond := [Cond.selects RX12 yX12_mayCastle yX12_mayCastle, Cond.code yX12_mayCastle cX12_mayCastle 6 (some .boolean), Cond.methodLink RX12 158 yX12_isClear, Cond.instanceMethod yX12_isClear, Cond.selects RX12 yX12_isClear yX12_isClear, Cond.code yX12_isClear cX12_isClear 5 (some .boolean), Cond.methodLink RX12 208 yX12_isSafeOnce, Cond.instanceMethod yX12_isSafeOnce, Cond.selects RX12 yX12_isSafeOnce yX12_isSafeOnce, Cond.code yX12_isSafeOnce cX12_isSafeOnce 10 (some .boolean), Cond.methodLink RX12 155 yX12_bringBack, Cond.instanceMethod yX12_bringBack, Cond.selects RX12 yX12_bringBack yX12_bringBack, Cond.code yX12_bringBack cX12_bringBack 2 none, Cond.methodLink RX12 310 yX12_childWith, Cond.instanceMethod yX12_childWith, Cond.selects RX12 yX12_childWith yX12_childWith, Cond.code yX12_childWith cX12_childWith 5 (some .int), Cond.fieldLink RX12 27 "MoveTextsModel" "child" "[I", Cond.fieldLink RX12 24 "MoveTextsModel" "moveOf" "[I", Cond.fieldLink RX12 30 "MoveTextsModel" "next" "[I", Cond.methodLink RX12 313 yX12_append, Cond.instanceMethod yX12_append, Cond.selects RX12 yX12_append yX12_append]
def wsX12_readMove_r7 : List Cond := [Cond.code yX12_append cX12_append 6 (some .int), Cond.fieldLink RX12 21 "MoveTextsModel" "parent" "[I", Cond.methodLink RX12 179 yX12_clearNode, Cond.instanceMethod yX12_clearNode, Cond.selects RX12 yX12_clearNode yX12_clearNode, Cond.code yX12_clearNode cX12_clearNode 2 none, Cond.fieldLink RX12 33 "MoveTextsModel" "markCount" "[I", Cond.fieldLink RX12 39 "MoveTextsModel" "remarkSize" "[I"]
def wsX12_readMove : List Cond := .code yX12_readMove cX12_readMove 5 (some .int) :: ((wsX12_readMove_r1 ++ (wsX12_readMove_r2 ++ (wsX12_readMove_r3 ++ (wsX12_readMove_r4 ++ (wsX12_readMove_r5 ++ (wsX12_readMove_r6 ++ wsX12_readMove_r7)))))) ++ wsX120)
def wsX12_readLine_r1 : List Cond := [Cond.fieldLink RX12 267 "MoveTextsModel" "at" "I", Cond.methodLink RX12 273 yX12_blanks, Cond.instanceMethod yX12_blanks, Cond.selects RX12 yX12_blanks yX12_blanks, Cond.initialized RX12, Cond.code yX12_blanks cX12_blanks 1 none, Cond.fieldLink RX12 270 "MoveTextsModel" "typed" "I", Cond.fieldLink RX12 7 "MoveTextsModel" "text" "[C", Cond.methodLink RX12 316 yX12_resultHere, Cond.instanceMethod yX12_resultHere, Cond.selects RX12 yX12_resultHere yX12_resultHere, Cond.code yX12_resultHere cX12_resultHere 2 (some .int), Cond.methodLink RX12 276 yX12_look, Cond.instanceMethod yX12_look, Cond.selects RX12 yX12_look yX12_look, Cond.code yX12_look cX12_look 1 (some .char), Cond.methodLink RX12 299 yX12_goesOnWith, Cond.instanceMethod yX12_goesOnWith, Cond.selects RX12 yX12_goesOnWith yX12_goesOnWith, Cond.code yX12_goesOnWith cX12_goesOnWith 4 (some .boolean), Cond.methodLink RX12 95 yX12_place, Cond.instanceMethod yX12_place, Cond.selects RX12 yX12_place yX12_place, Cond.code yX12_place cX12_place 5 none]
def wsX12_readLine_r2 : List Cond := [Cond.fieldLink RX12 82 "MoveTextsModel" "path" "[I", Cond.fieldLink RX12 21 "MoveTextsModel" "parent" "[I", Cond.fieldLink RX12 70 "MoveTextsModel" "men" "[I", Cond.fieldLink RX12 46 "MoveTextsModel" "startMen" "[I", Cond.fieldLink RX12 49 "MoveTextsModel" "startRest" "[I", Cond.fieldLink RX12 121 "MoveTextsModel" "side" "I", Cond.fieldLink RX12 124 "MoveTextsModel" "rights" "I", Cond.fieldLink RX12 127 "MoveTextsModel" "passed" "I", Cond.fieldLink RX12 130 "MoveTextsModel" "clock" "I", Cond.fieldLink RX12 133 "MoveTextsModel" "number" "I", Cond.fieldLink RX12 24 "MoveTextsModel" "moveOf" "[I", Cond.methodLink RX12 149 yX12_make, Cond.instanceMethod yX12_make, Cond.selects RX12 yX12_make yX12_make, Cond.code yX12_make cX12_make 8 none, Cond.methodLink RX12 136 yX12_kind, Cond.static yX12_kind, Cond.code yX12_kind cX12_kind 1 (some .int), Cond.methodLink RX12 139 yX12_isTaking, Cond.instanceMethod yX12_isTaking, Cond.selects RX12 yX12_isTaking yX12_isTaking, Cond.code yX12_isTaking cX12_isTaking 4 (some .boolean), Cond.methodLink RX12 143 yX12_lose, Cond.instanceMethod yX12_lose]
def wsX12_readLine_r3 : List Cond := [Cond.selects RX12 yX12_lose yX12_lose, Cond.code yX12_lose cX12_lose 3 none, Cond.methodLink RX12 103 yX12_step, Cond.static yX12_step, Cond.code yX12_step cX12_step 5 (some .int), Cond.methodLink RX12 107 yX12_stands, Cond.instanceMethod yX12_stands, Cond.selects RX12 yX12_stands yX12_stands, Cond.code yX12_stands cX12_stands 3 (some .boolean), Cond.methodLink RX12 185 yX12_findMoves, Cond.instanceMethod yX12_findMoves, Cond.selects RX12 yX12_findMoves yX12_findMoves, Cond.code yX12_findMoves cX12_findMoves 6 none, Cond.fieldLink RX12 170 "MoveTextsModel" "moves" "I", Cond.fieldLink RX12 79 "MoveTextsModel" "list" "[I", Cond.methodLink RX12 161 yX12_sideOf, Cond.static yX12_sideOf, Cond.code yX12_sideOf cX12_sideOf 1 (some .int), Cond.methodLink RX12 173 yX12_goes, Cond.instanceMethod yX12_goes, Cond.selects RX12 yX12_goes yX12_goes, Cond.code yX12_goes cX12_goes 11 (some .boolean), Cond.methodLink RX12 164 yX12_pawnGoes, Cond.instanceMethod yX12_pawnGoes]
def wsX12_readLine_r4 : List Cond := [Cond.selects RX12 yX12_pawnGoes yX12_pawnGoes, Cond.code yX12_pawnGoes cX12_pawnGoes 5 (some .boolean), Cond.methodLink RX12 167 yX12_mayCastle, Cond.instanceMethod yX12_mayCastle, Cond.selects RX12 yX12_mayCastle yX12_mayCastle, Cond.code yX12_mayCastle cX12_mayCastle 6 (some .boolean), Cond.methodLink RX12 158 yX12_isClear, Cond.instanceMethod yX12_isClear, Cond.selects RX12 yX12_isClear yX12_isClear, Cond.code yX12_isClear cX12_isClear 5 (some .boolean), Cond.methodLink RX12 118 yX12_isAttacked, Cond.instanceMethod yX12_isAttacked, Cond.selects RX12 yX12_isAttacked yX12_isAttacked, Cond.code yX12_isAttacked cX12_isAttacked 10 (some .boolean), Cond.methodLink RX12 111 yX12_met, Cond.instanceMethod yX12_met, Cond.selects RX12 yX12_met yX12_met, Cond.code yX12_met cX12_met 5 (some .int), Cond.methodLink RX12 176 yX12_isSafe, Cond.instanceMethod yX12_isSafe, Cond.selects RX12 yX12_isSafe yX12_isSafe, Cond.code yX12_isSafe cX12_isSafe 3 (some .boolean), Cond.methodLink RX12 146 yX12_keep, Cond.instanceMethod yX12_keep]
def wsX12_readLine_r5 : List Cond := [Cond.selects RX12 yX12_keep yX12_keep, Cond.code yX12_keep cX12_keep 2 none, Cond.fieldLink RX12 73 "MoveTextsModel" "keptMen" "[I", Cond.fieldLink RX12 76 "MoveTextsModel" "keptRest" "[I", Cond.methodLink RX12 152 yX12_isInCheck, Cond.instanceMethod yX12_isInCheck, Cond.selects RX12 yX12_isInCheck yX12_isInCheck, Cond.code yX12_isInCheck cX12_isInCheck 2 (some .boolean), Cond.methodLink RX12 114 yX12_kingOf, Cond.instanceMethod yX12_kingOf, Cond.selects RX12 yX12_kingOf yX12_kingOf, Cond.code yX12_kingOf cX12_kingOf 4 (some .int), Cond.methodLink RX12 155 yX12_bringBack, Cond.instanceMethod yX12_bringBack, Cond.selects RX12 yX12_bringBack yX12_bringBack, Cond.code yX12_bringBack cX12_bringBack 2 none, Cond.methodLink RX12 319 yX12_readMoveNumber, Cond.instanceMethod yX12_readMoveNumber, Cond.selects RX12 yX12_readMoveNumber yX12_readMoveNumber, Cond.code yX12_readMoveNumber cX12_readMoveNumber 4 (some .int), Cond.methodLink RX12 282 yX12_isDigit, Cond.static yX12_isDigit, Cond.code yX12_isDigit cX12_isDigit 1 (some .boolean), Cond.methodLink RX12 285 yX12_fault]
def wsX12_readLine_r6 : List Cond := [Cond.static yX12_fault, Cond.code yX12_fault cX12_fault 2 (some .int), Cond.methodLink RX12 322 yX12_readMove, Cond.instanceMethod yX12_readMove, Cond.selects RX12 yX12_readMove yX12_readMove, Cond.code yX12_readMove cX12_readMove 5 (some .int), Cond.fieldLink RX12 17 "MoveTextsModel" "count" "[I", Cond.methodLink RX12 279 yX12_isLetter, Cond.static yX12_isLetter, Cond.code yX12_isLetter cX12_isLetter 1 (some .boolean), Cond.methodLink RX12 307 yX12_understood, Cond.instanceMethod yX12_understood, Cond.selects RX12 yX12_understood yX12_understood, Cond.code yX12_understood cX12_understood 6 (some .int), Cond.methodLink RX12 225 yX12_fits, Cond.instanceMethod yX12_fits, Cond.selects RX12 yX12_fits yX12_fits, Cond.code yX12_fits cX12_fits 10 (some .boolean), Cond.methodLink RX12 198 yX12_isCastling, Cond.instanceMethod yX12_isCastling, Cond.selects RX12 yX12_isCastling yX12_isCastling, Cond.code yX12_isCastling cX12_isCastling 4 (some .boolean), Cond.methodLink RX12 214 yX12_spellMove, Cond.instanceMethod yX12_spellMove]
def wsX12_readLine_r7 : List Cond := [Cond.selects RX12 yX12_spellMove yX12_spellMove, Cond.code yX12_spellMove cX12_spellMove 8 none, Cond.fieldLink RX12 191 "MoveTextsModel" "spelledSize" "I", Cond.methodLink RX12 194 yX12_spell, Cond.instanceMethod yX12_spell, Cond.selects RX12 yX12_spell yX12_spell, Cond.code yX12_spell cX12_spell 2 none, Cond.fieldLink RX12 85 "MoveTextsModel" "spelled" "[C", Cond.methodLink RX12 201 yX12_letter, Cond.static yX12_letter, Cond.code yX12_letter cX12_letter 1 (some .char), Cond.methodLink RX12 205 yX12_spellSquare, Cond.instanceMethod yX12_spellSquare, Cond.selects RX12 yX12_spellSquare yX12_spellSquare, Cond.code yX12_spellSquare cX12_spellSquare 2 none, Cond.methodLink RX12 221 yX12_isSpelled, Cond.instanceMethod yX12_isSpelled, Cond.selects RX12 yX12_isSpelled yX12_isSpelled, Cond.code yX12_isSpelled cX12_isSpelled 7 (some .boolean), Cond.methodLink RX12 218 yX12_behind, Cond.instanceMethod yX12_behind, Cond.selects RX12 yX12_behind yX12_behind, Cond.code yX12_behind cX12_behind 5 (some .char), Cond.methodLink RX12 208 yX12_isSafeOnce]
def wsX12_readLine_r8 : List Cond := [Cond.instanceMethod yX12_isSafeOnce, Cond.selects RX12 yX12_isSafeOnce yX12_isSafeOnce, Cond.code yX12_isSafeOnce cX12_isSafeOnce 10 (some .boolean), Cond.methodLink RX12 310 yX12_childWith, Cond.instanceMethod yX12_childWith, Cond.selects RX12 yX12_childWith yX12_childWith, Cond.code yX12_childWith cX12_childWith 5 (some .int), Cond.fieldLink RX12 27 "MoveTextsModel" "child" "[I", Cond.fieldLink RX12 30 "MoveTextsModel" "next" "[I", Cond.methodLink RX12 313 yX12_append, Cond.instanceMethod yX12_append, Cond.selects RX12 yX12_append yX12_append, Cond.code yX12_append cX12_append 6 (some .int), Cond.methodLink RX12 179 yX12_clearNode, Cond.instanceMethod yX12_clearNode, Cond.selects RX12 yX12_clearNode yX12_clearNode, Cond.code yX12_clearNode cX12_clearNode 2 none, Cond.fieldLink RX12 33 "MoveTextsModel" "markCount" "[I", Cond.fieldLink RX12 39 "MoveTextsModel" "remarkSize" "[I", Cond.methodLink RX12 325 yX12_readMarks, Cond.instanceMethod yX12_readMarks, Cond.selects RX12 yX12_readMarks yX12_readMarks, Cond.code yX12_readMarks cX12_readMarks 6 (some .int), Cond.methodLink RX12 303 yX12_addMarkTo]
def wsX12_readLine_r9 : List Cond := [Cond.instanceMethod yX12_addMarkTo, Cond.selects RX12 yX12_addMarkTo yX12_addMarkTo, Cond.code yX12_addMarkTo cX12_addMarkTo 5 none, Cond.fieldLink RX12 36 "MoveTextsModel" "marks" "[I", Cond.methodLink RX12 328 yX12_readRemarks, Cond.instanceMethod yX12_readRemarks, Cond.selects RX12 yX12_readRemarks yX12_readRemarks, Cond.code yX12_readRemarks cX12_readRemarks 11 (some .int), Cond.fieldLink RX12 43 "MoveTextsModel" "remarks" "[C", Cond.methodLink RX12 331 yX12_readLine, Cond.instanceMethod yX12_readLine, Cond.selects RX12 yX12_readLine yX12_readLine]
def wsX12_readLine : List Cond := .code yX12_readLine cX12_readLine 8 (some .int) :: ((wsX12_readLine_r1 ++ (wsX12_readLine_r2 ++ (wsX12_readLine_r3 ++ (wsX12_readLine_r4 ++ (wsX12_readLine_r5 ++ (wsX12_readLine_r6 ++ (wsX12_readLine_r7 ++ (wsX12_readLine_r8 ++ wsX12_readLine_r9)))))))) ++ wsX120)
def wsX12_resultSize : List Cond := .code yX12_resultSize cX12_resultSize 1 (some .int) :: ([])
def wsX12_resultSign : List Cond := .code yX12_resultSign cX12_resultSign 2 (some .char) :: ([])
def wsX12_isResultValue : List Cond := .code yX12_isResultValue cX12_isResultValue 6 (some .boolean) :: ([.fieldLink RX12 61 "MoveTextsModel" "valueSize" "[I", .fieldLink RX12 64 "MoveTextsModel" "values" "[C", .methodLink RX12 340 yX12_resultSize, .static yX12_resultSize, .initialized RX12, .code yX12_resultSize cX12_resultSize 1 (some .int), .methodLink RX12 343 yX12_resultSign, .static yX12_resultSign, .code yX12_resultSign cX12_resultSign 2 (some .char)] ++ wsX120)
def wsX12_readGame_r1 : List Cond := [Cond.fieldLink RX12 267 "MoveTextsModel" "at" "I", Cond.fieldLink RX12 52 "MoveTextsModel" "tagCount" "[I", Cond.fieldLink RX12 67 "MoveTextsModel" "results" "[I", Cond.fieldLink RX12 270 "MoveTextsModel" "typed" "I", Cond.methodLink RX12 273 yX12_blanks, Cond.instanceMethod yX12_blanks, Cond.selects RX12 yX12_blanks yX12_blanks, Cond.initialized RX12, Cond.code yX12_blanks cX12_blanks 1 none, Cond.fieldLink RX12 7 "MoveTextsModel" "text" "[C", Cond.methodLink RX12 276 yX12_look, Cond.instanceMethod yX12_look, Cond.selects RX12 yX12_look yX12_look, Cond.code yX12_look cX12_look 1 (some .char), Cond.methodLink RX12 334 yX12_readTag, Cond.instanceMethod yX12_readTag, Cond.selects RX12 yX12_readTag yX12_readTag, Cond.code yX12_readTag cX12_readTag 7 (some .int), Cond.fieldLink RX12 58 "MoveTextsModel" "names" "[C", Cond.fieldLink RX12 64 "MoveTextsModel" "values" "[C", Cond.fieldLink RX12 55 "MoveTextsModel" "nameSize" "[I", Cond.fieldLink RX12 61 "MoveTextsModel" "valueSize" "[I", Cond.methodLink RX12 279 yX12_isLetter, Cond.static yX12_isLetter]
def wsX12_readGame_r2 : List Cond := [Cond.code yX12_isLetter cX12_isLetter 1 (some .boolean), Cond.methodLink RX12 282 yX12_isDigit, Cond.static yX12_isDigit, Cond.code yX12_isDigit cX12_isDigit 1 (some .boolean), Cond.methodLink RX12 285 yX12_fault, Cond.static yX12_fault, Cond.code yX12_fault cX12_fault 2 (some .int), Cond.methodLink RX12 289 yX12_isNameThere, Cond.instanceMethod yX12_isNameThere, Cond.selects RX12 yX12_isNameThere yX12_isNameThere, Cond.code yX12_isNameThere cX12_isNameThere 7 (some .boolean), Cond.methodLink RX12 292 yX12_isTag, Cond.instanceMethod yX12_isTag, Cond.selects RX12 yX12_isTag yX12_isTag, Cond.code yX12_isTag cX12_isTag 8 (some .boolean), Cond.methodLink RX12 296 yX12_readPosition, Cond.instanceMethod yX12_readPosition, Cond.selects RX12 yX12_readPosition yX12_readPosition, Cond.code yX12_readPosition cX12_readPosition 5 (some .boolean), Cond.fieldLink RX12 229 "MoveTextsModel" "valueAt" "I", Cond.fieldLink RX12 232 "MoveTextsModel" "valueEnd" "I", Cond.fieldLink RX12 70 "MoveTextsModel" "men" "[I", Cond.fieldLink RX12 121 "MoveTextsModel" "side" "I", Cond.fieldLink RX12 130 "MoveTextsModel" "clock" "I"]
def wsX12_readGame_r3 : List Cond := [Cond.fieldLink RX12 133 "MoveTextsModel" "number" "I", Cond.methodLink RX12 250 yX12_readRank, Cond.instanceMethod yX12_readRank, Cond.selects RX12 yX12_readRank yX12_readRank, Cond.code yX12_readRank cX12_readRank 6 (some .boolean), Cond.methodLink RX12 235 yX12_sign, Cond.instanceMethod yX12_sign, Cond.selects RX12 yX12_sign yX12_sign, Cond.code yX12_sign cX12_sign 1 (some .char), Cond.methodLink RX12 239 yX12_manOf, Cond.static yX12_manOf, Cond.code yX12_manOf cX12_manOf 1 (some .int), Cond.methodLink RX12 243 yX12_pass, Cond.instanceMethod yX12_pass, Cond.selects RX12 yX12_pass yX12_pass, Cond.code yX12_pass cX12_pass 3 (some .boolean), Cond.methodLink RX12 253 yX12_readRights, Cond.instanceMethod yX12_readRights, Cond.selects RX12 yX12_readRights yX12_readRights, Cond.code yX12_readRights cX12_readRights 2 (some .boolean), Cond.fieldLink RX12 124 "MoveTextsModel" "rights" "I", Cond.methodLink RX12 257 yX12_readPassed, Cond.instanceMethod yX12_readPassed, Cond.selects RX12 yX12_readPassed yX12_readPassed]
def wsX12_readGame_r4 : List Cond := [Cond.code yX12_readPassed cX12_readPassed 3 (some .boolean), Cond.fieldLink RX12 127 "MoveTextsModel" "passed" "I", Cond.methodLink RX12 260 yX12_readNumber, Cond.instanceMethod yX12_readNumber, Cond.selects RX12 yX12_readNumber yX12_readNumber, Cond.code yX12_readNumber cX12_readNumber 4 (some .int), Cond.methodLink RX12 264 yX12_mayStand, Cond.instanceMethod yX12_mayStand, Cond.selects RX12 yX12_mayStand yX12_mayStand, Cond.code yX12_mayStand cX12_mayStand 5 (some .boolean), Cond.methodLink RX12 247 yX12_countOf, Cond.instanceMethod yX12_countOf, Cond.selects RX12 yX12_countOf yX12_countOf, Cond.code yX12_countOf cX12_countOf 4 (some .int), Cond.methodLink RX12 136 yX12_kind, Cond.static yX12_kind, Cond.code yX12_kind cX12_kind 1 (some .int), Cond.methodLink RX12 152 yX12_isInCheck, Cond.instanceMethod yX12_isInCheck, Cond.selects RX12 yX12_isInCheck yX12_isInCheck, Cond.code yX12_isInCheck cX12_isInCheck 2 (some .boolean), Cond.methodLink RX12 114 yX12_kingOf, Cond.instanceMethod yX12_kingOf, Cond.selects RX12 yX12_kingOf yX12_kingOf]
def wsX12_readGame_r5 : List Cond := [Cond.code yX12_kingOf cX12_kingOf 4 (some .int), Cond.methodLink RX12 118 yX12_isAttacked, Cond.instanceMethod yX12_isAttacked, Cond.selects RX12 yX12_isAttacked yX12_isAttacked, Cond.code yX12_isAttacked cX12_isAttacked 10 (some .boolean), Cond.methodLink RX12 103 yX12_step, Cond.static yX12_step, Cond.code yX12_step cX12_step 5 (some .int), Cond.methodLink RX12 107 yX12_stands, Cond.instanceMethod yX12_stands, Cond.selects RX12 yX12_stands yX12_stands, Cond.code yX12_stands cX12_stands 3 (some .boolean), Cond.methodLink RX12 111 yX12_met, Cond.instanceMethod yX12_met, Cond.selects RX12 yX12_met yX12_met, Cond.code yX12_met cX12_met 5 (some .int), Cond.methodLink RX12 182 yX12_start, Cond.instanceMethod yX12_start, Cond.selects RX12 yX12_start yX12_start, Cond.code yX12_start cX12_start 3 none, Cond.fieldLink RX12 46 "MoveTextsModel" "startMen" "[I", Cond.fieldLink RX12 49 "MoveTextsModel" "startRest" "[I", Cond.methodLink RX12 328 yX12_readRemarks, Cond.instanceMethod yX12_readRemarks]
def wsX12_readGame_r6 : List Cond := [Cond.selects RX12 yX12_readRemarks yX12_readRemarks, Cond.code yX12_readRemarks cX12_readRemarks 11 (some .int), Cond.fieldLink RX12 39 "MoveTextsModel" "remarkSize" "[I", Cond.fieldLink RX12 43 "MoveTextsModel" "remarks" "[C", Cond.methodLink RX12 331 yX12_readLine, Cond.instanceMethod yX12_readLine, Cond.selects RX12 yX12_readLine yX12_readLine, Cond.code yX12_readLine cX12_readLine 8 (some .int), Cond.methodLink RX12 316 yX12_resultHere, Cond.instanceMethod yX12_resultHere, Cond.selects RX12 yX12_resultHere yX12_resultHere, Cond.code yX12_resultHere cX12_resultHere 2 (some .int), Cond.methodLink RX12 299 yX12_goesOnWith, Cond.instanceMethod yX12_goesOnWith, Cond.selects RX12 yX12_goesOnWith yX12_goesOnWith, Cond.code yX12_goesOnWith cX12_goesOnWith 4 (some .boolean), Cond.methodLink RX12 95 yX12_place, Cond.instanceMethod yX12_place, Cond.selects RX12 yX12_place yX12_place, Cond.code yX12_place cX12_place 5 none, Cond.fieldLink RX12 82 "MoveTextsModel" "path" "[I", Cond.fieldLink RX12 21 "MoveTextsModel" "parent" "[I", Cond.fieldLink RX12 24 "MoveTextsModel" "moveOf" "[I", Cond.methodLink RX12 149 yX12_make]
def wsX12_readGame_r7 : List Cond := [Cond.instanceMethod yX12_make, Cond.selects RX12 yX12_make yX12_make, Cond.code yX12_make cX12_make 8 none, Cond.methodLink RX12 139 yX12_isTaking, Cond.instanceMethod yX12_isTaking, Cond.selects RX12 yX12_isTaking yX12_isTaking, Cond.code yX12_isTaking cX12_isTaking 4 (some .boolean), Cond.methodLink RX12 143 yX12_lose, Cond.instanceMethod yX12_lose, Cond.selects RX12 yX12_lose yX12_lose, Cond.code yX12_lose cX12_lose 3 none, Cond.methodLink RX12 185 yX12_findMoves, Cond.instanceMethod yX12_findMoves, Cond.selects RX12 yX12_findMoves yX12_findMoves, Cond.code yX12_findMoves cX12_findMoves 6 none, Cond.fieldLink RX12 170 "MoveTextsModel" "moves" "I", Cond.fieldLink RX12 79 "MoveTextsModel" "list" "[I", Cond.methodLink RX12 161 yX12_sideOf, Cond.static yX12_sideOf, Cond.code yX12_sideOf cX12_sideOf 1 (some .int), Cond.methodLink RX12 173 yX12_goes, Cond.instanceMethod yX12_goes, Cond.selects RX12 yX12_goes yX12_goes, Cond.code yX12_goes cX12_goes 11 (some .boolean)]
def wsX12_readGame_r8 : List Cond := [Cond.methodLink RX12 164 yX12_pawnGoes, Cond.instanceMethod yX12_pawnGoes, Cond.selects RX12 yX12_pawnGoes yX12_pawnGoes, Cond.code yX12_pawnGoes cX12_pawnGoes 5 (some .boolean), Cond.methodLink RX12 167 yX12_mayCastle, Cond.instanceMethod yX12_mayCastle, Cond.selects RX12 yX12_mayCastle yX12_mayCastle, Cond.code yX12_mayCastle cX12_mayCastle 6 (some .boolean), Cond.methodLink RX12 158 yX12_isClear, Cond.instanceMethod yX12_isClear, Cond.selects RX12 yX12_isClear yX12_isClear, Cond.code yX12_isClear cX12_isClear 5 (some .boolean), Cond.methodLink RX12 176 yX12_isSafe, Cond.instanceMethod yX12_isSafe, Cond.selects RX12 yX12_isSafe yX12_isSafe, Cond.code yX12_isSafe cX12_isSafe 3 (some .boolean), Cond.methodLink RX12 146 yX12_keep, Cond.instanceMethod yX12_keep, Cond.selects RX12 yX12_keep yX12_keep, Cond.code yX12_keep cX12_keep 2 none, Cond.fieldLink RX12 73 "MoveTextsModel" "keptMen" "[I", Cond.fieldLink RX12 76 "MoveTextsModel" "keptRest" "[I", Cond.methodLink RX12 155 yX12_bringBack, Cond.instanceMethod yX12_bringBack]
def wsX12_readGame_r9 : List Cond := [Cond.selects RX12 yX12_bringBack yX12_bringBack, Cond.code yX12_bringBack cX12_bringBack 2 none, Cond.methodLink RX12 319 yX12_readMoveNumber, Cond.instanceMethod yX12_readMoveNumber, Cond.selects RX12 yX12_readMoveNumber yX12_readMoveNumber, Cond.code yX12_readMoveNumber cX12_readMoveNumber 4 (some .int), Cond.methodLink RX12 322 yX12_readMove, Cond.instanceMethod yX12_readMove, Cond.selects RX12 yX12_readMove yX12_readMove, Cond.code yX12_readMove cX12_readMove 5 (some .int), Cond.fieldLink RX12 17 "MoveTextsModel" "count" "[I", Cond.methodLink RX12 307 yX12_understood, Cond.instanceMethod yX12_understood, Cond.selects RX12 yX12_understood yX12_understood, Cond.code yX12_understood cX12_understood 6 (some .int), Cond.methodLink RX12 225 yX12_fits, Cond.instanceMethod yX12_fits, Cond.selects RX12 yX12_fits yX12_fits, Cond.code yX12_fits cX12_fits 10 (some .boolean), Cond.methodLink RX12 198 yX12_isCastling, Cond.instanceMethod yX12_isCastling, Cond.selects RX12 yX12_isCastling yX12_isCastling, Cond.code yX12_isCastling cX12_isCastling 4 (some .boolean), Cond.methodLink RX12 214 yX12_spellMove]
def wsX12_readGame_r10 : List Cond := [Cond.instanceMethod yX12_spellMove, Cond.selects RX12 yX12_spellMove yX12_spellMove, Cond.code yX12_spellMove cX12_spellMove 8 none, Cond.fieldLink RX12 191 "MoveTextsModel" "spelledSize" "I", Cond.methodLink RX12 194 yX12_spell, Cond.instanceMethod yX12_spell, Cond.selects RX12 yX12_spell yX12_spell, Cond.code yX12_spell cX12_spell 2 none, Cond.fieldLink RX12 85 "MoveTextsModel" "spelled" "[C", Cond.methodLink RX12 201 yX12_letter, Cond.static yX12_letter, Cond.code yX12_letter cX12_letter 1 (some .char), Cond.methodLink RX12 205 yX12_spellSquare, Cond.instanceMethod yX12_spellSquare, Cond.selects RX12 yX12_spellSquare yX12_spellSquare, Cond.code yX12_spellSquare cX12_spellSquare 2 none, Cond.methodLink RX12 221 yX12_isSpelled, Cond.instanceMethod yX12_isSpelled, Cond.selects RX12 yX12_isSpelled yX12_isSpelled, Cond.code yX12_isSpelled cX12_isSpelled 7 (some .boolean), Cond.methodLink RX12 218 yX12_behind, Cond.instanceMethod yX12_behind, Cond.selects RX12 yX12_behind yX12_behind, Cond.code yX12_behind cX12_behind 5 (some .char)]
def wsX12_readGame_r11 : List Cond := [Cond.methodLink RX12 208 yX12_isSafeOnce, Cond.instanceMethod yX12_isSafeOnce, Cond.selects RX12 yX12_isSafeOnce yX12_isSafeOnce, Cond.code yX12_isSafeOnce cX12_isSafeOnce 10 (some .boolean), Cond.methodLink RX12 310 yX12_childWith, Cond.instanceMethod yX12_childWith, Cond.selects RX12 yX12_childWith yX12_childWith, Cond.code yX12_childWith cX12_childWith 5 (some .int), Cond.fieldLink RX12 27 "MoveTextsModel" "child" "[I", Cond.fieldLink RX12 30 "MoveTextsModel" "next" "[I", Cond.methodLink RX12 313 yX12_append, Cond.instanceMethod yX12_append, Cond.selects RX12 yX12_append yX12_append, Cond.code yX12_append cX12_append 6 (some .int), Cond.methodLink RX12 179 yX12_clearNode, Cond.instanceMethod yX12_clearNode, Cond.selects RX12 yX12_clearNode yX12_clearNode, Cond.code yX12_clearNode cX12_clearNode 2 none, Cond.fieldLink RX12 33 "MoveTextsModel" "markCount" "[I", Cond.methodLink RX12 325 yX12_readMarks, Cond.instanceMethod yX12_readMarks, Cond.selects RX12 yX12_readMarks yX12_readMarks, Cond.code yX12_readMarks cX12_readMarks 6 (some .int), Cond.methodLink RX12 303 yX12_addMarkTo]
def wsX12_readGame_r12 : List Cond := [Cond.instanceMethod yX12_addMarkTo, Cond.selects RX12 yX12_addMarkTo yX12_addMarkTo, Cond.code yX12_addMarkTo cX12_addMarkTo 5 none, Cond.fieldLink RX12 36 "MoveTextsModel" "marks" "[I", Cond.methodLink RX12 337 yX12_isResultValue, Cond.instanceMethod yX12_isResultValue, Cond.selects RX12 yX12_isResultValue yX12_isResultValue, Cond.code yX12_isResultValue cX12_isResultValue 6 (some .boolean), Cond.methodLink RX12 340 yX12_resultSize, Cond.static yX12_resultSize, Cond.code yX12_resultSize cX12_resultSize 1 (some .int), Cond.methodLink RX12 343 yX12_resultSign, Cond.static yX12_resultSign, Cond.code yX12_resultSign cX12_resultSign 2 (some .char)]
def wsX12_readGame : List Cond := .code yX12_readGame cX12_readGame 5 (some .int) :: ((wsX12_readGame_r1 ++ (wsX12_readGame_r2 ++ (wsX12_readGame_r3 ++ (wsX12_readGame_r4 ++ (wsX12_readGame_r5 ++ (wsX12_readGame_r6 ++ (wsX12_readGame_r7 ++ (wsX12_readGame_r8 ++ (wsX12_readGame_r9 ++ (wsX12_readGame_r10 ++ (wsX12_readGame_r11 ++ wsX12_readGame_r12))))))))))) ++ wsX120)
def wsX12_read_r1 : List Cond := [Cond.fieldLink RX12 99 "MoveTextsModel" "thrown" "I", Cond.fieldLink RX12 347 "MoveTextsModel" "game" "I", Cond.fieldLink RX12 353 "MoveTextsModel" "here" "I", Cond.fieldLink RX12 270 "MoveTextsModel" "typed" "I", Cond.methodLink RX12 88 yX12_clearGame, Cond.instanceMethod yX12_clearGame, Cond.selects RX12 yX12_clearGame yX12_clearGame, Cond.initialized RX12, Cond.code yX12_clearGame cX12_clearGame 2 none, Cond.fieldLink RX12 17 "MoveTextsModel" "count" "[I", Cond.fieldLink RX12 52 "MoveTextsModel" "tagCount" "[I", Cond.fieldLink RX12 67 "MoveTextsModel" "results" "[I", Cond.fieldLink RX12 21 "MoveTextsModel" "parent" "[I", Cond.fieldLink RX12 24 "MoveTextsModel" "moveOf" "[I", Cond.methodLink RX12 179 yX12_clearNode, Cond.instanceMethod yX12_clearNode, Cond.selects RX12 yX12_clearNode yX12_clearNode, Cond.code yX12_clearNode cX12_clearNode 2 none, Cond.fieldLink RX12 27 "MoveTextsModel" "child" "[I", Cond.fieldLink RX12 30 "MoveTextsModel" "next" "[I", Cond.fieldLink RX12 33 "MoveTextsModel" "markCount" "[I", Cond.fieldLink RX12 39 "MoveTextsModel" "remarkSize" "[I", Cond.methodLink RX12 92 yX12_usual, Cond.instanceMethod yX12_usual]
def wsX12_read_r2 : List Cond := [Cond.selects RX12 yX12_usual yX12_usual, Cond.code yX12_usual cX12_usual 4 none, Cond.fieldLink RX12 70 "MoveTextsModel" "men" "[I", Cond.fieldLink RX12 121 "MoveTextsModel" "side" "I", Cond.fieldLink RX12 124 "MoveTextsModel" "rights" "I", Cond.fieldLink RX12 127 "MoveTextsModel" "passed" "I", Cond.fieldLink RX12 130 "MoveTextsModel" "clock" "I", Cond.fieldLink RX12 133 "MoveTextsModel" "number" "I", Cond.methodLink RX12 182 yX12_start, Cond.instanceMethod yX12_start, Cond.selects RX12 yX12_start yX12_start, Cond.code yX12_start cX12_start 3 none, Cond.fieldLink RX12 46 "MoveTextsModel" "startMen" "[I", Cond.fieldLink RX12 49 "MoveTextsModel" "startRest" "[I", Cond.methodLink RX12 350 yX12_readGame, Cond.instanceMethod yX12_readGame, Cond.selects RX12 yX12_readGame yX12_readGame, Cond.code yX12_readGame cX12_readGame 5 (some .int), Cond.fieldLink RX12 267 "MoveTextsModel" "at" "I", Cond.methodLink RX12 273 yX12_blanks, Cond.instanceMethod yX12_blanks, Cond.selects RX12 yX12_blanks yX12_blanks, Cond.code yX12_blanks cX12_blanks 1 none, Cond.fieldLink RX12 7 "MoveTextsModel" "text" "[C"]
def wsX12_read_r3 : List Cond := [Cond.methodLink RX12 276 yX12_look, Cond.instanceMethod yX12_look, Cond.selects RX12 yX12_look yX12_look, Cond.code yX12_look cX12_look 1 (some .char), Cond.methodLink RX12 334 yX12_readTag, Cond.instanceMethod yX12_readTag, Cond.selects RX12 yX12_readTag yX12_readTag, Cond.code yX12_readTag cX12_readTag 7 (some .int), Cond.fieldLink RX12 58 "MoveTextsModel" "names" "[C", Cond.fieldLink RX12 64 "MoveTextsModel" "values" "[C", Cond.fieldLink RX12 55 "MoveTextsModel" "nameSize" "[I", Cond.fieldLink RX12 61 "MoveTextsModel" "valueSize" "[I", Cond.methodLink RX12 279 yX12_isLetter, Cond.static yX12_isLetter, Cond.code yX12_isLetter cX12_isLetter 1 (some .boolean), Cond.methodLink RX12 282 yX12_isDigit, Cond.static yX12_isDigit, Cond.code yX12_isDigit cX12_isDigit 1 (some .boolean), Cond.methodLink RX12 285 yX12_fault, Cond.static yX12_fault, Cond.code yX12_fault cX12_fault 2 (some .int), Cond.methodLink RX12 289 yX12_isNameThere, Cond.instanceMethod yX12_isNameThere, Cond.selects RX12 yX12_isNameThere yX12_isNameThere]
def wsX12_read_r4 : List Cond := [Cond.code yX12_isNameThere cX12_isNameThere 7 (some .boolean), Cond.methodLink RX12 292 yX12_isTag, Cond.instanceMethod yX12_isTag, Cond.selects RX12 yX12_isTag yX12_isTag, Cond.code yX12_isTag cX12_isTag 8 (some .boolean), Cond.methodLink RX12 296 yX12_readPosition, Cond.instanceMethod yX12_readPosition, Cond.selects RX12 yX12_readPosition yX12_readPosition, Cond.code yX12_readPosition cX12_readPosition 5 (some .boolean), Cond.fieldLink RX12 229 "MoveTextsModel" "valueAt" "I", Cond.fieldLink RX12 232 "MoveTextsModel" "valueEnd" "I", Cond.methodLink RX12 250 yX12_readRank, Cond.instanceMethod yX12_readRank, Cond.selects RX12 yX12_readRank yX12_readRank, Cond.code yX12_readRank cX12_readRank 6 (some .boolean), Cond.methodLink RX12 235 yX12_sign, Cond.instanceMethod yX12_sign, Cond.selects RX12 yX12_sign yX12_sign, Cond.code yX12_sign cX12_sign 1 (some .char), Cond.methodLink RX12 239 yX12_manOf, Cond.static yX12_manOf, Cond.code yX12_manOf cX12_manOf 1 (some .int), Cond.methodLink RX12 243 yX12_pass, Cond.instanceMethod yX12_pass]
def wsX12_read_r5 : List Cond := [Cond.selects RX12 yX12_pass yX12_pass, Cond.code yX12_pass cX12_pass 3 (some .boolean), Cond.methodLink RX12 253 yX12_readRights, Cond.instanceMethod yX12_readRights, Cond.selects RX12 yX12_readRights yX12_readRights, Cond.code yX12_readRights cX12_readRights 2 (some .boolean), Cond.methodLink RX12 257 yX12_readPassed, Cond.instanceMethod yX12_readPassed, Cond.selects RX12 yX12_readPassed yX12_readPassed, Cond.code yX12_readPassed cX12_readPassed 3 (some .boolean), Cond.methodLink RX12 260 yX12_readNumber, Cond.instanceMethod yX12_readNumber, Cond.selects RX12 yX12_readNumber yX12_readNumber, Cond.code yX12_readNumber cX12_readNumber 4 (some .int), Cond.methodLink RX12 264 yX12_mayStand, Cond.instanceMethod yX12_mayStand, Cond.selects RX12 yX12_mayStand yX12_mayStand, Cond.code yX12_mayStand cX12_mayStand 5 (some .boolean), Cond.methodLink RX12 247 yX12_countOf, Cond.instanceMethod yX12_countOf, Cond.selects RX12 yX12_countOf yX12_countOf, Cond.code yX12_countOf cX12_countOf 4 (some .int), Cond.methodLink RX12 136 yX12_kind, Cond.static yX12_kind]
def wsX12_read_r6 : List Cond := [Cond.code yX12_kind cX12_kind 1 (some .int), Cond.methodLink RX12 152 yX12_isInCheck, Cond.instanceMethod yX12_isInCheck, Cond.selects RX12 yX12_isInCheck yX12_isInCheck, Cond.code yX12_isInCheck cX12_isInCheck 2 (some .boolean), Cond.methodLink RX12 114 yX12_kingOf, Cond.instanceMethod yX12_kingOf, Cond.selects RX12 yX12_kingOf yX12_kingOf, Cond.code yX12_kingOf cX12_kingOf 4 (some .int), Cond.methodLink RX12 118 yX12_isAttacked, Cond.instanceMethod yX12_isAttacked, Cond.selects RX12 yX12_isAttacked yX12_isAttacked, Cond.code yX12_isAttacked cX12_isAttacked 10 (some .boolean), Cond.methodLink RX12 103 yX12_step, Cond.static yX12_step, Cond.code yX12_step cX12_step 5 (some .int), Cond.methodLink RX12 107 yX12_stands, Cond.instanceMethod yX12_stands, Cond.selects RX12 yX12_stands yX12_stands, Cond.code yX12_stands cX12_stands 3 (some .boolean), Cond.methodLink RX12 111 yX12_met, Cond.instanceMethod yX12_met, Cond.selects RX12 yX12_met yX12_met, Cond.code yX12_met cX12_met 5 (some .int)]
def wsX12_read_r7 : List Cond := [Cond.methodLink RX12 328 yX12_readRemarks, Cond.instanceMethod yX12_readRemarks, Cond.selects RX12 yX12_readRemarks yX12_readRemarks, Cond.code yX12_readRemarks cX12_readRemarks 11 (some .int), Cond.fieldLink RX12 43 "MoveTextsModel" "remarks" "[C", Cond.methodLink RX12 331 yX12_readLine, Cond.instanceMethod yX12_readLine, Cond.selects RX12 yX12_readLine yX12_readLine, Cond.code yX12_readLine cX12_readLine 8 (some .int), Cond.methodLink RX12 316 yX12_resultHere, Cond.instanceMethod yX12_resultHere, Cond.selects RX12 yX12_resultHere yX12_resultHere, Cond.code yX12_resultHere cX12_resultHere 2 (some .int), Cond.methodLink RX12 299 yX12_goesOnWith, Cond.instanceMethod yX12_goesOnWith, Cond.selects RX12 yX12_goesOnWith yX12_goesOnWith, Cond.code yX12_goesOnWith cX12_goesOnWith 4 (some .boolean), Cond.methodLink RX12 95 yX12_place, Cond.instanceMethod yX12_place, Cond.selects RX12 yX12_place yX12_place, Cond.code yX12_place cX12_place 5 none, Cond.fieldLink RX12 82 "MoveTextsModel" "path" "[I", Cond.methodLink RX12 149 yX12_make, Cond.instanceMethod yX12_make]
def wsX12_read_r8 : List Cond := [Cond.selects RX12 yX12_make yX12_make, Cond.code yX12_make cX12_make 8 none, Cond.methodLink RX12 139 yX12_isTaking, Cond.instanceMethod yX12_isTaking, Cond.selects RX12 yX12_isTaking yX12_isTaking, Cond.code yX12_isTaking cX12_isTaking 4 (some .boolean), Cond.methodLink RX12 143 yX12_lose, Cond.instanceMethod yX12_lose, Cond.selects RX12 yX12_lose yX12_lose, Cond.code yX12_lose cX12_lose 3 none, Cond.methodLink RX12 185 yX12_findMoves, Cond.instanceMethod yX12_findMoves, Cond.selects RX12 yX12_findMoves yX12_findMoves, Cond.code yX12_findMoves cX12_findMoves 6 none, Cond.fieldLink RX12 170 "MoveTextsModel" "moves" "I", Cond.fieldLink RX12 79 "MoveTextsModel" "list" "[I", Cond.methodLink RX12 161 yX12_sideOf, Cond.static yX12_sideOf, Cond.code yX12_sideOf cX12_sideOf 1 (some .int), Cond.methodLink RX12 173 yX12_goes, Cond.instanceMethod yX12_goes, Cond.selects RX12 yX12_goes yX12_goes, Cond.code yX12_goes cX12_goes 11 (some .boolean), Cond.methodLink RX12 164 yX12_pawnGoes]
def wsX12_read_r9 : List Cond := [Cond.instanceMethod yX12_pawnGoes, Cond.selects RX12 yX12_pawnGoes yX12_pawnGoes, Cond.code yX12_pawnGoes cX12_pawnGoes 5 (some .boolean), Cond.methodLink RX12 167 yX12_mayCastle, Cond.instanceMethod yX12_mayCastle, Cond.selects RX12 yX12_mayCastle yX12_mayCastle, Cond.code yX12_mayCastle cX12_mayCastle 6 (some .boolean), Cond.methodLink RX12 158 yX12_isClear, Cond.instanceMethod yX12_isClear, Cond.selects RX12 yX12_isClear yX12_isClear, Cond.code yX12_isClear cX12_isClear 5 (some .boolean), Cond.methodLink RX12 176 yX12_isSafe, Cond.instanceMethod yX12_isSafe, Cond.selects RX12 yX12_isSafe yX12_isSafe, Cond.code yX12_isSafe cX12_isSafe 3 (some .boolean), Cond.methodLink RX12 146 yX12_keep, Cond.instanceMethod yX12_keep, Cond.selects RX12 yX12_keep yX12_keep, Cond.code yX12_keep cX12_keep 2 none, Cond.fieldLink RX12 73 "MoveTextsModel" "keptMen" "[I", Cond.fieldLink RX12 76 "MoveTextsModel" "keptRest" "[I", Cond.methodLink RX12 155 yX12_bringBack, Cond.instanceMethod yX12_bringBack, Cond.selects RX12 yX12_bringBack yX12_bringBack]
def wsX12_read_r10 : List Cond := [Cond.code yX12_bringBack cX12_bringBack 2 none, Cond.methodLink RX12 319 yX12_readMoveNumber, Cond.instanceMethod yX12_readMoveNumber, Cond.selects RX12 yX12_readMoveNumber yX12_readMoveNumber, Cond.code yX12_readMoveNumber cX12_readMoveNumber 4 (some .int), Cond.methodLink RX12 322 yX12_readMove, Cond.instanceMethod yX12_readMove, Cond.selects RX12 yX12_readMove yX12_readMove, Cond.code yX12_readMove cX12_readMove 5 (some .int), Cond.methodLink RX12 307 yX12_understood, Cond.instanceMethod yX12_understood, Cond.selects RX12 yX12_understood yX12_understood, Cond.code yX12_understood cX12_understood 6 (some .int), Cond.methodLink RX12 225 yX12_fits, Cond.instanceMethod yX12_fits, Cond.selects RX12 yX12_fits yX12_fits, Cond.code yX12_fits cX12_fits 10 (some .boolean), Cond.methodLink RX12 198 yX12_isCastling, Cond.instanceMethod yX12_isCastling, Cond.selects RX12 yX12_isCastling yX12_isCastling, Cond.code yX12_isCastling cX12_isCastling 4 (some .boolean), Cond.methodLink RX12 214 yX12_spellMove, Cond.instanceMethod yX12_spellMove, Cond.selects RX12 yX12_spellMove yX12_spellMove]
def wsX12_read_r11 : List Cond := [Cond.code yX12_spellMove cX12_spellMove 8 none, Cond.fieldLink RX12 191 "MoveTextsModel" "spelledSize" "I", Cond.methodLink RX12 194 yX12_spell, Cond.instanceMethod yX12_spell, Cond.selects RX12 yX12_spell yX12_spell, Cond.code yX12_spell cX12_spell 2 none, Cond.fieldLink RX12 85 "MoveTextsModel" "spelled" "[C", Cond.methodLink RX12 201 yX12_letter, Cond.static yX12_letter, Cond.code yX12_letter cX12_letter 1 (some .char), Cond.methodLink RX12 205 yX12_spellSquare, Cond.instanceMethod yX12_spellSquare, Cond.selects RX12 yX12_spellSquare yX12_spellSquare, Cond.code yX12_spellSquare cX12_spellSquare 2 none, Cond.methodLink RX12 221 yX12_isSpelled, Cond.instanceMethod yX12_isSpelled, Cond.selects RX12 yX12_isSpelled yX12_isSpelled, Cond.code yX12_isSpelled cX12_isSpelled 7 (some .boolean), Cond.methodLink RX12 218 yX12_behind, Cond.instanceMethod yX12_behind, Cond.selects RX12 yX12_behind yX12_behind, Cond.code yX12_behind cX12_behind 5 (some .char), Cond.methodLink RX12 208 yX12_isSafeOnce, Cond.instanceMethod yX12_isSafeOnce]
def wsX12_read_r12 : List Cond := [Cond.selects RX12 yX12_isSafeOnce yX12_isSafeOnce, Cond.code yX12_isSafeOnce cX12_isSafeOnce 10 (some .boolean), Cond.methodLink RX12 310 yX12_childWith, Cond.instanceMethod yX12_childWith, Cond.selects RX12 yX12_childWith yX12_childWith, Cond.code yX12_childWith cX12_childWith 5 (some .int), Cond.methodLink RX12 313 yX12_append, Cond.instanceMethod yX12_append, Cond.selects RX12 yX12_append yX12_append, Cond.code yX12_append cX12_append 6 (some .int), Cond.methodLink RX12 325 yX12_readMarks, Cond.instanceMethod yX12_readMarks, Cond.selects RX12 yX12_readMarks yX12_readMarks, Cond.code yX12_readMarks cX12_readMarks 6 (some .int), Cond.methodLink RX12 303 yX12_addMarkTo, Cond.instanceMethod yX12_addMarkTo, Cond.selects RX12 yX12_addMarkTo yX12_addMarkTo, Cond.code yX12_addMarkTo cX12_addMarkTo 5 none, Cond.fieldLink RX12 36 "MoveTextsModel" "marks" "[I", Cond.methodLink RX12 337 yX12_isResultValue, Cond.instanceMethod yX12_isResultValue, Cond.selects RX12 yX12_isResultValue yX12_isResultValue, Cond.code yX12_isResultValue cX12_isResultValue 6 (some .boolean), Cond.methodLink RX12 340 yX12_resultSize]
def wsX12_read_r13 : List Cond := [Cond.static yX12_resultSize, Cond.code yX12_resultSize cX12_resultSize 1 (some .int), Cond.methodLink RX12 343 yX12_resultSign, Cond.static yX12_resultSign, Cond.code yX12_resultSign cX12_resultSign 2 (some .char)]
def wsX12_read : List Cond := .code yX12_read cX12_read 3 (some .int) :: ((wsX12_read_r1 ++ (wsX12_read_r2 ++ (wsX12_read_r3 ++ (wsX12_read_r4 ++ (wsX12_read_r5 ++ (wsX12_read_r6 ++ (wsX12_read_r7 ++ (wsX12_read_r8 ++ (wsX12_read_r9 ++ (wsX12_read_r10 ++ (wsX12_read_r11 ++ (wsX12_read_r12 ++ wsX12_read_r13)))))))))))) ++ wsX120)
def wsX12_find_r1 : List Cond := [Cond.fieldLink RX12 99 "MoveTextsModel" "thrown" "I", Cond.fieldLink RX12 270 "MoveTextsModel" "typed" "I", Cond.methodLink RX12 307 yX12_understood, Cond.instanceMethod yX12_understood, Cond.selects RX12 yX12_understood yX12_understood, Cond.initialized RX12, Cond.code yX12_understood cX12_understood 6 (some .int), Cond.fieldLink RX12 170 "MoveTextsModel" "moves" "I", Cond.fieldLink RX12 79 "MoveTextsModel" "list" "[I", Cond.methodLink RX12 225 yX12_fits, Cond.instanceMethod yX12_fits, Cond.selects RX12 yX12_fits yX12_fits, Cond.code yX12_fits cX12_fits 10 (some .boolean), Cond.fieldLink RX12 70 "MoveTextsModel" "men" "[I", Cond.fieldLink RX12 7 "MoveTextsModel" "text" "[C", Cond.methodLink RX12 136 yX12_kind, Cond.static yX12_kind, Cond.code yX12_kind cX12_kind 1 (some .int), Cond.methodLink RX12 139 yX12_isTaking, Cond.instanceMethod yX12_isTaking, Cond.selects RX12 yX12_isTaking yX12_isTaking, Cond.code yX12_isTaking cX12_isTaking 4 (some .boolean), Cond.methodLink RX12 198 yX12_isCastling, Cond.instanceMethod yX12_isCastling]
def wsX12_find_r2 : List Cond := [Cond.selects RX12 yX12_isCastling yX12_isCastling, Cond.code yX12_isCastling cX12_isCastling 4 (some .boolean), Cond.methodLink RX12 214 yX12_spellMove, Cond.instanceMethod yX12_spellMove, Cond.selects RX12 yX12_spellMove yX12_spellMove, Cond.code yX12_spellMove cX12_spellMove 8 none, Cond.fieldLink RX12 191 "MoveTextsModel" "spelledSize" "I", Cond.methodLink RX12 194 yX12_spell, Cond.instanceMethod yX12_spell, Cond.selects RX12 yX12_spell yX12_spell, Cond.code yX12_spell cX12_spell 2 none, Cond.fieldLink RX12 85 "MoveTextsModel" "spelled" "[C", Cond.methodLink RX12 201 yX12_letter, Cond.static yX12_letter, Cond.code yX12_letter cX12_letter 1 (some .char), Cond.methodLink RX12 205 yX12_spellSquare, Cond.instanceMethod yX12_spellSquare, Cond.selects RX12 yX12_spellSquare yX12_spellSquare, Cond.code yX12_spellSquare cX12_spellSquare 2 none, Cond.methodLink RX12 221 yX12_isSpelled, Cond.instanceMethod yX12_isSpelled, Cond.selects RX12 yX12_isSpelled yX12_isSpelled, Cond.code yX12_isSpelled cX12_isSpelled 7 (some .boolean), Cond.methodLink RX12 218 yX12_behind]
def wsX12_find_r3 : List Cond := [Cond.instanceMethod yX12_behind, Cond.selects RX12 yX12_behind yX12_behind, Cond.code yX12_behind cX12_behind 5 (some .char), Cond.fieldLink RX12 121 "MoveTextsModel" "side" "I", Cond.methodLink RX12 146 yX12_keep, Cond.instanceMethod yX12_keep, Cond.selects RX12 yX12_keep yX12_keep, Cond.code yX12_keep cX12_keep 2 none, Cond.fieldLink RX12 73 "MoveTextsModel" "keptMen" "[I", Cond.fieldLink RX12 76 "MoveTextsModel" "keptRest" "[I", Cond.fieldLink RX12 124 "MoveTextsModel" "rights" "I", Cond.fieldLink RX12 127 "MoveTextsModel" "passed" "I", Cond.fieldLink RX12 130 "MoveTextsModel" "clock" "I", Cond.fieldLink RX12 133 "MoveTextsModel" "number" "I", Cond.methodLink RX12 149 yX12_make, Cond.instanceMethod yX12_make, Cond.selects RX12 yX12_make yX12_make, Cond.code yX12_make cX12_make 8 none, Cond.methodLink RX12 143 yX12_lose, Cond.instanceMethod yX12_lose, Cond.selects RX12 yX12_lose yX12_lose, Cond.code yX12_lose cX12_lose 3 none, Cond.methodLink RX12 103 yX12_step, Cond.static yX12_step]
def wsX12_find_r4 : List Cond := [Cond.code yX12_step cX12_step 5 (some .int), Cond.methodLink RX12 107 yX12_stands, Cond.instanceMethod yX12_stands, Cond.selects RX12 yX12_stands yX12_stands, Cond.code yX12_stands cX12_stands 3 (some .boolean), Cond.methodLink RX12 152 yX12_isInCheck, Cond.instanceMethod yX12_isInCheck, Cond.selects RX12 yX12_isInCheck yX12_isInCheck, Cond.code yX12_isInCheck cX12_isInCheck 2 (some .boolean), Cond.methodLink RX12 114 yX12_kingOf, Cond.instanceMethod yX12_kingOf, Cond.selects RX12 yX12_kingOf yX12_kingOf, Cond.code yX12_kingOf cX12_kingOf 4 (some .int), Cond.methodLink RX12 118 yX12_isAttacked, Cond.instanceMethod yX12_isAttacked, Cond.selects RX12 yX12_isAttacked yX12_isAttacked, Cond.code yX12_isAttacked cX12_isAttacked 10 (some .boolean), Cond.methodLink RX12 111 yX12_met, Cond.instanceMethod yX12_met, Cond.selects RX12 yX12_met yX12_met, Cond.code yX12_met cX12_met 5 (some .int), Cond.methodLink RX12 173 yX12_goes, Cond.instanceMethod yX12_goes, Cond.selects RX12 yX12_goes yX12_goes]
def wsX12_find_r5 : List Cond := [Cond.code yX12_goes cX12_goes 11 (some .boolean), Cond.methodLink RX12 161 yX12_sideOf, Cond.static yX12_sideOf, Cond.code yX12_sideOf cX12_sideOf 1 (some .int), Cond.methodLink RX12 164 yX12_pawnGoes, Cond.instanceMethod yX12_pawnGoes, Cond.selects RX12 yX12_pawnGoes yX12_pawnGoes, Cond.code yX12_pawnGoes cX12_pawnGoes 5 (some .boolean), Cond.methodLink RX12 167 yX12_mayCastle, Cond.instanceMethod yX12_mayCastle, Cond.selects RX12 yX12_mayCastle yX12_mayCastle, Cond.code yX12_mayCastle cX12_mayCastle 6 (some .boolean), Cond.methodLink RX12 158 yX12_isClear, Cond.instanceMethod yX12_isClear, Cond.selects RX12 yX12_isClear yX12_isClear, Cond.code yX12_isClear cX12_isClear 5 (some .boolean), Cond.methodLink RX12 208 yX12_isSafeOnce, Cond.instanceMethod yX12_isSafeOnce, Cond.selects RX12 yX12_isSafeOnce yX12_isSafeOnce, Cond.code yX12_isSafeOnce cX12_isSafeOnce 10 (some .boolean), Cond.methodLink RX12 155 yX12_bringBack, Cond.instanceMethod yX12_bringBack, Cond.selects RX12 yX12_bringBack yX12_bringBack, Cond.code yX12_bringBack cX12_bringBack 2 none]
def wsX12_find : List Cond := .code yX12_find cX12_find 1 (some .int) :: ((wsX12_find_r1 ++ (wsX12_find_r2 ++ (wsX12_find_r3 ++ (wsX12_find_r4 ++ wsX12_find_r5)))) ++ wsX120)
def wsX12_type : List Cond := .code yX12_type cX12_type 7 (some .boolean) :: ([.fieldLink RX12 99 "MoveTextsModel" "thrown" "I", .fieldLink RX12 270 "MoveTextsModel" "typed" "I", .constantLong RX12 356 (255), .constantLong RX12 358 (10), .constantLong RX12 360 (32), .constantLong RX12 362 (126), .fieldLink RX12 7 "MoveTextsModel" "text" "[C"] ++ wsX120)
def wsX12_cut : List Cond := .code yX12_cut cX12_cut 2 (some .boolean) :: ([.fieldLink RX12 99 "MoveTextsModel" "thrown" "I", .fieldLink RX12 270 "MoveTextsModel" "typed" "I"] ++ wsX120)
def wsX12_ink : List Cond := .code yX12_ink cX12_ink 2 none :: ([.fieldLink RX12 14 "MoveTextsModel" "out" "[C", .fieldLink RX12 364 "MoveTextsModel" "told" "I"] ++ wsX120)
def wsX12_sayNumber : List Cond := .code yX12_sayNumber cX12_sayNumber 3 none :: ([.methodLink RX12 367 yX12_ink, .instanceMethod yX12_ink, .selects RX12 yX12_ink yX12_ink, .initialized RX12, .code yX12_ink cX12_ink 2 none, .fieldLink RX12 14 "MoveTextsModel" "out" "[C", .fieldLink RX12 364 "MoveTextsModel" "told" "I"] ++ wsX120)
def wsX12_sayRemark : List Cond := .code yX12_sayRemark cX12_sayRemark 3 none :: ([.fieldLink RX12 39 "MoveTextsModel" "remarkSize" "[I", .fieldLink RX12 43 "MoveTextsModel" "remarks" "[C", .methodLink RX12 367 yX12_ink, .instanceMethod yX12_ink, .selects RX12 yX12_ink yX12_ink, .initialized RX12, .code yX12_ink cX12_ink 2 none, .fieldLink RX12 14 "MoveTextsModel" "out" "[C", .fieldLink RX12 364 "MoveTextsModel" "told" "I"] ++ wsX120)
def wsX12_sayMove_r1 : List Cond := [Cond.fieldLink RX12 347 "MoveTextsModel" "game" "I", Cond.fieldLink RX12 21 "MoveTextsModel" "parent" "[I", Cond.fieldLink RX12 121 "MoveTextsModel" "side" "I", Cond.fieldLink RX12 133 "MoveTextsModel" "number" "I", Cond.fieldLink RX12 24 "MoveTextsModel" "moveOf" "[I", Cond.fieldLink RX12 191 "MoveTextsModel" "spelledSize" "I", Cond.fieldLink RX12 85 "MoveTextsModel" "spelled" "[C", Cond.fieldLink RX12 33 "MoveTextsModel" "markCount" "[I", Cond.fieldLink RX12 36 "MoveTextsModel" "marks" "[I", Cond.fieldLink RX12 39 "MoveTextsModel" "remarkSize" "[I", Cond.methodLink RX12 95 yX12_place, Cond.instanceMethod yX12_place, Cond.selects RX12 yX12_place yX12_place, Cond.initialized RX12, Cond.code yX12_place cX12_place 5 none, Cond.fieldLink RX12 82 "MoveTextsModel" "path" "[I", Cond.fieldLink RX12 70 "MoveTextsModel" "men" "[I", Cond.fieldLink RX12 46 "MoveTextsModel" "startMen" "[I", Cond.fieldLink RX12 49 "MoveTextsModel" "startRest" "[I", Cond.fieldLink RX12 124 "MoveTextsModel" "rights" "I", Cond.fieldLink RX12 127 "MoveTextsModel" "passed" "I", Cond.fieldLink RX12 130 "MoveTextsModel" "clock" "I", Cond.methodLink RX12 149 yX12_make, Cond.instanceMethod yX12_make]
def wsX12_sayMove_r2 : List Cond := [Cond.selects RX12 yX12_make yX12_make, Cond.code yX12_make cX12_make 8 none, Cond.methodLink RX12 136 yX12_kind, Cond.static yX12_kind, Cond.code yX12_kind cX12_kind 1 (some .int), Cond.methodLink RX12 139 yX12_isTaking, Cond.instanceMethod yX12_isTaking, Cond.selects RX12 yX12_isTaking yX12_isTaking, Cond.code yX12_isTaking cX12_isTaking 4 (some .boolean), Cond.methodLink RX12 143 yX12_lose, Cond.instanceMethod yX12_lose, Cond.selects RX12 yX12_lose yX12_lose, Cond.code yX12_lose cX12_lose 3 none, Cond.methodLink RX12 103 yX12_step, Cond.static yX12_step, Cond.code yX12_step cX12_step 5 (some .int), Cond.methodLink RX12 107 yX12_stands, Cond.instanceMethod yX12_stands, Cond.selects RX12 yX12_stands yX12_stands, Cond.code yX12_stands cX12_stands 3 (some .boolean), Cond.methodLink RX12 185 yX12_findMoves, Cond.instanceMethod yX12_findMoves, Cond.selects RX12 yX12_findMoves yX12_findMoves, Cond.code yX12_findMoves cX12_findMoves 6 none]
def wsX12_sayMove_r3 : List Cond := [Cond.fieldLink RX12 170 "MoveTextsModel" "moves" "I", Cond.fieldLink RX12 79 "MoveTextsModel" "list" "[I", Cond.methodLink RX12 161 yX12_sideOf, Cond.static yX12_sideOf, Cond.code yX12_sideOf cX12_sideOf 1 (some .int), Cond.methodLink RX12 173 yX12_goes, Cond.instanceMethod yX12_goes, Cond.selects RX12 yX12_goes yX12_goes, Cond.code yX12_goes cX12_goes 11 (some .boolean), Cond.methodLink RX12 164 yX12_pawnGoes, Cond.instanceMethod yX12_pawnGoes, Cond.selects RX12 yX12_pawnGoes yX12_pawnGoes, Cond.code yX12_pawnGoes cX12_pawnGoes 5 (some .boolean), Cond.methodLink RX12 167 yX12_mayCastle, Cond.instanceMethod yX12_mayCastle, Cond.selects RX12 yX12_mayCastle yX12_mayCastle, Cond.code yX12_mayCastle cX12_mayCastle 6 (some .boolean), Cond.methodLink RX12 158 yX12_isClear, Cond.instanceMethod yX12_isClear, Cond.selects RX12 yX12_isClear yX12_isClear, Cond.code yX12_isClear cX12_isClear 5 (some .boolean), Cond.methodLink RX12 118 yX12_isAttacked, Cond.instanceMethod yX12_isAttacked, Cond.selects RX12 yX12_isAttacked yX12_isAttacked]
def wsX12_sayMove_r4 : List Cond := [Cond.code yX12_isAttacked cX12_isAttacked 10 (some .boolean), Cond.methodLink RX12 111 yX12_met, Cond.instanceMethod yX12_met, Cond.selects RX12 yX12_met yX12_met, Cond.code yX12_met cX12_met 5 (some .int), Cond.methodLink RX12 176 yX12_isSafe, Cond.instanceMethod yX12_isSafe, Cond.selects RX12 yX12_isSafe yX12_isSafe, Cond.code yX12_isSafe cX12_isSafe 3 (some .boolean), Cond.methodLink RX12 146 yX12_keep, Cond.instanceMethod yX12_keep, Cond.selects RX12 yX12_keep yX12_keep, Cond.code yX12_keep cX12_keep 2 none, Cond.fieldLink RX12 73 "MoveTextsModel" "keptMen" "[I", Cond.fieldLink RX12 76 "MoveTextsModel" "keptRest" "[I", Cond.methodLink RX12 152 yX12_isInCheck, Cond.instanceMethod yX12_isInCheck, Cond.selects RX12 yX12_isInCheck yX12_isInCheck, Cond.code yX12_isInCheck cX12_isInCheck 2 (some .boolean), Cond.methodLink RX12 114 yX12_kingOf, Cond.instanceMethod yX12_kingOf, Cond.selects RX12 yX12_kingOf yX12_kingOf, Cond.code yX12_kingOf cX12_kingOf 4 (some .int), Cond.methodLink RX12 155 yX12_bringBack]
def wsX12_sayMove_r5 : List Cond := [Cond.instanceMethod yX12_bringBack, Cond.selects RX12 yX12_bringBack yX12_bringBack, Cond.code yX12_bringBack cX12_bringBack 2 none, Cond.methodLink RX12 370 yX12_sayNumber, Cond.instanceMethod yX12_sayNumber, Cond.selects RX12 yX12_sayNumber yX12_sayNumber, Cond.code yX12_sayNumber cX12_sayNumber 3 none, Cond.methodLink RX12 367 yX12_ink, Cond.instanceMethod yX12_ink, Cond.selects RX12 yX12_ink yX12_ink, Cond.code yX12_ink cX12_ink 2 none, Cond.fieldLink RX12 14 "MoveTextsModel" "out" "[C", Cond.fieldLink RX12 364 "MoveTextsModel" "told" "I", Cond.methodLink RX12 373 yX12_spellWhole, Cond.instanceMethod yX12_spellWhole, Cond.selects RX12 yX12_spellWhole yX12_spellWhole, Cond.code yX12_spellWhole cX12_spellWhole 3 none, Cond.methodLink RX12 211 yX12_apartOf, Cond.instanceMethod yX12_apartOf, Cond.selects RX12 yX12_apartOf yX12_apartOf, Cond.code yX12_apartOf cX12_apartOf 9 (some .int), Cond.methodLink RX12 214 yX12_spellMove, Cond.instanceMethod yX12_spellMove, Cond.selects RX12 yX12_spellMove yX12_spellMove]
def wsX12_sayMove_r6 : List Cond := [Cond.code yX12_spellMove cX12_spellMove 8 none, Cond.methodLink RX12 198 yX12_isCastling, Cond.instanceMethod yX12_isCastling, Cond.selects RX12 yX12_isCastling yX12_isCastling, Cond.code yX12_isCastling cX12_isCastling 4 (some .boolean), Cond.methodLink RX12 194 yX12_spell, Cond.instanceMethod yX12_spell, Cond.selects RX12 yX12_spell yX12_spell, Cond.code yX12_spell cX12_spell 2 none, Cond.methodLink RX12 201 yX12_letter, Cond.static yX12_letter, Cond.code yX12_letter cX12_letter 1 (some .char), Cond.methodLink RX12 205 yX12_spellSquare, Cond.instanceMethod yX12_spellSquare, Cond.selects RX12 yX12_spellSquare yX12_spellSquare, Cond.code yX12_spellSquare cX12_spellSquare 2 none, Cond.methodLink RX12 218 yX12_behind, Cond.instanceMethod yX12_behind, Cond.selects RX12 yX12_behind yX12_behind, Cond.code yX12_behind cX12_behind 5 (some .char), Cond.methodLink RX12 208 yX12_isSafeOnce, Cond.instanceMethod yX12_isSafeOnce, Cond.selects RX12 yX12_isSafeOnce yX12_isSafeOnce, Cond.code yX12_isSafeOnce cX12_isSafeOnce 10 (some .boolean)]
def wsX12_sayMove_r7 : List Cond := [Cond.methodLink RX12 376 yX12_sayRemark, Cond.instanceMethod yX12_sayRemark, Cond.selects RX12 yX12_sayRemark yX12_sayRemark, Cond.code yX12_sayRemark cX12_sayRemark 3 none, Cond.fieldLink RX12 43 "MoveTextsModel" "remarks" "[C"]
def wsX12_sayMove : List Cond := .code yX12_sayMove cX12_sayMove 5 none :: ((wsX12_sayMove_r1 ++ (wsX12_sayMove_r2 ++ (wsX12_sayMove_r3 ++ (wsX12_sayMove_r4 ++ (wsX12_sayMove_r5 ++ (wsX12_sayMove_r6 ++ wsX12_sayMove_r7)))))) ++ wsX120)
def wsX12_sayLine_r1 : List Cond := [Cond.fieldLink RX12 347 "MoveTextsModel" "game" "I", Cond.fieldLink RX12 39 "MoveTextsModel" "remarkSize" "[I", Cond.fieldLink RX12 30 "MoveTextsModel" "next" "[I", Cond.fieldLink RX12 27 "MoveTextsModel" "child" "[I", Cond.methodLink RX12 379 yX12_sayMove, Cond.instanceMethod yX12_sayMove, Cond.selects RX12 yX12_sayMove yX12_sayMove, Cond.initialized RX12, Cond.code yX12_sayMove cX12_sayMove 5 none, Cond.fieldLink RX12 21 "MoveTextsModel" "parent" "[I", Cond.fieldLink RX12 121 "MoveTextsModel" "side" "I", Cond.fieldLink RX12 133 "MoveTextsModel" "number" "I", Cond.fieldLink RX12 24 "MoveTextsModel" "moveOf" "[I", Cond.fieldLink RX12 191 "MoveTextsModel" "spelledSize" "I", Cond.fieldLink RX12 85 "MoveTextsModel" "spelled" "[C", Cond.fieldLink RX12 33 "MoveTextsModel" "markCount" "[I", Cond.fieldLink RX12 36 "MoveTextsModel" "marks" "[I", Cond.methodLink RX12 95 yX12_place, Cond.instanceMethod yX12_place, Cond.selects RX12 yX12_place yX12_place, Cond.code yX12_place cX12_place 5 none, Cond.fieldLink RX12 82 "MoveTextsModel" "path" "[I", Cond.fieldLink RX12 70 "MoveTextsModel" "men" "[I", Cond.fieldLink RX12 46 "MoveTextsModel" "startMen" "[I"]
def wsX12_sayLine_r2 : List Cond := [Cond.fieldLink RX12 49 "MoveTextsModel" "startRest" "[I", Cond.fieldLink RX12 124 "MoveTextsModel" "rights" "I", Cond.fieldLink RX12 127 "MoveTextsModel" "passed" "I", Cond.fieldLink RX12 130 "MoveTextsModel" "clock" "I", Cond.methodLink RX12 149 yX12_make, Cond.instanceMethod yX12_make, Cond.selects RX12 yX12_make yX12_make, Cond.code yX12_make cX12_make 8 none, Cond.methodLink RX12 136 yX12_kind, Cond.static yX12_kind, Cond.code yX12_kind cX12_kind 1 (some .int), Cond.methodLink RX12 139 yX12_isTaking, Cond.instanceMethod yX12_isTaking, Cond.selects RX12 yX12_isTaking yX12_isTaking, Cond.code yX12_isTaking cX12_isTaking 4 (some .boolean), Cond.methodLink RX12 143 yX12_lose, Cond.instanceMethod yX12_lose, Cond.selects RX12 yX12_lose yX12_lose, Cond.code yX12_lose cX12_lose 3 none, Cond.methodLink RX12 103 yX12_step, Cond.static yX12_step, Cond.code yX12_step cX12_step 5 (some .int), Cond.methodLink RX12 107 yX12_stands, Cond.instanceMethod yX12_stands]
def wsX12_sayLine_r3 : List Cond := [Cond.selects RX12 yX12_stands yX12_stands, Cond.code yX12_stands cX12_stands 3 (some .boolean), Cond.methodLink RX12 185 yX12_findMoves, Cond.instanceMethod yX12_findMoves, Cond.selects RX12 yX12_findMoves yX12_findMoves, Cond.code yX12_findMoves cX12_findMoves 6 none, Cond.fieldLink RX12 170 "MoveTextsModel" "moves" "I", Cond.fieldLink RX12 79 "MoveTextsModel" "list" "[I", Cond.methodLink RX12 161 yX12_sideOf, Cond.static yX12_sideOf, Cond.code yX12_sideOf cX12_sideOf 1 (some .int), Cond.methodLink RX12 173 yX12_goes, Cond.instanceMethod yX12_goes, Cond.selects RX12 yX12_goes yX12_goes, Cond.code yX12_goes cX12_goes 11 (some .boolean), Cond.methodLink RX12 164 yX12_pawnGoes, Cond.instanceMethod yX12_pawnGoes, Cond.selects RX12 yX12_pawnGoes yX12_pawnGoes, Cond.code yX12_pawnGoes cX12_pawnGoes 5 (some .boolean), Cond.methodLink RX12 167 yX12_mayCastle, Cond.instanceMethod yX12_mayCastle, Cond.selects RX12 yX12_mayCastle yX12_mayCastle, Cond.code yX12_mayCastle cX12_mayCastle 6 (some .boolean), Cond.methodLink RX12 158 yX12_isClear]
def wsX12_sayLine_r4 : List Cond := [Cond.instanceMethod yX12_isClear, Cond.selects RX12 yX12_isClear yX12_isClear, Cond.code yX12_isClear cX12_isClear 5 (some .boolean), Cond.methodLink RX12 118 yX12_isAttacked, Cond.instanceMethod yX12_isAttacked, Cond.selects RX12 yX12_isAttacked yX12_isAttacked, Cond.code yX12_isAttacked cX12_isAttacked 10 (some .boolean), Cond.methodLink RX12 111 yX12_met, Cond.instanceMethod yX12_met, Cond.selects RX12 yX12_met yX12_met, Cond.code yX12_met cX12_met 5 (some .int), Cond.methodLink RX12 176 yX12_isSafe, Cond.instanceMethod yX12_isSafe, Cond.selects RX12 yX12_isSafe yX12_isSafe, Cond.code yX12_isSafe cX12_isSafe 3 (some .boolean), Cond.methodLink RX12 146 yX12_keep, Cond.instanceMethod yX12_keep, Cond.selects RX12 yX12_keep yX12_keep, Cond.code yX12_keep cX12_keep 2 none, Cond.fieldLink RX12 73 "MoveTextsModel" "keptMen" "[I", Cond.fieldLink RX12 76 "MoveTextsModel" "keptRest" "[I", Cond.methodLink RX12 152 yX12_isInCheck, Cond.instanceMethod yX12_isInCheck, Cond.selects RX12 yX12_isInCheck yX12_isInCheck]
def wsX12_sayLine_r5 : List Cond := [Cond.code yX12_isInCheck cX12_isInCheck 2 (some .boolean), Cond.methodLink RX12 114 yX12_kingOf, Cond.instanceMethod yX12_kingOf, Cond.selects RX12 yX12_kingOf yX12_kingOf, Cond.code yX12_kingOf cX12_kingOf 4 (some .int), Cond.methodLink RX12 155 yX12_bringBack, Cond.instanceMethod yX12_bringBack, Cond.selects RX12 yX12_bringBack yX12_bringBack, Cond.code yX12_bringBack cX12_bringBack 2 none, Cond.methodLink RX12 370 yX12_sayNumber, Cond.instanceMethod yX12_sayNumber, Cond.selects RX12 yX12_sayNumber yX12_sayNumber, Cond.code yX12_sayNumber cX12_sayNumber 3 none, Cond.methodLink RX12 367 yX12_ink, Cond.instanceMethod yX12_ink, Cond.selects RX12 yX12_ink yX12_ink, Cond.code yX12_ink cX12_ink 2 none, Cond.fieldLink RX12 14 "MoveTextsModel" "out" "[C", Cond.fieldLink RX12 364 "MoveTextsModel" "told" "I", Cond.methodLink RX12 373 yX12_spellWhole, Cond.instanceMethod yX12_spellWhole, Cond.selects RX12 yX12_spellWhole yX12_spellWhole, Cond.code yX12_spellWhole cX12_spellWhole 3 none, Cond.methodLink RX12 211 yX12_apartOf]
def wsX12_sayLine_r6 : List Cond := [Cond.instanceMethod yX12_apartOf, Cond.selects RX12 yX12_apartOf yX12_apartOf, Cond.code yX12_apartOf cX12_apartOf 9 (some .int), Cond.methodLink RX12 214 yX12_spellMove, Cond.instanceMethod yX12_spellMove, Cond.selects RX12 yX12_spellMove yX12_spellMove, Cond.code yX12_spellMove cX12_spellMove 8 none, Cond.methodLink RX12 198 yX12_isCastling, Cond.instanceMethod yX12_isCastling, Cond.selects RX12 yX12_isCastling yX12_isCastling, Cond.code yX12_isCastling cX12_isCastling 4 (some .boolean), Cond.methodLink RX12 194 yX12_spell, Cond.instanceMethod yX12_spell, Cond.selects RX12 yX12_spell yX12_spell, Cond.code yX12_spell cX12_spell 2 none, Cond.methodLink RX12 201 yX12_letter, Cond.static yX12_letter, Cond.code yX12_letter cX12_letter 1 (some .char), Cond.methodLink RX12 205 yX12_spellSquare, Cond.instanceMethod yX12_spellSquare, Cond.selects RX12 yX12_spellSquare yX12_spellSquare, Cond.code yX12_spellSquare cX12_spellSquare 2 none, Cond.methodLink RX12 218 yX12_behind, Cond.instanceMethod yX12_behind]
def wsX12_sayLine_r7 : List Cond := [Cond.selects RX12 yX12_behind yX12_behind, Cond.code yX12_behind cX12_behind 5 (some .char), Cond.methodLink RX12 208 yX12_isSafeOnce, Cond.instanceMethod yX12_isSafeOnce, Cond.selects RX12 yX12_isSafeOnce yX12_isSafeOnce, Cond.code yX12_isSafeOnce cX12_isSafeOnce 10 (some .boolean), Cond.methodLink RX12 376 yX12_sayRemark, Cond.instanceMethod yX12_sayRemark, Cond.selects RX12 yX12_sayRemark yX12_sayRemark, Cond.code yX12_sayRemark cX12_sayRemark 3 none, Cond.fieldLink RX12 43 "MoveTextsModel" "remarks" "[C", Cond.methodLink RX12 383 yX12_sayLine, Cond.instanceMethod yX12_sayLine, Cond.selects RX12 yX12_sayLine yX12_sayLine]
def wsX12_sayLine : List Cond := .code yX12_sayLine cX12_sayLine 8 none :: ((wsX12_sayLine_r1 ++ (wsX12_sayLine_r2 ++ (wsX12_sayLine_r3 ++ (wsX12_sayLine_r4 ++ (wsX12_sayLine_r5 ++ (wsX12_sayLine_r6 ++ wsX12_sayLine_r7)))))) ++ wsX120)
def wsX12_write_r1 : List Cond := [Cond.fieldLink RX12 99 "MoveTextsModel" "thrown" "I", Cond.fieldLink RX12 364 "MoveTextsModel" "told" "I", Cond.fieldLink RX12 52 "MoveTextsModel" "tagCount" "[I", Cond.fieldLink RX12 347 "MoveTextsModel" "game" "I", Cond.fieldLink RX12 55 "MoveTextsModel" "nameSize" "[I", Cond.fieldLink RX12 58 "MoveTextsModel" "names" "[C", Cond.fieldLink RX12 61 "MoveTextsModel" "valueSize" "[I", Cond.fieldLink RX12 64 "MoveTextsModel" "values" "[C", Cond.fieldLink RX12 39 "MoveTextsModel" "remarkSize" "[I", Cond.fieldLink RX12 27 "MoveTextsModel" "child" "[I", Cond.fieldLink RX12 67 "MoveTextsModel" "results" "[I", Cond.fieldLink RX12 353 "MoveTextsModel" "here" "I", Cond.methodLink RX12 367 yX12_ink, Cond.instanceMethod yX12_ink, Cond.selects RX12 yX12_ink yX12_ink, Cond.initialized RX12, Cond.code yX12_ink cX12_ink 2 none, Cond.fieldLink RX12 14 "MoveTextsModel" "out" "[C", Cond.methodLink RX12 376 yX12_sayRemark, Cond.instanceMethod yX12_sayRemark, Cond.selects RX12 yX12_sayRemark yX12_sayRemark, Cond.code yX12_sayRemark cX12_sayRemark 3 none, Cond.fieldLink RX12 43 "MoveTextsModel" "remarks" "[C", Cond.methodLink RX12 383 yX12_sayLine]
def wsX12_write_r2 : List Cond := [Cond.instanceMethod yX12_sayLine, Cond.selects RX12 yX12_sayLine yX12_sayLine, Cond.code yX12_sayLine cX12_sayLine 8 none, Cond.fieldLink RX12 30 "MoveTextsModel" "next" "[I", Cond.methodLink RX12 379 yX12_sayMove, Cond.instanceMethod yX12_sayMove, Cond.selects RX12 yX12_sayMove yX12_sayMove, Cond.code yX12_sayMove cX12_sayMove 5 none, Cond.fieldLink RX12 21 "MoveTextsModel" "parent" "[I", Cond.fieldLink RX12 121 "MoveTextsModel" "side" "I", Cond.fieldLink RX12 133 "MoveTextsModel" "number" "I", Cond.fieldLink RX12 24 "MoveTextsModel" "moveOf" "[I", Cond.fieldLink RX12 191 "MoveTextsModel" "spelledSize" "I", Cond.fieldLink RX12 85 "MoveTextsModel" "spelled" "[C", Cond.fieldLink RX12 33 "MoveTextsModel" "markCount" "[I", Cond.fieldLink RX12 36 "MoveTextsModel" "marks" "[I", Cond.methodLink RX12 95 yX12_place, Cond.instanceMethod yX12_place, Cond.selects RX12 yX12_place yX12_place, Cond.code yX12_place cX12_place 5 none, Cond.fieldLink RX12 82 "MoveTextsModel" "path" "[I", Cond.fieldLink RX12 70 "MoveTextsModel" "men" "[I", Cond.fieldLink RX12 46 "MoveTextsModel" "startMen" "[I", Cond.fieldLink RX12 49 "MoveTextsModel" "startRest" "[I"]
def wsX12_write_r3 : List Cond := [Cond.fieldLink RX12 124 "MoveTextsModel" "rights" "I", Cond.fieldLink RX12 127 "MoveTextsModel" "passed" "I", Cond.fieldLink RX12 130 "MoveTextsModel" "clock" "I", Cond.methodLink RX12 149 yX12_make, Cond.instanceMethod yX12_make, Cond.selects RX12 yX12_make yX12_make, Cond.code yX12_make cX12_make 8 none, Cond.methodLink RX12 136 yX12_kind, Cond.static yX12_kind, Cond.code yX12_kind cX12_kind 1 (some .int), Cond.methodLink RX12 139 yX12_isTaking, Cond.instanceMethod yX12_isTaking, Cond.selects RX12 yX12_isTaking yX12_isTaking, Cond.code yX12_isTaking cX12_isTaking 4 (some .boolean), Cond.methodLink RX12 143 yX12_lose, Cond.instanceMethod yX12_lose, Cond.selects RX12 yX12_lose yX12_lose, Cond.code yX12_lose cX12_lose 3 none, Cond.methodLink RX12 103 yX12_step, Cond.static yX12_step, Cond.code yX12_step cX12_step 5 (some .int), Cond.methodLink RX12 107 yX12_stands, Cond.instanceMethod yX12_stands, Cond.selects RX12 yX12_stands yX12_stands]
def wsX12_write_r4 : List Cond := [Cond.code yX12_stands cX12_stands 3 (some .boolean), Cond.methodLink RX12 185 yX12_findMoves, Cond.instanceMethod yX12_findMoves, Cond.selects RX12 yX12_findMoves yX12_findMoves, Cond.code yX12_findMoves cX12_findMoves 6 none, Cond.fieldLink RX12 170 "MoveTextsModel" "moves" "I", Cond.fieldLink RX12 79 "MoveTextsModel" "list" "[I", Cond.methodLink RX12 161 yX12_sideOf, Cond.static yX12_sideOf, Cond.code yX12_sideOf cX12_sideOf 1 (some .int), Cond.methodLink RX12 173 yX12_goes, Cond.instanceMethod yX12_goes, Cond.selects RX12 yX12_goes yX12_goes, Cond.code yX12_goes cX12_goes 11 (some .boolean), Cond.methodLink RX12 164 yX12_pawnGoes, Cond.instanceMethod yX12_pawnGoes, Cond.selects RX12 yX12_pawnGoes yX12_pawnGoes, Cond.code yX12_pawnGoes cX12_pawnGoes 5 (some .boolean), Cond.methodLink RX12 167 yX12_mayCastle, Cond.instanceMethod yX12_mayCastle, Cond.selects RX12 yX12_mayCastle yX12_mayCastle, Cond.code yX12_mayCastle cX12_mayCastle 6 (some .boolean), Cond.methodLink RX12 158 yX12_isClear, Cond.instanceMethod yX12_isClear]
def wsX12_write_r5 : List Cond := [Cond.selects RX12 yX12_isClear yX12_isClear, Cond.code yX12_isClear cX12_isClear 5 (some .boolean), Cond.methodLink RX12 118 yX12_isAttacked, Cond.instanceMethod yX12_isAttacked, Cond.selects RX12 yX12_isAttacked yX12_isAttacked, Cond.code yX12_isAttacked cX12_isAttacked 10 (some .boolean), Cond.methodLink RX12 111 yX12_met, Cond.instanceMethod yX12_met, Cond.selects RX12 yX12_met yX12_met, Cond.code yX12_met cX12_met 5 (some .int), Cond.methodLink RX12 176 yX12_isSafe, Cond.instanceMethod yX12_isSafe, Cond.selects RX12 yX12_isSafe yX12_isSafe, Cond.code yX12_isSafe cX12_isSafe 3 (some .boolean), Cond.methodLink RX12 146 yX12_keep, Cond.instanceMethod yX12_keep, Cond.selects RX12 yX12_keep yX12_keep, Cond.code yX12_keep cX12_keep 2 none, Cond.fieldLink RX12 73 "MoveTextsModel" "keptMen" "[I", Cond.fieldLink RX12 76 "MoveTextsModel" "keptRest" "[I", Cond.methodLink RX12 152 yX12_isInCheck, Cond.instanceMethod yX12_isInCheck, Cond.selects RX12 yX12_isInCheck yX12_isInCheck, Cond.code yX12_isInCheck cX12_isInCheck 2 (some .boolean)]
def wsX12_write_r6 : List Cond := [Cond.methodLink RX12 114 yX12_kingOf, Cond.instanceMethod yX12_kingOf, Cond.selects RX12 yX12_kingOf yX12_kingOf, Cond.code yX12_kingOf cX12_kingOf 4 (some .int), Cond.methodLink RX12 155 yX12_bringBack, Cond.instanceMethod yX12_bringBack, Cond.selects RX12 yX12_bringBack yX12_bringBack, Cond.code yX12_bringBack cX12_bringBack 2 none, Cond.methodLink RX12 370 yX12_sayNumber, Cond.instanceMethod yX12_sayNumber, Cond.selects RX12 yX12_sayNumber yX12_sayNumber, Cond.code yX12_sayNumber cX12_sayNumber 3 none, Cond.methodLink RX12 373 yX12_spellWhole, Cond.instanceMethod yX12_spellWhole, Cond.selects RX12 yX12_spellWhole yX12_spellWhole, Cond.code yX12_spellWhole cX12_spellWhole 3 none, Cond.methodLink RX12 211 yX12_apartOf, Cond.instanceMethod yX12_apartOf, Cond.selects RX12 yX12_apartOf yX12_apartOf, Cond.code yX12_apartOf cX12_apartOf 9 (some .int), Cond.methodLink RX12 214 yX12_spellMove, Cond.instanceMethod yX12_spellMove, Cond.selects RX12 yX12_spellMove yX12_spellMove, Cond.code yX12_spellMove cX12_spellMove 8 none]
def wsX12_write_r7 : List Cond := [Cond.methodLink RX12 198 yX12_isCastling, Cond.instanceMethod yX12_isCastling, Cond.selects RX12 yX12_isCastling yX12_isCastling, Cond.code yX12_isCastling cX12_isCastling 4 (some .boolean), Cond.methodLink RX12 194 yX12_spell, Cond.instanceMethod yX12_spell, Cond.selects RX12 yX12_spell yX12_spell, Cond.code yX12_spell cX12_spell 2 none, Cond.methodLink RX12 201 yX12_letter, Cond.static yX12_letter, Cond.code yX12_letter cX12_letter 1 (some .char), Cond.methodLink RX12 205 yX12_spellSquare, Cond.instanceMethod yX12_spellSquare, Cond.selects RX12 yX12_spellSquare yX12_spellSquare, Cond.code yX12_spellSquare cX12_spellSquare 2 none, Cond.methodLink RX12 218 yX12_behind, Cond.instanceMethod yX12_behind, Cond.selects RX12 yX12_behind yX12_behind, Cond.code yX12_behind cX12_behind 5 (some .char), Cond.methodLink RX12 208 yX12_isSafeOnce, Cond.instanceMethod yX12_isSafeOnce, Cond.selects RX12 yX12_isSafeOnce yX12_isSafeOnce, Cond.code yX12_isSafeOnce cX12_isSafeOnce 10 (some .boolean), Cond.methodLink RX12 340 yX12_resultSize]
def wsX12_write_r8 : List Cond := [Cond.static yX12_resultSize, Cond.code yX12_resultSize cX12_resultSize 1 (some .int), Cond.methodLink RX12 343 yX12_resultSign, Cond.static yX12_resultSign, Cond.code yX12_resultSign cX12_resultSign 2 (some .char)]
def wsX12_write : List Cond := .code yX12_write cX12_write 4 (some .int) :: ((wsX12_write_r1 ++ (wsX12_write_r2 ++ (wsX12_write_r3 ++ (wsX12_write_r4 ++ (wsX12_write_r5 ++ (wsX12_write_r6 ++ (wsX12_write_r7 ++ wsX12_write_r8))))))) ++ wsX120)
def wsX12_isLegal : List Cond := .code yX12_isLegal cX12_isLegal 4 (some .boolean) :: ([.fieldLink RX12 170 "MoveTextsModel" "moves" "I", .fieldLink RX12 79 "MoveTextsModel" "list" "[I"] ++ wsX120)
def wsX12_signs_r1 : List Cond := [Cond.fieldLink RX12 99 "MoveTextsModel" "thrown" "I", Cond.fieldLink RX12 191 "MoveTextsModel" "spelledSize" "I", Cond.fieldLink RX12 14 "MoveTextsModel" "out" "[C", Cond.fieldLink RX12 85 "MoveTextsModel" "spelled" "[C", Cond.fieldLink RX12 364 "MoveTextsModel" "told" "I", Cond.methodLink RX12 386 yX12_isLegal, Cond.instanceMethod yX12_isLegal, Cond.selects RX12 yX12_isLegal yX12_isLegal, Cond.initialized RX12, Cond.code yX12_isLegal cX12_isLegal 4 (some .boolean), Cond.fieldLink RX12 170 "MoveTextsModel" "moves" "I", Cond.fieldLink RX12 79 "MoveTextsModel" "list" "[I", Cond.methodLink RX12 373 yX12_spellWhole, Cond.instanceMethod yX12_spellWhole, Cond.selects RX12 yX12_spellWhole yX12_spellWhole, Cond.code yX12_spellWhole cX12_spellWhole 3 none, Cond.methodLink RX12 211 yX12_apartOf, Cond.instanceMethod yX12_apartOf, Cond.selects RX12 yX12_apartOf yX12_apartOf, Cond.code yX12_apartOf cX12_apartOf 9 (some .int), Cond.fieldLink RX12 70 "MoveTextsModel" "men" "[I", Cond.methodLink RX12 136 yX12_kind, Cond.static yX12_kind, Cond.code yX12_kind cX12_kind 1 (some .int)]
def wsX12_signs_r2 : List Cond := [Cond.methodLink RX12 139 yX12_isTaking, Cond.instanceMethod yX12_isTaking, Cond.selects RX12 yX12_isTaking yX12_isTaking, Cond.code yX12_isTaking cX12_isTaking 4 (some .boolean), Cond.methodLink RX12 214 yX12_spellMove, Cond.instanceMethod yX12_spellMove, Cond.selects RX12 yX12_spellMove yX12_spellMove, Cond.code yX12_spellMove cX12_spellMove 8 none, Cond.methodLink RX12 198 yX12_isCastling, Cond.instanceMethod yX12_isCastling, Cond.selects RX12 yX12_isCastling yX12_isCastling, Cond.code yX12_isCastling cX12_isCastling 4 (some .boolean), Cond.methodLink RX12 194 yX12_spell, Cond.instanceMethod yX12_spell, Cond.selects RX12 yX12_spell yX12_spell, Cond.code yX12_spell cX12_spell 2 none, Cond.methodLink RX12 201 yX12_letter, Cond.static yX12_letter, Cond.code yX12_letter cX12_letter 1 (some .char), Cond.methodLink RX12 205 yX12_spellSquare, Cond.instanceMethod yX12_spellSquare, Cond.selects RX12 yX12_spellSquare yX12_spellSquare, Cond.code yX12_spellSquare cX12_spellSquare 2 none, Cond.methodLink RX12 218 yX12_behind]
def wsX12_signs_r3 : List Cond := [Cond.instanceMethod yX12_behind, Cond.selects RX12 yX12_behind yX12_behind, Cond.code yX12_behind cX12_behind 5 (some .char), Cond.fieldLink RX12 121 "MoveTextsModel" "side" "I", Cond.methodLink RX12 146 yX12_keep, Cond.instanceMethod yX12_keep, Cond.selects RX12 yX12_keep yX12_keep, Cond.code yX12_keep cX12_keep 2 none, Cond.fieldLink RX12 73 "MoveTextsModel" "keptMen" "[I", Cond.fieldLink RX12 76 "MoveTextsModel" "keptRest" "[I", Cond.fieldLink RX12 124 "MoveTextsModel" "rights" "I", Cond.fieldLink RX12 127 "MoveTextsModel" "passed" "I", Cond.fieldLink RX12 130 "MoveTextsModel" "clock" "I", Cond.fieldLink RX12 133 "MoveTextsModel" "number" "I", Cond.methodLink RX12 149 yX12_make, Cond.instanceMethod yX12_make, Cond.selects RX12 yX12_make yX12_make, Cond.code yX12_make cX12_make 8 none, Cond.methodLink RX12 143 yX12_lose, Cond.instanceMethod yX12_lose, Cond.selects RX12 yX12_lose yX12_lose, Cond.code yX12_lose cX12_lose 3 none, Cond.methodLink RX12 103 yX12_step, Cond.static yX12_step]
def wsX12_signs_r4 : List Cond := [Cond.code yX12_step cX12_step 5 (some .int), Cond.methodLink RX12 107 yX12_stands, Cond.instanceMethod yX12_stands, Cond.selects RX12 yX12_stands yX12_stands, Cond.code yX12_stands cX12_stands 3 (some .boolean), Cond.methodLink RX12 152 yX12_isInCheck, Cond.instanceMethod yX12_isInCheck, Cond.selects RX12 yX12_isInCheck yX12_isInCheck, Cond.code yX12_isInCheck cX12_isInCheck 2 (some .boolean), Cond.methodLink RX12 114 yX12_kingOf, Cond.instanceMethod yX12_kingOf, Cond.selects RX12 yX12_kingOf yX12_kingOf, Cond.code yX12_kingOf cX12_kingOf 4 (some .int), Cond.methodLink RX12 118 yX12_isAttacked, Cond.instanceMethod yX12_isAttacked, Cond.selects RX12 yX12_isAttacked yX12_isAttacked, Cond.code yX12_isAttacked cX12_isAttacked 10 (some .boolean), Cond.methodLink RX12 111 yX12_met, Cond.instanceMethod yX12_met, Cond.selects RX12 yX12_met yX12_met, Cond.code yX12_met cX12_met 5 (some .int), Cond.methodLink RX12 173 yX12_goes, Cond.instanceMethod yX12_goes, Cond.selects RX12 yX12_goes yX12_goes]
def wsX12_signs_r5 : List Cond := [Cond.code yX12_goes cX12_goes 11 (some .boolean), Cond.methodLink RX12 161 yX12_sideOf, Cond.static yX12_sideOf, Cond.code yX12_sideOf cX12_sideOf 1 (some .int), Cond.methodLink RX12 164 yX12_pawnGoes, Cond.instanceMethod yX12_pawnGoes, Cond.selects RX12 yX12_pawnGoes yX12_pawnGoes, Cond.code yX12_pawnGoes cX12_pawnGoes 5 (some .boolean), Cond.methodLink RX12 167 yX12_mayCastle, Cond.instanceMethod yX12_mayCastle, Cond.selects RX12 yX12_mayCastle yX12_mayCastle, Cond.code yX12_mayCastle cX12_mayCastle 6 (some .boolean), Cond.methodLink RX12 158 yX12_isClear, Cond.instanceMethod yX12_isClear, Cond.selects RX12 yX12_isClear yX12_isClear, Cond.code yX12_isClear cX12_isClear 5 (some .boolean), Cond.methodLink RX12 208 yX12_isSafeOnce, Cond.instanceMethod yX12_isSafeOnce, Cond.selects RX12 yX12_isSafeOnce yX12_isSafeOnce, Cond.code yX12_isSafeOnce cX12_isSafeOnce 10 (some .boolean), Cond.methodLink RX12 155 yX12_bringBack, Cond.instanceMethod yX12_bringBack, Cond.selects RX12 yX12_bringBack yX12_bringBack, Cond.code yX12_bringBack cX12_bringBack 2 none]
def wsX12_signs : List Cond := .code yX12_signs cX12_signs 3 (some .int) :: ((wsX12_signs_r1 ++ (wsX12_signs_r2 ++ (wsX12_signs_r3 ++ (wsX12_signs_r4 ++ wsX12_signs_r5)))) ++ wsX120)
def wsX12_out : List Cond := .code yX12_out cX12_out 2 (some .int) :: ([.fieldLink RX12 99 "MoveTextsModel" "thrown" "I", .fieldLink RX12 364 "MoveTextsModel" "told" "I", .fieldLink RX12 14 "MoveTextsModel" "out" "[C"] ++ wsX120)
def wsX12_isNode : List Cond := .code yX12_isNode cX12_isNode 2 (some .boolean) :: ([.fieldLink RX12 17 "MoveTextsModel" "count" "[I", .fieldLink RX12 347 "MoveTextsModel" "game" "I"] ++ wsX120)
def wsX12_nodes : List Cond := .code yX12_nodes cX12_nodes 1 (some .int) :: ([.fieldLink RX12 99 "MoveTextsModel" "thrown" "I", .fieldLink RX12 17 "MoveTextsModel" "count" "[I", .fieldLink RX12 347 "MoveTextsModel" "game" "I"] ++ wsX120)
def wsX12_node : List Cond := .code yX12_node cX12_node 4 (some .int) :: ([.fieldLink RX12 99 "MoveTextsModel" "thrown" "I", .fieldLink RX12 347 "MoveTextsModel" "game" "I", .fieldLink RX12 21 "MoveTextsModel" "parent" "[I", .fieldLink RX12 24 "MoveTextsModel" "moveOf" "[I", .fieldLink RX12 27 "MoveTextsModel" "child" "[I", .fieldLink RX12 30 "MoveTextsModel" "next" "[I", .fieldLink RX12 33 "MoveTextsModel" "markCount" "[I", .fieldLink RX12 39 "MoveTextsModel" "remarkSize" "[I", .methodLink RX12 389 yX12_isNode, .instanceMethod yX12_isNode, .selects RX12 yX12_isNode yX12_isNode, .initialized RX12, .code yX12_isNode cX12_isNode 2 (some .boolean), .fieldLink RX12 17 "MoveTextsModel" "count" "[I"] ++ wsX120)
def wsX12_mark : List Cond := .code yX12_mark cX12_mark 3 (some .int) :: ([.fieldLink RX12 33 "MoveTextsModel" "markCount" "[I", .fieldLink RX12 347 "MoveTextsModel" "game" "I", .fieldLink RX12 99 "MoveTextsModel" "thrown" "I", .fieldLink RX12 36 "MoveTextsModel" "marks" "[I", .methodLink RX12 389 yX12_isNode, .instanceMethod yX12_isNode, .selects RX12 yX12_isNode yX12_isNode, .initialized RX12, .code yX12_isNode cX12_isNode 2 (some .boolean), .fieldLink RX12 17 "MoveTextsModel" "count" "[I"] ++ wsX120)
def wsX12_remark : List Cond := .code yX12_remark cX12_remark 3 (some .int) :: ([.fieldLink RX12 39 "MoveTextsModel" "remarkSize" "[I", .fieldLink RX12 347 "MoveTextsModel" "game" "I", .fieldLink RX12 99 "MoveTextsModel" "thrown" "I", .fieldLink RX12 43 "MoveTextsModel" "remarks" "[C", .methodLink RX12 389 yX12_isNode, .instanceMethod yX12_isNode, .selects RX12 yX12_isNode yX12_isNode, .initialized RX12, .code yX12_isNode cX12_isNode 2 (some .boolean), .fieldLink RX12 17 "MoveTextsModel" "count" "[I"] ++ wsX120)
def wsX12_here : List Cond := .code yX12_here cX12_here 1 (some .int) :: ([.fieldLink RX12 99 "MoveTextsModel" "thrown" "I", .fieldLink RX12 353 "MoveTextsModel" "here" "I"] ++ wsX120)
def wsX12_go_r1 : List Cond := [Cond.fieldLink RX12 99 "MoveTextsModel" "thrown" "I", Cond.fieldLink RX12 353 "MoveTextsModel" "here" "I", Cond.fieldLink RX12 347 "MoveTextsModel" "game" "I", Cond.methodLink RX12 389 yX12_isNode, Cond.instanceMethod yX12_isNode, Cond.selects RX12 yX12_isNode yX12_isNode, Cond.initialized RX12, Cond.code yX12_isNode cX12_isNode 2 (some .boolean), Cond.fieldLink RX12 17 "MoveTextsModel" "count" "[I", Cond.methodLink RX12 95 yX12_place, Cond.instanceMethod yX12_place, Cond.selects RX12 yX12_place yX12_place, Cond.code yX12_place cX12_place 5 none, Cond.fieldLink RX12 82 "MoveTextsModel" "path" "[I", Cond.fieldLink RX12 21 "MoveTextsModel" "parent" "[I", Cond.fieldLink RX12 70 "MoveTextsModel" "men" "[I", Cond.fieldLink RX12 46 "MoveTextsModel" "startMen" "[I", Cond.fieldLink RX12 49 "MoveTextsModel" "startRest" "[I", Cond.fieldLink RX12 121 "MoveTextsModel" "side" "I", Cond.fieldLink RX12 124 "MoveTextsModel" "rights" "I", Cond.fieldLink RX12 127 "MoveTextsModel" "passed" "I", Cond.fieldLink RX12 130 "MoveTextsModel" "clock" "I", Cond.fieldLink RX12 133 "MoveTextsModel" "number" "I", Cond.fieldLink RX12 24 "MoveTextsModel" "moveOf" "[I"]
def wsX12_go_r2 : List Cond := [Cond.methodLink RX12 149 yX12_make, Cond.instanceMethod yX12_make, Cond.selects RX12 yX12_make yX12_make, Cond.code yX12_make cX12_make 8 none, Cond.methodLink RX12 136 yX12_kind, Cond.static yX12_kind, Cond.code yX12_kind cX12_kind 1 (some .int), Cond.methodLink RX12 139 yX12_isTaking, Cond.instanceMethod yX12_isTaking, Cond.selects RX12 yX12_isTaking yX12_isTaking, Cond.code yX12_isTaking cX12_isTaking 4 (some .boolean), Cond.methodLink RX12 143 yX12_lose, Cond.instanceMethod yX12_lose, Cond.selects RX12 yX12_lose yX12_lose, Cond.code yX12_lose cX12_lose 3 none, Cond.methodLink RX12 103 yX12_step, Cond.static yX12_step, Cond.code yX12_step cX12_step 5 (some .int), Cond.methodLink RX12 107 yX12_stands, Cond.instanceMethod yX12_stands, Cond.selects RX12 yX12_stands yX12_stands, Cond.code yX12_stands cX12_stands 3 (some .boolean), Cond.methodLink RX12 185 yX12_findMoves, Cond.instanceMethod yX12_findMoves]
def wsX12_go_r3 : List Cond := [Cond.selects RX12 yX12_findMoves yX12_findMoves, Cond.code yX12_findMoves cX12_findMoves 6 none, Cond.fieldLink RX12 170 "MoveTextsModel" "moves" "I", Cond.fieldLink RX12 79 "MoveTextsModel" "list" "[I", Cond.methodLink RX12 161 yX12_sideOf, Cond.static yX12_sideOf, Cond.code yX12_sideOf cX12_sideOf 1 (some .int), Cond.methodLink RX12 173 yX12_goes, Cond.instanceMethod yX12_goes, Cond.selects RX12 yX12_goes yX12_goes, Cond.code yX12_goes cX12_goes 11 (some .boolean), Cond.methodLink RX12 164 yX12_pawnGoes, Cond.instanceMethod yX12_pawnGoes, Cond.selects RX12 yX12_pawnGoes yX12_pawnGoes, Cond.code yX12_pawnGoes cX12_pawnGoes 5 (some .boolean), Cond.methodLink RX12 167 yX12_mayCastle, Cond.instanceMethod yX12_mayCastle, Cond.selects RX12 yX12_mayCastle yX12_mayCastle, Cond.code yX12_mayCastle cX12_mayCastle 6 (some .boolean), Cond.methodLink RX12 158 yX12_isClear, Cond.instanceMethod yX12_isClear, Cond.selects RX12 yX12_isClear yX12_isClear, Cond.code yX12_isClear cX12_isClear 5 (some .boolean), Cond.methodLink RX12 118 yX12_isAttacked]
def wsX12_go_r4 : List Cond := [Cond.instanceMethod yX12_isAttacked, Cond.selects RX12 yX12_isAttacked yX12_isAttacked, Cond.code yX12_isAttacked cX12_isAttacked 10 (some .boolean), Cond.methodLink RX12 111 yX12_met, Cond.instanceMethod yX12_met, Cond.selects RX12 yX12_met yX12_met, Cond.code yX12_met cX12_met 5 (some .int), Cond.methodLink RX12 176 yX12_isSafe, Cond.instanceMethod yX12_isSafe, Cond.selects RX12 yX12_isSafe yX12_isSafe, Cond.code yX12_isSafe cX12_isSafe 3 (some .boolean), Cond.methodLink RX12 146 yX12_keep, Cond.instanceMethod yX12_keep, Cond.selects RX12 yX12_keep yX12_keep, Cond.code yX12_keep cX12_keep 2 none, Cond.fieldLink RX12 73 "MoveTextsModel" "keptMen" "[I", Cond.fieldLink RX12 76 "MoveTextsModel" "keptRest" "[I", Cond.methodLink RX12 152 yX12_isInCheck, Cond.instanceMethod yX12_isInCheck, Cond.selects RX12 yX12_isInCheck yX12_isInCheck, Cond.code yX12_isInCheck cX12_isInCheck 2 (some .boolean), Cond.methodLink RX12 114 yX12_kingOf, Cond.instanceMethod yX12_kingOf, Cond.selects RX12 yX12_kingOf yX12_kingOf]
def wsX12_go_r5 : List Cond := [Cond.code yX12_kingOf cX12_kingOf 4 (some .int), Cond.methodLink RX12 155 yX12_bringBack, Cond.instanceMethod yX12_bringBack, Cond.selects RX12 yX12_bringBack yX12_bringBack, Cond.code yX12_bringBack cX12_bringBack 2 none]
def wsX12_go : List Cond := .code yX12_go cX12_go 2 none :: ((wsX12_go_r1 ++ (wsX12_go_r2 ++ (wsX12_go_r3 ++ (wsX12_go_r4 ++ wsX12_go_r5)))) ++ wsX120)
def wsX12_man : List Cond := .code yX12_man cX12_man 2 (some .int) :: ([.fieldLink RX12 99 "MoveTextsModel" "thrown" "I", .fieldLink RX12 70 "MoveTextsModel" "men" "[I"] ++ wsX120)
def wsX12_move : List Cond := .code yX12_move cX12_move 2 (some .int) :: ([.fieldLink RX12 99 "MoveTextsModel" "thrown" "I", .fieldLink RX12 170 "MoveTextsModel" "moves" "I", .fieldLink RX12 79 "MoveTextsModel" "list" "[I"] ++ wsX120)
def wsX12_add_r1 : List Cond := [Cond.fieldLink RX12 99 "MoveTextsModel" "thrown" "I", Cond.fieldLink RX12 347 "MoveTextsModel" "game" "I", Cond.fieldLink RX12 353 "MoveTextsModel" "here" "I", Cond.fieldLink RX12 27 "MoveTextsModel" "child" "[I", Cond.fieldLink RX12 17 "MoveTextsModel" "count" "[I", Cond.methodLink RX12 386 yX12_isLegal, Cond.instanceMethod yX12_isLegal, Cond.selects RX12 yX12_isLegal yX12_isLegal, Cond.initialized RX12, Cond.code yX12_isLegal cX12_isLegal 4 (some .boolean), Cond.fieldLink RX12 170 "MoveTextsModel" "moves" "I", Cond.fieldLink RX12 79 "MoveTextsModel" "list" "[I", Cond.methodLink RX12 310 yX12_childWith, Cond.instanceMethod yX12_childWith, Cond.selects RX12 yX12_childWith yX12_childWith, Cond.code yX12_childWith cX12_childWith 5 (some .int), Cond.fieldLink RX12 24 "MoveTextsModel" "moveOf" "[I", Cond.fieldLink RX12 30 "MoveTextsModel" "next" "[I", Cond.methodLink RX12 392 yX12_deepOf, Cond.instanceMethod yX12_deepOf, Cond.selects RX12 yX12_deepOf yX12_deepOf, Cond.code yX12_deepOf cX12_deepOf 5 (some .int), Cond.fieldLink RX12 21 "MoveTextsModel" "parent" "[I", Cond.methodLink RX12 188 yX12_isFirst]
def wsX12_add_r2 : List Cond := [Cond.instanceMethod yX12_isFirst, Cond.selects RX12 yX12_isFirst yX12_isFirst, Cond.code yX12_isFirst cX12_isFirst 3 (some .boolean), Cond.methodLink RX12 313 yX12_append, Cond.instanceMethod yX12_append, Cond.selects RX12 yX12_append yX12_append, Cond.code yX12_append cX12_append 6 (some .int), Cond.methodLink RX12 179 yX12_clearNode, Cond.instanceMethod yX12_clearNode, Cond.selects RX12 yX12_clearNode yX12_clearNode, Cond.code yX12_clearNode cX12_clearNode 2 none, Cond.fieldLink RX12 33 "MoveTextsModel" "markCount" "[I", Cond.fieldLink RX12 39 "MoveTextsModel" "remarkSize" "[I", Cond.methodLink RX12 95 yX12_place, Cond.instanceMethod yX12_place, Cond.selects RX12 yX12_place yX12_place, Cond.code yX12_place cX12_place 5 none, Cond.fieldLink RX12 82 "MoveTextsModel" "path" "[I", Cond.fieldLink RX12 70 "MoveTextsModel" "men" "[I", Cond.fieldLink RX12 46 "MoveTextsModel" "startMen" "[I", Cond.fieldLink RX12 49 "MoveTextsModel" "startRest" "[I", Cond.fieldLink RX12 121 "MoveTextsModel" "side" "I", Cond.fieldLink RX12 124 "MoveTextsModel" "rights" "I", Cond.fieldLink RX12 127 "MoveTextsModel" "passed" "I"]
def wsX12_add_r3 : List Cond := [Cond.fieldLink RX12 130 "MoveTextsModel" "clock" "I", Cond.fieldLink RX12 133 "MoveTextsModel" "number" "I", Cond.methodLink RX12 149 yX12_make, Cond.instanceMethod yX12_make, Cond.selects RX12 yX12_make yX12_make, Cond.code yX12_make cX12_make 8 none, Cond.methodLink RX12 136 yX12_kind, Cond.static yX12_kind, Cond.code yX12_kind cX12_kind 1 (some .int), Cond.methodLink RX12 139 yX12_isTaking, Cond.instanceMethod yX12_isTaking, Cond.selects RX12 yX12_isTaking yX12_isTaking, Cond.code yX12_isTaking cX12_isTaking 4 (some .boolean), Cond.methodLink RX12 143 yX12_lose, Cond.instanceMethod yX12_lose, Cond.selects RX12 yX12_lose yX12_lose, Cond.code yX12_lose cX12_lose 3 none, Cond.methodLink RX12 103 yX12_step, Cond.static yX12_step, Cond.code yX12_step cX12_step 5 (some .int), Cond.methodLink RX12 107 yX12_stands, Cond.instanceMethod yX12_stands, Cond.selects RX12 yX12_stands yX12_stands, Cond.code yX12_stands cX12_stands 3 (some .boolean)]
def wsX12_add_r4 : List Cond := [Cond.methodLink RX12 185 yX12_findMoves, Cond.instanceMethod yX12_findMoves, Cond.selects RX12 yX12_findMoves yX12_findMoves, Cond.code yX12_findMoves cX12_findMoves 6 none, Cond.methodLink RX12 161 yX12_sideOf, Cond.static yX12_sideOf, Cond.code yX12_sideOf cX12_sideOf 1 (some .int), Cond.methodLink RX12 173 yX12_goes, Cond.instanceMethod yX12_goes, Cond.selects RX12 yX12_goes yX12_goes, Cond.code yX12_goes cX12_goes 11 (some .boolean), Cond.methodLink RX12 164 yX12_pawnGoes, Cond.instanceMethod yX12_pawnGoes, Cond.selects RX12 yX12_pawnGoes yX12_pawnGoes, Cond.code yX12_pawnGoes cX12_pawnGoes 5 (some .boolean), Cond.methodLink RX12 167 yX12_mayCastle, Cond.instanceMethod yX12_mayCastle, Cond.selects RX12 yX12_mayCastle yX12_mayCastle, Cond.code yX12_mayCastle cX12_mayCastle 6 (some .boolean), Cond.methodLink RX12 158 yX12_isClear, Cond.instanceMethod yX12_isClear, Cond.selects RX12 yX12_isClear yX12_isClear, Cond.code yX12_isClear cX12_isClear 5 (some .boolean), Cond.methodLink RX12 118 yX12_isAttacked]
def wsX12_add_r5 : List Cond := [Cond.instanceMethod yX12_isAttacked, Cond.selects RX12 yX12_isAttacked yX12_isAttacked, Cond.code yX12_isAttacked cX12_isAttacked 10 (some .boolean), Cond.methodLink RX12 111 yX12_met, Cond.instanceMethod yX12_met, Cond.selects RX12 yX12_met yX12_met, Cond.code yX12_met cX12_met 5 (some .int), Cond.methodLink RX12 176 yX12_isSafe, Cond.instanceMethod yX12_isSafe, Cond.selects RX12 yX12_isSafe yX12_isSafe, Cond.code yX12_isSafe cX12_isSafe 3 (some .boolean), Cond.methodLink RX12 146 yX12_keep, Cond.instanceMethod yX12_keep, Cond.selects RX12 yX12_keep yX12_keep, Cond.code yX12_keep cX12_keep 2 none, Cond.fieldLink RX12 73 "MoveTextsModel" "keptMen" "[I", Cond.fieldLink RX12 76 "MoveTextsModel" "keptRest" "[I", Cond.methodLink RX12 152 yX12_isInCheck, Cond.instanceMethod yX12_isInCheck, Cond.selects RX12 yX12_isInCheck yX12_isInCheck, Cond.code yX12_isInCheck cX12_isInCheck 2 (some .boolean), Cond.methodLink RX12 114 yX12_kingOf, Cond.instanceMethod yX12_kingOf, Cond.selects RX12 yX12_kingOf yX12_kingOf]
def wsX12_add_r6 : List Cond := [Cond.code yX12_kingOf cX12_kingOf 4 (some .int), Cond.methodLink RX12 155 yX12_bringBack, Cond.instanceMethod yX12_bringBack, Cond.selects RX12 yX12_bringBack yX12_bringBack, Cond.code yX12_bringBack cX12_bringBack 2 none]
def wsX12_add : List Cond := .code yX12_add cX12_add 4 (some .int) :: ((wsX12_add_r1 ++ (wsX12_add_r2 ++ (wsX12_add_r3 ++ (wsX12_add_r4 ++ (wsX12_add_r5 ++ wsX12_add_r6))))) ++ wsX120)
def wsX12_addMark : List Cond := .code yX12_addMark cX12_addMark 2 (some .int) :: ([.fieldLink RX12 353 "MoveTextsModel" "here" "I", .fieldLink RX12 33 "MoveTextsModel" "markCount" "[I", .fieldLink RX12 347 "MoveTextsModel" "game" "I", .fieldLink RX12 99 "MoveTextsModel" "thrown" "I", .methodLink RX12 303 yX12_addMarkTo, .instanceMethod yX12_addMarkTo, .selects RX12 yX12_addMarkTo yX12_addMarkTo, .initialized RX12, .code yX12_addMarkTo cX12_addMarkTo 5 none, .fieldLink RX12 36 "MoveTextsModel" "marks" "[I"] ++ wsX120)
def wsX12_say : List Cond := .code yX12_say cX12_say 4 (some .int) :: ([.fieldLink RX12 270 "MoveTextsModel" "typed" "I", .fieldLink RX12 7 "MoveTextsModel" "text" "[C", .fieldLink RX12 99 "MoveTextsModel" "thrown" "I", .fieldLink RX12 347 "MoveTextsModel" "game" "I", .fieldLink RX12 353 "MoveTextsModel" "here" "I", .fieldLink RX12 43 "MoveTextsModel" "remarks" "[C", .fieldLink RX12 39 "MoveTextsModel" "remarkSize" "[I"] ++ wsX120)
def wsX12_isBehind : List Cond := .code yX12_isBehind cX12_isBehind 4 (some .boolean) :: ([.fieldLink RX12 21 "MoveTextsModel" "parent" "[I", .fieldLink RX12 347 "MoveTextsModel" "game" "I"] ++ wsX120)
def wsX12_lead : List Cond := .code yX12_lead cX12_lead 4 (some .boolean) :: ([.fieldLink RX12 353 "MoveTextsModel" "here" "I", .fieldLink RX12 99 "MoveTextsModel" "thrown" "I", .fieldLink RX12 21 "MoveTextsModel" "parent" "[I", .fieldLink RX12 347 "MoveTextsModel" "game" "I", .fieldLink RX12 27 "MoveTextsModel" "child" "[I", .fieldLink RX12 17 "MoveTextsModel" "count" "[I", .fieldLink RX12 30 "MoveTextsModel" "next" "[I", .methodLink RX12 395 yX12_isBehind, .instanceMethod yX12_isBehind, .selects RX12 yX12_isBehind yX12_isBehind, .initialized RX12, .code yX12_isBehind cX12_isBehind 4 (some .boolean), .methodLink RX12 392 yX12_deepOf, .instanceMethod yX12_deepOf, .selects RX12 yX12_deepOf yX12_deepOf, .code yX12_deepOf cX12_deepOf 5 (some .int), .methodLink RX12 188 yX12_isFirst, .instanceMethod yX12_isFirst, .selects RX12 yX12_isFirst yX12_isFirst, .code yX12_isFirst cX12_isFirst 3 (some .boolean)] ++ wsX120)
def wsX12_end : List Cond := .code yX12_end cX12_end 2 none :: ([.fieldLink RX12 99 "MoveTextsModel" "thrown" "I", .fieldLink RX12 67 "MoveTextsModel" "results" "[I", .fieldLink RX12 347 "MoveTextsModel" "game" "I"] ++ wsX120)
def wsX12_result : List Cond := .code yX12_result cX12_result 1 (some .int) :: ([.fieldLink RX12 99 "MoveTextsModel" "thrown" "I", .fieldLink RX12 67 "MoveTextsModel" "results" "[I", .fieldLink RX12 347 "MoveTextsModel" "game" "I"] ++ wsX120)
def wsX12_tags : List Cond := .code yX12_tags cX12_tags 1 (some .int) :: ([.fieldLink RX12 99 "MoveTextsModel" "thrown" "I", .fieldLink RX12 52 "MoveTextsModel" "tagCount" "[I", .fieldLink RX12 347 "MoveTextsModel" "game" "I"] ++ wsX120)
def wsX12_tag : List Cond := .code yX12_tag cX12_tag 5 (some .int) :: ([.fieldLink RX12 52 "MoveTextsModel" "tagCount" "[I", .fieldLink RX12 347 "MoveTextsModel" "game" "I", .fieldLink RX12 99 "MoveTextsModel" "thrown" "I", .fieldLink RX12 61 "MoveTextsModel" "valueSize" "[I", .fieldLink RX12 55 "MoveTextsModel" "nameSize" "[I", .fieldLink RX12 64 "MoveTextsModel" "values" "[C", .fieldLink RX12 58 "MoveTextsModel" "names" "[C"] ++ wsX120)
end
section
theorem goodIn_r2 {big : List Cond} {cb : List (List Cond)} (hcb : cb.flatten = big) (ws : List Cond) (ps : List (Nat × Nat)) (hp : ws = ps.filterMap (fun p => match cb[p.1]? with | none => none | some l => l[p.2]?)) (h : ws.all goodWord = true) : GoodIn big ws := by
  intro w hw
  have h1 := List.all_eq_true.mp h w hw
  rw [hp] at hw
  obtain ⟨p, -, hi⟩ := List.mem_filterMap.mp hw
  refine ⟨?_, good_of_word h1⟩
  rw [← hcb]
  cases e : cb[p.1]? with
  | none => rw [e] at hi; cases hi
  | some l =>
    rw [e] at hi
    exact List.mem_flatten.mpr ⟨l, List.mem_of_getElem? e, List.mem_of_getElem? hi⟩

def cbX12_init : List (List Cond) := [[.code yX12_init cX12_init 1 none], wsX12_init_r1, wsX12_init_r2, wsX12_init_r3, wsX12_init_r4, wsX12_init_r5, wsX12_init_r6, wsX120]
theorem cbX12_init_f : cbX12_init.flatten = wsX12_init := by
  unfold cbX12_init wsX12_init
  simp only [List.flatten_cons, List.flatten_nil, List.append_nil, List.append_assoc, List.cons_append, List.nil_append]
def cbX12_make : List (List Cond) := [[.code yX12_make cX12_make 8 none], wsX12_make_r1, wsX12_make_r2, wsX120]
theorem cbX12_make_f : cbX12_make.flatten = wsX12_make := by
  unfold cbX12_make wsX12_make
  simp only [List.flatten_cons, List.flatten_nil, List.append_nil, List.append_assoc, List.cons_append, List.nil_append]
def cbX12_isSafe : List (List Cond) := [[.code yX12_isSafe cX12_isSafe 3 (some .boolean)], wsX12_isSafe_r1, wsX12_isSafe_r2, wsX12_isSafe_r3, wsX120]
theorem cbX12_isSafe_f : cbX12_isSafe.flatten = wsX12_isSafe := by
  unfold cbX12_isSafe wsX12_isSafe
  simp only [List.flatten_cons, List.flatten_nil, List.append_nil, List.append_assoc, List.cons_append, List.nil_append]
def cbX12_goes : List (List Cond) := [[.code yX12_goes cX12_goes 11 (some .boolean)], wsX12_goes_r1, wsX12_goes_r2, wsX120]
theorem cbX12_goes_f : cbX12_goes.flatten = wsX12_goes := by
  unfold cbX12_goes wsX12_goes
  simp only [List.flatten_cons, List.flatten_nil, List.append_nil, List.append_assoc, List.cons_append, List.nil_append]
def cbX12_findMoves : List (List Cond) := [[.code yX12_findMoves cX12_findMoves 6 none], wsX12_findMoves_r1, wsX12_findMoves_r2, wsX12_findMoves_r3, wsX12_findMoves_r4, wsX120]
theorem cbX12_findMoves_f : cbX12_findMoves.flatten = wsX12_findMoves := by
  unfold cbX12_findMoves wsX12_findMoves
  simp only [List.flatten_cons, List.flatten_nil, List.append_nil, List.append_assoc, List.cons_append, List.nil_append]
def cbX12_place : List (List Cond) := [[.code yX12_place cX12_place 5 none], wsX12_place_r1, wsX12_place_r2, wsX12_place_r3, wsX12_place_r4, wsX120]
theorem cbX12_place_f : cbX12_place.flatten = wsX12_place := by
  unfold cbX12_place wsX12_place
  simp only [List.flatten_cons, List.flatten_nil, List.append_nil, List.append_assoc, List.cons_append, List.nil_append]
def cbX12_behind : List (List Cond) := [[.code yX12_behind cX12_behind 5 (some .char)], wsX12_behind_r1, wsX12_behind_r2, wsX12_behind_r3, wsX12_behind_r4, wsX120]
theorem cbX12_behind_f : cbX12_behind.flatten = wsX12_behind := by
  unfold cbX12_behind wsX12_behind
  simp only [List.flatten_cons, List.flatten_nil, List.append_nil, List.append_assoc, List.cons_append, List.nil_append]
def cbX12_isSafeOnce : List (List Cond) := [[.code yX12_isSafeOnce cX12_isSafeOnce 10 (some .boolean)], wsX12_isSafeOnce_r1, wsX12_isSafeOnce_r2, wsX120]
theorem cbX12_isSafeOnce_f : cbX12_isSafeOnce.flatten = wsX12_isSafeOnce := by
  unfold cbX12_isSafeOnce wsX12_isSafeOnce
  simp only [List.flatten_cons, List.flatten_nil, List.append_nil, List.append_assoc, List.cons_append, List.nil_append]
def cbX12_spellWhole : List (List Cond) := [[.code yX12_spellWhole cX12_spellWhole 3 none], wsX12_spellWhole_r1, wsX12_spellWhole_r2, wsX12_spellWhole_r3, wsX12_spellWhole_r4, wsX12_spellWhole_r5, wsX120]
theorem cbX12_spellWhole_f : cbX12_spellWhole.flatten = wsX12_spellWhole := by
  unfold cbX12_spellWhole wsX12_spellWhole
  simp only [List.flatten_cons, List.flatten_nil, List.append_nil, List.append_assoc, List.cons_append, List.nil_append]
def cbX12_fits : List (List Cond) := [[.code yX12_fits cX12_fits 10 (some .boolean)], wsX12_fits_r1, wsX12_fits_r2, wsX12_fits_r3, wsX12_fits_r4, wsX12_fits_r5, wsX120]
theorem cbX12_fits_f : cbX12_fits.flatten = wsX12_fits := by
  unfold cbX12_fits wsX12_fits
  simp only [List.flatten_cons, List.flatten_nil, List.append_nil, List.append_assoc, List.cons_append, List.nil_append]
def cbX12_understood : List (List Cond) := [[.code yX12_understood cX12_understood 6 (some .int)], wsX12_understood_r1, wsX12_understood_r2, wsX12_understood_r3, wsX12_understood_r4, wsX12_understood_r5, wsX120]
theorem cbX12_understood_f : cbX12_understood.flatten = wsX12_understood := by
  unfold cbX12_understood wsX12_understood
  simp only [List.flatten_cons, List.flatten_nil, List.append_nil, List.append_assoc, List.cons_append, List.nil_append]
def cbX12_mayStand : List (List Cond) := [[.code yX12_mayStand cX12_mayStand 5 (some .boolean)], wsX12_mayStand_r1, wsX12_mayStand_r2, wsX120]
theorem cbX12_mayStand_f : cbX12_mayStand.flatten = wsX12_mayStand := by
  unfold cbX12_mayStand wsX12_mayStand
  simp only [List.flatten_cons, List.flatten_nil, List.append_nil, List.append_assoc, List.cons_append, List.nil_append]
def cbX12_readPosition : List (List Cond) := [[.code yX12_readPosition cX12_readPosition 5 (some .boolean)], wsX12_readPosition_r1, wsX12_readPosition_r2, wsX12_readPosition_r3, wsX120]
theorem cbX12_readPosition_f : cbX12_readPosition.flatten = wsX12_readPosition := by
  unfold cbX12_readPosition wsX12_readPosition
  simp only [List.flatten_cons, List.flatten_nil, List.append_nil, List.append_assoc, List.cons_append, List.nil_append]
def cbX12_readTag : List (List Cond) := [[.code yX12_readTag cX12_readTag 7 (some .int)], wsX12_readTag_r1, wsX12_readTag_r2, wsX12_readTag_r3, wsX12_readTag_r4, wsX12_readTag_r5, wsX120]
theorem cbX12_readTag_f : cbX12_readTag.flatten = wsX12_readTag := by
  unfold cbX12_readTag wsX12_readTag
  simp only [List.flatten_cons, List.flatten_nil, List.append_nil, List.append_assoc, List.cons_append, List.nil_append]
def cbX12_readMove : List (List Cond) := [[.code yX12_readMove cX12_readMove 5 (some .int)], wsX12_readMove_r1, wsX12_readMove_r2, wsX12_readMove_r3, wsX12_readMove_r4, wsX12_readMove_r5, wsX12_readMove_r6, wsX12_readMove_r7, wsX120]
theorem cbX12_readMove_f : cbX12_readMove.flatten = wsX12_readMove := by
  unfold cbX12_readMove wsX12_readMove
  simp only [List.flatten_cons, List.flatten_nil, List.append_nil, List.append_assoc, List.cons_append, List.nil_append]
def cbX12_readLine : List (List Cond) := [[.code yX12_readLine cX12_readLine 8 (some .int)], wsX12_readLine_r1, wsX12_readLine_r2, wsX12_readLine_r3, wsX12_readLine_r4, wsX12_readLine_r5, wsX12_readLine_r6, wsX12_readLine_r7, wsX12_readLine_r8, wsX12_readLine_r9, wsX120]
theorem cbX12_readLine_f : cbX12_readLine.flatten = wsX12_readLine := by
  unfold cbX12_readLine wsX12_readLine
  simp only [List.flatten_cons, List.flatten_nil, List.append_nil, List.append_assoc, List.cons_append, List.nil_append]
def cbX12_readGame : List (List Cond) := [[.code yX12_readGame cX12_readGame 5 (some .int)], wsX12_readGame_r1, wsX12_readGame_r2, wsX12_readGame_r3, wsX12_readGame_r4, wsX12_readGame_r5, wsX12_readGame_r6, wsX12_readGame_r7, wsX12_readGame_r8, wsX12_readGame_r9, wsX12_readGame_r10, wsX12_readGame_r11, wsX12_readGame_r12, wsX120]
theorem cbX12_readGame_f : cbX12_readGame.flatten = wsX12_readGame := by
  unfold cbX12_readGame wsX12_readGame
  simp only [List.flatten_cons, List.flatten_nil, List.append_nil, List.append_assoc, List.cons_append, List.nil_append]
def cbX12_read : List (List Cond) := [[.code yX12_read cX12_read 3 (some .int)], wsX12_read_r1, wsX12_read_r2, wsX12_read_r3, wsX12_read_r4, wsX12_read_r5, wsX12_read_r6, wsX12_read_r7, wsX12_read_r8, wsX12_read_r9, wsX12_read_r10, wsX12_read_r11, wsX12_read_r12, wsX12_read_r13, wsX120]
theorem cbX12_read_f : cbX12_read.flatten = wsX12_read := by
  unfold cbX12_read wsX12_read
  simp only [List.flatten_cons, List.flatten_nil, List.append_nil, List.append_assoc, List.cons_append, List.nil_append]
def cbX12_find : List (List Cond) := [[.code yX12_find cX12_find 1 (some .int)], wsX12_find_r1, wsX12_find_r2, wsX12_find_r3, wsX12_find_r4, wsX12_find_r5, wsX120]
theorem cbX12_find_f : cbX12_find.flatten = wsX12_find := by
  unfold cbX12_find wsX12_find
  simp only [List.flatten_cons, List.flatten_nil, List.append_nil, List.append_assoc, List.cons_append, List.nil_append]
def cbX12_sayMove : List (List Cond) := [[.code yX12_sayMove cX12_sayMove 5 none], wsX12_sayMove_r1, wsX12_sayMove_r2, wsX12_sayMove_r3, wsX12_sayMove_r4, wsX12_sayMove_r5, wsX12_sayMove_r6, wsX12_sayMove_r7, wsX120]
theorem cbX12_sayMove_f : cbX12_sayMove.flatten = wsX12_sayMove := by
  unfold cbX12_sayMove wsX12_sayMove
  simp only [List.flatten_cons, List.flatten_nil, List.append_nil, List.append_assoc, List.cons_append, List.nil_append]
def cbX12_sayLine : List (List Cond) := [[.code yX12_sayLine cX12_sayLine 8 none], wsX12_sayLine_r1, wsX12_sayLine_r2, wsX12_sayLine_r3, wsX12_sayLine_r4, wsX12_sayLine_r5, wsX12_sayLine_r6, wsX12_sayLine_r7, wsX120]
theorem cbX12_sayLine_f : cbX12_sayLine.flatten = wsX12_sayLine := by
  unfold cbX12_sayLine wsX12_sayLine
  simp only [List.flatten_cons, List.flatten_nil, List.append_nil, List.append_assoc, List.cons_append, List.nil_append]
def cbX12_write : List (List Cond) := [[.code yX12_write cX12_write 4 (some .int)], wsX12_write_r1, wsX12_write_r2, wsX12_write_r3, wsX12_write_r4, wsX12_write_r5, wsX12_write_r6, wsX12_write_r7, wsX12_write_r8, wsX120]
theorem cbX12_write_f : cbX12_write.flatten = wsX12_write := by
  unfold cbX12_write wsX12_write
  simp only [List.flatten_cons, List.flatten_nil, List.append_nil, List.append_assoc, List.cons_append, List.nil_append]
def cbX12_signs : List (List Cond) := [[.code yX12_signs cX12_signs 3 (some .int)], wsX12_signs_r1, wsX12_signs_r2, wsX12_signs_r3, wsX12_signs_r4, wsX12_signs_r5, wsX120]
theorem cbX12_signs_f : cbX12_signs.flatten = wsX12_signs := by
  unfold cbX12_signs wsX12_signs
  simp only [List.flatten_cons, List.flatten_nil, List.append_nil, List.append_assoc, List.cons_append, List.nil_append]
def cbX12_go : List (List Cond) := [[.code yX12_go cX12_go 2 none], wsX12_go_r1, wsX12_go_r2, wsX12_go_r3, wsX12_go_r4, wsX12_go_r5, wsX120]
theorem cbX12_go_f : cbX12_go.flatten = wsX12_go := by
  unfold cbX12_go wsX12_go
  simp only [List.flatten_cons, List.flatten_nil, List.append_nil, List.append_assoc, List.cons_append, List.nil_append]
def cbX12_add : List (List Cond) := [[.code yX12_add cX12_add 4 (some .int)], wsX12_add_r1, wsX12_add_r2, wsX12_add_r3, wsX12_add_r4, wsX12_add_r5, wsX12_add_r6, wsX120]
theorem cbX12_add_f : cbX12_add.flatten = wsX12_add := by
  unfold cbX12_add wsX12_add
  simp only [List.flatten_cons, List.flatten_nil, List.append_nil, List.append_assoc, List.cons_append, List.nil_append]
end
section
set_option maxRecDepth 20000 in
theorem ggX12_init_X12_clearGame : GoodIn wsX12_init wsX12_clearGame := goodIn_r2 cbX12_init_f _ [(2, 12), (1, 8), (1, 20), (2, 1), (1, 9), (1, 10), (2, 13), (2, 14), (2, 15), (2, 11), (2, 16), (1, 11), (1, 12), (1, 13), (1, 15), (7, 0), (7, 1), (7, 2), (7, 3), (7, 4), (7, 5), (7, 6), (7, 7), (7, 8), (7, 9), (7, 10), (7, 11), (7, 12), (7, 13), (7, 14), (7, 15), (7, 16), (7, 17), (7, 18), (7, 19), (7, 20), (7, 21), (7, 22), (7, 23), (7, 24), (7, 25), (7, 26), (7, 27), (7, 28), (7, 29), (7, 30), (7, 31), (7, 32), (7, 33), (7, 34), (7, 35), (7, 36), (7, 37), (7, 38), (7, 39)] rfl (by decide +kernel)
set_option maxRecDepth 20000 in
theorem gX12_init_X12_clearGame : GoodIn wsX12_init (wsV RX12 88 RX12 yX12_clearGame wsX12_clearGame) := goodIn_app (goodIn_of _ (by decide +kernel)) ggX12_init_X12_clearGame
set_option maxRecDepth 20000 in
theorem ggX12_init_X12_usual : GoodIn wsX12_init wsX12_usual := goodIn_r2 cbX12_init_f _ [(2, 20), (2, 2), (2, 21), (2, 22), (2, 23), (3, 0), (3, 1), (3, 2), (3, 3), (3, 4), (2, 11), (3, 5), (1, 18), (1, 19), (7, 0), (7, 1), (7, 2), (7, 3), (7, 4), (7, 5), (7, 6), (7, 7), (7, 8), (7, 9), (7, 10), (7, 11), (7, 12), (7, 13), (7, 14), (7, 15), (7, 16), (7, 17), (7, 18), (7, 19), (7, 20), (7, 21), (7, 22), (7, 23), (7, 24), (7, 25), (7, 26), (7, 27), (7, 28), (7, 29), (7, 30), (7, 31), (7, 32), (7, 33), (7, 34), (7, 35), (7, 36), (7, 37), (7, 38), (7, 39)] rfl (by decide +kernel)
set_option maxRecDepth 20000 in
theorem gX12_init_X12_usual : GoodIn wsX12_init (wsV RX12 92 RX12 yX12_usual wsX12_usual) := goodIn_app (goodIn_of _ (by decide +kernel)) ggX12_init_X12_usual
set_option maxRecDepth 20000 in
theorem ggX12_init_X12_place : GoodIn wsX12_init wsX12_place := goodIn_r2 cbX12_init_f _ [(3, 9), (2, 6), (1, 9), (2, 2), (1, 18), (1, 19), (2, 21), (2, 22), (2, 23), (3, 0), (3, 1), (1, 10), (3, 10), (3, 11), (3, 12), (2, 11), (3, 13), (3, 14), (3, 15), (3, 16), (3, 17), (3, 18), (3, 19), (3, 20), (3, 21), (3, 22), (3, 23), (4, 0), (4, 1), (4, 2), (4, 3), (4, 4), (4, 5), (4, 6), (4, 7), (4, 8), (4, 9), (4, 10), (4, 11), (4, 12), (2, 5), (4, 13), (4, 14), (4, 15), (4, 16), (4, 17), (4, 18), (4, 19), (4, 20), (4, 21), (4, 22), (4, 23), (5, 0), (5, 1), (5, 2), (5, 3), (5, 4), (5, 5), (5, 6), (5, 7), (5, 8), (5, 9), (5, 10), (5, 11), (5, 12), (5, 13), (5, 14), (5, 15), (5, 16), (5, 17), (5, 18), (5, 19), (5, 20), (5, 21), (5, 22), (5, 23), (2, 3), (2, 4), (6, 0), (6, 1), (6, 2), (6, 3), (6, 4), (6, 5), (6, 6), (6, 7), (6, 8), (6, 9), (6, 10), (6, 11), (7, 0), (7, 1), (7, 2), (7, 3), (7, 4), (7, 5), (7, 6), (7, 7), (7, 8), (7, 9), (7, 10), (7, 11), (7, 12), (7, 13), (7, 14), (7, 15), (7, 16), (7, 17), (7, 18), (7, 19), (7, 20), (7, 21), (7, 22), (7, 23), (7, 24), (7, 25), (7, 26), (7, 27), (7, 28), (7, 29), (7, 30), (7, 31), (7, 32), (7, 33), (7, 34), (7, 35), (7, 36), (7, 37), (7, 38), (7, 39)] rfl (by decide +kernel)
set_option maxRecDepth 20000 in
theorem gX12_init_X12_place : GoodIn wsX12_init (wsV RX12 95 RX12 yX12_place wsX12_place) := goodIn_app (goodIn_of _ (by decide +kernel)) ggX12_init_X12_place
set_option maxRecDepth 20000 in
theorem ggX12_met_X12_step : GoodIn wsX12_met wsX12_step := goodIn_r _ [5] rfl (by decide +kernel)
set_option maxRecDepth 20000 in
theorem gX12_met_X12_step : GoodIn wsX12_met (va_wsS RX12 103 yX12_step wsX12_step) := goodIn_app (goodIn_of _ (by decide +kernel)) ggX12_met_X12_step
set_option maxRecDepth 20000 in
theorem ggX12_isAttacked_X12_step : GoodIn wsX12_isAttacked wsX12_step := goodIn_r _ [4] rfl (by decide +kernel)
set_option maxRecDepth 20000 in
theorem gX12_isAttacked_X12_step : GoodIn wsX12_isAttacked (va_wsS RX12 103 yX12_step wsX12_step) := goodIn_app (goodIn_of _ (by decide +kernel)) ggX12_isAttacked_X12_step
set_option maxRecDepth 20000 in
theorem ggX12_isAttacked_X12_stands : GoodIn wsX12_isAttacked wsX12_stands := goodIn_r _ [8, 9, 14, 15, 16, 17, 18, 19, 20, 21, 22, 23, 24, 25, 26, 27, 28, 29, 30, 31, 32, 33, 34, 35, 36, 37, 38, 39, 40, 41, 42, 43, 44, 45, 46, 47, 48, 49, 50, 51, 52, 53] rfl (by decide +kernel)
set_option maxRecDepth 20000 in
theorem gX12_isAttacked_X12_stands : GoodIn wsX12_isAttacked (wsV RX12 107 RX12 yX12_stands wsX12_stands) := goodIn_app (goodIn_of _ (by decide +kernel)) ggX12_isAttacked_X12_stands
set_option maxRecDepth 20000 in
theorem ggX12_isAttacked_X12_met : GoodIn wsX12_isAttacked wsX12_met := goodIn_r _ [13, 9, 1, 2, 3, 4, 14, 15, 16, 17, 18, 19, 20, 21, 22, 23, 24, 25, 26, 27, 28, 29, 30, 31, 32, 33, 34, 35, 36, 37, 38, 39, 40, 41, 42, 43, 44, 45, 46, 47, 48, 49, 50, 51, 52, 53] rfl (by decide +kernel)
set_option maxRecDepth 20000 in
theorem gX12_isAttacked_X12_met : GoodIn wsX12_isAttacked (wsV RX12 111 RX12 yX12_met wsX12_met) := goodIn_app (goodIn_of _ (by decide +kernel)) ggX12_isAttacked_X12_met
set_option maxRecDepth 20000 in
theorem ggX12_isInCheck_X12_kingOf : GoodIn wsX12_isInCheck wsX12_kingOf := goodIn_r _ [5, 6, 22, 23, 24, 25, 26, 27, 28, 29, 30, 31, 32, 33, 34, 35, 36, 37, 38, 39, 40, 41, 42, 43, 44, 45, 46, 47, 48, 49, 50, 51, 52, 53, 54, 55, 56, 57, 58, 59, 60, 61] rfl (by decide +kernel)
set_option maxRecDepth 20000 in
theorem gX12_isInCheck_X12_kingOf : GoodIn wsX12_isInCheck (wsV RX12 114 RX12 yX12_kingOf wsX12_kingOf) := goodIn_app (goodIn_of _ (by decide +kernel)) ggX12_isInCheck_X12_kingOf
set_option maxRecDepth 20000 in
theorem ggX12_isInCheck_X12_isAttacked : GoodIn wsX12_isInCheck wsX12_isAttacked := goodIn_r _ [10, 11, 12, 4, 13, 14, 15, 16, 17, 6, 18, 19, 20, 21, 22, 23, 24, 25, 26, 27, 28, 29, 30, 31, 32, 33, 34, 35, 36, 37, 38, 39, 40, 41, 42, 43, 44, 45, 46, 47, 48, 49, 50, 51, 52, 53, 54, 55, 56, 57, 58, 59, 60, 61] rfl (by decide +kernel)
set_option maxRecDepth 20000 in
theorem gX12_isInCheck_X12_isAttacked : GoodIn wsX12_isInCheck (wsV RX12 118 RX12 yX12_isAttacked wsX12_isAttacked) := goodIn_app (goodIn_of _ (by decide +kernel)) ggX12_isInCheck_X12_isAttacked
set_option maxRecDepth 20000 in
theorem ggX12_isTaking_X12_kind : GoodIn wsX12_isTaking wsX12_kind := goodIn_r _ [5] rfl (by decide +kernel)
set_option maxRecDepth 20000 in
theorem gX12_isTaking_X12_kind : GoodIn wsX12_isTaking (va_wsS RX12 136 yX12_kind wsX12_kind) := goodIn_app (goodIn_of _ (by decide +kernel)) ggX12_isTaking_X12_kind
set_option maxRecDepth 20000 in
theorem ggX12_make_X12_kind : GoodIn wsX12_make wsX12_kind := goodIn_r _ [9] rfl (by decide +kernel)
set_option maxRecDepth 20000 in
theorem gX12_make_X12_kind : GoodIn wsX12_make (va_wsS RX12 136 yX12_kind wsX12_kind) := goodIn_app (goodIn_of _ (by decide +kernel)) ggX12_make_X12_kind
set_option maxRecDepth 20000 in
theorem ggX12_make_X12_isTaking : GoodIn wsX12_make wsX12_isTaking := goodIn_r2 cbX12_make_f _ [(1, 12), (1, 0), (1, 5), (1, 6), (1, 7), (1, 8), (3, 0), (3, 1), (3, 2), (3, 3), (3, 4), (3, 5), (3, 6), (3, 7), (3, 8), (3, 9), (3, 10), (3, 11), (3, 12), (3, 13), (3, 14), (3, 15), (3, 16), (3, 17), (3, 18), (3, 19), (3, 20), (3, 21), (3, 22), (3, 23), (3, 24), (3, 25), (3, 26), (3, 27), (3, 28), (3, 29), (3, 30), (3, 31), (3, 32), (3, 33), (3, 34), (3, 35), (3, 36), (3, 37), (3, 38), (3, 39)] rfl (by decide +kernel)
set_option maxRecDepth 20000 in
theorem gX12_make_X12_isTaking : GoodIn wsX12_make (wsV RX12 139 RX12 yX12_isTaking wsX12_isTaking) := goodIn_app (goodIn_of _ (by decide +kernel)) ggX12_make_X12_isTaking
set_option maxRecDepth 20000 in
theorem ggX12_make_X12_lose : GoodIn wsX12_make wsX12_lose := goodIn_r2 cbX12_make_f _ [(1, 16), (1, 17), (3, 0), (3, 1), (3, 2), (3, 3), (3, 4), (3, 5), (3, 6), (3, 7), (3, 8), (3, 9), (3, 10), (3, 11), (3, 12), (3, 13), (3, 14), (3, 15), (3, 16), (3, 17), (3, 18), (3, 19), (3, 20), (3, 21), (3, 22), (3, 23), (3, 24), (3, 25), (3, 26), (3, 27), (3, 28), (3, 29), (3, 30), (3, 31), (3, 32), (3, 33), (3, 34), (3, 35), (3, 36), (3, 37), (3, 38), (3, 39)] rfl (by decide +kernel)
set_option maxRecDepth 20000 in
theorem gX12_make_X12_lose : GoodIn wsX12_make (wsV RX12 143 RX12 yX12_lose wsX12_lose) := goodIn_app (goodIn_of _ (by decide +kernel)) ggX12_make_X12_lose
set_option maxRecDepth 20000 in
theorem ggX12_make_X12_step : GoodIn wsX12_make wsX12_step := goodIn_r _ [21] rfl (by decide +kernel)
set_option maxRecDepth 20000 in
theorem gX12_make_X12_step : GoodIn wsX12_make (va_wsS RX12 103 yX12_step wsX12_step) := goodIn_app (goodIn_of _ (by decide +kernel)) ggX12_make_X12_step
set_option maxRecDepth 20000 in
theorem ggX12_make_X12_stands : GoodIn wsX12_make wsX12_stands := goodIn_r2 cbX12_make_f _ [(2, 0), (1, 0), (3, 0), (3, 1), (3, 2), (3, 3), (3, 4), (3, 5), (3, 6), (3, 7), (3, 8), (3, 9), (3, 10), (3, 11), (3, 12), (3, 13), (3, 14), (3, 15), (3, 16), (3, 17), (3, 18), (3, 19), (3, 20), (3, 21), (3, 22), (3, 23), (3, 24), (3, 25), (3, 26), (3, 27), (3, 28), (3, 29), (3, 30), (3, 31), (3, 32), (3, 33), (3, 34), (3, 35), (3, 36), (3, 37), (3, 38), (3, 39)] rfl (by decide +kernel)
set_option maxRecDepth 20000 in
theorem gX12_make_X12_stands : GoodIn wsX12_make (wsV RX12 107 RX12 yX12_stands wsX12_stands) := goodIn_app (goodIn_of _ (by decide +kernel)) ggX12_make_X12_stands
set_option maxRecDepth 20000 in
theorem ggX12_isSafe_X12_keep : GoodIn wsX12_isSafe wsX12_keep := goodIn_r2 cbX12_isSafe_f _ [(1, 5), (1, 6), (1, 7), (1, 8), (1, 0), (1, 9), (1, 10), (1, 11), (1, 12), (4, 0), (4, 1), (4, 2), (4, 3), (4, 4), (4, 5), (4, 6), (4, 7), (4, 8), (4, 9), (4, 10), (4, 11), (4, 12), (4, 13), (4, 14), (4, 15), (4, 16), (4, 17), (4, 18), (4, 19), (4, 20), (4, 21), (4, 22), (4, 23), (4, 24), (4, 25), (4, 26), (4, 27), (4, 28), (4, 29), (4, 30), (4, 31), (4, 32), (4, 33), (4, 34), (4, 35), (4, 36), (4, 37), (4, 38), (4, 39)] rfl (by decide +kernel)
set_option maxRecDepth 20000 in
theorem gX12_isSafe_X12_keep : GoodIn wsX12_isSafe (wsV RX12 146 RX12 yX12_keep wsX12_keep) := goodIn_app (goodIn_of _ (by decide +kernel)) ggX12_isSafe_X12_keep
set_option maxRecDepth 20000 in
theorem ggX12_isSafe_X12_make : GoodIn wsX12_isSafe wsX12_make := goodIn_r2 cbX12_isSafe_f _ [(1, 16), (1, 7), (1, 11), (1, 0), (1, 10), (1, 12), (1, 17), (1, 18), (1, 4), (1, 19), (1, 20), (1, 21), (1, 22), (1, 23), (2, 0), (2, 1), (2, 2), (2, 3), (1, 9), (2, 4), (2, 5), (2, 6), (2, 7), (2, 8), (2, 9), (2, 10), (4, 0), (4, 1), (4, 2), (4, 3), (4, 4), (4, 5), (4, 6), (4, 7), (4, 8), (4, 9), (4, 10), (4, 11), (4, 12), (4, 13), (4, 14), (4, 15), (4, 16), (4, 17), (4, 18), (4, 19), (4, 20), (4, 21), (4, 22), (4, 23), (4, 24), (4, 25), (4, 26), (4, 27), (4, 28), (4, 29), (4, 30), (4, 31), (4, 32), (4, 33), (4, 34), (4, 35), (4, 36), (4, 37), (4, 38), (4, 39)] rfl (by decide +kernel)
set_option maxRecDepth 20000 in
theorem gX12_isSafe_X12_make : GoodIn wsX12_isSafe (wsV RX12 149 RX12 yX12_make wsX12_make) := goodIn_app (goodIn_of _ (by decide +kernel)) ggX12_isSafe_X12_make
set_option maxRecDepth 20000 in
theorem ggX12_isSafe_X12_isInCheck : GoodIn wsX12_isSafe wsX12_isInCheck := goodIn_r2 cbX12_isSafe_f _ [(2, 14), (2, 15), (2, 16), (2, 17), (1, 4), (2, 18), (1, 7), (2, 19), (2, 20), (2, 21), (2, 22), (2, 4), (2, 5), (2, 6), (2, 7), (2, 8), (2, 9), (2, 10), (2, 23), (3, 0), (3, 1), (3, 2), (4, 0), (4, 1), (4, 2), (4, 3), (4, 4), (4, 5), (4, 6), (4, 7), (4, 8), (4, 9), (4, 10), (4, 11), (4, 12), (4, 13), (4, 14), (4, 15), (4, 16), (4, 17), (4, 18), (4, 19), (4, 20), (4, 21), (4, 22), (4, 23), (4, 24), (4, 25), (4, 26), (4, 27), (4, 28), (4, 29), (4, 30), (4, 31), (4, 32), (4, 33), (4, 34), (4, 35), (4, 36), (4, 37), (4, 38), (4, 39)] rfl (by decide +kernel)
set_option maxRecDepth 20000 in
theorem gX12_isSafe_X12_isInCheck : GoodIn wsX12_isSafe (wsV RX12 152 RX12 yX12_isInCheck wsX12_isInCheck) := goodIn_app (goodIn_of _ (by decide +kernel)) ggX12_isSafe_X12_isInCheck
set_option maxRecDepth 20000 in
theorem ggX12_isSafe_X12_bringBack : GoodIn wsX12_isSafe wsX12_bringBack := goodIn_r2 cbX12_isSafe_f _ [(3, 6), (1, 7), (1, 6), (1, 8), (1, 0), (1, 9), (1, 10), (1, 11), (1, 12), (4, 0), (4, 1), (4, 2), (4, 3), (4, 4), (4, 5), (4, 6), (4, 7), (4, 8), (4, 9), (4, 10), (4, 11), (4, 12), (4, 13), (4, 14), (4, 15), (4, 16), (4, 17), (4, 18), (4, 19), (4, 20), (4, 21), (4, 22), (4, 23), (4, 24), (4, 25), (4, 26), (4, 27), (4, 28), (4, 29), (4, 30), (4, 31), (4, 32), (4, 33), (4, 34), (4, 35), (4, 36), (4, 37), (4, 38), (4, 39)] rfl (by decide +kernel)
set_option maxRecDepth 20000 in
theorem gX12_isSafe_X12_bringBack : GoodIn wsX12_isSafe (wsV RX12 155 RX12 yX12_bringBack wsX12_bringBack) := goodIn_app (goodIn_of _ (by decide +kernel)) ggX12_isSafe_X12_bringBack
set_option maxRecDepth 20000 in
theorem ggX12_mayCastle_X12_isClear : GoodIn wsX12_mayCastle wsX12_isClear := goodIn_r _ [7, 8, 24, 25, 26, 27, 28, 29, 30, 31, 32, 33, 34, 35, 36, 37, 38, 39, 40, 41, 42, 43, 44, 45, 46, 47, 48, 49, 50, 51, 52, 53, 54, 55, 56, 57, 58, 59, 60, 61, 62, 63] rfl (by decide +kernel)
set_option maxRecDepth 20000 in
theorem gX12_mayCastle_X12_isClear : GoodIn wsX12_mayCastle (wsV RX12 158 RX12 yX12_isClear wsX12_isClear) := goodIn_app (goodIn_of _ (by decide +kernel)) ggX12_mayCastle_X12_isClear
set_option maxRecDepth 20000 in
theorem ggX12_mayCastle_X12_isAttacked : GoodIn wsX12_mayCastle wsX12_isAttacked := goodIn_r _ [12, 13, 14, 6, 15, 16, 17, 18, 19, 8, 20, 21, 22, 23, 24, 25, 26, 27, 28, 29, 30, 31, 32, 33, 34, 35, 36, 37, 38, 39, 40, 41, 42, 43, 44, 45, 46, 47, 48, 49, 50, 51, 52, 53, 54, 55, 56, 57, 58, 59, 60, 61, 62, 63] rfl (by decide +kernel)
set_option maxRecDepth 20000 in
theorem gX12_mayCastle_X12_isAttacked : GoodIn wsX12_mayCastle (wsV RX12 118 RX12 yX12_isAttacked wsX12_isAttacked) := goodIn_app (goodIn_of _ (by decide +kernel)) ggX12_mayCastle_X12_isAttacked
set_option maxRecDepth 20000 in
theorem ggX12_pawnGoes_X12_sideOf : GoodIn wsX12_pawnGoes wsX12_sideOf := goodIn_r _ [7] rfl (by decide +kernel)
set_option maxRecDepth 20000 in
theorem gX12_pawnGoes_X12_sideOf : GoodIn wsX12_pawnGoes (va_wsS RX12 161 yX12_sideOf wsX12_sideOf) := goodIn_app (goodIn_of _ (by decide +kernel)) ggX12_pawnGoes_X12_sideOf
set_option maxRecDepth 20000 in
theorem ggX12_goes_X12_sideOf : GoodIn wsX12_goes wsX12_sideOf := goodIn_r _ [6] rfl (by decide +kernel)
set_option maxRecDepth 20000 in
theorem gX12_goes_X12_sideOf : GoodIn wsX12_goes (va_wsS RX12 161 yX12_sideOf wsX12_sideOf) := goodIn_app (goodIn_of _ (by decide +kernel)) ggX12_goes_X12_sideOf
set_option maxRecDepth 20000 in
theorem ggX12_goes_X12_kind : GoodIn wsX12_goes wsX12_kind := goodIn_r _ [9] rfl (by decide +kernel)
set_option maxRecDepth 20000 in
theorem gX12_goes_X12_kind : GoodIn wsX12_goes (va_wsS RX12 136 yX12_kind wsX12_kind) := goodIn_app (goodIn_of _ (by decide +kernel)) ggX12_goes_X12_kind
set_option maxRecDepth 20000 in
theorem ggX12_goes_X12_pawnGoes : GoodIn wsX12_goes wsX12_pawnGoes := goodIn_r2 cbX12_goes_f _ [(1, 12), (1, 1), (1, 0), (1, 13), (1, 2), (1, 3), (1, 4), (1, 5), (3, 0), (3, 1), (3, 2), (3, 3), (3, 4), (3, 5), (3, 6), (3, 7), (3, 8), (3, 9), (3, 10), (3, 11), (3, 12), (3, 13), (3, 14), (3, 15), (3, 16), (3, 17), (3, 18), (3, 19), (3, 20), (3, 21), (3, 22), (3, 23), (3, 24), (3, 25), (3, 26), (3, 27), (3, 28), (3, 29), (3, 30), (3, 31), (3, 32), (3, 33), (3, 34), (3, 35), (3, 36), (3, 37), (3, 38), (3, 39)] rfl (by decide +kernel)
set_option maxRecDepth 20000 in
theorem gX12_goes_X12_pawnGoes : GoodIn wsX12_goes (wsV RX12 164 RX12 yX12_pawnGoes wsX12_pawnGoes) := goodIn_app (goodIn_of _ (by decide +kernel)) ggX12_goes_X12_pawnGoes
set_option maxRecDepth 20000 in
theorem ggX12_goes_X12_mayCastle : GoodIn wsX12_goes wsX12_mayCastle := goodIn_r2 cbX12_goes_f _ [(1, 17), (1, 1), (1, 18), (1, 19), (1, 20), (1, 21), (1, 4), (1, 22), (1, 0), (1, 23), (2, 0), (2, 1), (2, 2), (2, 3), (2, 4), (2, 5), (2, 6), (2, 7), (2, 8), (2, 9), (2, 10), (2, 11), (2, 12), (2, 13), (3, 0), (3, 1), (3, 2), (3, 3), (3, 4), (3, 5), (3, 6), (3, 7), (3, 8), (3, 9), (3, 10), (3, 11), (3, 12), (3, 13), (3, 14), (3, 15), (3, 16), (3, 17), (3, 18), (3, 19), (3, 20), (3, 21), (3, 22), (3, 23), (3, 24), (3, 25), (3, 26), (3, 27), (3, 28), (3, 29), (3, 30), (3, 31), (3, 32), (3, 33), (3, 34), (3, 35), (3, 36), (3, 37), (3, 38), (3, 39)] rfl (by decide +kernel)
set_option maxRecDepth 20000 in
theorem gX12_goes_X12_mayCastle : GoodIn wsX12_goes (wsV RX12 167 RX12 yX12_mayCastle wsX12_mayCastle) := goodIn_app (goodIn_of _ (by decide +kernel)) ggX12_goes_X12_mayCastle
set_option maxRecDepth 20000 in
theorem ggX12_goes_X12_step : GoodIn wsX12_goes wsX12_step := goodIn_r _ [30] rfl (by decide +kernel)
set_option maxRecDepth 20000 in
theorem gX12_goes_X12_step : GoodIn wsX12_goes (va_wsS RX12 103 yX12_step wsX12_step) := goodIn_app (goodIn_of _ (by decide +kernel)) ggX12_goes_X12_step
set_option maxRecDepth 20000 in
theorem ggX12_findMoves_X12_sideOf : GoodIn wsX12_findMoves wsX12_sideOf := goodIn_r _ [8] rfl (by decide +kernel)
set_option maxRecDepth 20000 in
theorem gX12_findMoves_X12_sideOf : GoodIn wsX12_findMoves (va_wsS RX12 161 yX12_sideOf wsX12_sideOf) := goodIn_app (goodIn_of _ (by decide +kernel)) ggX12_findMoves_X12_sideOf
set_option maxRecDepth 20000 in
theorem ggX12_findMoves_X12_goes : GoodIn wsX12_findMoves wsX12_goes := goodIn_r2 cbX12_findMoves_f _ [(1, 11), (1, 1), (1, 2), (1, 4), (1, 5), (1, 6), (1, 7), (1, 12), (1, 13), (1, 14), (1, 15), (1, 16), (1, 17), (1, 18), (1, 19), (1, 20), (1, 21), (1, 22), (1, 23), (2, 0), (2, 1), (2, 2), (2, 3), (2, 4), (2, 5), (2, 6), (2, 7), (2, 8), (2, 9), (2, 10), (2, 11), (2, 12), (2, 13), (2, 14), (2, 15), (2, 16), (2, 17), (2, 18), (2, 19), (5, 0), (5, 1), (5, 2), (5, 3), (5, 4), (5, 5), (5, 6), (5, 7), (5, 8), (5, 9), (5, 10), (5, 11), (5, 12), (5, 13), (5, 14), (5, 15), (5, 16), (5, 17), (5, 18), (5, 19), (5, 20), (5, 21), (5, 22), (5, 23), (5, 24), (5, 25), (5, 26), (5, 27), (5, 28), (5, 29), (5, 30), (5, 31), (5, 32), (5, 33), (5, 34), (5, 35), (5, 36), (5, 37), (5, 38), (5, 39)] rfl (by decide +kernel)
set_option maxRecDepth 20000 in
theorem gX12_findMoves_X12_goes : GoodIn wsX12_findMoves (wsV RX12 173 RX12 yX12_goes wsX12_goes) := goodIn_app (goodIn_of _ (by decide +kernel)) ggX12_findMoves_X12_goes
set_option maxRecDepth 20000 in
theorem ggX12_findMoves_X12_kind : GoodIn wsX12_findMoves wsX12_kind := goodIn_r _ [15] rfl (by decide +kernel)
set_option maxRecDepth 20000 in
theorem gX12_findMoves_X12_kind : GoodIn wsX12_findMoves (va_wsS RX12 136 yX12_kind wsX12_kind) := goodIn_app (goodIn_of _ (by decide +kernel)) ggX12_findMoves_X12_kind
set_option maxRecDepth 20000 in
theorem ggX12_findMoves_X12_isSafe : GoodIn wsX12_findMoves wsX12_isSafe := goodIn_r2 cbX12_findMoves_f _ [(2, 23), (1, 2), (3, 0), (3, 1), (3, 2), (1, 6), (3, 3), (3, 4), (1, 1), (3, 5), (2, 0), (1, 19), (3, 6), (3, 7), (3, 8), (3, 9), (3, 10), (3, 11), (1, 12), (1, 13), (1, 14), (3, 12), (3, 13), (3, 14), (3, 15), (3, 16), (3, 17), (3, 18), (3, 19), (2, 9), (2, 10), (2, 11), (2, 12), (2, 13), (2, 14), (2, 15), (3, 20), (3, 21), (3, 22), (3, 23), (4, 0), (4, 1), (4, 2), (4, 3), (2, 5), (2, 6), (2, 7), (2, 8), (2, 16), (2, 17), (2, 18), (2, 19), (4, 4), (4, 5), (4, 6), (4, 7), (5, 0), (5, 1), (5, 2), (5, 3), (5, 4), (5, 5), (5, 6), (5, 7), (5, 8), (5, 9), (5, 10), (5, 11), (5, 12), (5, 13), (5, 14), (5, 15), (5, 16), (5, 17), (5, 18), (5, 19), (5, 20), (5, 21), (5, 22), (5, 23), (5, 24), (5, 25), (5, 26), (5, 27), (5, 28), (5, 29), (5, 30), (5, 31), (5, 32), (5, 33), (5, 34), (5, 35), (5, 36), (5, 37), (5, 38), (5, 39)] rfl (by decide +kernel)
set_option maxRecDepth 20000 in
theorem gX12_findMoves_X12_isSafe : GoodIn wsX12_findMoves (wsV RX12 176 RX12 yX12_isSafe wsX12_isSafe) := goodIn_app (goodIn_of _ (by decide +kernel)) ggX12_findMoves_X12_isSafe
set_option maxRecDepth 20000 in
theorem ggX12_clearGame_X12_clearNode : GoodIn wsX12_clearGame wsX12_clearNode := goodIn_r _ [10, 11, 12, 13, 14, 15, 16, 17, 18, 19, 20, 21, 22, 23, 24, 25, 26, 27, 28, 29, 30, 31, 32, 33, 34, 35, 36, 37, 38, 39, 40, 41, 42, 43, 44, 45, 46, 47, 48, 49, 50, 51, 52, 53, 54] rfl (by decide +kernel)
set_option maxRecDepth 20000 in
theorem gX12_clearGame_X12_clearNode : GoodIn wsX12_clearGame (wsV RX12 179 RX12 yX12_clearNode wsX12_clearNode) := goodIn_app (goodIn_of _ (by decide +kernel)) ggX12_clearGame_X12_clearNode
set_option maxRecDepth 20000 in
theorem ggX12_usual_X12_start : GoodIn wsX12_usual wsX12_start := goodIn_r _ [11, 12, 1, 13, 2, 3, 4, 5, 6, 14, 15, 16, 17, 18, 19, 20, 21, 22, 23, 24, 25, 26, 27, 28, 29, 30, 31, 32, 33, 34, 35, 36, 37, 38, 39, 40, 41, 42, 43, 44, 45, 46, 47, 48, 49, 50, 51, 52, 53] rfl (by decide +kernel)
set_option maxRecDepth 20000 in
theorem gX12_usual_X12_start : GoodIn wsX12_usual (wsV RX12 182 RX12 yX12_start wsX12_start) := goodIn_app (goodIn_of _ (by decide +kernel)) ggX12_usual_X12_start
set_option maxRecDepth 20000 in
theorem ggX12_place_X12_make : GoodIn wsX12_place wsX12_make := goodIn_r2 cbX12_place_f _ [(1, 15), (1, 2), (1, 8), (1, 5), (1, 7), (1, 9), (1, 16), (1, 17), (1, 14), (1, 18), (1, 19), (1, 20), (1, 21), (1, 22), (1, 23), (2, 0), (2, 1), (2, 2), (1, 6), (2, 3), (2, 4), (2, 5), (2, 6), (2, 7), (2, 8), (2, 9), (5, 0), (5, 1), (5, 2), (5, 3), (5, 4), (5, 5), (5, 6), (5, 7), (5, 8), (5, 9), (5, 10), (5, 11), (5, 12), (5, 13), (5, 14), (5, 15), (5, 16), (5, 17), (5, 18), (5, 19), (5, 20), (5, 21), (5, 22), (5, 23), (5, 24), (5, 25), (5, 26), (5, 27), (5, 28), (5, 29), (5, 30), (5, 31), (5, 32), (5, 33), (5, 34), (5, 35), (5, 36), (5, 37), (5, 38), (5, 39)] rfl (by decide +kernel)
set_option maxRecDepth 20000 in
theorem gX12_place_X12_make : GoodIn wsX12_place (wsV RX12 149 RX12 yX12_make wsX12_make) := goodIn_app (goodIn_of _ (by decide +kernel)) ggX12_place_X12_make
set_option maxRecDepth 20000 in
theorem ggX12_place_X12_findMoves : GoodIn wsX12_place wsX12_findMoves := goodIn_r2 cbX12_place_f _ [(2, 13), (2, 14), (1, 2), (1, 5), (2, 15), (2, 16), (2, 17), (1, 14), (2, 18), (2, 19), (2, 20), (2, 21), (2, 22), (1, 16), (1, 17), (1, 18), (2, 23), (3, 0), (3, 1), (3, 2), (1, 7), (3, 3), (3, 4), (3, 5), (3, 6), (1, 6), (3, 7), (3, 8), (3, 9), (3, 10), (3, 11), (3, 12), (3, 13), (3, 14), (2, 3), (2, 4), (2, 5), (2, 6), (2, 7), (2, 8), (2, 9), (3, 15), (3, 16), (3, 17), (3, 18), (3, 19), (3, 20), (3, 21), (3, 22), (3, 23), (4, 0), (4, 1), (4, 2), (4, 3), (4, 4), (1, 8), (1, 9), (1, 11), (1, 12), (1, 13), (1, 15), (1, 19), (1, 20), (1, 21), (1, 22), (1, 23), (2, 0), (2, 1), (2, 2), (4, 5), (4, 6), (4, 7), (4, 8), (4, 9), (4, 10), (4, 11), (4, 12), (4, 13), (4, 14), (4, 15), (4, 16), (5, 0), (5, 1), (5, 2), (5, 3), (5, 4), (5, 5), (5, 6), (5, 7), (5, 8), (5, 9), (5, 10), (5, 11), (5, 12), (5, 13), (5, 14), (5, 15), (5, 16), (5, 17), (5, 18), (5, 19), (5, 20), (5, 21), (5, 22), (5, 23), (5, 24), (5, 25), (5, 26), (5, 27), (5, 28), (5, 29), (5, 30), (5, 31), (5, 32), (5, 33), (5, 34), (5, 35), (5, 36), (5, 37), (5, 38), (5, 39)] rfl (by decide +kernel)
set_option maxRecDepth 20000 in
theorem gX12_place_X12_findMoves : GoodIn wsX12_place (wsV RX12 185 RX12 yX12_findMoves wsX12_findMoves) := goodIn_app (goodIn_of _ (by decide +kernel)) ggX12_place_X12_findMoves
set_option maxRecDepth 20000 in
theorem ggX12_append_X12_clearNode : GoodIn wsX12_append wsX12_clearNode := goodIn_r _ [10, 4, 5, 11, 12, 13, 14, 15, 16, 17, 18, 19, 20, 21, 22, 23, 24, 25, 26, 27, 28, 29, 30, 31, 32, 33, 34, 35, 36, 37, 38, 39, 40, 41, 42, 43, 44, 45, 46, 47, 48, 49, 50, 51, 52] rfl (by decide +kernel)
set_option maxRecDepth 20000 in
theorem gX12_append_X12_clearNode : GoodIn wsX12_append (wsV RX12 179 RX12 yX12_clearNode wsX12_clearNode) := goodIn_app (goodIn_of _ (by decide +kernel)) ggX12_append_X12_clearNode
set_option maxRecDepth 20000 in
theorem ggX12_deepOf_X12_isFirst : GoodIn wsX12_deepOf wsX12_isFirst := goodIn_r _ [6, 7, 1, 8, 9, 10, 11, 12, 13, 14, 15, 16, 17, 18, 19, 20, 21, 22, 23, 24, 25, 26, 27, 28, 29, 30, 31, 32, 33, 34, 35, 36, 37, 38, 39, 40, 41, 42, 43, 44, 45, 46, 47] rfl (by decide +kernel)
set_option maxRecDepth 20000 in
theorem gX12_deepOf_X12_isFirst : GoodIn wsX12_deepOf (wsV RX12 188 RX12 yX12_isFirst wsX12_isFirst) := goodIn_app (goodIn_of _ (by decide +kernel)) ggX12_deepOf_X12_isFirst
set_option maxRecDepth 20000 in
theorem ggX12_spellSquare_X12_spell : GoodIn wsX12_spellSquare wsX12_spell := goodIn_r _ [5, 6, 7, 8, 9, 10, 11, 12, 13, 14, 15, 16, 17, 18, 19, 20, 21, 22, 23, 24, 25, 26, 27, 28, 29, 30, 31, 32, 33, 34, 35, 36, 37, 38, 39, 40, 41, 42, 43, 44, 45, 46, 47] rfl (by decide +kernel)
set_option maxRecDepth 20000 in
theorem gX12_spellSquare_X12_spell : GoodIn wsX12_spellSquare (wsV RX12 194 RX12 yX12_spell wsX12_spell) := goodIn_app (goodIn_of _ (by decide +kernel)) ggX12_spellSquare_X12_spell
set_option maxRecDepth 20000 in
theorem ggX12_isCastling_X12_kind : GoodIn wsX12_isCastling wsX12_kind := goodIn_r _ [5] rfl (by decide +kernel)
set_option maxRecDepth 20000 in
theorem gX12_isCastling_X12_kind : GoodIn wsX12_isCastling (va_wsS RX12 136 yX12_kind wsX12_kind) := goodIn_app (goodIn_of _ (by decide +kernel)) ggX12_isCastling_X12_kind
set_option maxRecDepth 20000 in
theorem ggX12_spellMove_X12_isCastling : GoodIn wsX12_spellMove wsX12_isCastling := goodIn_r _ [7, 2, 8, 9, 6, 10, 23, 24, 25, 26, 27, 28, 29, 30, 31, 32, 33, 34, 35, 36, 37, 38, 39, 40, 41, 42, 43, 44, 45, 46, 47, 48, 49, 50, 51, 52, 53, 54, 55, 56, 57, 58, 59, 60, 61, 62] rfl (by decide +kernel)
set_option maxRecDepth 20000 in
theorem gX12_spellMove_X12_isCastling : GoodIn wsX12_spellMove (wsV RX12 198 RX12 yX12_isCastling wsX12_isCastling) := goodIn_app (goodIn_of _ (by decide +kernel)) ggX12_spellMove_X12_isCastling
set_option maxRecDepth 20000 in
theorem ggX12_spellMove_X12_spell : GoodIn wsX12_spellMove wsX12_spell := goodIn_r _ [14, 15, 1, 23, 24, 25, 26, 27, 28, 29, 30, 31, 32, 33, 34, 35, 36, 37, 38, 39, 40, 41, 42, 43, 44, 45, 46, 47, 48, 49, 50, 51, 52, 53, 54, 55, 56, 57, 58, 59, 60, 61, 62] rfl (by decide +kernel)
set_option maxRecDepth 20000 in
theorem gX12_spellMove_X12_spell : GoodIn wsX12_spellMove (wsV RX12 194 RX12 yX12_spell wsX12_spell) := goodIn_app (goodIn_of _ (by decide +kernel)) ggX12_spellMove_X12_spell
set_option maxRecDepth 20000 in
theorem ggX12_spellMove_X12_kind : GoodIn wsX12_spellMove wsX12_kind := goodIn_r _ [10] rfl (by decide +kernel)
set_option maxRecDepth 20000 in
theorem gX12_spellMove_X12_kind : GoodIn wsX12_spellMove (va_wsS RX12 136 yX12_kind wsX12_kind) := goodIn_app (goodIn_of _ (by decide +kernel)) ggX12_spellMove_X12_kind
set_option maxRecDepth 20000 in
theorem ggX12_spellMove_X12_letter : GoodIn wsX12_spellMove wsX12_letter := goodIn_r _ [18] rfl (by decide +kernel)
set_option maxRecDepth 20000 in
theorem gX12_spellMove_X12_letter : GoodIn wsX12_spellMove (va_wsS RX12 201 yX12_letter wsX12_letter) := goodIn_app (goodIn_of _ (by decide +kernel)) ggX12_spellMove_X12_letter
set_option maxRecDepth 20000 in
theorem ggX12_spellMove_X12_spellSquare : GoodIn wsX12_spellMove wsX12_spellSquare := goodIn_r _ [22, 11, 12, 13, 6, 14, 15, 1, 23, 24, 25, 26, 27, 28, 29, 30, 31, 32, 33, 34, 35, 36, 37, 38, 39, 40, 41, 42, 43, 44, 45, 46, 47, 48, 49, 50, 51, 52, 53, 54, 55, 56, 57, 58, 59, 60, 61, 62] rfl (by decide +kernel)
set_option maxRecDepth 20000 in
theorem gX12_spellMove_X12_spellSquare : GoodIn wsX12_spellMove (wsV RX12 205 RX12 yX12_spellSquare wsX12_spellSquare) := goodIn_app (goodIn_of _ (by decide +kernel)) ggX12_spellMove_X12_spellSquare
set_option maxRecDepth 20000 in
theorem ggX12_behind_X12_keep : GoodIn wsX12_behind wsX12_keep := goodIn_r2 cbX12_behind_f _ [(1, 5), (1, 6), (1, 7), (1, 8), (1, 0), (1, 9), (1, 10), (1, 11), (1, 12), (5, 0), (5, 1), (5, 2), (5, 3), (5, 4), (5, 5), (5, 6), (5, 7), (5, 8), (5, 9), (5, 10), (5, 11), (5, 12), (5, 13), (5, 14), (5, 15), (5, 16), (5, 17), (5, 18), (5, 19), (5, 20), (5, 21), (5, 22), (5, 23), (5, 24), (5, 25), (5, 26), (5, 27), (5, 28), (5, 29), (5, 30), (5, 31), (5, 32), (5, 33), (5, 34), (5, 35), (5, 36), (5, 37), (5, 38), (5, 39)] rfl (by decide +kernel)
set_option maxRecDepth 20000 in
theorem gX12_behind_X12_keep : GoodIn wsX12_behind (wsV RX12 146 RX12 yX12_keep wsX12_keep) := goodIn_app (goodIn_of _ (by decide +kernel)) ggX12_behind_X12_keep
set_option maxRecDepth 20000 in
theorem ggX12_behind_X12_make : GoodIn wsX12_behind wsX12_make := goodIn_r2 cbX12_behind_f _ [(1, 16), (1, 7), (1, 11), (1, 0), (1, 10), (1, 12), (1, 17), (1, 18), (1, 4), (1, 19), (1, 20), (1, 21), (1, 22), (1, 23), (2, 0), (2, 1), (2, 2), (2, 3), (1, 9), (2, 4), (2, 5), (2, 6), (2, 7), (2, 8), (2, 9), (2, 10), (5, 0), (5, 1), (5, 2), (5, 3), (5, 4), (5, 5), (5, 6), (5, 7), (5, 8), (5, 9), (5, 10), (5, 11), (5, 12), (5, 13), (5, 14), (5, 15), (5, 16), (5, 17), (5, 18), (5, 19), (5, 20), (5, 21), (5, 22), (5, 23), (5, 24), (5, 25), (5, 26), (5, 27), (5, 28), (5, 29), (5, 30), (5, 31), (5, 32), (5, 33), (5, 34), (5, 35), (5, 36), (5, 37), (5, 38), (5, 39)] rfl (by decide +kernel)
set_option maxRecDepth 20000 in
theorem gX12_behind_X12_make : GoodIn wsX12_behind (wsV RX12 149 RX12 yX12_make wsX12_make) := goodIn_app (goodIn_of _ (by decide +kernel)) ggX12_behind_X12_make
set_option maxRecDepth 20000 in
theorem ggX12_behind_X12_isInCheck : GoodIn wsX12_behind wsX12_isInCheck := goodIn_r2 cbX12_behind_f _ [(2, 14), (2, 15), (2, 16), (2, 17), (1, 4), (2, 18), (1, 7), (2, 19), (2, 20), (2, 21), (2, 22), (2, 4), (2, 5), (2, 6), (2, 7), (2, 8), (2, 9), (2, 10), (2, 23), (3, 0), (3, 1), (3, 2), (5, 0), (5, 1), (5, 2), (5, 3), (5, 4), (5, 5), (5, 6), (5, 7), (5, 8), (5, 9), (5, 10), (5, 11), (5, 12), (5, 13), (5, 14), (5, 15), (5, 16), (5, 17), (5, 18), (5, 19), (5, 20), (5, 21), (5, 22), (5, 23), (5, 24), (5, 25), (5, 26), (5, 27), (5, 28), (5, 29), (5, 30), (5, 31), (5, 32), (5, 33), (5, 34), (5, 35), (5, 36), (5, 37), (5, 38), (5, 39)] rfl (by decide +kernel)
set_option maxRecDepth 20000 in
theorem gX12_behind_X12_isInCheck : GoodIn wsX12_behind (wsV RX12 152 RX12 yX12_isInCheck wsX12_isInCheck) := goodIn_app (goodIn_of _ (by decide +kernel)) ggX12_behind_X12_isInCheck
set_option maxRecDepth 20000 in
theorem ggX12_behind_X12_goes : GoodIn wsX12_behind wsX12_goes := goodIn_r2 cbX12_behind_f _ [(3, 6), (1, 7), (1, 0), (3, 7), (3, 8), (1, 4), (3, 9), (1, 17), (1, 18), (1, 19), (3, 10), (3, 11), (3, 12), (3, 13), (1, 10), (3, 14), (3, 15), (3, 16), (3, 17), (1, 9), (3, 18), (3, 19), (3, 20), (3, 21), (2, 19), (2, 20), (2, 21), (2, 22), (2, 4), (2, 5), (2, 6), (2, 7), (2, 8), (2, 9), (2, 10), (2, 23), (3, 0), (3, 1), (3, 2), (5, 0), (5, 1), (5, 2), (5, 3), (5, 4), (5, 5), (5, 6), (5, 7), (5, 8), (5, 9), (5, 10), (5, 11), (5, 12), (5, 13), (5, 14), (5, 15), (5, 16), (5, 17), (5, 18), (5, 19), (5, 20), (5, 21), (5, 22), (5, 23), (5, 24), (5, 25), (5, 26), (5, 27), (5, 28), (5, 29), (5, 30), (5, 31), (5, 32), (5, 33), (5, 34), (5, 35), (5, 36), (5, 37), (5, 38), (5, 39)] rfl (by decide +kernel)
set_option maxRecDepth 20000 in
theorem gX12_behind_X12_goes : GoodIn wsX12_behind (wsV RX12 173 RX12 yX12_goes wsX12_goes) := goodIn_app (goodIn_of _ (by decide +kernel)) ggX12_behind_X12_goes
set_option maxRecDepth 20000 in
theorem ggX12_behind_X12_isSafeOnce : GoodIn wsX12_behind wsX12_isSafeOnce := goodIn_r2 cbX12_behind_f _ [(4, 1), (1, 7), (1, 0), (1, 17), (1, 18), (1, 4), (1, 19), (2, 11), (2, 12), (2, 13), (2, 14), (2, 15), (2, 16), (2, 17), (2, 18), (2, 19), (2, 20), (2, 21), (2, 22), (2, 4), (2, 5), (2, 6), (2, 7), (2, 8), (2, 9), (2, 10), (2, 23), (3, 0), (3, 1), (3, 2), (5, 0), (5, 1), (5, 2), (5, 3), (5, 4), (5, 5), (5, 6), (5, 7), (5, 8), (5, 9), (5, 10), (5, 11), (5, 12), (5, 13), (5, 14), (5, 15), (5, 16), (5, 17), (5, 18), (5, 19), (5, 20), (5, 21), (5, 22), (5, 23), (5, 24), (5, 25), (5, 26), (5, 27), (5, 28), (5, 29), (5, 30), (5, 31), (5, 32), (5, 33), (5, 34), (5, 35), (5, 36), (5, 37), (5, 38), (5, 39)] rfl (by decide +kernel)
set_option maxRecDepth 20000 in
theorem gX12_behind_X12_isSafeOnce : GoodIn wsX12_behind (wsV RX12 208 RX12 yX12_isSafeOnce wsX12_isSafeOnce) := goodIn_app (goodIn_of _ (by decide +kernel)) ggX12_behind_X12_isSafeOnce
set_option maxRecDepth 20000 in
theorem ggX12_behind_X12_bringBack : GoodIn wsX12_behind wsX12_bringBack := goodIn_r2 cbX12_behind_f _ [(4, 5), (1, 7), (1, 6), (1, 8), (1, 0), (1, 9), (1, 10), (1, 11), (1, 12), (5, 0), (5, 1), (5, 2), (5, 3), (5, 4), (5, 5), (5, 6), (5, 7), (5, 8), (5, 9), (5, 10), (5, 11), (5, 12), (5, 13), (5, 14), (5, 15), (5, 16), (5, 17), (5, 18), (5, 19), (5, 20), (5, 21), (5, 22), (5, 23), (5, 24), (5, 25), (5, 26), (5, 27), (5, 28), (5, 29), (5, 30), (5, 31), (5, 32), (5, 33), (5, 34), (5, 35), (5, 36), (5, 37), (5, 38), (5, 39)] rfl (by decide +kernel)
set_option maxRecDepth 20000 in
theorem gX12_behind_X12_bringBack : GoodIn wsX12_behind (wsV RX12 155 RX12 yX12_bringBack wsX12_bringBack) := goodIn_app (goodIn_of _ (by decide +kernel)) ggX12_behind_X12_bringBack
set_option maxRecDepth 20000 in
theorem ggX12_isSafeOnce_X12_kind : GoodIn wsX12_isSafeOnce wsX12_kind := goodIn_r _ [6] rfl (by decide +kernel)
set_option maxRecDepth 20000 in
theorem gX12_isSafeOnce_X12_kind : GoodIn wsX12_isSafeOnce (va_wsS RX12 136 yX12_kind wsX12_kind) := goodIn_app (goodIn_of _ (by decide +kernel)) ggX12_isSafeOnce_X12_kind
set_option maxRecDepth 20000 in
theorem ggX12_isSafeOnce_X12_isInCheck : GoodIn wsX12_isSafeOnce wsX12_isInCheck := goodIn_r2 cbX12_isSafeOnce_f _ [(1, 9), (1, 10), (1, 11), (1, 12), (1, 4), (1, 13), (1, 0), (1, 14), (1, 15), (1, 16), (1, 17), (1, 18), (1, 19), (1, 20), (1, 21), (1, 22), (1, 23), (2, 0), (2, 1), (2, 2), (2, 3), (2, 4), (3, 0), (3, 1), (3, 2), (3, 3), (3, 4), (3, 5), (3, 6), (3, 7), (3, 8), (3, 9), (3, 10), (3, 11), (3, 12), (3, 13), (3, 14), (3, 15), (3, 16), (3, 17), (3, 18), (3, 19), (3, 20), (3, 21), (3, 22), (3, 23), (3, 24), (3, 25), (3, 26), (3, 27), (3, 28), (3, 29), (3, 30), (3, 31), (3, 32), (3, 33), (3, 34), (3, 35), (3, 36), (3, 37), (3, 38), (3, 39)] rfl (by decide +kernel)
set_option maxRecDepth 20000 in
theorem gX12_isSafeOnce_X12_isInCheck : GoodIn wsX12_isSafeOnce (wsV RX12 152 RX12 yX12_isInCheck wsX12_isInCheck) := goodIn_app (goodIn_of _ (by decide +kernel)) ggX12_isSafeOnce_X12_isInCheck
set_option maxRecDepth 20000 in
theorem ggX12_apartOf_X12_kind : GoodIn wsX12_apartOf wsX12_kind := goodIn_r _ [7] rfl (by decide +kernel)
set_option maxRecDepth 20000 in
theorem gX12_apartOf_X12_kind : GoodIn wsX12_apartOf (va_wsS RX12 136 yX12_kind wsX12_kind) := goodIn_app (goodIn_of _ (by decide +kernel)) ggX12_apartOf_X12_kind
set_option maxRecDepth 20000 in
theorem ggX12_apartOf_X12_isTaking : GoodIn wsX12_apartOf wsX12_isTaking := goodIn_r _ [11, 1, 4, 5, 6, 7, 12, 13, 14, 15, 16, 17, 18, 19, 20, 21, 22, 23, 24, 25, 26, 27, 28, 29, 30, 31, 32, 33, 34, 35, 36, 37, 38, 39, 40, 41, 42, 43, 44, 45, 46, 47, 48, 49, 50, 51] rfl (by decide +kernel)
set_option maxRecDepth 20000 in
theorem gX12_apartOf_X12_isTaking : GoodIn wsX12_apartOf (wsV RX12 139 RX12 yX12_isTaking wsX12_isTaking) := goodIn_app (goodIn_of _ (by decide +kernel)) ggX12_apartOf_X12_isTaking
set_option maxRecDepth 20000 in
theorem ggX12_spellWhole_X12_apartOf : GoodIn wsX12_spellWhole wsX12_apartOf := goodIn_r2 cbX12_spellWhole_f _ [(1, 4), (1, 5), (1, 6), (1, 7), (1, 8), (1, 9), (1, 3), (1, 10), (1, 11), (1, 12), (1, 13), (1, 14), (6, 0), (6, 1), (6, 2), (6, 3), (6, 4), (6, 5), (6, 6), (6, 7), (6, 8), (6, 9), (6, 10), (6, 11), (6, 12), (6, 13), (6, 14), (6, 15), (6, 16), (6, 17), (6, 18), (6, 19), (6, 20), (6, 21), (6, 22), (6, 23), (6, 24), (6, 25), (6, 26), (6, 27), (6, 28), (6, 29), (6, 30), (6, 31), (6, 32), (6, 33), (6, 34), (6, 35), (6, 36), (6, 37), (6, 38), (6, 39)] rfl (by decide +kernel)
set_option maxRecDepth 20000 in
theorem gX12_spellWhole_X12_apartOf : GoodIn wsX12_spellWhole (wsV RX12 211 RX12 yX12_apartOf wsX12_apartOf) := goodIn_app (goodIn_of _ (by decide +kernel)) ggX12_spellWhole_X12_apartOf
set_option maxRecDepth 20000 in
theorem ggX12_spellWhole_X12_isTaking : GoodIn wsX12_spellWhole wsX12_isTaking := goodIn_r2 cbX12_spellWhole_f _ [(1, 14), (1, 5), (1, 8), (1, 9), (1, 3), (1, 10), (6, 0), (6, 1), (6, 2), (6, 3), (6, 4), (6, 5), (6, 6), (6, 7), (6, 8), (6, 9), (6, 10), (6, 11), (6, 12), (6, 13), (6, 14), (6, 15), (6, 16), (6, 17), (6, 18), (6, 19), (6, 20), (6, 21), (6, 22), (6, 23), (6, 24), (6, 25), (6, 26), (6, 27), (6, 28), (6, 29), (6, 30), (6, 31), (6, 32), (6, 33), (6, 34), (6, 35), (6, 36), (6, 37), (6, 38), (6, 39)] rfl (by decide +kernel)
set_option maxRecDepth 20000 in
theorem gX12_spellWhole_X12_isTaking : GoodIn wsX12_spellWhole (wsV RX12 139 RX12 yX12_isTaking wsX12_isTaking) := goodIn_app (goodIn_of _ (by decide +kernel)) ggX12_spellWhole_X12_isTaking
set_option maxRecDepth 20000 in
theorem ggX12_spellWhole_X12_spellMove : GoodIn wsX12_spellWhole wsX12_spellMove := goodIn_r2 cbX12_spellWhole_f _ [(1, 18), (1, 19), (1, 5), (1, 20), (1, 21), (1, 22), (1, 3), (1, 23), (1, 8), (1, 9), (1, 10), (2, 0), (2, 1), (2, 2), (2, 3), (2, 4), (2, 5), (2, 6), (2, 7), (2, 8), (2, 9), (2, 10), (2, 11), (6, 0), (6, 1), (6, 2), (6, 3), (6, 4), (6, 5), (6, 6), (6, 7), (6, 8), (6, 9), (6, 10), (6, 11), (6, 12), (6, 13), (6, 14), (6, 15), (6, 16), (6, 17), (6, 18), (6, 19), (6, 20), (6, 21), (6, 22), (6, 23), (6, 24), (6, 25), (6, 26), (6, 27), (6, 28), (6, 29), (6, 30), (6, 31), (6, 32), (6, 33), (6, 34), (6, 35), (6, 36), (6, 37), (6, 38), (6, 39)] rfl (by decide +kernel)
set_option maxRecDepth 20000 in
theorem gX12_spellWhole_X12_spellMove : GoodIn wsX12_spellWhole (wsV RX12 214 RX12 yX12_spellMove wsX12_spellMove) := goodIn_app (goodIn_of _ (by decide +kernel)) ggX12_spellWhole_X12_spellMove
set_option maxRecDepth 20000 in
theorem ggX12_spellWhole_X12_behind : GoodIn wsX12_spellWhole wsX12_behind := goodIn_r2 cbX12_spellWhole_f _ [(2, 15), (2, 16), (2, 17), (2, 18), (2, 19), (1, 3), (2, 20), (2, 21), (1, 5), (2, 22), (2, 23), (3, 0), (3, 1), (3, 2), (3, 3), (3, 4), (3, 5), (3, 6), (1, 8), (1, 9), (1, 10), (1, 11), (1, 12), (1, 13), (1, 14), (3, 7), (3, 8), (3, 9), (3, 10), (3, 11), (3, 12), (3, 13), (3, 14), (3, 15), (3, 16), (3, 17), (3, 18), (3, 19), (3, 20), (3, 21), (3, 22), (3, 23), (4, 0), (4, 1), (4, 2), (4, 3), (4, 4), (4, 5), (4, 6), (4, 7), (4, 8), (4, 9), (4, 10), (4, 11), (4, 12), (4, 13), (4, 14), (4, 15), (4, 16), (4, 17), (4, 18), (4, 19), (4, 20), (4, 21), (4, 22), (4, 23), (5, 0), (5, 1), (5, 2), (5, 3), (5, 4), (5, 5), (5, 6), (5, 7), (5, 8), (5, 9), (5, 10), (5, 11), (5, 12), (6, 0), (6, 1), (6, 2), (6, 3), (6, 4), (6, 5), (6, 6), (6, 7), (6, 8), (6, 9), (6, 10), (6, 11), (6, 12), (6, 13), (6, 14), (6, 15), (6, 16), (6, 17), (6, 18), (6, 19), (6, 20), (6, 21), (6, 22), (6, 23), (6, 24), (6, 25), (6, 26), (6, 27), (6, 28), (6, 29), (6, 30), (6, 31), (6, 32), (6, 33), (6, 34), (6, 35), (6, 36), (6, 37), (6, 38), (6, 39)] rfl (by decide +kernel)
set_option maxRecDepth 20000 in
theorem gX12_spellWhole_X12_behind : GoodIn wsX12_spellWhole (wsV RX12 218 RX12 yX12_behind wsX12_behind) := goodIn_app (goodIn_of _ (by decide +kernel)) ggX12_spellWhole_X12_behind
end
