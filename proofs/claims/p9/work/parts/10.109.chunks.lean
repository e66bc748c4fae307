def cbX1_init : List (List Cond) := [[.code yX1_init cX1_init 1 none], wsX1_init_r1, wsX1_init_r2, wsX1_init_r3, wsX00, wsX10, wsX40, wsX60]
theorem cbX1_init_f : cbX1_init.flatten = wsX1_init := by
  unfold cbX1_init wsX1_init
  simp only [List.flatten_cons, List.flatten_nil, List.append_nil, List.append_assoc, List.cons_append, List.nil_append]
def cbX1_wipe : List (List Cond) := [[.code yX1_wipe cX1_wipe 1 none], wsX1_wipe_r1, wsX1_wipe_r2, wsX10, wsX00, wsX40, wsX60]
theorem cbX1_wipe_f : cbX1_wipe.flatten = wsX1_wipe := by
  unfold cbX1_wipe wsX1_wipe
  simp only [List.flatten_cons, List.flatten_nil, List.append_nil, List.append_assoc, List.cons_append, List.nil_append]
def cbX1_grow : List (List Cond) := [[.code yX1_grow cX1_grow 5 (some .int)], wsX1_grow_r1, wsX1_grow_r2, wsX10, wsX40, wsX60]
theorem cbX1_grow_f : cbX1_grow.flatten = wsX1_grow := by
  unfold cbX1_grow wsX1_grow
  simp only [List.flatten_cons, List.flatten_nil, List.append_nil, List.append_assoc, List.cons_append, List.nil_append]
def cbX1_standAt : List (List Cond) := [[.code yX1_standAt cX1_standAt 6 none], wsX1_standAt_r1, wsX1_standAt_r2, wsX1_standAt_r3, wsX10, wsX40, wsX00]
theorem cbX1_standAt_f : cbX1_standAt.flatten = wsX1_standAt := by
  unfold cbX1_standAt wsX1_standAt
  simp only [List.flatten_cons, List.flatten_nil, List.append_nil, List.append_assoc, List.cons_append, List.nil_append]
def cbX1_hasTag : List (List Cond) := [[.code yX1_hasTag cX1_hasTag 3 (some .boolean)], wsX1_hasTag_r1, wsX1_hasTag_r2, wsX10, wsX100, wsX60]
theorem cbX1_hasTag_f : cbX1_hasTag.flatten = wsX1_hasTag := by
  unfold cbX1_hasTag wsX1_hasTag
  simp only [List.flatten_cons, List.flatten_nil, List.append_nil, List.append_assoc, List.cons_append, List.nil_append]
def cbX1_putTag : List (List Cond) := [[.code yX1_putTag cX1_putTag 3 none], wsX1_putTag_r1, wsX1_putTag_r2, wsX1_putTag_r3, wsX10, wsX100, wsX60]
theorem cbX1_putTag_f : cbX1_putTag.flatten = wsX1_putTag := by
  unfold cbX1_putTag wsX1_putTag
  simp only [List.flatten_cons, List.flatten_nil, List.append_nil, List.append_assoc, List.cons_append, List.nil_append]
def cbX1_agreesWith : List (List Cond) := [[.code yX1_agreesWith cX1_agreesWith 3 (some .boolean)], wsX1_agreesWith_r1, wsX1_agreesWith_r2, wsX1_agreesWith_r3, wsX1_agreesWith_r4, wsX10, wsX100, wsX60]
theorem cbX1_agreesWith_f : cbX1_agreesWith.flatten = wsX1_agreesWith := by
  unfold cbX1_agreesWith wsX1_agreesWith
  simp only [List.flatten_cons, List.flatten_nil, List.append_nil, List.append_assoc, List.cons_append, List.nil_append]
def cbX2_init : List (List Cond) := [[.code yX2_init cX2_init 2 none], wsX2_init_r1, wsX2_init_r2, wsX2_init_r3, wsX2_init_r4, wsX2_init_r5, wsX80, wsX20, wsX50, wsX60, wsX10, wsX00, wsX70, wsX40]
theorem cbX2_init_f : cbX2_init.flatten = wsX2_init := by
  unfold cbX2_init wsX2_init
  simp only [List.flatten_cons, List.flatten_nil, List.append_nil, List.append_assoc, List.cons_append, List.nil_append]
def cbX2_begin : List (List Cond) := [[.code yX2_begin cX2_begin 2 none], wsX2_begin_r1, wsX2_begin_r2, wsX2_begin_r3, wsX20, wsX10, wsX00, wsX40, wsX60]
theorem cbX2_begin_f : cbX2_begin.flatten = wsX2_begin := by
  unfold cbX2_begin wsX2_begin
  simp only [List.flatten_cons, List.flatten_nil, List.append_nil, List.append_assoc, List.cons_append, List.nil_append]
def cbX2_readHead : List (List Cond) := [[.code yX2_readHead cX2_readHead 3 (some .boolean)], wsX2_readHead_r1, wsX2_readHead_r2, wsX2_readHead_r3, wsX2_readHead_r4, wsX2_readHead_r5, wsX2_readHead_r6, wsX2_readHead_r7, wsX2_readHead_r8, wsX2_readHead_r9, wsX2_readHead_r10, wsX2_readHead_r11, wsX2_readHead_r12, wsX2_readHead_r13, wsX2_readHead_r14, wsX2_readHead_r15, wsX20, wsX60, wsX10, wsX100, wsX50, wsX00, wsX40]
theorem cbX2_readHead_f : cbX2_readHead.flatten = wsX2_readHead := by
  unfold cbX2_readHead wsX2_readHead
  simp only [List.flatten_cons, List.flatten_nil, List.append_nil, List.append_assoc, List.cons_append, List.nil_append]
def cbX2_readTag : List (List Cond) := [[.code yX2_readTag cX2_readTag 2 (some .boolean)], wsX2_readTag_r1, wsX2_readTag_r2, wsX2_readTag_r3, wsX2_readTag_r4, wsX2_readTag_r5, wsX2_readTag_r6, wsX2_readTag_r7, wsX2_readTag_r8, wsX2_readTag_r9, wsX2_readTag_r10, wsX2_readTag_r11, wsX2_readTag_r12, wsX2_readTag_r13, wsX2_readTag_r14, wsX20, wsX10, wsX60, wsX100, wsX50, wsX00]
theorem cbX2_readTag_f : cbX2_readTag.flatten = wsX2_readTag := by
  unfold cbX2_readTag wsX2_readTag
  simp only [List.flatten_cons, List.flatten_nil, List.append_nil, List.append_assoc, List.cons_append, List.nil_append]
def cbX2_readName : List (List Cond) := [[.code yX2_readName cX2_readName 1 (some .boolean)], wsX2_readName_r1, wsX2_readName_r2, wsX20, wsX60]
theorem cbX2_readName_f : cbX2_readName.flatten = wsX2_readName := by
  unfold cbX2_readName wsX2_readName
  simp only [List.flatten_cons, List.flatten_nil, List.append_nil, List.append_assoc, List.cons_append, List.nil_append]
def cbX2_readValue : List (List Cond) := [[.code yX2_readValue cX2_readValue 2 (some .boolean)], wsX2_readValue_r1, wsX2_readValue_r2, wsX20, wsX60]
theorem cbX2_readValue_f : cbX2_readValue.flatten = wsX2_readValue := by
  unfold cbX2_readValue wsX2_readValue
  simp only [List.flatten_cons, List.flatten_nil, List.append_nil, List.append_assoc, List.cons_append, List.nil_append]
def cbX2_readRemarks : List (List Cond) := [[.code yX2_readRemarks cX2_readRemarks 4 (some .boolean)], wsX2_readRemarks_r1, wsX2_readRemarks_r2, wsX2_readRemarks_r3, wsX20, wsX60, wsX40]
theorem cbX2_readRemarks_f : cbX2_readRemarks.flatten = wsX2_readRemarks := by
  unfold cbX2_readRemarks wsX2_readRemarks
  simp only [List.flatten_cons, List.flatten_nil, List.append_nil, List.append_assoc, List.cons_append, List.nil_append]
def cbX2_readRemark : List (List Cond) := [[.code yX2_readRemark cX2_readRemark 6 (some .boolean)], wsX2_readRemark_r1, wsX2_readRemark_r2, wsX20, wsX60, wsX40]
theorem cbX2_readRemark_f : cbX2_readRemark.flatten = wsX2_readRemark := by
  unfold cbX2_readRemark wsX2_readRemark
  simp only [List.flatten_cons, List.flatten_nil, List.append_nil, List.append_assoc, List.cons_append, List.nil_append]
def cbX2_readMoves : List (List Cond) := [[.code yX2_readMoves cX2_readMoves 4 (some .boolean)], wsX2_readMoves_r1, wsX2_readMoves_r2, wsX2_readMoves_r3, wsX2_readMoves_r4, wsX2_readMoves_r5, wsX2_readMoves_r6, wsX2_readMoves_r7, wsX2_readMoves_r8, wsX2_readMoves_r9, wsX2_readMoves_r10, wsX2_readMoves_r11, wsX2_readMoves_r12, wsX2_readMoves_r13, wsX2_readMoves_r14, wsX2_readMoves_r15, wsX2_readMoves_r16, wsX2_readMoves_r17, wsX2_readMoves_r18, wsX20, wsX10, wsX00, wsX60, wsX40, wsX80, wsX70]
theorem cbX2_readMoves_f : cbX2_readMoves.flatten = wsX2_readMoves := by
  unfold cbX2_readMoves wsX2_readMoves
  simp only [List.flatten_cons, List.flatten_nil, List.append_nil, List.append_assoc, List.cons_append, List.nil_append]
def cbX2_openLine : List (List Cond) := [[.code yX2_openLine cX2_openLine 2 none], wsX2_openLine_r1, wsX2_openLine_r2, wsX20, wsX40, wsX10, wsX00]
theorem cbX2_openLine_f : cbX2_openLine.flatten = wsX2_openLine := by
  unfold cbX2_openLine wsX2_openLine
  simp only [List.flatten_cons, List.flatten_nil, List.append_nil, List.append_assoc, List.cons_append, List.nil_append]
def cbX2_readMove : List (List Cond) := [[.code yX2_readMove cX2_readMove 6 (some .boolean)], wsX2_readMove_r1, wsX2_readMove_r2, wsX2_readMove_r3, wsX2_readMove_r4, wsX2_readMove_r5, wsX2_readMove_r6, wsX2_readMove_r7, wsX2_readMove_r8, wsX2_readMove_r9, wsX2_readMove_r10, wsX2_readMove_r11, wsX2_readMove_r12, wsX2_readMove_r13, wsX2_readMove_r14, wsX2_readMove_r15, wsX2_readMove_r16, wsX2_readMove_r17, wsX20, wsX00, wsX60, wsX80, wsX70, wsX40, wsX10]
theorem cbX2_readMove_f : cbX2_readMove.flatten = wsX2_readMove := by
  unfold cbX2_readMove wsX2_readMove
  simp only [List.flatten_cons, List.flatten_nil, List.append_nil, List.append_assoc, List.cons_append, List.nil_append]
def cbX2_readNumber : List (List Cond) := [[.code yX2_readNumber cX2_readNumber 4 (some .boolean)], wsX2_readNumber_r1, wsX2_readNumber_r2, wsX20, wsX60]
theorem cbX2_readNumber_f : cbX2_readNumber.flatten = wsX2_readNumber := by
  unfold cbX2_readNumber wsX2_readNumber
  simp only [List.flatten_cons, List.flatten_nil, List.append_nil, List.append_assoc, List.cons_append, List.nil_append]
def cbX2_readMarks : List (List Cond) := [[.code yX2_readMarks cX2_readMarks 5 (some .boolean)], wsX2_readMarks_r1, wsX2_readMarks_r2, wsX20, wsX60, wsX40]
theorem cbX2_readMarks_f : cbX2_readMarks.flatten = wsX2_readMarks := by
  unfold cbX2_readMarks wsX2_readMarks
  simp only [List.flatten_cons, List.flatten_nil, List.append_nil, List.append_assoc, List.cons_append, List.nil_append]
def cbX2_readMark : List (List Cond) := [[.code yX2_readMark cX2_readMark 4 (some .boolean)], wsX2_readMark_r1, wsX2_readMark_r2, wsX20, wsX40, wsX60]
theorem cbX2_readMark_f : cbX2_readMark.flatten = wsX2_readMark := by
  unfold cbX2_readMark wsX2_readMark
  simp only [List.flatten_cons, List.flatten_nil, List.append_nil, List.append_assoc, List.cons_append, List.nil_append]
def cbX2_resultHere : List (List Cond) := [[.code yX2_resultHere cX2_resultHere 2 (some .int)], wsX2_resultHere_r1, wsX2_resultHere_r2, wsX2_resultHere_r3, wsX20, wsX60]
theorem cbX2_resultHere_f : cbX2_resultHere.flatten = wsX2_resultHere := by
  unfold cbX2_resultHere wsX2_resultHere
  simp only [List.flatten_cons, List.flatten_nil, List.append_nil, List.append_assoc, List.cons_append, List.nil_append]
def cbX2_readEnd : List (List Cond) := [[.code yX2_readEnd cX2_readEnd 2 (some .boolean)], wsX2_readEnd_r1, wsX2_readEnd_r2, wsX2_readEnd_r3, wsX2_readEnd_r4, wsX2_readEnd_r5, wsX20, wsX10, wsX60, wsX100]
theorem cbX2_readEnd_f : cbX2_readEnd.flatten = wsX2_readEnd := by
  unfold cbX2_readEnd wsX2_readEnd
  simp only [List.flatten_cons, List.flatten_nil, List.append_nil, List.append_assoc, List.cons_append, List.nil_append]
def cbX3_init : List (List Cond) := [[.code yX3_init cX3_init 2 none], wsX3_init_r1, wsX3_init_r2, wsX90, wsX30, wsX00, wsX70]
theorem cbX3_init_f : cbX3_init.flatten = wsX3_init := by
  unfold cbX3_init wsX3_init
  simp only [List.flatten_cons, List.flatten_nil, List.append_nil, List.append_assoc, List.cons_append, List.nil_append]
def cbX3_putHead : List (List Cond) := [[.code yX3_putHead cX3_putHead 5 none], wsX3_putHead_r1, wsX3_putHead_r2, wsX3_putHead_r3, wsX3_putHead_r4, wsX3_putHead_r5, wsX3_putHead_r6, wsX10, wsX100, wsX30, wsX60, wsX40, wsX00]
theorem cbX3_putHead_f : cbX3_putHead.flatten = wsX3_putHead := by
  unfold cbX3_putHead wsX3_putHead
  simp only [List.flatten_cons, List.flatten_nil, List.append_nil, List.append_assoc, List.cons_append, List.nil_append]
def cbX3_putEnd : List (List Cond) := [[.code yX3_putEnd cX3_putEnd 3 none], wsX3_putEnd_r1, wsX3_putEnd_r2, wsX3_putEnd_r3, wsX3_putEnd_r4, wsX10, wsX60]
theorem cbX3_putEnd_f : cbX3_putEnd.flatten = wsX3_putEnd := by
  unfold cbX3_putEnd wsX3_putEnd
  simp only [List.flatten_cons, List.flatten_nil, List.append_nil, List.append_assoc, List.cons_append, List.nil_append]
def cbX3_putRemark : List (List Cond) := [[.code yX3_putRemark cX3_putRemark 2 none], wsX3_putRemark_r1, wsX3_putRemark_r2, wsX40, wsX60]
theorem cbX3_putRemark_f : cbX3_putRemark.flatten = wsX3_putRemark := by
  unfold cbX3_putRemark wsX3_putRemark
  simp only [List.flatten_cons, List.flatten_nil, List.append_nil, List.append_assoc, List.cons_append, List.nil_append]
def cbX3_putLine : List (List Cond) := [[.code yX3_putLine cX3_putLine 12 none], wsX3_putLine_r1, wsX3_putLine_r2, wsX3_putLine_r3, wsX3_putLine_r4, wsX3_putLine_r5, wsX3_putLine_r6, wsX3_putLine_r7, wsX3_putLine_r8, wsX3_putLine_r9, wsX3_putLine_r10, wsX30, wsX40, wsX10, wsX00, wsX60, wsX90, wsX70]
theorem cbX3_putLine_f : cbX3_putLine.flatten = wsX3_putLine := by
  unfold cbX3_putLine wsX3_putLine
  simp only [List.flatten_cons, List.flatten_nil, List.append_nil, List.append_assoc, List.cons_append, List.nil_append]
def cbX3_putMove : List (List Cond) := [[.code yX3_putMove cX3_putMove 6 none], wsX3_putMove_r1, wsX3_putMove_r2, wsX3_putMove_r3, wsX3_putMove_r4, wsX3_putMove_r5, wsX3_putMove_r6, wsX3_putMove_r7, wsX3_putMove_r8, wsX3_putMove_r9, wsX00, wsX30, wsX40, wsX60, wsX90, wsX70]
theorem cbX3_putMove_f : cbX3_putMove.flatten = wsX3_putMove := by
  unfold cbX3_putMove wsX3_putMove
  simp only [List.flatten_cons, List.flatten_nil, List.append_nil, List.append_assoc, List.cons_append, List.nil_append]
def cbX5_readInto : List (List Cond) := [[.code yX5_readInto cX5_readInto 3 (some .boolean)], wsX5_readInto_r1, wsX5_readInto_r2, wsX5_readInto_r3, wsX5_readInto_r4, wsX5_readInto_r5, wsX5_readInto_r6, wsX5_readInto_r7, wsX5_readInto_r8, wsX5_readInto_r9, wsX5_readInto_r10, wsX50, wsX00, wsX60]
theorem cbX5_readInto_f : cbX5_readInto.flatten = wsX5_readInto := by
  unfold cbX5_readInto wsX5_readInto
  simp only [List.flatten_cons, List.flatten_nil, List.append_nil, List.append_assoc, List.cons_append, List.nil_append]
def cbX5_readMen : List (List Cond) := [[.code yX5_readMen cX5_readMen 3 (some .boolean)], wsX5_readMen_r1, wsX5_readMen_r2, wsX5_readMen_r3, wsX5_readMen_r4, wsX5_readMen_r5, wsX50, wsX60, wsX00]
theorem cbX5_readMen_f : cbX5_readMen.flatten = wsX5_readMen := by
  unfold cbX5_readMen wsX5_readMen
  simp only [List.flatten_cons, List.flatten_nil, List.append_nil, List.append_assoc, List.cons_append, List.nil_append]
def cbX5_readRank : List (List Cond) := [[.code yX5_readRank cX5_readRank 8 (some .boolean)], wsX5_readRank_r1, wsX5_readRank_r2, wsX5_readRank_r3, wsX5_readRank_r4, wsX5_readRank_r5, wsX50, wsX60, wsX00]
theorem cbX5_readRank_f : cbX5_readRank.flatten = wsX5_readRank := by
  unfold cbX5_readRank wsX5_readRank
  simp only [List.flatten_cons, List.flatten_nil, List.append_nil, List.append_assoc, List.cons_append, List.nil_append]
def cbX5_readRights : List (List Cond) := [[.code yX5_readRights cX5_readRights 3 (some .boolean)], wsX5_readRights_r1, wsX5_readRights_r2, wsX5_readRights_r3, wsX00, wsX50, wsX60]
theorem cbX5_readRights_f : cbX5_readRights.flatten = wsX5_readRights := by
  unfold cbX5_readRights wsX5_readRights
  simp only [List.flatten_cons, List.flatten_nil, List.append_nil, List.append_assoc, List.cons_append, List.nil_append]
def cbX6_putText : List (List Cond) := [[.code yX6_putText cX6_putText 3 none], wsX6_putText_r1, wsX6_putText_r2, wsX6_putText_r3, wsX60]
theorem cbX6_putText_f : cbX6_putText.flatten = wsX6_putText := by
  unfold cbX6_putText wsX6_putText
  simp only [List.flatten_cons, List.flatten_nil, List.append_nil, List.append_assoc, List.cons_append, List.nil_append]
def cbX6_holds : List (List Cond) := [[.code yX6_holds cX6_holds 4 (some .boolean)], wsX6_holds_r1, wsX6_holds_r2, wsX6_holds_r3, wsX60]
theorem cbX6_holds_f : cbX6_holds.flatten = wsX6_holds := by
  unfold cbX6_holds wsX6_holds
  simp only [List.flatten_cons, List.flatten_nil, List.append_nil, List.append_assoc, List.cons_append, List.nil_append]
def cbX6_is : List (List Cond) := [[.code yX6_is cX6_is 2 (some .boolean)], wsX6_is_r1, wsX6_is_r2, wsX6_is_r3, wsX60]
theorem cbX6_is_f : cbX6_is.flatten = wsX6_is := by
  unfold cbX6_is wsX6_is
  simp only [List.flatten_cons, List.flatten_nil, List.append_nil, List.append_assoc, List.cons_append, List.nil_append]
def cbX7_isSafe : List (List Cond) := [[.code yX7_isSafe cX7_isSafe 6 (some .boolean)], wsX7_isSafe_r1, wsX7_isSafe_r2, wsX7_isSafe_r3, wsX00, wsX70]
theorem cbX7_isSafe_f : cbX7_isSafe.flatten = wsX7_isSafe := by
  unfold cbX7_isSafe wsX7_isSafe
  simp only [List.flatten_cons, List.flatten_nil, List.append_nil, List.append_assoc, List.cons_append, List.nil_append]
def cbX7_isLegal : List (List Cond) := [[.code yX7_isLegal cX7_isLegal 6 (some .boolean)], wsX7_isLegal_r1, wsX7_isLegal_r2, wsX7_isLegal_r3, wsX7_isLegal_r4, wsX00, wsX70]
theorem cbX7_isLegal_f : cbX7_isLegal.flatten = wsX7_isLegal := by
  unfold cbX7_isLegal wsX7_isLegal
  simp only [List.flatten_cons, List.flatten_nil, List.append_nil, List.append_assoc, List.cons_append, List.nil_append]
def cbX7_legalMove : List (List Cond) := [[.code yX7_legalMove cX7_legalMove 8 (some .int)], wsX7_legalMove_r1, wsX7_legalMove_r2, wsX7_legalMove_r3, wsX7_legalMove_r4, wsX00, wsX70]
theorem cbX7_legalMove_f : cbX7_legalMove.flatten = wsX7_legalMove := by
  unfold cbX7_legalMove wsX7_legalMove
  simp only [List.flatten_cons, List.flatten_nil, List.append_nil, List.append_assoc, List.cons_append, List.nil_append]
def cbX7_checkSign : List (List Cond) := [[.code yX7_checkSign cX7_checkSign 5 (some .char)], wsX7_checkSign_r1, wsX7_checkSign_r2, wsX7_checkSign_r3, wsX70, wsX00]
theorem cbX7_checkSign_f : cbX7_checkSign.flatten = wsX7_checkSign := by
  unfold cbX7_checkSign wsX7_checkSign
  simp only [List.flatten_cons, List.flatten_nil, List.append_nil, List.append_assoc, List.cons_append, List.nil_append]
def cbX8_init : List (List Cond) := [[.code yX8_init cX8_init 1 none], wsX8_init_r1, wsX8_init_r2, wsX70, wsX80, wsX60, wsX00]
theorem cbX8_init_f : cbX8_init.flatten = wsX8_init := by
  unfold cbX8_init wsX8_init
  simp only [List.flatten_cons, List.flatten_nil, List.append_nil, List.append_assoc, List.cons_append, List.nil_append]
def cbX8_matched : List (List Cond) := [[.code yX8_matched cX8_matched 8 (some .int)], wsX8_matched_r1, wsX8_matched_r2, wsX8_matched_r3, wsX8_matched_r4, wsX8_matched_r5, wsX8_matched_r6, wsX8_matched_r7, wsX8_matched_r8, wsX8_matched_r9, wsX8_matched_r10, wsX8_matched_r11, wsX8_matched_r12, wsX80, wsX60, wsX00, wsX70]
theorem cbX8_matched_f : cbX8_matched.flatten = wsX8_matched := by
  unfold cbX8_matched wsX8_matched
  simp only [List.flatten_cons, List.flatten_nil, List.append_nil, List.append_assoc, List.cons_append, List.nil_append]
def cbX8_copyWhole : List (List Cond) := [[.code yX8_copyWhole cX8_copyWhole 5 none], wsX8_copyWhole_r1, wsX8_copyWhole_r2, wsX80, wsX60]
theorem cbX8_copyWhole_f : cbX8_copyWhole.flatten = wsX8_copyWhole := by
  unfold cbX8_copyWhole wsX8_copyWhole
  simp only [List.flatten_cons, List.flatten_nil, List.append_nil, List.append_assoc, List.cons_append, List.nil_append]
def cbX8_parse : List (List Cond) := [[.code yX8_parse cX8_parse 3 (some .boolean)], wsX8_parse_r1, wsX8_parse_r2, wsX8_parse_r3, wsX8_parse_r4, wsX8_parse_r5, wsX8_parse_r6, wsX8_parse_r7, wsX80, wsX60]
theorem cbX8_parse_f : cbX8_parse.flatten = wsX8_parse := by
  unfold cbX8_parse wsX8_parse
  simp only [List.flatten_cons, List.flatten_nil, List.append_nil, List.append_assoc, List.cons_append, List.nil_append]
def cbX8_gather : List (List Cond) := [[.code yX8_gather cX8_gather 6 none], wsX8_gather_r1, wsX8_gather_r2, wsX8_gather_r3, wsX8_gather_r4, wsX8_gather_r5, wsX80, wsX00, wsX70]
theorem cbX8_gather_f : cbX8_gather.flatten = wsX8_gather := by
  unfold cbX8_gather wsX8_gather
  simp only [List.flatten_cons, List.flatten_nil, List.append_nil, List.append_assoc, List.cons_append, List.nil_append]
def cbX9_putSigns : List (List Cond) := [[.code yX9_putSigns cX9_putSigns 7 none], wsX9_putSigns_r1, wsX9_putSigns_r2, wsX9_putSigns_r3, wsX9_putSigns_r4, wsX9_putSigns_r5, wsX9_putSigns_r6, wsX9_putSigns_r7, wsX90, wsX00, wsX60, wsX70]
theorem cbX9_putSigns_f : cbX9_putSigns.flatten = wsX9_putSigns := by
  unfold cbX9_putSigns wsX9_putSigns
  simp only [List.flatten_cons, List.flatten_nil, List.append_nil, List.append_assoc, List.cons_append, List.nil_append]
def cbX9_putApart : List (List Cond) := [[.code yX9_putApart cX9_putApart 9 none], wsX9_putApart_r1, wsX9_putApart_r2, wsX9_putApart_r3, wsX9_putApart_r4, wsX00, wsX90, wsX70, wsX60]
theorem cbX9_putApart_f : cbX9_putApart.flatten = wsX9_putApart := by
  unfold cbX9_putApart wsX9_putApart
  simp only [List.flatten_cons, List.flatten_nil, List.append_nil, List.append_assoc, List.cons_append, List.nil_append]
def cbX11_init : List (List Cond) := [[.code yX11_init cX11_init 1 none], wsX11_init_r1, wsX11_init_r2, wsX11_init_r3, wsX11_init_r4, wsX11_init_r5, wsX11_init_r6, wsX11_init_r7, wsX60, wsX110, wsX70, wsX80, wsX90, wsX20, wsX30, wsX10, wsX00, wsX50, wsX40]
theorem cbX11_init_f : cbX11_init.flatten = wsX11_init := by
  unfold cbX11_init wsX11_init
  simp only [List.flatten_cons, List.flatten_nil, List.append_nil, List.append_assoc, List.cons_append, List.nil_append]
def cbX11_read : List (List Cond) := [[.code yX11_read cX11_read 1 (some .int)], wsX11_read_r1, wsX11_read_r2, wsX11_read_r3, wsX11_read_r4, wsX11_read_r5, wsX11_read_r6, wsX11_read_r7, wsX11_read_r8, wsX11_read_r9, wsX11_read_r10, wsX11_read_r11, wsX11_read_r12, wsX11_read_r13, wsX11_read_r14, wsX11_read_r15, wsX11_read_r16, wsX11_read_r17, wsX11_read_r18, wsX11_read_r19, wsX11_read_r20, wsX11_read_r21, wsX11_read_r22, wsX11_read_r23, wsX11_read_r24, wsX11_read_r25, wsX11_read_r26, wsX110, wsX20, wsX10, wsX00, wsX40, wsX60, wsX100, wsX50, wsX80, wsX70]
theorem cbX11_read_f : cbX11_read.flatten = wsX11_read := by
  unfold cbX11_read wsX11_read
  simp only [List.flatten_cons, List.flatten_nil, List.append_nil, List.append_assoc, List.cons_append, List.nil_append]
def cbX11_find : List (List Cond) := [[.code yX11_find cX11_find 1 (some .int)], wsX11_find_r1, wsX11_find_r2, wsX11_find_r3, wsX11_find_r4, wsX11_find_r5, wsX11_find_r6, wsX11_find_r7, wsX11_find_r8, wsX11_find_r9, wsX11_find_r10, wsX11_find_r11, wsX11_find_r12, wsX110, wsX60, wsX80, wsX00, wsX70]
theorem cbX11_find_f : cbX11_find.flatten = wsX11_find := by
  unfold cbX11_find wsX11_find
  simp only [List.flatten_cons, List.flatten_nil, List.append_nil, List.append_assoc, List.cons_append, List.nil_append]
def cbX11_write : List (List Cond) := [[.code yX11_write cX11_write 1 (some .int)], wsX11_write_r1, wsX11_write_r2, wsX11_write_r3, wsX11_write_r4, wsX11_write_r5, wsX11_write_r6, wsX11_write_r7, wsX11_write_r8, wsX11_write_r9, wsX11_write_r10, wsX11_write_r11, wsX11_write_r12, wsX110, wsX40, wsX60, wsX10, wsX100, wsX30, wsX00, wsX90, wsX70]
theorem cbX11_write_f : cbX11_write.flatten = wsX11_write := by
  unfold cbX11_write wsX11_write
  simp only [List.flatten_cons, List.flatten_nil, List.append_nil, List.append_assoc, List.cons_append, List.nil_append]
def cbX11_move : List (List Cond) := [[.code yX11_move cX11_move 2 (some .int)], wsX11_move_r1, wsX11_move_r2, wsX11_move_r3, wsX11_move_r4, wsX110, wsX00, wsX70]
theorem cbX11_move_f : cbX11_move.flatten = wsX11_move := by
  unfold cbX11_move wsX11_move
  simp only [List.flatten_cons, List.flatten_nil, List.append_nil, List.append_assoc, List.cons_append, List.nil_append]
def cbX11_kindOf : List (List Cond) := [[.code yX11_kindOf cX11_kindOf 1 (some .int)], wsX11_kindOf_r1, wsX11_kindOf_r2, wsX11_kindOf_r3, wsX11_kindOf_r4]
theorem cbX11_kindOf_f : cbX11_kindOf.flatten = wsX11_kindOf := by
  unfold cbX11_kindOf wsX11_kindOf
  simp only [List.flatten_cons, List.flatten_nil, List.append_nil, List.append_assoc, List.cons_append, List.nil_append]
