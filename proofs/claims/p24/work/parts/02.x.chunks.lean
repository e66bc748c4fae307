theorem goodIn_r2 {big : List Cond} {cb : List (List Cond)} (hcb : cb.flatten = big) (ws : List Cond) (ps : List (Nat × Nat)) (hp : ws = ps.filterMap (fun p => match cb[p.1]? with | none => none | some l => l[p.2]?)) (h : ws.all goodWord = true) : GoodIn big ws := by
  intro w hw
  have h1 := List.all_eq_true.mp h w hw
  rw [hp] at hw
  obtain ⟨p, -, hi⟩ := List.mem_filterMap.mp hw
  refine ⟨?_, good_of_word h1⟩
  rw [← hcb]
  cases e : cb[p.1]? with
  | none => rw [e] at hi; cases hi
  | some l =>
    rw [e] at hi
    exact List.mem_flatten.mpr ⟨l, List.mem_of_getElem? e, List.mem_of_getElem? hi⟩

noncomputable def cbX12_init : List (List Cond) := [[.code yX12_init cX12_init 1 none], wsX12_init_r1, wsX12_init_r2, wsX12_init_r3, wsX12_init_r4, wsX12_init_r5, wsX12_init_r6, wsX120]
theorem cbX12_init_f : cbX12_init.flatten = wsX12_init := by
  unfold cbX12_init wsX12_init
  simp only [List.flatten_cons, List.flatten_nil, List.append_nil, List.append_assoc, List.cons_append, List.nil_append]
noncomputable def cbX12_make : List (List Cond) := [[.code yX12_make cX12_make 8 none], wsX12_make_r1, wsX12_make_r2, wsX120]
theorem cbX12_make_f : cbX12_make.flatten = wsX12_make := by
  unfold cbX12_make wsX12_make
  simp only [List.flatten_cons, List.flatten_nil, List.append_nil, List.append_assoc, List.cons_append, List.nil_append]
noncomputable def cbX12_isSafe : List (List Cond) := [[.code yX12_isSafe cX12_isSafe 3 (some .boolean)], wsX12_isSafe_r1, wsX12_isSafe_r2, wsX12_isSafe_r3, wsX120]
theorem cbX12_isSafe_f : cbX12_isSafe.flatten = wsX12_isSafe := by
  unfold cbX12_isSafe wsX12_isSafe
  simp only [List.flatten_cons, List.flatten_nil, List.append_nil, List.append_assoc, List.cons_append, List.nil_append]
noncomputable def cbX12_goes : List (List Cond) := [[.code yX12_goes cX12_goes 11 (some .boolean)], wsX12_goes_r1, wsX12_goes_r2, wsX120]
theorem cbX12_goes_f : cbX12_goes.flatten = wsX12_goes := by
  unfold cbX12_goes wsX12_goes
  simp only [List.flatten_cons, List.flatten_nil, List.append_nil, List.append_assoc, List.cons_append, List.nil_append]
noncomputable def cbX12_findMoves : List (List Cond) := [[.code yX12_findMoves cX12_findMoves 6 none], wsX12_findMoves_r1, wsX12_findMoves_r2, wsX12_findMoves_r3, wsX12_findMoves_r4, wsX120]
theorem cbX12_findMoves_f : cbX12_findMoves.flatten = wsX12_findMoves := by
  unfold cbX12_findMoves wsX12_findMoves
  simp only [List.flatten_cons, List.flatten_nil, List.append_nil, List.append_assoc, List.cons_append, List.nil_append]
noncomputable def cbX12_place : List (List Cond) := [[.code yX12_place cX12_place 5 none], wsX12_place_r1, wsX12_place_r2, wsX12_place_r3, wsX12_place_r4, wsX120]
theorem cbX12_place_f : cbX12_place.flatten = wsX12_place := by
  unfold cbX12_place wsX12_place
  simp only [List.flatten_cons, List.flatten_nil, List.append_nil, List.append_assoc, List.cons_append, List.nil_append]
noncomputable def cbX12_behind : List (List Cond) := [[.code yX12_behind cX12_behind 5 (some .char)], wsX12_behind_r1, wsX12_behind_r2, wsX12_behind_r3, wsX12_behind_r4, wsX120]
theorem cbX12_behind_f : cbX12_behind.flatten = wsX12_behind := by
  unfold cbX12_behind wsX12_behind
  simp only [List.flatten_cons, List.flatten_nil, List.append_nil, List.append_assoc, List.cons_append, List.nil_append]
noncomputable def cbX12_isSafeOnce : List (List Cond) := [[.code yX12_isSafeOnce cX12_isSafeOnce 10 (some .boolean)], wsX12_isSafeOnce_r1, wsX12_isSafeOnce_r2, wsX120]
theorem cbX12_isSafeOnce_f : cbX12_isSafeOnce.flatten = wsX12_isSafeOnce := by
  unfold cbX12_isSafeOnce wsX12_isSafeOnce
  simp only [List.flatten_cons, List.flatten_nil, List.append_nil, List.append_assoc, List.cons_append, List.nil_append]
noncomputable def cbX12_spellWhole : List (List Cond) := [[.code yX12_spellWhole cX12_spellWhole 3 none], wsX12_spellWhole_r1, wsX12_spellWhole_r2, wsX12_spellWhole_r3, wsX12_spellWhole_r4, wsX12_spellWhole_r5, wsX120]
theorem cbX12_spellWhole_f : cbX12_spellWhole.flatten = wsX12_spellWhole := by
  unfold cbX12_spellWhole wsX12_spellWhole
  simp only [List.flatten_cons, List.flatten_nil, List.append_nil, List.append_assoc, List.cons_append, List.nil_append]
noncomputable def cbX12_fits : List (List Cond) := [[.code yX12_fits cX12_fits 10 (some .boolean)], wsX12_fits_r1, wsX12_fits_r2, wsX12_fits_r3, wsX12_fits_r4, wsX12_fits_r5, wsX120]
theorem cbX12_fits_f : cbX12_fits.flatten = wsX12_fits := by
  unfold cbX12_fits wsX12_fits
  simp only [List.flatten_cons, List.flatten_nil, List.append_nil, List.append_assoc, List.cons_append, List.nil_append]
noncomputable def cbX12_understood : List (List Cond) := [[.code yX12_understood cX12_understood 6 (some .int)], wsX12_understood_r1, wsX12_understood_r2, wsX12_understood_r3, wsX12_understood_r4, wsX12_understood_r5, wsX120]
theorem cbX12_understood_f : cbX12_understood.flatten = wsX12_understood := by
  unfold cbX12_understood wsX12_understood
  simp only [List.flatten_cons, List.flatten_nil, List.append_nil, List.append_assoc, List.cons_append, List.nil_append]
noncomputable def cbX12_mayStand : List (List Cond) := [[.code yX12_mayStand cX12_mayStand 5 (some .boolean)], wsX12_mayStand_r1, wsX12_mayStand_r2, wsX120]
theorem cbX12_mayStand_f : cbX12_mayStand.flatten = wsX12_mayStand := by
  unfold cbX12_mayStand wsX12_mayStand
  simp only [List.flatten_cons, List.flatten_nil, List.append_nil, List.append_assoc, List.cons_append, List.nil_append]
noncomputable def cbX12_readPosition : List (List Cond) := [[.code yX12_readPosition cX12_readPosition 5 (some .boolean)], wsX12_readPosition_r1, wsX12_readPosition_r2, wsX12_readPosition_r3, wsX120]
theorem cbX12_readPosition_f : cbX12_readPosition.flatten = wsX12_readPosition := by
  unfold cbX12_readPosition wsX12_readPosition
  simp only [List.flatten_cons, List.flatten_nil, List.append_nil, List.append_assoc, List.cons_append, List.nil_append]
noncomputable def cbX12_readTag : List (List Cond) := [[.code yX12_readTag cX12_readTag 7 (some .int)], wsX12_readTag_r1, wsX12_readTag_r2, wsX12_readTag_r3, wsX12_readTag_r4, wsX12_readTag_r5, wsX120]
theorem cbX12_readTag_f : cbX12_readTag.flatten = wsX12_readTag := by
  unfold cbX12_readTag wsX12_readTag
  simp only [List.flatten_cons, List.flatten_nil, List.append_nil, List.append_assoc, List.cons_append, List.nil_append]
noncomputable def cbX12_readMove : List (List Cond) := [[.code yX12_readMove cX12_readMove 5 (some .int)], wsX12_readMove_r1, wsX12_readMove_r2, wsX12_readMove_r3, wsX12_readMove_r4, wsX12_readMove_r5, wsX12_readMove_r6, wsX12_readMove_r7, wsX120]
theorem cbX12_readMove_f : cbX12_readMove.flatten = wsX12_readMove := by
  unfold cbX12_readMove wsX12_readMove
  simp only [List.flatten_cons, List.flatten_nil, List.append_nil, List.append_assoc, List.cons_append, List.nil_append]
noncomputable def cbX12_readLine : List (List Cond) := [[.code yX12_readLine cX12_readLine 8 (some .int)], wsX12_readLine_r1, wsX12_readLine_r2, wsX12_readLine_r3, wsX12_readLine_r4, wsX12_readLine_r5, wsX12_readLine_r6, wsX12_readLine_r7, wsX12_readLine_r8, wsX12_readLine_r9, wsX120]
theorem cbX12_readLine_f : cbX12_readLine.flatten = wsX12_readLine := by
  unfold cbX12_readLine wsX12_readLine
  simp only [List.flatten_cons, List.flatten_nil, List.append_nil, List.append_assoc, List.cons_append, List.nil_append]
noncomputable def cbX12_readGame : List (List Cond) := [[.code yX12_readGame cX12_readGame 5 (some .int)], wsX12_readGame_r1, wsX12_readGame_r2, wsX12_readGame_r3, wsX12_readGame_r4, wsX12_readGame_r5, wsX12_readGame_r6, wsX12_readGame_r7, wsX12_readGame_r8, wsX12_readGame_r9, wsX12_readGame_r10, wsX12_readGame_r11, wsX12_readGame_r12, wsX120]
theorem cbX12_readGame_f : cbX12_readGame.flatten = wsX12_readGame := by
  unfold cbX12_readGame wsX12_readGame
  simp only [List.flatten_cons, List.flatten_nil, List.append_nil, List.append_assoc, List.cons_append, List.nil_append]
noncomputable def cbX12_read : List (List Cond) := [[.code yX12_read cX12_read 3 (some .int)], wsX12_read_r1, wsX12_read_r2, wsX12_read_r3, wsX12_read_r4, wsX12_read_r5, wsX12_read_r6, wsX12_read_r7, wsX12_read_r8, wsX12_read_r9, wsX12_read_r10, wsX12_read_r11, wsX12_read_r12, wsX12_read_r13, wsX120]
theorem cbX12_read_f : cbX12_read.flatten = wsX12_read := by
  unfold cbX12_read wsX12_read
  simp only [List.flatten_cons, List.flatten_nil, List.append_nil, List.append_assoc, List.cons_append, List.nil_append]
noncomputable def cbX12_find : List (List Cond) := [[.code yX12_find cX12_find 1 (some .int)], wsX12_find_r1, wsX12_find_r2, wsX12_find_r3, wsX12_find_r4, wsX12_find_r5, wsX120]
theorem cbX12_find_f : cbX12_find.flatten = wsX12_find := by
  unfold cbX12_find wsX12_find
  simp only [List.flatten_cons, List.flatten_nil, List.append_nil, List.append_assoc, List.cons_append, List.nil_append]
noncomputable def cbX12_sayMove : List (List Cond) := [[.code yX12_sayMove cX12_sayMove 5 none], wsX12_sayMove_r1, wsX12_sayMove_r2, wsX12_sayMove_r3, wsX12_sayMove_r4, wsX12_sayMove_r5, wsX12_sayMove_r6, wsX12_sayMove_r7, wsX120]
theorem cbX12_sayMove_f : cbX12_sayMove.flatten = wsX12_sayMove := by
  unfold cbX12_sayMove wsX12_sayMove
  simp only [List.flatten_cons, List.flatten_nil, List.append_nil, List.append_assoc, List.cons_append, List.nil_append]
noncomputable def cbX12_sayLine : List (List Cond) := [[.code yX12_sayLine cX12_sayLine 8 none], wsX12_sayLine_r1, wsX12_sayLine_r2, wsX12_sayLine_r3, wsX12_sayLine_r4, wsX12_sayLine_r5, wsX12_sayLine_r6, wsX12_sayLine_r7, wsX120]
theorem cbX12_sayLine_f : cbX12_sayLine.flatten = wsX12_sayLine := by
  unfold cbX12_sayLine wsX12_sayLine
  simp only [List.flatten_cons, List.flatten_nil, List.append_nil, List.append_assoc, List.cons_append, List.nil_append]
noncomputable def cbX12_write : List (List Cond) := [[.code yX12_write cX12_write 4 (some .int)], wsX12_write_r1, wsX12_write_r2, wsX12_write_r3, wsX12_write_r4, wsX12_write_r5, wsX12_write_r6, wsX12_write_r7, wsX12_write_r8, wsX120]
theorem cbX12_write_f : cbX12_write.flatten = wsX12_write := by
  unfold cbX12_write wsX12_write
  simp only [List.flatten_cons, List.flatten_nil, List.append_nil, List.append_assoc, List.cons_append, List.nil_append]
noncomputable def cbX12_signs : List (List Cond) := [[.code yX12_signs cX12_signs 3 (some .int)], wsX12_signs_r1, wsX12_signs_r2, wsX12_signs_r3, wsX12_signs_r4, wsX12_signs_r5, wsX120]
theorem cbX12_signs_f : cbX12_signs.flatten = wsX12_signs := by
  unfold cbX12_signs wsX12_signs
  simp only [List.flatten_cons, List.flatten_nil, List.append_nil, List.append_assoc, List.cons_append, List.nil_append]
noncomputable def cbX12_go : List (List Cond) := [[.code yX12_go cX12_go 2 none], wsX12_go_r1, wsX12_go_r2, wsX12_go_r3, wsX12_go_r4, wsX12_go_r5, wsX120]
theorem cbX12_go_f : cbX12_go.flatten = wsX12_go := by
  unfold cbX12_go wsX12_go
  simp only [List.flatten_cons, List.flatten_nil, List.append_nil, List.append_assoc, List.cons_append, List.nil_append]
noncomputable def cbX12_add : List (List Cond) := [[.code yX12_add cX12_add 4 (some .int)], wsX12_add_r1, wsX12_add_r2, wsX12_add_r3, wsX12_add_r4, wsX12_add_r5, wsX12_add_r6, wsX120]
theorem cbX12_add_f : cbX12_add.flatten = wsX12_add := by
  unfold cbX12_add wsX12_add
  simp only [List.flatten_cons, List.flatten_nil, List.append_nil, List.append_assoc, List.cons_append, List.nil_append]
