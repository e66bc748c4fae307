noncomputable def zNW : List (String × Nat × MethodName × String) := [("MoveTexts", 9, ⟨"MoveTexts$Row", "<init>", "()V"⟩, "MoveTexts"), ("MoveTexts", 21, ⟨"MoveTexts$Rules", "<init>", "()V"⟩, "MoveTexts"), ("MoveTexts$Rules", 11, ⟨"MoveTexts$Board", "<init>", "()V"⟩, "MoveTexts"), ("MoveTexts", 28, ⟨"MoveTexts$SignReader", "<init>", "()V"⟩, "MoveTexts"), ("MoveTexts$SignReader", 11, ⟨"MoveTexts$Rules", "<init>", "()V"⟩, "MoveTexts"), ("MoveTexts$SignReader", 20, ⟨"MoveTexts$Row", "<init>", "()V"⟩, "MoveTexts"), ("MoveTexts", 35, ⟨"MoveTexts$SignWriter", "<init>", "()V"⟩, "MoveTexts"), ("MoveTexts$SignWriter", 11, ⟨"MoveTexts$Rules", "<init>", "()V"⟩, "MoveTexts"), ("MoveTexts$GameReader", 11, ⟨"MoveTexts$SignReader", "<init>", "()V"⟩, "MoveTexts"), ("MoveTexts$GameReader", 20, ⟨"MoveTexts$PositionReader", "<init>", "()V"⟩, "MoveTexts"), ("MoveTexts$PositionReader", 11, ⟨"MoveTexts$Row", "<init>", "()V"⟩, "MoveTexts"), ("MoveTexts$GameReader", 27, ⟨"MoveTexts$Row", "<init>", "()V"⟩, "MoveTexts"), ("MoveTexts$Game", 11, ⟨"MoveTexts$Board", "<init>", "()V"⟩, "MoveTexts"), ("MoveTexts$Game", 20, ⟨"MoveTexts$Node", "<init>", "()V"⟩, "MoveTexts"), ("MoveTexts$Node", 32, ⟨"MoveTexts$Row", "<init>", "()V"⟩, "MoveTexts"), ("MoveTexts$GameReader", 68, ⟨"MoveTexts$Board", "<init>", "()V"⟩, "MoveTexts"), ("MoveTexts$GameWriter", 11, ⟨"MoveTexts$SignWriter", "<init>", "()V"⟩, "MoveTexts"), ("MoveTexts$GameWriter", 24, ⟨"MoveTexts$Board", "<init>", "()V"⟩, "MoveTexts"), ("MoveTexts", 67, ⟨"MoveTexts$Board", "<init>", "()V"⟩, "MoveTexts"), ("MoveTexts$GameReader", 132, ⟨"MoveTexts", "isLetter", "(C)Z"⟩, "MoveTexts"), ("MoveTexts$GameReader", 136, ⟨"MoveTexts", "isDigit", "(C)Z"⟩, "MoveTexts"), ("MoveTexts$Game", 84, ⟨"MoveTexts$Tag", "<init>", "()V"⟩, "MoveTexts"), ("MoveTexts$Tag", 9, ⟨"MoveTexts$Row", "<init>", "()V"⟩, "MoveTexts"), ("MoveTexts$PositionReader", 70, ⟨"MoveTexts", "isRank", "(C)Z"⟩, "MoveTexts"), ("MoveTexts$PositionReader", 73, ⟨"MoveTexts", "isLetter", "(C)Z"⟩, "MoveTexts"), ("MoveTexts$PositionReader", 102, ⟨"MoveTexts", "squareOf", "(CC)I"⟩, "MoveTexts"), ("MoveTexts$PositionReader", 109, ⟨"MoveTexts", "isDigit", "(C)Z"⟩, "MoveTexts"), ("MoveTexts$GameReader", 224, ⟨"MoveTexts", "resultSign", "(I)Ljava/lang/String;"⟩, "MoveTexts"), ("MoveTexts$SignReader", 89, ⟨"MoveTexts", "kindOf", "(C)I"⟩, "MoveTexts"), ("MoveTexts$SignReader", 96, ⟨"MoveTexts", "squareOf", "(CC)I"⟩, "MoveTexts"), ("MoveTexts$SignReader", 113, ⟨"MoveTexts", "isFile", "(C)Z"⟩, "MoveTexts"), ("MoveTexts$SignReader", 117, ⟨"MoveTexts", "isRank", "(C)Z"⟩, "MoveTexts"), ("MoveTexts$Game", 111, ⟨"MoveTexts", "resultSign", "(I)Ljava/lang/String;"⟩, "MoveTexts"), ("MoveTexts", 133, ⟨"MoveTexts$GameWriter", "putLine", "(LMoveTexts$Game;IILMoveTexts$Row;)V"⟩, "MoveTexts"), ("MoveTexts$SignWriter", 41, ⟨"MoveTexts", "letterOf", "(I)C"⟩, "MoveTexts"), ("MoveTexts$SignWriter", 53, ⟨"MoveTexts", "fileLetter", "(I)C"⟩, "MoveTexts"), ("MoveTexts$SignWriter", 56, ⟨"MoveTexts", "rankDigit", "(I)C"⟩, "MoveTexts"), ("MoveTexts$GameWriter", 95, ⟨"MoveTexts", "resultSign", "(I)Ljava/lang/String;"⟩, "MoveTexts")]
noncomputable def zSb : List (List Int32) := [[70, 69, 78], [80, 78, 66, 82, 81, 75, 32, 32, 112, 110, 98, 114, 113, 107], [75, 81, 107, 113], [49, 45, 48], [48, 45, 49], [49, 47, 50, 45, 49, 47, 50], [42], [79, 45, 79], [79, 45, 79, 45, 79], [80, 78, 66, 82, 81, 75], [82, 101, 115, 117, 108, 116], [32, 34], [34, 93, 10], [46], [46, 46, 46], [110, 111, 116, 32, 97, 32, 108, 101, 103, 97, 108, 32, 109, 111, 118, 101], [110, 111, 32, 115, 117, 99, 104, 32, 110, 111, 100, 101], [110, 111, 32, 115, 117, 99, 104, 32, 112, 97, 114, 116, 32, 111, 102, 32, 97, 32, 110, 111, 100, 101], [110, 111, 32, 115, 117, 99, 104, 32, 110, 111, 100, 101, 32, 111, 114, 32, 109, 97, 114, 107], [110, 111, 32, 115, 117, 99, 104, 32, 110, 111, 100, 101, 32, 111, 114, 32, 99, 104, 97, 114, 97, 99, 116, 101, 114], [110, 111, 32, 115, 117, 99, 104, 32, 115, 113, 117, 97, 114, 101], [110, 111, 32, 114, 111, 111, 109, 32, 102, 111, 114, 32, 97, 32, 110, 101, 119, 32, 110, 111, 100, 101], [110, 111, 116, 32, 97, 32, 109, 97, 114, 107], [110, 111, 32, 114, 111, 111, 109, 32, 102, 111, 114, 32, 97, 32, 109, 97, 114, 107], [110, 111, 116, 32, 97, 32, 114, 101, 109, 97, 114, 107], [110, 111, 100, 101, 32, 48, 32, 104, 97, 115, 32, 110, 111, 32, 111, 116, 104, 101, 114, 115, 32, 98, 101, 115, 105, 100, 101, 32, 105, 116], [97, 32, 110, 111, 100, 101, 32, 119, 111, 117, 108, 100, 32, 98, 101, 32, 116, 111, 111, 32, 100, 101, 101, 112], [110, 111, 116, 32, 97, 32, 114, 101, 115, 117, 108, 116], [110, 111, 32, 115, 117, 99, 104, 32, 116, 97, 103, 32, 111, 114, 32, 99, 104, 97, 114, 97, 99, 116, 101, 114]]
noncomputable def zSl : List Nat := [3, 14, 4, 3, 3, 7, 1, 3, 5, 6, 6, 2, 3, 1, 3, 16, 12, 22, 20, 25, 14, 22, 10, 18, 12, 30, 24, 12, 24]
noncomputable def zSn : Nat := 29
noncomputable def zSR : List (String × Nat × String × Nat) := [("MoveTexts$GameReader", 110, "FEN", 0), ("MoveTexts$PositionReader", 76, "PNBRQK  pnbrqk", 1), ("MoveTexts$PositionReader", 91, "KQkq", 2), ("MoveTexts", 295, "1-0", 3), ("MoveTexts", 297, "0-1", 4), ("MoveTexts", 299, "1/2-1/2", 5), ("MoveTexts", 301, "*", 6), ("MoveTexts$SignReader", 78, "O-O", 7), ("MoveTexts$SignReader", 84, "O-O-O", 8), ("MoveTexts", 286, "PNBRQK", 9), ("MoveTexts$Game", 105, "Result", 10), ("MoveTexts$GameWriter", 51, " \"", 11), ("MoveTexts$GameWriter", 64, "\"]\n", 12), ("MoveTexts$GameWriter", 138, ".", 13), ("MoveTexts$GameWriter", 140, "...", 14), ("MoveTexts$SignWriter", 24, "O-O", 7), ("MoveTexts$SignWriter", 26, "O-O-O", 8), ("MoveTexts", 146, "not a legal move", 15), ("MoveTexts", 167, "no such node", 16), ("MoveTexts", 185, "no such part of a node", 17), ("MoveTexts", 187, "no such node or mark", 18), ("MoveTexts", 193, "no such node or character", 19), ("MoveTexts", 195, "no such square", 20), ("MoveTexts", 214, "no room for a new node", 21), ("MoveTexts", 223, "not a mark", 22), ("MoveTexts", 227, "no room for a mark", 23), ("MoveTexts", 237, "not a remark", 24), ("MoveTexts", 242, "node 0 has no others beside it", 25), ("MoveTexts", 250, "a node would be too deep", 26), ("MoveTexts", 255, "not a result", 27), ("MoveTexts", 263, "no such tag or character", 28)]
noncomputable def zFR : List Int32 := [4, 2, 3, 5, 6, 3, 2, 4]
noncomputable def zfo (y : Nat → ClassId) : Option Nat := if y 60 = 0 then none else some (y 61)
/-- what stays the same of the world around: the links among the class's own nest -/
noncomputable def zAO : List String := ["MoveTexts$Board", "MoveTexts$Node", "MoveTexts$Tag"]
noncomputable def zE (y : Nat → ClassId) (A : Nat → Prop) (U : State) (H : Heap) : Prop := (∀ t ∈ zNW, va_Nw (.methodLinkNest t.1 t.2.1 t.2.2.1 t.2.2.2) U) ∧ vk_S zSn zSl zSb (fun i => y (100 + i)) (fun i => y (200 + i)) A U H ∧ (∀ t ∈ zSR, vk_R t.1 t.2.1 t.2.2.1 (y (100 + t.2.2.2)) U) ∧ va_Z "java/lang/String" "COMPACT_STRINGS" "Z" (.int 1) A U H ∧ va_Z "MoveTexts$Row" "NO_CHARS" "[C" (.ref (y 50)) A U H ∧ va_Z "MoveTexts$Board" "FIRST_RANK" "[I" (.ref (y 51)) A U H ∧ va_T .int (y 51) 8 (fun j => .int (zFR.getD j 0)) A U H ∧ va_Z "jdk/internal/util/Preconditions" "SIOOBE_FORMATTER" "Ljava/util/function/BiFunction;" (va_rf (zfo y)) A U H ∧ (∀ C ∈ zAO, va_AO C U) ∧ va_T .char (y 50) 0 (fun _ => .int 0) A U H
theorem m_nby {v : Int32} (hv : vp_nar .byte v = v) : narrow .byte (.int v) = .int v := by
  have h1 : narrow .byte (.int v) = .int (vp_nar .byte v) := rfl
  rw [h1, hv]
theorem zE_call {y : Nat → ClassId} {A0 A1 : Nat → Prop} {s U : State} {H : Heap} {locs : List Loc} (h : zE y A0 s s.heap) (hS : va_S A0 s.heap H locs) (hA : ∀ q, A1 q → A0 q) (hU : U.heap = H) (hW : s.WarmedH U.vm) : zE y A1 U U.heap := by
  obtain ⟨h1, h2, h3, h4, h5, h6, h7, h8, h9, h10⟩ := h
  rw [hU]
  exact ⟨fun t ht => (h1 t ht).warmM hW, ((h2.kept hS.2.1).narrow hA).moved hW.alike, fun t ht => (h3 t ht).warm hW, ((h4.kept hS.2.1).narrow hA).moved hW.alike, ((h5.kept hS.2.1).narrow hA).moved hW.alike, ((h6.kept hS.2.1).narrow hA).moved hW.alike, ((h7.kept hS.2.1).narrow hA).moved hW.alike, ((h8.kept hS.2.1).narrow hA).moved hW.alike, fun C hC => (h9 C hC).moved hW.alike, ((h10.kept hS.2.1).narrow hA).moved hW.alike⟩
theorem zE_blind {y : Nat → ClassId} {A : Nat → Prop} {U : State} {g : JFrame} {mk : MethodId} {a : Array Value} (h : zE y A U U.heap) : zE y A (U.calling g mk a) (U.calling g mk a).heap := by
  obtain ⟨h1, h2, h3, h4, h5, h6, h7, h8, h9, h10⟩ := h
  have hr : U.vm.Alike (U.calling g mk a).vm := Vm.Alike.refl U.vm
  exact ⟨fun t ht => va_Nw.same rfl rfl (h1 t ht), h2.moved hr, fun t ht => vk_R.same rfl (h3 t ht), h4.moved hr, h5.moved hr, h6.moved hr, h7.moved hr, h8.moved hr, fun C hC => (h9 C hC).moved hr, h10.moved hr⟩
noncomputable abbrev ZS : Type := List Nat × (Nat → Nat) × (Nat → Nat → Int32) × (Nat → Nat → Option Nat) × (Nat → Nat) × (Nat → Nat → Int32) × (Nat → Nat → Option Nat) × Nat × Nat × Nat
noncomputable abbrev zL (S : ZS) : List Nat := S.1
noncomputable abbrev zK (S : ZS) : Nat → Nat := S.2.1
noncomputable abbrev zI (S : ZS) : Nat → Nat → Int32 := S.2.2.1
noncomputable abbrev zP (S : ZS) : Nat → Nat → Option Nat := S.2.2.2.1
noncomputable abbrev zN (S : ZS) : Nat → Nat := S.2.2.2.2.1
noncomputable abbrev zA (S : ZS) : Nat → Nat → Int32 := S.2.2.2.2.2.1
noncomputable abbrev zB (S : ZS) : Nat → Nat → Option Nat := S.2.2.2.2.2.2.1
noncomputable abbrev zc (S : ZS) : Nat := S.2.2.2.2.2.2.2.1
noncomputable abbrev zt (S : ZS) : Nat := S.2.2.2.2.2.2.2.2.1
noncomputable abbrev zu (S : ZS) : Nat := S.2.2.2.2.2.2.2.2.2
noncomputable def zsI (S : ZS) (j a : Nat) (v : Int32) : ZS := (zL S, zK S, va_up (zI S) j (va_up (zI S j) a v), zP S, zN S, zA S, zB S, zc S, zt S, zu S)
noncomputable def zsP (S : ZS) (j a : Nat) (v : Option Nat) : ZS := (zL S, zK S, zI S, va_up (zP S) j (va_up (zP S j) a v), zN S, zA S, zB S, zc S, zt S, zu S)
noncomputable def zsA (S : ZS) (a i : Nat) (v : Int32) : ZS := (zL S, zK S, zI S, zP S, zN S, va_up (zA S) a (upd (zA S a) i v), zB S, zc S, zt S, zu S)
noncomputable def zsC (S : ZS) (b a sp dp n : Nat) : ZS := (zL S, zK S, zI S, zP S, zN S, va_up (zA S) a (va_cpy (zA S b) (zA S a) sp dp n), zB S, zc S, zt S, zu S)
noncomputable def zsD (S : ZS) (b a sp dp n : Nat) : ZS := (zL S, zK S, zI S, zP S, zN S, va_up (zA S) a (if b = 0 then zA S a else va_cpy (zA S b) (zA S a) sp dp n), zB S, zc S, zt S, zu S)
noncomputable def zsNewA (S : ZS) (q k n : Nat) : ZS := (zL S ++ [q], va_up (zK S) q k, zI S, zP S, va_up (zN S) q n, va_up (zA S) q (fun _ => 0), va_up (zB S) q (fun _ => none), zc S, zt S + 1, zu S + n)
noncomputable def zsNewO (S : ZS) (q k n : Nat) : ZS := (zL S ++ [q], va_up (zK S) q k, fun j => va_up (zI S j) q 0, fun j => va_up (zP S j) q none, zN S, zA S, zB S, zc S, zt S + 1, zu S + n)
noncomputable def zsB (S : ZS) (a i : Nat) (v : Option Nat) : ZS := (zL S, zK S, zI S, zP S, zN S, zA S, va_up (zB S) a (va_up (zB S a) i v), zc S, zt S, zu S)
noncomputable abbrev zf_0 (I : Nat → Int32) (P : Nat → Option Nat) : List Value := [va_rf (P 0), .int (I 1), .int (I 2), .int (I 3), .int (I 4), .int (I 5), .int (I 6)]
noncomputable abbrev zf_1 (I : Nat → Int32) (P : Nat → Option Nat) : List Value := [va_rf (P 0), va_rf (P 1), va_rf (P 2), .int (I 3), va_rf (P 4), .int (I 5), .int (I 6), va_rf (P 7)]
noncomputable abbrev zf_2 (I : Nat → Int32) (P : Nat → Option Nat) : List Value := [va_rf (P 0), va_rf (P 1), va_rf (P 2), va_rf (P 3), .int (I 4), .int (I 5), va_rf (P 6), va_rf (P 7), va_rf (P 8), va_rf (P 9), va_rf (P 10), va_rf (P 11)]
noncomputable abbrev zf_3 (I : Nat → Int32) (P : Nat → Option Nat) : List Value := [va_rf (P 0), va_rf (P 1)]
noncomputable abbrev zf_4 (I : Nat → Int32) (P : Nat → Option Nat) : List Value := [.int (I 0), .int (I 1), .int (I 2), .int (I 3), .int (I 4), .int (I 5), va_rf (P 6)]
noncomputable abbrev zf_5 (I : Nat → Int32) (P : Nat → Option Nat) : List Value := [va_rf (P 0), .int (I 1)]
noncomputable abbrev zf_6 (I : Nat → Int32) (P : Nat → Option Nat) : List Value := [va_rf (P 0), .int (I 1)]
noncomputable abbrev zf_7 (I : Nat → Int32) (P : Nat → Option Nat) : List Value := [va_rf (P 0), va_rf (P 1)]
noncomputable abbrev zf_8 (I : Nat → Int32) (P : Nat → Option Nat) : List Value := [va_rf (P 0), va_rf (P 1), .int (I 2), .int (I 3), .int (I 4), .int (I 5), .int (I 6), .int (I 7), .int (I 8), .int (I 9), va_rf (P 10), .int (I 11)]
noncomputable abbrev zf_9 (I : Nat → Int32) (P : Nat → Option Nat) : List Value := [va_rf (P 0)]
noncomputable abbrev zf_10 (I : Nat → Int32) (P : Nat → Option Nat) : List Value := [va_rf (P 0), va_rf (P 1)]
noncomputable abbrev zf_11 (I : Nat → Int32) (P : Nat → Option Nat) : List Value := [va_rf (P 0), va_rf (P 1), va_rf (P 2), va_rf (P 3), va_rf (P 4), va_rf (P 5), va_rf (P 6), va_rf (P 7), .int (I 8), va_rf (P 9)]
noncomputable abbrev zC (y : Nat → ClassId) (k : Nat) (I : Nat → Int32) (P : Nat → Option Nat) (n : Nat) (A : Nat → Int32) (B : Nat → Option Nat) : va_E :=
  if k = 0 then .inr (0, zf_0 I P) else if k = 1 then .inr (1, zf_1 I P) else if k = 2 then .inr (2, zf_2 I P) else if k = 3 then .inr (3, zf_3 I P) else if k = 4 then .inr (4, zf_4 I P) else if k = 5 then .inr (5, zf_5 I P) else if k = 6 then .inr (6, zf_6 I P) else if k = 7 then .inr (7, zf_7 I P) else if k = 8 then .inr (8, zf_8 I P) else if k = 9 then .inr (9, zf_9 I P) else if k = 10 then .inr (10, zf_10 I P) else if k = 11 then .inr (11, zf_11 I P) else if k = 13 then .inl (y 13, n, .inl A) else if k = 14 then .inl (y 14, n, .inl A) else if k = 15 then .inl (y 15, n, .inr (.inr (.inr (.inr B)))) else if k = 16 then .inl (y 16, n, .inr (.inr (.inr (.inr B)))) else .inl (y 17, n, .inr (.inr (.inr (.inr B))))
/-- the address of a cell: number 0 is Row.NO_CHARS, the others are in the order of their making -/
noncomputable def zh (y : Nat → ClassId) (i : Nat) : Nat := if i = 0 then y 50 else y 52 + i
noncomputable def zG (y : Nat → ClassId) (S : ZS) (sz : Nat) : Prop := zc S = 0 ∧ y 50 ≤ y 52 ∧ 0 < zt S ∧ sz = y 52 + zt S ∧ ∀ a, zK S a < 18 → a ∈ zL S
theorem zh_0 {y : Nat → ClassId} : zh y 0 = y 50 := rfl
theorem zh_s {y : Nat → ClassId} {i : Nat} (h : 0 < i) : zh y i = y 52 + i := if_neg (Nat.ne_of_gt h)
theorem zh_inj {y : Nat → ClassId} {a b : Nat} (h : y 50 ≤ y 52) (e : zh y a = zh y b) : a = b := by
  rcases Nat.eq_zero_or_pos a with ha | ha <;> rcases Nat.eq_zero_or_pos b with hb | hb
  · rw [ha, hb]
  · rw [ha, zh_0, zh_s hb] at e; exact absurd e (Nat.ne_of_lt (Nat.lt_of_le_of_lt h (Nat.lt_add_of_pos_right hb)))
  · rw [hb, zh_0, zh_s ha] at e; exact absurd e (Nat.ne_of_gt (Nat.lt_of_le_of_lt h (Nat.lt_add_of_pos_right ha)))
  · rw [zh_s ha, zh_s hb] at e; exact Nat.add_left_cancel e
noncomputable def zF (y : Nat → ClassId) (S : ZS) : Nat → va_E := fun a => zC y (zK S a) (fun j => zI S j a) (fun j => (zP S j a).map (zh y)) (zN S a) (zA S a) (fun i => (zB S a i).map (zh y))
noncomputable def zW (y : Nat → ClassId) (S : ZS) : va_W := (zL S).map (fun a => (zh y a, zF y S a))
noncomputable abbrev zT (y : Nat → ClassId) : List (ClassId × FieldType) := [(y 13, .char), (y 14, .int), (y 15, .object "MoveTexts$Board"), (y 16, .object "MoveTexts$Node"), (y 17, .object "MoveTexts$Tag")]
noncomputable def zH (D : va_G) (y : Nat → ClassId) (A0 : Nat → Prop) (s : State) (H : Heap) (locs : List Loc) (S : ZS) : Prop :=
  va_P D vwCl (zW y S) H ∧ va_D A0 (zW y S) ∧ va_S A0 s.heap H locs ∧ va_K D vwCl (zT y) s ∧ (∀ q : Nat, s.heap.size ≤ q → A0 q) ∧ zE y A0 s s.heap ∧ zG y S H.size
theorem zW_at {y : Nat → ClassId} {S : ZS} {a : Nat} (h : a ∈ zL S) : ∃ k : Nat, (zW y S)[k]? = some (zh y a, zF y S a) := by
  obtain ⟨k, hk⟩ := List.getElem?_of_mem h
  exact ⟨k, by unfold zW; rw [List.getElem?_map, hk]; rfl⟩
theorem zF_at {y : Nat → ClassId} {S : ZS} {a k : Nat} (h : zK S a = k) : zF y S a = zC y k (fun j => zI S j a) (fun j => (zP S j a).map (zh y)) (zN S a) (zA S a) (fun i => (zB S a i).map (zh y)) := by unfold zF; rw [h]
theorem zW_D {A : Nat → Prop} {y : Nat → ClassId} {S S' : ZS} (hL : zL S' = zL S) (hD : va_D A (zW y S)) : va_D A (zW y S') := by
  refine mD_fst (w1 := zW y S) ?_ hD
  show (List.map _ _).map _ = (List.map _ _).map _
  rw [hL, List.map_map, List.map_map]
  rfl
/-- a cell is written: the pool's world is the new state's -/
theorem zW_set {A : Nat → Prop} {y : Nat → ClassId} {S S' : ZS} {a q0 : Nat} {e : va_E} (hy : y 50 ≤ y 52) (hD : va_D A (zW y S)) (hq : (zW y S)[q0]? = some (zh y a, zF y S a)) (hL : zL S' = zL S) (he : zF y S' a = e) (ho : ∀ b, b ≠ a → zF y S' b = zF y S b) : (zW y S).set q0 (zh y a, e) = zW y S' := by
  have hlt : q0 < (zW y S).length := (List.getElem?_eq_some_iff.mp hq).1
  refine List.ext_getElem? (fun i => ?_)
  have h9 : ∀ (S9 : ZS), (zW y S9)[i]? = ((zL S9)[i]?).map (fun a => (zh y a, zF y S9 a)) := fun S9 => by unfold zW; rw [List.getElem?_map]
  rw [List.getElem?_set, h9 S', hL]
  by_cases hi : q0 = i
  · subst hi
    rw [if_pos rfl, if_pos hlt]
    have h8 := hq
    rw [h9 S] at h8
    cases hb : (zL S)[q0]? with
    | none => rw [hb] at h8; cases h8
    | some b =>
      rw [hb] at h8
      have e1 : (zh y b, zF y S b) = (zh y a, zF y S a) := Option.some.inj h8
      have e2 : b = a := zh_inj hy (congrArg Prod.fst e1)
      subst e2
      show some (zh y b, e) = some (zh y b, zF y S' b)
      rw [he]
  · rw [if_neg hi, h9 S]
    cases hb : (zL S)[i]? with
    | none => rfl
    | some b =>
      have hb1 : b ≠ a := by
        intro e1
        subst e1
        exact hi (hD.1 q0 i (zh y b, zF y S b) (zh y b, zF y S b) hq (by rw [h9 S, hb]; rfl) rfl)
      show some (_, _) = some (_, _)
      rw [ho b hb1]
theorem zW_new {y : Nat → ClassId} {S S' : ZS} {q : Nat} {e : va_E} (hq : q ∉ zL S) (hL : zL S' = zL S ++ [q]) (he : zF y S' q = e) (ho : ∀ b, b ≠ q → zF y S' b = zF y S b) : zW y S ++ [(zh y q, e)] = zW y S' := by
  unfold zW
  rw [hL, List.map_append]
  have h1 : (zL S).map (fun a => (zh y a, zF y S a)) = (zL S).map (fun a => (zh y a, zF y S' a)) := List.map_congr_left (fun b hb => by rw [ho b (fun e9 => hq (e9 ▸ hb))])
  rw [h1]
  show _ ++ [(zh y q, e)] = _ ++ [(zh y q, zF y S' q)]
  rw [he]
theorem zW_fresh {D : va_G} {y : Nat → ClassId} {S : ZS} {H : Heap} (hP : va_P D vwCl (zW y S) H) (hg : zG y S H.size) : zt S ∉ zL S := by
  intro hq
  obtain ⟨k0, hk0⟩ := zW_at (y := y) hq
  have h1 := (hP k0 _ hk0).lt
  obtain ⟨-, -, h2, h3, -⟩ := hg
  rw [show ((zh y (zt S), zF y S (zt S)) : Nat × va_E).1 = zh y (zt S) from rfl, zh_s h2, h3] at h1
  exact Nat.lt_irrefl _ h1
theorem zG_ad {y : Nat → ClassId} {S : ZS} {n : Nat} (hg : zG y S n) : n = zh y (zt S) := by
  rw [zh_s hg.2.2.1]; exact hg.2.2.2.1
theorem zG_put {y : Nat → ClassId} {S S' : ZS} {n n' : Nat} (hg : zG y S n) (h1 : n' = n) (h2 : (zL S', zK S', zc S', zt S') = (zL S, zK S, zc S, zt S)) : zG y S' n' := by
  obtain ⟨e1, h3⟩ := Prod.mk.inj h2
  obtain ⟨e2, h4⟩ := Prod.mk.inj h3
  obtain ⟨e3, e4⟩ := Prod.mk.inj h4
  unfold zG
  rw [h1, e1, e2, e3, e4]
  exact hg
theorem zG_new {y : Nat → ClassId} {S S' : ZS} {n n' k9 : Nat} (hg : zG y S n) (h1 : n' = n + 1) (h2 : (zL S', zK S', zc S', zt S') = (zL S ++ [zt S], va_up (zK S) (zt S) k9, zc S, zt S + 1)) : zG y S' n' := by
  obtain ⟨e1, h3⟩ := Prod.mk.inj h2
  obtain ⟨e2, h4⟩ := Prod.mk.inj h3
  obtain ⟨e3, e4⟩ := Prod.mk.inj h4
  obtain ⟨g1, g2, g3, g4, g5⟩ := hg
  unfold zG
  rw [h1, e1, e2, e3, e4]
  refine ⟨g1, g2, Nat.succ_pos _, by rw [g4]; rfl, fun a ha => ?_⟩
  by_cases hq : a = zt S
  · rw [hq]; exact List.mem_append_right _ List.mem_cons_self
  · rw [va_up_ne _ _ hq] at ha
    exact List.mem_append_left _ (g5 a ha)
theorem z_in {D : va_G} {y : Nat → ClassId} {A0 : Nat → Prop} {s : State} {H : Heap} {locs : List Loc} {S : ZS} {a k : Nat} (hM : zH D y A0 s H locs S) (hk : k < 18) (h : zK S a = k) : a ∈ zL S ∧ zK S a = k := ⟨hM.2.2.2.2.2.2.2.2.2.2 a (by rw [h]; exact hk), h⟩
theorem z_Srf {A : Nat → Prop} {H0 H : Heap} {locs : List Loc} (h : va_S A H0 H locs) : va_S A H H locs := ⟨Nat.le_refl _, fun _ _ _ => rfl, h.2.2⟩
theorem z_Str {A : Nat → Prop} {H0 H H1 : Heap} {locs locs1 : List Loc} (h : va_S A H0 H locs) (h1 : va_S A H H1 locs1) : va_S A H0 H1 locs1 := ⟨Nat.le_trans h.1 h1.1, fun q h2 h3 => (h1.2.1 q (Nat.lt_of_lt_of_le h2 h.1) h3).trans (h.2.1 q h2 h3), h1.2.2⟩
theorem zF_nA {y : Nat → ClassId} {S : ZS} {q k n b : Nat} (hb : b ≠ q) : zF y (zsNewA S q k n) b = zF y S b := by
  have h1 : zK (zsNewA S q k n) b = zK S b := va_up_ne _ _ hb
  have h2 : zN (zsNewA S q k n) b = zN S b := va_up_ne _ _ hb
  have h3 : zA (zsNewA S q k n) b = zA S b := va_up_ne _ _ hb
  have h4 : zB (zsNewA S q k n) b = zB S b := va_up_ne _ _ hb
  unfold zF
  rw [h1, h2, h3, h4]
  rfl
theorem zF_sI {y : Nat → ClassId} {S : ZS} {j a b : Nat} {v : Int32} (hb : b ≠ a) : zF y (zsI S j a v) b = zF y S b := by
  have h1 : (fun i => zI (zsI S j a v) i b) = (fun i => zI S i b) := by
    funext i
    show va_up (zI S) j (va_up (zI S j) a v) i b = zI S i b
    by_cases hi : i = j
    · subst hi; rw [va_up_self, va_up_ne _ _ hb]
    · rw [va_up_ne _ _ hi]
  unfold zF
  rw [h1]
  rfl
theorem zF_sP {y : Nat → ClassId} {S : ZS} {j a b : Nat} {v : Option Nat} (hb : b ≠ a) : zF y (zsP S j a v) b = zF y S b := by
  have h1 : (fun i => zP (zsP S j a v) i b) = (fun i => zP S i b) := by
    funext i
    show va_up (zP S) j (va_up (zP S j) a v) i b = zP S i b
    by_cases hi : i = j
    · subst hi; rw [va_up_self, va_up_ne _ _ hb]
    · rw [va_up_ne _ _ hi]
  have h1' : (fun i => (zP (zsP S j a v) i b).map (zh y)) = (fun i => (zP S i b).map (zh y)) := by
    funext i
    rw [show zP (zsP S j a v) i b = zP S i b from congrFun h1 i]
  unfold zF
  rw [h1']
  rfl
theorem zF_sA {y : Nat → ClassId} {S : ZS} {a b i : Nat} {v : Int32} (hb : b ≠ a) : zF y (zsA S a i v) b = zF y S b := by
  have h1 : zA (zsA S a i v) b = zA S b := va_up_ne _ _ hb
  unfold zF
  rw [h1]
  rfl
theorem zF_sC {y : Nat → ClassId} {S : ZS} {a b b0 sp dp n : Nat} (hb : b ≠ a) : zF y (zsC S b0 a sp dp n) b = zF y S b := by
  have h1 : zA (zsC S b0 a sp dp n) b = zA S b := va_up_ne _ _ hb
  unfold zF
  rw [h1]
  rfl
theorem zF_sB {y : Nat → ClassId} {S : ZS} {a b i : Nat} {v : Option Nat} (hb : b ≠ a) : zF y (zsB S a i v) b = zF y S b := by
  have h1 : zB (zsB S a i v) b = zB S b := va_up_ne _ _ hb
  unfold zF
  rw [h1]
  rfl
theorem z_colI (S : ZS) (j a : Nat) (v : Int32) : (fun i => zI (zsI S j a v) i a) = va_up (fun i => zI S i a) j v := by
  funext i
  show va_up (zI S) j (va_up (zI S j) a v) i a = va_up (fun i => zI S i a) j v i
  by_cases hi : i = j
  · subst hi; rw [va_up_self, va_up_self, va_up_self]
  · rw [va_up_ne _ _ hi, va_up_ne _ _ hi]
theorem z_colP (S : ZS) (j a : Nat) (v : Option Nat) : (fun i => zP (zsP S j a v) i a) = va_up (fun i => zP S i a) j v := by
  funext i
  show va_up (zP S) j (va_up (zP S j) a v) i a = va_up (fun i => zP S i a) j v i
  by_cases hi : i = j
  · subst hi; rw [va_up_self, va_up_self, va_up_self]
  · rw [va_up_ne _ _ hi, va_up_ne _ _ hi]
theorem z_colPm (y : Nat → ClassId) (S : ZS) (j a b : Nat) : (fun i => (zP (zsP S j a (some b)) i a).map (zh y)) = va_up (fun i => (zP S i a).map (zh y)) j (some (zh y b)) := by
  funext i
  have h1 := congrFun (z_colP S j a (some b)) i
  show (zP (zsP S j a (some b)) i a).map (zh y) = _
  rw [show zP (zsP S j a (some b)) i a = va_up (fun i => zP S i a) j (some b) i from h1]
  by_cases hi : i = j
  · subst hi; rw [va_up_self, va_up_self]; rfl
  · rw [va_up_ne _ _ hi, va_up_ne _ _ hi]
theorem z_colBm (y : Nat → ClassId) (S : ZS) (a i b : Nat) : (fun k => (zB (zsB S a i (some b)) a k).map (zh y)) = va_up (fun k => (zB S a k).map (zh y)) i (some (zh y b)) := by
  funext k
  show (va_up (zB S) a (va_up (zB S a) i (some b)) a k).map (zh y) = _
  rw [va_up_self]
  by_cases hi : k = i
  · subst hi; rw [va_up_self, va_up_self]; rfl
  · rw [va_up_ne _ _ hi, va_up_ne _ _ hi]
noncomputable def zB0 (D : va_G) (y : Nat → ClassId) (S : ZS) (sz : Nat) : State → Prop := fun U =>
  U.heap.size = sz ∧ va_P D vwCl (zW y S) U.heap ∧ va_K D vwCl (zT y) U ∧ va_D (fun _ => True) (zW y S) ∧ zE y (va_A (zW y S) sz) U U.heap ∧ zG y S sz
/-- a method of the class that makes nothing and answers an int -/
noncomputable def zMi (l : Launch) (q : MethodName) (ws : List Cond) (rm : Room) (av : List Value) (D : va_G) (y : Nat → ClassId) (S : ZS) (o : Int32 × ZS) : Prop :=
  ∀ sz : Nat, Met l q ws rm (va_Pc av (zB0 D y S sz)) (va_Qi (fun (r' : Int32) (_ : Unit) => r' = o.1) (fun _ t => va_P D vwCl (zW y o.2) t.heap ∧ va_D (va_A (zW y S) sz) (zW y o.2) ∧ zG y o.2 t.heap.size) (va_A (zW y S) sz)) 0 0 (va_A (zW y S) sz)
noncomputable def zMv (l : Launch) (q : MethodName) (ws : List Cond) (rm : Room) (av : List Value) (D : va_G) (y : Nat → ClassId) (S : ZS) (o : Int32 × ZS) : Prop :=
  ∀ sz : Nat, Met l q ws rm (va_Pc av (zB0 D y S sz)) (va_Qv (fun (_ : Unit) => True) (fun _ t => va_P D vwCl (zW y o.2) t.heap ∧ va_D (va_A (zW y S) sz) (zW y o.2) ∧ zG y o.2 t.heap.size) (va_A (zW y S) sz)) 0 0 (va_A (zW y S) sz)
noncomputable def zMr (l : Launch) (q : MethodName) (ws : List Cond) (rm : Room) (av : List Value) (D : va_G) (y : Nat → ClassId) (S : ZS) (o : Nat × ZS) : Prop :=
  ∀ sz : Nat, Met l q ws rm (va_Pc av (zB0 D y S sz)) (va_Qr (fun (_ : Unit) => True) (fun _ r t => r = o.1 ∧ va_P D vwCl (zW y o.2) t.heap ∧ va_D (va_A (zW y S) sz) (zW y o.2) ∧ zG y o.2 t.heap.size) (va_A (zW y S) sz)) 0 0 (va_A (zW y S) sz)
noncomputable def zRr (p : Program) (l : Launch) (e : Env) (R : Room) (s : State) (m : MethodId) (args : Array Value) (below : List Frame) (meth : Method) (c : Code) (Q : State → Prop) (cc : ByteArray) (D : va_G) (y : Nat → ClassId) (A0 : Nat → Prop) (o : Nat × ZS) : Prop :=
  ∀ (H : Heap) (locs : List Loc) (pc : Nat) (ls : Array Slot), zH D y A0 s H locs o.2 → decode cc pc = .ok (.areturn, 1) → W p l e R s m args below meth c H locs 0 0 Q (F0 m pc ls [.ref o.1])
noncomputable def m_opt {β : Type} (x : Option Nat) (a : Option β) (k : Nat → Option β) : Option β := match x with
  | none => a
  | some b => k b
theorem m_optN {β : Type} {a : Option β} {k : Nat → Option β} {r : β} (hf : m_opt none a k = some r) : a = some r := hf
theorem m_optS {β : Type} {b : Nat} {a : Option β} {k : Nat → Option β} {r : β} (hf : m_opt (some b) a k = some r) : k b = some r := hf
noncomputable def zWi (l : Launch) (q : MethodName) (ws : List Cond) (rm : Room) (av : List Value) (D : va_G) (y : Nat → ClassId) (S : ZS) (mc ms : Nat) (Pw : Int32 → ZS → Prop) : Prop :=
  ∀ sz : Nat, Met l q ws rm (va_Pc av (zB0 D y S sz)) (va_Qi (fun (r : Int32) (u : ZS) => Pw r u) (fun u t => va_P D vwCl (zW y u) t.heap ∧ va_D (va_A (zW y S) sz) (zW y u) ∧ zG y u t.heap.size) (va_A (zW y S) sz)) mc ms (va_A (zW y S) sz)
noncomputable def zWv (l : Launch) (q : MethodName) (ws : List Cond) (rm : Room) (av : List Value) (D : va_G) (y : Nat → ClassId) (S : ZS) (mc ms : Nat) (Pw : Int32 → ZS → Prop) : Prop :=
  ∀ sz : Nat, Met l q ws rm (va_Pc av (zB0 D y S sz)) (va_Qv (fun (u : ZS) => Pw 0 u) (fun u t => va_P D vwCl (zW y u) t.heap ∧ va_D (va_A (zW y S) sz) (zW y u) ∧ zG y u t.heap.size) (va_A (zW y S) sz)) mc ms (va_A (zW y S) sz)
noncomputable def zWr (l : Launch) (q : MethodName) (ws : List Cond) (rm : Room) (av : List Value) (D : va_G) (y : Nat → ClassId) (S : ZS) (mc ms : Nat) (Pw : Nat → ZS → Prop) : Prop :=
  ∀ sz : Nat, Met l q ws rm (va_Pc av (zB0 D y S sz)) (va_Qr (fun (_ : ZS) => True) (fun u r t => (∃ i, r = zh y i ∧ Pw i u) ∧ va_P D vwCl (zW y u) t.heap ∧ va_D (va_A (zW y S) sz) (zW y u) ∧ zG y u t.heap.size) (va_A (zW y S) sz)) mc ms (va_A (zW y S) sz)
noncomputable def zQr (p : Program) (l : Launch) (e : Env) (R : Room) (s : State) (m : MethodId) (args : Array Value) (below : List Frame) (meth : Method) (c : Code) (Q : State → Prop) (cc : ByteArray) (D : va_G) (y : Nat → ClassId) (A0 : Nat → Prop) (Pw : Nat → ZS → Prop) : Prop :=
  ∀ (r : Nat) (S : ZS) (C T : Nat) (H : Heap) (locs : List Loc) (pc : Nat) (ls : Array Slot), Pw r S → zH D y A0 s H locs S → decode cc pc = .ok (.areturn, 1) → W p l e R s m args below meth c H locs (R.cells - C) (R.slots - T) Q (F0 m pc ls [.ref (zh y r)])
noncomputable def m_galN (C T : Nat) (g : Nat → Nat → (Nat → ZS → Prop) → Prop) (k : Nat → ZS → Nat → Nat → Prop) : Prop := ∃ mc ms, (mc ≤ C ∧ ms ≤ T) ∧ g mc ms (fun r S => k r S (C - mc) (T - ms))
theorem m_galNE {C T : Nat} {g : Nat → Nat → (Nat → ZS → Prop) → Prop} {k : Nat → ZS → Nat → Nat → Prop} (hf : m_galN C T g k) : ∃ mc ms, (mc ≤ C ∧ ms ≤ T) ∧ g mc ms (fun r S => k r S (C - mc) (T - ms)) := hf
noncomputable def zQi (p : Program) (l : Launch) (e : Env) (R : Room) (s : State) (m : MethodId) (args : Array Value) (below : List Frame) (meth : Method) (c : Code) (Q : State → Prop) (cc : ByteArray) (D : va_G) (y : Nat → ClassId) (A0 : Nat → Prop) (ty : FieldType) (Pw : Int32 → ZS → Prop) : Prop :=
  ∀ (r : Int32) (S : ZS) (C T : Nat) (H : Heap) (locs : List Loc) (pc : Nat) (ls : Array Slot), Pw r S → zH D y A0 s H locs S → narrow ty (.int r) = .int r → decode cc pc = .ok (.ireturn, 1) → W p l e R s m args below meth c H locs (R.cells - C) (R.slots - T) Q (F0 m pc ls [.int r])
noncomputable def zQv (p : Program) (l : Launch) (e : Env) (R : Room) (s : State) (m : MethodId) (args : Array Value) (below : List Frame) (meth : Method) (c : Code) (Q : State → Prop) (cc : ByteArray) (D : va_G) (y : Nat → ClassId) (A0 : Nat → Prop) (Pw : Int32 → ZS → Prop) : Prop :=
  ∀ (S : ZS) (C T : Nat) (H : Heap) (locs : List Loc) (pc : Nat) (ls : Array Slot), Pw 0 S → zH D y A0 s H locs S → decode cc pc = .ok (.return_, 1) → W p l e R s m args below meth c H locs (R.cells - C) (R.slots - T) Q (F0 m pc ls [])
noncomputable def m_bndP {α : Type} (x : α) (k : α → Prop) : Prop := k x
noncomputable def m_chkQ (c k : Prop) : Prop := c ∧ k
noncomputable def m_ifQ (c a b : Prop) : Prop := (c → a) ∧ (¬ c → b)
noncomputable def m_calP {α : Type} (o : Option α) (k : α → Prop) : Prop := ∃ z, o = some z ∧ k z
noncomputable def m_optP (x : Option Nat) (a : Prop) (k : Nat → Prop) : Prop := (x = none → a) ∧ ∀ b, x = some b → k b
noncomputable def m_gal (C T : Nat) (g : Nat → Nat → (Int32 → ZS → Prop) → Prop) (k : Int32 → ZS → Nat → Nat → Prop) : Prop := ∃ mc ms, (mc ≤ C ∧ ms ≤ T) ∧ g mc ms (fun r S => k r S (C - mc) (T - ms))
noncomputable def m_newP (C T n z : Nat) (k : Nat → Nat → Nat → Prop) : Prop := (1 ≤ C ∧ n ≤ T) ∧ ∀ q, q = z → k q (C - 1) (T - n)
theorem m_bndPE {α : Type} {x : α} {k : α → Prop} (hf : m_bndP x k) : ∃ z : α, z = x ∧ k z := ⟨x, rfl, hf⟩
theorem m_chkPE {c k : Prop} (hf : m_chkQ c k) : c ∧ k := hf
theorem m_ifPT {c a b : Prop} (hf : m_ifQ c a b) (hc : c) : a := hf.1 hc
theorem m_ifPF {c a b : Prop} (hf : m_ifQ c a b) (hc : ¬ c) : b := hf.2 hc
theorem m_calPE {α : Type} {o : Option α} {k : α → Prop} (hf : m_calP o k) : ∃ z : α, o = some z ∧ k z := hf
theorem m_optPN {a : Prop} {k : Nat → Prop} (hf : m_optP none a k) : a := hf.1 rfl
theorem m_optPS {b : Nat} {a : Prop} {k : Nat → Prop} (hf : m_optP (some b) a k) : k b := hf.2 b rfl
theorem m_galE {C T : Nat} {g : Nat → Nat → (Int32 → ZS → Prop) → Prop} {k : Int32 → ZS → Nat → Nat → Prop} (hf : m_gal C T g k) : ∃ mc ms, (mc ≤ C ∧ ms ≤ T) ∧ g mc ms (fun r S => k r S (C - mc) (T - ms)) := hf
noncomputable def zRi (p : Program) (l : Launch) (e : Env) (R : Room) (s : State) (m : MethodId) (args : Array Value) (below : List Frame) (meth : Method) (c : Code) (Q : State → Prop) (cc : ByteArray) (D : va_G) (y : Nat → ClassId) (A0 : Nat → Prop) (ty : FieldType) (o : Int32 × ZS) : Prop :=
  ∀ (H : Heap) (locs : List Loc) (pc : Nat) (ls : Array Slot), zH D y A0 s H locs o.2 → narrow ty (.int o.1) = .int o.1 → decode cc pc = .ok (.ireturn, 1) → W p l e R s m args below meth c H locs 0 0 Q (F0 m pc ls [.int o.1])
noncomputable def zRv (p : Program) (l : Launch) (e : Env) (R : Room) (s : State) (m : MethodId) (args : Array Value) (below : List Frame) (meth : Method) (c : Code) (Q : State → Prop) (cc : ByteArray) (D : va_G) (y : Nat → ClassId) (A0 : Nat → Prop) (o : Int32 × ZS) : Prop :=
  ∀ (H : Heap) (locs : List Loc) (pc : Nat) (ls : Array Slot), zH D y A0 s H locs o.2 → decode cc pc = .ok (.return_, 1) → W p l e R s m args below meth c H locs 0 0 Q (F0 m pc ls [])
section ZLR
variable {p : Program} {l : Launch} {e : Env} {R : Room} {s : State} {m : MethodId} {args : Array Value} {below : List Frame} {meth : Method} {c : Code} {H : Heap} {locs : List Loc} {cells slots : Nat} {Q : State → Prop}
variable {cc : ByteArray} {pc nL : Nat} {ls : Array Slot} {rest : List Value} {D : va_G} {A0 : Nat → Prop} {Ts : List Cond} {y : Nat → ClassId} {S : ZS} {own : String} {a : Nat}
theorem z_hS {S' : ZS} (hM : zH D y A0 s H locs S) (hI : S' = S) : zH D y A0 s H locs S' := hI ▸ hM
theorem z_topr {x : Option Nat} {b : Nat} (hx : x = some b) (k : W p l e R s m args below meth c H locs cells slots Q (F0 m pc ls (.ref (zh y b) :: rest))) : W p l e R s m args below meth c H locs cells slots Q (F0 m pc ls (va_rf (x.map (zh y)) :: rest)) := by
  rw [hx]; exact k
theorem z_topq {x z : Option Nat} (hx : z = x) (k : W p l e R s m args below meth c H locs cells slots Q (F0 m pc ls (va_rf (z.map (zh y)) :: rest))) : W p l e R s m args below meth c H locs cells slots Q (F0 m pc ls (va_rf (x.map (zh y)) :: rest)) := hx ▸ k
theorem z_tight {g : JFrame} (h0 : s.heap.size ≤ H.size) (k : ∀ c9 : Nat, s.heap.size + c9 = H.size → c9 ≤ cells → W p l e R s m args below meth c H locs c9 slots Q g) : W p l e R s m args below meth c H locs cells slots Q g := by
  intro T hT X
  have hb := X.heapSize
  rw [hT] at hb
  refine k (H.size - s.heap.size) (Nat.add_sub_cancel' h0) (Nat.sub_le_iff_le_add'.mpr hb) T hT { X with same := ⟨X.same.1, X.same.2.1, ?_, X.same.2.2.2⟩ }
  show T.heap.size ≤ _
  rw [hT, Nat.add_sub_cancel' h0]
  exact Nat.le_refl _
theorem z_loose {g : JFrame} {c9 : Nat} (hc : c9 ≤ cells) (k : H.size ≤ s.heap.size + c9 → W p l e R s m args below meth c H locs cells slots Q g) : W p l e R s m args below meth c H locs c9 slots Q g := by
  intro T hT X
  have hb := X.heapSize
  rw [hT] at hb
  exact k hb T hT { X with same := X.same.mono hc (Nat.le_refl _) }
theorem z_new8 {H1 : Heap} {S' : ZS} {e : va_E} (hP : va_P D vwCl (zW y S) H) (hD : va_D A0 (zW y S)) (hS : va_S A0 s.heap H locs) (hK : va_K D vwCl (zT y) s) (hA : ∀ q : Nat, s.heap.size ≤ q → A0 q) (hE : zE y A0 s s.heap ∧ zG y S H.size) (he : va_at D vwCl (zh y (zt S), e) H1) (z1 : H1.size = zh y (zt S) + 1) (o1 : ∀ q : Nat, q < zh y (zt S) → H1[q]? = H[q]?) (hW : zW y S ++ [(zh y (zt S), e)] = zW y S') {k9 : Nat} (hG : (zL S', zK S', zc S', zt S') = (zL S ++ [zt S], va_up (zK S) (zt S) k9, zc S, zt S + 1)) : zH D y A0 s H1 locs S' := by
  have hz := zG_ad hE.2
  rw [← hz] at z1 o1
  have hk : ∀ (k : Nat) (x : Nat × va_E), (zW y S)[k]? = some x → H1[x.1]? = H[x.1]? := fun k x hx => o1 x.1 ((hP k x hx).lt)
  refine ⟨?_, ?_, ⟨Nat.le_trans hS.1 (by rw [z1]; exact Nat.le_succ _), fun x h1 h2 => (o1 x (Nat.lt_of_lt_of_le h1 hS.1)).trans (hS.2.1 x h1 h2), hS.2.2⟩, hK, hA, hE.1, zG_new hE.2 z1 hG⟩
  · rw [← hW]
    refine (hP.kept hk).app (fun k x hx => ?_)
    have hz : k < 1 := (List.getElem?_eq_some_iff.mp hx).1
    rw [show k = 0 by omega] at hx
    cases hx
    exact he
  · rw [← hW]
    exact hD.push hP hz.symm (hA _ (by rw [← hz]; exact hS.1))
theorem z_new9 {H1 : Heap} {S' : ZS} {e : ClassId × vp_A} (hP : va_P D vwCl (zW y S) H) (hD : va_D A0 (zW y S)) (hS : va_S A0 s.heap H locs) (hK : va_K D vwCl (zT y) s) (hA : ∀ q : Nat, s.heap.size ≤ q → A0 q) (hE : zE y A0 s s.heap ∧ zG y S H.size) (he : H1[zh y (zt S)]? = some (vp_cell e.1 e.2)) (z1 : H1.size = zh y (zt S) + 1) (o1 : ∀ q : Nat, q < zh y (zt S) → H1[q]? = H[q]?) (hW : zW y S ++ [(zh y (zt S), .inl e)] = zW y S') {k9 : Nat} (hG : (zL S', zK S', zc S', zt S') = (zL S ++ [zt S], va_up (zK S) (zt S) k9, zc S, zt S + 1)) : zH D y A0 s H1 locs S' :=
  z_new8 (e := .inl e) hP hD hS hK hA hE (show va_at D vwCl (zh y (zt S), .inl e) H1 from he) z1 o1 hW hG
theorem z_get {k j N : Nat} {C : String} {T : u_T} {fl : (Nat → Int32) → (Nat → Option Nat) → List Value} (X : CallFix p m c cc nL s args Ts own) (hw : ∀ w ∈ u_ws C T N, w ∈ Ts) (hM : zH D y A0 s H locs S) (hcl : vwCl[k]? = some (C, T, N)) (hC : ∀ (I : Nat → Int32) (P : Nat → Option Nat) (n : Nat) (A : Nat → Int32) (B : Nat → Option Nat), zC y k I P n A B = .inr (k, fl I P)) (ha : a ∈ zL S ∧ zK S a = k) (hj : j < N) {index : Nat} (hl : Cond.fieldLink own index (T j).1 (T j).2.1 (T j).2.2.1 ∈ Ts) {v : Value} (hv : (fl (fun i => zI S i a) (fun i => (zP S i a).map (zh y)))[j]? = some v) (hdg : decode cc pc = .ok (.getfield index, 3))
    (kk : W p l e R s m args below meth c H locs cells slots Q (F0 m (pc + 3) ls (v :: rest))) : W p l e R s m args below meth c H locs cells slots Q (F0 m pc ls (.ref (zh y a) :: rest)) := by
  obtain ⟨q0, hq⟩ := zW_at (y := y) ha.1
  rw [zF_at ha.2, hC] at hq
  exact va_get (D := D) (ci := k) (C := C) (T := T) (N := N) X.1 X.2.1 X.2.2.2.2 hw X.2.2.2.1 hM.2.2.2.1 hM.1 q0 hq hcl j hj (X.2.2.2.2 _ hl) (fun _ h9 => h9) hv hdg kk
theorem z_putI {k j N : Nat} {C : String} {T : u_T} {ty0 : Nat → FieldType} {ty : FieldType} {fl : (Nat → Int32) → (Nat → Option Nat) → List Value} {v : Int32} (X : CallFix p m c cc nL s args Ts own) (hw : ∀ w ∈ u_ws C T N, w ∈ Ts) (hty : ∀ k, k < N → parseFieldDescriptor (T k).2.2.1 = some (ty0 k)) (hnm : ∀ a, a < N → ∀ b, b < N → a ≠ b → (T a).2.1 ≠ (T b).2.1) (hM : zH D y A0 s H locs S) (hcl : vwCl[k]? = some (C, T, N)) (hC : ∀ (I : Nat → Int32) (P : Nat → Option Nat) (n : Nat) (A : Nat → Int32) (B : Nat → Option Nat), zC y k I P n A B = .inr (k, fl I P)) (ha : a ∈ zL S ∧ zK S a = k) (hj : j < N) {index : Nat} (hl : Cond.fieldLink own index (T j).1 (T j).2.1 (T j).2.2.1 ∈ Ts) (hfin : (T j).2.2.2 = false) (hd : parseFieldDescriptor (T j).2.2.1 = some ty) (hn : narrow ty (.int v) = .int v) (hfit : fits ty (.int v) = true) (hset : ∀ (I : Nat → Int32) (P : Nat → Option Nat), (fl I P).set j (.int v) = fl (va_up I j v) P) (hlen : j < (fl (fun i => zI S i a) (fun i => (zP S i a).map (zh y))).length) (hdg : decode cc pc = .ok (.putfield index, 3))
    (kk : ∀ (H : Heap) (locs : List Loc), zH D y A0 s H locs (zsI S j a v) → W p l e R s m args below meth c H locs cells slots Q (F0 m (pc + 3) ls rest)) : W p l e R s m args below meth c H locs cells slots Q (F0 m pc ls (.int v :: .ref (zh y a) :: rest)) := by
  obtain ⟨q0, hq⟩ := zW_at (y := y) ha.1
  have hq' := hq
  rw [zF_at ha.2, hC] at hq
  obtain ⟨hP, hD, hS, hK, hA, hE⟩ := hM
  refine z_tight hS.1 (fun c9 h8 h9 => ?_)
  refine va_put (D := D) (ci := k) (v := .int v) (ty := ty) (C := C) (T := T) (N := N) X.1 X.2.1 X.2.2.2.2 hw ty0 hty hnm X.2.2.2.1 hK hP hD (z_Srf hS) q0 hq hcl j hj (X.2.2.2.2 _ hl) (fun _ h9 => h9) hfin hd hn hfit hlen hdg (fun H1 locs1 hP1 hD1 hS1 => ?_)
  refine z_loose h9 (fun h7 => ?_)
  have hz9 : H1.size = H.size := Nat.le_antisymm (h8 ▸ h7) hS1.1
  rw [zW_set (S' := zsI S j a v) hE.2.2.1 hD hq' rfl (by rw [zF_at (S := zsI S j a v) ha.2, hC, hset, ← z_colI]; rfl) (fun b hb => zF_sI hb)] at hP1
  exact kk H1 locs1 ⟨hP1, zW_D (S := S) rfl hD, z_Str hS hS1, hK, hA, hE.1, zG_put hE.2 hz9 rfl⟩
theorem z_putP {k j N b : Nat} {C : String} {T : u_T} {ty0 : Nat → FieldType} {ty : FieldType} {fl : (Nat → Int32) → (Nat → Option Nat) → List Value} (X : CallFix p m c cc nL s args Ts own) (hw : ∀ w ∈ u_ws C T N, w ∈ Ts) (hty : ∀ k, k < N → parseFieldDescriptor (T k).2.2.1 = some (ty0 k)) (hnm : ∀ a, a < N → ∀ b, b < N → a ≠ b → (T a).2.1 ≠ (T b).2.1) (hM : zH D y A0 s H locs S) (hcl : vwCl[k]? = some (C, T, N)) (hC : ∀ (I : Nat → Int32) (P : Nat → Option Nat) (n : Nat) (A : Nat → Int32) (B : Nat → Option Nat), zC y k I P n A B = .inr (k, fl I P)) (ha : a ∈ zL S ∧ zK S a = k) (hj : j < N) {index : Nat} (hl : Cond.fieldLink own index (T j).1 (T j).2.1 (T j).2.2.1 ∈ Ts) (hfin : (T j).2.2.2 = false) (hd : parseFieldDescriptor (T j).2.2.1 = some ty) (hn : narrow ty (.ref (zh y b)) = .ref (zh y b)) (hfit : fits ty (.ref (zh y b)) = true) (hset : ∀ (I : Nat → Int32) (P : Nat → Option Nat), (fl I P).set j (.ref (zh y b)) = fl I (va_up P j (some (zh y b)))) (hlen : j < (fl (fun i => zI S i a) (fun i => (zP S i a).map (zh y))).length) (hdg : decode cc pc = .ok (.putfield index, 3))
    (kk : ∀ (H : Heap) (locs : List Loc), zH D y A0 s H locs (zsP S j a (some b)) → W p l e R s m args below meth c H locs cells slots Q (F0 m (pc + 3) ls rest)) : W p l e R s m args below meth c H locs cells slots Q (F0 m pc ls (.ref (zh y b) :: .ref (zh y a) :: rest)) := by
  obtain ⟨q0, hq⟩ := zW_at (y := y) ha.1
  have hq' := hq
  rw [zF_at ha.2, hC] at hq
  obtain ⟨hP, hD, hS, hK, hA, hE⟩ := hM
  refine z_tight hS.1 (fun c9 h8 h9 => ?_)
  refine va_put (D := D) (ci := k) (v := .ref (zh y b)) (ty := ty) (C := C) (T := T) (N := N) X.1 X.2.1 X.2.2.2.2 hw ty0 hty hnm X.2.2.2.1 hK hP hD (z_Srf hS) q0 hq hcl j hj (X.2.2.2.2 _ hl) (fun _ h9 => h9) hfin hd hn hfit hlen hdg (fun H1 locs1 hP1 hD1 hS1 => ?_)
  refine z_loose h9 (fun h7 => ?_)
  have hz9 : H1.size = H.size := Nat.le_antisymm (h8 ▸ h7) hS1.1
  rw [zW_set (S' := zsP S j a (some b)) hE.2.2.1 hD hq' rfl (by rw [zF_at (S := zsP S j a (some b)) ha.2, hC, hset, ← z_colPm]; rfl) (fun b hb => zF_sP hb)] at hP1
  exact kk H1 locs1 ⟨hP1, zW_D (S := S) rfl hD, z_Str hS hS1, hK, hA, hE.1, zG_put hE.2 hz9 rfl⟩
theorem z_iald (X : CallFix p m c cc nL s args Ts own) (hM : zH D y A0 s H locs S) (ha : a ∈ zL S ∧ zK S a = 14) {i : Int32} (hin : vp_in i (zN S a)) (hdg : decode cc pc = .ok (.iaload, 1))
    (kk : W p l e R s m args below meth c H locs cells slots Q (F0 m (pc + 1) ls (.int (zA S a i.toNatClampNeg) :: rest))) : W p l e R s m args below meth c H locs cells slots Q (F0 m pc ls (.int i :: .ref (zh y a) :: rest)) := by
  obtain ⟨q0, hq⟩ := zW_at (y := y) ha.1
  rw [zF_at ha.2] at hq
  exact va_iald X.1 X.2.1 hM.2.2.2.1 hM.1 q0 1 hq rfl hin hdg kk
theorem z_cald (X : CallFix p m c cc nL s args Ts own) (hM : zH D y A0 s H locs S) (ha : a ∈ zL S ∧ zK S a = 13) {i : Int32} (hin : vp_in i (zN S a)) (hdg : decode cc pc = .ok (.caload, 1))
    (kk : W p l e R s m args below meth c H locs cells slots Q (F0 m (pc + 1) ls (.int (zA S a i.toNatClampNeg) :: rest))) : W p l e R s m args below meth c H locs cells slots Q (F0 m pc ls (.int i :: .ref (zh y a) :: rest)) := by
  obtain ⟨q0, hq⟩ := zW_at (y := y) ha.1
  rw [zF_at ha.2] at hq
  exact va_cald X.1 X.2.1 hM.2.2.2.1 hM.1 q0 0 hq rfl hin hdg kk
theorem z_iast (X : CallFix p m c cc nL s args Ts own) (hM : zH D y A0 s H locs S) (ha : a ∈ zL S ∧ zK S a = 14) {i x : Int32} (hin : vp_in i (zN S a)) (hdg : decode cc pc = .ok (.iastore, 1))
    (kk : ∀ (H : Heap) (locs : List Loc), zH D y A0 s H locs (zsA S a i.toNatClampNeg x) → W p l e R s m args below meth c H locs cells slots Q (F0 m (pc + 1) ls rest)) : W p l e R s m args below meth c H locs cells slots Q (F0 m pc ls (.int x :: .int i :: .ref (zh y a) :: rest)) := by
  obtain ⟨q0, hq⟩ := zW_at (y := y) ha.1
  have hq' := hq
  rw [zF_at ha.2] at hq
  obtain ⟨hP, hD, hS, hK, hA, hE⟩ := hM
  refine z_tight hS.1 (fun c9 h8 h9 => ?_)
  refine va_iast X.1 X.2.1 hK hP hD (z_Srf hS) q0 1 hq rfl hin hdg (fun H1 locs1 hP1 hD1 hS1 => ?_)
  refine z_loose h9 (fun h7 => ?_)
  have hz9 : H1.size = H.size := Nat.le_antisymm (h8 ▸ h7) hS1.1
  rw [zW_set (S' := zsA S a i.toNatClampNeg x) hE.2.2.1 hD hq' rfl (by rw [zF_at (S := zsA S a i.toNatClampNeg x) ha.2]; show zC y 14 _ _ _ (va_up (zA S) a _ a) _ = _; rw [va_up_self]; rfl) (fun b hb => zF_sA hb)] at hP1
  exact kk H1 locs1 ⟨hP1, zW_D (S := S) rfl hD, z_Str hS hS1, hK, hA, hE.1, zG_put hE.2 hz9 rfl⟩
theorem z_cast (X : CallFix p m c cc nL s args Ts own) (hM : zH D y A0 s H locs S) (ha : a ∈ zL S ∧ zK S a = 13) {i x : Int32} (hin : vp_in i (zN S a)) (hdg : decode cc pc = .ok (.castore, 1))
    (kk : ∀ (H : Heap) (locs : List Loc), zH D y A0 s H locs (zsA S a i.toNatClampNeg (vp_nar .char x)) → W p l e R s m args below meth c H locs cells slots Q (F0 m (pc + 1) ls rest)) : W p l e R s m args below meth c H locs cells slots Q (F0 m pc ls (.int x :: .int i :: .ref (zh y a) :: rest)) := by
  obtain ⟨q0, hq⟩ := zW_at (y := y) ha.1
  have hq' := hq
  rw [zF_at ha.2] at hq
  obtain ⟨hP, hD, hS, hK, hA, hE⟩ := hM
  refine z_tight hS.1 (fun c9 h8 h9 => ?_)
  refine va_cast X.1 X.2.1 hK hP hD (z_Srf hS) q0 0 hq rfl hin hdg (fun H1 locs1 hP1 hD1 hS1 => ?_)
  refine z_loose h9 (fun h7 => ?_)
  have hz9 : H1.size = H.size := Nat.le_antisymm (h8 ▸ h7) hS1.1
  rw [zW_set (S' := zsA S a i.toNatClampNeg (vp_nar .char x)) hE.2.2.1 hD hq' rfl (by rw [zF_at (S := zsA S a i.toNatClampNeg (vp_nar .char x)) ha.2]; show zC y 13 _ _ _ (va_up (zA S) a _ a) _ = _; rw [va_up_self]; rfl) (fun b hb => zF_sA hb)] at hP1
  exact kk H1 locs1 ⟨hP1, zW_D (S := S) rfl hD, z_Str hS hS1, hK, hA, hE.1, zG_put hE.2 hz9 rfl⟩
theorem z_aald {k t0 : Nat} {C : String} (X : CallFix p m c cc nL s args Ts own) (hM : zH D y A0 s H locs S) (hC : ∀ (I : Nat → Int32) (P : Nat → Option Nat) (n : Nat) (A : Nat → Int32) (B : Nat → Option Nat), zC y k I P n A B = .inl (y k, n, .inr (.inr (.inr (.inr B))))) (ht : (zT y)[t0]? = some (y k, .object C)) (ha : a ∈ zL S ∧ zK S a = k) {i : Int32} (hin : vp_in i (zN S a)) (hdg : decode cc pc = .ok (.aaload, 1))
    (kk : W p l e R s m args below meth c H locs cells slots Q (F0 m (pc + 1) ls (va_rf ((zB S a i.toNatClampNeg).map (zh y)) :: rest))) : W p l e R s m args below meth c H locs cells slots Q (F0 m pc ls (.int i :: .ref (zh y a) :: rest)) := by
  obtain ⟨q0, hq⟩ := zW_at (y := y) ha.1
  rw [zF_at ha.2, hC] at hq
  exact va_aldq X.1 X.2.1 hM.2.2.2.1 hM.1 q0 t0 hq ht hin hdg kk
theorem z_alenC (X : CallFix p m c cc nL s args Ts own) (hM : zH D y A0 s H locs S) (ha0 : a = 0 ∨ zK S a = 13) (hdg : decode cc pc = .ok (.arraylength, 1))
    (kk : W p l e R s m args below meth c H locs cells slots Q (F0 m (pc + 1) ls (.int (Int32.ofNat (if a = 0 then 0 else zN S a)) :: rest))) : W p l e R s m args below meth c H locs cells slots Q (F0 m pc ls (.ref (zh y a) :: rest)) := by
  by_cases h0 : a = 0
  · subst h0
    rw [if_pos rfl] at kk
    exact va_tlen X.1 X.2.1 hM.2.2.2.2.2.1.2.2.2.2.2.2.2.2.2 hM.2.2.1 rfl hdg kk
  · rw [if_neg h0] at kk
    have ha := z_in hM (by decide) (ha0.resolve_left h0)
    obtain ⟨q0, hq⟩ := zW_at (y := y) ha.1
    rw [zF_at ha.2] at hq
    exact va_alen X.1 X.2.1 hM.2.2.2.1 hM.1 q0 0 hq rfl rfl hdg kk
theorem z_copyi {b index : Nat} (X : CallFix p m c cc nL s args Ts own) (hM : zH D y A0 s H locs S) (hml : c.maxLocals = ls.size) (h1 : Cond.methodLink own index arraycopyName ∈ Ts ∧ Cond.native arraycopyName ∈ Ts) (h2 : Cond.static arraycopyName ∈ Ts ∧ Cond.initialized "java/lang/System" ∈ Ts) (hb : b ∈ zL S ∧ zK S b = 14) (ha : a ∈ zL S ∧ zK S a = 14) {sp dp n : Int32} (hc : ¬ sp < 0 ∧ ¬ dp < 0 ∧ ¬ n < 0 ∧ sp.toNatClampNeg + n.toNatClampNeg ≤ zN S b ∧ dp.toNatClampNeg + n.toNatClampNeg ≤ zN S a) (hfr : 1 ≤ R.frames) (hlo : (rest.map fun v => v.category).sum + (nativeFrameWords "java/lang/System" "arraycopy" 5 + 11) ≤ R.locals) (hdg : decode cc pc = .ok (.invokestatic index, 3))
    (kk : ∀ (H : Heap) (locs : List Loc), zH D y A0 s H locs (zsC S b a sp.toNatClampNeg dp.toNatClampNeg n.toNatClampNeg) → W p l e R s m args below meth c H locs cells slots Q (F0 m (pc + 3) ls rest)) : W p l e R s m args below meth c H locs cells slots Q (F0 m pc ls (.int n :: .int dp :: .ref (zh y a) :: .int sp :: .ref (zh y b) :: rest)) := by
  obtain ⟨q0, hq0⟩ := zW_at (y := y) hb.1
  rw [zF_at hb.2] at hq0
  obtain ⟨q1, hq⟩ := zW_at (y := y) ha.1
  have hq' := hq
  rw [zF_at ha.2] at hq
  obtain ⟨hP, hD, hS, hK, hA, hE⟩ := hM
  refine z_tight hS.1 (fun c9 h8 h9 => ?_)
  refine va_copyi X.1 X.2.1 hml X.2.2.2.1 (X.2.2.2.2 _ h1.1) (X.2.2.2.2 _ h1.2) (X.2.2.2.2 _ h2.1) (X.2.2.2.2 _ h2.2) hK hP hD (z_Srf hS) q0 q1 1 1 hq0 hq rfl rfl rfl hc.1 hc.2.1 hc.2.2.1 hc.2.2.2.1 hc.2.2.2.2 (fun _ _ => rfl) hfr hlo hdg (fun H1 locs1 hP1 hD1 hS1 => ?_)
  refine z_loose h9 (fun h7 => ?_)
  have hz9 : H1.size = H.size := Nat.le_antisymm (h8 ▸ h7) hS1.1
  rw [zW_set (S' := zsC S b a sp.toNatClampNeg dp.toNatClampNeg n.toNatClampNeg) hE.2.2.1 hD hq' rfl (by rw [zF_at (S := zsC S b a sp.toNatClampNeg dp.toNatClampNeg n.toNatClampNeg) ha.2]; show zC y 14 _ _ _ (va_up (zA S) a _ a) _ = _; rw [va_up_self]; rfl) (fun b hb => zF_sC hb)] at hP1
  exact kk H1 locs1 ⟨hP1, zW_D (S := S) rfl hD, z_Str hS hS1, hK, hA, hE.1, zG_put hE.2 hz9 rfl⟩
theorem z_copyc1 {b index : Nat} (X : CallFix p m c cc nL s args Ts own) (hM : zH D y A0 s H locs S) (hml : c.maxLocals = ls.size) (h1 : Cond.methodLink own index arraycopyName ∈ Ts ∧ Cond.native arraycopyName ∈ Ts) (h2 : Cond.static arraycopyName ∈ Ts ∧ Cond.initialized "java/lang/System" ∈ Ts) (hb : b ∈ zL S ∧ zK S b = 13) (ha : a ∈ zL S ∧ zK S a = 13) {sp dp n : Int32} (hc : ¬ sp < 0 ∧ ¬ dp < 0 ∧ ¬ n < 0 ∧ sp.toNatClampNeg + n.toNatClampNeg ≤ zN S b ∧ dp.toNatClampNeg + n.toNatClampNeg ≤ zN S a) (hfit : ∀ i, i < n.toNatClampNeg → fits .char (.int (zA S b (sp.toNatClampNeg + i))) = true) (hfr : 1 ≤ R.frames) (hlo : (rest.map fun v => v.category).sum + (nativeFrameWords "java/lang/System" "arraycopy" 5 + 11) ≤ R.locals) (hdg : decode cc pc = .ok (.invokestatic index, 3))
    (kk : ∀ (H : Heap) (locs : List Loc), zH D y A0 s H locs (zsC S b a sp.toNatClampNeg dp.toNatClampNeg n.toNatClampNeg) → W p l e R s m args below meth c H locs cells slots Q (F0 m (pc + 3) ls rest)) : W p l e R s m args below meth c H locs cells slots Q (F0 m pc ls (.int n :: .int dp :: .ref (zh y a) :: .int sp :: .ref (zh y b) :: rest)) := by
  obtain ⟨q0, hq0⟩ := zW_at (y := y) hb.1
  rw [zF_at hb.2] at hq0
  obtain ⟨q1, hq⟩ := zW_at (y := y) ha.1
  have hq' := hq
  rw [zF_at ha.2] at hq
  obtain ⟨hP, hD, hS, hK, hA, hE⟩ := hM
  refine z_tight hS.1 (fun c9 h8 h9 => ?_)
  refine va_copyi X.1 X.2.1 hml X.2.2.2.1 (X.2.2.2.2 _ h1.1) (X.2.2.2.2 _ h1.2) (X.2.2.2.2 _ h2.1) (X.2.2.2.2 _ h2.2) hK hP hD (z_Srf hS) q0 q1 0 0 hq0 hq rfl rfl rfl hc.1 hc.2.1 hc.2.2.1 hc.2.2.2.1 hc.2.2.2.2 hfit hfr hlo hdg (fun H1 locs1 hP1 hD1 hS1 => ?_)
  refine z_loose h9 (fun h7 => ?_)
  have hz9 : H1.size = H.size := Nat.le_antisymm (h8 ▸ h7) hS1.1
  rw [zW_set (S' := zsC S b a sp.toNatClampNeg dp.toNatClampNeg n.toNatClampNeg) hE.2.2.1 hD hq' rfl (by rw [zF_at (S := zsC S b a sp.toNatClampNeg dp.toNatClampNeg n.toNatClampNeg) ha.2]; show zC y 13 _ _ _ (va_up (zA S) a _ a) _ = _; rw [va_up_self]; rfl) (fun b hb => zF_sC hb)] at hP1
  exact kk H1 locs1 ⟨hP1, zW_D (S := S) rfl hD, z_Str hS hS1, hK, hA, hE.1, zG_put hE.2 hz9 rfl⟩
theorem z_copy0 {index : Nat} (X : CallFix p m c cc nL s args Ts own) (hM : zH D y A0 s H locs S) (hml : c.maxLocals = ls.size) (h1 : Cond.methodLink own index arraycopyName ∈ Ts ∧ Cond.native arraycopyName ∈ Ts) (h2 : Cond.static arraycopyName ∈ Ts ∧ Cond.initialized "java/lang/System" ∈ Ts) (ha : a ∈ zL S ∧ zK S a = 13) (hfr : 1 ≤ R.frames) (hlo : (rest.map fun v => v.category).sum + (nativeFrameWords "java/lang/System" "arraycopy" 5 + 11) ≤ R.locals) (hdg : decode cc pc = .ok (.invokestatic index, 3))
    (kk : W p l e R s m args below meth c H locs cells slots Q (F0 m (pc + 3) ls rest)) : W p l e R s m args below meth c H locs cells slots Q (F0 m pc ls (.int 0 :: .int 0 :: .ref (zh y a) :: .int 0 :: .ref (y 50) :: rest)) := by
  obtain ⟨q1, hq⟩ := zW_at (y := y) ha.1
  rw [zF_at ha.2] at hq
  have hc1 : H[zh y a]? = some (vp_cell (y 13) (zN S a, .inl (zA S a))) := hM.1 q1 _ hq
  obtain ⟨cell, g1, ⟨g2, k0, hk0, cm0, hkk0⟩, g3, -, -, -, g7⟩ := hM.2.2.2.2.2.1.2.2.2.2.2.2.2.2.2
  obtain ⟨-, k1, hk1, cm1, hkk1⟩ := (hM.2.2.2.1.2 0 (y 13, .char) rfl).1 (zN S a) (fun j => .int (zA S a j))
  have g8 : H[y 50]? = some cell := by
    rw [hM.2.2.1.2.1 (y 50) (Array.getElem?_eq_some_iff.mp g1).1 g7]; exact g1
  intro T hT X1
  obtain ⟨vm', X', step⟩ := X1.arraycopy X.1 X.2.2.2.1 (X.2.2.2.2 _ h1.1) (X.2.2.2.2 _ h1.2) (X.2.2.2.2 _ h2.1) (X.2.2.2.2 _ h2.2) (src := y 50) (dst := zh y a) (cs := cell) (cd := vp_cell (y 13) (zN S a, .inl (zA S a))) (srcPos := 0) (destPos := 0) (n := 0) (by rw [hT]; exact g8) (by rw [hT]; exact hc1)
    g2 (fun _ h => by cases h) g3 (fun h => by cases h) hk0 hk1 hkk0 hkk1 rfl (by decide) (by decide) (by decide)
    (by show ¬ (0 : Int) + 0 > (cell.slots.size : Int); omega) (by show ¬ (0 : Int) + 0 > _; omega) (fun vm₁ _ i hi => absurd hi (Nat.not_lt_zero _))
    (g := F0 m pc ls (.int 0 :: .int 0 :: .ref (zh y a) :: .int 0 :: .ref (y 50) :: rest)) rfl (by rw [hml]) (rest := rest) rfl (by rw [X.2.1]; exact hdg) hfr (by show 2 * 0 + _ + _ ≤ _; omega)
  have e1 : copied cell (vp_cell (y 13) (zN S a, .inl (zA S a))) 0 0 0 = vp_cell (y 13) (zN S a, .inl (zA S a)) := rfl
  rw [e1] at X' step
  have e2 : locs ++ (cell.stretch (0 : Int32).toNatClampNeg (0 : Int32).toNatClampNeg).zipIdx.map (fun q => (⟨zh y a, (0 : Int32).toNatClampNeg + q.2⟩ : Loc)) = locs := List.append_nil locs
  rw [e2] at X'
  have hheap : ((T.setVm vm').setCell (zh y a) (vp_cell (y 13) (zN S a, .inl (zA S a)))).heap = H := by
    have h9 : ((T.setVm vm').setCell (zh y a) (vp_cell (y 13) (zN S a, .inl (zA S a)))).heap = H.setIfInBounds (zh y a) (vp_cell (y 13) (zN S a, .inl (zA S a))) := by rw [← hT]; rfl
    rw [h9]
    refine Array.ext_getElem? (fun i => ?_)
    rw [Array.getElem?_setIfInBounds]
    by_cases hi : zh y a = i
    · rw [if_pos hi, if_pos (Array.getElem?_eq_some_iff.mp hc1).1, ← hi, hc1]
    · rw [if_neg hi]
  obtain ⟨t, a1, b1⟩ := kk _ hheap X'
  exact ⟨t, step t a1, b1⟩
theorem zs_D0 {S : ZS} {b a : Nat} {sp dp n : Nat} (hb : b = 0) : zsD S b a sp dp n = S := by
  obtain ⟨s1, s2, s3, s4, s5, s6, s7, s8, s9, s10⟩ := S
  unfold zsD
  rw [if_pos hb]
  have h1 : va_up s6 a (s6 a) = s6 := by
    funext i
    by_cases hi : i = a
    · subst hi; rw [va_up_self]
    · rw [va_up_ne _ _ hi]
  show (s1, s2, s3, s4, s5, va_up s6 a (s6 a), s7, s8, s9, s10) = _
  rw [h1]
theorem zs_D1 {S : ZS} {b a : Nat} {sp dp n : Nat} (hb : ¬ b = 0) : zsD S b a sp dp n = zsC S b a sp dp n := by
  unfold zsD zsC
  rw [if_neg hb]
/-- a copy of chars; out of the row that holds nothing just nothing is copied -/
theorem z_copyc {b index : Nat} (X : CallFix p m c cc nL s args Ts own) (hM : zH D y A0 s H locs S) (hml : c.maxLocals = ls.size) (h1 : Cond.methodLink own index arraycopyName ∈ Ts ∧ Cond.native arraycopyName ∈ Ts) (h2 : Cond.static arraycopyName ∈ Ts ∧ Cond.initialized "java/lang/System" ∈ Ts) (ha : a ∈ zL S ∧ zK S a = 13) {n : Int32} (hc : (b = 0 ∧ n = 0) ∨ (zK S b = 13 ∧ ¬ b = 0 ∧ ¬ n < 0 ∧ n.toNatClampNeg ≤ zN S b ∧ n.toNatClampNeg ≤ zN S a ∧ ∀ i, i < n.toNatClampNeg → fits .char (.int (zA S b i)) = true)) (hfr : 1 ≤ R.frames) (hlo : (rest.map fun v => v.category).sum + (nativeFrameWords "java/lang/System" "arraycopy" 5 + 11) ≤ R.locals) (hdg : decode cc pc = .ok (.invokestatic index, 3))
    (kk : ∀ (H : Heap) (locs : List Loc), zH D y A0 s H locs (zsD S b a 0 0 n.toNatClampNeg) → W p l e R s m args below meth c H locs cells slots Q (F0 m (pc + 3) ls rest)) : W p l e R s m args below meth c H locs cells slots Q (F0 m pc ls (.int n :: .int 0 :: .ref (zh y a) :: .int 0 :: .ref (zh y b) :: rest)) := by
  rcases hc with ⟨hb, hn⟩ | ⟨hb, hb0, hn, hn1, hn2, hft⟩
  · subst hn
    have hk := kk H locs
    rw [zs_D0 hb] at hk
    rw [show zh y b = y 50 by rw [hb]; rfl]
    exact z_copy0 X hM hml h1 h2 ha hfr hlo hdg (hk hM)
  · refine z_copyc1 X hM hml h1 h2 (z_in hM (by decide) hb) ha ⟨by decide, by decide, hn, by show 0 + _ ≤ _; omega, by show 0 + _ ≤ _; omega⟩ (fun i hi => by show fits .char (.int (zA S b (0 + i))) = true; rw [Nat.zero_add]; exact hft i hi) hfr hlo hdg (fun H1 locs1 hM1 => kk H1 locs1 (by rw [zs_D1 hb0]; exact hM1))
theorem z_newC (X : CallFix p m c cc nL s args Ts own) (hM : zH D y A0 s H locs S) (harr : Cond.arrayClass .char ∈ Ts) {n : Int32} (hn : ¬ n < 0) (hbytes : n.toNatClampNeg * componentBytes .char ≤ 536870912) (hcs : cells + 1 ≤ R.cells ∧ slots + n.toNatClampNeg ≤ R.slots) (hdg : decode cc pc = .ok (.newarray .char, 2))
    (kk : ∀ (q : Nat) (H : Heap), q = zt S → zH D y A0 s H locs (zsNewA S q 13 n.toNatClampNeg) → W p l e R s m args below meth c H locs (cells + 1) (slots + n.toNatClampNeg) Q (F0 m (pc + 2) ls (.ref (zh y q) :: rest))) : W p l e R s m args below meth c H locs cells slots Q (F0 m pc ls (.int n :: rest)) := by
  obtain ⟨hP, hD, hS, hK, hA, hE⟩ := hM
  refine va_newaK (atype := .char) X.1 X.2.1 (X.2.2.2.2 _ harr) rfl hdg rfl hn rfl hbytes hcs.1 hcs.2 (zG_ad hE.2) (fun H1 cA e1 z1 o1 hAr hNm => ?_)
  have e2 : va_RA s (y 13) .char := (hK.2 0 (y 13, .char) rfl).2
  have e3 : cA = y 13 := Option.some.inj ((show s.vm.findClass _ = some cA from hNm).symm.trans e2)
  subst e3
  have hq := zW_fresh hP hE.2
  have hW := zW_new (y := y) (S := S) (S' := zsNewA S (zt S) 13 n.toNatClampNeg) (e := .inl (y 13, n.toNatClampNeg, .inl (fun _ => 0))) hq rfl (by rw [zF_at (k := 13) (va_up_self _ _ _)]; show (.inl (y 13, va_up (zN S) (zt S) _ (zt S), .inl (va_up (zA S) (zt S) _ (zt S))) : va_E) = _; rw [va_up_self, va_up_self]) (fun b hb => zF_nA hb)
  refine kk (zt S) H1 rfl (z_new9 (e := (y 13, n.toNatClampNeg, .inl (fun _ => 0))) hP hD hS hK hA hE e1 z1 o1 hW rfl)
theorem z_newI (X : CallFix p m c cc nL s args Ts own) (hM : zH D y A0 s H locs S) (harr : Cond.arrayClass .int ∈ Ts) {n : Int32} (hn : ¬ n < 0) (hbytes : n.toNatClampNeg * componentBytes .int ≤ 536870912) (hcs : cells + 1 ≤ R.cells ∧ slots + n.toNatClampNeg ≤ R.slots) (hdg : decode cc pc = .ok (.newarray .int, 2))
    (kk : ∀ (q : Nat) (H : Heap), q = zt S → zH D y A0 s H locs (zsNewA S q 14 n.toNatClampNeg) → W p l e R s m args below meth c H locs (cells + 1) (slots + n.toNatClampNeg) Q (F0 m (pc + 2) ls (.ref (zh y q) :: rest))) : W p l e R s m args below meth c H locs cells slots Q (F0 m pc ls (.int n :: rest)) := by
  obtain ⟨hP, hD, hS, hK, hA, hE⟩ := hM
  refine va_newaK (atype := .int) X.1 X.2.1 (X.2.2.2.2 _ harr) rfl hdg rfl hn rfl hbytes hcs.1 hcs.2 (zG_ad hE.2) (fun H1 cA e1 z1 o1 hAr hNm => ?_)
  have e2 : va_RA s (y 14) .int := (hK.2 1 (y 14, .int) rfl).2
  have e3 : cA = y 14 := Option.some.inj ((show s.vm.findClass _ = some cA from hNm).symm.trans e2)
  subst e3
  have hq := zW_fresh hP hE.2
  have hW := zW_new (y := y) (S := S) (S' := zsNewA S (zt S) 14 n.toNatClampNeg) (e := .inl (y 14, n.toNatClampNeg, .inl (fun _ => 0))) hq rfl (by rw [zF_at (k := 14) (va_up_self _ _ _)]; show (.inl (y 14, va_up (zN S) (zt S) _ (zt S), .inl (va_up (zA S) (zt S) _ (zt S))) : va_E) = _; rw [va_up_self, va_up_self]) (fun b hb => zF_nA hb)
  refine kk (zt S) H1 rfl (z_new9 (e := (y 14, n.toNatClampNeg, .inl (fun _ => 0))) hP hD hS hK hA hE e1 z1 o1 hW rfl)
theorem z_mmax {index : Nat} (X : CallFix p m c cc nL s args Ts own) (hml : c.maxLocals = ls.size) (h1 : Cond.methodLink own index Lib.Math.max.name ∈ Ts ∧ Cond.static Lib.Math.max.name ∈ Ts) (h2 : Cond.initialized "java/lang/Math" ∈ Ts ∧ Cond.code Lib.Math.max.name Lib.Math.max.code 2 (some .int) ∈ Ts) (hfr : 1 ≤ R.frames) (hlo : (rest.map fun v => v.category).sum + 13 ≤ R.locals) (hcs : cells ≤ R.cells ∧ slots ≤ R.slots) {x w : Int32} (hdg : decode cc pc = .ok (.invokestatic index, 3))
    (kk : W p l e R s m args below meth c H locs cells slots Q (F0 m (pc + 3) ls (.int (if x < w then w else x) :: rest))) : W p l e R s m args below meth c H locs cells slots Q (F0 m pc ls (.int w :: .int x :: rest)) :=
  va_mmax X.1 X.2.1 hml X.2.2.2.1 (X.2.2.2.2 _ h1.1) (X.2.2.2.2 _ h1.2) (X.2.2.2.2 _ h2.1) (X.2.2.2.2 _ h2.2) hfr hlo hcs.1 hcs.2 hdg kk
theorem z_mmin {index : Nat} (X : CallFix p m c cc nL s args Ts own) (hml : c.maxLocals = ls.size) (h1 : Cond.methodLink own index Lib.Math.min.name ∈ Ts ∧ Cond.static Lib.Math.min.name ∈ Ts) (h2 : Cond.initialized "java/lang/Math" ∈ Ts ∧ Cond.code Lib.Math.min.name Lib.Math.min.code 2 (some .int) ∈ Ts) (hfr : 1 ≤ R.frames) (hlo : (rest.map fun v => v.category).sum + 13 ≤ R.locals) (hcs : cells ≤ R.cells ∧ slots ≤ R.slots) {x w : Int32} (hdg : decode cc pc = .ok (.invokestatic index, 3))
    (kk : W p l e R s m args below meth c H locs cells slots Q (F0 m (pc + 3) ls (.int (if w < x then w else x) :: rest))) : W p l e R s m args below meth c H locs cells slots Q (F0 m pc ls (.int w :: .int x :: rest)) :=
  va_mmin X.1 X.2.1 hml X.2.2.2.1 (X.2.2.2.2 _ h1.1) (X.2.2.2.2 _ h1.2) (X.2.2.2.2 _ h2.1) (X.2.2.2.2 _ h2.2) hfr hlo hcs.1 hcs.2 hdg kk
theorem z_ldcS {index i : Nat} {tx : String} (X : CallFix p m c cc nL s args Ts own) (hM : zH D y A0 s H locs S) (hr : (own, index, tx, i) ∈ zSR) (hdg : decode cc pc = .ok (.ldc index, 2))
    (kk : W p l e R s m args below meth c H locs cells slots Q (F0 m (pc + 2) ls (.ref (y (100 + i)) :: rest))) : W p l e R s m args below meth c H locs cells slots Q (F0 m pc ls rest) :=
  va_ldcS X.1 X.2.1 X.2.2.2.1 (hM.2.2.2.2.2.1.2.2.1 _ hr) hdg kk
theorem z_ldcwS {index i : Nat} {tx : String} (X : CallFix p m c cc nL s args Ts own) (hM : zH D y A0 s H locs S) (hr : (own, index, tx, i) ∈ zSR) (hdg : decode cc pc = .ok (.ldc_w index, 3))
    (kk : W p l e R s m args below meth c H locs cells slots Q (F0 m (pc + 3) ls (.ref (y (100 + i)) :: rest))) : W p l e R s m args below meth c H locs cells slots Q (F0 m pc ls rest) := by
  have hZ := hM.2.2.2.2.2.1.2.2.1 _ hr
  intro T hT Y
  obtain ⟨t, a1, b1⟩ := kk T hT Y
  have h9 := hZ
  obtain ⟨k, cf, i9, a9, hk, hcf, hcp, -, hr9, hev⟩ := Cond.stringRef_spec (args := #[]) X.2.2.2.1 h9.1
  have ha : a9 = y (100 + i) := by
    have := h9.2.symm.trans hev
    injection this with this
    injection this with this
    exact this.symm
  subst ha
  obtain ⟨k', hk', he⟩ := Y.warmed.alike.2.2 _ _ hk
  have hr' : k'.resolved[index]? = some (some (.string (y (100 + i)))) := by
    rcases Y.warmed.entry hk hk' index with h | ⟨h, -⟩
    · rw [h]; exact hr9
    · rw [hr9] at h; cases h
  refine ⟨t, ?_, b1⟩
  jvm_step Y.here [X.1, X.2.1, hdg, ldc_w.wp_string (e := e) (s := T) (f := F0 m pc ls rest) Y.here.top hk' (by rw [he]; exact hcf) hcp hr']
  exact a1
theorem z_sval {index i : Nat} (X : CallFix p m c cc nL s args Ts own) (hM : zH D y A0 s H locs S) (hi : i < zSn) (hl : Cond.fieldLink own index "java/lang/String" "value" "[B" ∈ Ts) (hdg : decode cc pc = .ok (.getfield index, 3))
    (kk : W p l e R s m args below meth c H locs cells slots Q (F0 m (pc + 3) ls (.ref (y (200 + i)) :: rest))) : W p l e R s m args below meth c H locs cells slots Q (F0 m pc ls (.ref (y (100 + i)) :: rest)) :=
  vk_getf X.1 X.2.1 ((hM.2.2.2.2.2.1.2.1).1 i hi).2.2.1 hM.2.2.1 X.2.2.2.1 (X.2.2.2.2 _ hl) (fun _ h9 => h9) hdg kk
theorem z_scod {index i : Nat} (X : CallFix p m c cc nL s args Ts own) (hM : zH D y A0 s H locs S) (hi : i < zSn) (hl : Cond.fieldLink own index "java/lang/String" "coder" "B" ∈ Ts) (hdg : decode cc pc = .ok (.getfield index, 3))
    (kk : W p l e R s m args below meth c H locs cells slots Q (F0 m (pc + 3) ls (.int 0 :: rest))) : W p l e R s m args below meth c H locs cells slots Q (F0 m pc ls (.ref (y (100 + i)) :: rest)) :=
  vk_getf X.1 X.2.1 ((hM.2.2.2.2.2.1.2.1).1 i hi).2.1 hM.2.2.1 X.2.2.2.1 (X.2.2.2.2 _ hl) (fun _ h9 => h9) hdg kk
theorem z_slen {i : Nat} (X : CallFix p m c cc nL s args Ts own) (hM : zH D y A0 s H locs S) (hi : i < zSn) (hdg : decode cc pc = .ok (.arraylength, 1))
    (kk : W p l e R s m args below meth c H locs cells slots Q (F0 m (pc + 1) ls (.int (Int32.ofNat (zSl.getD i 0)) :: rest))) : W p l e R s m args below meth c H locs cells slots Q (F0 m pc ls (.ref (y (200 + i)) :: rest)) :=
  va_tlen X.1 X.2.1 ((hM.2.2.2.2.2.1.2.1).1 i hi).2.2.2 hM.2.2.1 rfl hdg kk
theorem z_sbyt {i : Nat} {j : Int32} (X : CallFix p m c cc nL s args Ts own) (hM : zH D y A0 s H locs S) (hi : i < zSn) (hin : vp_in j (zSl.getD i 0)) (hdg : decode cc pc = .ok (.baload, 1))
    (kk : W p l e R s m args below meth c H locs cells slots Q (F0 m (pc + 1) ls (.int ((zSb.getD i []).getD j.toNatClampNeg 0) :: rest))) : W p l e R s m args below meth c H locs cells slots Q (F0 m pc ls (.int j :: .ref (y (200 + i)) :: rest)) :=
  va_tb X.1 X.2.1 ((hM.2.2.2.2.2.1.2.1).1 i hi).2.2.2 hM.2.2.1 hin rfl hdg kk
theorem z_compact {index : Nat} (X : CallFix p m c cc nL s args Ts own) (hM : zH D y A0 s H locs S) (hl : Cond.fieldLink own index "java/lang/String" "COMPACT_STRINGS" "Z" ∈ Ts) (hdg : decode cc pc = .ok (.getstatic index, 3))
    (kk : W p l e R s m args below meth c H locs cells slots Q (F0 m (pc + 3) ls (.int 1 :: rest))) : W p l e R s m args below meth c H locs cells slots Q (F0 m pc ls rest) :=
  va_gets X.1 X.2.1 hM.2.2.2.2.2.1.2.2.2.1 hM.2.2.1 X.2.2.2.1 (X.2.2.2.2 _ hl) (fun _ h9 => h9) hdg kk
theorem z_nochars {index : Nat} (X : CallFix p m c cc nL s args Ts own) (hM : zH D y A0 s H locs S) (hl : Cond.fieldLink own index "MoveTexts$Row" "NO_CHARS" "[C" ∈ Ts) (hdg : decode cc pc = .ok (.getstatic index, 3))
    (kk : W p l e R s m args below meth c H locs cells slots Q (F0 m (pc + 3) ls (.ref (zh y (zc S)) :: rest))) : W p l e R s m args below meth c H locs cells slots Q (F0 m pc ls rest) := by
  rw [hM.2.2.2.2.2.2.1, zh_0] at kk
  exact va_gets X.1 X.2.1 hM.2.2.2.2.2.1.2.2.2.2.1 hM.2.2.1 X.2.2.2.1 (X.2.2.2.2 _ hl) (fun _ h9 => h9) hdg kk
theorem z_frank {index : Nat} (X : CallFix p m c cc nL s args Ts own) (hM : zH D y A0 s H locs S) (hl : Cond.fieldLink own index "MoveTexts$Board" "FIRST_RANK" "[I" ∈ Ts) (hdg : decode cc pc = .ok (.getstatic index, 3))
    (kk : W p l e R s m args below meth c H locs cells slots Q (F0 m (pc + 3) ls (.ref (y 51) :: rest))) : W p l e R s m args below meth c H locs cells slots Q (F0 m pc ls rest) :=
  va_gets X.1 X.2.1 hM.2.2.2.2.2.1.2.2.2.2.2.1 hM.2.2.1 X.2.2.2.1 (X.2.2.2.2 _ hl) (fun _ h9 => h9) hdg kk
theorem z_frld {j : Int32} (X : CallFix p m c cc nL s args Ts own) (hM : zH D y A0 s H locs S) (hin : vp_in j 8) (hdg : decode cc pc = .ok (.iaload, 1))
    (kk : W p l e R s m args below meth c H locs cells slots Q (F0 m (pc + 1) ls (.int (zFR.getD j.toNatClampNeg 0) :: rest))) : W p l e R s m args below meth c H locs cells slots Q (F0 m pc ls (.int j :: .ref (y 51) :: rest)) :=
  va_ti X.1 X.2.1 hM.2.2.2.2.2.1.2.2.2.2.2.2.1 hM.2.2.1 hin rfl hdg kk
theorem z_form {index : Nat} (X : CallFix p m c cc nL s args Ts own) (hM : zH D y A0 s H locs S) (hl : Cond.fieldLink own index "jdk/internal/util/Preconditions" "SIOOBE_FORMATTER" "Ljava/util/function/BiFunction;" ∈ Ts) (hdg : decode cc pc = .ok (.getstatic index, 3))
    (kk : W p l e R s m args below meth c H locs cells slots Q (F0 m (pc + 3) ls (va_rf (zfo y) :: rest))) : W p l e R s m args below meth c H locs cells slots Q (F0 m pc ls rest) :=
  va_gets X.1 X.2.1 hM.2.2.2.2.2.1.2.2.2.2.2.2.2.1 hM.2.2.1 X.2.2.2.1 (X.2.2.2.2 _ hl) (fun _ h9 => h9) hdg kk
theorem z_putPF {k j N b : Nat} {C : String} {T : u_T} {ty0 : Nat → FieldType} {ty : FieldType} {fl : (Nat → Int32) → (Nat → Option Nat) → List Value} (X : CallFix p m c cc nL s args Ts own) (hw : ∀ w ∈ u_ws C T N, w ∈ Ts) (hty : ∀ k, k < N → parseFieldDescriptor (T k).2.2.1 = some (ty0 k)) (hnm : ∀ a, a < N → ∀ b, b < N → a ≠ b → (T a).2.1 ≠ (T b).2.1) (hM : zH D y A0 s H locs S) (hcl : vwCl[k]? = some (C, T, N)) (hC : ∀ (I : Nat → Int32) (P : Nat → Option Nat) (n : Nat) (A : Nat → Int32) (B : Nat → Option Nat), zC y k I P n A B = .inr (k, fl I P)) (ha : a ∈ zL S ∧ zK S a = k) (hj : j < N) {index : Nat} (hl : Cond.fieldLink own index (T j).1 (T j).2.1 (T j).2.2.1 ∈ Ts) (hfin : (T j).2.2.2 = true) (hin2 : meth.name = "<init>") (hdecl : (T j).1 = own) (hd : parseFieldDescriptor (T j).2.2.1 = some ty) (hn : narrow ty (.ref (zh y b)) = .ref (zh y b)) (hfit : fits ty (.ref (zh y b)) = true) (hset : ∀ (I : Nat → Int32) (P : Nat → Option Nat), (fl I P).set j (.ref (zh y b)) = fl I (va_up P j (some (zh y b)))) (hlen : j < (fl (fun i => zI S i a) (fun i => (zP S i a).map (zh y))).length) (hdg : decode cc pc = .ok (.putfield index, 3))
    (kk : ∀ (H : Heap) (locs : List Loc), zH D y A0 s H locs (zsP S j a (some b)) → W p l e R s m args below meth c H locs cells slots Q (F0 m (pc + 3) ls rest)) : W p l e R s m args below meth c H locs cells slots Q (F0 m pc ls (.ref (zh y b) :: .ref (zh y a) :: rest)) := by
  obtain ⟨q0, hq⟩ := zW_at (y := y) ha.1
  have hq' := hq
  rw [zF_at ha.2, hC] at hq
  obtain ⟨hP, hD, hS, hK, hA, hE⟩ := hM
  refine z_tight hS.1 (fun c9 h8 h9 => ?_)
  refine va_putF (D := D) (ci := k) (v := .ref (zh y b)) (ty := ty) (C := C) (T := T) (N := N) X.1 X.2.1 X.2.2.2.2 hw ty0 hty hnm X.2.2.2.1 hK hP hD (z_Srf hS) q0 hq hcl j hj (X.2.2.2.2 _ hl) (fun _ h9 => h9) hfin hin2 hdecl hd hn hfit hlen hdg (fun H1 locs1 hP1 hD1 hS1 => ?_)
  refine z_loose h9 (fun h7 => ?_)
  have hz9 : H1.size = H.size := Nat.le_antisymm (h8 ▸ h7) hS1.1
  rw [zW_set (S' := zsP S j a (some b)) hE.2.2.1 hD hq' rfl (by rw [zF_at (S := zsP S j a (some b)) ha.2, hC, hset, ← z_colPm]; rfl) (fun b hb => zF_sP hb)] at hP1
  exact kk H1 locs1 ⟨hP1, zW_D (S := S) rfl hD, z_Str hS hS1, hK, hA, hE.1, zG_put hE.2 hz9 rfl⟩
theorem z_aast {k t0 kv N v : Nat} {C : String} {T : u_T} {fl : (Nat → Int32) → (Nat → Option Nat) → List Value} (X : CallFix p m c cc nL s args Ts own) (hM : zH D y A0 s H locs S) (hC : ∀ (I : Nat → Int32) (P : Nat → Option Nat) (n : Nat) (A : Nat → Int32) (B : Nat → Option Nat), zC y k I P n A B = .inl (y k, n, .inr (.inr (.inr (.inr B))))) (ht : (zT y)[t0]? = some (y k, .object C)) (hcl : vwCl[kv]? = some (C, T, N)) (hCv : ∀ (I : Nat → Int32) (P : Nat → Option Nat) (n : Nat) (A : Nat → Int32) (B : Nat → Option Nat), zC y kv I P n A B = .inr (kv, fl I P)) (ha : a ∈ zL S ∧ zK S a = k) (hv : v ∈ zL S ∧ zK S v = kv) {i : Int32} (hin : vp_in i (zN S a)) (hdg : decode cc pc = .ok (.aastore, 1))
    (kk : ∀ (H : Heap) (locs : List Loc), zH D y A0 s H locs (zsB S a i.toNatClampNeg (some v)) → W p l e R s m args below meth c H locs cells slots Q (F0 m (pc + 1) ls rest)) : W p l e R s m args below meth c H locs cells slots Q (F0 m pc ls (.ref (zh y v) :: .int i :: .ref (zh y a) :: rest)) := by
  obtain ⟨q0, hq⟩ := zW_at (y := y) ha.1
  have hq' := hq
  rw [zF_at ha.2, hC] at hq
  obtain ⟨q1, hq1⟩ := zW_at (y := y) hv.1
  rw [zF_at hv.2, hCv] at hq1
  obtain ⟨hP, hD, hS, hK, hA, hE⟩ := hM
  refine z_tight hS.1 (fun c9 h8 h9 => ?_)
  refine va_astq (r := (C, T, N)) X.1 X.2.1 hK hP hD (z_Srf hS) q0 t0 q1 kv hq ht hq1 hcl hin hdg (fun H1 locs1 hP1 hD1 hS1 => ?_)
  refine z_loose h9 (fun h7 => ?_)
  have hz9 : H1.size = H.size := Nat.le_antisymm (h8 ▸ h7) hS1.1
  rw [zW_set (S' := zsB S a i.toNatClampNeg (some v)) hE.2.2.1 hD hq' rfl (by rw [zF_at (S := zsB S a i.toNatClampNeg (some v)) ha.2, hC, z_colBm]; rfl) (fun b hb => zF_sB hb)] at hP1
  exact kk H1 locs1 ⟨hP1, zW_D (S := S) rfl hD, z_Str hS hS1, hK, hA, hE.1, zG_put hE.2 hz9 rfl⟩
theorem z_newR {k t0 index : Nat} {C : String} (X : CallFix p m c cc nL s args Ts own) (hM : zH D y A0 s H locs S) (hC : ∀ (I : Nat → Int32) (P : Nat → Option Nat) (n : Nat) (A : Nat → Int32) (B : Nat → Option Nat), zC y k I P n A B = .inl (y k, n, .inr (.inr (.inr (.inr B))))) (ht : (zT y)[t0]? = some (y k, .object C)) (hao : C ∈ zAO) (hcl : Cond.classLink own index C ∈ Ts) {n : Int32} (hn : ¬ n < 0) (hbytes : n.toNatClampNeg * 4 ≤ 536870912) (hcs : cells + 1 ≤ R.cells ∧ slots + n.toNatClampNeg ≤ R.slots) (hdg : decode cc pc = .ok (.anewarray index, 3))
    (kk : ∀ (q : Nat) (H : Heap), q = zt S → zH D y A0 s H locs (zsNewA S q k n.toNatClampNeg) → W p l e R s m args below meth c H locs (cells + 1) (slots + n.toNatClampNeg) Q (F0 m (pc + 3) ls (.ref (zh y q) :: rest))) : W p l e R s m args below meth c H locs cells slots Q (F0 m pc ls (.int n :: rest)) := by
  obtain ⟨hP, hD, hS, hK, hA, hE⟩ := hM
  refine W.anew X.1 X.2.1 X.2.2.2.1 (X.2.2.2.2 _ hcl) (va_AO.use (hE.1.2.2.2.2.2.2.2.2.1 _ hao)) rfl hdg rfl hn hbytes hcs.1 hcs.2 fun cA kA comp f1 f2 f3 f4 => ?_
  obtain ⟨-, -, -, -, -, e2⟩ : va_RA s (y k) (.object C) := (hK.2 t0 (y k, .object C) ht).2
  have e3 : cA = y k := Option.some.inj (f1.symm.trans e2)
  subst e3
  have hz9 := zG_ad hE.2
  have hq := zW_fresh hP hE.2
  have hW := zW_new (y := y) (S := S) (S' := zsNewA S (zt S) k n.toNatClampNeg) (e := .inl (y k, n.toNatClampNeg, .inr (.inr (.inr (.inr (fun _ => none)))))) hq rfl (by rw [zF_at (k := k) (va_up_self _ _ _), hC]; show (.inl (y k, va_up (zN S) (zt S) _ (zt S), .inr (.inr (.inr (.inr (fun i => (va_up (zB S) (zt S) _ (zt S) i).map (zh y)))))) : va_E) = _; rw [va_up_self, va_up_self]; rfl) (fun b hb => zF_nA hb)
  generalize hH1 : H.push ({ cls := y k, slots := Array.replicate n.toNatClampNeg .null, vm := .none } : Cell) = H1
  have z1 : H1.size = H.size + 1 := by rw [← hH1, Array.size_push]
  have e1 : H1[H.size]? = some (arrV (y k) n.toNatClampNeg (fun _ => .null)) := by rw [← hH1, Array.getElem?_push_size, ← arrV_new]
  have o1 : ∀ q : Nat, q < H.size → H1[q]? = H[q]? := fun q hq => by rw [← hH1, Array.getElem?_push, if_neg (Nat.ne_of_lt hq)]
  rw [hz9] at e1
  have hK9 := kk (zt S) H1 rfl (z_new9 (e := (y k, n.toNatClampNeg, .inr (.inr (.inr (.inr (fun _ => none)))))) hP hD hS hK hA hE (by rw [vp_cell_q]; exact e1) (by rw [z1, hz9]) (by rw [← hz9]; exact o1) hW rfl)
  rw [← hz9] at hK9
  exact hK9
theorem z_obj {index : Nat} (X : CallFix p m c cc nL s args Ts own) (hml : c.maxLocals = ls.size) (h1 : Cond.methodLink own index objectInit ∈ Ts ∧ Cond.instanceMethod objectInit ∈ Ts) (h2 : Cond.code objectInit ⟨#[0xb1]⟩ 1 none ∈ Ts) (hfr : 1 ≤ R.frames) (hlo : (rest.map fun v => v.category).sum + 12 ≤ R.locals) (hdg : decode cc pc = .ok (.invokespecial index, 3))
    (kk : W p l e R s m args below meth c H locs cells slots Q (F0 m (pc + 3) ls rest)) : W p l e R s m args below meth c H locs cells slots Q (F0 m pc ls (.ref (zh y a) :: rest)) :=
  W.objInit X.1 X.2.1 X.2.2.2.1 (X.2.2.2.2 _ h1.1) (X.2.2.2.2 _ h1.2) (X.2.2.2.2 _ h2) rfl hml.symm rfl hdg hfr (by show 2 * 0 + _ + 12 ≤ _; rw [Nat.mul_zero, Nat.zero_add]; exact hlo) kk
theorem zF_nO {y : Nat → ClassId} {S : ZS} {q k b N : Nat} (hb : b ≠ q) : zF y (zsNewO S q k N) b = zF y S b := by
  have h1 : zK (zsNewO S q k N) b = zK S b := va_up_ne _ _ hb
  have h2 : (fun j => zI (zsNewO S q k N) j b) = (fun j => zI S j b) := by
    funext j; exact va_up_ne _ _ hb
  have h3 : (fun j => zP (zsNewO S q k N) j b) = (fun j => zP S j b) := by
    funext j; exact va_up_ne _ _ hb
  have h3' : (fun j => (zP (zsNewO S q k N) j b).map (zh y)) = (fun j => (zP S j b).map (zh y)) := by
    funext i
    rw [show zP (zsNewO S q k N) i b = zP S i b from congrFun h3 i]
  unfold zF
  rw [h1, h2, h3']
  rfl
theorem z_newO {k N index : Nat} {C : String} {T : u_T} {ty0 : Nat → FieldType} {fl : (Nat → Int32) → (Nat → Option Nat) → List Value} (X : CallFix p m c cc nL s args Ts own) (hw : ∀ w ∈ u_ws C T N, w ∈ Ts) (hty : ∀ k, k < N → parseFieldDescriptor (T k).2.2.1 = some (ty0 k)) (hM : zH D y A0 s H locs S) (hcl : vwCl[k]? = some (C, T, N)) (hC : ∀ (I : Nat → Int32) (P : Nat → Option Nat) (n : Nat) (A : Nat → Int32) (B : Nat → Option Nat), zC y k I P n A B = .inr (k, fl I P)) (h1 : Cond.classLink own index C ∈ Ts ∧ Cond.instantiable C N ∈ Ts ∧ Cond.initialized C ∈ Ts) (hfs : ∀ j, j < N → defaultValue (ty0 j) = vp_V (fl (fun _ => 0) (fun _ => none)) j) (hcs : cells + 1 ≤ R.cells ∧ slots + N ≤ R.slots) (hdg : decode cc pc = .ok (.new index, 3))
    (kk : ∀ (q : Nat) (H : Heap), q = zt S → zH D y A0 s H locs (zsNewO S q k N) → W p l e R s m args below meth c H locs (cells + 1) (slots + N) Q (F0 m (pc + 3) ls (.ref (zh y q) :: rest))) : W p l e R s m args below meth c H locs cells slots Q (F0 m pc ls rest) := by
  obtain ⟨hP, hD, hS, hK, hA, hE⟩ := hM
  have hKn := hK.1 k _ hcl
  refine W.newcK X.1 X.2.1 X.2.2.2.1 (X.2.2.2.2 _ h1.1) (X.2.2.2.2 _ h1.2.1) (X.2.2.2.2 _ h1.2.2) rfl hdg hcs.1 hcs.2 hKn.2.1 (zG_ad hE.2) fun H1 kC hkC e1 z1 o1 => ?_
  have hq := zW_fresh hP hE.2
  have hW := zW_new (y := y) (S := S) (S' := zsNewO S (zt S) k N) (e := .inr (k, fl (fun _ => 0) (fun _ => none))) hq rfl (by
    rw [zF_at (k := k) (va_up_self _ _ _), hC]
    have e1 : (fun j => zI (zsNewO S (zt S) k N) j (zt S)) = (fun _ => (0 : Int32)) := by funext j; exact va_up_self _ _ _
    have e2 : (fun j => (zP (zsNewO S (zt S) k N) j (zt S)).map (zh y)) = (fun _ => (none : Option Nat)) := by
      funext j
      rw [show zP (zsNewO S (zt S) k N) j (zt S) = none from va_up_self _ _ _]
      rfl
    rw [e1, e2]) (fun b hb => zF_nO hb)
  exact kk (zt S) H1 rfl (z_new8 (e := .inr (k, fl (fun _ => 0) (fun _ => none))) hP hD hS hK hA hE ⟨_, hcl, (u_born ty0 X.2.2.2.2 hw hKn hkC e1 hty).to hfs⟩ z1 o1 hW rfl)
variable {q : MethodName} {ws ws' : List Cond} {rm : Room} {bytes : ByteArray} {maxL n index : Nat} {ret : Option FieldType} {As st : List Value} {o : Int32 × ZS} {C : String} {T : u_T} {N k : Nat}
theorem z_blind {av : List Value} {sz : Nat} : FrameBlind (va_Pc av (zB0 D y S sz)) := fun a U g mk q => by
  obtain ⟨q0, q1, qP, qK, qD, qE⟩ := q
  exact ⟨q0, q1, qP, va_K.moved (u := U) (U := U.calling g mk a) (Vm.Alike.refl U.vm) qK, qD, zE_blind qE.1, qE.2⟩
theorem z_free (hM : zH D y A0 s H locs S) : ∀ q, va_A (zW y S) H.size q → A0 q := by
  obtain ⟨hP, hD, hS, hK, hA, hE⟩ := hM
  intro q hq
  rcases hq with ⟨k, e, hk⟩ | hq
  · exact hD.2 k (q, e) hk
  · exact hA q (Nat.le_trans hS.1 hq)
theorem z_preS (hM : zH D y A0 s H locs S) : PreS s H (va_Pc As (zB0 D y S H.size)) As := by
  have hF := z_free hM
  obtain ⟨hP, hD, hS, hK, hA, hE⟩ := hM
  exact ⟨z_blind, fun U hU hW => ⟨rfl, by rw [hU], by rw [hU]; exact hP, va_K.moved hW.alike hK, hD.weaken (fun _ _ _ _ => trivial), zE_call hE.1 hS hF hU hW, hE.2⟩⟩
theorem z_preT {i : Nat} (hi : i < zSn) (hM : zH D y A0 s H locs S) : PreV s H "java/lang/String" (y (100 + i)) (va_Pc (.ref (y (100 + i)) :: As) (zB0 D y S H.size)) As := by
  have hF := z_free hM
  obtain ⟨hP, hD, hS, hK, hA, hE⟩ := hM
  exact ⟨z_blind, vk_recv (adK := fun i => y (100 + i)) (i := i) hE.1.2.1 hi hS, fun U hU hW => ⟨rfl, by rw [hU], by rw [hU]; exact hP, va_K.moved hW.alike hK, hD.weaken (fun _ _ _ _ => trivial), zE_call hE.1 hS hF hU hW, hE.2⟩⟩
theorem z_preV {fl : (Nat → Int32) → (Nat → Option Nat) → List Value} (hcl : vwCl[k]? = some (C, T, N)) (hC : ∀ (I : Nat → Int32) (P : Nat → Option Nat) (n : Nat) (A : Nat → Int32) (B : Nat → Option Nat), zC y k I P n A B = .inr (k, fl I P)) (ha : a ∈ zL S ∧ zK S a = k) (hM : zH D y A0 s H locs S) : PreV s H C (zh y a) (va_Pc (.ref (zh y a) :: As) (zB0 D y S H.size)) As := by
  have hF := z_free hM
  obtain ⟨hP, hD, hS, hK, hA, hE⟩ := hM
  obtain ⟨q0, hq⟩ := zW_at (y := y) ha.1
  rw [zF_at ha.2, hC] at hq
  exact ⟨z_blind, va_recv hK hP (ci := k) (q := (C, T, N)) (q0 := q0) hcl hq, fun U hU hW => ⟨rfl, by rw [hU], by rw [hU]; exact hP, va_K.moved hW.alike hK, hD.weaken (fun _ _ _ _ => trivial), zE_call hE.1 hS hF hU hW, hE.2⟩⟩
theorem z_callVi {fl : (Nat → Int32) → (Nat → Option Nat) → List Value} (X : CallFix p m c cc nL s args Ts own) (hM : zH D y A0 s H locs S) (hcl : vwCl[k]? = some (C, T, N)) (hC : ∀ (I : Nat → Int32) (P : Nat → Option Nat) (n : Nat) (A : Nat → Int32) (B : Nat → Option Nat), zC y k I P n A B = .inr (k, fl I P)) (ha : a ∈ zL S ∧ zK S a = k) (hc : zMi l q ws rm (.ref (zh y a) :: As) D y S o) (hT : GoodIn Ts (wsV own index C q ws)) (hw : ws = Cond.code q bytes maxL ret :: ws') (hrm : rm.cells = 0 ∧ rm.slots = 0)
    (hd : q.cls = C ∧ q.cls ≠ "java/lang/invoke/MethodHandle" ∧ q.cls ≠ "java/lang/invoke/VarHandle" ∧ (parseMethodDescriptor q.desc).map (fun d => d.parameters.length) = some n) (hR : rm.frames + 1 ≤ R.frames ∧ 8 + (maxL + 11) + rm.locals ≤ R.locals) (hn : As.length = n) (hls : ls.size = nL) (hst : st = As.reverse ++ .ref (zh y a) :: rest) (hrest : (rest.map fun v => v.category).sum ≤ 8) (hdg : decode cc pc = .ok (.invokevirtual index, 3))
    (kk : ∀ (H : Heap) (locs : List Loc), zH D y A0 s H locs o.2 → W p l e R s m args below meth c H locs 0 0 Q (F0 m (pc + 3) ls (.int o.1 :: rest))) : W p l e R s m args below meth c H locs 0 0 Q (F0 m pc ls st) := by
  subst hst
  have hF := z_free hM
  refine va_calli (va_runV (As := As) (rest := rest) X (hc H.size) (cwV n X.2.2.2.2 hT hw hrm.1 hrm.2 hd hR) (z_preV hcl hC ha hM) rfl hn hls rfl (lv_room hrest) hdg ⟨Nat.zero_le _, Nat.zero_le _⟩) hM.2.2.1 (fun q _ hq => hF q hq) hF (fun r u t H1 locs1 ht hvm hw1 hB hz1 hk1 hS => ?_)
  obtain ⟨hP, hD, hS0, hK, hA, hE⟩ := hM
  obtain ⟨hB', hD', hZ'⟩ : va_P D vwCl (zW y o.2) t.heap ∧ va_D (va_A (zW y S) H.size) (zW y o.2) ∧ zG y o.2 t.heap.size := hB
  rw [ht] at hB' hZ'
  have hw2 : r = o.1 := hw1
  subst hw2
  exact kk H1 locs1 ⟨hB', hD'.weaken (fun _ q _ h9 => hF q.1 h9), hS, hK, hA, hE.1, hZ'⟩
theorem z_callVr {o : Nat × ZS} {fl : (Nat → Int32) → (Nat → Option Nat) → List Value} (X : CallFix p m c cc nL s args Ts own) (hM : zH D y A0 s H locs S) (hcl : vwCl[k]? = some (C, T, N)) (hC : ∀ (I : Nat → Int32) (P : Nat → Option Nat) (n : Nat) (A : Nat → Int32) (B : Nat → Option Nat), zC y k I P n A B = .inr (k, fl I P)) (ha : a ∈ zL S ∧ zK S a = k) (hc : zMr l q ws rm (.ref (zh y a) :: As) D y S o) (hT : GoodIn Ts (wsV own index C q ws)) (hw : ws = Cond.code q bytes maxL ret :: ws') (hrm : rm.cells = 0 ∧ rm.slots = 0)
    (hd : q.cls = C ∧ q.cls ≠ "java/lang/invoke/MethodHandle" ∧ q.cls ≠ "java/lang/invoke/VarHandle" ∧ (parseMethodDescriptor q.desc).map (fun d => d.parameters.length) = some n) (hR : rm.frames + 1 ≤ R.frames ∧ 8 + (maxL + 11) + rm.locals ≤ R.locals) (hn : As.length = n) (hls : ls.size = nL) (hst : st = As.reverse ++ .ref (zh y a) :: rest) (hrest : (rest.map fun v => v.category).sum ≤ 8) (hdg : decode cc pc = .ok (.invokevirtual index, 3))
    (kk : ∀ (H : Heap) (locs : List Loc), zH D y A0 s H locs o.2 → W p l e R s m args below meth c H locs 0 0 Q (F0 m (pc + 3) ls (.ref o.1 :: rest))) : W p l e R s m args below meth c H locs 0 0 Q (F0 m pc ls st) := by
  subst hst
  have hF := z_free hM
  refine va_callr (va_runV (As := As) (rest := rest) X (hc H.size) (cwV n X.2.2.2.2 hT hw hrm.1 hrm.2 hd hR) (z_preV hcl hC ha hM) rfl hn hls rfl (lv_room hrest) hdg ⟨Nat.zero_le _, Nat.zero_le _⟩) hM.2.2.1 (fun q _ hq => hF q hq) hF (fun u r t H1 locs1 ht hvm hw1 hB hz1 hk1 hS => ?_)
  obtain ⟨hP, hD, hS0, hK, hA, hE⟩ := hM
  obtain ⟨hw2, hB', hD', hZ'⟩ : r = o.1 ∧ va_P D vwCl (zW y o.2) t.heap ∧ va_D (va_A (zW y S) H.size) (zW y o.2) ∧ zG y o.2 t.heap.size := hB
  rw [ht] at hB' hZ'
  subst hw2
  exact kk H1 locs1 ⟨hB', hD'.weaken (fun _ q _ h9 => hF q.1 h9), hS, hK, hA, hE.1, hZ'⟩
theorem z_callVv {fl : (Nat → Int32) → (Nat → Option Nat) → List Value} (X : CallFix p m c cc nL s args Ts own) (hM : zH D y A0 s H locs S) (hcl : vwCl[k]? = some (C, T, N)) (hC : ∀ (I : Nat → Int32) (P : Nat → Option Nat) (n : Nat) (A : Nat → Int32) (B : Nat → Option Nat), zC y k I P n A B = .inr (k, fl I P)) (ha : a ∈ zL S ∧ zK S a = k) (hc : zMv l q ws rm (.ref (zh y a) :: As) D y S o) (hT : GoodIn Ts (wsV own index C q ws)) (hw : ws = Cond.code q bytes maxL ret :: ws') (hrm : rm.cells = 0 ∧ rm.slots = 0)
    (hd : q.cls = C ∧ q.cls ≠ "java/lang/invoke/MethodHandle" ∧ q.cls ≠ "java/lang/invoke/VarHandle" ∧ (parseMethodDescriptor q.desc).map (fun d => d.parameters.length) = some n) (hR : rm.frames + 1 ≤ R.frames ∧ 8 + (maxL + 11) + rm.locals ≤ R.locals) (hn : As.length = n) (hls : ls.size = nL) (hst : st = As.reverse ++ .ref (zh y a) :: rest) (hrest : (rest.map fun v => v.category).sum ≤ 8) (hdg : decode cc pc = .ok (.invokevirtual index, 3))
    (kk : ∀ (H : Heap) (locs : List Loc), zH D y A0 s H locs o.2 → W p l e R s m args below meth c H locs 0 0 Q (F0 m (pc + 3) ls rest)) : W p l e R s m args below meth c H locs 0 0 Q (F0 m pc ls st) := by
  subst hst
  have hF := z_free hM
  refine va_callv (va_runV (As := As) (rest := rest) X (hc H.size) (cwV n X.2.2.2.2 hT hw hrm.1 hrm.2 hd hR) (z_preV hcl hC ha hM) rfl hn hls rfl (lv_room hrest) hdg ⟨Nat.zero_le _, Nat.zero_le _⟩) hM.2.2.1 (fun q _ hq => hF q hq) hF (fun u t H1 locs1 ht hvm hw1 hB hz1 hk1 hS => ?_)
  obtain ⟨hP, hD, hS0, hK, hA, hE⟩ := hM
  obtain ⟨hB', hD', hZ'⟩ : va_P D vwCl (zW y o.2) t.heap ∧ va_D (va_A (zW y S) H.size) (zW y o.2) ∧ zG y o.2 t.heap.size := hB
  rw [ht] at hB' hZ'
  exact kk H1 locs1 ⟨hB', hD'.weaken (fun _ q _ h9 => hF q.1 h9), hS, hK, hA, hE.1, hZ'⟩
theorem z_callSi (X : CallFix p m c cc nL s args Ts own) (hM : zH D y A0 s H locs S) (hc : zMi l q ws rm As D y S o) (hT : GoodIn Ts (va_wsS own index q ws)) (hw : ws = Cond.code q bytes maxL ret :: ws') (hrm : rm.cells = 0 ∧ rm.slots = 0)
    (hd : q.cls ≠ "java/lang/invoke/MethodHandle" ∧ q.cls ≠ "java/lang/invoke/VarHandle" ∧ (parseMethodDescriptor q.desc).map (fun d => d.parameters.length) = some n) (hR : rm.frames + 1 ≤ R.frames ∧ 8 + (maxL + 11) + rm.locals ≤ R.locals) (hn : As.length = n) (hls : ls.size = nL) (hst : st = As.reverse ++ rest) (hrest : (rest.map fun v => v.category).sum ≤ 8) (hdg : decode cc pc = .ok (.invokestatic index, 3))
    (kk : ∀ (H : Heap) (locs : List Loc), zH D y A0 s H locs o.2 → W p l e R s m args below meth c H locs 0 0 Q (F0 m (pc + 3) ls (.int o.1 :: rest))) : W p l e R s m args below meth c H locs 0 0 Q (F0 m pc ls st) := by
  subst hst
  have hF := z_free hM
  refine va_calli (va_runS (As := As) (rest := rest) X (hc H.size) (va_cwS n X.2.2.2.2 hT hw hrm.1 hrm.2 hd hR) (z_preS hM) rfl hn hls rfl (lv_room hrest) hdg ⟨Nat.zero_le _, Nat.zero_le _⟩) hM.2.2.1 (fun q _ hq => hF q hq) hF (fun r u t H1 locs1 ht hvm hw1 hB hz1 hk1 hS => ?_)
  obtain ⟨hP, hD, hS0, hK, hA, hE⟩ := hM
  obtain ⟨hB', hD', hZ'⟩ : va_P D vwCl (zW y o.2) t.heap ∧ va_D (va_A (zW y S) H.size) (zW y o.2) ∧ zG y o.2 t.heap.size := hB
  rw [ht] at hB' hZ'
  have hw2 : r = o.1 := hw1
  subst hw2
  exact kk H1 locs1 ⟨hB', hD'.weaken (fun _ q _ h9 => hF q.1 h9), hS, hK, hA, hE.1, hZ'⟩
theorem z_callSNi {host : String} (X : CallFix p m c cc nL s args Ts own) (hM : zH D y A0 s H locs S) (hc : zMi l q ws rm As D y S o) (hT : GoodIn Ts ws) (hnw : (own, index, q, host) ∈ zNW) (hini : Cond.initialized q.cls ∈ Ts) (hsta : Cond.static q ∈ Ts) (hw : ws = Cond.code q bytes maxL ret :: ws') (hrm : rm.cells = 0 ∧ rm.slots = 0)
    (hd : q.cls ≠ "java/lang/invoke/MethodHandle" ∧ q.cls ≠ "java/lang/invoke/VarHandle" ∧ (parseMethodDescriptor q.desc).map (fun d => d.parameters.length) = some n) (hR : rm.frames + 1 ≤ R.frames ∧ 8 + (maxL + 11) + rm.locals ≤ R.locals) (hn : As.length = n) (hls : ls.size = nL) (hst : st = As.reverse ++ rest) (hrest : (rest.map fun v => v.category).sum ≤ 8) (hdg : decode cc pc = .ok (.invokestatic index, 3))
    (kk : ∀ (H : Heap) (locs : List Loc), zH D y A0 s H locs o.2 → W p l e R s m args below meth c H locs 0 0 Q (F0 m (pc + 3) ls (.int o.1 :: rest))) : W p l e R s m args below meth c H locs 0 0 Q (F0 m pc ls st) := by
  subst hst
  have hF := z_free hM
  refine va_calli (va_runSN (host := host) (As := As) (rest := rest) X (hc H.size) ⟨va_cnB n X.2.2.2.2 hT hw hrm.1 hrm.2 (hM.2.2.2.2.2.1.1 _ hnw) (X.2.2.2.2 _ hini) hd hR, X.2.2.2.2 _ hsta, trivial⟩ (z_preS hM) rfl hn hls rfl (lv_room hrest) hdg ⟨Nat.zero_le _, Nat.zero_le _⟩) hM.2.2.1 (fun q _ hq => hF q hq) hF (fun r u t H1 locs1 ht hvm hw1 hB hz1 hk1 hS => ?_)
  obtain ⟨hP, hD, hS0, hK, hA, hE⟩ := hM
  obtain ⟨hB', hD', hZ'⟩ : va_P D vwCl (zW y o.2) t.heap ∧ va_D (va_A (zW y S) H.size) (zW y o.2) ∧ zG y o.2 t.heap.size := hB
  rw [ht] at hB' hZ'
  have hw2 : r = o.1 := hw1
  subst hw2
  exact kk H1 locs1 ⟨hB', hD'.weaken (fun _ q _ h9 => hF q.1 h9), hS, hK, hA, hE.1, hZ'⟩
theorem z_gcallVi {fl : (Nat → Int32) → (Nat → Option Nat) → List Value} (X : CallFix p m c cc nL s args Ts own) (hM : zH D y A0 s H locs S) (hcl : vwCl[k]? = some (C, T, N)) (hC : ∀ (I : Nat → Int32) (P : Nat → Option Nat) (n : Nat) (A : Nat → Int32) (B : Nat → Option Nat), zC y k I P n A B = .inr (k, fl I P)) (ha : a ∈ zL S ∧ zK S a = k) (hc : zMi l q ws rm (.ref (zh y a) :: As) D y S o) (hT : GoodIn Ts (wsV own index C q ws)) (hw : ws = Cond.code q bytes maxL ret :: ws') (hrm : rm.cells = 0 ∧ rm.slots = 0)
    (hd : q.cls = C ∧ q.cls ≠ "java/lang/invoke/MethodHandle" ∧ q.cls ≠ "java/lang/invoke/VarHandle" ∧ (parseMethodDescriptor q.desc).map (fun d => d.parameters.length) = some n) (hR : rm.frames + 1 ≤ R.frames ∧ 8 + (maxL + 11) + rm.locals ≤ R.locals) (hn : As.length = n) (hls : ls.size = nL) (hst : st = As.reverse ++ .ref (zh y a) :: rest) (hcs : cells ≤ R.cells ∧ slots ≤ R.slots) (hrest : (rest.map fun v => v.category).sum ≤ 8) (hdg : decode cc pc = .ok (.invokevirtual index, 3))
    (kk : ∀ (H : Heap) (locs : List Loc), zH D y A0 s H locs o.2 → W p l e R s m args below meth c H locs cells slots Q (F0 m (pc + 3) ls (.int o.1 :: rest))) : W p l e R s m args below meth c H locs cells slots Q (F0 m pc ls st) := by
  subst hst
  have hF := z_free hM
  refine va_calli (va_runV (As := As) (rest := rest) X (hc H.size) (cwV n X.2.2.2.2 hT hw hrm.1 hrm.2 hd hR) (z_preV hcl hC ha hM) rfl hn hls rfl (lv_room hrest) hdg hcs) hM.2.2.1 (fun q _ hq => hF q hq) hF (fun r u t H1 locs1 ht hvm hw1 hB hz1 hk1 hS => ?_)
  obtain ⟨hP, hD, hS0, hK, hA, hE⟩ := hM
  obtain ⟨hB', hD', hZ'⟩ : va_P D vwCl (zW y o.2) t.heap ∧ va_D (va_A (zW y S) H.size) (zW y o.2) ∧ zG y o.2 t.heap.size := hB
  rw [ht] at hB' hZ'
  have hw2 : r = o.1 := hw1
  subst hw2
  exact kk H1 locs1 ⟨hB', hD'.weaken (fun _ q _ h9 => hF q.1 h9), hS, hK, hA, hE.1, hZ'⟩
theorem z_gcallVr {o : Nat × ZS} {fl : (Nat → Int32) → (Nat → Option Nat) → List Value} (X : CallFix p m c cc nL s args Ts own) (hM : zH D y A0 s H locs S) (hcl : vwCl[k]? = some (C, T, N)) (hC : ∀ (I : Nat → Int32) (P : Nat → Option Nat) (n : Nat) (A : Nat → Int32) (B : Nat → Option Nat), zC y k I P n A B = .inr (k, fl I P)) (ha : a ∈ zL S ∧ zK S a = k) (hc : zMr l q ws rm (.ref (zh y a) :: As) D y S o) (hT : GoodIn Ts (wsV own index C q ws)) (hw : ws = Cond.code q bytes maxL ret :: ws') (hrm : rm.cells = 0 ∧ rm.slots = 0)
    (hd : q.cls = C ∧ q.cls ≠ "java/lang/invoke/MethodHandle" ∧ q.cls ≠ "java/lang/invoke/VarHandle" ∧ (parseMethodDescriptor q.desc).map (fun d => d.parameters.length) = some n) (hR : rm.frames + 1 ≤ R.frames ∧ 8 + (maxL + 11) + rm.locals ≤ R.locals) (hn : As.length = n) (hls : ls.size = nL) (hst : st = As.reverse ++ .ref (zh y a) :: rest) (hcs : cells ≤ R.cells ∧ slots ≤ R.slots) (hrest : (rest.map fun v => v.category).sum ≤ 8) (hdg : decode cc pc = .ok (.invokevirtual index, 3))
    (kk : ∀ (H : Heap) (locs : List Loc), zH D y A0 s H locs o.2 → W p l e R s m args below meth c H locs cells slots Q (F0 m (pc + 3) ls (.ref o.1 :: rest))) : W p l e R s m args below meth c H locs cells slots Q (F0 m pc ls st) := by
  subst hst
  have hF := z_free hM
  refine va_callr (va_runV (As := As) (rest := rest) X (hc H.size) (cwV n X.2.2.2.2 hT hw hrm.1 hrm.2 hd hR) (z_preV hcl hC ha hM) rfl hn hls rfl (lv_room hrest) hdg hcs) hM.2.2.1 (fun q _ hq => hF q hq) hF (fun u r t H1 locs1 ht hvm hw1 hB hz1 hk1 hS => ?_)
  obtain ⟨hP, hD, hS0, hK, hA, hE⟩ := hM
  obtain ⟨hw2, hB', hD', hZ'⟩ : r = o.1 ∧ va_P D vwCl (zW y o.2) t.heap ∧ va_D (va_A (zW y S) H.size) (zW y o.2) ∧ zG y o.2 t.heap.size := hB
  rw [ht] at hB' hZ'
  subst hw2
  exact kk H1 locs1 ⟨hB', hD'.weaken (fun _ q _ h9 => hF q.1 h9), hS, hK, hA, hE.1, hZ'⟩
theorem z_gcallVv {fl : (Nat → Int32) → (Nat → Option Nat) → List Value} (X : CallFix p m c cc nL s args Ts own) (hM : zH D y A0 s H locs S) (hcl : vwCl[k]? = some (C, T, N)) (hC : ∀ (I : Nat → Int32) (P : Nat → Option Nat) (n : Nat) (A : Nat → Int32) (B : Nat → Option Nat), zC y k I P n A B = .inr (k, fl I P)) (ha : a ∈ zL S ∧ zK S a = k) (hc : zMv l q ws rm (.ref (zh y a) :: As) D y S o) (hT : GoodIn Ts (wsV own index C q ws)) (hw : ws = Cond.code q bytes maxL ret :: ws') (hrm : rm.cells = 0 ∧ rm.slots = 0)
    (hd : q.cls = C ∧ q.cls ≠ "java/lang/invoke/MethodHandle" ∧ q.cls ≠ "java/lang/invoke/VarHandle" ∧ (parseMethodDescriptor q.desc).map (fun d => d.parameters.length) = some n) (hR : rm.frames + 1 ≤ R.frames ∧ 8 + (maxL + 11) + rm.locals ≤ R.locals) (hn : As.length = n) (hls : ls.size = nL) (hst : st = As.reverse ++ .ref (zh y a) :: rest) (hcs : cells ≤ R.cells ∧ slots ≤ R.slots) (hrest : (rest.map fun v => v.category).sum ≤ 8) (hdg : decode cc pc = .ok (.invokevirtual index, 3))
    (kk : ∀ (H : Heap) (locs : List Loc), zH D y A0 s H locs o.2 → W p l e R s m args below meth c H locs cells slots Q (F0 m (pc + 3) ls rest)) : W p l e R s m args below meth c H locs cells slots Q (F0 m pc ls st) := by
  subst hst
  have hF := z_free hM
  refine va_callv (va_runV (As := As) (rest := rest) X (hc H.size) (cwV n X.2.2.2.2 hT hw hrm.1 hrm.2 hd hR) (z_preV hcl hC ha hM) rfl hn hls rfl (lv_room hrest) hdg hcs) hM.2.2.1 (fun q _ hq => hF q hq) hF (fun u t H1 locs1 ht hvm hw1 hB hz1 hk1 hS => ?_)
  obtain ⟨hP, hD, hS0, hK, hA, hE⟩ := hM
  obtain ⟨hB', hD', hZ'⟩ : va_P D vwCl (zW y o.2) t.heap ∧ va_D (va_A (zW y S) H.size) (zW y o.2) ∧ zG y o.2 t.heap.size := hB
  rw [ht] at hB' hZ'
  exact kk H1 locs1 ⟨hB', hD'.weaken (fun _ q _ h9 => hF q.1 h9), hS, hK, hA, hE.1, hZ'⟩
theorem z_gcallSi (X : CallFix p m c cc nL s args Ts own) (hM : zH D y A0 s H locs S) (hc : zMi l q ws rm As D y S o) (hT : GoodIn Ts (va_wsS own index q ws)) (hw : ws = Cond.code q bytes maxL ret :: ws') (hrm : rm.cells = 0 ∧ rm.slots = 0)
    (hd : q.cls ≠ "java/lang/invoke/MethodHandle" ∧ q.cls ≠ "java/lang/invoke/VarHandle" ∧ (parseMethodDescriptor q.desc).map (fun d => d.parameters.length) = some n) (hR : rm.frames + 1 ≤ R.frames ∧ 8 + (maxL + 11) + rm.locals ≤ R.locals) (hn : As.length = n) (hls : ls.size = nL) (hst : st = As.reverse ++ rest) (hcs : cells ≤ R.cells ∧ slots ≤ R.slots) (hrest : (rest.map fun v => v.category).sum ≤ 8) (hdg : decode cc pc = .ok (.invokestatic index, 3))
    (kk : ∀ (H : Heap) (locs : List Loc), zH D y A0 s H locs o.2 → W p l e R s m args below meth c H locs cells slots Q (F0 m (pc + 3) ls (.int o.1 :: rest))) : W p l e R s m args below meth c H locs cells slots Q (F0 m pc ls st) := by
  subst hst
  have hF := z_free hM
  refine va_calli (va_runS (As := As) (rest := rest) X (hc H.size) (va_cwS n X.2.2.2.2 hT hw hrm.1 hrm.2 hd hR) (z_preS hM) rfl hn hls rfl (lv_room hrest) hdg hcs) hM.2.2.1 (fun q _ hq => hF q hq) hF (fun r u t H1 locs1 ht hvm hw1 hB hz1 hk1 hS => ?_)
  obtain ⟨hP, hD, hS0, hK, hA, hE⟩ := hM
  obtain ⟨hB', hD', hZ'⟩ : va_P D vwCl (zW y o.2) t.heap ∧ va_D (va_A (zW y S) H.size) (zW y o.2) ∧ zG y o.2 t.heap.size := hB
  rw [ht] at hB' hZ'
  have hw2 : r = o.1 := hw1
  subst hw2
  exact kk H1 locs1 ⟨hB', hD'.weaken (fun _ q _ h9 => hF q.1 h9), hS, hK, hA, hE.1, hZ'⟩
theorem z_gcallSNi {host : String} (X : CallFix p m c cc nL s args Ts own) (hM : zH D y A0 s H locs S) (hc : zMi l q ws rm As D y S o) (hT : GoodIn Ts ws) (hnw : (own, index, q, host) ∈ zNW) (hini : Cond.initialized q.cls ∈ Ts) (hsta : Cond.static q ∈ Ts) (hw : ws = Cond.code q bytes maxL ret :: ws') (hrm : rm.cells = 0 ∧ rm.slots = 0)
    (hd : q.cls ≠ "java/lang/invoke/MethodHandle" ∧ q.cls ≠ "java/lang/invoke/VarHandle" ∧ (parseMethodDescriptor q.desc).map (fun d => d.parameters.length) = some n) (hR : rm.frames + 1 ≤ R.frames ∧ 8 + (maxL + 11) + rm.locals ≤ R.locals) (hn : As.length = n) (hls : ls.size = nL) (hst : st = As.reverse ++ rest) (hcs : cells ≤ R.cells ∧ slots ≤ R.slots) (hrest : (rest.map fun v => v.category).sum ≤ 8) (hdg : decode cc pc = .ok (.invokestatic index, 3))
    (kk : ∀ (H : Heap) (locs : List Loc), zH D y A0 s H locs o.2 → W p l e R s m args below meth c H locs cells slots Q (F0 m (pc + 3) ls (.int o.1 :: rest))) : W p l e R s m args below meth c H locs cells slots Q (F0 m pc ls st) := by
  subst hst
  have hF := z_free hM
  refine va_calli (va_runSN (host := host) (As := As) (rest := rest) X (hc H.size) ⟨va_cnB n X.2.2.2.2 hT hw hrm.1 hrm.2 (hM.2.2.2.2.2.1.1 _ hnw) (X.2.2.2.2 _ hini) hd hR, X.2.2.2.2 _ hsta, trivial⟩ (z_preS hM) rfl hn hls rfl (lv_room hrest) hdg hcs) hM.2.2.1 (fun q _ hq => hF q hq) hF (fun r u t H1 locs1 ht hvm hw1 hB hz1 hk1 hS => ?_)
  obtain ⟨hP, hD, hS0, hK, hA, hE⟩ := hM
  obtain ⟨hB', hD', hZ'⟩ : va_P D vwCl (zW y o.2) t.heap ∧ va_D (va_A (zW y S) H.size) (zW y o.2) ∧ zG y o.2 t.heap.size := hB
  rw [ht] at hB' hZ'
  have hw2 : r = o.1 := hw1
  subst hw2
  exact kk H1 locs1 ⟨hB', hD'.weaken (fun _ q _ h9 => hF q.1 h9), hS, hK, hA, hE.1, hZ'⟩

theorem z_eqCS {c1 t1 c2 t2 : Nat} {g : JFrame} (h1 : c1 = c2) (h2 : t1 = t2) (k : W p l e R s m args below meth c H locs c2 t2 Q g) : W p l e R s m args below meth c H locs c1 t1 Q g := by
  subst h1; subst h2; exact k
variable {mc ms : Nat} {Pw : Int32 → ZS → Prop}
theorem z_wcallVi {fl : (Nat → Int32) → (Nat → Option Nat) → List Value} (X : CallFix p m c cc nL s args Ts own) (hM : zH D y A0 s H locs S) (hcl : vwCl[k]? = some (C, T, N)) (hC : ∀ (I : Nat → Int32) (P : Nat → Option Nat) (n : Nat) (A : Nat → Int32) (B : Nat → Option Nat), zC y k I P n A B = .inr (k, fl I P)) (ha : a ∈ zL S ∧ zK S a = k) (hc : zWi l q ws rm (.ref (zh y a) :: As) D y S mc ms Pw) (hT : GoodIn Ts (wsV own index C q ws)) (hw : ws = Cond.code q bytes maxL ret :: ws') (hrm : rm.cells = mc ∧ rm.slots = ms) (hcs : cells + mc ≤ R.cells ∧ slots + ms ≤ R.slots)
    (hd : q.cls = C ∧ q.cls ≠ "java/lang/invoke/MethodHandle" ∧ q.cls ≠ "java/lang/invoke/VarHandle" ∧ (parseMethodDescriptor q.desc).map (fun d => d.parameters.length) = some n) (hR : rm.frames + 1 ≤ R.frames ∧ 8 + (maxL + 11) + rm.locals ≤ R.locals) (hn : As.length = n) (hls : ls.size = nL) (hst : st = As.reverse ++ .ref (zh y a) :: rest) (hrest : (rest.map fun v => v.category).sum ≤ 8) (hdg : decode cc pc = .ok (.invokevirtual index, 3))
    (kk : ∀ (r : Int32) (S1 : ZS) (H : Heap) (locs : List Loc), Pw r S1 → zH D y A0 s H locs S1 → W p l e R s m args below meth c H locs (cells + mc) (slots + ms) Q (F0 m (pc + 3) ls (.int r :: rest))) : W p l e R s m args below meth c H locs cells slots Q (F0 m pc ls st) := by
  subst hst
  have hF := z_free hM
  refine va_calli (va_runV (As := As) (rest := rest) X (hc H.size) (cwV n X.2.2.2.2 hT hw hrm.1 hrm.2 hd hR) (z_preV hcl hC ha hM) rfl hn hls rfl (lv_room hrest) hdg hcs) hM.2.2.1 (fun q _ hq => hF q hq) hF (fun r u t H1 locs1 ht hvm hw1 hB hz1 hk1 hS => ?_)
  obtain ⟨hP, hD, hS0, hK, hA, hE⟩ := hM
  obtain ⟨hB', hD', hZ'⟩ : va_P D vwCl (zW y u) t.heap ∧ va_D (va_A (zW y S) H.size) (zW y u) ∧ zG y u t.heap.size := hB
  rw [ht] at hB' hZ'
  exact kk r u H1 locs1 hw1 ⟨hB', hD'.weaken (fun _ q _ h9 => hF q.1 h9), hS, hK, hA, hE.1, hZ'⟩
theorem z_wcallVv {fl : (Nat → Int32) → (Nat → Option Nat) → List Value} (X : CallFix p m c cc nL s args Ts own) (hM : zH D y A0 s H locs S) (hcl : vwCl[k]? = some (C, T, N)) (hC : ∀ (I : Nat → Int32) (P : Nat → Option Nat) (n : Nat) (A : Nat → Int32) (B : Nat → Option Nat), zC y k I P n A B = .inr (k, fl I P)) (ha : a ∈ zL S ∧ zK S a = k) (hc : zWv l q ws rm (.ref (zh y a) :: As) D y S mc ms Pw) (hT : GoodIn Ts (wsV own index C q ws)) (hw : ws = Cond.code q bytes maxL ret :: ws') (hrm : rm.cells = mc ∧ rm.slots = ms) (hcs : cells + mc ≤ R.cells ∧ slots + ms ≤ R.slots)
    (hd : q.cls = C ∧ q.cls ≠ "java/lang/invoke/MethodHandle" ∧ q.cls ≠ "java/lang/invoke/VarHandle" ∧ (parseMethodDescriptor q.desc).map (fun d => d.parameters.length) = some n) (hR : rm.frames + 1 ≤ R.frames ∧ 8 + (maxL + 11) + rm.locals ≤ R.locals) (hn : As.length = n) (hls : ls.size = nL) (hst : st = As.reverse ++ .ref (zh y a) :: rest) (hrest : (rest.map fun v => v.category).sum ≤ 8) (hdg : decode cc pc = .ok (.invokevirtual index, 3))
    (kk : ∀ (S1 : ZS) (H : Heap) (locs : List Loc), Pw 0 S1 → zH D y A0 s H locs S1 → W p l e R s m args below meth c H locs (cells + mc) (slots + ms) Q (F0 m (pc + 3) ls rest)) : W p l e R s m args below meth c H locs cells slots Q (F0 m pc ls st) := by
  subst hst
  have hF := z_free hM
  refine va_callv (va_runV (As := As) (rest := rest) X (hc H.size) (cwV n X.2.2.2.2 hT hw hrm.1 hrm.2 hd hR) (z_preV hcl hC ha hM) rfl hn hls rfl (lv_room hrest) hdg hcs) hM.2.2.1 (fun q _ hq => hF q hq) hF (fun u t H1 locs1 ht hvm hw1 hB hz1 hk1 hS => ?_)
  obtain ⟨hP, hD, hS0, hK, hA, hE⟩ := hM
  obtain ⟨hB', hD', hZ'⟩ : va_P D vwCl (zW y u) t.heap ∧ va_D (va_A (zW y S) H.size) (zW y u) ∧ zG y u t.heap.size := hB
  rw [ht] at hB' hZ'
  exact kk u H1 locs1 hw1 ⟨hB', hD'.weaken (fun _ q _ h9 => hF q.1 h9), hS, hK, hA, hE.1, hZ'⟩
theorem z_wcallSi (X : CallFix p m c cc nL s args Ts own) (hM : zH D y A0 s H locs S) (hc : zWi l q ws rm As D y S mc ms Pw) (hT : GoodIn Ts (va_wsS own index q ws)) (hw : ws = Cond.code q bytes maxL ret :: ws') (hrm : rm.cells = mc ∧ rm.slots = ms) (hcs : cells + mc ≤ R.cells ∧ slots + ms ≤ R.slots)
    (hd : q.cls ≠ "java/lang/invoke/MethodHandle" ∧ q.cls ≠ "java/lang/invoke/VarHandle" ∧ (parseMethodDescriptor q.desc).map (fun d => d.parameters.length) = some n) (hR : rm.frames + 1 ≤ R.frames ∧ 8 + (maxL + 11) + rm.locals ≤ R.locals) (hn : As.length = n) (hls : ls.size = nL) (hst : st = As.reverse ++ rest) (hrest : (rest.map fun v => v.category).sum ≤ 8) (hdg : decode cc pc = .ok (.invokestatic index, 3))
    (kk : ∀ (r : Int32) (S1 : ZS) (H : Heap) (locs : List Loc), Pw r S1 → zH D y A0 s H locs S1 → W p l e R s m args below meth c H locs (cells + mc) (slots + ms) Q (F0 m (pc + 3) ls (.int r :: rest))) : W p l e R s m args below meth c H locs cells slots Q (F0 m pc ls st) := by
  subst hst
  have hF := z_free hM
  refine va_calli (va_runS (As := As) (rest := rest) X (hc H.size) (va_cwS n X.2.2.2.2 hT hw hrm.1 hrm.2 hd hR) (z_preS hM) rfl hn hls rfl (lv_room hrest) hdg hcs) hM.2.2.1 (fun q _ hq => hF q hq) hF (fun r u t H1 locs1 ht hvm hw1 hB hz1 hk1 hS => ?_)
  obtain ⟨hP, hD, hS0, hK, hA, hE⟩ := hM
  obtain ⟨hB', hD', hZ'⟩ : va_P D vwCl (zW y u) t.heap ∧ va_D (va_A (zW y S) H.size) (zW y u) ∧ zG y u t.heap.size := hB
  rw [ht] at hB' hZ'
  exact kk r u H1 locs1 hw1 ⟨hB', hD'.weaken (fun _ q _ h9 => hF q.1 h9), hS, hK, hA, hE.1, hZ'⟩
theorem z_callSv (X : CallFix p m c cc nL s args Ts own) (hM : zH D y A0 s H locs S) (hc : zMv l q ws rm As D y S o) (hT : GoodIn Ts (va_wsS own index q ws)) (hw : ws = Cond.code q bytes maxL ret :: ws') (hrm : rm.cells = 0 ∧ rm.slots = 0)
    (hd : q.cls ≠ "java/lang/invoke/MethodHandle" ∧ q.cls ≠ "java/lang/invoke/VarHandle" ∧ (parseMethodDescriptor q.desc).map (fun d => d.parameters.length) = some n) (hR : rm.frames + 1 ≤ R.frames ∧ 8 + (maxL + 11) + rm.locals ≤ R.locals) (hn : As.length = n) (hls : ls.size = nL) (hst : st = As.reverse ++ rest) (hrest : (rest.map fun v => v.category).sum ≤ 8) (hdg : decode cc pc = .ok (.invokestatic index, 3))
    (kk : ∀ (H : Heap) (locs : List Loc), zH D y A0 s H locs o.2 → W p l e R s m args below meth c H locs 0 0 Q (F0 m (pc + 3) ls rest)) : W p l e R s m args below meth c H locs 0 0 Q (F0 m pc ls st) := by
  subst hst
  have hF := z_free hM
  refine va_callv (va_runS (As := As) (rest := rest) X (hc H.size) (va_cwS n X.2.2.2.2 hT hw hrm.1 hrm.2 hd hR) (z_preS hM) rfl hn hls rfl (lv_room hrest) hdg ⟨Nat.zero_le _, Nat.zero_le _⟩) hM.2.2.1 (fun q _ hq => hF q hq) hF (fun u t H1 locs1 ht hvm hw1 hB hz1 hk1 hS => ?_)
  obtain ⟨hP, hD, hS0, hK, hA, hE⟩ := hM
  obtain ⟨hB', hD', hZ'⟩ : va_P D vwCl (zW y o.2) t.heap ∧ va_D (va_A (zW y S) H.size) (zW y o.2) ∧ zG y o.2 t.heap.size := hB
  rw [ht] at hB' hZ'
  exact kk H1 locs1 ⟨hB', hD'.weaken (fun _ q _ h9 => hF q.1 h9), hS, hK, hA, hE.1, hZ'⟩
theorem z_gcallSv (X : CallFix p m c cc nL s args Ts own) (hM : zH D y A0 s H locs S) (hc : zMv l q ws rm As D y S o) (hT : GoodIn Ts (va_wsS own index q ws)) (hw : ws = Cond.code q bytes maxL ret :: ws') (hrm : rm.cells = 0 ∧ rm.slots = 0)
    (hd : q.cls ≠ "java/lang/invoke/MethodHandle" ∧ q.cls ≠ "java/lang/invoke/VarHandle" ∧ (parseMethodDescriptor q.desc).map (fun d => d.parameters.length) = some n) (hR : rm.frames + 1 ≤ R.frames ∧ 8 + (maxL + 11) + rm.locals ≤ R.locals) (hn : As.length = n) (hls : ls.size = nL) (hst : st = As.reverse ++ rest) (hcs : cells ≤ R.cells ∧ slots ≤ R.slots) (hrest : (rest.map fun v => v.category).sum ≤ 8) (hdg : decode cc pc = .ok (.invokestatic index, 3))
    (kk : ∀ (H : Heap) (locs : List Loc), zH D y A0 s H locs o.2 → W p l e R s m args below meth c H locs cells slots Q (F0 m (pc + 3) ls rest)) : W p l e R s m args below meth c H locs cells slots Q (F0 m pc ls st) := by
  subst hst
  have hF := z_free hM
  refine va_callv (va_runS (As := As) (rest := rest) X (hc H.size) (va_cwS n X.2.2.2.2 hT hw hrm.1 hrm.2 hd hR) (z_preS hM) rfl hn hls rfl (lv_room hrest) hdg hcs) hM.2.2.1 (fun q _ hq => hF q hq) hF (fun u t H1 locs1 ht hvm hw1 hB hz1 hk1 hS => ?_)
  obtain ⟨hP, hD, hS0, hK, hA, hE⟩ := hM
  obtain ⟨hB', hD', hZ'⟩ : va_P D vwCl (zW y o.2) t.heap ∧ va_D (va_A (zW y S) H.size) (zW y o.2) ∧ zG y o.2 t.heap.size := hB
  rw [ht] at hB' hZ'
  exact kk H1 locs1 ⟨hB', hD'.weaken (fun _ q _ h9 => hF q.1 h9), hS, hK, hA, hE.1, hZ'⟩
theorem z_wcallSv (X : CallFix p m c cc nL s args Ts own) (hM : zH D y A0 s H locs S) (hc : zWv l q ws rm As D y S mc ms Pw) (hT : GoodIn Ts (va_wsS own index q ws)) (hw : ws = Cond.code q bytes maxL ret :: ws') (hrm : rm.cells = mc ∧ rm.slots = ms) (hcs : cells + mc ≤ R.cells ∧ slots + ms ≤ R.slots)
    (hd : q.cls ≠ "java/lang/invoke/MethodHandle" ∧ q.cls ≠ "java/lang/invoke/VarHandle" ∧ (parseMethodDescriptor q.desc).map (fun d => d.parameters.length) = some n) (hR : rm.frames + 1 ≤ R.frames ∧ 8 + (maxL + 11) + rm.locals ≤ R.locals) (hn : As.length = n) (hls : ls.size = nL) (hst : st = As.reverse ++ rest) (hrest : (rest.map fun v => v.category).sum ≤ 8) (hdg : decode cc pc = .ok (.invokestatic index, 3))
    (kk : ∀ (S1 : ZS) (H : Heap) (locs : List Loc), Pw 0 S1 → zH D y A0 s H locs S1 → W p l e R s m args below meth c H locs (cells + mc) (slots + ms) Q (F0 m (pc + 3) ls rest)) : W p l e R s m args below meth c H locs cells slots Q (F0 m pc ls st) := by
  subst hst
  have hF := z_free hM
  refine va_callv (va_runS (As := As) (rest := rest) X (hc H.size) (va_cwS n X.2.2.2.2 hT hw hrm.1 hrm.2 hd hR) (z_preS hM) rfl hn hls rfl (lv_room hrest) hdg hcs) hM.2.2.1 (fun q _ hq => hF q hq) hF (fun u t H1 locs1 ht hvm hw1 hB hz1 hk1 hS => ?_)
  obtain ⟨hP, hD, hS0, hK, hA, hE⟩ := hM
  obtain ⟨hB', hD', hZ'⟩ : va_P D vwCl (zW y u) t.heap ∧ va_D (va_A (zW y S) H.size) (zW y u) ∧ zG y u t.heap.size := hB
  rw [ht] at hB' hZ'
  exact kk u H1 locs1 hw1 ⟨hB', hD'.weaken (fun _ q _ h9 => hF q.1 h9), hS, hK, hA, hE.1, hZ'⟩
theorem z_callTi {i : Nat} (X : CallFix p m c cc nL s args Ts own) (hM : zH D y A0 s H locs S) (hi : i < zSn) (hc : zMi l q ws rm (.ref (y (100 + i)) :: As) D y S o) (hT : GoodIn Ts (wsV own index "java/lang/String" q ws)) (hw : ws = Cond.code q bytes maxL ret :: ws') (hrm : rm.cells = 0 ∧ rm.slots = 0)
    (hd : q.cls = "java/lang/String" ∧ q.cls ≠ "java/lang/invoke/MethodHandle" ∧ q.cls ≠ "java/lang/invoke/VarHandle" ∧ (parseMethodDescriptor q.desc).map (fun d => d.parameters.length) = some n) (hR : rm.frames + 1 ≤ R.frames ∧ 8 + (maxL + 11) + rm.locals ≤ R.locals) (hn : As.length = n) (hls : ls.size = nL) (hst : st = As.reverse ++ .ref (y (100 + i)) :: rest) (hrest : (rest.map fun v => v.category).sum ≤ 8) (hdg : decode cc pc = .ok (.invokevirtual index, 3))
    (kk : ∀ (H : Heap) (locs : List Loc), zH D y A0 s H locs o.2 → W p l e R s m args below meth c H locs 0 0 Q (F0 m (pc + 3) ls (.int o.1 :: rest))) : W p l e R s m args below meth c H locs 0 0 Q (F0 m pc ls st) := by
  subst hst
  have hF := z_free hM
  refine va_calli (va_runV (As := As) (rest := rest) X (hc H.size) (cwV n X.2.2.2.2 hT hw hrm.1 hrm.2 hd hR) (z_preT hi hM) rfl hn hls rfl (lv_room hrest) hdg ⟨Nat.zero_le _, Nat.zero_le _⟩) hM.2.2.1 (fun q _ hq => hF q hq) hF (fun r u t H1 locs1 ht hvm hw1 hB hz1 hk1 hS => ?_)
  obtain ⟨hP, hD, hS0, hK, hA, hE⟩ := hM
  obtain ⟨hB', hD', hZ'⟩ : va_P D vwCl (zW y o.2) t.heap ∧ va_D (va_A (zW y S) H.size) (zW y o.2) ∧ zG y o.2 t.heap.size := hB
  rw [ht] at hB' hZ'
  have hw2 : r = o.1 := hw1
  subst hw2
  exact kk H1 locs1 ⟨hB', hD'.weaken (fun _ q _ h9 => hF q.1 h9), hS, hK, hA, hE.1, hZ'⟩
theorem z_gcallTi {i : Nat} (X : CallFix p m c cc nL s args Ts own) (hM : zH D y A0 s H locs S) (hi : i < zSn) (hc : zMi l q ws rm (.ref (y (100 + i)) :: As) D y S o) (hT : GoodIn Ts (wsV own index "java/lang/String" q ws)) (hw : ws = Cond.code q bytes maxL ret :: ws') (hrm : rm.cells = 0 ∧ rm.slots = 0)
    (hd : q.cls = "java/lang/String" ∧ q.cls ≠ "java/lang/invoke/MethodHandle" ∧ q.cls ≠ "java/lang/invoke/VarHandle" ∧ (parseMethodDescriptor q.desc).map (fun d => d.parameters.length) = some n) (hR : rm.frames + 1 ≤ R.frames ∧ 8 + (maxL + 11) + rm.locals ≤ R.locals) (hn : As.length = n) (hls : ls.size = nL) (hst : st = As.reverse ++ .ref (y (100 + i)) :: rest) (hcs : cells ≤ R.cells ∧ slots ≤ R.slots) (hrest : (rest.map fun v => v.category).sum ≤ 8) (hdg : decode cc pc = .ok (.invokevirtual index, 3))
    (kk : ∀ (H : Heap) (locs : List Loc), zH D y A0 s H locs o.2 → W p l e R s m args below meth c H locs cells slots Q (F0 m (pc + 3) ls (.int o.1 :: rest))) : W p l e R s m args below meth c H locs cells slots Q (F0 m pc ls st) := by
  subst hst
  have hF := z_free hM
  refine va_calli (va_runV (As := As) (rest := rest) X (hc H.size) (cwV n X.2.2.2.2 hT hw hrm.1 hrm.2 hd hR) (z_preT hi hM) rfl hn hls rfl (lv_room hrest) hdg hcs) hM.2.2.1 (fun q _ hq => hF q hq) hF (fun r u t H1 locs1 ht hvm hw1 hB hz1 hk1 hS => ?_)
  obtain ⟨hP, hD, hS0, hK, hA, hE⟩ := hM
  obtain ⟨hB', hD', hZ'⟩ : va_P D vwCl (zW y o.2) t.heap ∧ va_D (va_A (zW y S) H.size) (zW y o.2) ∧ zG y o.2 t.heap.size := hB
  rw [ht] at hB' hZ'
  have hw2 : r = o.1 := hw1
  subst hw2
  exact kk H1 locs1 ⟨hB', hD'.weaken (fun _ q _ h9 => hF q.1 h9), hS, hK, hA, hE.1, hZ'⟩
theorem z_callSNr {host : String} {o : Nat × ZS} (X : CallFix p m c cc nL s args Ts own) (hM : zH D y A0 s H locs S) (hc : zMr l q ws rm As D y S o) (hT : GoodIn Ts ws) (hnw : (own, index, q, host) ∈ zNW) (hini : Cond.initialized q.cls ∈ Ts) (hsta : Cond.static q ∈ Ts) (hw : ws = Cond.code q bytes maxL ret :: ws') (hrm : rm.cells = 0 ∧ rm.slots = 0)
    (hd : q.cls ≠ "java/lang/invoke/MethodHandle" ∧ q.cls ≠ "java/lang/invoke/VarHandle" ∧ (parseMethodDescriptor q.desc).map (fun d => d.parameters.length) = some n) (hR : rm.frames + 1 ≤ R.frames ∧ 8 + (maxL + 11) + rm.locals ≤ R.locals) (hn : As.length = n) (hls : ls.size = nL) (hst : st = As.reverse ++ rest) (hrest : (rest.map fun v => v.category).sum ≤ 8) (hdg : decode cc pc = .ok (.invokestatic index, 3))
    (kk : ∀ (H : Heap) (locs : List Loc), zH D y A0 s H locs o.2 → W p l e R s m args below meth c H locs 0 0 Q (F0 m (pc + 3) ls (.ref o.1 :: rest))) : W p l e R s m args below meth c H locs 0 0 Q (F0 m pc ls st) := by
  subst hst
  have hF := z_free hM
  refine va_callr (va_runSN (host := host) (As := As) (rest := rest) X (hc H.size) ⟨va_cnB n X.2.2.2.2 hT hw hrm.1 hrm.2 (hM.2.2.2.2.2.1.1 _ hnw) (X.2.2.2.2 _ hini) hd hR, X.2.2.2.2 _ hsta, trivial⟩ (z_preS hM) rfl hn hls rfl (lv_room hrest) hdg ⟨Nat.zero_le _, Nat.zero_le _⟩) hM.2.2.1 (fun q _ hq => hF q hq) hF (fun u r t H1 locs1 ht hvm hw1 hB hz1 hk1 hS => ?_)
  obtain ⟨hP, hD, hS0, hK, hA, hE⟩ := hM
  obtain ⟨hw2, hB', hD', hZ'⟩ : r = o.1 ∧ va_P D vwCl (zW y o.2) t.heap ∧ va_D (va_A (zW y S) H.size) (zW y o.2) ∧ zG y o.2 t.heap.size := hB
  rw [ht] at hB' hZ'
  subst hw2
  exact kk H1 locs1 ⟨hB', hD'.weaken (fun _ q _ h9 => hF q.1 h9), hS, hK, hA, hE.1, hZ'⟩
theorem z_gcallSNr {host : String} {o : Nat × ZS} (X : CallFix p m c cc nL s args Ts own) (hM : zH D y A0 s H locs S) (hc : zMr l q ws rm As D y S o) (hT : GoodIn Ts ws) (hnw : (own, index, q, host) ∈ zNW) (hini : Cond.initialized q.cls ∈ Ts) (hsta : Cond.static q ∈ Ts) (hw : ws = Cond.code q bytes maxL ret :: ws') (hrm : rm.cells = 0 ∧ rm.slots = 0)
    (hd : q.cls ≠ "java/lang/invoke/MethodHandle" ∧ q.cls ≠ "java/lang/invoke/VarHandle" ∧ (parseMethodDescriptor q.desc).map (fun d => d.parameters.length) = some n) (hR : rm.frames + 1 ≤ R.frames ∧ 8 + (maxL + 11) + rm.locals ≤ R.locals) (hn : As.length = n) (hls : ls.size = nL) (hst : st = As.reverse ++ rest) (hcs : cells ≤ R.cells ∧ slots ≤ R.slots) (hrest : (rest.map fun v => v.category).sum ≤ 8) (hdg : decode cc pc = .ok (.invokestatic index, 3))
    (kk : ∀ (H : Heap) (locs : List Loc), zH D y A0 s H locs o.2 → W p l e R s m args below meth c H locs cells slots Q (F0 m (pc + 3) ls (.ref o.1 :: rest))) : W p l e R s m args below meth c H locs cells slots Q (F0 m pc ls st) := by
  subst hst
  have hF := z_free hM
  refine va_callr (va_runSN (host := host) (As := As) (rest := rest) X (hc H.size) ⟨va_cnB n X.2.2.2.2 hT hw hrm.1 hrm.2 (hM.2.2.2.2.2.1.1 _ hnw) (X.2.2.2.2 _ hini) hd hR, X.2.2.2.2 _ hsta, trivial⟩ (z_preS hM) rfl hn hls rfl (lv_room hrest) hdg hcs) hM.2.2.1 (fun q _ hq => hF q hq) hF (fun u r t H1 locs1 ht hvm hw1 hB hz1 hk1 hS => ?_)
  obtain ⟨hP, hD, hS0, hK, hA, hE⟩ := hM
  obtain ⟨hw2, hB', hD', hZ'⟩ : r = o.1 ∧ va_P D vwCl (zW y o.2) t.heap ∧ va_D (va_A (zW y S) H.size) (zW y o.2) ∧ zG y o.2 t.heap.size := hB
  rw [ht] at hB' hZ'
  subst hw2
  exact kk H1 locs1 ⟨hB', hD'.weaken (fun _ q _ h9 => hF q.1 h9), hS, hK, hA, hE.1, hZ'⟩
theorem z_callIv (X : CallFix p m c cc nL s args Ts own) (hM : zH D y A0 s H locs S) (hc : zMv l q ws rm (.ref (zh y a) :: As) D y S o) (hT : GoodIn Ts ws) (hnw : Cond.methodLink own index q ∈ Ts) (hini : Cond.initialized q.cls ∈ Ts) (hsta : Cond.instanceMethod q ∈ Ts) (hin0 : q.name = "<init>") (hw : ws = Cond.code q bytes maxL none :: ws') (hrm : rm.cells = 0 ∧ rm.slots = 0)
    (hd : q.cls ≠ "java/lang/invoke/MethodHandle" ∧ q.cls ≠ "java/lang/invoke/VarHandle" ∧ (parseMethodDescriptor q.desc).map (fun d => d.parameters.length) = some n) (hR : rm.frames + 1 ≤ R.frames ∧ 8 + (maxL + 11) + rm.locals ≤ R.locals) (hn : As.length = n) (hls : ls.size = nL) (hst : st = As.reverse ++ .ref (zh y a) :: rest) (hrest : (rest.map fun v => v.category).sum ≤ 8) (hdg : decode cc pc = .ok (.invokespecial index, 3))
    (kk : ∀ (H : Heap) (locs : List Loc), zH D y A0 s H locs o.2 → W p l e R s m args below meth c H locs 0 0 Q (F0 m (pc + 3) ls rest)) : W p l e R s m args below meth c H locs 0 0 Q (F0 m pc ls st) := by
  subst hst
  have hF := z_free hM
  refine va_callv (va_runI (b := zh y a) (As := As) (rest := rest) X (hc H.size) (cwI n X.2.2.2.2 hT hw hrm.1 hrm.2 (X.2.2.2.2 _ hini) (X.2.2.2.2 _ hnw) (X.2.2.2.2 _ hsta) hin0 hd hR) (z_preS hM) rfl hn hls rfl (lv_room hrest) hdg ⟨Nat.zero_le _, Nat.zero_le _⟩) hM.2.2.1 (fun q _ hq => hF q hq) hF (fun u t H1 locs1 ht hvm hw1 hB hz1 hk1 hS => ?_)
  obtain ⟨hP, hD, hS0, hK, hA, hE⟩ := hM
  obtain ⟨hB', hD', hZ'⟩ : va_P D vwCl (zW y o.2) t.heap ∧ va_D (va_A (zW y S) H.size) (zW y o.2) ∧ zG y o.2 t.heap.size := hB
  rw [ht] at hB' hZ'
  exact kk H1 locs1 ⟨hB', hD'.weaken (fun _ q _ h9 => hF q.1 h9), hS, hK, hA, hE.1, hZ'⟩
theorem z_callINv {host : String} (X : CallFix p m c cc nL s args Ts own) (hM : zH D y A0 s H locs S) (hc : zMv l q ws rm (.ref (zh y a) :: As) D y S o) (hT : GoodIn Ts ws) (hnw : (own, index, q, host) ∈ zNW) (hini : Cond.initialized q.cls ∈ Ts) (hsta : Cond.instanceMethod q ∈ Ts) (hin0 : q.name = "<init>") (hw : ws = Cond.code q bytes maxL none :: ws') (hrm : rm.cells = 0 ∧ rm.slots = 0)
    (hd : q.cls ≠ "java/lang/invoke/MethodHandle" ∧ q.cls ≠ "java/lang/invoke/VarHandle" ∧ (parseMethodDescriptor q.desc).map (fun d => d.parameters.length) = some n) (hR : rm.frames + 1 ≤ R.frames ∧ 8 + (maxL + 11) + rm.locals ≤ R.locals) (hn : As.length = n) (hls : ls.size = nL) (hst : st = As.reverse ++ .ref (zh y a) :: rest) (hrest : (rest.map fun v => v.category).sum ≤ 8) (hdg : decode cc pc = .ok (.invokespecial index, 3))
    (kk : ∀ (H : Heap) (locs : List Loc), zH D y A0 s H locs o.2 → W p l e R s m args below meth c H locs 0 0 Q (F0 m (pc + 3) ls rest)) : W p l e R s m args below meth c H locs 0 0 Q (F0 m pc ls st) := by
  subst hst
  have hF := z_free hM
  refine va_callv (va_runIN (host := host) (b := zh y a) (As := As) (rest := rest) X (hc H.size) ⟨va_cnB n X.2.2.2.2 hT hw hrm.1 hrm.2 (hM.2.2.2.2.2.1.1 _ hnw) (X.2.2.2.2 _ hini) hd hR, hin0, X.2.2.2.2 _ hsta⟩ (z_preS hM) rfl hn hls rfl (lv_room hrest) hdg ⟨Nat.zero_le _, Nat.zero_le _⟩) hM.2.2.1 (fun q _ hq => hF q hq) hF (fun u t H1 locs1 ht hvm hw1 hB hz1 hk1 hS => ?_)
  obtain ⟨hP, hD, hS0, hK, hA, hE⟩ := hM
  obtain ⟨hB', hD', hZ'⟩ : va_P D vwCl (zW y o.2) t.heap ∧ va_D (va_A (zW y S) H.size) (zW y o.2) ∧ zG y o.2 t.heap.size := hB
  rw [ht] at hB' hZ'
  exact kk H1 locs1 ⟨hB', hD'.weaken (fun _ q _ h9 => hF q.1 h9), hS, hK, hA, hE.1, hZ'⟩
theorem z_gcallIv (X : CallFix p m c cc nL s args Ts own) (hM : zH D y A0 s H locs S) (hc : zMv l q ws rm (.ref (zh y a) :: As) D y S o) (hT : GoodIn Ts ws) (hnw : Cond.methodLink own index q ∈ Ts) (hini : Cond.initialized q.cls ∈ Ts) (hsta : Cond.instanceMethod q ∈ Ts) (hin0 : q.name = "<init>") (hw : ws = Cond.code q bytes maxL none :: ws') (hrm : rm.cells = 0 ∧ rm.slots = 0)
    (hd : q.cls ≠ "java/lang/invoke/MethodHandle" ∧ q.cls ≠ "java/lang/invoke/VarHandle" ∧ (parseMethodDescriptor q.desc).map (fun d => d.parameters.length) = some n) (hR : rm.frames + 1 ≤ R.frames ∧ 8 + (maxL + 11) + rm.locals ≤ R.locals) (hn : As.length = n) (hls : ls.size = nL) (hst : st = As.reverse ++ .ref (zh y a) :: rest) (hcs : cells ≤ R.cells ∧ slots ≤ R.slots) (hrest : (rest.map fun v => v.category).sum ≤ 8) (hdg : decode cc pc = .ok (.invokespecial index, 3))
    (kk : ∀ (H : Heap) (locs : List Loc), zH D y A0 s H locs o.2 → W p l e R s m args below meth c H locs cells slots Q (F0 m (pc + 3) ls rest)) : W p l e R s m args below meth c H locs cells slots Q (F0 m pc ls st) := by
  subst hst
  have hF := z_free hM
  refine va_callv (va_runI (b := zh y a) (As := As) (rest := rest) X (hc H.size) (cwI n X.2.2.2.2 hT hw hrm.1 hrm.2 (X.2.2.2.2 _ hini) (X.2.2.2.2 _ hnw) (X.2.2.2.2 _ hsta) hin0 hd hR) (z_preS hM) rfl hn hls rfl (lv_room hrest) hdg hcs) hM.2.2.1 (fun q _ hq => hF q hq) hF (fun u t H1 locs1 ht hvm hw1 hB hz1 hk1 hS => ?_)
  obtain ⟨hP, hD, hS0, hK, hA, hE⟩ := hM
  obtain ⟨hB', hD', hZ'⟩ : va_P D vwCl (zW y o.2) t.heap ∧ va_D (va_A (zW y S) H.size) (zW y o.2) ∧ zG y o.2 t.heap.size := hB
  rw [ht] at hB' hZ'
  exact kk H1 locs1 ⟨hB', hD'.weaken (fun _ q _ h9 => hF q.1 h9), hS, hK, hA, hE.1, hZ'⟩
theorem z_gcallINv {host : String} (X : CallFix p m c cc nL s args Ts own) (hM : zH D y A0 s H locs S) (hc : zMv l q ws rm (.ref (zh y a) :: As) D y S o) (hT : GoodIn Ts ws) (hnw : (own, index, q, host) ∈ zNW) (hini : Cond.initialized q.cls ∈ Ts) (hsta : Cond.instanceMethod q ∈ Ts) (hin0 : q.name = "<init>") (hw : ws = Cond.code q bytes maxL none :: ws') (hrm : rm.cells = 0 ∧ rm.slots = 0)
    (hd : q.cls ≠ "java/lang/invoke/MethodHandle" ∧ q.cls ≠ "java/lang/invoke/VarHandle" ∧ (parseMethodDescriptor q.desc).map (fun d => d.parameters.length) = some n) (hR : rm.frames + 1 ≤ R.frames ∧ 8 + (maxL + 11) + rm.locals ≤ R.locals) (hn : As.length = n) (hls : ls.size = nL) (hst : st = As.reverse ++ .ref (zh y a) :: rest) (hcs : cells ≤ R.cells ∧ slots ≤ R.slots) (hrest : (rest.map fun v => v.category).sum ≤ 8) (hdg : decode cc pc = .ok (.invokespecial index, 3))
    (kk : ∀ (H : Heap) (locs : List Loc), zH D y A0 s H locs o.2 → W p l e R s m args below meth c H locs cells slots Q (F0 m (pc + 3) ls rest)) : W p l e R s m args below meth c H locs cells slots Q (F0 m pc ls st) := by
  subst hst
  have hF := z_free hM
  refine va_callv (va_runIN (host := host) (b := zh y a) (As := As) (rest := rest) X (hc H.size) ⟨va_cnB n X.2.2.2.2 hT hw hrm.1 hrm.2 (hM.2.2.2.2.2.1.1 _ hnw) (X.2.2.2.2 _ hini) hd hR, hin0, X.2.2.2.2 _ hsta⟩ (z_preS hM) rfl hn hls rfl (lv_room hrest) hdg hcs) hM.2.2.1 (fun q _ hq => hF q hq) hF (fun u t H1 locs1 ht hvm hw1 hB hz1 hk1 hS => ?_)
  obtain ⟨hP, hD, hS0, hK, hA, hE⟩ := hM
  obtain ⟨hB', hD', hZ'⟩ : va_P D vwCl (zW y o.2) t.heap ∧ va_D (va_A (zW y S) H.size) (zW y o.2) ∧ zG y o.2 t.heap.size := hB
  rw [ht] at hB' hZ'
  exact kk H1 locs1 ⟨hB', hD'.weaken (fun _ q _ h9 => hF q.1 h9), hS, hK, hA, hE.1, hZ'⟩
theorem z_wcallIv (X : CallFix p m c cc nL s args Ts own) (hM : zH D y A0 s H locs S) (hc : zWv l q ws rm (.ref (zh y a) :: As) D y S mc ms Pw) (hT : GoodIn Ts ws) (hnw : Cond.methodLink own index q ∈ Ts) (hini : Cond.initialized q.cls ∈ Ts) (hsta : Cond.instanceMethod q ∈ Ts) (hin0 : q.name = "<init>") (hw : ws = Cond.code q bytes maxL none :: ws') (hrm : rm.cells = mc ∧ rm.slots = ms) (hcs : cells + mc ≤ R.cells ∧ slots + ms ≤ R.slots)
    (hd : q.cls ≠ "java/lang/invoke/MethodHandle" ∧ q.cls ≠ "java/lang/invoke/VarHandle" ∧ (parseMethodDescriptor q.desc).map (fun d => d.parameters.length) = some n) (hR : rm.frames + 1 ≤ R.frames ∧ 8 + (maxL + 11) + rm.locals ≤ R.locals) (hn : As.length = n) (hls : ls.size = nL) (hst : st = As.reverse ++ .ref (zh y a) :: rest) (hrest : (rest.map fun v => v.category).sum ≤ 8) (hdg : decode cc pc = .ok (.invokespecial index, 3))
    (kk : ∀ (S1 : ZS) (H : Heap) (locs : List Loc), Pw 0 S1 → zH D y A0 s H locs S1 → W p l e R s m args below meth c H locs (cells + mc) (slots + ms) Q (F0 m (pc + 3) ls rest)) : W p l e R s m args below meth c H locs cells slots Q (F0 m pc ls st) := by
  subst hst
  have hF := z_free hM
  refine va_callv (va_runI (b := zh y a) (As := As) (rest := rest) X (hc H.size) (cwI n X.2.2.2.2 hT hw hrm.1 hrm.2 (X.2.2.2.2 _ hini) (X.2.2.2.2 _ hnw) (X.2.2.2.2 _ hsta) hin0 hd hR) (z_preS hM) rfl hn hls rfl (lv_room hrest) hdg hcs) hM.2.2.1 (fun q _ hq => hF q hq) hF (fun u t H1 locs1 ht hvm hw1 hB hz1 hk1 hS => ?_)
  obtain ⟨hP, hD, hS0, hK, hA, hE⟩ := hM
  obtain ⟨hB', hD', hZ'⟩ : va_P D vwCl (zW y u) t.heap ∧ va_D (va_A (zW y S) H.size) (zW y u) ∧ zG y u t.heap.size := hB
  rw [ht] at hB' hZ'
  exact kk u H1 locs1 hw1 ⟨hB', hD'.weaken (fun _ q _ h9 => hF q.1 h9), hS, hK, hA, hE.1, hZ'⟩
theorem z_wcallINv {host : String} (X : CallFix p m c cc nL s args Ts own) (hM : zH D y A0 s H locs S) (hc : zWv l q ws rm (.ref (zh y a) :: As) D y S mc ms Pw) (hT : GoodIn Ts ws) (hnw : (own, index, q, host) ∈ zNW) (hini : Cond.initialized q.cls ∈ Ts) (hsta : Cond.instanceMethod q ∈ Ts) (hin0 : q.name = "<init>") (hw : ws = Cond.code q bytes maxL none :: ws') (hrm : rm.cells = mc ∧ rm.slots = ms) (hcs : cells + mc ≤ R.cells ∧ slots + ms ≤ R.slots)
    (hd : q.cls ≠ "java/lang/invoke/MethodHandle" ∧ q.cls ≠ "java/lang/invoke/VarHandle" ∧ (parseMethodDescriptor q.desc).map (fun d => d.parameters.length) = some n) (hR : rm.frames + 1 ≤ R.frames ∧ 8 + (maxL + 11) + rm.locals ≤ R.locals) (hn : As.length = n) (hls : ls.size = nL) (hst : st = As.reverse ++ .ref (zh y a) :: rest) (hrest : (rest.map fun v => v.category).sum ≤ 8) (hdg : decode cc pc = .ok (.invokespecial index, 3))
    (kk : ∀ (S1 : ZS) (H : Heap) (locs : List Loc), Pw 0 S1 → zH D y A0 s H locs S1 → W p l e R s m args below meth c H locs (cells + mc) (slots + ms) Q (F0 m (pc + 3) ls rest)) : W p l e R s m args below meth c H locs cells slots Q (F0 m pc ls st) := by
  subst hst
  have hF := z_free hM
  refine va_callv (va_runIN (host := host) (b := zh y a) (As := As) (rest := rest) X (hc H.size) ⟨va_cnB n X.2.2.2.2 hT hw hrm.1 hrm.2 (hM.2.2.2.2.2.1.1 _ hnw) (X.2.2.2.2 _ hini) hd hR, hin0, X.2.2.2.2 _ hsta⟩ (z_preS hM) rfl hn hls rfl (lv_room hrest) hdg hcs) hM.2.2.1 (fun q _ hq => hF q hq) hF (fun u t H1 locs1 ht hvm hw1 hB hz1 hk1 hS => ?_)
  obtain ⟨hP, hD, hS0, hK, hA, hE⟩ := hM
  obtain ⟨hB', hD', hZ'⟩ : va_P D vwCl (zW y u) t.heap ∧ va_D (va_A (zW y S) H.size) (zW y u) ∧ zG y u t.heap.size := hB
  rw [ht] at hB' hZ'
  exact kk u H1 locs1 hw1 ⟨hB', hD'.weaken (fun _ q _ h9 => hF q.1 h9), hS, hK, hA, hE.1, hZ'⟩
theorem z_wcallVr {Pw : Nat → ZS → Prop} {fl : (Nat → Int32) → (Nat → Option Nat) → List Value} (X : CallFix p m c cc nL s args Ts own) (hM : zH D y A0 s H locs S) (hcl : vwCl[k]? = some (C, T, N)) (hC : ∀ (I : Nat → Int32) (P : Nat → Option Nat) (n : Nat) (A : Nat → Int32) (B : Nat → Option Nat), zC y k I P n A B = .inr (k, fl I P)) (ha : a ∈ zL S ∧ zK S a = k) (hc : zWr l q ws rm (.ref (zh y a) :: As) D y S mc ms Pw) (hT : GoodIn Ts (wsV own index C q ws)) (hw : ws = Cond.code q bytes maxL ret :: ws') (hrm : rm.cells = mc ∧ rm.slots = ms) (hcs : cells + mc ≤ R.cells ∧ slots + ms ≤ R.slots)
    (hd : q.cls = C ∧ q.cls ≠ "java/lang/invoke/MethodHandle" ∧ q.cls ≠ "java/lang/invoke/VarHandle" ∧ (parseMethodDescriptor q.desc).map (fun d => d.parameters.length) = some n) (hR : rm.frames + 1 ≤ R.frames ∧ 8 + (maxL + 11) + rm.locals ≤ R.locals) (hn : As.length = n) (hls : ls.size = nL) (hst : st = As.reverse ++ .ref (zh y a) :: rest) (hrest : (rest.map fun v => v.category).sum ≤ 8) (hdg : decode cc pc = .ok (.invokevirtual index, 3))
    (kk : ∀ (r : Nat) (S1 : ZS) (H : Heap) (locs : List Loc), Pw r S1 → zH D y A0 s H locs S1 → W p l e R s m args below meth c H locs (cells + mc) (slots + ms) Q (F0 m (pc + 3) ls (.ref (zh y r) :: rest))) : W p l e R s m args below meth c H locs cells slots Q (F0 m pc ls st) := by
  subst hst
  have hF := z_free hM
  refine va_callr (va_runV (As := As) (rest := rest) X (hc H.size) (cwV n X.2.2.2.2 hT hw hrm.1 hrm.2 hd hR) (z_preV hcl hC ha hM) rfl hn hls rfl (lv_room hrest) hdg hcs) hM.2.2.1 (fun q _ hq => hF q hq) hF (fun u r t H1 locs1 ht hvm hw1 hB hz1 hk1 hS => ?_)
  obtain ⟨hP, hD, hS0, hK, hA, hE⟩ := hM
  obtain ⟨⟨i9, e9, hp9⟩, hB', hD', hZ'⟩ : (∃ i, r = zh y i ∧ Pw i u) ∧ va_P D vwCl (zW y u) t.heap ∧ va_D (va_A (zW y S) H.size) (zW y u) ∧ zG y u t.heap.size := hB
  rw [ht] at hB' hZ'
  subst e9
  exact kk i9 u H1 locs1 hp9 ⟨hB', hD'.weaken (fun _ q _ h9 => hF q.1 h9), hS, hK, hA, hE.1, hZ'⟩
end ZLR
theorem z_entryI {l : Launch} {q : MethodName} {ws ws' : List Cond} {rm : Room} {cc : ByteArray} {maxL : Nat} {ty : FieldType} {av : List Value} {D : va_G} {y : Nat → ClassId} {S : ZS} {o : Int32 × ZS} {own : String} (hy : plainName q.cls = true) (hcls : q.cls = own) (hw : ws = Cond.code q cc maxL (some ty) :: ws') (hav : (lg_sl av).length ≤ maxL)
    (body : ∀ (p : Program) (e : Env) (s : State) (m : MethodId) (args : Array Value) (below : List Frame) (meth : Method) (c : Code) (A0 : Nat → Prop) (Q : State → Prop) (H : Heap) (locs : List Loc) (ls : Array Slot), CallFix p m c cc maxL s args ws own → zRi p l e rm s m args below meth c Q cc D y A0 ty o → zH D y A0 s H locs S → lv_has ls maxL (lv_args 0 av) → W p l e rm s m args below meth c H locs 0 0 Q (F0 m 0 ls [])) : zMi l q ws rm av D y S o := by
  intro sz
  refine Met.ofW (cc := cc) (maxL := maxL) (ret := some ty) hy hw ?_
  intro p e s m args below meth c s₁ B hml hv
  obtain ⟨rfl, hsz, hP, hK, hD0, hE⟩ := hv
  subst hsz
  have hlocks := B.notSynchronized
  have hr := B.returns
  have X : CallFix p m c cc maxL s av.toArray ws own := ⟨B.exec, B.bytes, hml, by rw [← hcls]; exact findClass_of_methodNamed B.named, atoms_spec (ws := ws) B.pre⟩
  have hl := lv_entry av (n := maxL) hav
  rw [lg_entry_eq]
  have hM : zH D y (va_A (zW y S) s.heap.size) s s.heap [] S := ⟨hP, hD0.self, va_S.rf, hK, fun q hq => Or.inr hq, hE⟩
  refine body p e s m av.toArray below meth c (va_A (zW y S) s.heap.size) _ s.heap [] _ X ?_ hM hl
  intro H locs pc ls hM hn hdg
  exact W.zret (v := o.1) X.1 X.2.1 hr hn (fun t ht hW => ⟨⟨o.1, (), rfl, rfl, by show va_P D vwCl (zW y o.2) t.heap ∧ _; rw [ht]; exact ⟨hM.1, hM.2.1, hM.2.2.2.2.2.2⟩⟩, hM.2.2.1.F ht⟩) hM.2.2.1.2.2 hdg
theorem z_entryR {l : Launch} {q : MethodName} {ws ws' : List Cond} {rm : Room} {cc : ByteArray} {maxL : Nat} {rt : FieldType} {av : List Value} {D : va_G} {y : Nat → ClassId} {S : ZS} {o : Nat × ZS} {own : String} (hy : plainName q.cls = true) (hcls : q.cls = own) (hw : ws = Cond.code q cc maxL (some rt) :: ws') (hav : (lg_sl av).length ≤ maxL) (hrt : ∃ n, rt = .object n)
    (body : ∀ (p : Program) (e : Env) (s : State) (m : MethodId) (args : Array Value) (below : List Frame) (meth : Method) (c : Code) (A0 : Nat → Prop) (Q : State → Prop) (H : Heap) (locs : List Loc) (ls : Array Slot), CallFix p m c cc maxL s args ws own → zRr p l e rm s m args below meth c Q cc D y A0 o → zH D y A0 s H locs S → lv_has ls maxL (lv_args 0 av) → W p l e rm s m args below meth c H locs 0 0 Q (F0 m 0 ls [])) : zMr l q ws rm av D y S o := by
  intro sz
  refine Met.ofW (cc := cc) (maxL := maxL) (ret := some rt) hy hw ?_
  intro p e s m args below meth c s₁ B hml hv
  obtain ⟨rfl, hsz, hP, hK, hD0, hE⟩ := hv
  subst hsz
  have hlocks := B.notSynchronized
  have hr := B.returns
  have X : CallFix p m c cc maxL s av.toArray ws own := ⟨B.exec, B.bytes, hml, by rw [← hcls]; exact findClass_of_methodNamed B.named, atoms_spec (ws := ws) B.pre⟩
  have hl := lv_entry av (n := maxL) hav
  rw [lg_entry_eq]
  have hM : zH D y (va_A (zW y S) s.heap.size) s s.heap [] S := ⟨hP, hD0.self, va_S.rf, hK, fun q hq => Or.inr hq, hE⟩
  refine body p e s m av.toArray below meth c (va_A (zW y S) s.heap.size) _ s.heap [] _ X ?_ hM hl
  intro H locs pc ls hM hdg
  exact W.aret (v := .ref o.1) X.1 X.2.1 hr (Or.inl hrt) (Or.inr ⟨_, rfl⟩) (fun t ht hW => ⟨⟨(), o.1, rfl, trivial, rfl, by rw [ht]; exact hM.1, hM.2.1, by rw [ht]; exact hM.2.2.2.2.2.2⟩, hM.2.2.1.F ht⟩) hM.2.2.1.2.2 hdg
theorem z_entryV {l : Launch} {q : MethodName} {ws ws' : List Cond} {rm : Room} {cc : ByteArray} {maxL : Nat} {av : List Value} {D : va_G} {y : Nat → ClassId} {S : ZS} {o : Int32 × ZS} {own : String} (hy : plainName q.cls = true) (hcls : q.cls = own) (hw : ws = Cond.code q cc maxL none :: ws') (hav : (lg_sl av).length ≤ maxL)
    (body : ∀ (p : Program) (e : Env) (s : State) (m : MethodId) (args : Array Value) (below : List Frame) (meth : Method) (c : Code) (A0 : Nat → Prop) (Q : State → Prop) (H : Heap) (locs : List Loc) (ls : Array Slot), CallFix p m c cc maxL s args ws own → zRv p l e rm s m args below meth c Q cc D y A0 o → zH D y A0 s H locs S → lv_has ls maxL (lv_args 0 av) → W p l e rm s m args below meth c H locs 0 0 Q (F0 m 0 ls [])) : zMv l q ws rm av D y S o := by
  intro sz
  refine Met.ofW (cc := cc) (maxL := maxL) (ret := none) hy hw ?_
  intro p e s m args below meth c s₁ B hml hv
  obtain ⟨rfl, hsz, hP, hK, hD0, hE⟩ := hv
  subst hsz
  have hlocks := B.notSynchronized
  have hr := B.returns
  have X : CallFix p m c cc maxL s av.toArray ws own := ⟨B.exec, B.bytes, hml, by rw [← hcls]; exact findClass_of_methodNamed B.named, atoms_spec (ws := ws) B.pre⟩
  have hl := lv_entry av (n := maxL) hav
  rw [lg_entry_eq]
  have hM : zH D y (va_A (zW y S) s.heap.size) s s.heap [] S := ⟨hP, hD0.self, va_S.rf, hK, fun q hq => Or.inr hq, hE⟩
  refine body p e s m av.toArray below meth c (va_A (zW y S) s.heap.size) _ s.heap [] _ X ?_ hM hl
  intro H locs pc ls hM hdg
  exact W.vret X.1 X.2.1 hr (fun t ht hW => ⟨⟨(), rfl, trivial, by show va_P D vwCl (zW y o.2) t.heap ∧ _; rw [ht]; exact ⟨hM.1, hM.2.1, hM.2.2.2.2.2.2⟩⟩, hM.2.2.1.F ht⟩) hM.2.2.1.2.2 hdg
theorem z_entryC {l : Launch} {q : MethodName} {ws ws' : List Cond} {rm : Room} {cc : ByteArray} {maxL : Nat} {av : List Value} {D : va_G} {y : Nat → ClassId} {S : ZS} {o : Int32 × ZS} {own : String} (hy : plainName q.cls = true) (hcls : q.cls = own) (hw : ws = Cond.code q cc maxL none :: ws') (hav : (lg_sl av).length ≤ maxL)
    (hin0 : q.name = "<init>") (body : ∀ (p : Program) (e : Env) (s : State) (m : MethodId) (args : Array Value) (below : List Frame) (meth : Method) (c : Code) (A0 : Nat → Prop) (Q : State → Prop) (H : Heap) (locs : List Loc) (ls : Array Slot), CallFix p m c cc maxL s args ws own → meth.name = "<init>" → zRv p l e rm s m args below meth c Q cc D y A0 o → zH D y A0 s H locs S → lv_has ls maxL (lv_args 0 av) → W p l e rm s m args below meth c H locs 0 0 Q (F0 m 0 ls [])) : zMv l q ws rm av D y S o := by
  intro sz
  refine Met.ofW (cc := cc) (maxL := maxL) (ret := none) hy hw ?_
  intro p e s m args below meth c s₁ B hml hv
  obtain ⟨rfl, hsz, hP, hK, hD0, hE⟩ := hv
  subst hsz
  have hlocks := B.notSynchronized
  have hr := B.returns
  have X : CallFix p m c cc maxL s av.toArray ws own := ⟨B.exec, B.bytes, hml, by rw [← hcls]; exact findClass_of_methodNamed B.named, atoms_spec (ws := ws) B.pre⟩
  have hl := lv_entry av (n := maxL) hav
  rw [lg_entry_eq]
  have hM : zH D y (va_A (zW y S) s.heap.size) s s.heap [] S := ⟨hP, hD0.self, va_S.rf, hK, fun q hq => Or.inr hq, hE⟩
  refine body p e s m av.toArray below meth c (va_A (zW y S) s.heap.size) _ s.heap [] _ X (by rw [← hin0]; exact (name_of_methodNamed B.named B.method).1) ?_ hM hl
  intro H locs pc ls hM hdg
  exact W.vret X.1 X.2.1 hr (fun t ht hW => ⟨⟨(), rfl, trivial, by show va_P D vwCl (zW y o.2) t.heap ∧ _; rw [ht]; exact ⟨hM.1, hM.2.1, hM.2.2.2.2.2.2⟩⟩, hM.2.2.1.F ht⟩) hM.2.2.1.2.2 hdg
theorem z_wentI {l : Launch} {q : MethodName} {ws ws' : List Cond} {rm : Room} {cc : ByteArray} {maxL : Nat} {ty : FieldType} {av : List Value} {D : va_G} {y : Nat → ClassId} {S : ZS} {mc ms : Nat} {Pw : Int32 → ZS → Prop} {own : String} (hy : plainName q.cls = true) (hcls : q.cls = own) (hw : ws = Cond.code q cc maxL (some ty) :: ws') (hav : (lg_sl av).length ≤ maxL) (hrm : rm.cells = mc ∧ rm.slots = ms)
    (body : ∀ (p : Program) (e : Env) (s : State) (m : MethodId) (args : Array Value) (below : List Frame) (meth : Method) (c : Code) (A0 : Nat → Prop) (Q : State → Prop) (H : Heap) (locs : List Loc) (ls : Array Slot), CallFix p m c cc maxL s args ws own → zQi p l e rm s m args below meth c Q cc D y A0 ty Pw → zH D y A0 s H locs S → lv_has ls maxL (lv_args 0 av) → W p l e rm s m args below meth c H locs (rm.cells - rm.cells) (rm.slots - rm.slots) Q (F0 m 0 ls [])) : zWi l q ws rm av D y S mc ms Pw := by
  intro sz
  refine Met.ofW (cc := cc) (maxL := maxL) (ret := some ty) hy hw ?_
  intro p e s m args below meth c s₁ B hml hv
  obtain ⟨rfl, hsz, hP, hK, hD0, hE⟩ := hv
  subst hsz
  have hlocks := B.notSynchronized
  have hr := B.returns
  have X : CallFix p m c cc maxL s av.toArray ws own := ⟨B.exec, B.bytes, hml, by rw [← hcls]; exact findClass_of_methodNamed B.named, atoms_spec (ws := ws) B.pre⟩
  have hl := lv_entry av (n := maxL) hav
  rw [lg_entry_eq]
  have hM : zH D y (va_A (zW y S) s.heap.size) s s.heap [] S := ⟨hP, hD0.self, va_S.rf, hK, fun q hq => Or.inr hq, hE⟩
  obtain ⟨rfl, rfl⟩ := hrm
  refine z_eqCS (c2 := rm.cells - rm.cells) (t2 := rm.slots - rm.slots) (Nat.sub_self _).symm (Nat.sub_self _).symm ?_
  refine body p e s m av.toArray below meth c (va_A (zW y S) s.heap.size) _ s.heap [] _ X ?_ hM hl
  intro r S1 C T H locs pc ls hp hM hn hdg
  refine W.widen (k := rm.cells) (n := rm.slots) (Nat.sub_le _ _) (Nat.sub_le _ _) ?_
  exact W.zret (v := r) X.1 X.2.1 hr hn (fun t ht hW => ⟨⟨r, S1, rfl, hp, by show va_P D vwCl (zW y S1) t.heap ∧ _; rw [ht]; exact ⟨hM.1, hM.2.1, hM.2.2.2.2.2.2⟩⟩, hM.2.2.1.F ht⟩) hM.2.2.1.2.2 hdg
theorem z_wentR {l : Launch} {q : MethodName} {ws ws' : List Cond} {rm : Room} {cc : ByteArray} {maxL : Nat} {rt : FieldType} {av : List Value} {D : va_G} {y : Nat → ClassId} {S : ZS} {mc ms : Nat} {Pw : Nat → ZS → Prop} {own : String} (hy : plainName q.cls = true) (hcls : q.cls = own) (hw : ws = Cond.code q cc maxL (some rt) :: ws') (hav : (lg_sl av).length ≤ maxL) (hrm : rm.cells = mc ∧ rm.slots = ms) (hrt : ∃ n, rt = .object n)
    (body : ∀ (p : Program) (e : Env) (s : State) (m : MethodId) (args : Array Value) (below : List Frame) (meth : Method) (c : Code) (A0 : Nat → Prop) (Q : State → Prop) (H : Heap) (locs : List Loc) (ls : Array Slot), CallFix p m c cc maxL s args ws own → zQr p l e rm s m args below meth c Q cc D y A0 Pw → zH D y A0 s H locs S → lv_has ls maxL (lv_args 0 av) → W p l e rm s m args below meth c H locs (rm.cells - rm.cells) (rm.slots - rm.slots) Q (F0 m 0 ls [])) : zWr l q ws rm av D y S mc ms Pw := by
  intro sz
  refine Met.ofW (cc := cc) (maxL := maxL) (ret := some rt) hy hw ?_
  intro p e s m args below meth c s₁ B hml hv
  obtain ⟨rfl, hsz, hP, hK, hD0, hE⟩ := hv
  subst hsz
  have hlocks := B.notSynchronized
  have hr := B.returns
  have X : CallFix p m c cc maxL s av.toArray ws own := ⟨B.exec, B.bytes, hml, by rw [← hcls]; exact findClass_of_methodNamed B.named, atoms_spec (ws := ws) B.pre⟩
  have hl := lv_entry av (n := maxL) hav
  rw [lg_entry_eq]
  have hM : zH D y (va_A (zW y S) s.heap.size) s s.heap [] S := ⟨hP, hD0.self, va_S.rf, hK, fun q hq => Or.inr hq, hE⟩
  obtain ⟨rfl, rfl⟩ := hrm
  refine z_eqCS (c2 := rm.cells - rm.cells) (t2 := rm.slots - rm.slots) (Nat.sub_self _).symm (Nat.sub_self _).symm ?_
  refine body p e s m av.toArray below meth c (va_A (zW y S) s.heap.size) _ s.heap [] _ X ?_ hM hl
  intro r S1 C T H locs pc ls hp hM hdg
  refine W.widen (k := rm.cells) (n := rm.slots) (Nat.sub_le _ _) (Nat.sub_le _ _) ?_
  exact W.aret (v := .ref (zh y r)) X.1 X.2.1 hr (Or.inl hrt) (Or.inr ⟨_, rfl⟩) (fun t ht hW => ⟨⟨S1, zh y r, rfl, trivial, ⟨r, rfl, hp⟩, by rw [ht]; exact hM.1, hM.2.1, by rw [ht]; exact hM.2.2.2.2.2.2⟩, hM.2.2.1.F ht⟩) hM.2.2.1.2.2 hdg
theorem z_wentV {l : Launch} {q : MethodName} {ws ws' : List Cond} {rm : Room} {cc : ByteArray} {maxL : Nat} {av : List Value} {D : va_G} {y : Nat → ClassId} {S : ZS} {mc ms : Nat} {Pw : Int32 → ZS → Prop} {own : String} (hy : plainName q.cls = true) (hcls : q.cls = own) (hw : ws = Cond.code q cc maxL none :: ws') (hav : (lg_sl av).length ≤ maxL) (hrm : rm.cells = mc ∧ rm.slots = ms)
    (body : ∀ (p : Program) (e : Env) (s : State) (m : MethodId) (args : Array Value) (below : List Frame) (meth : Method) (c : Code) (A0 : Nat → Prop) (Q : State → Prop) (H : Heap) (locs : List Loc) (ls : Array Slot), CallFix p m c cc maxL s args ws own → zQv p l e rm s m args below meth c Q cc D y A0 Pw → zH D y A0 s H locs S → lv_has ls maxL (lv_args 0 av) → W p l e rm s m args below meth c H locs (rm.cells - rm.cells) (rm.slots - rm.slots) Q (F0 m 0 ls [])) : zWv l q ws rm av D y S mc ms Pw := by
  intro sz
  refine Met.ofW (cc := cc) (maxL := maxL) (ret := none) hy hw ?_
  intro p e s m args below meth c s₁ B hml hv
  obtain ⟨rfl, hsz, hP, hK, hD0, hE⟩ := hv
  subst hsz
  have hlocks := B.notSynchronized
  have hr := B.returns
  have X : CallFix p m c cc maxL s av.toArray ws own := ⟨B.exec, B.bytes, hml, by rw [← hcls]; exact findClass_of_methodNamed B.named, atoms_spec (ws := ws) B.pre⟩
  have hl := lv_entry av (n := maxL) hav
  rw [lg_entry_eq]
  have hM : zH D y (va_A (zW y S) s.heap.size) s s.heap [] S := ⟨hP, hD0.self, va_S.rf, hK, fun q hq => Or.inr hq, hE⟩
  obtain ⟨rfl, rfl⟩ := hrm
  refine z_eqCS (c2 := rm.cells - rm.cells) (t2 := rm.slots - rm.slots) (Nat.sub_self _).symm (Nat.sub_self _).symm ?_
  refine body p e s m av.toArray below meth c (va_A (zW y S) s.heap.size) _ s.heap [] _ X ?_ hM hl
  intro S1 C T H locs pc ls hp hM hdg
  refine W.widen (k := rm.cells) (n := rm.slots) (Nat.sub_le _ _) (Nat.sub_le _ _) ?_
  exact W.vret X.1 X.2.1 hr (fun t ht hW => ⟨⟨S1, rfl, hp, by show va_P D vwCl (zW y S1) t.heap ∧ _; rw [ht]; exact ⟨hM.1, hM.2.1, hM.2.2.2.2.2.2⟩⟩, hM.2.2.1.F ht⟩) hM.2.2.1.2.2 hdg
theorem z_wentC {l : Launch} {q : MethodName} {ws ws' : List Cond} {rm : Room} {cc : ByteArray} {maxL : Nat} {av : List Value} {D : va_G} {y : Nat → ClassId} {S : ZS} {mc ms : Nat} {Pw : Int32 → ZS → Prop} {own : String} (hy : plainName q.cls = true) (hcls : q.cls = own) (hw : ws = Cond.code q cc maxL none :: ws') (hav : (lg_sl av).length ≤ maxL) (hrm : rm.cells = mc ∧ rm.slots = ms)
    (hin0 : q.name = "<init>") (body : ∀ (p : Program) (e : Env) (s : State) (m : MethodId) (args : Array Value) (below : List Frame) (meth : Method) (c : Code) (A0 : Nat → Prop) (Q : State → Prop) (H : Heap) (locs : List Loc) (ls : Array Slot), CallFix p m c cc maxL s args ws own → meth.name = "<init>" → zQv p l e rm s m args below meth c Q cc D y A0 Pw → zH D y A0 s H locs S → lv_has ls maxL (lv_args 0 av) → W p l e rm s m args below meth c H locs (rm.cells - rm.cells) (rm.slots - rm.slots) Q (F0 m 0 ls [])) : zWv l q ws rm av D y S mc ms Pw := by
  intro sz
  refine Met.ofW (cc := cc) (maxL := maxL) (ret := none) hy hw ?_
  intro p e s m args below meth c s₁ B hml hv
  obtain ⟨rfl, hsz, hP, hK, hD0, hE⟩ := hv
  subst hsz
  have hlocks := B.notSynchronized
  have hr := B.returns
  have X : CallFix p m c cc maxL s av.toArray ws own := ⟨B.exec, B.bytes, hml, by rw [← hcls]; exact findClass_of_methodNamed B.named, atoms_spec (ws := ws) B.pre⟩
  have hl := lv_entry av (n := maxL) hav
  rw [lg_entry_eq]
  have hM : zH D y (va_A (zW y S) s.heap.size) s s.heap [] S := ⟨hP, hD0.self, va_S.rf, hK, fun q hq => Or.inr hq, hE⟩
  obtain ⟨rfl, rfl⟩ := hrm
  refine z_eqCS (c2 := rm.cells - rm.cells) (t2 := rm.slots - rm.slots) (Nat.sub_self _).symm (Nat.sub_self _).symm ?_
  refine body p e s m av.toArray below meth c (va_A (zW y S) s.heap.size) _ s.heap [] _ X (by rw [← hin0]; exact (name_of_methodNamed B.named B.method).1) ?_ hM hl
  intro S1 C T H locs pc ls hp hM hdg
  refine W.widen (k := rm.cells) (n := rm.slots) (Nat.sub_le _ _) (Nat.sub_le _ _) ?_
  exact W.vret X.1 X.2.1 hr (fun t ht hW => ⟨⟨S1, rfl, hp, by show va_P D vwCl (zW y S1) t.heap ∧ _; rw [ht]; exact ⟨hM.1, hM.2.1, hM.2.2.2.2.2.2⟩⟩, hM.2.2.1.F ht⟩) hM.2.2.1.2.2 hdg
theorem zd_0 : ∀ j, j < 7 → defaultValue (tyX0 j) = vp_V (zf_0 (fun _ => 0) (fun _ => none)) j := by
  intro j hj
  match j, hj with
  | 0, _ => rfl
  | 1, _ => rfl
  | 2, _ => rfl
  | 3, _ => rfl
  | 4, _ => rfl
  | 5, _ => rfl
  | 6, _ => rfl
  | n + 7, h => exact absurd h (by omega)
theorem zc_0 {y : Nat → ClassId} (I : Nat → Int32) (P : Nat → Option Nat) (n : Nat) (A : Nat → Int32) (B : Nat → Option Nat) : zC y 0 I P n A B = .inr (0, zf_0 I P) := rfl
theorem zp_0_0 {b : Nat} (I : Nat → Int32) (P : Nat → Option Nat) : (zf_0 I P).set 0 (.ref b) = zf_0 I (va_up P 0 (some b)) := rfl
theorem zi_0_1 {v : Int32} (I : Nat → Int32) (P : Nat → Option Nat) : (zf_0 I P).set 1 (.int v) = zf_0 (va_up I 1 v) P := rfl
theorem zi_0_2 {v : Int32} (I : Nat → Int32) (P : Nat → Option Nat) : (zf_0 I P).set 2 (.int v) = zf_0 (va_up I 2 v) P := rfl
theorem zi_0_3 {v : Int32} (I : Nat → Int32) (P : Nat → Option Nat) : (zf_0 I P).set 3 (.int v) = zf_0 (va_up I 3 v) P := rfl
theorem zi_0_4 {v : Int32} (I : Nat → Int32) (P : Nat → Option Nat) : (zf_0 I P).set 4 (.int v) = zf_0 (va_up I 4 v) P := rfl
theorem zi_0_5 {v : Int32} (I : Nat → Int32) (P : Nat → Option Nat) : (zf_0 I P).set 5 (.int v) = zf_0 (va_up I 5 v) P := rfl
theorem zi_0_6 {v : Int32} (I : Nat → Int32) (P : Nat → Option Nat) : (zf_0 I P).set 6 (.int v) = zf_0 (va_up I 6 v) P := rfl
theorem zd_1 : ∀ j, j < 8 → defaultValue (tyX1 j) = vp_V (zf_1 (fun _ => 0) (fun _ => none)) j := by
  intro j hj
  match j, hj with
  | 0, _ => rfl
  | 1, _ => rfl
  | 2, _ => rfl
  | 3, _ => rfl
  | 4, _ => rfl
  | 5, _ => rfl
  | 6, _ => rfl
  | 7, _ => rfl
  | n + 8, h => exact absurd h (by omega)
theorem zc_1 {y : Nat → ClassId} (I : Nat → Int32) (P : Nat → Option Nat) (n : Nat) (A : Nat → Int32) (B : Nat → Option Nat) : zC y 1 I P n A B = .inr (1, zf_1 I P) := rfl
theorem zp_1_0 {b : Nat} (I : Nat → Int32) (P : Nat → Option Nat) : (zf_1 I P).set 0 (.ref b) = zf_1 I (va_up P 0 (some b)) := rfl
theorem zp_1_1 {b : Nat} (I : Nat → Int32) (P : Nat → Option Nat) : (zf_1 I P).set 1 (.ref b) = zf_1 I (va_up P 1 (some b)) := rfl
theorem zp_1_2 {b : Nat} (I : Nat → Int32) (P : Nat → Option Nat) : (zf_1 I P).set 2 (.ref b) = zf_1 I (va_up P 2 (some b)) := rfl
theorem zi_1_3 {v : Int32} (I : Nat → Int32) (P : Nat → Option Nat) : (zf_1 I P).set 3 (.int v) = zf_1 (va_up I 3 v) P := rfl
theorem zp_1_4 {b : Nat} (I : Nat → Int32) (P : Nat → Option Nat) : (zf_1 I P).set 4 (.ref b) = zf_1 I (va_up P 4 (some b)) := rfl
theorem zi_1_5 {v : Int32} (I : Nat → Int32) (P : Nat → Option Nat) : (zf_1 I P).set 5 (.int v) = zf_1 (va_up I 5 v) P := rfl
theorem zi_1_6 {v : Int32} (I : Nat → Int32) (P : Nat → Option Nat) : (zf_1 I P).set 6 (.int v) = zf_1 (va_up I 6 v) P := rfl
theorem zp_1_7 {b : Nat} (I : Nat → Int32) (P : Nat → Option Nat) : (zf_1 I P).set 7 (.ref b) = zf_1 I (va_up P 7 (some b)) := rfl
theorem zd_2 : ∀ j, j < 12 → defaultValue (tyX2 j) = vp_V (zf_2 (fun _ => 0) (fun _ => none)) j := by
  intro j hj
  match j, hj with
  | 0, _ => rfl
  | 1, _ => rfl
  | 2, _ => rfl
  | 3, _ => rfl
  | 4, _ => rfl
  | 5, _ => rfl
  | 6, _ => rfl
  | 7, _ => rfl
  | 8, _ => rfl
  | 9, _ => rfl
  | 10, _ => rfl
  | 11, _ => rfl
  | n + 12, h => exact absurd h (by omega)
theorem zc_2 {y : Nat → ClassId} (I : Nat → Int32) (P : Nat → Option Nat) (n : Nat) (A : Nat → Int32) (B : Nat → Option Nat) : zC y 2 I P n A B = .inr (2, zf_2 I P) := rfl
theorem zp_2_0 {b : Nat} (I : Nat → Int32) (P : Nat → Option Nat) : (zf_2 I P).set 0 (.ref b) = zf_2 I (va_up P 0 (some b)) := rfl
theorem zp_2_1 {b : Nat} (I : Nat → Int32) (P : Nat → Option Nat) : (zf_2 I P).set 1 (.ref b) = zf_2 I (va_up P 1 (some b)) := rfl
theorem zp_2_2 {b : Nat} (I : Nat → Int32) (P : Nat → Option Nat) : (zf_2 I P).set 2 (.ref b) = zf_2 I (va_up P 2 (some b)) := rfl
theorem zp_2_3 {b : Nat} (I : Nat → Int32) (P : Nat → Option Nat) : (zf_2 I P).set 3 (.ref b) = zf_2 I (va_up P 3 (some b)) := rfl
theorem zi_2_4 {v : Int32} (I : Nat → Int32) (P : Nat → Option Nat) : (zf_2 I P).set 4 (.int v) = zf_2 (va_up I 4 v) P := rfl
theorem zi_2_5 {v : Int32} (I : Nat → Int32) (P : Nat → Option Nat) : (zf_2 I P).set 5 (.int v) = zf_2 (va_up I 5 v) P := rfl
theorem zp_2_6 {b : Nat} (I : Nat → Int32) (P : Nat → Option Nat) : (zf_2 I P).set 6 (.ref b) = zf_2 I (va_up P 6 (some b)) := rfl
theorem zp_2_7 {b : Nat} (I : Nat → Int32) (P : Nat → Option Nat) : (zf_2 I P).set 7 (.ref b) = zf_2 I (va_up P 7 (some b)) := rfl
theorem zp_2_8 {b : Nat} (I : Nat → Int32) (P : Nat → Option Nat) : (zf_2 I P).set 8 (.ref b) = zf_2 I (va_up P 8 (some b)) := rfl
theorem zp_2_9 {b : Nat} (I : Nat → Int32) (P : Nat → Option Nat) : (zf_2 I P).set 9 (.ref b) = zf_2 I (va_up P 9 (some b)) := rfl
theorem zp_2_10 {b : Nat} (I : Nat → Int32) (P : Nat → Option Nat) : (zf_2 I P).set 10 (.ref b) = zf_2 I (va_up P 10 (some b)) := rfl
theorem zp_2_11 {b : Nat} (I : Nat → Int32) (P : Nat → Option Nat) : (zf_2 I P).set 11 (.ref b) = zf_2 I (va_up P 11 (some b)) := rfl
theorem zd_3 : ∀ j, j < 2 → defaultValue (tyX3 j) = vp_V (zf_3 (fun _ => 0) (fun _ => none)) j := by
  intro j hj
  match j, hj with
  | 0, _ => rfl
  | 1, _ => rfl
  | n + 2, h => exact absurd h (by omega)
theorem zc_3 {y : Nat → ClassId} (I : Nat → Int32) (P : Nat → Option Nat) (n : Nat) (A : Nat → Int32) (B : Nat → Option Nat) : zC y 3 I P n A B = .inr (3, zf_3 I P) := rfl
theorem zp_3_0 {b : Nat} (I : Nat → Int32) (P : Nat → Option Nat) : (zf_3 I P).set 0 (.ref b) = zf_3 I (va_up P 0 (some b)) := rfl
theorem zp_3_1 {b : Nat} (I : Nat → Int32) (P : Nat → Option Nat) : (zf_3 I P).set 1 (.ref b) = zf_3 I (va_up P 1 (some b)) := rfl
theorem zd_4 : ∀ j, j < 7 → defaultValue (tyX4 j) = vp_V (zf_4 (fun _ => 0) (fun _ => none)) j := by
  intro j hj
  match j, hj with
  | 0, _ => rfl
  | 1, _ => rfl
  | 2, _ => rfl
  | 3, _ => rfl
  | 4, _ => rfl
  | 5, _ => rfl
  | 6, _ => rfl
  | n + 7, h => exact absurd h (by omega)
theorem zc_4 {y : Nat → ClassId} (I : Nat → Int32) (P : Nat → Option Nat) (n : Nat) (A : Nat → Int32) (B : Nat → Option Nat) : zC y 4 I P n A B = .inr (4, zf_4 I P) := rfl
theorem zi_4_0 {v : Int32} (I : Nat → Int32) (P : Nat → Option Nat) : (zf_4 I P).set 0 (.int v) = zf_4 (va_up I 0 v) P := rfl
theorem zi_4_1 {v : Int32} (I : Nat → Int32) (P : Nat → Option Nat) : (zf_4 I P).set 1 (.int v) = zf_4 (va_up I 1 v) P := rfl
theorem zi_4_2 {v : Int32} (I : Nat → Int32) (P : Nat → Option Nat) : (zf_4 I P).set 2 (.int v) = zf_4 (va_up I 2 v) P := rfl
theorem zi_4_3 {v : Int32} (I : Nat → Int32) (P : Nat → Option Nat) : (zf_4 I P).set 3 (.int v) = zf_4 (va_up I 3 v) P := rfl
theorem zi_4_4 {v : Int32} (I : Nat → Int32) (P : Nat → Option Nat) : (zf_4 I P).set 4 (.int v) = zf_4 (va_up I 4 v) P := rfl
theorem zi_4_5 {v : Int32} (I : Nat → Int32) (P : Nat → Option Nat) : (zf_4 I P).set 5 (.int v) = zf_4 (va_up I 5 v) P := rfl
theorem zp_4_6 {b : Nat} (I : Nat → Int32) (P : Nat → Option Nat) : (zf_4 I P).set 6 (.ref b) = zf_4 I (va_up P 6 (some b)) := rfl
theorem zd_5 : ∀ j, j < 2 → defaultValue (tyX5 j) = vp_V (zf_5 (fun _ => 0) (fun _ => none)) j := by
  intro j hj
  match j, hj with
  | 0, _ => rfl
  | 1, _ => rfl
  | n + 2, h => exact absurd h (by omega)
theorem zc_5 {y : Nat → ClassId} (I : Nat → Int32) (P : Nat → Option Nat) (n : Nat) (A : Nat → Int32) (B : Nat → Option Nat) : zC y 5 I P n A B = .inr (5, zf_5 I P) := rfl
theorem zp_5_0 {b : Nat} (I : Nat → Int32) (P : Nat → Option Nat) : (zf_5 I P).set 0 (.ref b) = zf_5 I (va_up P 0 (some b)) := rfl
theorem zi_5_1 {v : Int32} (I : Nat → Int32) (P : Nat → Option Nat) : (zf_5 I P).set 1 (.int v) = zf_5 (va_up I 1 v) P := rfl
theorem zd_6 : ∀ j, j < 2 → defaultValue (tyX6 j) = vp_V (zf_6 (fun _ => 0) (fun _ => none)) j := by
  intro j hj
  match j, hj with
  | 0, _ => rfl
  | 1, _ => rfl
  | n + 2, h => exact absurd h (by omega)
theorem zc_6 {y : Nat → ClassId} (I : Nat → Int32) (P : Nat → Option Nat) (n : Nat) (A : Nat → Int32) (B : Nat → Option Nat) : zC y 6 I P n A B = .inr (6, zf_6 I P) := rfl
theorem zp_6_0 {b : Nat} (I : Nat → Int32) (P : Nat → Option Nat) : (zf_6 I P).set 0 (.ref b) = zf_6 I (va_up P 0 (some b)) := rfl
theorem zi_6_1 {v : Int32} (I : Nat → Int32) (P : Nat → Option Nat) : (zf_6 I P).set 1 (.int v) = zf_6 (va_up I 1 v) P := rfl
theorem zd_7 : ∀ j, j < 2 → defaultValue (tyX7 j) = vp_V (zf_7 (fun _ => 0) (fun _ => none)) j := by
  intro j hj
  match j, hj with
  | 0, _ => rfl
  | 1, _ => rfl
  | n + 2, h => exact absurd h (by omega)
theorem zc_7 {y : Nat → ClassId} (I : Nat → Int32) (P : Nat → Option Nat) (n : Nat) (A : Nat → Int32) (B : Nat → Option Nat) : zC y 7 I P n A B = .inr (7, zf_7 I P) := rfl
theorem zp_7_0 {b : Nat} (I : Nat → Int32) (P : Nat → Option Nat) : (zf_7 I P).set 0 (.ref b) = zf_7 I (va_up P 0 (some b)) := rfl
theorem zp_7_1 {b : Nat} (I : Nat → Int32) (P : Nat → Option Nat) : (zf_7 I P).set 1 (.ref b) = zf_7 I (va_up P 1 (some b)) := rfl
theorem zd_8 : ∀ j, j < 12 → defaultValue (tyX8 j) = vp_V (zf_8 (fun _ => 0) (fun _ => none)) j := by
  intro j hj
  match j, hj with
  | 0, _ => rfl
  | 1, _ => rfl
  | 2, _ => rfl
  | 3, _ => rfl
  | 4, _ => rfl
  | 5, _ => rfl
  | 6, _ => rfl
  | 7, _ => rfl
  | 8, _ => rfl
  | 9, _ => rfl
  | 10, _ => rfl
  | 11, _ => rfl
  | n + 12, h => exact absurd h (by omega)
theorem zc_8 {y : Nat → ClassId} (I : Nat → Int32) (P : Nat → Option Nat) (n : Nat) (A : Nat → Int32) (B : Nat → Option Nat) : zC y 8 I P n A B = .inr (8, zf_8 I P) := rfl
theorem zp_8_0 {b : Nat} (I : Nat → Int32) (P : Nat → Option Nat) : (zf_8 I P).set 0 (.ref b) = zf_8 I (va_up P 0 (some b)) := rfl
theorem zp_8_1 {b : Nat} (I : Nat → Int32) (P : Nat → Option Nat) : (zf_8 I P).set 1 (.ref b) = zf_8 I (va_up P 1 (some b)) := rfl
theorem zi_8_2 {v : Int32} (I : Nat → Int32) (P : Nat → Option Nat) : (zf_8 I P).set 2 (.int v) = zf_8 (va_up I 2 v) P := rfl
theorem zi_8_3 {v : Int32} (I : Nat → Int32) (P : Nat → Option Nat) : (zf_8 I P).set 3 (.int v) = zf_8 (va_up I 3 v) P := rfl
theorem zi_8_4 {v : Int32} (I : Nat → Int32) (P : Nat → Option Nat) : (zf_8 I P).set 4 (.int v) = zf_8 (va_up I 4 v) P := rfl
theorem zi_8_5 {v : Int32} (I : Nat → Int32) (P : Nat → Option Nat) : (zf_8 I P).set 5 (.int v) = zf_8 (va_up I 5 v) P := rfl
theorem zi_8_6 {v : Int32} (I : Nat → Int32) (P : Nat → Option Nat) : (zf_8 I P).set 6 (.int v) = zf_8 (va_up I 6 v) P := rfl
theorem zi_8_7 {v : Int32} (I : Nat → Int32) (P : Nat → Option Nat) : (zf_8 I P).set 7 (.int v) = zf_8 (va_up I 7 v) P := rfl
theorem zi_8_8 {v : Int32} (I : Nat → Int32) (P : Nat → Option Nat) : (zf_8 I P).set 8 (.int v) = zf_8 (va_up I 8 v) P := rfl
theorem zi_8_9 {v : Int32} (I : Nat → Int32) (P : Nat → Option Nat) : (zf_8 I P).set 9 (.int v) = zf_8 (va_up I 9 v) P := rfl
theorem zp_8_10 {b : Nat} (I : Nat → Int32) (P : Nat → Option Nat) : (zf_8 I P).set 10 (.ref b) = zf_8 I (va_up P 10 (some b)) := rfl
theorem zi_8_11 {v : Int32} (I : Nat → Int32) (P : Nat → Option Nat) : (zf_8 I P).set 11 (.int v) = zf_8 (va_up I 11 v) P := rfl
theorem zd_9 : ∀ j, j < 1 → defaultValue (tyX9 j) = vp_V (zf_9 (fun _ => 0) (fun _ => none)) j := by
  intro j hj
  match j, hj with
  | 0, _ => rfl
  | n + 1, h => exact absurd h (by omega)
theorem zc_9 {y : Nat → ClassId} (I : Nat → Int32) (P : Nat → Option Nat) (n : Nat) (A : Nat → Int32) (B : Nat → Option Nat) : zC y 9 I P n A B = .inr (9, zf_9 I P) := rfl
theorem zp_9_0 {b : Nat} (I : Nat → Int32) (P : Nat → Option Nat) : (zf_9 I P).set 0 (.ref b) = zf_9 I (va_up P 0 (some b)) := rfl
theorem zd_10 : ∀ j, j < 2 → defaultValue (tyX10 j) = vp_V (zf_10 (fun _ => 0) (fun _ => none)) j := by
  intro j hj
  match j, hj with
  | 0, _ => rfl
  | 1, _ => rfl
  | n + 2, h => exact absurd h (by omega)
theorem zc_10 {y : Nat → ClassId} (I : Nat → Int32) (P : Nat → Option Nat) (n : Nat) (A : Nat → Int32) (B : Nat → Option Nat) : zC y 10 I P n A B = .inr (10, zf_10 I P) := rfl
theorem zp_10_0 {b : Nat} (I : Nat → Int32) (P : Nat → Option Nat) : (zf_10 I P).set 0 (.ref b) = zf_10 I (va_up P 0 (some b)) := rfl
theorem zp_10_1 {b : Nat} (I : Nat → Int32) (P : Nat → Option Nat) : (zf_10 I P).set 1 (.ref b) = zf_10 I (va_up P 1 (some b)) := rfl
theorem zd_11 : ∀ j, j < 10 → defaultValue (tyX11 j) = vp_V (zf_11 (fun _ => 0) (fun _ => none)) j := by
  intro j hj
  match j, hj with
  | 0, _ => rfl
  | 1, _ => rfl
  | 2, _ => rfl
  | 3, _ => rfl
  | 4, _ => rfl
  | 5, _ => rfl
  | 6, _ => rfl
  | 7, _ => rfl
  | 8, _ => rfl
  | 9, _ => rfl
  | n + 10, h => exact absurd h (by omega)
theorem zc_11 {y : Nat → ClassId} (I : Nat → Int32) (P : Nat → Option Nat) (n : Nat) (A : Nat → Int32) (B : Nat → Option Nat) : zC y 11 I P n A B = .inr (11, zf_11 I P) := rfl
theorem zp_11_0 {b : Nat} (I : Nat → Int32) (P : Nat → Option Nat) : (zf_11 I P).set 0 (.ref b) = zf_11 I (va_up P 0 (some b)) := rfl
theorem zp_11_1 {b : Nat} (I : Nat → Int32) (P : Nat → Option Nat) : (zf_11 I P).set 1 (.ref b) = zf_11 I (va_up P 1 (some b)) := rfl
theorem zp_11_2 {b : Nat} (I : Nat → Int32) (P : Nat → Option Nat) : (zf_11 I P).set 2 (.ref b) = zf_11 I (va_up P 2 (some b)) := rfl
theorem zp_11_3 {b : Nat} (I : Nat → Int32) (P : Nat → Option Nat) : (zf_11 I P).set 3 (.ref b) = zf_11 I (va_up P 3 (some b)) := rfl
theorem zp_11_4 {b : Nat} (I : Nat → Int32) (P : Nat → Option Nat) : (zf_11 I P).set 4 (.ref b) = zf_11 I (va_up P 4 (some b)) := rfl
theorem zp_11_5 {b : Nat} (I : Nat → Int32) (P : Nat → Option Nat) : (zf_11 I P).set 5 (.ref b) = zf_11 I (va_up P 5 (some b)) := rfl
theorem zp_11_6 {b : Nat} (I : Nat → Int32) (P : Nat → Option Nat) : (zf_11 I P).set 6 (.ref b) = zf_11 I (va_up P 6 (some b)) := rfl
theorem zp_11_7 {b : Nat} (I : Nat → Int32) (P : Nat → Option Nat) : (zf_11 I P).set 7 (.ref b) = zf_11 I (va_up P 7 (some b)) := rfl
theorem zi_11_8 {v : Int32} (I : Nat → Int32) (P : Nat → Option Nat) : (zf_11 I P).set 8 (.int v) = zf_11 (va_up I 8 v) P := rfl
theorem zp_11_9 {b : Nat} (I : Nat → Int32) (P : Nat → Option Nat) : (zf_11 I P).set 9 (.ref b) = zf_11 I (va_up P 9 (some b)) := rfl
