def tmZ (i : Nat) : Term := match zSR.find? (fun t => t.2.2.2 == i) with
  | some t => .string t.1 t.2.1
  | none => .string "" 0
abbrev gvC : Cond := Jvm.Cond.and given_1 narrow_1
theorem pz_1 : ∀ i, i < zSn → Cond.exactly (tmZ i) "java/lang/String" ∈ flatC gvC := by decide +kernel
theorem pz_2 : ∀ i, i < zSn → Cond.eq (.field (tmZ i) "java/lang/String" "coder" "B") (.int 0) ∈ flatC gvC := by decide +kernel
theorem pz_3 : ∀ i, i < zSn → Cond.arrayOf (.field (tmZ i) "java/lang/String" "value" "[B") .byte ∈ flatC gvC := by decide +kernel
theorem pz_4 : ∀ i, i < zSn → Cond.eq (.length (.field (tmZ i) "java/lang/String" "value" "[B")) (.int (Int32.ofNat (zSl.getD i 0))) ∈ flatC gvC := by decide +kernel
def posZ : List (List Nat) := [[93, 94, 95], [100, 101, 102, 103, 104, 105, 106, 107, 108, 109, 110, 111, 112, 113], [118, 119, 120, 121], [126, 127, 128], [133, 134, 135], [140, 141, 142, 143, 144, 145, 146], [151], [156, 157, 158], [163, 164, 165, 166, 167], [172, 173, 174, 175, 176, 177], [182, 183, 184, 185, 186, 187], [192, 193], [198, 199, 200], [205], [210, 211, 212], [235, 236, 237, 238, 239, 240, 241, 242, 243, 244, 245, 246, 247, 248, 249, 250], [255, 256, 257, 258, 259, 260, 261, 262, 263, 264, 265, 266], [271, 272, 273, 274, 275, 276, 277, 278, 279, 280, 281, 282, 283, 284, 285, 286, 287, 288, 289, 290, 291, 292], [297, 298, 299, 300, 301, 302, 303, 304, 305, 306, 307, 308, 309, 310, 311, 312, 313, 314, 315, 316], [321, 322, 323, 324, 325, 326, 327, 328, 329, 330, 331, 332, 333, 334, 335, 336, 337, 338, 339, 340, 341, 342, 343, 344, 345], [350, 351, 352, 353, 354, 355, 356, 357, 358, 359, 360, 361, 362, 363], [368, 369, 370, 371, 372, 373, 374, 375, 376, 377, 378, 379, 380, 381, 382, 383, 384, 385, 386, 387, 388, 389], [394, 395, 396, 397, 398, 399, 400, 401, 402, 403], [408, 409, 410, 411, 412, 413, 414, 415, 416, 417, 418, 419, 420, 421, 422, 423, 424, 425], [430, 431, 432, 433, 434, 435, 436, 437, 438, 439, 440, 441], [446, 447, 448, 449, 450, 451, 452, 453, 454, 455, 456, 457, 458, 459, 460, 461, 462, 463, 464, 465, 466, 467, 468, 469, 470, 471, 472, 473, 474, 475], [480, 481, 482, 483, 484, 485, 486, 487, 488, 489, 490, 491, 492, 493, 494, 495, 496, 497, 498, 499, 500, 501, 502, 503], [508, 509, 510, 511, 512, 513, 514, 515, 516, 517, 518, 519], [524, 525, 526, 527, 528, 529, 530, 531, 532, 533, 534, 535, 536, 537, 538, 539, 540, 541, 542, 543, 544, 545, 546, 547]]
theorem pz_50 : ∀ i, i < zSn → ∀ j, j < zSl.getD i 0 → (flatC gvC)[(posZ.getD i []).getD j 0]? = some (Cond.eq (.elem (.field (tmZ i) "java/lang/String" "value" "[B") (.int (Int32.ofNat j))) (.int ((zSb.getD i []).getD j 0))) := by decide +kernel
theorem pz_5 : ∀ i, i < zSn → ∀ j, j < zSl.getD i 0 → Cond.eq (.elem (.field (tmZ i) "java/lang/String" "value" "[B") (.int (Int32.ofNat j))) (.int ((zSb.getD i []).getD j 0)) ∈ flatC gvC := fun i hi j hj => List.mem_of_getElem? (pz_50 i hi j hj)
theorem pz_6 : ∀ t ∈ zSR, tmZ t.2.2.2 = .string t.1 t.2.1 ∨ Cond.eq (tmZ t.2.2.2) (.string t.1 t.2.1) ∈ flatC gvC := by decide +kernel
theorem pz_61 : ∀ t ∈ zSR, t.2.2.2 < zSn := by decide +kernel
theorem pz_7 : ∀ t ∈ zSR, Cond.stringRef t.1 t.2.1 t.2.2.1 ∈ lw_tbl := by decide +kernel
theorem pz_8 : ∀ t ∈ zNW, Cond.methodLinkNest t.1 t.2.1 t.2.2.1 t.2.2.2 ∈ lw_tbl := by decide +kernel
theorem pz_9 : ∀ C ∈ zAO, Cond.arrayOver (.object C) ∈ lw_tbl := by decide +kernel
theorem pz_10 : Cond.arrayClass .char ∈ lw_tbl ∧ Cond.arrayClass .int ∈ lw_tbl ∧ Cond.arrayClass .long ∈ lw_tbl := by decide +kernel
theorem pz_11 : ∀ E ∈ xEs, Cond.castable E E ∈ lw_tbl := by decide +kernel
theorem pz_18 : ∀ E ∈ xDs, Cond.declares (Bundle.initS E) ∈ lw_tbl := by decide +kernel
theorem pz_12 : (Cond.laysStatic "MoveTexts$Row" "NO_CHARS" "[C" ∈ lw_tbl ∧ Cond.initialized "MoveTexts$Row" ∈ lw_tbl) ∧ (Cond.arrayOf (.static "MoveTexts$Row" "NO_CHARS" "[C") .char ∈ flatC gvC ∧ Cond.eq (.length (.static "MoveTexts$Row" "NO_CHARS" "[C")) (.int 0) ∈ flatC gvC) := by decide +kernel
theorem pz_13 : (Cond.laysStatic "MoveTexts$Board" "FIRST_RANK" "[I" ∈ lw_tbl ∧ Cond.initialized "MoveTexts$Board" ∈ lw_tbl) ∧ (Cond.arrayOf (.static "MoveTexts$Board" "FIRST_RANK" "[I") .int ∈ flatC gvC ∧ Cond.eq (.length (.static "MoveTexts$Board" "FIRST_RANK" "[I")) (.int 8) ∈ flatC gvC) ∧ ∀ j, j < 8 → Cond.eq (.elem (.static "MoveTexts$Board" "FIRST_RANK" "[I") (.int (Int32.ofNat j))) (.int (zFR.getD j 0)) ∈ flatC gvC := by decide +kernel
theorem pz_14 : (Cond.laysStatic "java/lang/String" "COMPACT_STRINGS" "Z" ∈ lw_tbl ∧ Cond.initialized "java/lang/String" ∈ lw_tbl) ∧ Cond.eq (.static "java/lang/String" "COMPACT_STRINGS" "Z") (.int 1) ∈ flatC gvC := by decide +kernel
theorem pz_15 : (Cond.laysStatic "jdk/internal/util/Preconditions" "SIOOBE_FORMATTER" "Ljava/util/function/BiFunction;" ∈ lw_tbl ∧ Cond.initialized "jdk/internal/util/Preconditions" ∈ lw_tbl) ∧ Cond.isRef (.static "jdk/internal/util/Preconditions" "SIOOBE_FORMATTER" "Ljava/util/function/BiFunction;") ∈ flatC gvC := by decide +kernel
theorem pz_16 : (Cond.laysStatic Bundle.tN "UNASSIGNED_STACK" Bundle.steD ∈ lw_tbl ∧ Cond.initialized Bundle.tN ∈ lw_tbl ∧ Cond.laysStatic Bundle.tN "SUPPRESSED_SENTINEL" Bundle.listD ∈ lw_tbl) ∧ Cond.isRef (.static Bundle.tN "UNASSIGNED_STACK" Bundle.steD) ∈ flatC gvC ∧ Cond.isRef (.static Bundle.tN "SUPPRESSED_SENTINEL" Bundle.listD) ∈ flatC gvC := by decide +kernel
theorem pz_17 : Cond.not (.castable (xN 3) (xN 1)) ∈ flatC gvC ∧ Cond.not (.castable (xN 4) (xN 1)) ∈ flatC gvC := by decide +kernel
theorem pz_d : ∀ i, i < zSn → ∀ j, j < zSn → zSl.getD i 0 = zSl.getD j 0 → (∀ k, k < zSl.getD i 0 → (zSb.getD i []).getD k 0 = (zSb.getD j []).getD k 0) → i = j := by decide +kernel
theorem pz_l : ∀ i, i < zSn → zSl.getD i 0 < 2 ^ 31 := by decide +kernel
theorem pz_k : ∀ k : Fin 13, ∀ q : vw_C, vwCl[k.val]? = some q → Cond.instantiable q.1 q.2.2 ∈ lw_tbl := by
  intro k q hq
  match k, hq with
  | ⟨0, _⟩, hq => cases hq; decide +kernel
  | ⟨1, _⟩, hq => cases hq; decide +kernel
  | ⟨2, _⟩, hq => cases hq; decide +kernel
  | ⟨3, _⟩, hq => cases hq; decide +kernel
  | ⟨4, _⟩, hq => cases hq; decide +kernel
  | ⟨5, _⟩, hq => cases hq; decide +kernel
  | ⟨6, _⟩, hq => cases hq; decide +kernel
  | ⟨7, _⟩, hq => cases hq; decide +kernel
  | ⟨8, _⟩, hq => cases hq; decide +kernel
  | ⟨9, _⟩, hq => cases hq; decide +kernel
  | ⟨10, _⟩, hq => cases hq; decide +kernel
  | ⟨11, _⟩, hq => cases hq; decide +kernel
  | ⟨12, _⟩, hq => cases hq; decide +kernel
theorem pz_w : ∀ (k : Nat) (q : vw_C), vwCl[k]? = some q → ∀ w ∈ u_ws q.1 q.2.1 q.2.2, w ∈ lw_tbl := by
  intro k q hq
  match k, hq with
  | 0, hq => cases hq; exact inX0
  | 1, hq => cases hq; exact inX1
  | 2, hq => cases hq; exact inX2
  | 3, hq => cases hq; exact inX3
  | 4, hq => cases hq; exact inX4
  | 5, hq => cases hq; exact inX5
  | 6, hq => cases hq; exact inX6
  | 7, hq => cases hq; exact inX7
  | 8, hq => cases hq; exact inX8
  | 9, hq => cases hq; exact inX9
  | 10, hq => cases hq; exact inX10
  | 11, hq => cases hq; exact inX11
  | 12, hq => cases hq; exact inX12
  | k + 13, hq => simp [vwCl] at hq
