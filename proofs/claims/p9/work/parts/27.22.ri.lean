/-- what holds of the reference between calls -/
def RIt (I : Nat → Int32) (A : Nat → Nat → Int32) : Prop := TJ I ∧ TK A ∧ RIv I A
theorem RIv_fr {I I' : Nat → Int32} {A A' : Nat → Nat → Int32} {WI WA : List Nat} (h : RIv I A) (f : FrS WI WA I A I' A') (h5 : 5 ∉ WI) (h6 : 6 ∉ WI) (h29 : (I' 29).toInt ≤ 1999) (a7 : 7 ∉ WA) (a8 : 8 ∉ WA) (a9 : 9 ∉ WA) (a10 : 10 ∉ WA) (a11 : 11 ∉ WA) : RIv I' A' := by
  unfold RIv
  have e5 := f.1 5 h5
  have e6 := f.1 6 h6
  have e7 := f.2 7 a7
  rw [e5, e6]
  refine ⟨TRE_fr e7 (f.2 8 a8) (f.2 9 a9) (f.2 10 a10) (f.2 11 a11) h.1, ?_, h29⟩
  have : aK A' (I 5).toInt.toNat = aK A (I 5).toInt.toNat := by unfold aK; rw [e7]
  rw [this]
  exact h.2.1
theorem ri_type {I : Nat → Int32} {A : Nat → Nat → Int32} {x1 : Int64} {x3 : Int32} (h : RIt I A) : Ok (f_type x1 x3 I A) (fun o => RIt o.2.1 o.2.2) := by
  obtain ⟨o, h1, hI, hA, -⟩ := t_type (x1 := x1) (x3 := x3) h.1 h.2.1 
  exact ⟨o, h1, ⟨hI, hA, RIv_fr h.2.2 (fw_type h1) (by decide) (by decide) (by rw [(fw_type h1).1 29 (by decide)]; exact h.2.2.2.2) (by decide) (by decide) (by decide) (by decide) (by decide)⟩⟩
theorem ri_cut {I : Nat → Int32} {A : Nat → Nat → Int32} {x1 : Int32} (h : RIt I A) : Ok (f_cut x1 I A) (fun o => RIt o.2.1 o.2.2) := by
  obtain ⟨o, h1, hI, hA, -⟩ := t_cut (x1 := x1) h.1 h.2.1 
  exact ⟨o, h1, ⟨hI, hA, RIv_fr h.2.2 (fw_cut h1) (by decide) (by decide) (by rw [(fw_cut h1).1 29 (by decide)]; exact h.2.2.2.2) (by decide) (by decide) (by decide) (by decide) (by decide)⟩⟩
theorem ri_read {I : Nat → Int32} {A : Nat → Nat → Int32}  (h : RIt I A) : Ok (f_read  I A) (fun o => RIt o.2.1 o.2.2) := by
  obtain ⟨o, h1, hI, hA, -, p⟩ := t_read (gg := (I 5).toInt.toNat) h.1 h.2.1 (by have := tI_5 h.1; omega) h.2.2.1 h.2.2.2.1
  exact ⟨o, h1, hI, hA, p⟩
theorem ri_find {I : Nat → Int32} {A : Nat → Nat → Int32}  (h : RIt I A) : Ok (f_find  I A) (fun o => RIt o.2.1 o.2.2) := by
  obtain ⟨o, h1, hI, hA, -, p0⟩ := t_find  h.1 h.2.1 h.2.2.2.2
  exact ⟨o, h1, ⟨hI, hA, RIv_fr h.2.2 (fw_find h1) (by decide) (by decide) p0 (by decide) (by decide) (by decide) (by decide) (by decide)⟩⟩
theorem ri_write {I : Nat → Int32} {A : Nat → Nat → Int32}  (h : RIt I A) : Ok (f_write  I A) (fun o => RIt o.2.1 o.2.2) := by
  obtain ⟨o, h1, hI, hA, -, p⟩ := t_write (gg := (I 5).toInt.toNat) h.1 h.2.1 (by have := tI_5 h.1; omega) h.2.2.1 h.2.2.2.1
  exact ⟨o, h1, hI, hA, p⟩
theorem ri_signs {I : Nat → Int32} {A : Nat → Nat → Int32} {x1 : Int32} (h : RIt I A) : Ok (f_signs x1 I A) (fun o => RIt o.2.1 o.2.2) := by
  obtain ⟨o, h1, hI, hA, -, p0⟩ := t_signs (x1 := x1) h.1 h.2.1 h.2.2.2.2
  exact ⟨o, h1, ⟨hI, hA, RIv_fr h.2.2 (fw_signs h1) (by decide) (by decide) p0 (by decide) (by decide) (by decide) (by decide) (by decide)⟩⟩
theorem ri_out {I : Nat → Int32} {A : Nat → Nat → Int32} {x1 : Int32} (h : RIt I A) : Ok (f_out x1 I A) (fun o => RIt o.2.1 o.2.2) := by
  obtain ⟨o, h1, hI, hA, -⟩ := t_out (x1 := x1) h.1 h.2.1 
  exact ⟨o, h1, ⟨hI, hA, RIv_fr h.2.2 (fw_out h1) (by decide) (by decide) (by rw [(fw_out h1).1 29 (by decide)]; exact h.2.2.2.2) (by decide) (by decide) (by decide) (by decide) (by decide)⟩⟩
theorem ri_nodes {I : Nat → Int32} {A : Nat → Nat → Int32}  (h : RIt I A) : Ok (f_nodes  I A) (fun o => RIt o.2.1 o.2.2) := by
  obtain ⟨o, h1, hI, hA, -⟩ := t_nodes  h.1 h.2.1 
  exact ⟨o, h1, ⟨hI, hA, RIv_fr h.2.2 (fw_nodes h1) (by decide) (by decide) (by rw [(fw_nodes h1).1 29 (by decide)]; exact h.2.2.2.2) (by decide) (by decide) (by decide) (by decide) (by decide)⟩⟩
theorem ri_node {I : Nat → Int32} {A : Nat → Nat → Int32} {x1 : Int32} {x2 : Int32} (h : RIt I A) : Ok (f_node x1 x2 I A) (fun o => RIt o.2.1 o.2.2) := by
  obtain ⟨o, h1, hI, hA, -⟩ := t_node (x1 := x1) (x2 := x2) h.1 h.2.1 
  exact ⟨o, h1, ⟨hI, hA, RIv_fr h.2.2 (fw_node h1) (by decide) (by decide) (by rw [(fw_node h1).1 29 (by decide)]; exact h.2.2.2.2) (by decide) (by decide) (by decide) (by decide) (by decide)⟩⟩
theorem ri_mark {I : Nat → Int32} {A : Nat → Nat → Int32} {x1 : Int32} {x2 : Int32} (h : RIt I A) : Ok (f_mark x1 x2 I A) (fun o => RIt o.2.1 o.2.2) := by
  obtain ⟨o, h1, hI, hA, -⟩ := t_mark (x1 := x1) (x2 := x2) h.1 h.2.1 
  exact ⟨o, h1, ⟨hI, hA, RIv_fr h.2.2 (fw_mark h1) (by decide) (by decide) (by rw [(fw_mark h1).1 29 (by decide)]; exact h.2.2.2.2) (by decide) (by decide) (by decide) (by decide) (by decide)⟩⟩
theorem ri_remark {I : Nat → Int32} {A : Nat → Nat → Int32} {x1 : Int32} {x2 : Int32} (h : RIt I A) : Ok (f_remark x1 x2 I A) (fun o => RIt o.2.1 o.2.2) := by
  obtain ⟨o, h1, hI, hA, -⟩ := t_remark (x1 := x1) (x2 := x2) h.1 h.2.1 
  exact ⟨o, h1, ⟨hI, hA, RIv_fr h.2.2 (fw_remark h1) (by decide) (by decide) (by rw [(fw_remark h1).1 29 (by decide)]; exact h.2.2.2.2) (by decide) (by decide) (by decide) (by decide) (by decide)⟩⟩
theorem ri_here {I : Nat → Int32} {A : Nat → Nat → Int32}  (h : RIt I A) : Ok (f_here  I A) (fun o => RIt o.2.1 o.2.2) := by
  obtain ⟨o, h1, hI, hA, -⟩ := t_here  h.1 h.2.1 
  exact ⟨o, h1, ⟨hI, hA, RIv_fr h.2.2 (fw_here h1) (by decide) (by decide) (by rw [(fw_here h1).1 29 (by decide)]; exact h.2.2.2.2) (by decide) (by decide) (by decide) (by decide) (by decide)⟩⟩
theorem ri_go {I : Nat → Int32} {A : Nat → Nat → Int32} {x1 : Int32} (h : RIt I A) : Ok (f_go x1 I A) (fun o => RIt o.2.1 o.2.2) := by
  obtain ⟨o, h1, hI, hA, p⟩ := t_go (gg := (I 5).toInt.toNat) h.1 h.2.1 (by have := tI_5 h.1; omega) h.2.2.1 h.2.2.2.1 h.2.2.2.2
  exact ⟨o, h1, hI, hA, p⟩
theorem ri_man {I : Nat → Int32} {A : Nat → Nat → Int32} {x1 : Int32} (h : RIt I A) : Ok (f_man x1 I A) (fun o => RIt o.2.1 o.2.2) := by
  obtain ⟨o, h1, hI, hA, -⟩ := t_man (x1 := x1) h.1 h.2.1 
  exact ⟨o, h1, ⟨hI, hA, RIv_fr h.2.2 (fw_man h1) (by decide) (by decide) (by rw [(fw_man h1).1 29 (by decide)]; exact h.2.2.2.2) (by decide) (by decide) (by decide) (by decide) (by decide)⟩⟩
theorem ri_move {I : Nat → Int32} {A : Nat → Nat → Int32} {x1 : Int32} (h : RIt I A) : Ok (f_move x1 I A) (fun o => RIt o.2.1 o.2.2) := by
  obtain ⟨o, h1, hI, hA, -⟩ := t_move (x1 := x1) h.1 h.2.1 
  exact ⟨o, h1, ⟨hI, hA, RIv_fr h.2.2 (fw_move h1) (by decide) (by decide) (by rw [(fw_move h1).1 29 (by decide)]; exact h.2.2.2.2) (by decide) (by decide) (by decide) (by decide) (by decide)⟩⟩
theorem ri_add {I : Nat → Int32} {A : Nat → Nat → Int32} {x1 : Int32} (h : RIt I A) : Ok (f_add x1 I A) (fun o => RIt o.2.1 o.2.2) := by
  obtain ⟨o, h1, hI, hA, -, p⟩ := t_add (gg := (I 5).toInt.toNat) h.1 h.2.1 (by have := tI_5 h.1; omega) h.2.2.1 h.2.2.2.1 h.2.2.2.2
  exact ⟨o, h1, hI, hA, p⟩
theorem ri_addMark {I : Nat → Int32} {A : Nat → Nat → Int32} {x1 : Int32} (h : RIt I A) : Ok (f_addMark x1 I A) (fun o => RIt o.2.1 o.2.2) := by
  obtain ⟨o, h1, hI, hA, -⟩ := t_addMark (x1 := x1) h.1 h.2.1 
  exact ⟨o, h1, ⟨hI, hA, RIv_fr h.2.2 (fw_addMark h1) (by decide) (by decide) (by rw [(fw_addMark h1).1 29 (by decide)]; exact h.2.2.2.2) (by decide) (by decide) (by decide) (by decide) (by decide)⟩⟩
theorem ri_say {I : Nat → Int32} {A : Nat → Nat → Int32}  (h : RIt I A) : Ok (f_say  I A) (fun o => RIt o.2.1 o.2.2) := by
  obtain ⟨o, h1, hI, hA, -⟩ := t_say  h.1 h.2.1 
  exact ⟨o, h1, ⟨hI, hA, RIv_fr h.2.2 (fw_say h1) (by decide) (by decide) (by rw [(fw_say h1).1 29 (by decide)]; exact h.2.2.2.2) (by decide) (by decide) (by decide) (by decide) (by decide)⟩⟩
theorem ri_lead {I : Nat → Int32} {A : Nat → Nat → Int32}  (h : RIt I A) : Ok (f_lead  I A) (fun o => RIt o.2.1 o.2.2) := by
  obtain ⟨o, h1, hI, hA, -, p⟩ := t_lead (gg := (I 5).toInt.toNat) h.1 h.2.1 (by have := tI_5 h.1; omega) h.2.2.1 h.2.2.2.1 h.2.2.2.2
  exact ⟨o, h1, hI, hA, p⟩
theorem ri_end {I : Nat → Int32} {A : Nat → Nat → Int32} {x1 : Int32} (h : RIt I A) : Ok (f_end x1 I A) (fun o => RIt o.2.1 o.2.2 ∧ ((0 ≤ x1.toInt ∧ x1.toInt ≤ 3 → (o.2.1 0).toInt = 0) ∧ (x1.toInt < 0 ∨ 3 < x1.toInt → (o.2.1 0).toInt = 1))) := by
  obtain ⟨o, h1, hI, hA, p0⟩ := t_end (x1 := x1) h.1 h.2.1 
  exact ⟨o, h1, ⟨⟨hI, hA, RIv_fr h.2.2 (fw_end h1) (by decide) (by decide) (by rw [(fw_end h1).1 29 (by decide)]; exact h.2.2.2.2) (by decide) (by decide) (by decide) (by decide) (by decide)⟩, p0⟩⟩
theorem ri_result {I : Nat → Int32} {A : Nat → Nat → Int32}  (h : RIt I A) : Ok (f_result  I A) (fun o => RIt o.2.1 o.2.2) := by
  obtain ⟨o, h1, hI, hA, -⟩ := t_result  h.1 h.2.1 
  exact ⟨o, h1, ⟨hI, hA, RIv_fr h.2.2 (fw_result h1) (by decide) (by decide) (by rw [(fw_result h1).1 29 (by decide)]; exact h.2.2.2.2) (by decide) (by decide) (by decide) (by decide) (by decide)⟩⟩
theorem ri_tags {I : Nat → Int32} {A : Nat → Nat → Int32}  (h : RIt I A) : Ok (f_tags  I A) (fun o => RIt o.2.1 o.2.2) := by
  obtain ⟨o, h1, hI, hA, -⟩ := t_tags  h.1 h.2.1 
  exact ⟨o, h1, ⟨hI, hA, RIv_fr h.2.2 (fw_tags h1) (by decide) (by decide) (by rw [(fw_tags h1).1 29 (by decide)]; exact h.2.2.2.2) (by decide) (by decide) (by decide) (by decide) (by decide)⟩⟩
theorem ri_tag {I : Nat → Int32} {A : Nat → Nat → Int32} {x1 : Int32} {x2 : Int32} {x3 : Int32} (h : RIt I A) : Ok (f_tag x1 x2 x3 I A) (fun o => RIt o.2.1 o.2.2) := by
  obtain ⟨o, h1, hI, hA, -⟩ := t_tag (x1 := x1) (x2 := x2) (x3 := x3) h.1 h.2.1 
  exact ⟨o, h1, ⟨hI, hA, RIv_fr h.2.2 (fw_tag h1) (by decide) (by decide) (by rw [(fw_tag h1).1 29 (by decide)]; exact h.2.2.2.2) (by decide) (by decide) (by decide) (by decide) (by decide)⟩⟩
