theorem ps_cut {RR : (Nat → Int32) → (Nat → Nat → Int32) → ZS → Prop} {v1 v2 v3 : Int32} {I : Nat → Int32} {A : Nat → Nat → Int32} {S : ZS} (hR : ∀ I A S, RR I A S) (h : ckF (f_cut v1 I A) (f_X11_cut 1 v1 S) = true) : PS_cut RR v1 v2 v3 I A S := ckF_E h hR
theorem ps_out {RR : (Nat → Int32) → (Nat → Nat → Int32) → ZS → Prop} {v1 v2 v3 : Int32} {I : Nat → Int32} {A : Nat → Nat → Int32} {S : ZS} (hR : ∀ I A S, RR I A S) (h : ckF (f_out v1 I A) (f_X11_out 1 v1 S) = true) : PS_out RR v1 v2 v3 I A S := ckF_E h hR
theorem ps_nodes {RR : (Nat → Int32) → (Nat → Nat → Int32) → ZS → Prop} {v1 v2 v3 : Int32} {I : Nat → Int32} {A : Nat → Nat → Int32} {S : ZS} (hR : ∀ I A S, RR I A S) (h : ckF (f_nodes  I A) (f_X11_nodes 1  S) = true) : PS_nodes RR v1 v2 v3 I A S := ckF_E h hR
theorem ps_here {RR : (Nat → Int32) → (Nat → Nat → Int32) → ZS → Prop} {v1 v2 v3 : Int32} {I : Nat → Int32} {A : Nat → Nat → Int32} {S : ZS} (hR : ∀ I A S, RR I A S) (h : ckF (f_here  I A) (f_X11_here 1  S) = true) : PS_here RR v1 v2 v3 I A S := ckF_E h hR
theorem ps_move {RR : (Nat → Int32) → (Nat → Nat → Int32) → ZS → Prop} {v1 v2 v3 : Int32} {I : Nat → Int32} {A : Nat → Nat → Int32} {S : ZS} (hR : ∀ I A S, RR I A S) (h : ckF (f_move v1 I A) (f_X11_move 1 v1 S) = true) : PS_move RR v1 v2 v3 I A S := ckF_E h hR
theorem ps_result {RR : (Nat → Int32) → (Nat → Nat → Int32) → ZS → Prop} {v1 v2 v3 : Int32} {I : Nat → Int32} {A : Nat → Nat → Int32} {S : ZS} (hR : ∀ I A S, RR I A S) (h : ckF (f_result  I A) (f_X11_result 1  S) = true) : PS_result RR v1 v2 v3 I A S := ckF_E h hR
theorem ps_tags {RR : (Nat → Int32) → (Nat → Nat → Int32) → ZS → Prop} {v1 v2 v3 : Int32} {I : Nat → Int32} {A : Nat → Nat → Int32} {S : ZS} (hR : ∀ I A S, RR I A S) (h : ckF (f_tags  I A) (f_X11_tags 1  S) = true) : PS_tags RR v1 v2 v3 I A S := ckF_E h hR
theorem ps_type {RR : (Nat → Int32) → (Nat → Nat → Int32) → ZS → Prop} {v1 v2 v3 : Int32} {I : Nat → Int32} {A : Nat → Nat → Int32} {S : ZS} (hR : ∀ I A S, RR I A S) (h : ckG S (f_type (lw v1 v2) v3 I A) (d_X11_type 1 (lw v1 v2) v3 S) = true) : PS_type RR v1 v2 v3 I A S := ckG_E (g := fun C T Pw => g_X11_type 1 (lw v1 v2) v3 S C T Pw) h (fun _ => tt_X11_type) hR
theorem ps_read {RR : (Nat → Int32) → (Nat → Nat → Int32) → ZS → Prop} {v1 v2 v3 : Int32} {I : Nat → Int32} {A : Nat → Nat → Int32} {S : ZS} (hR : ∀ I A S, RR I A S) (h : ckG S (f_read  I A) (d_X11_read 1  S) = true) : PS_read RR v1 v2 v3 I A S := ckG_E (g := fun C T Pw => g_X11_read 1  S C T Pw) h (fun _ => tt_X11_read) hR
theorem ps_find {RR : (Nat → Int32) → (Nat → Nat → Int32) → ZS → Prop} {v1 v2 v3 : Int32} {I : Nat → Int32} {A : Nat → Nat → Int32} {S : ZS} (hR : ∀ I A S, RR I A S) (h : ckG S (f_find  I A) (d_X11_find 1  S) = true) : PS_find RR v1 v2 v3 I A S := ckG_E (g := fun C T Pw => g_X11_find 1  S C T Pw) h (fun _ => tt_X11_find) hR
theorem ps_write {RR : (Nat → Int32) → (Nat → Nat → Int32) → ZS → Prop} {v1 v2 v3 : Int32} {I : Nat → Int32} {A : Nat → Nat → Int32} {S : ZS} (hR : ∀ I A S, RR I A S) (h : ckG S (f_write  I A) (d_X11_write 1  S) = true) : PS_write RR v1 v2 v3 I A S := ckG_E (g := fun C T Pw => g_X11_write 1  S C T Pw) h (fun _ => tt_X11_write) hR
def tV (x : Int32) : Int32 := x
def tN (_ : Int32) : Int32 := 0
def tB (x : Int32) : Int32 := if x = 0 then 0 else 1
def tb_signs (k : Nat) : Int32 := if k = 1 then 1 else 0
theorem ps_signs {RR : (Nat → Int32) → (Nat → Nat → Int32) → ZS → Prop} {v1 v2 v3 : Int32} {I : Nat → Int32} {A : Nat → Nat → Int32} {S : ZS} (hR : ∀ I A S, RR I A S) (h : ckX S (f_signs v1 I A) (d_X11_signs 1 v1 S) tV tb_signs = true) : PS_signs RR v1 v2 v3 I A S := by
  obtain ⟨o2, o3, h2, h3, hg⟩ := ckX_E (g := fun C T Pw Px => g_X11_signs 1 v1 S C T Pw Px) h (fun _ _ => tt_X11_signs)
  exact ⟨o2, o3, h2, h3, fun F => hg _ _ (fun v S1 e1 e2 F1 hF => ⟨e1.symm, fun _ => by rw [hF]; exact congrArg Int32.toInt64 e2, hR _ _ _⟩) (fun k S1 hk e1 e2 => by
    have hk1 : k = 1 := Classical.byContradiction (fun hn => e2 (by rw [← e1]; exact if_neg hn))
    subst hk1
    exact ⟨rfl, e1, fun e3 => absurd e3 (by decide), hR _ _ _⟩)⟩
def tb_node (k : Nat) : Int32 := if k = 2 then 1 else 0
theorem ps_node {RR : (Nat → Int32) → (Nat → Nat → Int32) → ZS → Prop} {v1 v2 v3 : Int32} {I : Nat → Int32} {A : Nat → Nat → Int32} {S : ZS} (hR : ∀ I A S, RR I A S) (h : ckX S (f_node v1 v2 I A) (d_X11_node 1 v1 v2 S) tV tb_node = true) : PS_node RR v1 v2 v3 I A S := by
  obtain ⟨o2, o3, h2, h3, hg⟩ := ckX_E (g := fun C T Pw Px => g_X11_node 1 v1 v2 S C T Pw Px) h (fun _ _ => tt_X11_node)
  exact ⟨o2, o3, h2, h3, fun F => hg _ _ (fun v S1 e1 e2 F1 hF => ⟨e1.symm, fun _ => by rw [hF]; exact congrArg Int32.toInt64 e2, hR _ _ _⟩) (fun k S1 hk e1 e2 => by
    have hk1 : k = 2 := Classical.byContradiction (fun hn => e2 (by rw [← e1]; exact if_neg hn))
    subst hk1
    exact ⟨rfl, e1, fun e3 => absurd e3 (by decide), hR _ _ _⟩)⟩
def tb_mark (k : Nat) : Int32 := if k = 2 then 1 else 0
theorem ps_mark {RR : (Nat → Int32) → (Nat → Nat → Int32) → ZS → Prop} {v1 v2 v3 : Int32} {I : Nat → Int32} {A : Nat → Nat → Int32} {S : ZS} (hR : ∀ I A S, RR I A S) (h : ckX S (f_mark v1 v2 I A) (d_X11_mark 1 v1 v2 S) tV tb_mark = true) : PS_mark RR v1 v2 v3 I A S := by
  obtain ⟨o2, o3, h2, h3, hg⟩ := ckX_E (g := fun C T Pw Px => g_X11_mark 1 v1 v2 S C T Pw Px) h (fun _ _ => tt_X11_mark)
  exact ⟨o2, o3, h2, h3, fun F => hg _ _ (fun v S1 e1 e2 F1 hF => ⟨e1.symm, fun _ => by rw [hF]; exact congrArg Int32.toInt64 e2, hR _ _ _⟩) (fun k S1 hk e1 e2 => by
    have hk1 : k = 2 := Classical.byContradiction (fun hn => e2 (by rw [← e1]; exact if_neg hn))
    subst hk1
    exact ⟨rfl, e1, fun e3 => absurd e3 (by decide), hR _ _ _⟩)⟩
def tb_remark (k : Nat) : Int32 := if k = 2 then 1 else 0
theorem ps_remark {RR : (Nat → Int32) → (Nat → Nat → Int32) → ZS → Prop} {v1 v2 v3 : Int32} {I : Nat → Int32} {A : Nat → Nat → Int32} {S : ZS} (hR : ∀ I A S, RR I A S) (h : ckX S (f_remark v1 v2 I A) (d_X11_remark 1 v1 v2 S) tV tb_remark = true) : PS_remark RR v1 v2 v3 I A S := by
  obtain ⟨o2, o3, h2, h3, hg⟩ := ckX_E (g := fun C T Pw Px => g_X11_remark 1 v1 v2 S C T Pw Px) h (fun _ _ => tt_X11_remark)
  exact ⟨o2, o3, h2, h3, fun F => hg _ _ (fun v S1 e1 e2 F1 hF => ⟨e1.symm, fun _ => by rw [hF]; exact congrArg Int32.toInt64 e2, hR _ _ _⟩) (fun k S1 hk e1 e2 => by
    have hk1 : k = 2 := Classical.byContradiction (fun hn => e2 (by rw [← e1]; exact if_neg hn))
    subst hk1
    exact ⟨rfl, e1, fun e3 => absurd e3 (by decide), hR _ _ _⟩)⟩
def tb_go (k : Nat) : Int32 := if k = 2 then 1 else 0
theorem ps_go {RR : (Nat → Int32) → (Nat → Nat → Int32) → ZS → Prop} {v1 v2 v3 : Int32} {I : Nat → Int32} {A : Nat → Nat → Int32} {S : ZS} (hR : ∀ I A S, RR I A S) (h : ckX S (f_go v1 I A) (d_X11_go 1 v1 S) tN tb_go = true) : PS_go RR v1 v2 v3 I A S := by
  obtain ⟨o2, o3, h2, h3, hg⟩ := ckX_E (g := fun C T Pw Px => g_X11_go 1 v1 S C T Pw Px) h (fun _ _ => tt_X11_go)
  exact ⟨o2, o3, h2, h3, fun F => hg _ _ (fun v S1 e1 e2 => ⟨e1.symm, fun _ => rfl, hR _ _ _⟩) (fun k S1 hk e1 e2 => by
    have hk1 : k = 2 := Classical.byContradiction (fun hn => e2 (by rw [← e1]; exact if_neg hn))
    subst hk1
    exact ⟨rfl, e1, fun e3 => absurd e3 (by decide), hR _ _ _⟩)⟩
def tb_man (k : Nat) : Int32 := if k = 2 then 1 else 0
theorem ps_man {RR : (Nat → Int32) → (Nat → Nat → Int32) → ZS → Prop} {v1 v2 v3 : Int32} {I : Nat → Int32} {A : Nat → Nat → Int32} {S : ZS} (hR : ∀ I A S, RR I A S) (h : ckX S (f_man v1 I A) (d_X11_man 1 v1 S) tV tb_man = true) : PS_man RR v1 v2 v3 I A S := by
  obtain ⟨o2, o3, h2, h3, hg⟩ := ckX_E (g := fun C T Pw Px => g_X11_man 1 v1 S C T Pw Px) h (fun _ _ => tt_X11_man)
  exact ⟨o2, o3, h2, h3, fun F => hg _ _ (fun v S1 e1 e2 F1 hF => ⟨e1.symm, fun _ => by rw [hF]; exact congrArg Int32.toInt64 e2, hR _ _ _⟩) (fun k S1 hk e1 e2 => by
    have hk1 : k = 2 := Classical.byContradiction (fun hn => e2 (by rw [← e1]; exact if_neg hn))
    subst hk1
    exact ⟨rfl, e1, fun e3 => absurd e3 (by decide), hR _ _ _⟩)⟩
def tb_add (k : Nat) : Int32 := if k = 1 then 1 else if k = 3 then 2 else 0
theorem ps_add {RR : (Nat → Int32) → (Nat → Nat → Int32) → ZS → Prop} {v1 v2 v3 : Int32} {I : Nat → Int32} {A : Nat → Nat → Int32} {S : ZS} (hR : ∀ I A S, RR I A S) (h : ckX S (f_add v1 I A) (d_X11_add 1 v1 S) tV tb_add = true) : PS_add RR v1 v2 v3 I A S := by
  obtain ⟨o2, o3, h2, h3, hg⟩ := ckX_E (g := fun C T Pw Px => g_X11_add 1 v1 S C T Pw Px) h (fun _ _ => tt_X11_add)
  exact ⟨o2, o3, h2, h3, fun F => hg _ _ (fun v S1 e1 e2 F1 hF => ⟨e1.symm, fun _ => by rw [hF]; exact congrArg Int32.toInt64 e2, hR _ _ _⟩) (fun k S1 hk e1 e2 => by
    by_cases hk1 : k = 1
    · subst hk1
      exact Or.inl ⟨rfl, e1, fun e3 => absurd e3 (by decide), hR _ _ _⟩
    · have hk2 : k = 3 := Classical.byContradiction (fun hn => e2 (by rw [← e1]; exact (if_neg hk1).trans (if_neg hn)))
      subst hk2
      exact Or.inr ⟨rfl, e1, fun e3 => absurd e3 (by decide), hR _ _ _⟩)⟩
def tb_addMark (k : Nat) : Int32 := if k = 1 then 1 else if k = 4 then 2 else 0
theorem ps_addMark {RR : (Nat → Int32) → (Nat → Nat → Int32) → ZS → Prop} {v1 v2 v3 : Int32} {I : Nat → Int32} {A : Nat → Nat → Int32} {S : ZS} (hR : ∀ I A S, RR I A S) (h : ckX S (f_addMark v1 I A) (d_X11_addMark 1 v1 S) tV tb_addMark = true) : PS_addMark RR v1 v2 v3 I A S := by
  obtain ⟨o2, o3, h2, h3, hg⟩ := ckX_E (g := fun C T Pw Px => g_X11_addMark 1 v1 S C T Pw Px) h (fun _ _ => tt_X11_addMark)
  exact ⟨o2, o3, h2, h3, fun F => hg _ _ (fun v S1 e1 e2 F1 hF => ⟨e1.symm, fun _ => by rw [hF]; exact congrArg Int32.toInt64 e2, hR _ _ _⟩) (fun k S1 hk e1 e2 => by
    by_cases hk1 : k = 1
    · subst hk1
      exact Or.inl ⟨rfl, e1, fun e3 => absurd e3 (by decide), hR _ _ _⟩
    · have hk2 : k = 4 := Classical.byContradiction (fun hn => e2 (by rw [← e1]; exact (if_neg hk1).trans (if_neg hn)))
      subst hk2
      exact Or.inr ⟨rfl, e1, fun e3 => absurd e3 (by decide), hR _ _ _⟩)⟩
def tb_say (k : Nat) : Int32 := if k = 1 then 1 else 0
theorem ps_say {RR : (Nat → Int32) → (Nat → Nat → Int32) → ZS → Prop} {v1 v2 v3 : Int32} {I : Nat → Int32} {A : Nat → Nat → Int32} {S : ZS} (hR : ∀ I A S, RR I A S) (h : ckX S (f_say  I A) (d_X11_say 1  S) tV tb_say = true) : PS_say RR v1 v2 v3 I A S := by
  obtain ⟨o2, o3, h2, h3, hg⟩ := ckX_E (g := fun C T Pw Px => g_X11_say 1  S C T Pw Px) h (fun _ _ => tt_X11_say)
  exact ⟨o2, o3, h2, h3, fun F => hg _ _ (fun v S1 e1 e2 F1 hF => ⟨e1.symm, fun _ => by rw [hF]; exact congrArg Int32.toInt64 e2, hR _ _ _⟩) (fun k S1 hk e1 e2 => by
    have hk1 : k = 1 := Classical.byContradiction (fun hn => e2 (by rw [← e1]; exact if_neg hn))
    subst hk1
    exact ⟨rfl, e1, fun e3 => absurd e3 (by decide), hR _ _ _⟩)⟩
def tb_lead (k : Nat) : Int32 := if k = 4 then 1 else 0
theorem tB_e {x y : Int32} (h : tB x = tB y) : (if x = 0 then (0 : Int64) else 1) = if y = 0 then 0 else 1 := by
  unfold tB at h
  by_cases hx : x = 0 <;> by_cases hy : y = 0 <;> simp [hx, hy] at h ⊢
theorem ps_lead {RR : (Nat → Int32) → (Nat → Nat → Int32) → ZS → Prop} {v1 v2 v3 : Int32} {I : Nat → Int32} {A : Nat → Nat → Int32} {S : ZS} (hR : ∀ I A S, RR I A S) (h : ckX S (f_lead  I A) (d_X11_lead 1  S) tB tb_lead = true) : PS_lead RR v1 v2 v3 I A S := by
  obtain ⟨o2, o3, h2, h3, hg⟩ := ckX_E (g := fun C T Pw Px => g_X11_lead 1  S C T Pw Px) h (fun _ _ => tt_X11_lead)
  exact ⟨o2, o3, h2, h3, fun F => hg _ _ (fun v S1 e1 e2 F1 hF => ⟨e1.symm, fun _ => by rw [hF]; exact tB_e e2, hR _ _ _⟩) (fun k S1 hk e1 e2 => by
    have hk1 : k = 4 := Classical.byContradiction (fun hn => e2 (by rw [← e1]; exact if_neg hn))
    subst hk1
    exact ⟨rfl, e1, fun e3 => absurd e3 (by decide), hR _ _ _⟩)⟩
def tb_end (k : Nat) : Int32 := if k = 1 then 1 else 0
theorem ps_end {RR : (Nat → Int32) → (Nat → Nat → Int32) → ZS → Prop} {v1 v2 v3 : Int32} {I : Nat → Int32} {A : Nat → Nat → Int32} {S : ZS} (hR : ∀ I A S, RR I A S) (h : ckX S (f_end v1 I A) (d_X11_end 1 v1 S) tN tb_end = true) : PS_end RR v1 v2 v3 I A S := by
  obtain ⟨o2, o3, h2, h3, hg⟩ := ckX_E (g := fun C T Pw Px => g_X11_end 1 v1 S C T Pw Px) h (fun _ _ => tt_X11_end)
  exact ⟨o2, o3, h2, h3, fun F => hg _ _ (fun v S1 e1 e2 => ⟨e1.symm, fun _ => rfl, hR _ _ _⟩) (fun k S1 hk e1 e2 => by
    have hk1 : k = 1 := Classical.byContradiction (fun hn => e2 (by rw [← e1]; exact if_neg hn))
    subst hk1
    exact ⟨rfl, e1, fun e3 => absurd e3 (by decide), hR _ _ _⟩)⟩
def tb_tag (k : Nat) : Int32 := if k = 2 then 1 else 0
theorem ps_tag {RR : (Nat → Int32) → (Nat → Nat → Int32) → ZS → Prop} {v1 v2 v3 : Int32} {I : Nat → Int32} {A : Nat → Nat → Int32} {S : ZS} (hR : ∀ I A S, RR I A S) (h : ckX S (f_tag v1 (lb v2) v3 I A) (d_X11_tag 1 v1 (lb v2) v3 S) tV tb_tag = true) : PS_tag RR v1 v2 v3 I A S := by
  obtain ⟨o2, o3, h2, h3, hg⟩ := ckX_E (g := fun C T Pw Px => g_X11_tag 1 v1 (lb v2) v3 S C T Pw Px) h (fun _ _ => tt_X11_tag)
  exact ⟨o2, o3, h2, h3, fun F => hg _ _ (fun v S1 e1 e2 F1 hF => ⟨e1.symm, fun _ => by rw [hF]; exact congrArg Int32.toInt64 e2, hR _ _ _⟩) (fun k S1 hk e1 e2 => by
    have hk1 : k = 2 := Classical.byContradiction (fun hn => e2 (by rw [← e1]; exact if_neg hn))
    subst hk1
    exact ⟨rfl, e1, fun e3 => absurd e3 (by decide), hR _ _ _⟩)⟩
