noncomputable def PS_type (RR : Nat → Nat → (Nat → Int32) → (Nat → Nat → Int32) → ZS → Prop) (cells slots : Nat) (v1 v2 v3 : Int32) (I : Nat → Int32) (A : Nat → Nat → Int32) (S : ZS) : Prop := ∃ kc kt : Nat, (cells + kc ≤ room_1.cells ∧ slots + kt ≤ room_1.slots) ∧ ∃ o2 : Int32 × MS, f_type (lw v1 v2) v3 I A = some o2 ∧ g_X11_type 1 (lw v1 v2) v3 S kc kt (fun r S1 => RR (cells + kc) (slots + kt) o2.2.1 o2.2.2 S1)
noncomputable def PS_cut (RR : Nat → Nat → (Nat → Int32) → (Nat → Nat → Int32) → ZS → Prop) (cells slots : Nat) (v1 v2 v3 : Int32) (I : Nat → Int32) (A : Nat → Nat → Int32) (S : ZS) : Prop := ∃ kc kt : Nat, (cells + kc ≤ room_1.cells ∧ slots + kt ≤ room_1.slots) ∧ ∃ (o1 : Int32 × ZS) (o2 : Int32 × MS), f_cut v1 I A = some o2 ∧ f_X11_cut 1 v1 S = some o1 ∧ RR (cells + kc) (slots + kt) o2.2.1 o2.2.2 o1.2
noncomputable def PS_read (RR : Nat → Nat → (Nat → Int32) → (Nat → Nat → Int32) → ZS → Prop) (cells slots : Nat) (v1 v2 v3 : Int32) (I : Nat → Int32) (A : Nat → Nat → Int32) (S : ZS) : Prop := ∃ kc kt : Nat, (cells + kc ≤ room_1.cells ∧ slots + kt ≤ room_1.slots) ∧ ∃ o2 : Int32 × MS, f_read I A = some o2 ∧ g_X11_read 1 S kc kt (fun r S1 => RR (cells + kc) (slots + kt) o2.2.1 o2.2.2 S1)
noncomputable def PS_find (RR : Nat → Nat → (Nat → Int32) → (Nat → Nat → Int32) → ZS → Prop) (cells slots : Nat) (v1 v2 v3 : Int32) (I : Nat → Int32) (A : Nat → Nat → Int32) (S : ZS) : Prop := ∃ kc kt : Nat, (cells + kc ≤ room_1.cells ∧ slots + kt ≤ room_1.slots) ∧ ∃ o2 : Int32 × MS, f_find I A = some o2 ∧ g_X11_find 1 S kc kt (fun r S1 => RR (cells + kc) (slots + kt) o2.2.1 o2.2.2 S1)
noncomputable def PS_write (RR : Nat → Nat → (Nat → Int32) → (Nat → Nat → Int32) → ZS → Prop) (cells slots : Nat) (v1 v2 v3 : Int32) (I : Nat → Int32) (A : Nat → Nat → Int32) (S : ZS) : Prop := ∃ kc kt : Nat, (cells + kc ≤ room_1.cells ∧ slots + kt ≤ room_1.slots) ∧ ∃ o2 : Int32 × MS, f_write I A = some o2 ∧ g_X11_write 1 S kc kt (fun r S1 => RR (cells + kc) (slots + kt) o2.2.1 o2.2.2 S1)
noncomputable def PS_signs (RR : Nat → Nat → (Nat → Int32) → (Nat → Nat → Int32) → ZS → Prop) (cells slots : Nat) (v1 v2 v3 : Int32) (I : Nat → Int32) (A : Nat → Nat → Int32) (S : ZS) : Prop := ∃ kc kt : Nat, (cells + kc ≤ room_1.cells ∧ slots + kt ≤ room_1.slots) ∧ ∃ o2 : Int32 × MS, f_signs v1 I A = some o2 ∧ ∀ F : Nat → Int64, g_X11_signs 1 v1 S kc kt (fun v S1 => ∀ F1 : Nat → Int64, F1 0 = v.toInt64 → (lPn (RR (cells + kc) (slots + kt) o2.2.1 o2.2.2)) 0 F1 S1) (fun k S1 => (k = 1 ∧ (lPn (RR (cells + kc) (slots + kt) o2.2.1 o2.2.2)) 1 F S1))
noncomputable def PS_out (RR : Nat → Nat → (Nat → Int32) → (Nat → Nat → Int32) → ZS → Prop) (cells slots : Nat) (v1 v2 v3 : Int32) (I : Nat → Int32) (A : Nat → Nat → Int32) (S : ZS) : Prop := ∃ kc kt : Nat, (cells + kc ≤ room_1.cells ∧ slots + kt ≤ room_1.slots) ∧ ∃ (o1 : Int32 × ZS) (o2 : Int32 × MS), f_out v1 I A = some o2 ∧ f_X11_out 1 v1 S = some o1 ∧ RR (cells + kc) (slots + kt) o2.2.1 o2.2.2 o1.2
noncomputable def PS_nodes (RR : Nat → Nat → (Nat → Int32) → (Nat → Nat → Int32) → ZS → Prop) (cells slots : Nat) (v1 v2 v3 : Int32) (I : Nat → Int32) (A : Nat → Nat → Int32) (S : ZS) : Prop := ∃ kc kt : Nat, (cells + kc ≤ room_1.cells ∧ slots + kt ≤ room_1.slots) ∧ ∃ (o1 : Int32 × ZS) (o2 : Int32 × MS), f_nodes I A = some o2 ∧ f_X11_nodes 1 S = some o1 ∧ RR (cells + kc) (slots + kt) o2.2.1 o2.2.2 o1.2
noncomputable def PS_node (RR : Nat → Nat → (Nat → Int32) → (Nat → Nat → Int32) → ZS → Prop) (cells slots : Nat) (v1 v2 v3 : Int32) (I : Nat → Int32) (A : Nat → Nat → Int32) (S : ZS) : Prop := ∃ kc kt : Nat, (cells + kc ≤ room_1.cells ∧ slots + kt ≤ room_1.slots) ∧ ∃ o2 : Int32 × MS, f_node v1 v2 I A = some o2 ∧ ∀ F : Nat → Int64, g_X11_node 1 v1 v2 S kc kt (fun v S1 => ∀ F1 : Nat → Int64, F1 0 = v.toInt64 → (lPn (RR (cells + kc) (slots + kt) o2.2.1 o2.2.2)) 0 F1 S1) (fun k S1 => (k = 2 ∧ (lPn (RR (cells + kc) (slots + kt) o2.2.1 o2.2.2)) 1 F S1))
noncomputable def PS_mark (RR : Nat → Nat → (Nat → Int32) → (Nat → Nat → Int32) → ZS → Prop) (cells slots : Nat) (v1 v2 v3 : Int32) (I : Nat → Int32) (A : Nat → Nat → Int32) (S : ZS) : Prop := ∃ kc kt : Nat, (cells + kc ≤ room_1.cells ∧ slots + kt ≤ room_1.slots) ∧ ∃ o2 : Int32 × MS, f_mark v1 v2 I A = some o2 ∧ ∀ F : Nat → Int64, g_X11_mark 1 v1 v2 S kc kt (fun v S1 => ∀ F1 : Nat → Int64, F1 0 = v.toInt64 → (lPn (RR (cells + kc) (slots + kt) o2.2.1 o2.2.2)) 0 F1 S1) (fun k S1 => (k = 2 ∧ (lPn (RR (cells + kc) (slots + kt) o2.2.1 o2.2.2)) 1 F S1))
noncomputable def PS_remark (RR : Nat → Nat → (Nat → Int32) → (Nat → Nat → Int32) → ZS → Prop) (cells slots : Nat) (v1 v2 v3 : Int32) (I : Nat → Int32) (A : Nat → Nat → Int32) (S : ZS) : Prop := ∃ kc kt : Nat, (cells + kc ≤ room_1.cells ∧ slots + kt ≤ room_1.slots) ∧ ∃ o2 : Int32 × MS, f_remark v1 v2 I A = some o2 ∧ ∀ F : Nat → Int64, g_X11_remark 1 v1 v2 S kc kt (fun v S1 => ∀ F1 : Nat → Int64, F1 0 = v.toInt64 → (lPn (RR (cells + kc) (slots + kt) o2.2.1 o2.2.2)) 0 F1 S1) (fun k S1 => (k = 2 ∧ (lPn (RR (cells + kc) (slots + kt) o2.2.1 o2.2.2)) 1 F S1))
noncomputable def PS_here (RR : Nat → Nat → (Nat → Int32) → (Nat → Nat → Int32) → ZS → Prop) (cells slots : Nat) (v1 v2 v3 : Int32) (I : Nat → Int32) (A : Nat → Nat → Int32) (S : ZS) : Prop := ∃ kc kt : Nat, (cells + kc ≤ room_1.cells ∧ slots + kt ≤ room_1.slots) ∧ ∃ (o1 : Int32 × ZS) (o2 : Int32 × MS), f_here I A = some o2 ∧ f_X11_here 1 S = some o1 ∧ RR (cells + kc) (slots + kt) o2.2.1 o2.2.2 o1.2
noncomputable def PS_go (RR : Nat → Nat → (Nat → Int32) → (Nat → Nat → Int32) → ZS → Prop) (cells slots : Nat) (v1 v2 v3 : Int32) (I : Nat → Int32) (A : Nat → Nat → Int32) (S : ZS) : Prop := ∃ kc kt : Nat, (cells + kc ≤ room_1.cells ∧ slots + kt ≤ room_1.slots) ∧ ∃ o2 : Int32 × MS, f_go v1 I A = some o2 ∧ ∀ F : Nat → Int64, g_X11_go 1 v1 S kc kt (fun _ S1 => (lPn (RR (cells + kc) (slots + kt) o2.2.1 o2.2.2)) 0 F S1) (fun k S1 => (k = 2 ∧ (lPn (RR (cells + kc) (slots + kt) o2.2.1 o2.2.2)) 1 F S1))
noncomputable def PS_man (RR : Nat → Nat → (Nat → Int32) → (Nat → Nat → Int32) → ZS → Prop) (cells slots : Nat) (v1 v2 v3 : Int32) (I : Nat → Int32) (A : Nat → Nat → Int32) (S : ZS) : Prop := ∃ kc kt : Nat, (cells + kc ≤ room_1.cells ∧ slots + kt ≤ room_1.slots) ∧ ∃ o2 : Int32 × MS, f_man v1 I A = some o2 ∧ ∀ F : Nat → Int64, g_X11_man 1 v1 S kc kt (fun v S1 => ∀ F1 : Nat → Int64, F1 0 = v.toInt64 → (lPn (RR (cells + kc) (slots + kt) o2.2.1 o2.2.2)) 0 F1 S1) (fun k S1 => (k = 2 ∧ (lPn (RR (cells + kc) (slots + kt) o2.2.1 o2.2.2)) 1 F S1))
noncomputable def PS_move (RR : Nat → Nat → (Nat → Int32) → (Nat → Nat → Int32) → ZS → Prop) (cells slots : Nat) (v1 v2 v3 : Int32) (I : Nat → Int32) (A : Nat → Nat → Int32) (S : ZS) : Prop := ∃ kc kt : Nat, (cells + kc ≤ room_1.cells ∧ slots + kt ≤ room_1.slots) ∧ ∃ (o1 : Int32 × ZS) (o2 : Int32 × MS), f_move v1 I A = some o2 ∧ f_X11_move 1 v1 S = some o1 ∧ RR (cells + kc) (slots + kt) o2.2.1 o2.2.2 o1.2
noncomputable def PS_add (RR : Nat → Nat → (Nat → Int32) → (Nat → Nat → Int32) → ZS → Prop) (cells slots : Nat) (v1 v2 v3 : Int32) (I : Nat → Int32) (A : Nat → Nat → Int32) (S : ZS) : Prop := ∃ kc kt : Nat, (cells + kc ≤ room_1.cells ∧ slots + kt ≤ room_1.slots) ∧ ∃ o2 : Int32 × MS, f_add v1 I A = some o2 ∧ ∀ F : Nat → Int64, g_X11_add 1 v1 S kc kt (fun v S1 => ∀ F1 : Nat → Int64, F1 0 = v.toInt64 → (lPn (RR (cells + kc) (slots + kt) o2.2.1 o2.2.2)) 0 F1 S1) (fun k S1 => (k = 1 ∧ (lPn (RR (cells + kc) (slots + kt) o2.2.1 o2.2.2)) 1 F S1) ∨ (k = 3 ∧ (lPn (RR (cells + kc) (slots + kt) o2.2.1 o2.2.2)) 2 F S1))
noncomputable def PS_addMark (RR : Nat → Nat → (Nat → Int32) → (Nat → Nat → Int32) → ZS → Prop) (cells slots : Nat) (v1 v2 v3 : Int32) (I : Nat → Int32) (A : Nat → Nat → Int32) (S : ZS) : Prop := ∃ kc kt : Nat, (cells + kc ≤ room_1.cells ∧ slots + kt ≤ room_1.slots) ∧ ∃ o2 : Int32 × MS, f_addMark v1 I A = some o2 ∧ ∀ F : Nat → Int64, g_X11_addMark 1 v1 S kc kt (fun v S1 => ∀ F1 : Nat → Int64, F1 0 = v.toInt64 → (lPn (RR (cells + kc) (slots + kt) o2.2.1 o2.2.2)) 0 F1 S1) (fun k S1 => (k = 1 ∧ (lPn (RR (cells + kc) (slots + kt) o2.2.1 o2.2.2)) 1 F S1) ∨ (k = 4 ∧ (lPn (RR (cells + kc) (slots + kt) o2.2.1 o2.2.2)) 2 F S1))
noncomputable def PS_say (RR : Nat → Nat → (Nat → Int32) → (Nat → Nat → Int32) → ZS → Prop) (cells slots : Nat) (v1 v2 v3 : Int32) (I : Nat → Int32) (A : Nat → Nat → Int32) (S : ZS) : Prop := ∃ kc kt : Nat, (cells + kc ≤ room_1.cells ∧ slots + kt ≤ room_1.slots) ∧ ∃ o2 : Int32 × MS, f_say I A = some o2 ∧ ∀ F : Nat → Int64, g_X11_say 1 S kc kt (fun v S1 => ∀ F1 : Nat → Int64, F1 0 = v.toInt64 → (lPn (RR (cells + kc) (slots + kt) o2.2.1 o2.2.2)) 0 F1 S1) (fun k S1 => (k = 1 ∧ (lPn (RR (cells + kc) (slots + kt) o2.2.1 o2.2.2)) 1 F S1))
noncomputable def PS_lead (RR : Nat → Nat → (Nat → Int32) → (Nat → Nat → Int32) → ZS → Prop) (cells slots : Nat) (v1 v2 v3 : Int32) (I : Nat → Int32) (A : Nat → Nat → Int32) (S : ZS) : Prop := ∃ kc kt : Nat, (cells + kc ≤ room_1.cells ∧ slots + kt ≤ room_1.slots) ∧ ∃ o2 : Int32 × MS, f_lead I A = some o2 ∧ ∀ F : Nat → Int64, g_X11_lead 1 S kc kt (fun v S1 => ∀ F1 : Nat → Int64, F1 0 = (if v = 0 then 0 else 1) → (lPn (RR (cells + kc) (slots + kt) o2.2.1 o2.2.2)) 0 F1 S1) (fun k S1 => (k = 4 ∧ (lPn (RR (cells + kc) (slots + kt) o2.2.1 o2.2.2)) 1 F S1))
noncomputable def PS_end (RR : Nat → Nat → (Nat → Int32) → (Nat → Nat → Int32) → ZS → Prop) (cells slots : Nat) (v1 v2 v3 : Int32) (I : Nat → Int32) (A : Nat → Nat → Int32) (S : ZS) : Prop := ∃ kc kt : Nat, (cells + kc ≤ room_1.cells ∧ slots + kt ≤ room_1.slots) ∧ ∃ o2 : Int32 × MS, f_end v1 I A = some o2 ∧ ∀ F : Nat → Int64, g_X11_end 1 v1 S kc kt (fun _ S1 => (lPn (RR (cells + kc) (slots + kt) o2.2.1 o2.2.2)) 0 F S1) (fun k S1 => (k = 1 ∧ (lPn (RR (cells + kc) (slots + kt) o2.2.1 o2.2.2)) 1 F S1))
noncomputable def PS_result (RR : Nat → Nat → (Nat → Int32) → (Nat → Nat → Int32) → ZS → Prop) (cells slots : Nat) (v1 v2 v3 : Int32) (I : Nat → Int32) (A : Nat → Nat → Int32) (S : ZS) : Prop := ∃ kc kt : Nat, (cells + kc ≤ room_1.cells ∧ slots + kt ≤ room_1.slots) ∧ ∃ (o1 : Int32 × ZS) (o2 : Int32 × MS), f_result I A = some o2 ∧ f_X11_result 1 S = some o1 ∧ RR (cells + kc) (slots + kt) o2.2.1 o2.2.2 o1.2
noncomputable def PS_tags (RR : Nat → Nat → (Nat → Int32) → (Nat → Nat → Int32) → ZS → Prop) (cells slots : Nat) (v1 v2 v3 : Int32) (I : Nat → Int32) (A : Nat → Nat → Int32) (S : ZS) : Prop := ∃ kc kt : Nat, (cells + kc ≤ room_1.cells ∧ slots + kt ≤ room_1.slots) ∧ ∃ (o1 : Int32 × ZS) (o2 : Int32 × MS), f_tags I A = some o2 ∧ f_X11_tags 1 S = some o1 ∧ RR (cells + kc) (slots + kt) o2.2.1 o2.2.2 o1.2
noncomputable def PS_tag (RR : Nat → Nat → (Nat → Int32) → (Nat → Nat → Int32) → ZS → Prop) (cells slots : Nat) (v1 v2 v3 : Int32) (I : Nat → Int32) (A : Nat → Nat → Int32) (S : ZS) : Prop := ∃ kc kt : Nat, (cells + kc ≤ room_1.cells ∧ slots + kt ≤ room_1.slots) ∧ ∃ o2 o3 : Int32 × MS, f_tag v1 (lb v2) v3 I A = some o2 ∧ f_thrown o2.2.1 o2.2.2 = some o3 ∧ ∀ F : Nat → Int64, g_X11_tag 1 v1 (lb v2) v3 S kc kt (fun v S1 => ∀ F1 : Nat → Int64, F1 0 = v.toInt64 → (lPl o3.1 o2.1.toInt64 (RR (cells + kc) (slots + kt) o3.2.1 o3.2.2)) 0 F1 S1) (fun k S1 => (k = 2 ∧ (lPl o3.1 o2.1.toInt64 (RR (cells + kc) (slots + kt) o3.2.1 o3.2.2)) 1 F S1))
noncomputable def PStep (RR : Nat → Nat → (Nat → Int32) → (Nat → Nat → Int32) → ZS → Prop) (cells slots : Nat) (op v1 v2 v3 : Int32) (I : Nat → Int32) (A : Nat → Nat → Int32) (S : ZS) : Prop :=
  (op = 0 → PS_type RR cells slots v1 v2 v3 I A S) ∧ (op = 1 → PS_cut RR cells slots v1 v2 v3 I A S) ∧ (op = 2 → PS_read RR cells slots v1 v2 v3 I A S) ∧ (op = 3 → PS_find RR cells slots v1 v2 v3 I A S) ∧ (op = 4 → PS_write RR cells slots v1 v2 v3 I A S) ∧ (op = 5 → PS_signs RR cells slots v1 v2 v3 I A S) ∧ (op = 6 → PS_out RR cells slots v1 v2 v3 I A S) ∧ (op = 7 → PS_nodes RR cells slots v1 v2 v3 I A S) ∧ (op = 8 → PS_node RR cells slots v1 v2 v3 I A S) ∧ (op = 9 → PS_mark RR cells slots v1 v2 v3 I A S) ∧ (op = 10 → PS_remark RR cells slots v1 v2 v3 I A S) ∧ (op = 11 → PS_here RR cells slots v1 v2 v3 I A S) ∧ (op = 12 → PS_go RR cells slots v1 v2 v3 I A S) ∧ (op = 13 → PS_man RR cells slots v1 v2 v3 I A S) ∧ (op = 14 → PS_move RR cells slots v1 v2 v3 I A S) ∧ (op = 15 → PS_add RR cells slots v1 v2 v3 I A S) ∧ (op = 16 → PS_addMark RR cells slots v1 v2 v3 I A S) ∧ (op = 17 → PS_say RR cells slots v1 v2 v3 I A S) ∧ (op = 18 → PS_lead RR cells slots v1 v2 v3 I A S) ∧ (op = 19 → PS_end RR cells slots v1 v2 v3 I A S) ∧ (op = 20 → PS_result RR cells slots v1 v2 v3 I A S) ∧ (op = 21 → PS_tags RR cells slots v1 v2 v3 I A S) ∧ (op = 22 → PS_tag RR cells slots v1 v2 v3 I A S) ∧ ((∀ k ∈ ([0, 1, 2, 3, 4, 5, 6, 7, 8, 9, 10, 11, 12, 13, 14, 15, 16, 17, 18, 19, 20, 21, 22] : List Int32), ¬ op = k) → RR cells slots I A S)
set_option maxRecDepth 100000 in
set_option maxHeartbeats 4000000 in
theorem law_iter {p : Program} {l : Launch} {e : Env} {s : State} {m : MethodId} {args : Array Value} {below : List Frame} {meth : Method} {c : Code} {H : Heap} {locs : List Loc} {cells slots : Nat} {Q : State → Prop} {ls : Array Slot} {D : va_G} {A0 : Nat → Prop} {y : Nat → ClassId} {S : ZS} {ob : Nat} {cJ : ClassId} {F : Nat → Int64} {h : Nat → Nat} {I : Nat → Int32} {A : Nat → Nat → Int32} {b L : Nat} {xs : Nat → Int32} {i v0 v1 v2 v3 : Int32} {RR : Nat → Nat → (Nat → Int32) → (Nat → Nat → Int32) → ZS → Prop} (hlt : l.stackTraces = false) (X : CallFix p m c cL_law 7 s args wsL_law RL) (hM : LH D y h ob cJ A0 s H locs I A S F) (hX : va_X b L xs s s.heap ∧ b < s.heap.size ∧ ¬ A0 b) (hN : va_Nc (xN 3) (xN 1) s ∧ va_Nc (xN 4) (xN 1) s) (ha : 1 ∈ zL S ∧ zK S 1 = 11) (hs0 : vp_in i L ∧ xs i.toNatClampNeg = v0) (hs : (vp_in (i + 1) L ∧ xs (i + 1).toNatClampNeg = v1) ∧ (vp_in (i + 2) L ∧ xs (i + 2).toNatClampNeg = v2) ∧ (vp_in (i + 3) L ∧ xs (i + 3).toNatClampNeg = v3)) (hl : lv_has ls 7 [(0, .ref b), (1, .ref (zh y 1)), (2, .ref (h 0)), (3, .ref ob), (4, .int i)]) (hst : PStep RR cells slots (v0 &&& 31) v1 v2 v3 I A S)
    (kk : ∀ (c1 t1 : Nat) (I1 : Nat → Int32) (A1 : Nat → Nat → Int32) (S1 : ZS) (H : Heap) (locs : List Loc) (ls : Array Slot) (F : Nat → Int64), RR c1 t1 I1 A1 S1 → LH D y h ob cJ A0 s H locs I1 A1 S1 F → lv_has ls 7 [(0, .ref b), (1, .ref (zh y 1)), (2, .ref (h 0)), (3, .ref ob), (4, .int i)] → W p l e room_1 s m args below meth c H locs c1 t1 Q (F0 m 789 ls [])) : W p l e room_1 s m args below meth c H locs cells slots Q (F0 m 32 ls []) := by
  obtain ⟨hx, hb, -, hown, hts⟩ := id X
  refine lv_aload_n hx hb dL_law_32 rfl (lv_at hl 0 rfl) ?_
  refine lv_iload hx hb dL_law_33 (lv_at hl 4 rfl) ?_
  refine L_sld X hM hX hs0 dL_law_35 ?_
  refine lv_bipush (v := (31 : Int32)) hx hb dL_law_36 (by decide) ?_
  refine lv_iand hx hb dL_law_38 ?_
  generalize v0 &&& 31 = op at hst ⊢
  obtain ⟨hp0, hp1, hp2, hp3, hp4, hp5, hp6, hp7, hp8, hp9, hp10, hp11, hp12, hp13, hp14, hp15, hp16, hp17, hp18, hp19, hp20, hp21, hp22, hdf⟩ := hst
  by_cases ck0 : op = (0 : Int32)
  · refine lv_tableIn (off := 105) (tgt := 144) hx hb dL_law_39 (by rw [ck0]; decide) (by rw [ck0]; decide) (by rw [ck0]; decide) (by decide) ?_
    obtain ⟨kc, kt, hcs, o2, h2, hf⟩ := hp0 ck0
    exact lc_type h2 hf hlt X hM hX hN ha hs hl hcs (kk _ _ _ _)
  by_cases ck1 : op = (1 : Int32)
  · refine lv_tableIn (off := 174) (tgt := 213) hx hb dL_law_39 (by rw [ck1]; decide) (by rw [ck1]; decide) (by rw [ck1]; decide) (by decide) ?_
    obtain ⟨kc, kt, hcs, o1, o2, h2, hf, hr⟩ := hp1 ck1
    exact lc_cut h2 hf hr hlt X hM hX hN ha hs hl hcs (kk _ _ _ _)
  by_cases ck2 : op = (2 : Int32)
  · refine lv_tableIn (off := 199) (tgt := 238) hx hb dL_law_39 (by rw [ck2]; decide) (by rw [ck2]; decide) (by rw [ck2]; decide) (by decide) ?_
    obtain ⟨kc, kt, hcs, o2, h2, hf⟩ := hp2 ck2
    exact lc_read h2 hf hlt X hM hX hN ha hs hl hcs (kk _ _ _ _)
  by_cases ck3 : op = (3 : Int32)
  · refine lv_tableIn (off := 212) (tgt := 251) hx hb dL_law_39 (by rw [ck3]; decide) (by rw [ck3]; decide) (by rw [ck3]; decide) (by decide) ?_
    obtain ⟨kc, kt, hcs, o2, h2, hf⟩ := hp3 ck3
    exact lc_find h2 hf hlt X hM hX hN ha hs hl hcs (kk _ _ _ _)
  by_cases ck4 : op = (4 : Int32)
  · refine lv_tableIn (off := 225) (tgt := 264) hx hb dL_law_39 (by rw [ck4]; decide) (by rw [ck4]; decide) (by rw [ck4]; decide) (by decide) ?_
    obtain ⟨kc, kt, hcs, o2, h2, hf⟩ := hp4 ck4
    exact lc_write h2 hf hlt X hM hX hN ha hs hl hcs (kk _ _ _ _)
  by_cases ck5 : op = (5 : Int32)
  · refine lv_tableIn (off := 238) (tgt := 277) hx hb dL_law_39 (by rw [ck5]; decide) (by rw [ck5]; decide) (by rw [ck5]; decide) (by decide) ?_
    obtain ⟨kc, kt, hcs, o2, h2, hf⟩ := hp5 ck5
    exact lc_signs h2 hf hlt X hM hX hN ha hs hl hcs (kk _ _ _ _)
  by_cases ck6 : op = (6 : Int32)
  · refine lv_tableIn (off := 266) (tgt := 305) hx hb dL_law_39 (by rw [ck6]; decide) (by rw [ck6]; decide) (by rw [ck6]; decide) (by decide) ?_
    obtain ⟨kc, kt, hcs, o1, o2, h2, hf, hr⟩ := hp6 ck6
    exact lc_out h2 hf hr hlt X hM hX hN ha hs hl hcs (kk _ _ _ _)
  by_cases ck7 : op = (7 : Int32)
  · refine lv_tableIn (off := 291) (tgt := 330) hx hb dL_law_39 (by rw [ck7]; decide) (by rw [ck7]; decide) (by rw [ck7]; decide) (by decide) ?_
    obtain ⟨kc, kt, hcs, o1, o2, h2, hf, hr⟩ := hp7 ck7
    exact lc_nodes h2 hf hr hlt X hM hX hN ha hs hl hcs (kk _ _ _ _)
  by_cases ck8 : op = (8 : Int32)
  · refine lv_tableIn (off := 304) (tgt := 343) hx hb dL_law_39 (by rw [ck8]; decide) (by rw [ck8]; decide) (by rw [ck8]; decide) (by decide) ?_
    obtain ⟨kc, kt, hcs, o2, h2, hf⟩ := hp8 ck8
    exact lc_node h2 hf hlt X hM hX hN ha hs hl hcs (kk _ _ _ _)
  by_cases ck9 : op = (9 : Int32)
  · refine lv_tableIn (off := 344) (tgt := 383) hx hb dL_law_39 (by rw [ck9]; decide) (by rw [ck9]; decide) (by rw [ck9]; decide) (by decide) ?_
    obtain ⟨kc, kt, hcs, o2, h2, hf⟩ := hp9 ck9
    exact lc_mark h2 hf hlt X hM hX hN ha hs hl hcs (kk _ _ _ _)
  by_cases ck10 : op = (10 : Int32)
  · refine lv_tableIn (off := 384) (tgt := 423) hx hb dL_law_39 (by rw [ck10]; decide) (by rw [ck10]; decide) (by rw [ck10]; decide) (by decide) ?_
    obtain ⟨kc, kt, hcs, o2, h2, hf⟩ := hp10 ck10
    exact lc_remark h2 hf hlt X hM hX hN ha hs hl hcs (kk _ _ _ _)
  by_cases ck11 : op = (11 : Int32)
  · refine lv_tableIn (off := 424) (tgt := 463) hx hb dL_law_39 (by rw [ck11]; decide) (by rw [ck11]; decide) (by rw [ck11]; decide) (by decide) ?_
    obtain ⟨kc, kt, hcs, o1, o2, h2, hf, hr⟩ := hp11 ck11
    exact lc_here h2 hf hr hlt X hM hX hN ha hs hl hcs (kk _ _ _ _)
  by_cases ck12 : op = (12 : Int32)
  · refine lv_tableIn (off := 437) (tgt := 476) hx hb dL_law_39 (by rw [ck12]; decide) (by rw [ck12]; decide) (by rw [ck12]; decide) (by decide) ?_
    obtain ⟨kc, kt, hcs, o2, h2, hf⟩ := hp12 ck12
    exact lc_go h2 hf hlt X hM hX hN ha hs hl hcs (kk _ _ _ _)
  by_cases ck13 : op = (13 : Int32)
  · refine lv_tableIn (off := 462) (tgt := 501) hx hb dL_law_39 (by rw [ck13]; decide) (by rw [ck13]; decide) (by rw [ck13]; decide) (by decide) ?_
    obtain ⟨kc, kt, hcs, o2, h2, hf⟩ := hp13 ck13
    exact lc_man h2 hf hlt X hM hX hN ha hs hl hcs (kk _ _ _ _)
  by_cases ck14 : op = (14 : Int32)
  · refine lv_tableIn (off := 490) (tgt := 529) hx hb dL_law_39 (by rw [ck14]; decide) (by rw [ck14]; decide) (by rw [ck14]; decide) (by decide) ?_
    obtain ⟨kc, kt, hcs, o1, o2, h2, hf, hr⟩ := hp14 ck14
    exact lc_move h2 hf hr hlt X hM hX hN ha hs hl hcs (kk _ _ _ _)
  by_cases ck15 : op = (15 : Int32)
  · refine lv_tableIn (off := 515) (tgt := 554) hx hb dL_law_39 (by rw [ck15]; decide) (by rw [ck15]; decide) (by rw [ck15]; decide) (by decide) ?_
    obtain ⟨kc, kt, hcs, o2, h2, hf⟩ := hp15 ck15
    exact lc_add h2 hf hlt X hM hX hN ha hs hl hcs (kk _ _ _ _)
  by_cases ck16 : op = (16 : Int32)
  · refine lv_tableIn (off := 543) (tgt := 582) hx hb dL_law_39 (by rw [ck16]; decide) (by rw [ck16]; decide) (by rw [ck16]; decide) (by decide) ?_
    obtain ⟨kc, kt, hcs, o2, h2, hf⟩ := hp16 ck16
    exact lc_addMark h2 hf hlt X hM hX hN ha hs hl hcs (kk _ _ _ _)
  by_cases ck17 : op = (17 : Int32)
  · refine lv_tableIn (off := 571) (tgt := 610) hx hb dL_law_39 (by rw [ck17]; decide) (by rw [ck17]; decide) (by rw [ck17]; decide) (by decide) ?_
    obtain ⟨kc, kt, hcs, o2, h2, hf⟩ := hp17 ck17
    exact lc_say h2 hf hlt X hM hX hN ha hs hl hcs (kk _ _ _ _)
  by_cases ck18 : op = (18 : Int32)
  · refine lv_tableIn (off := 587) (tgt := 626) hx hb dL_law_39 (by rw [ck18]; decide) (by rw [ck18]; decide) (by rw [ck18]; decide) (by decide) ?_
    obtain ⟨kc, kt, hcs, o2, h2, hf⟩ := hp18 ck18
    exact lc_lead h2 hf hlt X hM hX hN ha hs hl hcs (kk _ _ _ _)
  by_cases ck19 : op = (19 : Int32)
  · refine lv_tableIn (off := 603) (tgt := 642) hx hb dL_law_39 (by rw [ck19]; decide) (by rw [ck19]; decide) (by rw [ck19]; decide) (by decide) ?_
    obtain ⟨kc, kt, hcs, o2, h2, hf⟩ := hp19 ck19
    exact lc_end h2 hf hlt X hM hX hN ha hs hl hcs (kk _ _ _ _)
  by_cases ck20 : op = (20 : Int32)
  · refine lv_tableIn (off := 628) (tgt := 667) hx hb dL_law_39 (by rw [ck20]; decide) (by rw [ck20]; decide) (by rw [ck20]; decide) (by decide) ?_
    obtain ⟨kc, kt, hcs, o1, o2, h2, hf, hr⟩ := hp20 ck20
    exact lc_result h2 hf hr hlt X hM hX hN ha hs hl hcs (kk _ _ _ _)
  by_cases ck21 : op = (21 : Int32)
  · refine lv_tableIn (off := 641) (tgt := 680) hx hb dL_law_39 (by rw [ck21]; decide) (by rw [ck21]; decide) (by rw [ck21]; decide) (by decide) ?_
    obtain ⟨kc, kt, hcs, o1, o2, h2, hf, hr⟩ := hp21 ck21
    exact lc_tags h2 hf hr hlt X hM hX hN ha hs hl hcs (kk _ _ _ _)
  by_cases ck22 : op = (22 : Int32)
  · refine lv_tableIn (off := 654) (tgt := 693) hx hb dL_law_39 (by rw [ck22]; decide) (by rw [ck22]; decide) (by rw [ck22]; decide) (by decide) ?_
    obtain ⟨kc, kt, hcs, o2, o3, h2, h3, hf⟩ := hp22 ck22
    exact lc_tag h2 h3 hf hlt X hM hX hN ha hs hl hcs (kk _ _ _ _)
  have hall : ∀ k ∈ ([0, 1, 2, 3, 4, 5, 6, 7, 8, 9, 10, 11, 12, 13, 14, 15, 16, 17, 18, 19, 20, 21, 22] : List Int32), ¬ op = k := List.forall_mem_cons.mpr ⟨ck0, List.forall_mem_cons.mpr ⟨ck1, List.forall_mem_cons.mpr ⟨ck2, List.forall_mem_cons.mpr ⟨ck3, List.forall_mem_cons.mpr ⟨ck4, List.forall_mem_cons.mpr ⟨ck5, List.forall_mem_cons.mpr ⟨ck6, List.forall_mem_cons.mpr ⟨ck7, List.forall_mem_cons.mpr ⟨ck8, List.forall_mem_cons.mpr ⟨ck9, List.forall_mem_cons.mpr ⟨ck10, List.forall_mem_cons.mpr ⟨ck11, List.forall_mem_cons.mpr ⟨ck12, List.forall_mem_cons.mpr ⟨ck13, List.forall_mem_cons.mpr ⟨ck14, List.forall_mem_cons.mpr ⟨ck15, List.forall_mem_cons.mpr ⟨ck16, List.forall_mem_cons.mpr ⟨ck17, List.forall_mem_cons.mpr ⟨ck18, List.forall_mem_cons.mpr ⟨ck19, List.forall_mem_cons.mpr ⟨ck20, List.forall_mem_cons.mpr ⟨ck21, List.forall_mem_cons.mpr ⟨ck22, fun _ h9 => absurd h9 List.not_mem_nil⟩⟩⟩⟩⟩⟩⟩⟩⟩⟩⟩⟩⟩⟩⟩⟩⟩⟩⟩⟩⟩⟩⟩
  refine m_tabD (tgt := 789) [(0 : Int32), (1 : Int32), (2 : Int32), (3 : Int32), (4 : Int32), (5 : Int32), (6 : Int32), (7 : Int32), (8 : Int32), (9 : Int32), (10 : Int32), (11 : Int32), (12 : Int32), (13 : Int32), (14 : Int32), (15 : Int32), (16 : Int32), (17 : Int32), (18 : Int32), (19 : Int32), (20 : Int32), (21 : Int32), (22 : Int32)] hx hb dL_law_39 (by decide) (by decide) hall (by decide) ?_
  exact kk _ _ _ _ _ H locs ls _ (hdf hall) hM hl
theorem li_cmp : ∀ L, L < 193 → ∀ j, j < 50 → ((Int32.ofNat L - 4 < Int32.ofNat (4 * j)) ↔ L < 4 * j + 4) := by decide +kernel
theorem li_ix : ∀ j, j < 48 → ∀ k, k < 4 → (Int32.ofNat (4 * j) + Int32.ofNat k).toNatClampNeg = 4 * j + k ∧ ¬ (Int32.ofNat (4 * j) + Int32.ofNat k < 0) := by decide +kernel
theorem li_0 : ∀ j, j < 48 → (Int32.ofNat (4 * j)).toNatClampNeg = 4 * j ∧ ¬ (Int32.ofNat (4 * j) < 0) := by decide +kernel
theorem li_inc : ∀ j, j < 48 → Int32.ofNat (4 * j) + 4 = Int32.ofNat (4 * (j + 1)) := by decide +kernel
set_option maxRecDepth 100000 in
set_option maxHeartbeats 4000000 in
theorem law_loop {p : Program} {l : Launch} {e : Env} {s : State} {m : MethodId} {args : Array Value} {below : List Frame} {meth : Method} {c : Code} {Q : State → Prop} {D : va_G} {A0 : Nat → Prop} {y : Nat → ClassId} {ob : Nat} {cJ : ClassId} {h : Nat → Nat} {b L : Nat} {xs : Nat → Int32} {RR : Nat → Nat → Nat → (Nat → Int32) → (Nat → Nat → Int32) → ZS → Prop} (hlt : l.stackTraces = false) (X : CallFix p m c cL_law 7 s args wsL_law RL) (hX : va_X b L xs s s.heap ∧ b < s.heap.size ∧ ¬ A0 b) (hN : va_Nc (xN 3) (xN 1) s ∧ va_Nc (xN 4) (xN 1) s) (hL : L ≤ 192) (hc0 : ∀ (j c1 t1 : Nat) (I : Nat → Int32) (A : Nat → Nat → Int32) (S : ZS), RR j c1 t1 I A S → c1 ≤ room_1.cells ∧ t1 ≤ room_1.slots)
    (hR1 : ∀ (j c1 t1 : Nat) (I : Nat → Int32) (A : Nat → Nat → Int32) (S : ZS), 4 * j + 4 ≤ L → RR j c1 t1 I A S → zK S 1 = 11)
    (hst : ∀ (j c1 t1 : Nat) (I : Nat → Int32) (A : Nat → Nat → Int32) (S : ZS), 4 * j + 4 ≤ L → RR j c1 t1 I A S → PStep (RR (j + 1)) c1 t1 (xs (4 * j) &&& 31) (xs (4 * j + 1)) (xs (4 * j + 2)) (xs (4 * j + 3)) I A S)
    (hend : ∀ (H : Heap) (locs : List Loc) (ls : Array Slot) (cells slots : Nat) (I : Nat → Int32) (A : Nat → Nat → Int32) (S : ZS) (F : Nat → Int64), cells ≤ room_1.cells ∧ slots ≤ room_1.slots → LH D y h ob cJ A0 s H locs I A S F → W p l e room_1 s m args below meth c H locs cells slots Q (F0 m 795 ls [])) :
    ∀ (n j : Nat), L ≤ 4 * (j + n) → 4 * j ≤ L → ∀ (H : Heap) (locs : List Loc) (ls : Array Slot) (I : Nat → Int32) (A : Nat → Nat → Int32) (S : ZS) (F : Nat → Int64) (c1 t1 : Nat), RR j c1 t1 I A S → LH D y h ob cJ A0 s H locs I A S F → lv_has ls 7 [(0, .ref b), (1, .ref (zh y 1)), (2, .ref (h 0)), (3, .ref ob), (4, .int (Int32.ofNat (4 * j)))] → W p l e room_1 s m args below meth c H locs c1 t1 Q (F0 m 23 ls []) := by
  obtain ⟨hx, hb, -, hown, hts⟩ := id X
  intro n
  induction n with
  | zero =>
    intro j hn hj H locs ls I A S F c1 t1 hR hM hl
    refine lv_iload hx hb dL_law_23 (lv_at hl 4 rfl) ?_
    refine lv_aload_n hx hb dL_law_25 rfl (lv_at hl 0 rfl) ?_
    refine va_slen hx hb hX.1 hX.2.1 hX.2.2 hM.1.1.2.2.1 dL_law_26 ?_
    refine lv_iconst (v := (4 : Int32)) hx hb dL_law_27 (by decide) ?_
    refine lv_isub hx hb dL_law_28 ?_
    refine lv_icmp_gt (tgt := 795) hx hb dL_law_29 (by decide) (fun cc1 => ?_) (fun cc1 => ?_)
    · exact hend H locs ls _ _ I A S F (hc0 j c1 t1 I A S hR) hM
    · exact absurd ((li_cmp L (by omega) j (by omega)).mpr (by omega)) cc1
  | succ n ih =>
    intro j hn hj H locs ls I A S F c1 t1 hR hM hl
    refine lv_iload hx hb dL_law_23 (lv_at hl 4 rfl) ?_
    refine lv_aload_n hx hb dL_law_25 rfl (lv_at hl 0 rfl) ?_
    refine va_slen hx hb hX.1 hX.2.1 hX.2.2 hM.1.1.2.2.1 dL_law_26 ?_
    refine lv_iconst (v := (4 : Int32)) hx hb dL_law_27 (by decide) ?_
    refine lv_isub hx hb dL_law_28 ?_
    refine lv_icmp_gt (tgt := 795) hx hb dL_law_29 (by decide) (fun cc1 => ?_) (fun cc1 => ?_)
    · exact hend H locs ls _ _ I A S F (hc0 j c1 t1 I A S hR) hM
    · have hlt4 : 4 * j + 4 ≤ L := by
        have h1 := mt (li_cmp L (by omega) j (by omega)).mpr cc1
        omega
      have hj48 : j < 48 := by omega
      have hk : ∀ k, k < 4 → vp_in (Int32.ofNat (4 * j) + Int32.ofNat k) L ∧ xs (Int32.ofNat (4 * j) + Int32.ofNat k).toNatClampNeg = xs (4 * j + k) := fun k hk => by
        obtain ⟨h1, h2⟩ := li_ix j hj48 k hk
        refine ⟨fun h9 => h9.elim h2 (fun h8 => ?_), by rw [h1]⟩
        rw [h1] at h8
        omega
      have hk0 : vp_in (Int32.ofNat (4 * j)) L ∧ xs (Int32.ofNat (4 * j)).toNatClampNeg = xs (4 * j) := by
        obtain ⟨h1, h2⟩ := li_0 j hj48
        refine ⟨fun h9 => h9.elim h2 (fun h8 => ?_), by rw [h1]⟩
        rw [h1] at h8
        omega
      refine law_iter (RR := RR (j + 1)) hlt X hM hX hN (z_in hM.1.1 (by decide) (hR1 j c1 t1 I A S hlt4 hR)) hk0 ⟨hk 1 (by decide), hk 2 (by decide), hk 3 (by decide)⟩ hl (hst j c1 t1 I A S hlt4 hR) (fun c2 t2 I1 A1 S1 H locs ls F hR1' hM hl => ?_)
      refine lv_iinc (v := Int32.ofNat (4 * (j + 1))) (lv' := [(4, .int (Int32.ofNat (4 * (j + 1)))), (0, .ref b), (1, .ref (zh y 1)), (2, .ref (h 0)), (3, .ref ob)]) hx hb dL_law_789 hl (k := 4) rfl (by rw [← li_inc j hj48]; rfl) (by decide) rfl (fun ls hl => ?_)
      refine lv_goto (tgt := 23) hx hb dL_law_792 (by decide) ?_
      exact ih (j + 1) (by omega) (by omega) H locs ls I1 A1 S1 F c2 t2 hR1' hM (lv_sub hl [1, 2, 3, 4, 0] rfl)
