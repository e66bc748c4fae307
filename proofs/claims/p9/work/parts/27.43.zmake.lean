theorem zI_b {S : ZS} {j a i b : Nat} {v : Int32} (h : b ≠ a) : zI (zsI S j a v) i b = zI S i b := by
  show va_up (zI S) j (va_up (zI S j) a v) i b = zI S i b
  by_cases e : i = j
  · rw [e, va_up_self, va_up_ne _ _ h]
  · rw [va_up_ne _ _ e]
theorem zI_j {S : ZS} {j a i b : Nat} {v : Int32} (h : i ≠ j) : zI (zsI S j a v) i b = zI S i b := by
  show va_up (zI S) j (va_up (zI S j) a v) i b = zI S i b
  rw [va_up_ne _ _ h]
theorem zI_n {S : ZS} {q k n j a : Nat} (h : a ≠ q) : zI (zsNewO S q k n) j a = zI S j a := va_up_ne _ _ h
theorem zI_q {S : ZS} {q k n j : Nat} : zI (zsNewO S q k n) j q = 0 := va_up_self _ _ _
theorem zP_b {S : ZS} {j a i b : Nat} {v : Option Nat} (h : b ≠ a) : zP (zsP S j a v) i b = zP S i b := by
  show va_up (zP S) j (va_up (zP S j) a v) i b = zP S i b
  by_cases e : i = j
  · rw [e, va_up_self, va_up_ne _ _ h]
  · rw [va_up_ne _ _ e]
theorem zP_j {S : ZS} {j a i b : Nat} {v : Option Nat} (h : i ≠ j) : zP (zsP S j a v) i b = zP S i b := by
  show va_up (zP S) j (va_up (zP S j) a v) i b = zP S i b
  rw [va_up_ne _ _ h]
theorem zP_s {S : ZS} {j a : Nat} {v : Option Nat} : zP (zsP S j a v) j a = v := by
  show va_up (zP S) j (va_up (zP S j) a v) j a = v
  rw [va_up_self, va_up_self]
theorem zP_n {S : ZS} {q k n j a : Nat} (h : a ≠ q) : zP (zsNewO S q k n) j a = zP S j a := va_up_ne _ _ h
theorem zP_q {S : ZS} {q k n j : Nat} : zP (zsNewO S q k n) j q = none := va_up_self _ _ _
theorem zK_n {S : ZS} {q k n a : Nat} (h : a ≠ q) : zK (zsNewO S q k n) a = zK S a := va_up_ne _ _ h
theorem zK_q {S : ZS} {q k n : Nat} : zK (zsNewO S q k n) q = k := va_up_self _ _ _
theorem zt_ext {S S' : ZS} {N : Nat → Prop} (hT : ZT S) (hK : ∀ a, ¬ N a → zK S' a = zK S a) (hI : ∀ a j, ¬ N a → zI S' j a = zI S j a) (hP : ∀ a j, ¬ N a → zP S' j a = zP S j a) (hn : ∀ a, N a → zt S ≤ a) (eN : zN S' = zN S) (eA : zA S' = zA S) (eB : zB S' = zB S) (ec : zc S' = zc S) (et : zt S ≤ zt S') (hF : Fh S')
    (hg : ∀ a, N a → (zK S' a = 4 ∨ zK S' a = 6 ∨ zK S' a = 10) ∧ (∀ j, (pT (zK S' a) j).1 ≠ 99 → ∃ b, zP S' j a = some b ∧ zK S' b = (pT (zK S' a) j).1 ∧ (pT (zK S' a) j).2 = 0) ∧ (zK S' a = 6 → zP S' 0 a = some 0 ∧ (zI S' 1 a).toInt = 0) ∧ (∀ j, (bT (zK S' a) j).1 ≤ (zI S' j a).toInt ∧ (zI S' j a).toInt ≤ (bT (zK S' a) j).2) ∧ (∀ j b, zP S' j a = some b → cM (zK S' a) j ≤ rc b ∧ rc b ≤ cT (zK S' a) j)) : ZT S' := by
  obtain ⟨h1, h2, h3, h4, h5, h6, h7, h8, h9, h10, h11⟩ := hT
  have old : ∀ a, zK S a < 18 → ¬ N a := fun a ha hN => by have := h5 a (hn a hN); omega
  have kO : ∀ a, zK S a < 18 → zK S' a = zK S a := fun a ha => hK a (old a ha)
  have z0 : zcap S' 0 = 0 := if_pos rfl
  refine ⟨?_, ?_, ?_, ?_, hF, ?_, ?_, ?_, ?_, ?_, ?_⟩
  · intro a j ha hj
    by_cases hN : N a
    · obtain ⟨b, b1, b2, b3⟩ := (hg a hN).2.1 j hj
      exact ⟨b, b1, b2, Or.inl b3⟩
    · rw [hK a hN] at ha hj ⊢
      obtain ⟨c, c1, c2, c3⟩ := h1 a j ha hj
      have hc : zK S c < 18 := by rw [c2]; exact pT_lt _ _ hj
      exact ⟨c, by rw [hP a j hN]; exact c1, (kO c hc).trans c2, by rw [eN]; exact c3⟩
  · intro a ha
    by_cases hN : N a
    · obtain ⟨b1, b2⟩ := (hg a hN).2.2.1 ha
      exact ⟨0, b1, Or.inl rfl, by omega, by omega, by omega, by omega⟩
    · rw [hK a hN] at ha
      obtain ⟨c, c1, c2, c3, c4, c5, c6⟩ := h2 a ha
      have hz : zcap S' c = zcap S c := by unfold zcap; rw [eN]
      refine ⟨c, by rw [hP a 0 hN]; exact c1, ?_, by rw [hI a 1 hN]; exact c3, by rw [hI a 1 hN, hz]; exact c4, by rw [hI a 1 hN]; exact c5, by rw [hz]; exact c6⟩
      rcases c2 with e | e
      · exact Or.inl e
      · exact Or.inr ((kO c (by omega)).trans e)
  · intro a j ha
    by_cases hN : N a
    · exact (hg a hN).2.2.2.1 j
    · rw [hK a hN] at ha ⊢
      rw [hI a j hN]; exact h3 a j ha
  · intro a
    rw [eB]
    have kk : zK S' a = 15 ∨ zK S' a = 16 ∨ zK S' a = 17 → zK S a = zK S' a := fun h => by
      have hN : ¬ N a := fun hN => by have := (hg a hN).1; omega
      exact (hK a hN).symm
    refine ⟨fun ha i hi => ?_, fun ha i c hc => ?_, fun ha i c hc => ?_⟩
    · obtain ⟨c, c1, c2⟩ := (h4 a).1 ((kk (by omega)).trans ha) i hi
      exact ⟨c, c1, (kO c (by omega)).trans c2⟩
    · have := (h4 a).2.1 ((kk (by omega)).trans ha) i c hc
      exact (kO c (by omega)).trans this
    · have := (h4 a).2.2 ((kk (by omega)).trans ha) i c hc
      exact (kO c (by omega)).trans this
  · rw [hK 0 (fun hN => by have := hn 0 hN; omega)]; exact h6
  · intro a ha i
    have hN : ¬ N a := fun hN => by have := (hg a hN).1; omega
    rw [hK a hN] at ha
    rw [eA]; exact h7 a ha i
  · intro a j ha b hb
    by_cases hN : N a
    · exact (hg a hN).2.2.2.2 j b hb
    · rw [hK a hN] at ha ⊢
      rw [hP a j hN] at hb
      exact h8 a j ha b hb
  · intro a ha b hb i hi
    have hN : ¬ N a := fun hN => by have := (hg a hN).1; omega
    rw [hK a hN] at ha
    rw [hP a 4 hN] at hb
    rw [hI a 5 hN] at hi
    rw [eB]; exact h9 a ha b hb i hi
  · rw [ec]; exact h10
  · refine ⟨by omega, fun a a' b ka ka' pa pa' => ?_⟩
    by_cases hN : N a
    · rw [((hg a hN).2.2.1 ka).1] at pa
      cases pa
      exact Or.inl rfl
    · by_cases hN' : N a'
      · rw [((hg a' hN').2.2.1 ka').1] at pa'
        cases pa'
        exact Or.inl rfl
      · rw [hK a hN] at ka
        rw [hK a' hN'] at ka'
        rw [hP a 0 hN] at pa
        rw [hP a' 0 hN'] at pa'
        exact h11.2 a a' b ka ka' pa pa'
theorem ps_old {S S' : ZS} {N : Nat → Prop} (hK : ∀ a, ¬ N a → zK S' a = zK S a) (hP : ∀ a j, ¬ N a → zP S' j a = zP S j a) (hn : ∀ a, N a → zt S ≤ a) (eN : zN S' = zN S) (eB : zB S' = zB S) : sumN (pot S') (zt S) = PS S := by
  refine sumN_congr _ (fun a ha => ?_)
  have hN : ¬ N a := fun h => by have := hn a h; omega
  unfold pot zcap
  rw [hK a hN, hP a 0 hN, eB, eN]
theorem pT6 (j : Nat) : (pT 6 j).1 = 99 := by unfold pT; simp
theorem bT6 (j : Nat) : bT 6 j = tF := by unfold bT; simp
theorem pT4 {j : Nat} (h : j ≠ 6) : (pT 4 j).1 = 99 := by unfold pT; simp [h]
theorem bT4 {j : Nat} (h : j ≠ 4) : bT 4 j = tF := by unfold bT; simp [h]
theorem cM4 (j : Nat) : cM 4 j = 0 := by unfold cM; simp
theorem cM10 (j : Nat) : cM 10 j = 0 := by unfold cM; simp
theorem pT10 {j : Nat} (h : j ≠ 0) (h2 : j ≠ 1) : (pT 10 j).1 = 99 := by unfold pT; simp [h, h2]
theorem bT10 (j : Nat) : bT 10 j = tF := by unfold bT; simp
/-- a new row -/
def zRw (S : ZS) : ZS := zsI (zsP (zsNewO S (zt S) 6 2) 0 (zt S) (some (zc S))) 1 (zt S) 0
def zN6 (S : ZS) : ZS := zsI (zsI (zsI (zsI (zsI (zsI (zsNewO S (zt S) 4 7) 0 (zt S) (-1)) 1 (zt S) (-1)) 2 (zt S) (-1)) 3 (zt S) (-1)) 4 (zt S) 0) 5 (zt S) 0
def zNd (S : ZS) : ZS := zsP (zRw (zN6 S)) 6 (zt S) (some (zt S + 1))
theorem init6 {S : ZS} {x : Nat} (h : zK S x = 6) : f_X6_init x S = some (0, zsI (zsP S 0 x (some (zc S))) 1 x 0) := by
  have hk : Ok (f_X6_init_0 x S) (fun o => o = (0, zsI (zsP S 0 x (some (zc S))) 1 x 0)) := by
    unfold f_X6_init_0
    refine ok_chk h (ok_bnd (fun S1 e1 => ?_))
    have k1 : zK S1 x = 6 := by rw [e1]; exact h
    refine ok_chk k1 (ok_bnd (fun S2 e2 => ok_ret ?_))
    rw [e2, e1]
  obtain ⟨r, h1, h2⟩ := hk
  show f_X6_init_0 x S = _
  rw [h1, h2]
theorem init4 (S : ZS) : d_X4_init (zt S) (zsNewO S (zt S) 4 7) = some (0, zNd S) := by
  have hk : Ok (d_X4_init_0 (zt S) (zsNewO S (zt S) 4 7)) (fun o => o = (0, zNd S)) := by
    unfold d_X4_init_0
    have kq : zK (zsNewO S (zt S) 4 7) (zt S) = 4 := zK_q
    refine ok_chk kq (ok_bnd (fun S1 e1 => ?_))
    have k1 : zK S1 (zt S) = 4 := by rw [e1]; exact kq
    refine ok_chk k1 (ok_bnd (fun S2 e2 => ?_))
    have k2 : zK S2 (zt S) = 4 := by rw [e2]; exact k1
    refine ok_chk k2 (ok_bnd (fun S3 e3 => ?_))
    have k3 : zK S3 (zt S) = 4 := by rw [e3]; exact k2
    refine ok_chk k3 (ok_bnd (fun S4 e4 => ?_))
    have k4 : zK S4 (zt S) = 4 := by rw [e4]; exact k3
    refine ok_chk k4 (ok_bnd (fun S5 e5 => ?_))
    have k5 : zK S5 (zt S) = 4 := by rw [e5]; exact k4
    refine ok_chk k5 (ok_bnd (fun S6 e6 => ?_))
    have k6 : zK S6 (zt S) = 4 := by rw [e6]; exact k5
    have e : S6 = zN6 S := by rw [e6, e5, e4, e3, e2, e1]; rfl
    have et : zt S6 = zt S + 1 := by rw [e]; rfl
    refine ok_bnd (fun q7 e7 => ok_bnd (fun S8 e8 => ?_))
    have k8 : zK S8 q7 = 6 := by rw [e8]; exact zK_q
    have k8' : zK S8 (zt S) = 4 := by rw [e8, zK_n (by omega)]; exact k6
    refine ok_calR (init6 k8) (ok_chk ⟨rfl, rfl⟩ (ok_chk k8' (ok_bnd (fun S12 e12 => ok_ret ?_))))
    show (0, S12) = (0, zNd S)
    rw [e12, e8, e7, e]
    rfl
  obtain ⟨r, h1, h2⟩ := hk
  show d_X4_init_0 _ _ = _
  rw [h1, h2]
theorem nd_k1 (S : ZS) : zK (zNd S) = va_up (va_up (zK S) (zt S) 4) (zt S + 1) 6 := rfl
theorem nd_k2 (S : ZS) (a j : Nat) (h : ¬ (a = zt S ∨ a = zt S + 1)) : zI (zNd S) j a = zI S j a := by
  have ha : a ≠ zt S := fun e => h (Or.inl e)
  have ha' : a ≠ zt (zN6 S) := fun e => h (Or.inr e)
  unfold zNd
  show zI (zRw (zN6 S)) j a = _
  unfold zRw
  rw [zI_b ha']
  show zI (zsNewO (zN6 S) (zt (zN6 S)) 6 2) j a = _
  rw [zI_n ha']
  unfold zN6
  rw [zI_b ha, zI_b ha, zI_b ha, zI_b ha, zI_b ha, zI_b ha, zI_n ha]
theorem nd_k3 (S : ZS) (a j : Nat) (h : ¬ (a = zt S ∨ a = zt S + 1)) : zP (zNd S) j a = zP S j a := by
  have ha : a ≠ zt S := fun e => h (Or.inl e)
  have ha' : a ≠ zt (zN6 S) := fun e => h (Or.inr e)
  unfold zNd
  rw [zP_b ha]
  unfold zRw
  show zP (zsP (zsNewO (zN6 S) (zt (zN6 S)) 6 2) 0 (zt (zN6 S)) (some (zc (zN6 S)))) j a = _
  rw [zP_b ha', zP_n ha']
  unfold zN6
  show zP (zsNewO S (zt S) 4 7) j a = _
  rw [zP_n ha]
theorem nd_f (S : ZS) : (∀ a, ¬ (a = zt S ∨ a = zt S + 1) → zK (zNd S) a = zK S a) ∧ (∀ a j, ¬ (a = zt S ∨ a = zt S + 1) → zI (zNd S) j a = zI S j a) ∧ (∀ a j, ¬ (a = zt S ∨ a = zt S + 1) → zP (zNd S) j a = zP S j a) ∧ zK (zNd S) (zt S) = 4 ∧ zK (zNd S) (zt S + 1) = 6 := by
  refine ⟨fun a h => ?_, nd_k2 S, nd_k3 S, ?_, ?_⟩
  · rw [nd_k1, va_up_ne _ _ (by omega), va_up_ne _ _ (by omega)]
  · rw [nd_k1, va_up_ne _ _ (by omega), va_up_self]
  · rw [nd_k1, va_up_self]
theorem e_I (S : ZS) (j a : Nat) (v : Int32) : zN (zsI S j a v) = zN S ∧ zA (zsI S j a v) = zA S ∧ zB (zsI S j a v) = zB S ∧ zc (zsI S j a v) = zc S := ⟨rfl, rfl, rfl, rfl⟩
theorem e_P (S : ZS) (j a : Nat) (v : Option Nat) : zN (zsP S j a v) = zN S ∧ zA (zsP S j a v) = zA S ∧ zB (zsP S j a v) = zB S ∧ zc (zsP S j a v) = zc S := ⟨rfl, rfl, rfl, rfl⟩
theorem e_O (S : ZS) (q k n : Nat) : zN (zsNewO S q k n) = zN S ∧ zA (zsNewO S q k n) = zA S ∧ zB (zsNewO S q k n) = zB S ∧ zc (zsNewO S q k n) = zc S := ⟨rfl, rfl, rfl, rfl⟩
theorem rw_e (S : ZS) : zN (zRw S) = zN S ∧ zA (zRw S) = zA S ∧ zB (zRw S) = zB S ∧ zc (zRw S) = zc S := by
  unfold zRw
  refine ⟨?_, ?_, ?_, ?_⟩
  · rw [(e_I _ _ _ _).1, (e_P _ _ _ _).1, (e_O _ _ _ _).1]
  · rw [(e_I _ _ _ _).2.1, (e_P _ _ _ _).2.1, (e_O _ _ _ _).2.1]
  · rw [(e_I _ _ _ _).2.2.1, (e_P _ _ _ _).2.2.1, (e_O _ _ _ _).2.2.1]
  · rw [(e_I _ _ _ _).2.2.2, (e_P _ _ _ _).2.2.2, (e_O _ _ _ _).2.2.2]
theorem n6_e (S : ZS) : zN (zN6 S) = zN S ∧ zA (zN6 S) = zA S ∧ zB (zN6 S) = zB S ∧ zc (zN6 S) = zc S := by
  unfold zN6
  refine ⟨?_, ?_, ?_, ?_⟩
  · rw [(e_I _ _ _ _).1, (e_I _ _ _ _).1, (e_I _ _ _ _).1, (e_I _ _ _ _).1, (e_I _ _ _ _).1, (e_I _ _ _ _).1, (e_O _ _ _ _).1]
  · rw [(e_I _ _ _ _).2.1, (e_I _ _ _ _).2.1, (e_I _ _ _ _).2.1, (e_I _ _ _ _).2.1, (e_I _ _ _ _).2.1, (e_I _ _ _ _).2.1, (e_O _ _ _ _).2.1]
  · rw [(e_I _ _ _ _).2.2.1, (e_I _ _ _ _).2.2.1, (e_I _ _ _ _).2.2.1, (e_I _ _ _ _).2.2.1, (e_I _ _ _ _).2.2.1, (e_I _ _ _ _).2.2.1, (e_O _ _ _ _).2.2.1]
  · rw [(e_I _ _ _ _).2.2.2, (e_I _ _ _ _).2.2.2, (e_I _ _ _ _).2.2.2, (e_I _ _ _ _).2.2.2, (e_I _ _ _ _).2.2.2, (e_I _ _ _ _).2.2.2, (e_O _ _ _ _).2.2.2]
theorem rw_t (S : ZS) : zt (zRw S) = zt S + 1 := rfl
theorem rw_u (S : ZS) : zu (zRw S) = zu S + 2 := rfl
theorem nd_t (S : ZS) : zt (zN6 S) = zt S + 1 := rfl
theorem nd_c (S : ZS) : zc (zN6 S) = zc S := (n6_e S).2.2.2
theorem nd_p1 (S : ZS) (j : Nat) (hj : j ≠ 6) : zP (zNd S) j (zt S) = none := by
  unfold zNd
  rw [zP_j hj]
  unfold zRw
  show zP (zsP (zsNewO (zN6 S) (zt (zN6 S)) 6 2) 0 (zt (zN6 S)) (some (zc (zN6 S)))) j (zt S) = _
  have hq : zt S ≠ zt (zN6 S) := by rw [nd_t]; omega
  rw [zP_b hq, zP_n hq]
  unfold zN6
  show zP (zsNewO S (zt S) 4 7) j (zt S) = _
  rw [zP_q]
theorem nd_p2 (S : ZS) : zP (zNd S) 6 (zt S) = some (zt S + 1) := by
  unfold zNd
  exact zP_s
theorem nd_p3 (S : ZS) : zP (zNd S) 0 (zt S + 1) = some (zc S) := by
  unfold zNd
  rw [zP_b (by omega)]
  unfold zRw
  show zP (zsP (zsNewO (zN6 S) (zt (zN6 S)) 6 2) 0 (zt (zN6 S)) (some (zc (zN6 S)))) 0 (zt S + 1) = _
  rw [← nd_t S, zP_s, nd_c]
theorem nd_i1 (S : ZS) : zI (zNd S) 4 (zt S) = 0 := by
  unfold zNd
  show zI (zRw (zN6 S)) 4 (zt S) = _
  have hq : zt S ≠ zt (zN6 S) := by rw [nd_t]; omega
  unfold zRw
  rw [zI_b hq]
  show zI (zsNewO (zN6 S) (zt (zN6 S)) 6 2) 4 (zt S) = _
  rw [zI_n hq]
  unfold zN6
  rw [zI_j (by decide), zI_self]
theorem nd_i2 (S : ZS) : zI (zNd S) 1 (zt S + 1) = 0 := by
  unfold zNd
  show zI (zRw (zN6 S)) 1 (zt S + 1) = _
  rw [← nd_t S]
  unfold zRw
  rw [zI_self]
theorem nd_e (S : ZS) : zN (zNd S) = zN S ∧ zA (zNd S) = zA S ∧ zB (zNd S) = zB S ∧ zc (zNd S) = zc S ∧ zt (zNd S) = zt S + 2 ∧ zu (zNd S) = zu S + 9 := by
  have a1 : zt (zNd S) = zt (zRw (zN6 S)) := rfl
  have b1 : zu (zNd S) = zu (zRw (zN6 S)) := rfl
  have b3 : zu (zN6 S) = zu S + 7 := rfl
  have r := rw_e (zN6 S)
  have n := n6_e S
  refine ⟨?_, ?_, ?_, ?_, ?_, ?_⟩
  · unfold zNd; rw [(e_P _ _ _ _).1, r.1, n.1]
  · unfold zNd; rw [(e_P _ _ _ _).2.1, r.2.1, n.2.1]
  · unfold zNd; rw [(e_P _ _ _ _).2.2.1, r.2.2.1, n.2.2.1]
  · unfold zNd; rw [(e_P _ _ _ _).2.2.2, r.2.2.2, n.2.2.2]
  · rw [a1, rw_t, nd_t]
  · rw [b1, rw_u, b3]
theorem zt_Nd0 {S S' : ZS} (hT : ZT S) (f1 : ∀ a, ¬ (a = zt S ∨ a = zt S + 1) → zK S' a = zK S a) (f2 : ∀ a j, ¬ (a = zt S ∨ a = zt S + 1) → zI S' j a = zI S j a) (f3 : ∀ a j, ¬ (a = zt S ∨ a = zt S + 1) → zP S' j a = zP S j a) (f4 : zK S' (zt S) = 4) (f5 : zK S' (zt S + 1) = 6) (pq : ∀ j, j ≠ 6 → zP S' j (zt S) = none) (pq6 : zP S' 6 (zt S) = some (zt S + 1)) (pr0 : zP S' 0 (zt S + 1) = some (zc S)) (i4 : zI S' 4 (zt S) = 0) (i1 : zI S' 1 (zt S + 1) = 0) (he : zN S' = zN S ∧ zA S' = zA S ∧ zB S' = zB S ∧ zc S' = zc S ∧ zt S' = zt S + 2 ∧ zu S' = zu S + 9) : ZT S' ∧ PS S' = PS S + 410 := by
  have h11 : 109 ≤ zt S := hT.2.2.2.2.2.2.2.2.2.2.1
  have hc : zc S = 0 := hT.2.2.2.2.2.2.2.2.2.1
  obtain ⟨g1, g2, g3, g4, g5, g6⟩ := he
  refine ⟨zt_ext (N := fun a => a = zt S ∨ a = zt S + 1) hT f1 f2 f3 (fun a h => by omega) g1 g2 g3 g4 (by omega) (fun a ha => ?_) (fun a h => ?_), ?_⟩
  · rw [g5] at ha
    rw [f1 a (by omega)]
    exact hT.2.2.2.2.1 a (by omega)
  · rcases h with e | e
    · rw [e, f4]
      refine ⟨Or.inl rfl, fun j hj => ?_, fun h => by omega, fun j => ?_, fun j b hb => ?_⟩
      · by_cases e6 : j = 6
        · rw [e6]; exact ⟨zt S + 1, pq6, f5, rfl⟩
        · exact absurd (pT4 e6) hj
      · by_cases e4 : j = 4
        · rw [e4, i4]; decide
        · rw [bT4 e4]; exact tf_b _
      · by_cases e6 : j = 6
        · rw [e6, pq6] at hb
          cases hb
          rw [e6, rc_new (by omega)]
          decide
        · rw [pq j e6] at hb; cases hb
    · rw [e, f5]
      refine ⟨Or.inr (Or.inl rfl), fun j hj => absurd (pT6 j) hj, fun _ => ⟨by rw [pr0, hc], by rw [i1]; rfl⟩, fun j => by rw [bT6]; exact tf_b _, fun j b hb => ?_⟩
      rw [cM6, cT6]; exact ⟨Nat.zero_le _, rc_le _⟩
  · have e : PS S' = sumN (pot S') (zt S) + pot S' (zt S) + pot S' (zt S + 1) := by
      unfold PS
      rw [g5]; rfl
    have h0 : pot S' (zt S) = 0 := by unfold pot; rw [f4]; rfl
    have h1 : pot S' (zt S + 1) = 410 := by
      unfold pot
      rw [f5, if_pos rfl, pr0, hc]
      have : rK (zt S + 1) = 410 := by
        unfold rK
        rw [rc_new (by omega)]; rfl
      rw [this]; rfl
    rw [e, h0, h1, ps_old (N := fun a => a = zt S ∨ a = zt S + 1) f1 f3 (fun a h => by omega) g1 g3]
theorem zt_Nd {S : ZS} (hT : ZT S) : ZT (zNd S) ∧ PS (zNd S) = PS S + 410 := zt_Nd0 hT (nd_f S).1 (nd_f S).2.1 (nd_f S).2.2.1 (nd_f S).2.2.2.1 (nd_f S).2.2.2.2 (nd_p1 S) (nd_p2 S) (nd_p3 S) (nd_i1 S) (nd_i2 S) (nd_e S)
theorem zt_B {S : ZS} {b i c k kc : Nat} (hT : ZT S) (hk : zK S b = k) (hc : zK S c = kc) (h : (k = 16 ∧ kc = 4) ∨ (k = 17 ∧ kc = 10)) : ZT (zsB S b i (some c)) := by
  obtain ⟨h1, h2, h3, h4, h5, h6, h7, h8, h9, h10, h11⟩ := hT
  have eB : ∀ a j, zB (zsB S b i (some c)) a j = if a = b ∧ j = i then some c else zB S a j := by
    intro a j
    show va_up (zB S) b (va_up (zB S b) i (some c)) a j = _
    by_cases e : a = b
    · rw [e, va_up_self]
      by_cases e2 : j = i
      · rw [e2, va_up_self, if_pos ⟨rfl, rfl⟩]
      · rw [va_up_ne _ _ e2, if_neg (fun h => e2 h.2)]
    · rw [va_up_ne _ _ e, if_neg (fun h => e h.1)]
  refine ⟨h1, h2, h3, ?_, h5, h6, h7, h8, ?_, h10, h11⟩
  · intro a
    have kk : zK (zsB S b i (some c)) = zK S := rfl
    rw [kk]
    refine ⟨fun ha j hj => ?_, fun ha j d hd => ?_, fun ha j d hd => ?_⟩
    · rw [eB, if_neg (fun e => by rw [e.1, hk] at ha; omega)]
      exact (h4 a).1 ha j hj
    · rw [eB] at hd
      by_cases e : a = b ∧ j = i
      · rw [if_pos e] at hd
        cases hd
        rw [e.1, hk] at ha
        rw [hc]; omega
      · rw [if_neg e] at hd
        exact (h4 a).2.1 ha j d hd
    · rw [eB] at hd
      by_cases e : a = b ∧ j = i
      · rw [if_pos e] at hd
        cases hd
        rw [e.1, hk] at ha
        rw [hc]; omega
      · rw [if_neg e] at hd
        exact (h4 a).2.2 ha j d hd
  · intro a ha d hd j hj
    rw [eB]
    by_cases e : d = b ∧ j = i
    · rw [if_pos e]; exact ⟨c, rfl⟩
    · rw [if_neg e]; exact h9 a ha d hd j hj
theorem ps_B {S : ZS} {b i c : Nat} (hT : ZT S) (hb : zB S b i = none) : (zK S b = 16 → i < 301 → PS (zsB S b i (some c)) + 430 = PS S) ∧ (zK S b = 17 → i < 8 → PS (zsB S b i (some c)) + 850 = PS S) := by
  have eo : ∀ a, a ≠ b → pot (zsB S b i (some c)) a = pot S a := fun a ha => by
    have : zB (zsB S b i (some c)) a = zB S a := va_up_ne _ _ ha
    unfold pot
    rw [this]; rfl
  have es : zB (zsB S b i (some c)) b = va_up (zB S b) i (some c) := va_up_self _ _ _
  have hn := nulls_up (f := va_up (zB S b) i (some c)) (g := zB S b) (x := i) (c := c) hb (va_up_self _ _ _) (fun a ha => va_up_ne _ _ ha)
  have lt : ∀ k, zK S b = k → k < 18 → b < zt S := fun k hk h => by
    apply Classical.byContradiction
    intro h2
    have := hT.2.2.2.2.1 b (by omega)
    omega
  refine ⟨fun hk hi => ?_, fun hk hi => ?_⟩
  · have hs := sumN_up (f := pot (zsB S b i (some c))) (g := pot S) (x := b) (zt S) (lt 16 hk (by decide)) (fun a _ ha => eo a ha)
    have p1 : pot S b = 430 * nulls (zB S b) 301 := by unfold pot; rw [hk]; rfl
    have p2 : pot (zsB S b i (some c)) b = 430 * nulls (va_up (zB S b) i (some c)) 301 := by
      have hk' : zK (zsB S b i (some c)) b = 16 := hk
      unfold pot; rw [hk', es]; rfl
    have e1 : PS (zsB S b i (some c)) = sumN (pot (zsB S b i (some c))) (zt S) := rfl
    have e2 : PS S = sumN (pot S) (zt S) := rfl
    have := (hn 301).1 hi
    rw [e1, e2]
    omega
  · have hs := sumN_up (f := pot (zsB S b i (some c))) (g := pot S) (x := b) (zt S) (lt 17 hk (by decide)) (fun a _ ha => eo a ha)
    have p1 : pot S b = 850 * nulls (zB S b) 8 := by unfold pot; rw [hk]; rfl
    have p2 : pot (zsB S b i (some c)) b = 850 * nulls (va_up (zB S b) i (some c)) 8 := by
      have hk' : zK (zsB S b i (some c)) b = 17 := hk
      unfold pot; rw [hk', es]; rfl
    have e1 : PS (zsB S b i (some c)) = sumN (pot (zsB S b i (some c))) (zt S) := rfl
    have e2 : PS S = sumN (pot S) (zt S) := rfl
    have := (hn 8).1 hi
    rw [e1, e2]
    omega
theorem rm_node {S : ZS} {b i : Nat} (hT : ZT S) (hk : zK S b = 16) (hb : zB S b i = none) (hi : i < 301) : ZT (zsB (zNd S) b i (some (zt S))) ∧ RM S (zsB (zNd S) b i (some (zt S))) := by
  have f1 := (nd_f S).1
  have f4 := (nd_f S).2.2.2.1
  have hq : 18 ≤ zK S (zt S) := hT.2.2.2.2.1 _ (Nat.le_refl _)
  have hq1 : 18 ≤ zK S (zt S + 1) := hT.2.2.2.2.1 _ (Nat.le_succ _)
  have hkb : zK (zNd S) b = 16 := by
    rw [f1 b (fun h => by rcases h with e | e <;> rw [e] at hk <;> omega)]; exact hk
  obtain ⟨T, h2⟩ := zt_Nd hT
  obtain ⟨g1, g2, g3, g4, g5, g6⟩ := nd_e S
  have hb' : zB (zNd S) b i = none := by rw [g3]; exact hb
  have h1 := (ps_B (c := zt S) T hb').1 hkb hi
  have eu : zu (zsB (zNd S) b i (some (zt S))) = zu (zNd S) := rfl
  have et : zt (zsB (zNd S) b i (some (zt S))) = zt (zNd S) := rfl
  exact ⟨zt_B T hkb f4 (Or.inl ⟨rfl, rfl⟩), by rw [eu, g6]; omega, by rw [et, g5]; omega, by rw [eu, g6]; omega, by rw [et, g5]; omega⟩
