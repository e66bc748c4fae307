def FrS (WI WA : List Nat) (I : Nat → Int32) (A : Nat → Nat → Int32) (I' : Nat → Int32) (A' : Nat → Nat → Int32) : Prop := (∀ k, k ∉ WI → I' k = I k) ∧ (∀ j, j ∉ WA → A' j = A j)
section FRS
variable {WI WA VI VA : List Nat} {I I1 I2 : Nat → Int32} {A A1 A2 : Nat → Nat → Int32}
theorem frs_0 : FrS WI WA I A I A := ⟨fun _ _ => rfl, fun _ _ => rfl⟩
theorem frs_I {k0 : Nat} {v : Int32} (h : FrS WI WA I A I1 A1) (hk : k0 ∈ WI) (e : I2 = upd I1 k0 v) : FrS WI WA I A I2 A1 := ⟨fun k h1 => by
  have hne : k ≠ k0 := fun e1 => h1 (by rw [e1]; exact hk)
  rw [e, ← h.1 k h1]
  exact if_neg hne, h.2⟩
theorem frs_A {j0 : Nat} {f : Nat → Int32} (h : FrS WI WA I A I1 A1) (hj : j0 ∈ WA) (e : A2 = va_up A1 j0 f) : FrS WI WA I A I1 A2 := ⟨h.1, fun j h1 => by
  have hne : j ≠ j0 := fun e1 => h1 (by rw [e1]; exact hj)
  rw [e, va_up_ne _ _ hne, h.2 j h1]⟩
theorem frs_t (h : FrS WI WA I A I1 A1) (h2 : FrS VI VA I1 A1 I2 A2) (hI : ∀ k ∈ VI, k ∈ WI) (hA : ∀ j ∈ VA, j ∈ WA) : FrS WI WA I A I2 A2 := ⟨fun k h1 => (h2.1 k (fun h3 => h1 (hI k h3))).trans (h.1 k h1), fun j h1 => (h2.2 j (fun h3 => h1 (hA j h3))).trans (h.2 j h1)⟩
end FRS
theorem m_ifE {β : Type} {c : Prop} [Decidable c] {a b : Option β} {r : β} (hf : m_if c a b = some r) : (c ∧ a = some r) ∨ (¬ c ∧ b = some r) := by
  by_cases hc : c
  · exact Or.inl ⟨hc, m_ifT hf hc⟩
  · exact Or.inr ⟨hc, m_ifF hf hc⟩
theorem fr_keep_2s {o : Int32 × MS} {self2 : Int32 → (Nat → Int32) → (Nat → Nat → Int32) → Option (Int32 × MS)} {x1 : Int32} {I : Nat → Int32} {A : Nat → Nat → Int32} (hself2 : ∀ (z0 : Int32) (I : Nat → Int32) (A : Nat → Nat → Int32), self2 z0 I A = some o → FrS [] [30, 31] I A o.2.1 o.2.2) (hf : f_keep_2s self2 x1 I A = some o) : FrS [] [30, 31] I A o.2.1 o.2.2 := by
  have hR : FrS [] [30, 31] I A I A := frs_0
  unfold f_keep_2s at hf
  rcases m_ifE hf with ⟨-, hf⟩ | ⟨-, hf⟩
  ·
    obtain ⟨-, hf⟩ := m_chkE hf
    obtain ⟨A1, ev, hf⟩ := m_bndE hf
    replace hR := frs_A hR (by decide) ev
    clear ev
    obtain ⟨-, hf⟩ := m_chkE hf
    obtain ⟨A2, ev, hf⟩ := m_bndE hf
    replace hR := frs_A hR (by decide) ev
    clear ev
    obtain ⟨-, hf⟩ := m_chkE hf
    obtain ⟨A3, ev, hf⟩ := m_bndE hf
    replace hR := frs_A hR (by decide) ev
    clear ev
    obtain ⟨-, hf⟩ := m_chkE hf
    obtain ⟨A4, ev, hf⟩ := m_bndE hf
    replace hR := frs_A hR (by decide) ev
    clear ev
    obtain ⟨-, hf⟩ := m_chkE hf
    obtain ⟨A5, ev, hf⟩ := m_bndE hf
    replace hR := frs_A hR (by decide) ev
    clear ev
    cases hf
    exact hR
  ·
    obtain ⟨-, hf⟩ := m_chkE hf
    obtain ⟨v6, ev, hf⟩ := m_bndE hf
    clear ev
    obtain ⟨-, hf⟩ := m_chkE hf
    obtain ⟨A7, ev, hf⟩ := m_bndE hf
    replace hR := frs_A hR (by decide) ev
    clear ev
    obtain ⟨v8, ev, hf⟩ := m_bndE hf
    clear ev
    exact frs_t hR (hself2 _ _ _ hf) (fun _ h => h) (fun _ h => h)
theorem fr_keep_2 {o : Int32 × MS}   (n : Nat) : ∀ (y0 : Int32) (I : Nat → Int32) (A : Nat → Nat → Int32), f_keep_2  n y0 I A = some o → FrS [] [30, 31] I A o.2.1 o.2.2 := by
  induction n with
  | zero => intro y0 I A hf; cases hf
  | succ n ih => intro y0 I A hf; exact fr_keep_2s  ih hf
theorem fr_keep_0 {o : Int32 × MS} {I : Nat → Int32} {A : Nat → Nat → Int32}  (hf : f_keep_0 I A = some o) : FrS [] [30, 31] I A o.2.1 o.2.2 := by
  have hR : FrS [] [30, 31] I A I A := frs_0
  unfold f_keep_0 at hf
  exact frs_t hR (fr_keep_2  _ _ _ _ hf) (fun _ h => h) (fun _ h => h)
def mIs : List Nat := [0, 1, 3, 5, 6, 25, 26, 27, 28, 29, 33, 36, 37, 38, 39]
def mSz : List (Nat × Nat) := [(2, 2000), (4, 80000), (7, 2), (8, 602), (9, 602), (10, 602), (11, 602), (12, 602), (13, 2408), (14, 602), (15, 120400), (16, 128), (17, 10), (18, 2), (19, 16), (20, 192), (21, 16), (22, 1536), (23, 2), (24, 64), (30, 64), (31, 5), (32, 2048), (34, 301), (35, 16)]
theorem vc_i {cA : ClassId} {n : Nat} {f f' : Nat → Int32} (h : ∀ i, i < n → f' i = f i) : vp_cell cA (n, .inl f') = vp_cell cA (n, .inl f) := congrArg (fun g : Fin n → Value => ({ cls := cA, slots := Array.ofFn g, vm := .none } : Cell)) (funext fun j => congrArg Value.int (h j.val j.isLt))
theorem m_ren {D : va_G} {cy ci : ClassId} {h : Nat → Nat} {I I' : Nat → Int32} {A A' : Nat → Nat → Int32} {H : Heap} (hI : ∀ k ∈ mIs, I' k = I k) (hA : ∀ q ∈ mSz, ∀ i, i < q.2 → A' q.1 i = A q.1 i) (hP : va_P D vwCl (mW cy ci h I A) H) : va_P D vwCl (mW cy ci h I' A') H := by
  have hF : mF h I' = mF h I := by
    show [Value.int (I' 0), Value.int (I' 1), .ref (h 2), Value.int (I' 3), .ref (h 4), Value.int (I' 5), Value.int (I' 6), .ref (h 7), .ref (h 8), .ref (h 9), .ref (h 10), .ref (h 11), .ref (h 12), .ref (h 13), .ref (h 14), .ref (h 15), .ref (h 16), .ref (h 17), .ref (h 18), .ref (h 19), .ref (h 20), .ref (h 21), .ref (h 22), .ref (h 23), .ref (h 24), Value.int (I' 25), Value.int (I' 26), Value.int (I' 27), Value.int (I' 28), Value.int (I' 29), .ref (h 30), .ref (h 31), .ref (h 32), Value.int (I' 33), .ref (h 34), .ref (h 35), Value.int (I' 36), Value.int (I' 37), Value.int (I' 38), Value.int (I' 39)] = [Value.int (I 0), Value.int (I 1), .ref (h 2), Value.int (I 3), .ref (h 4), Value.int (I 5), Value.int (I 6), .ref (h 7), .ref (h 8), .ref (h 9), .ref (h 10), .ref (h 11), .ref (h 12), .ref (h 13), .ref (h 14), .ref (h 15), .ref (h 16), .ref (h 17), .ref (h 18), .ref (h 19), .ref (h 20), .ref (h 21), .ref (h 22), .ref (h 23), .ref (h 24), Value.int (I 25), Value.int (I 26), Value.int (I 27), Value.int (I 28), Value.int (I 29), .ref (h 30), .ref (h 31), .ref (h 32), Value.int (I 33), .ref (h 34), .ref (h 35), Value.int (I 36), Value.int (I 37), Value.int (I 38), Value.int (I 39)]
    rw [hI 0 (by decide), hI 1 (by decide), hI 3 (by decide), hI 5 (by decide), hI 6 (by decide), hI 25 (by decide), hI 26 (by decide), hI 27 (by decide), hI 28 (by decide), hI 29 (by decide), hI 33 (by decide), hI 36 (by decide), hI 37 (by decide), hI 38 (by decide), hI 39 (by decide)]
  intro k x hx
  match k, hx with
  | 0, hx =>
    cases hx
    have h0 := hP 0 _ rfl
    show va_at D vwCl (h 0, .inr (12, mF h I')) H
    rw [hF]
    exact h0
  | 1, hx =>
    cases hx
    have h0 : H[h 2]? = some (vp_cell cy (2000, .inl (A 2))) := hP 1 _ rfl
    show H[h 2]? = some (vp_cell cy (2000, .inl (A' 2)))
    rw [vc_i (hA (2, 2000) (by decide))]
    exact h0
  | 2, hx =>
    cases hx
    have h0 : H[h 4]? = some (vp_cell cy (80000, .inl (A 4))) := hP 2 _ rfl
    show H[h 4]? = some (vp_cell cy (80000, .inl (A' 4)))
    rw [vc_i (hA (4, 80000) (by decide))]
    exact h0
  | 3, hx =>
    cases hx
    have h0 : H[h 7]? = some (vp_cell ci (2, .inl (A 7))) := hP 3 _ rfl
    show H[h 7]? = some (vp_cell ci (2, .inl (A' 7)))
    rw [vc_i (hA (7, 2) (by decide))]
    exact h0
  | 4, hx =>
    cases hx
    have h0 : H[h 8]? = some (vp_cell ci (602, .inl (A 8))) := hP 4 _ rfl
    show H[h 8]? = some (vp_cell ci (602, .inl (A' 8)))
    rw [vc_i (hA (8, 602) (by decide))]
    exact h0
  | 5, hx =>
    cases hx
    have h0 : H[h 9]? = some (vp_cell ci (602, .inl (A 9))) := hP 5 _ rfl
    show H[h 9]? = some (vp_cell ci (602, .inl (A' 9)))
    rw [vc_i (hA (9, 602) (by decide))]
    exact h0
  | 6, hx =>
    cases hx
    have h0 : H[h 10]? = some (vp_cell ci (602, .inl (A 10))) := hP 6 _ rfl
    show H[h 10]? = some (vp_cell ci (602, .inl (A' 10)))
    rw [vc_i (hA (10, 602) (by decide))]
    exact h0
  | 7, hx =>
    cases hx
    have h0 : H[h 11]? = some (vp_cell ci (602, .inl (A 11))) := hP 7 _ rfl
    show H[h 11]? = some (vp_cell ci (602, .inl (A' 11)))
    rw [vc_i (hA (11, 602) (by decide))]
    exact h0
  | 8, hx =>
    cases hx
    have h0 : H[h 12]? = some (vp_cell ci (602, .inl (A 12))) := hP 8 _ rfl
    show H[h 12]? = some (vp_cell ci (602, .inl (A' 12)))
    rw [vc_i (hA (12, 602) (by decide))]
    exact h0
  | 9, hx =>
    cases hx
    have h0 : H[h 13]? = some (vp_cell ci (2408, .inl (A 13))) := hP 9 _ rfl
    show H[h 13]? = some (vp_cell ci (2408, .inl (A' 13)))
    rw [vc_i (hA (13, 2408) (by decide))]
    exact h0
  | 10, hx =>
    cases hx
    have h0 : H[h 14]? = some (vp_cell ci (602, .inl (A 14))) := hP 10 _ rfl
    show H[h 14]? = some (vp_cell ci (602, .inl (A' 14)))
    rw [vc_i (hA (14, 602) (by decide))]
    exact h0
  | 11, hx =>
    cases hx
    have h0 : H[h 15]? = some (vp_cell cy (120400, .inl (A 15))) := hP 11 _ rfl
    show H[h 15]? = some (vp_cell cy (120400, .inl (A' 15)))
    rw [vc_i (hA (15, 120400) (by decide))]
    exact h0
  | 12, hx =>
    cases hx
    have h0 : H[h 16]? = some (vp_cell ci (128, .inl (A 16))) := hP 12 _ rfl
    show H[h 16]? = some (vp_cell ci (128, .inl (A' 16)))
    rw [vc_i (hA (16, 128) (by decide))]
    exact h0
  | 13, hx =>
    cases hx
    have h0 : H[h 17]? = some (vp_cell ci (10, .inl (A 17))) := hP 13 _ rfl
    show H[h 17]? = some (vp_cell ci (10, .inl (A' 17)))
    rw [vc_i (hA (17, 10) (by decide))]
    exact h0
  | 14, hx =>
    cases hx
    have h0 : H[h 18]? = some (vp_cell ci (2, .inl (A 18))) := hP 14 _ rfl
    show H[h 18]? = some (vp_cell ci (2, .inl (A' 18)))
    rw [vc_i (hA (18, 2) (by decide))]
    exact h0
  | 15, hx =>
    cases hx
    have h0 : H[h 19]? = some (vp_cell ci (16, .inl (A 19))) := hP 15 _ rfl
    show H[h 19]? = some (vp_cell ci (16, .inl (A' 19)))
    rw [vc_i (hA (19, 16) (by decide))]
    exact h0
  | 16, hx =>
    cases hx
    have h0 : H[h 20]? = some (vp_cell cy (192, .inl (A 20))) := hP 16 _ rfl
    show H[h 20]? = some (vp_cell cy (192, .inl (A' 20)))
    rw [vc_i (hA (20, 192) (by decide))]
    exact h0
  | 17, hx =>
    cases hx
    have h0 : H[h 21]? = some (vp_cell ci (16, .inl (A 21))) := hP 17 _ rfl
    show H[h 21]? = some (vp_cell ci (16, .inl (A' 21)))
    rw [vc_i (hA (21, 16) (by decide))]
    exact h0
  | 18, hx =>
    cases hx
    have h0 : H[h 22]? = some (vp_cell cy (1536, .inl (A 22))) := hP 18 _ rfl
    show H[h 22]? = some (vp_cell cy (1536, .inl (A' 22)))
    rw [vc_i (hA (22, 1536) (by decide))]
    exact h0
  | 19, hx =>
    cases hx
    have h0 : H[h 23]? = some (vp_cell ci (2, .inl (A 23))) := hP 19 _ rfl
    show H[h 23]? = some (vp_cell ci (2, .inl (A' 23)))
    rw [vc_i (hA (23, 2) (by decide))]
    exact h0
  | 20, hx =>
    cases hx
    have h0 : H[h 24]? = some (vp_cell ci (64, .inl (A 24))) := hP 20 _ rfl
    show H[h 24]? = some (vp_cell ci (64, .inl (A' 24)))
    rw [vc_i (hA (24, 64) (by decide))]
    exact h0
  | 21, hx =>
    cases hx
    have h0 : H[h 30]? = some (vp_cell ci (64, .inl (A 30))) := hP 21 _ rfl
    show H[h 30]? = some (vp_cell ci (64, .inl (A' 30)))
    rw [vc_i (hA (30, 64) (by decide))]
    exact h0
  | 22, hx =>
    cases hx
    have h0 : H[h 31]? = some (vp_cell ci (5, .inl (A 31))) := hP 22 _ rfl
    show H[h 31]? = some (vp_cell ci (5, .inl (A' 31)))
    rw [vc_i (hA (31, 5) (by decide))]
    exact h0
  | 23, hx =>
    cases hx
    have h0 : H[h 32]? = some (vp_cell ci (2048, .inl (A 32))) := hP 23 _ rfl
    show H[h 32]? = some (vp_cell ci (2048, .inl (A' 32)))
    rw [vc_i (hA (32, 2048) (by decide))]
    exact h0
  | 24, hx =>
    cases hx
    have h0 : H[h 34]? = some (vp_cell ci (301, .inl (A 34))) := hP 24 _ rfl
    show H[h 34]? = some (vp_cell ci (301, .inl (A' 34)))
    rw [vc_i (hA (34, 301) (by decide))]
    exact h0
  | 25, hx =>
    cases hx
    have h0 : H[h 35]? = some (vp_cell cy (16, .inl (A 35))) := hP 25 _ rfl
    show H[h 35]? = some (vp_cell cy (16, .inl (A' 35)))
    rw [vc_i (hA (35, 16) (by decide))]
    exact h0
  | n + 26, hx => exact absurd (List.getElem?_eq_some_iff.mp hx).1 (by show ¬ n + 26 < 26; omega)
theorem met_post {l : Launch} {y : MethodName} {ws : List Cond} {rm : Room} {Pc : Array Value → State → Prop} {Qc Qc' : Array Value → State → Outcome → State → Prop} {mc ms : Nat} {free : Addr → Prop} (h : Met l y ws rm Pc Qc mc ms free) (hq : ∀ a st o t, Qc a st o t → Qc' a st o t) : Met l y ws rm Pc Qc' mc ms free := by
  intro p e h1 h2 h3 s m args below h4 h5 h6 h7
  obtain ⟨n, o, a, b, c, d, f⟩ := h p e h1 h2 h3 s m args below h4 h5 h6 h7
  exact ⟨n, o, a, b, c, hq _ _ _ _ d, f⟩
theorem mMi_ren {l : Launch} {y : MethodName} {ws : List Cond} {rm : Room} {av : List Value} {D : va_G} {cy ci : ClassId} {h : Nat → Nat} {I : Nat → Int32} {A : Nat → Nat → Int32} {o o' : Int32 × MS} (hm : mMi l y ws rm av D cy ci h I A o) (e1 : o'.1 = o.1) (hI : ∀ k ∈ mIs, o'.2.1 k = o.2.1 k) (hA : ∀ q ∈ mSz, ∀ i, i < q.2 → o'.2.2 q.1 i = o.2.2 q.1 i) : mMi l y ws rm av D cy ci h I A o' := fun sz => met_post (hm sz) (fun a st oo t hq => by
  obtain ⟨⟨r, u, e2, hp, hb⟩, hF⟩ := hq
  exact ⟨⟨r, u, e2, by rw [e1]; exact hp, m_ren hI hA hb⟩, hF⟩)
theorem upd_ne {f : Nat → Int32} {k i : Nat} {x : Int32} (h : i ≠ k) : upd f k x i = f i := if_neg h
theorem upd_self {f : Nat → Int32} {k : Nat} {x : Int32} : upd f k x k = x := if_pos rfl
theorem keep_l {o : Int32 × MS} (n : Nat) : ∀ (j : Nat) (I : Nat → Int32) (A : Nat → Nat → Int32), j ≤ 64 → f_keep_2 n (nI j) I A = some o → (∀ i, i < j → A 30 i = A 24 i) → (∀ i, i < 64 → o.2.2 30 i = A 24 i) ∧ o.2.2 31 0 = I 25 ∧ o.2.2 31 1 = I 26 ∧ o.2.2 31 2 = I 27 ∧ o.2.2 31 3 = I 28 ∧ o.2.2 31 4 = I 29 := by
  induction n with
  | zero => intro j I A _ hf; cases hf
  | succ n ih =>
    intro j I A hj hf hinv
    replace hf : f_keep_2s (f_keep_2 n) (nI j) I A = some o := hf
    unfold f_keep_2s at hf
    rcases m_ifE hf with ⟨hc, hf⟩ | ⟨hc, hf⟩
    · have hj4 : j = 64 := Classical.byContradiction (fun h => nI_ge (a := j) (b := 64) (by omega) (by decide) hc)
      obtain ⟨-, hf⟩ := m_chkE hf
      obtain ⟨A1, e1, hf⟩ := m_bndE hf
      obtain ⟨-, hf⟩ := m_chkE hf
      obtain ⟨A2, e2, hf⟩ := m_bndE hf
      obtain ⟨-, hf⟩ := m_chkE hf
      obtain ⟨A3, e3, hf⟩ := m_bndE hf
      obtain ⟨-, hf⟩ := m_chkE hf
      obtain ⟨A4, e4, hf⟩ := m_bndE hf
      obtain ⟨-, hf⟩ := m_chkE hf
      obtain ⟨A5, e5, hf⟩ := m_bndE hf
      cases hf
      subst e1 e2 e3 e4 e5
      exact ⟨fun i hi => hinv i (by omega), rfl, rfl, rfl, rfl, rfl⟩
    · have hj4 : j < 64 := Classical.byContradiction (fun h => hc (nI_le (a := 64) (b := j) (by omega) (by omega)))
      obtain ⟨-, hf⟩ := m_chkE hf
      obtain ⟨v6, e6, hf⟩ := m_bndE hf
      obtain ⟨-, hf⟩ := m_chkE hf
      obtain ⟨A7, e7, hf⟩ := m_bndE hf
      obtain ⟨v8, e8, hf⟩ := m_bndE hf
      rw [nI_clamp (by omega : j < 2 ^ 31)] at e6 e7
      rw [e8, ← nI_succ] at hf
      have h24 : A7 24 = A 24 := by rw [e7]; exact va_up_ne _ _ (by decide)
      have h30 : A7 30 = upd (A 30) j v6 := by rw [e7]; exact va_up_self _ _ _
      have h1 := ih (j + 1) I A7 (by omega) hf (fun i hi => by
        rw [h24, h30]
        by_cases hij : i = j
        · rw [hij, upd_self, e6]
        · rw [upd_ne hij]; exact hinv i (by omega))
      rw [h24] at h1
      exact h1
theorem mMv_ren {l : Launch} {y : MethodName} {ws : List Cond} {rm : Room} {av : List Value} {D : va_G} {cy ci : ClassId} {h : Nat → Nat} {I : Nat → Int32} {A : Nat → Nat → Int32} {o o' : Int32 × MS} (hm : mMv l y ws rm av D cy ci h I A o) (hI : ∀ k ∈ mIs, o'.2.1 k = o.2.1 k) (hA : ∀ q ∈ mSz, ∀ i, i < q.2 → o'.2.2 q.1 i = o.2.2 q.1 i) : mMv l y ws rm av D cy ci h I A o' := fun sz => met_post (hm sz) (fun a st oo t hq => by
  obtain ⟨⟨u, e2, hp, hb⟩, hF⟩ := hq
  exact ⟨⟨u, e2, hp, m_ren hI hA hb⟩, hF⟩)
theorem m_ifP {β : Type} {c : Prop} [Decidable c] {a b : Option β} (h : c) : m_if c a b = a := if_pos h
theorem m_ifN {β : Type} {c : Prop} [Decidable c] {a b : Option β} (h : ¬ c) : m_if c a b = b := if_neg h
theorem m_chkP {β : Type} {c : Prop} [Decidable c] {k : Option β} (h : c) : m_chk c k = k := if_pos h
theorem keep_t (n : Nat) : ∀ (j : Nat) (I : Nat → Int32) (A : Nat → Nat → Int32), j ≤ 64 → 64 < j + n → ∃ o : Int32 × MS, f_keep_2 n (nI j) I A = some o := by
  induction n with
  | zero => intro j I A h1 h2; omega
  | succ n ih =>
    intro j I A hj hn
    show ∃ o : Int32 × MS, f_keep_2s (f_keep_2 n) (nI j) I A = some o
    unfold f_keep_2s
    by_cases hc : (64 : Int32) ≤ nI j
    · rw [m_ifP hc, m_chkP (by decide), m_bnd, m_chkP (by decide), m_bnd, m_chkP (by decide), m_bnd, m_chkP (by decide), m_bnd, m_chkP (by decide), m_bnd]
      exact ⟨_, rfl⟩
    · have hj4 : j < 64 := Classical.byContradiction (fun h => hc (nI_le (a := 64) (b := j) (by omega) (by omega)))
      have hin : ¬ (nI j < 0 ∨ 64 ≤ (nI j).toNatClampNeg) := nI_in hj4 (by decide)
      rw [m_ifN hc, m_chkP hin, m_bnd, m_chkP hin, m_bnd, m_bnd, ← nI_succ]
      exact ih (j + 1) I _ (by omega) (by omega)
/-- the state behind keep: the men and the five numbers kept beside -/
def nA (I : Nat → Int32) (A : Nat → Nat → Int32) : Nat → Nat → Int32 := va_up (va_up A 30 (A 24)) 31 (fun i => if i = 0 then I 25 else if i = 1 then I 26 else if i = 2 then I 27 else if i = 3 then I 28 else I 29)
theorem nA_30 {I : Nat → Int32} {A : Nat → Nat → Int32} : nA I A 30 = A 24 := (va_up_ne _ _ (by decide)).trans (va_up_self _ _ _)
theorem nA_o {I : Nat → Int32} {A : Nat → Nat → Int32} {j : Nat} (h0 : j ≠ 30) (h1 : j ≠ 31) : nA I A j = A j := (va_up_ne _ _ h1).trans (va_up_ne _ _ h0)
def f_keep (I : Nat → Int32) (A : Nat → Nat → Int32) : Option (Int32 × MS) := some (0, (I, nA I A))
theorem sz_30 : ∀ q ∈ mSz, q.1 = 30 → q.2 = 64 := by decide
theorem sz_31 : ∀ q ∈ mSz, q.1 = 31 → q.2 = 5 := by decide
theorem sz_24 : ∀ q ∈ mSz, q.1 = 24 → q.2 = 64 := by decide
theorem c_keep {l : Launch} {D : va_G} {cy ci : ClassId} {h : Nat → Nat} {I : Nat → Int32} {A : Nat → Nat → Int32} {o : Int32 × MS} (hf : f_keep  I A = some o) : mMv l yX12_keep wsX12_keep ({ frames := 0, cells := 0, slots := 0, locals := 0 } : Room) [.ref (h 0)] D cy ci h I A o := by
  obtain ⟨o0, h0⟩ := keep_t mFuel 0 I A (by decide) (by decide)
  cases hf
  have a := fr_keep_0 h0
  have b := keep_l mFuel 0 I A (by decide) h0 (fun i hi => absurd hi (Nat.not_lt_zero _))
  refine mMv_ren (c0_keep h0) (fun k _ => (a.1 k List.not_mem_nil).symm) (fun q hq i hi => ?_)
  show nA I A q.1 i = o0.2.2 q.1 i
  by_cases h31 : q.1 = 31
  · have hi5 : i < 5 := by rw [sz_31 q hq h31] at hi; exact hi
    rw [h31]
    match i, hi5 with
    | 0, _ => exact b.2.1.symm
    | 1, _ => exact b.2.2.1.symm
    | 2, _ => exact b.2.2.2.1.symm
    | 3, _ => exact b.2.2.2.2.1.symm
    | 4, _ => exact b.2.2.2.2.2.symm
  · by_cases h30 : q.1 = 30
    · have hi5 : i < 64 := by rw [sz_30 q hq h30] at hi; exact hi
      rw [h30, nA_30]
      exact (b.1 i hi5).symm
    · rw [nA_o h30 h31, a.2 q.1 (by simp [h30, h31])]
