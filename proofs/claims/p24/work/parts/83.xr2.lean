noncomputable def KU (m : Int → Int) (w k : Int) : Prop := 0 ≤ k ∧ k < 64 ∧ m k = 6 + 8 * w ∧ ∀ s, 0 ≤ s → s < 64 → m s = 6 + 8 * w → s = k
noncomputable def tkg (m : Int → Int) (a b : Int) : Prop := m b ≠ 0 ∨ (m a % 8 = 1 ∧ a % 8 ≠ b % 8)
noncomputable def rb (t i : Int) : Prop := (i = 0 ∧ t % 2 = 1) ∨ (i = 1 ∧ t / 2 % 2 = 1) ∨ (i = 2 ∧ t / 4 % 2 = 1) ∨ (i = 3 ∧ t / 8 % 2 = 1)
noncomputable def pwn (m : Int → Int) (sd ps a b : Int) : Prop := (b = a + (8 - 16 * sd) ∧ m b = 0) ∨ (b = a + 2 * (8 - 16 * sd) ∧ a / 8 = 1 + 5 * sd ∧ m (a + (8 - 16 * sd)) = 0 ∧ m b = 0) ∨ (b / 8 = a / 8 + (1 - 2 * sd) ∧ (b % 8 - a % 8 = 1 ∨ b % 8 - a % 8 = -1) ∧ ((m b ≠ 0 ∧ m b / 8 = 1 - sd) ∨ b = ps))
noncomputable def csl (m : Int → Int) (sd rt a b : Int) : Prop := a = 4 + 56 * sd ∧ ((b = a + 2 ∧ rb rt (2 * sd) ∧ m (a + 1) = 0 ∧ m (a + 2) = 0) ∨ (b = a - 2 ∧ rb rt (2 * sd + 1) ∧ m (a - 1) = 0 ∧ m (a - 2) = 0 ∧ m (a - 3) = 0))
noncomputable def mcS (m : Int → Int) (sd rt a b : Int) : Prop := csl m sd rt a b ∧ ¬ attd m a (1 - sd) ∧ ¬ attd m ((a + b) / 2) (1 - sd)
noncomputable def goR (m : Int → Int) (sd rt ps a b : Int) : Prop := (m a ≠ 0 ∧ m a / 8 = sd) ∧ ¬ (m b ≠ 0 ∧ m b / 8 = sd) ∧ ((m a % 8 = 1 ∧ pwn m sd ps a b) ∨ (m a % 8 ≠ 1 ∧ (attk m a b ∨ (m a % 8 = 6 ∧ mcS m sd rt a b))))
theorem sh_rb {t i v v3 : Int32} (e2 : v = t >>> (i &&& 31)) (e3 : v3 = v &&& 1) (ht : 0 ≤ t.toInt ∧ t.toInt ≤ 15) (hi : 0 ≤ i.toInt ∧ i.toInt ≤ 3) : v3.toInt = 1 ↔ rb t.toInt i.toInt := by
  have h : i = 0 ∨ i = 1 ∨ i = 2 ∨ i = 3 := by
    have h4 : i.toInt = 0 ∨ i.toInt = 1 ∨ i.toInt = 2 ∨ i.toInt = 3 := by omega
    rcases h4 with h | h | h | h
    · exact Or.inl (Int32.toInt_inj.mp h)
    · exact Or.inr (Or.inl (Int32.toInt_inj.mp h))
    · exact Or.inr (Or.inr (Or.inl (Int32.toInt_inj.mp h)))
    · exact Or.inr (Or.inr (Or.inr (Int32.toInt_inj.mp h)))
  rw [e3, e2]
  unfold rb
  rcases h with h | h | h | h
  · subst h
    have k := sq_all (P := fun x => ((x >>> ((0 : Int32) &&& 31)) &&& 1).toInt = x.toInt % 2) (by decide +kernel) (x := t) (by omega)
    have z : (0 : Int32).toInt = 0 := rfl
    omega
  · subst h
    have k := sq_all (P := fun x => ((x >>> ((1 : Int32) &&& 31)) &&& 1).toInt = x.toInt / 2 % 2) (by decide +kernel) (x := t) (by omega)
    have z : (1 : Int32).toInt = 1 := rfl
    omega
  · subst h
    have k := sq_all (P := fun x => ((x >>> ((2 : Int32) &&& 31)) &&& 1).toInt = x.toInt / 4 % 2) (by decide +kernel) (x := t) (by omega)
    have z : (2 : Int32).toInt = 2 := rfl
    omega
  · subst h
    have k := sq_all (P := fun x => ((x >>> ((3 : Int32) &&& 31)) &&& 1).toInt = x.toInt / 8 % 2) (by decide +kernel) (x := t) (by omega)
    have z : (3 : Int32).toInt = 3 := rfl
    omega
section GOR
variable {P Q : Prop} {m : Int → Int}
theorem lf_no (h : P ↔ Q) (n : ¬ Q) : (0 : Int32).toInt = 1 ↔ P := ⟨fun e => absurd e (by decide), fun p => absurd (h.1 p) n⟩
theorem lf_ye (h : P ↔ Q) (n : Q) : (1 : Int32).toInt = 1 ↔ P := ⟨fun _ => h.2 n, fun _ => rfl⟩
theorem ic_s {x t i k n : Int} (h : P ↔ x = 1 ∧ ∀ s, i ≤ s → s ≤ n → m s = 0) (hk : k = i + 1) (hi : i ≤ n) (ht : t = 1 ↔ x = 1 ∧ m i = 0) : P ↔ t = 1 ∧ ∀ s, k ≤ s → s ≤ n → m s = 0 := by
  rw [h, ht, hk]
  constructor
  · intro g
    exact ⟨⟨g.1, g.2 i (Int.le_refl _) hi⟩, fun s a b => g.2 s (by omega) b⟩
  · intro g
    refine ⟨g.1.1, fun s a b => ?_⟩
    by_cases e : s = i
    · rw [e]; exact g.1.2
    · exact g.2 s (by omega) b
theorem mc_82 {sd rt h b x4 t0 n : Int} (q : P ↔ mcS m sd rt h b) (hh : h = 4 + 56 * sd) (hb : (n = 1 ∧ b = h + 2) ∨ (n = 0 ∧ b = h - 2)) (h4 : x4 = 1 ↔ rb rt (2 * sd + 1 - n)) (ht : t0 = 1 ↔ ∀ s, (if n = 1 then h + 1 else h - 3) ≤ s → s ≤ (if n = 1 then h + 2 else h - 1) → m s = 0) : P ↔ (x4 = 1 ∧ t0 = 1) ∧ ¬ attd m h (1 - sd) ∧ ¬ attd m ((h + b) / 2) (1 - sd) := by
  rw [q]
  unfold mcS
  refine and_congr ?_ Iff.rfl
  rw [h4, ht]
  unfold csl
  rcases hb with ⟨hn, hb⟩ | ⟨hn, hb⟩
  · subst hn
    rw [if_pos rfl, if_pos rfl]
    have e : (2 * sd + 1 - 1 : Int) = 2 * sd := by omega
    rw [e]
    constructor
    · rintro ⟨-, g | g⟩
      · refine ⟨g.2.1, fun s a b => ?_⟩
        have : s = h + 1 ∨ s = h + 2 := by omega
        rcases this with e | e
        · rw [e]; exact g.2.2.1
        · rw [e]; exact g.2.2.2
      · omega
    · rintro ⟨g1, g2⟩
      exact ⟨hh, Or.inl ⟨hb, g1, g2 _ (by omega) (by omega), g2 _ (by omega) (by omega)⟩⟩
  · subst hn
    rw [if_neg (by decide), if_neg (by decide)]
    have e : (2 * sd + 1 - 0 : Int) = 2 * sd + 1 := by omega
    rw [e]
    constructor
    · rintro ⟨-, g | g⟩
      · omega
      · refine ⟨g.2.1, fun s a b => ?_⟩
        have : s = h - 1 ∨ s = h - 2 ∨ s = h - 3 := by omega
        rcases this with e | e | e
        · rw [e]; exact g.2.2.1
        · rw [e]; exact g.2.2.2.1
        · rw [e]; exact g.2.2.2.2
    · rintro ⟨g1, g2⟩
      exact ⟨hh, Or.inr ⟨hb, g1, g2 _ (by omega) (by omega), g2 _ (by omega) (by omega), g2 _ (by omega) (by omega)⟩⟩
noncomputable def wlk (m : Int → Int) (P : Prop) (b f r s : Int) : Prop := ∃ n : Int, 0 ≤ n ∧ b = s + n * (f + 8 * r) ∧ onr s f r n ∧ (0 ≤ s ∧ s < 64) ∧ (P ↔ ∀ j : Int, 0 ≤ j → j < n → m (s + j * (f + 8 * r)) = 0)
theorem mul_d {f r n : Int} (hd : kin f r) (h : n * (f + 8 * r) = 0) : n = 0 := by
  revert h
  refine dir9 hd (P := fun f r => n * (f + 8 * r) = 0 → n = 0) ?_ ?_ ?_ ?_ ?_ ?_ ?_ ?_ <;> omega
theorem wlk_y {b f r s : Int} (hd : kin f r) (h : wlk m P b f r s) (e : s = b) : (1 : Int32).toInt = 1 ↔ P := by
  obtain ⟨n, n0, n1, n2, n3, n4⟩ := h
  have hn : n = 0 := mul_d hd (by omega)
  exact lf_ye n4 (fun j a b => by omega)
theorem wlk_n {b f r s v : Int} (h : wlk m P b f r s) (e : s ≠ b) (hv : v = m s) (h0 : v ≠ 0) : (0 : Int32).toInt = 1 ↔ P := by
  obtain ⟨n, n0, n1, n2, n3, n4⟩ := h
  have hn : 0 < n := by
    rcases Int.lt_or_eq_of_le n0 with g | g
    · exact g
    · subst g
      exact absurd (by omega) e
  refine lf_no n4 (fun g => ?_)
  have := g 0 (by omega) hn
  rw [show s + 0 * (f + 8 * r) = s by omega] at this
  omega
theorem wlk_s {b f r s t v : Int} (hd : kin f r) (h : wlk m P b f r s) (e : s ≠ b) (hv : v = m s) (h0 : v = 0) (hs : SQ s f r t) : (0 ≤ t ∧ t ≤ 63) ∧ wlk m P b f r t := by
  obtain ⟨n, n0, n1, n2, n3, n4⟩ := h
  have hn : 0 < n := by
    rcases Int.lt_or_eq_of_le n0 with g | g
    · exact g
    · subst g
      exact absurd (by omega) e
  have o1 : onr s f r 1 := onr_le n3 hd n2 (by omega) (by omega)
  have ht : t = s + 1 * (f + 8 * r) := by
    unfold SQ at hs
    unfold onr at o1
    omega
  obtain ⟨p1, p2, p3, p4⟩ := onr_sq n3 hd o1
  refine ⟨by omega, n - 1, by omega, ?_, ?_, by omega, ?_⟩
  · rw [n1, ht]
    refine dir9 hd (P := fun f r => s + n * (f + 8 * r) = s + 1 * (f + 8 * r) + (n - 1) * (f + 8 * r)) ?_ ?_ ?_ ?_ ?_ ?_ ?_ ?_ <;> omega
  · rw [ht]
    unfold onr
    rw [p3, p4]
    revert n2
    refine dir9 hd (P := fun f r => onr s f r n → 0 ≤ s % 8 + 1 * f + (n - 1) * f ∧ s % 8 + 1 * f + (n - 1) * f < 8 ∧ 0 ≤ s / 8 + 1 * r + (n - 1) * r ∧ s / 8 + 1 * r + (n - 1) * r < 8) ?_ ?_ ?_ ?_ ?_ ?_ ?_ ?_ <;> (unfold onr; omega)
  · have key : ∀ j : Int, t + j * (f + 8 * r) = s + (j + 1) * (f + 8 * r) := by
      intro j
      rw [ht]
      refine dir9 hd (P := fun f r => s + 1 * (f + 8 * r) + j * (f + 8 * r) = s + (j + 1) * (f + 8 * r)) ?_ ?_ ?_ ?_ ?_ ?_ ?_ ?_ <;> omega
    rw [n4]
    constructor
    · intro g j a c
      rw [key]
      exact g _ (by omega) (by omega)
    · intro g j a c
      by_cases e1 : j = 0
      · rw [e1, show s + 0 * (f + 8 * r) = s by omega]
        omega
      · have := g (j - 1) (by omega) (by omega)
        rw [key, show j - 1 + 1 = j by omega] at this
        exact this
theorem sg_in (x : Int) : -1 ≤ sg x ∧ sg x ≤ 1 := by unfold sg; omega
theorem wlk_0 {a b x y f r t : Int} (ha : 0 ≤ a ∧ a < 64) (hb : 0 ≤ b ∧ b < 64) (hx : x = b % 8 - a % 8) (hy : y = b / 8 - a / 8) (hl : x = 0 ∨ y = 0 ∨ x = y ∨ x = -y) (hn : x ≠ 0 ∨ y ≠ 0) (hf : f = sg x) (hr : r = sg y) (h : P ↔ clr m a x y) (hs : SQ a f r t) : kin f r ∧ (0 ≤ t ∧ t ≤ 63) ∧ wlk m P b f r t := by
  have hd : kin f r := by
    rw [hf, hr]
    unfold kin sg
    omega
  have hN : onr a f r (nst x y) ∧ b = a + nst x y * (f + 8 * r) ∧ 1 ≤ nst x y := by
    have key : ∀ n : Int, n = nst x y → onr a f r n ∧ b = a + n * (f + 8 * r) ∧ 1 ≤ n := by
      intro n e
      unfold nst at e
      unfold sg at hf hr
      revert hf hr
      refine dir9 hd (P := fun f r => f = (if 0 < x then 1 else if x < 0 then -1 else 0) → r = (if 0 < y then 1 else if y < 0 then -1 else 0) → onr a f r n ∧ b = a + n * (f + 8 * r) ∧ 1 ≤ n) ?_ ?_ ?_ ?_ ?_ ?_ ?_ ?_ <;> (intro hf hr; unfold onr; omega)
    exact key _ rfl
  obtain ⟨g1, g2, g3⟩ := hN
  have o1 : onr a f r 1 := onr_le ha hd g1 (by omega) (by omega)
  have ht : t = a + 1 * (f + 8 * r) := by
    unfold SQ at hs
    unfold onr at o1
    omega
  obtain ⟨p1, p2, p3, p4⟩ := onr_sq ha hd o1
  refine ⟨hd, by omega, nst x y - 1, by omega, ?_, ?_, by omega, ?_⟩
  · rw [g2, ht]
    generalize nst x y = n
    refine dir9 hd (P := fun f r => a + n * (f + 8 * r) = a + 1 * (f + 8 * r) + (n - 1) * (f + 8 * r)) ?_ ?_ ?_ ?_ ?_ ?_ ?_ ?_ <;> omega
  · rw [ht]
    unfold onr
    rw [p3, p4]
    revert g1
    generalize nst x y = n
    refine dir9 hd (P := fun f r => onr a f r n → 0 ≤ a % 8 + 1 * f + (n - 1) * f ∧ a % 8 + 1 * f + (n - 1) * f < 8 ∧ 0 ≤ a / 8 + 1 * r + (n - 1) * r ∧ a / 8 + 1 * r + (n - 1) * r < 8) ?_ ?_ ?_ ?_ ?_ ?_ ?_ ?_ <;> (unfold onr; omega)
  · have key : ∀ j : Int, t + j * (f + 8 * r) = a + (j + 1) * (f + 8 * r) := by
      intro j
      rw [ht]
      refine dir9 hd (P := fun f r => a + 1 * (f + 8 * r) + j * (f + 8 * r) = a + (j + 1) * (f + 8 * r)) ?_ ?_ ?_ ?_ ?_ ?_ ?_ ?_ <;> omega
    rw [h]
    unfold clr
    rw [← hf, ← hr]
    constructor
    · intro g j a1 c
      rw [key]
      exact g _ (by omega) (by omega)
    · intro g j a1 c
      have := g (j - 1) (by omega) (by omega)
      rw [key, show j - 1 + 1 = j by omega] at this
      exact this
theorem go_no1 {sd rt ps a b v : Int} (q : P ↔ goR m sd rt ps a b) (hv : v = m a) (h : v = 0 ∨ v / 8 ≠ sd) : (0 : Int32).toInt = 1 ↔ P := lf_no q (fun g => by have := g.1; omega)
theorem go_no2 {sd rt ps a b v : Int} (q : P ↔ goR m sd rt ps a b) (hv : v = m b) (h : v ≠ 0 ∧ v / 8 = sd) : (0 : Int32).toInt = 1 ↔ P := lf_no q (fun g => g.2.1 (by omega))
theorem go_pw {sd rt ps a b v : Int} (q : P ↔ goR m sd rt ps a b) (h1 : m a ≠ 0 ∧ m a / 8 = sd) (h2 : ¬ (m b ≠ 0 ∧ m b / 8 = sd)) (hk : m a % 8 = 1) (hv : v = 1 ↔ pwn m sd ps a b) : v = 1 ↔ P := by
  rw [q, hv]
  unfold goR
  exact ⟨fun g => ⟨h1, h2, Or.inl ⟨hk, g⟩⟩, fun g => g.2.2.elim (fun z => z.2) (fun z => absurd hk z.1)⟩
theorem go_k {sd rt ps a b : Int} (q : P ↔ goR m sd rt ps a b) (h1 : m a ≠ 0 ∧ m a / 8 = sd) (h2 : ¬ (m b ≠ 0 ∧ m b / 8 = sd)) (hk : m a % 8 ≠ 1) : P ↔ attk m a b ∨ (m a % 8 = 6 ∧ mcS m sd rt a b) := by
  rw [q]
  unfold goR
  exact ⟨fun g => g.2.2.elim (fun z => absurd z.1 hk) (fun z => z.2), fun g => ⟨h1, h2, Or.inr ⟨hk, g⟩⟩⟩
theorem go_kn {sd rt a b k : Int} (q : P ↔ attk m a b ∨ (m a % 8 = 6 ∧ mcS m sd rt a b)) (hk : m a % 8 = k) (h2 : k = 2) : P ↔ kni (b % 8 - a % 8) (b / 8 - a / 8) := by
  rw [q]
  have h := ac_94 (P := attk m a b) Iff.rfl hk h2
  rw [← h]
  exact ⟨fun g => g.elim id (fun z => by omega), Or.inl⟩
theorem go_ln {sd rt a b k x y : Int} (q : P ↔ attk m a b ∨ (m a % 8 = 6 ∧ mcS m sd rt a b)) (hk : m a % 8 = k) (h1 : k ≠ 1) (h2 : k ≠ 2) (h6 : k ≠ 6) (hx : x = b % 8 - a % 8) (hy : y = b / 8 - a / 8) : P ↔ lin k x y ∧ clr m a x y := by
  rw [q]
  have h := ac_172 (ac_105 (P := attk m a b) Iff.rfl hk h1 h2 hx hy) h6
  rw [← h]
  exact ⟨fun g => g.elim id (fun z => by omega), Or.inl⟩
theorem go_kg {sd rt a b k x y : Int} (q : P ↔ attk m a b ∨ (m a % 8 = 6 ∧ mcS m sd rt a b)) (hk : m a % 8 = k) (h6 : k = 6) (hx : x = b % 8 - a % 8) (hy : y = b / 8 - a / 8) : P ↔ kin x y ∨ mcS m sd rt a b := by
  rw [q]
  have h9 : attk m a b ↔ kin x y := by
    have z := ac_105 (P := attk m a b) Iff.rfl hk (by omega) (by omega) hx hy
    rw [z]
    refine ⟨fun g => g.elim (fun w => w.2) (fun w => ?_), fun g => Or.inl ⟨h6, g⟩⟩
    have := w.1
    unfold lin at this
    omega
  rw [h9]
  exact ⟨fun g => g.elim Or.inl (fun z => Or.inr z.2), fun g => g.elim Or.inl (fun z => Or.inr ⟨by omega, z⟩)⟩
end GOR
theorem x_kingOf_4s {k : Int} {I : Nat → Int32} {A : Nat → Nat → Int32} {self4 : Int32 → Int32 → Int32 → (Nat → Int32) → (Nat → Nat → Int32) → Option (Int32 × MS)} {N4 : Nat} (hself4 : ∀ (x1 : Int32) (x2 : Int32) (x3 : Int32),  ((0 : Int) ≤ x1.toInt ∧ x1.toInt ≤ (1 : Int)) → ((0 : Int) ≤ x2.toInt ∧ x2.toInt ≤ (63 : Int)) → ((0 : Int) ≤ x3.toInt ∧ x3.toInt ≤ (64 : Int)) → (KU (mR A) x1.toInt k) → (k < x3.toInt → x2.toInt = k) → (64 - x3.toInt) < (N4 : Int) → Ok (self4 x1 x2 x3 I A) (fun o => o.2 = (I, A) ∧ ((0 : Int) ≤ o.1.toInt ∧ o.1.toInt ≤ (63 : Int)) ∧ (o.1.toInt = k))) {x1 : Int32} {x2 : Int32} {x3 : Int32} (hI : TJ I) (hA : TK A) (r_x1 : (0 : Int) ≤ x1.toInt ∧ x1.toInt ≤ (1 : Int)) (r_x2 : (0 : Int) ≤ x2.toInt ∧ x2.toInt ≤ (63 : Int)) (r_x3 : (0 : Int) ≤ x3.toInt ∧ x3.toInt ≤ (64 : Int)) (q0 : KU (mR A) x1.toInt k) (q1 : k < x3.toInt → x2.toInt = k) (m4 : (64 - x3.toInt) ≤ (N4 : Int)) : Ok (f_kingOf_4s self4 x1 x2 x3 I A) (fun o => o.2 = (I, A) ∧ ((0 : Int) ≤ o.1.toInt ∧ o.1.toInt ≤ (63 : Int)) ∧ (o.1.toInt = k)) := by
  unfold f_kingOf_4s
  refine ok_if (fun c1 => ?_) (fun c1 => ?_)
  ·
    replace c1 := ti_leP c1 (show (64 : Int32).toInt = 64 from rfl) rfl
    exact ok_ret ⟨rfl, (show (0 : Int) ≤ x2.toInt ∧ x2.toInt ≤ (63 : Int) from (by omega)), (by show (x2 : Int32).toInt = k; have := q0.2.1; omega)⟩
  ·
    replace c1 := ti_leN c1 (show (64 : Int32).toInt = 64 from rfl) rfl
    refine ok_chk (ti_in (by omega) (by omega)) ?_
    refine ok_bnd (fun v1 e2 => ?_)
    have u_v1 : v1.toInt = mR A x3.toInt := mR_at e2 (by omega) (by omega)
    refine ok_bnd (fun v2 e3 => ?_)
    have t_v2 : v2.toInt = 8 * x1.toInt := ti_mul e3 (show (8 : Int32).toInt = 8 from rfl) rfl (by omega) (by omega)
    refine ok_bnd (fun v3 e4 => ?_)
    have t_v3 : v3.toInt = 6 + v2.toInt := ti_add e4 (show (6 : Int32).toInt = 6 from rfl) rfl (by omega) (by omega)
    have k1 : x3.toInt = k → mR A x3.toInt = 6 + 8 * x1.toInt := fun e => by rw [e]; exact q0.2.2.1
    have k2 := q0.2.2.2 x3.toInt (by omega) (by omega)
    refine ok_if (fun c5 => ?_) (fun c5 => ?_)
    ·
      replace c5 := ti_eqP c5 rfl rfl
      unfold f_kingOf_31
      refine ok_bnd (fun v1 e6 => ?_)
      have t_v1 : v1.toInt = x3.toInt + 1 := ti_add e6 rfl (show (1 : Int32).toInt = 1 from rfl) (by omega) (by omega)
      exact hself4 x1 x3 v1 r_x1 (by omega) (by omega) q0 (by omega) (by omega)
    ·
      replace c5 := ti_eqN c5 rfl rfl
      unfold f_kingOf_31
      refine ok_bnd (fun v1 e7 => ?_)
      have t_v1 : v1.toInt = x3.toInt + 1 := ti_add e7 rfl (show (1 : Int32).toInt = 1 from rfl) (by omega) (by omega)
      exact hself4 x1 x2 v1 r_x1 r_x2 (by omega) q0 (by omega) (by omega)
theorem x_kingOf_4 {k : Int} {I : Nat → Int32} {A : Nat → Nat → Int32} (hI : TJ I) (hA : TK A) : ∀ (n : Nat) (x1 : Int32) (x2 : Int32) (x3 : Int32),  ((0 : Int) ≤ x1.toInt ∧ x1.toInt ≤ (1 : Int)) → ((0 : Int) ≤ x2.toInt ∧ x2.toInt ≤ (63 : Int)) → ((0 : Int) ≤ x3.toInt ∧ x3.toInt ≤ (64 : Int)) → (KU (mR A) x1.toInt k) → (k < x3.toInt → x2.toInt = k) → (64 - x3.toInt) < (n : Int) → Ok (f_kingOf_4  n x1 x2 x3 I A) (fun o => o.2 = (I, A) ∧ ((0 : Int) ≤ o.1.toInt ∧ o.1.toInt ≤ (63 : Int)) ∧ (o.1.toInt = k)) := by
  intro n
  induction n with
  | zero => intro x1 x2 x3 g0 g1 g2 g3 g4  hm; exfalso; omega
  | succ n ih =>
    intro x1 x2 x3 g0 g1 g2 g3 g4  hm
    exact x_kingOf_4s (k := k)  (N4 := n)  ih hI hA g0 g1 g2 g3 g4  (by omega)
theorem x_kingOf_0 {k : Int} {I : Nat → Int32} {A : Nat → Nat → Int32} {x1 : Int32} (hI : TJ I) (hA : TK A) (r_x1 : (0 : Int) ≤ x1.toInt ∧ x1.toInt ≤ (1 : Int)) (q0 : KU (mR A) x1.toInt k) : Ok (f_kingOf_0 x1 I A) (fun o => o.2 = (I, A) ∧ ((0 : Int) ≤ o.1.toInt ∧ o.1.toInt ≤ (63 : Int)) ∧ (o.1.toInt = k)) := by
  unfold f_kingOf_0
  exact x_kingOf_4 (k := k)   hI hA mFuel x1 (0 : Int32) (0 : Int32)  r_x1 (by decide) (by decide) q0 (by intro h; have := q0.1; have z0 : (0 : Int32).toInt = 0 := rfl; omega) (by show _ < ((200000 : Nat) : Int); have z0 : (0 : Int32).toInt = 0 := rfl; have z1 : (0 : Int32).toInt = 0 := rfl; omega)
theorem x_kingOf {k : Int} {I : Nat → Int32} {A : Nat → Nat → Int32} {x1 : Int32} (hI : TJ I) (hA : TK A) (r_x1 : (0 : Int) ≤ x1.toInt ∧ x1.toInt ≤ (1 : Int)) (q0 : KU (mR A) x1.toInt k) : Ok (f_kingOf x1 I A) (fun o => o.2 = (I, A) ∧ ((0 : Int) ≤ o.1.toInt ∧ o.1.toInt ≤ (63 : Int)) ∧ (o.1.toInt = k)) := x_kingOf_0 (k := k) hI hA r_x1 q0
theorem x_isInCheck_0 {k : Int} {I : Nat → Int32} {A : Nat → Nat → Int32} {x1 : Int32} (hI : TJ I) (hA : TK A) (r_x1 : (0 : Int) ≤ x1.toInt ∧ x1.toInt ≤ (1 : Int)) (q0 : KU (mR A) x1.toInt k) (q1 : MBd (mR A)) : Ok (f_isInCheck_0 x1 I A) (fun o => o.2 = (I, A) ∧ ((0 : Int) ≤ o.1.toInt ∧ o.1.toInt ≤ (1 : Int)) ∧ ((o.1.toInt = 1 ↔ attd (mR A) k (1 - x1.toInt)))) := by
  unfold f_isInCheck_0
  obtain ⟨r1, h_r1, p_r1⟩ := ro (x_kingOf (x1 := x1) (k := k) hI hA r_x1 q0)
  refine ok_clR h_r1 ?_
  dsimp only at p_r1
  refine ok_bnd (fun v2 e8 => ?_)
  have t_v2 : v2.toInt = 1 - x1.toInt := ti_sub e8 (show (1 : Int32).toInt = 1 from rfl) rfl (by omega) (by omega)
  obtain ⟨r3, h_r3, p_r3⟩ := ro (y_isAttacked (x1 := r1) (x2 := v2)  hI hA (by omega) (by omega) q1)
  refine ok_clR h_r3 ?_
  dsimp only at p_r3
  refine ok_chk (nar_b (by omega) (by omega)) ?_
  exact ok_ret ⟨rfl, (show (0 : Int) ≤ r3.toInt ∧ r3.toInt ≤ (1 : Int) from (by omega)), (by show ((r3 : Int32).toInt = 1 ↔ attd (mR A) k (1 - x1.toInt)); rw [p_r3.2, p_r1.2, t_v2])⟩
theorem x_isInCheck {k : Int} {I : Nat → Int32} {A : Nat → Nat → Int32} {x1 : Int32} (hI : TJ I) (hA : TK A) (r_x1 : (0 : Int) ≤ x1.toInt ∧ x1.toInt ≤ (1 : Int)) (q0 : KU (mR A) x1.toInt k) (q1 : MBd (mR A)) : Ok (f_isInCheck x1 I A) (fun o => o.2 = (I, A) ∧ ((0 : Int) ≤ o.1.toInt ∧ o.1.toInt ≤ (1 : Int)) ∧ ((o.1.toInt = 1 ↔ attd (mR A) k (1 - x1.toInt)))) := x_isInCheck_0 (k := k) hI hA r_x1 q0 q1
theorem x_isTaking_0  {I : Nat → Int32} {A : Nat → Nat → Int32} {x1 : Int32} (hI : TJ I) (hA : TK A) (r_x1 : (0 : Int) ≤ x1.toInt ∧ x1.toInt ≤ (24575 : Int)) (q0 : MBd (mR A)) : Ok (f_isTaking_0 x1 I A) (fun o => o.2 = (I, A) ∧ ((0 : Int) ≤ o.1.toInt ∧ o.1.toInt ≤ (1 : Int)) ∧ ((o.1.toInt = 1 ↔ tkg (mR A) (x1.toInt % 64) (x1.toInt / 64 % 64)))) := by
  unfold f_isTaking_0
  refine ok_bnd (fun v1 e9 => ?_)
  have t_v1 : v1.toInt = x1.toInt % 64 := ti_rem e9 rfl (show (64 : Int32).toInt = 64 from rfl) (by omega) (by decide)
  refine ok_bnd (fun v2 e10 => ?_)
  have t_v2 : v2.toInt = x1.toInt / 64 := ti_div e10 rfl (show (64 : Int32).toInt = 64 from rfl) (by omega) (by decide)
  refine ok_bnd (fun v3 e11 => ?_)
  have t_v3 : v3.toInt = v2.toInt % 64 := ti_rem e11 rfl (show (64 : Int32).toInt = 64 from rfl) (by omega) (by decide)
  refine ok_chk (ti_in (by omega) (by omega)) ?_
  refine ok_bnd (fun v4 e12 => ?_)
  have u_v4 : v4.toInt = mR A v3.toInt := mR_at e12 (by omega) (by omega)
  have w_v4 := q0 (v3.toInt)
  refine ok_if (fun c13 => ?_) (fun c13 => ?_)
  ·
    replace c13 := ti_eqP c13 rfl (show (0 : Int32).toInt = 0 from rfl)
    refine ok_chk (ti_in (by omega) (by omega)) ?_
    refine ok_bnd (fun v5 e14 => ?_)
    have u_v5 : v5.toInt = mR A v1.toInt := mR_at e14 (by omega) (by omega)
    have w_v5 := q0 (v1.toInt)
    obtain ⟨r6, h_r6, p_r6⟩ := ro (x_kind (x0 := v5)  hI hA (by omega))
    refine ok_clR h_r6 ?_
    dsimp only at p_r6
    refine ok_if (fun c15 => ?_) (fun c15 => ?_)
    ·
      replace c15 := ti_eqP c15 rfl (show (1 : Int32).toInt = 1 from rfl)
      refine ok_bnd (fun v7 e16 => ?_)
      have t_v7 : v7.toInt = v1.toInt % 8 := ti_rem e16 rfl (show (8 : Int32).toInt = 8 from rfl) (by omega) (by decide)
      refine ok_bnd (fun v8 e17 => ?_)
      have t_v8 : v8.toInt = v3.toInt % 8 := ti_rem e17 rfl (show (8 : Int32).toInt = 8 from rfl) (by omega) (by decide)
      refine ok_if (fun c18 => ?_) (fun c18 => ?_)
      ·
        replace c18 := ti_eqP c18 rfl rfl
        unfold f_isTaking_50
        unfold f_isTaking_51
        refine ok_chk (by decide) ?_
        exact ok_ret ⟨rfl, (show (0 : Int) ≤ (0 : Int32).toInt ∧ (0 : Int32).toInt ≤ (1 : Int) from (by decide)), (by show ((0 : Int32).toInt = 1 ↔ tkg (mR A) (x1.toInt % 64) (x1.toInt / 64 % 64)); have g3 : x1.toInt / 64 % 64 = v3.toInt := (by omega); unfold tkg; rw [← t_v1, g3]; have z0 : (0 : Int32).toInt = 0 := rfl; have z1 : (1 : Int32).toInt = 1 := rfl; have z2 : (-1 : Int32).toInt = -1 := rfl; omega)⟩
      ·
        replace c18 := ti_eqN c18 rfl rfl
        unfold f_isTaking_46
        unfold f_isTaking_51
        refine ok_chk (by decide) ?_
        exact ok_ret ⟨rfl, (show (0 : Int) ≤ (1 : Int32).toInt ∧ (1 : Int32).toInt ≤ (1 : Int) from (by decide)), (by show ((1 : Int32).toInt = 1 ↔ tkg (mR A) (x1.toInt % 64) (x1.toInt / 64 % 64)); have g3 : x1.toInt / 64 % 64 = v3.toInt := (by omega); unfold tkg; rw [← t_v1, g3]; have z0 : (0 : Int32).toInt = 0 := rfl; have z1 : (1 : Int32).toInt = 1 := rfl; have z2 : (-1 : Int32).toInt = -1 := rfl; omega)⟩
    ·
      replace c15 := ti_eqN c15 rfl (show (1 : Int32).toInt = 1 from rfl)
      unfold f_isTaking_50
      unfold f_isTaking_51
      refine ok_chk (by decide) ?_
      exact ok_ret ⟨rfl, (show (0 : Int) ≤ (0 : Int32).toInt ∧ (0 : Int32).toInt ≤ (1 : Int) from (by decide)), (by show ((0 : Int32).toInt = 1 ↔ tkg (mR A) (x1.toInt % 64) (x1.toInt / 64 % 64)); have g3 : x1.toInt / 64 % 64 = v3.toInt := (by omega); unfold tkg; rw [← t_v1, g3]; have z0 : (0 : Int32).toInt = 0 := rfl; have z1 : (1 : Int32).toInt = 1 := rfl; have z2 : (-1 : Int32).toInt = -1 := rfl; omega)⟩
  ·
    replace c13 := ti_eqN c13 rfl (show (0 : Int32).toInt = 0 from rfl)
    unfold f_isTaking_46
    unfold f_isTaking_51
    refine ok_chk (by decide) ?_
    exact ok_ret ⟨rfl, (show (0 : Int) ≤ (1 : Int32).toInt ∧ (1 : Int32).toInt ≤ (1 : Int) from (by decide)), (by show ((1 : Int32).toInt = 1 ↔ tkg (mR A) (x1.toInt % 64) (x1.toInt / 64 % 64)); have g3 : x1.toInt / 64 % 64 = v3.toInt := (by omega); unfold tkg; rw [← t_v1, g3]; have z0 : (0 : Int32).toInt = 0 := rfl; have z1 : (1 : Int32).toInt = 1 := rfl; have z2 : (-1 : Int32).toInt = -1 := rfl; omega)⟩
theorem x_isTaking  {I : Nat → Int32} {A : Nat → Nat → Int32} {x1 : Int32} (hI : TJ I) (hA : TK A) (r_x1 : (0 : Int) ≤ x1.toInt ∧ x1.toInt ≤ (24575 : Int)) (q0 : MBd (mR A)) : Ok (f_isTaking x1 I A) (fun o => o.2 = (I, A) ∧ ((0 : Int) ≤ o.1.toInt ∧ o.1.toInt ≤ (1 : Int)) ∧ ((o.1.toInt = 1 ↔ tkg (mR A) (x1.toInt % 64) (x1.toInt / 64 % 64)))) := x_isTaking_0  hI hA r_x1 q0
theorem x_isClear_5s {P : Prop} {I : Nat → Int32} {A : Nat → Nat → Int32} {self5 : Int32 → Int32 → Int32 → (Nat → Int32) → (Nat → Nat → Int32) → Option (Int32 × MS)} {N5 : Nat} (hself5 : ∀ (x2 : Int32) (x3 : Int32) (x4 : Int32),  ((0 : Int) ≤ x2.toInt ∧ x2.toInt ≤ (63 : Int)) → ((0 : Int) ≤ x3.toInt ∧ x3.toInt ≤ (1 : Int)) → ((0 : Int) ≤ x4.toInt ∧ x4.toInt ≤ (64 : Int)) → (P ↔ x3.toInt = 1 ∧ ∀ s, x4.toInt ≤ s → s ≤ x2.toInt → mR A s = 0) → (65 - x4.toInt) < (N5 : Int) → Ok (self5 x2 x3 x4 I A) (fun o => o.2 = (I, A) ∧ ((0 : Int) ≤ o.1.toInt ∧ o.1.toInt ≤ (1 : Int)) ∧ ((o.1.toInt = 1 ↔ P)))) {x2 : Int32} {x3 : Int32} {x4 : Int32} (hI : TJ I) (hA : TK A) (r_x2 : (0 : Int) ≤ x2.toInt ∧ x2.toInt ≤ (63 : Int)) (r_x3 : (0 : Int) ≤ x3.toInt ∧ x3.toInt ≤ (1 : Int)) (r_x4 : (0 : Int) ≤ x4.toInt ∧ x4.toInt ≤ (64 : Int)) (q0 : P ↔ x3.toInt = 1 ∧ ∀ s, x4.toInt ≤ s → s ≤ x2.toInt → mR A s = 0) (m5 : (65 - x4.toInt) ≤ (N5 : Int)) : Ok (f_isClear_5s self5 x2 x3 x4 I A) (fun o => o.2 = (I, A) ∧ ((0 : Int) ≤ o.1.toInt ∧ o.1.toInt ≤ (1 : Int)) ∧ ((o.1.toInt = 1 ↔ P))) := by
  unfold f_isClear_5s
  refine ok_if (fun c19 => ?_) (fun c19 => ?_)
  ·
    replace c19 := ti_ltP c19 rfl rfl
    refine ok_chk (nar_b (by omega) (by omega)) ?_
    exact ok_ret ⟨rfl, (show (0 : Int) ≤ x3.toInt ∧ x3.toInt ≤ (1 : Int) from (by omega)), (by show ((x3 : Int32).toInt = 1 ↔ P); rw [q0]; exact ⟨fun h => ⟨h, fun s a b => by omega⟩, fun h => h.1⟩)⟩
  ·
    replace c19 := ti_ltN c19 rfl rfl
    refine ok_if (fun c20 => ?_) (fun c20 => ?_)
    ·
      replace c20 := ti_eqP c20 rfl (show (0 : Int32).toInt = 0 from rfl)
      unfold f_isClear_29
      unfold f_isClear_30
      refine ok_bnd (fun v1 e21 => ?_)
      have t_v1 : v1.toInt = x4.toInt + 1 := ti_add e21 rfl (show (1 : Int32).toInt = 1 from rfl) (by omega) (by omega)
      exact hself5 x2 (0 : Int32) v1 r_x2 (by decide) (by omega) (ic_s q0 t_v1 (by omega) (by have z0 : (0 : Int32).toInt = 0 := rfl; have z1 : (1 : Int32).toInt = 1 := rfl; have z2 : (-1 : Int32).toInt = -1 := rfl; omega)) (by omega)
    ·
      replace c20 := ti_eqN c20 rfl (show (0 : Int32).toInt = 0 from rfl)
      refine ok_chk (ti_in (by omega) (by omega)) ?_
      refine ok_bnd (fun v1 e22 => ?_)
      have u_v1 : v1.toInt = mR A x4.toInt := mR_at e22 (by omega) (by omega)
      refine ok_if (fun c23 => ?_) (fun c23 => ?_)
      ·
        replace c23 := ti_eqP c23 rfl (show (0 : Int32).toInt = 0 from rfl)
        unfold f_isClear_30
        refine ok_bnd (fun v1 e24 => ?_)
        have t_v1 : v1.toInt = x4.toInt + 1 := ti_add e24 rfl (show (1 : Int32).toInt = 1 from rfl) (by omega) (by omega)
        exact hself5 x2 (1 : Int32) v1 r_x2 (by decide) (by omega) (ic_s q0 t_v1 (by omega) (by have z0 : (0 : Int32).toInt = 0 := rfl; have z1 : (1 : Int32).toInt = 1 := rfl; have z2 : (-1 : Int32).toInt = -1 := rfl; omega)) (by omega)
      ·
        replace c23 := ti_eqN c23 rfl (show (0 : Int32).toInt = 0 from rfl)
        unfold f_isClear_29
        unfold f_isClear_30
        refine ok_bnd (fun v1 e25 => ?_)
        have t_v1 : v1.toInt = x4.toInt + 1 := ti_add e25 rfl (show (1 : Int32).toInt = 1 from rfl) (by omega) (by omega)
        exact hself5 x2 (0 : Int32) v1 r_x2 (by decide) (by omega) (ic_s q0 t_v1 (by omega) (by have z0 : (0 : Int32).toInt = 0 := rfl; have z1 : (1 : Int32).toInt = 1 := rfl; have z2 : (-1 : Int32).toInt = -1 := rfl; omega)) (by omega)
theorem x_isClear_5 {P : Prop} {I : Nat → Int32} {A : Nat → Nat → Int32} (hI : TJ I) (hA : TK A) : ∀ (n : Nat) (x2 : Int32) (x3 : Int32) (x4 : Int32),  ((0 : Int) ≤ x2.toInt ∧ x2.toInt ≤ (63 : Int)) → ((0 : Int) ≤ x3.toInt ∧ x3.toInt ≤ (1 : Int)) → ((0 : Int) ≤ x4.toInt ∧ x4.toInt ≤ (64 : Int)) → (P ↔ x3.toInt = 1 ∧ ∀ s, x4.toInt ≤ s → s ≤ x2.toInt → mR A s = 0) → (65 - x4.toInt) < (n : Int) → Ok (f_isClear_5  n x2 x3 x4 I A) (fun o => o.2 = (I, A) ∧ ((0 : Int) ≤ o.1.toInt ∧ o.1.toInt ≤ (1 : Int)) ∧ ((o.1.toInt = 1 ↔ P))) := by
  intro n
  induction n with
  | zero => intro x2 x3 x4 g0 g1 g2 g3  hm; exfalso; omega
  | succ n ih =>
    intro x2 x3 x4 g0 g1 g2 g3  hm
    exact x_isClear_5s (P := P)  (N5 := n)  ih hI hA g0 g1 g2 g3  (by omega)
theorem x_isClear_0 {P : Prop} {I : Nat → Int32} {A : Nat → Nat → Int32} {x1 : Int32} {x2 : Int32} (hI : TJ I) (hA : TK A) (r_x1 : (0 : Int) ≤ x1.toInt ∧ x1.toInt ≤ (63 : Int)) (r_x2 : (0 : Int) ≤ x2.toInt ∧ x2.toInt ≤ (63 : Int)) (q0 : P ↔ ∀ s, x1.toInt ≤ s → s ≤ x2.toInt → mR A s = 0) : Ok (f_isClear_0 x1 x2 I A) (fun o => o.2 = (I, A) ∧ ((0 : Int) ≤ o.1.toInt ∧ o.1.toInt ≤ (1 : Int)) ∧ ((o.1.toInt = 1 ↔ P))) := by
  unfold f_isClear_0
  exact x_isClear_5 (P := P)   hI hA mFuel x2 (1 : Int32) x1  r_x2 (by decide) (by omega) (by rw [q0]; exact ⟨fun h => ⟨rfl, h⟩, fun h => h.2⟩) (by show _ < ((200000 : Nat) : Int); have z0 : (1 : Int32).toInt = 1 := rfl; omega)
theorem x_isClear {P : Prop} {I : Nat → Int32} {A : Nat → Nat → Int32} {x1 : Int32} {x2 : Int32} (hI : TJ I) (hA : TK A) (r_x1 : (0 : Int) ≤ x1.toInt ∧ x1.toInt ≤ (63 : Int)) (r_x2 : (0 : Int) ≤ x2.toInt ∧ x2.toInt ≤ (63 : Int)) (q0 : P ↔ ∀ s, x1.toInt ≤ s → s ≤ x2.toInt → mR A s = 0) : Ok (f_isClear x1 x2 I A) (fun o => o.2 = (I, A) ∧ ((0 : Int) ≤ o.1.toInt ∧ o.1.toInt ≤ (1 : Int)) ∧ ((o.1.toInt = 1 ↔ P))) := x_isClear_0 (P := P) hI hA r_x1 r_x2 q0
theorem x_mayCastle_82 {P : Prop} {I : Nat → Int32} {A : Nat → Nat → Int32} {x1 : Int32} {x2 : Int32} {x4 : Int32} {t0 : Int32} (hI : TJ I) (hA : TK A) (r_x1 : (0 : Int) ≤ x1.toInt ∧ x1.toInt ≤ (63 : Int)) (r_x2 : (4 : Int) ≤ x2.toInt ∧ x2.toInt ≤ (60 : Int)) (r_x4 : (0 : Int) ≤ x4.toInt ∧ x4.toInt ≤ (1 : Int)) (r_t0 : (0 : Int) ≤ t0.toInt ∧ t0.toInt ≤ (1 : Int)) (q0 : MBd (mR A)) (q1 : 0 ≤ (I 26).toInt ∧ (I 26).toInt ≤ 15) (q2 : P ↔ (x4.toInt = 1 ∧ t0.toInt = 1) ∧ ¬ attd (mR A) x2.toInt (1 - (I 25).toInt) ∧ ¬ attd (mR A) ((x2.toInt + x1.toInt) / 2) (1 - (I 25).toInt)) (q3 : x2.toInt = 4 + 56 * (I 25).toInt ∧ (x1.toInt = x2.toInt + 2 ∨ x1.toInt = x2.toInt - 2)) : Ok (f_mayCastle_82 x1 x2 x4 t0 I A) (fun o => o.2 = (I, A) ∧ ((0 : Int) ≤ o.1.toInt ∧ o.1.toInt ≤ (1 : Int)) ∧ ((o.1.toInt = 1 ↔ P))) := by
  unfold f_mayCastle_82
  refine ok_if (fun c26 => ?_) (fun c26 => ?_)
  ·
    replace c26 := ti_eqP c26 rfl (show (0 : Int32).toInt = 0 from rfl)
    unfold f_mayCastle_130
    unfold f_mayCastle_131
    refine ok_chk (by decide) ?_
    exact ok_ret ⟨rfl, (show (0 : Int) ≤ (0 : Int32).toInt ∧ (0 : Int32).toInt ≤ (1 : Int) from (by decide)), (by show ((0 : Int32).toInt = 1 ↔ P); first | exact lf_ye q2 ⟨⟨by omega, by omega⟩, fun h => by have h1 := p_r2.2.2 (by rw [t_v1]; exact h); omega, fun h => by have h1 := p_r6.2.2 (by rw [t_v4, t_v3, t_v5]; exact h); omega⟩ | exact lf_no q2 (fun h => by omega) | exact lf_no q2 (fun h => h.2.1 (by have h1 := p_r2.2.1 (by omega); rw [t_v1] at h1; exact h1)) | exact lf_no q2 (fun h => h.2.2 (by have h1 := p_r6.2.1 (by omega); rw [t_v4, t_v3, t_v5] at h1; exact h1)))⟩
  ·
    replace c26 := ti_eqN c26 rfl (show (0 : Int32).toInt = 0 from rfl)
    refine ok_if (fun c27 => ?_) (fun c27 => ?_)
    ·
      replace c27 := ti_eqP c27 rfl (show (0 : Int32).toInt = 0 from rfl)
      unfold f_mayCastle_130
      unfold f_mayCastle_131
      refine ok_chk (by decide) ?_
      exact ok_ret ⟨rfl, (show (0 : Int) ≤ (0 : Int32).toInt ∧ (0 : Int32).toInt ≤ (1 : Int) from (by decide)), (by show ((0 : Int32).toInt = 1 ↔ P); first | exact lf_ye q2 ⟨⟨by omega, by omega⟩, fun h => by have h1 := p_r2.2.2 (by rw [t_v1]; exact h); omega, fun h => by have h1 := p_r6.2.2 (by rw [t_v4, t_v3, t_v5]; exact h); omega⟩ | exact lf_no q2 (fun h => by omega) | exact lf_no q2 (fun h => h.2.1 (by have h1 := p_r2.2.1 (by omega); rw [t_v1] at h1; exact h1)) | exact lf_no q2 (fun h => h.2.2 (by have h1 := p_r6.2.1 (by omega); rw [t_v4, t_v3, t_v5] at h1; exact h1)))⟩
    ·
      replace c27 := ti_eqN c27 rfl (show (0 : Int32).toInt = 0 from rfl)
      refine ok_bnd (fun v1 e28 => ?_)
      have b_I_25 := tI_25 hI
      have t_v1 : v1.toInt = 1 - (I 25).toInt := ti_sub e28 (show (1 : Int32).toInt = 1 from rfl) rfl (by omega) (by omega)
      obtain ⟨r2, h_r2, p_r2⟩ := ro (y_isAttacked (x1 := x2) (x2 := v1)  hI hA (by omega) (by omega) q0)
      refine ok_clR h_r2 ?_
      dsimp only at p_r2
      refine ok_if (fun c29 => ?_) (fun c29 => ?_)
      ·
        replace c29 := ti_eqP c29 rfl (show (0 : Int32).toInt = 0 from rfl)
        refine ok_bnd (fun v3 e30 => ?_)
        have t_v3 : v3.toInt = x2.toInt + x1.toInt := ti_add e30 rfl rfl (by omega) (by omega)
        refine ok_bnd (fun v4 e31 => ?_)
        have t_v4 : v4.toInt = v3.toInt / 2 := ti_div e31 rfl (show (2 : Int32).toInt = 2 from rfl) (by omega) (by decide)
        refine ok_bnd (fun v5 e32 => ?_)
        have t_v5 : v5.toInt = 1 - (I 25).toInt := ti_sub e32 (show (1 : Int32).toInt = 1 from rfl) rfl (by omega) (by omega)
        obtain ⟨r6, h_r6, p_r6⟩ := ro (y_isAttacked (x1 := v4) (x2 := v5)  hI hA (by omega) (by omega) q0)
        refine ok_clR h_r6 ?_
        dsimp only at p_r6
        refine ok_if (fun c33 => ?_) (fun c33 => ?_)
        ·
          replace c33 := ti_eqP c33 rfl (show (0 : Int32).toInt = 0 from rfl)
          unfold f_mayCastle_131
          refine ok_chk (by decide) ?_
          exact ok_ret ⟨rfl, (show (0 : Int) ≤ (1 : Int32).toInt ∧ (1 : Int32).toInt ≤ (1 : Int) from (by decide)), (by show ((1 : Int32).toInt = 1 ↔ P); first | exact lf_ye q2 ⟨⟨by omega, by omega⟩, fun h => by have h1 := p_r2.2.2 (by rw [t_v1]; exact h); omega, fun h => by have h1 := p_r6.2.2 (by rw [t_v4, t_v3, t_v5]; exact h); omega⟩ | exact lf_no q2 (fun h => by omega) | exact lf_no q2 (fun h => h.2.1 (by have h1 := p_r2.2.1 (by omega); rw [t_v1] at h1; exact h1)) | exact lf_no q2 (fun h => h.2.2 (by have h1 := p_r6.2.1 (by omega); rw [t_v4, t_v3, t_v5] at h1; exact h1)))⟩
        ·
          replace c33 := ti_eqN c33 rfl (show (0 : Int32).toInt = 0 from rfl)
          unfold f_mayCastle_130
          unfold f_mayCastle_131
          refine ok_chk (by decide) ?_
          exact ok_ret ⟨rfl, (show (0 : Int) ≤ (0 : Int32).toInt ∧ (0 : Int32).toInt ≤ (1 : Int) from (by decide)), (by show ((0 : Int32).toInt = 1 ↔ P); first | exact lf_ye q2 ⟨⟨by omega, by omega⟩, fun h => by have h1 := p_r2.2.2 (by rw [t_v1]; exact h); omega, fun h => by have h1 := p_r6.2.2 (by rw [t_v4, t_v3, t_v5]; exact h); omega⟩ | exact lf_no q2 (fun h => by omega) | exact lf_no q2 (fun h => h.2.1 (by have h1 := p_r2.2.1 (by omega); rw [t_v1] at h1; exact h1)) | exact lf_no q2 (fun h => h.2.2 (by have h1 := p_r6.2.1 (by omega); rw [t_v4, t_v3, t_v5] at h1; exact h1)))⟩
      ·
        replace c29 := ti_eqN c29 rfl (show (0 : Int32).toInt = 0 from rfl)
        unfold f_mayCastle_130
        unfold f_mayCastle_131
        refine ok_chk (by decide) ?_
        exact ok_ret ⟨rfl, (show (0 : Int) ≤ (0 : Int32).toInt ∧ (0 : Int32).toInt ≤ (1 : Int) from (by decide)), (by show ((0 : Int32).toInt = 1 ↔ P); first | exact lf_ye q2 ⟨⟨by omega, by omega⟩, fun h => by have h1 := p_r2.2.2 (by rw [t_v1]; exact h); omega, fun h => by have h1 := p_r6.2.2 (by rw [t_v4, t_v3, t_v5]; exact h); omega⟩ | exact lf_no q2 (fun h => by omega) | exact lf_no q2 (fun h => h.2.1 (by have h1 := p_r2.2.1 (by omega); rw [t_v1] at h1; exact h1)) | exact lf_no q2 (fun h => h.2.2 (by have h1 := p_r6.2.1 (by omega); rw [t_v4, t_v3, t_v5] at h1; exact h1)))⟩
theorem x_mayCastle_53 {P : Prop} {I : Nat → Int32} {A : Nat → Nat → Int32} {x1 : Int32} {x2 : Int32} {x3 : Int32} {t0 : Int32} (hI : TJ I) (hA : TK A) (r_x1 : (0 : Int) ≤ x1.toInt ∧ x1.toInt ≤ (63 : Int)) (r_x2 : (4 : Int) ≤ x2.toInt ∧ x2.toInt ≤ (60 : Int)) (r_x3 : (0 : Int) ≤ x3.toInt ∧ x3.toInt ≤ (1 : Int)) (r_t0 : (0 : Int) ≤ t0.toInt ∧ t0.toInt ≤ (1 : Int)) (q0 : MBd (mR A)) (q1 : 0 ≤ (I 26).toInt ∧ (I 26).toInt ≤ 15) (q2 : P ↔ mcS (mR A) (I 25).toInt (I 26).toInt x2.toInt x1.toInt) (q3 : x2.toInt = 4 + 56 * (I 25).toInt ∧ ((x3.toInt = 1 ∧ x1.toInt = x2.toInt + 2) ∨ (x3.toInt = 0 ∧ x1.toInt = x2.toInt - 2))) (q4 : t0.toInt = 1 ↔ rb (I 26).toInt (2 * (I 25).toInt + 1 - x3.toInt)) : Ok (f_mayCastle_53 x1 x2 x3 t0 I A) (fun o => o.2 = (I, A) ∧ ((0 : Int) ≤ o.1.toInt ∧ o.1.toInt ≤ (1 : Int)) ∧ ((o.1.toInt = 1 ↔ P))) := by
  unfold f_mayCastle_53
  refine ok_if (fun c34 => ?_) (fun c34 => ?_)
  ·
    replace c34 := ti_eqP c34 rfl (show (0 : Int32).toInt = 0 from rfl)
    refine ok_bnd (fun v1 e35 => ?_)
    have t_v1 : v1.toInt = x2.toInt - 3 := ti_sub e35 rfl (show (3 : Int32).toInt = 3 from rfl) (by omega) (by omega)
    refine ok_bnd (fun v2 e36 => ?_)
    have t_v2 : v2.toInt = x2.toInt - 1 := ti_sub e36 rfl (show (1 : Int32).toInt = 1 from rfl) (by omega) (by omega)
    obtain ⟨r3, h_r3, p_r3⟩ := ro (x_isClear (x1 := v1) (x2 := v2) (P := ∀ s, v1.toInt ≤ s → s ≤ v2.toInt → mR A s = 0) hI hA (by omega) (by omega) Iff.rfl)
    refine ok_clR h_r3 ?_
    dsimp only at p_r3
    have b_I_25 := tI_25 hI
    exact x_mayCastle_82 (P := P)   (x1 := x1) (x2 := x2) (x4 := t0) (t0 := r3) hI hA r_x1 r_x2 r_t0 (by omega) q0 q1 (mc_82 (n := x3.toInt) q2 q3.1 (by omega) q4 (by rw [p_r3.2, if_neg (by omega), if_neg (by omega), t_v1, t_v2])) (by omega)
  ·
    replace c34 := ti_eqN c34 rfl (show (0 : Int32).toInt = 0 from rfl)
    refine ok_bnd (fun v4 e37 => ?_)
    have t_v4 : v4.toInt = x2.toInt + 1 := ti_add e37 rfl (show (1 : Int32).toInt = 1 from rfl) (by omega) (by omega)
    refine ok_bnd (fun v5 e38 => ?_)
    have t_v5 : v5.toInt = x2.toInt + 2 := ti_add e38 rfl (show (2 : Int32).toInt = 2 from rfl) (by omega) (by omega)
    obtain ⟨r6, h_r6, p_r6⟩ := ro (x_isClear (x1 := v4) (x2 := v5) (P := ∀ s, v4.toInt ≤ s → s ≤ v5.toInt → mR A s = 0) hI hA (by omega) (by omega) Iff.rfl)
    refine ok_clR h_r6 ?_
    dsimp only at p_r6
    have b_I_25 := tI_25 hI
    exact x_mayCastle_82 (P := P)   (x1 := x1) (x2 := x2) (x4 := t0) (t0 := r6) hI hA r_x1 r_x2 r_t0 (by omega) q0 q1 (mc_82 (n := x3.toInt) q2 q3.1 (by omega) q4 (by rw [p_r6.2, if_pos (by omega), if_pos (by omega), t_v4, t_v5])) (by omega)
theorem x_mayCastle_40 {P : Prop} {I : Nat → Int32} {A : Nat → Nat → Int32} {x1 : Int32} {x2 : Int32} {x3 : Int32} {t0 : Int32} {t1 : Int32} {t2 : Int32} (hI : TJ I) (hA : TK A) (r_x1 : (0 : Int) ≤ x1.toInt ∧ x1.toInt ≤ (63 : Int)) (r_x2 : (4 : Int) ≤ x2.toInt ∧ x2.toInt ≤ (60 : Int)) (r_x3 : (0 : Int) ≤ x3.toInt ∧ x3.toInt ≤ (1 : Int)) (r_t0 : (0 : Int) ≤ t0.toInt ∧ t0.toInt ≤ (1 : Int)) (r_t1 : (0 : Int) ≤ t1.toInt ∧ t1.toInt ≤ (2 : Int)) (q0 : MBd (mR A)) (q1 : 0 ≤ (I 26).toInt ∧ (I 26).toInt ≤ 15) (q2 : P ↔ mcS (mR A) (I 25).toInt (I 26).toInt x2.toInt x1.toInt) (q3 : x2.toInt = 4 + 56 * (I 25).toInt ∧ ((x3.toInt = 1 ∧ x1.toInt = x2.toInt + 2) ∨ (x3.toInt = 0 ∧ x1.toInt = x2.toInt - 2))) (q4 : t1.toInt = 2 * (I 25).toInt ∧ t0.toInt = 1 - x3.toInt ∧ t2.toInt = (I 26).toInt) : Ok (f_mayCastle_40 x1 x2 x3 t0 t1 t2 I A) (fun o => o.2 = (I, A) ∧ ((0 : Int) ≤ o.1.toInt ∧ o.1.toInt ≤ (1 : Int)) ∧ ((o.1.toInt = 1 ↔ P))) := by
  unfold f_mayCastle_40
  refine ok_bnd (fun v1 e39 => ?_)
  have t_v1 : v1.toInt = t1.toInt + t0.toInt := ti_add e39 rfl rfl (by omega) (by omega)
  refine ok_bnd (fun v2 e40 => ?_)
  refine ok_bnd (fun v3 e41 => ?_)
  have t_v3 := ti_and e41 (show (1 : Int32).toBitVec.toNat = 1 from rfl) (by decide)
  refine ok_if (fun c42 => ?_) (fun c42 => ?_)
  ·
    replace c42 := ti_eqP c42 rfl (show (1 : Int32).toInt = 1 from rfl)
    have b_I_25 := tI_25 hI
    exact x_mayCastle_53 (P := P)   (x1 := x1) (x2 := x2) (x3 := x3) (t0 := (1 : Int32)) hI hA r_x1 r_x2 r_x3 (by decide) q0 q1 q2 q3 (by have zz := sh_rb (i := v1) e40 e41 (by omega) (by omega); rw [show t2.toInt = (I 26).toInt by omega, show v1.toInt = 2 * (I 25).toInt + 1 - x3.toInt by omega] at zz; rw [← zz]; have z0 : (0 : Int32).toInt = 0 := rfl; have z1 : (1 : Int32).toInt = 1 := rfl; have z2 : (-1 : Int32).toInt = -1 := rfl; omega)
  ·
    replace c42 := ti_eqN c42 rfl (show (1 : Int32).toInt = 1 from rfl)
    have b_I_25 := tI_25 hI
    exact x_mayCastle_53 (P := P)   (x1 := x1) (x2 := x2) (x3 := x3) (t0 := (0 : Int32)) hI hA r_x1 r_x2 r_x3 (by decide) q0 q1 q2 q3 (by have zz := sh_rb (i := v1) e40 e41 (by omega) (by omega); rw [show t2.toInt = (I 26).toInt by omega, show v1.toInt = 2 * (I 25).toInt + 1 - x3.toInt by omega] at zz; rw [← zz]; have z0 : (0 : Int32).toInt = 0 := rfl; have z1 : (1 : Int32).toInt = 1 := rfl; have z2 : (-1 : Int32).toInt = -1 := rfl; omega)
theorem x_mayCastle_20 {P : Prop} {I : Nat → Int32} {A : Nat → Nat → Int32} {x1 : Int32} {x2 : Int32} {t0 : Int32} (hI : TJ I) (hA : TK A) (r_x1 : (0 : Int) ≤ x1.toInt ∧ x1.toInt ≤ (63 : Int)) (r_x2 : (4 : Int) ≤ x2.toInt ∧ x2.toInt ≤ (60 : Int)) (r_t0 : (0 : Int) ≤ t0.toInt ∧ t0.toInt ≤ (1 : Int)) (q0 : MBd (mR A)) (q1 : 0 ≤ (I 26).toInt ∧ (I 26).toInt ≤ 15) (q2 : P ↔ mcS (mR A) (I 25).toInt (I 26).toInt x2.toInt x1.toInt) (q3 : x2.toInt = 4 + 56 * (I 25).toInt ∧ ((t0.toInt = 1 ∧ x1.toInt = x2.toInt + 2) ∨ (t0.toInt = 0 ∧ x1.toInt = x2.toInt - 2))) : Ok (f_mayCastle_20 x1 x2 t0 I A) (fun o => o.2 = (I, A) ∧ ((0 : Int) ≤ o.1.toInt ∧ o.1.toInt ≤ (1 : Int)) ∧ ((o.1.toInt = 1 ↔ P))) := by
  unfold f_mayCastle_20
  refine ok_bnd (fun v1 e43 => ?_)
  have b_I_25 := tI_25 hI
  have t_v1 : v1.toInt = 2 * (I 25).toInt := ti_mul e43 (show (2 : Int32).toInt = 2 from rfl) rfl (by omega) (by omega)
  refine ok_if (fun c44 => ?_) (fun c44 => ?_)
  ·
    replace c44 := ti_eqP c44 rfl (show (0 : Int32).toInt = 0 from rfl)
    exact x_mayCastle_40 (P := P)   (x1 := x1) (x2 := x2) (x3 := t0) (t0 := (1 : Int32)) (t1 := v1) (t2 := (I 26)) hI hA r_x1 r_x2 r_t0 (by decide) (by omega) q0 q1 q2 q3 (by have z0 : (1 : Int32).toInt = 1 := rfl; omega)
  ·
    replace c44 := ti_eqN c44 rfl (show (0 : Int32).toInt = 0 from rfl)
    exact x_mayCastle_40 (P := P)   (x1 := x1) (x2 := x2) (x3 := t0) (t0 := (0 : Int32)) (t1 := v1) (t2 := (I 26)) hI hA r_x1 r_x2 r_t0 (by decide) (by omega) q0 q1 q2 q3 (by have z0 : (0 : Int32).toInt = 0 := rfl; omega)
theorem x_mayCastle_0 {P : Prop} {I : Nat → Int32} {A : Nat → Nat → Int32} {x1 : Int32} (hI : TJ I) (hA : TK A) (r_x1 : (0 : Int) ≤ x1.toInt ∧ x1.toInt ≤ (63 : Int)) (q0 : P ↔ mcS (mR A) (I 25).toInt (I 26).toInt (4 + 56 * (I 25).toInt) x1.toInt) (q1 : x1.toInt = 4 + 56 * (I 25).toInt + 2 ∨ x1.toInt = 4 + 56 * (I 25).toInt - 2) (q2 : MBd (mR A)) (q3 : 0 ≤ (I 26).toInt ∧ (I 26).toInt ≤ 15) : Ok (f_mayCastle_0 x1 I A) (fun o => o.2 = (I, A) ∧ ((0 : Int) ≤ o.1.toInt ∧ o.1.toInt ≤ (1 : Int)) ∧ ((o.1.toInt = 1 ↔ P))) := by
  unfold f_mayCastle_0
  refine ok_bnd (fun v1 e45 => ?_)
  have b_I_25 := tI_25 hI
  have t_v1 : v1.toInt = 56 * (I 25).toInt := ti_mul e45 (show (56 : Int32).toInt = 56 from rfl) rfl (by omega) (by omega)
  refine ok_bnd (fun v2 e46 => ?_)
  have t_v2 : v2.toInt = 4 + v1.toInt := ti_add e46 (show (4 : Int32).toInt = 4 from rfl) rfl (by omega) (by omega)
  refine ok_if (fun c47 => ?_) (fun c47 => ?_)
  ·
    replace c47 := ti_leP c47 rfl rfl
    exact x_mayCastle_20 (P := P)   (x1 := x1) (x2 := v2) (t0 := (0 : Int32)) hI hA r_x1 (by omega) (by decide) q2 q3 (by rw [show v2.toInt = 4 + 56 * (I 25).toInt by omega]; exact q0) (by have z0 : (0 : Int32).toInt = 0 := rfl; omega)
  ·
    replace c47 := ti_leN c47 rfl rfl
    exact x_mayCastle_20 (P := P)   (x1 := x1) (x2 := v2) (t0 := (1 : Int32)) hI hA r_x1 (by omega) (by decide) q2 q3 (by rw [show v2.toInt = 4 + 56 * (I 25).toInt by omega]; exact q0) (by have z0 : (1 : Int32).toInt = 1 := rfl; omega)
theorem x_mayCastle {P : Prop} {I : Nat → Int32} {A : Nat → Nat → Int32} {x1 : Int32} (hI : TJ I) (hA : TK A) (r_x1 : (0 : Int) ≤ x1.toInt ∧ x1.toInt ≤ (63 : Int)) (q0 : P ↔ mcS (mR A) (I 25).toInt (I 26).toInt (4 + 56 * (I 25).toInt) x1.toInt) (q1 : x1.toInt = 4 + 56 * (I 25).toInt + 2 ∨ x1.toInt = 4 + 56 * (I 25).toInt - 2) (q2 : MBd (mR A)) (q3 : 0 ≤ (I 26).toInt ∧ (I 26).toInt ≤ 15) : Ok (f_mayCastle x1 I A) (fun o => o.2 = (I, A) ∧ ((0 : Int) ≤ o.1.toInt ∧ o.1.toInt ≤ (1 : Int)) ∧ ((o.1.toInt = 1 ↔ P))) := x_mayCastle_0 (P := P) hI hA r_x1 q0 q1 q2 q3
theorem x_pawnGoes_63  {I : Nat → Int32} {A : Nat → Nat → Int32} {x1 : Int32} {x2 : Int32} {x3 : Int32} {t0 : Int32} {t1 : Int32} (hI : TJ I) (hA : TK A) (r_x1 : (0 : Int) ≤ x1.toInt ∧ x1.toInt ≤ (63 : Int)) (r_x2 : (0 : Int) ≤ x2.toInt ∧ x2.toInt ≤ (63 : Int)) (r_x3 : (-8 : Int) ≤ x3.toInt ∧ x3.toInt ≤ (8 : Int)) (r_t0 : (1 : Int) ≤ t0.toInt ∧ t0.toInt ≤ (6 : Int)) (q0 : MBd (mR A)) (q1 : x2.toInt = x1.toInt + 2 * x3.toInt ∧ t1.toInt = x1.toInt / 8 ∧ ((x3.toInt = 8 ∧ t0.toInt = 1 ∧ (I 25).toInt = 0) ∨ (x3.toInt = -8 ∧ t0.toInt = 6 ∧ (I 25).toInt = 1))) : Ok (f_pawnGoes_63 x1 x2 x3 t0 t1 I A) (fun o => o.2 = (I, A) ∧ ((0 : Int) ≤ o.1.toInt ∧ o.1.toInt ≤ (1 : Int)) ∧ ((o.1.toInt = 1 ↔ pwn (mR A) (I 25).toInt (I 27).toInt x1.toInt x2.toInt))) := by
  unfold f_pawnGoes_63
  refine ok_if (fun c48 => ?_) (fun c48 => ?_)
  ·
    replace c48 := ti_eqP c48 rfl rfl
    refine ok_bnd (fun v1 e49 => ?_)
    have t_v1 : v1.toInt = x1.toInt + x3.toInt := ti_add e49 rfl rfl (by omega) (by omega)
    have a1 : x1.toInt + (8 - 16 * (I 25).toInt) = v1.toInt := by omega
    refine ok_chk (ti_in (by omega) (by omega)) ?_
    refine ok_bnd (fun v2 e50 => ?_)
    have u_v2 : v2.toInt = mR A v1.toInt := mR_at e50 (by omega) (by omega)
    have w_v2 := q0 (v1.toInt)
    refine ok_if (fun c51 => ?_) (fun c51 => ?_)
    ·
      replace c51 := ti_eqP c51 rfl (show (0 : Int32).toInt = 0 from rfl)
      refine ok_chk (ti_in (by omega) (by omega)) ?_
      refine ok_bnd (fun v3 e52 => ?_)
      have u_v3 : v3.toInt = mR A x2.toInt := mR_at e52 (by omega) (by omega)
      have w_v3 := q0 (x2.toInt)
      refine ok_if (fun c53 => ?_) (fun c53 => ?_)
      ·
        replace c53 := ti_eqP c53 rfl (show (0 : Int32).toInt = 0 from rfl)
        unfold f_pawnGoes_91
        refine ok_chk (by decide) ?_
        exact ok_ret ⟨rfl, (show (0 : Int) ≤ (1 : Int32).toInt ∧ (1 : Int32).toInt ≤ (1 : Int) from (by decide)), (by show ((1 : Int32).toInt = 1 ↔ pwn (mR A) (I 25).toInt (I 27).toInt x1.toInt x2.toInt); have b25 := tI_25 hI; have z0 : (0 : Int32).toInt = 0 := rfl; have z1 : (1 : Int32).toInt = 1 := rfl; have z2 : (-1 : Int32).toInt = -1 := rfl; first | (unfold pwn; rw [a1]; omega) | (unfold pwn; omega))⟩
      ·
        replace c53 := ti_eqN c53 rfl (show (0 : Int32).toInt = 0 from rfl)
        unfold f_pawnGoes_90
        unfold f_pawnGoes_91
        refine ok_chk (by decide) ?_
        exact ok_ret ⟨rfl, (show (0 : Int) ≤ (0 : Int32).toInt ∧ (0 : Int32).toInt ≤ (1 : Int) from (by decide)), (by show ((0 : Int32).toInt = 1 ↔ pwn (mR A) (I 25).toInt (I 27).toInt x1.toInt x2.toInt); have b25 := tI_25 hI; have z0 : (0 : Int32).toInt = 0 := rfl; have z1 : (1 : Int32).toInt = 1 := rfl; have z2 : (-1 : Int32).toInt = -1 := rfl; first | (unfold pwn; rw [a1]; omega) | (unfold pwn; omega))⟩
    ·
      replace c51 := ti_eqN c51 rfl (show (0 : Int32).toInt = 0 from rfl)
      unfold f_pawnGoes_90
      unfold f_pawnGoes_91
      refine ok_chk (by decide) ?_
      exact ok_ret ⟨rfl, (show (0 : Int) ≤ (0 : Int32).toInt ∧ (0 : Int32).toInt ≤ (1 : Int) from (by decide)), (by show ((0 : Int32).toInt = 1 ↔ pwn (mR A) (I 25).toInt (I 27).toInt x1.toInt x2.toInt); have b25 := tI_25 hI; have z0 : (0 : Int32).toInt = 0 := rfl; have z1 : (1 : Int32).toInt = 1 := rfl; have z2 : (-1 : Int32).toInt = -1 := rfl; first | (unfold pwn; rw [a1]; omega) | (unfold pwn; omega))⟩
  ·
    replace c48 := ti_eqN c48 rfl rfl
    unfold f_pawnGoes_90
    unfold f_pawnGoes_91
    refine ok_chk (by decide) ?_
    exact ok_ret ⟨rfl, (show (0 : Int) ≤ (0 : Int32).toInt ∧ (0 : Int32).toInt ≤ (1 : Int) from (by decide)), (by show ((0 : Int32).toInt = 1 ↔ pwn (mR A) (I 25).toInt (I 27).toInt x1.toInt x2.toInt); have b25 := tI_25 hI; have z0 : (0 : Int32).toInt = 0 := rfl; have z1 : (1 : Int32).toInt = 1 := rfl; have z2 : (-1 : Int32).toInt = -1 := rfl; first | (unfold pwn; rw [a1]; omega) | (unfold pwn; omega))⟩
theorem x_pawnGoes_14  {I : Nat → Int32} {A : Nat → Nat → Int32} {x1 : Int32} {x2 : Int32} {t0 : Int32} (hI : TJ I) (hA : TK A) (r_x1 : (0 : Int) ≤ x1.toInt ∧ x1.toInt ≤ (63 : Int)) (r_x2 : (0 : Int) ≤ x2.toInt ∧ x2.toInt ≤ (63 : Int)) (r_t0 : (-8 : Int) ≤ t0.toInt ∧ t0.toInt ≤ (8 : Int)) (q0 : MBd (mR A)) (q1 : (t0.toInt = 8 ∧ (I 25).toInt = 0) ∨ (t0.toInt = -8 ∧ (I 25).toInt ≠ 0)) : Ok (f_pawnGoes_14 x1 x2 t0 I A) (fun o => o.2 = (I, A) ∧ ((0 : Int) ≤ o.1.toInt ∧ o.1.toInt ≤ (1 : Int)) ∧ ((o.1.toInt = 1 ↔ pwn (mR A) (I 25).toInt (I 27).toInt x1.toInt x2.toInt))) := by
  unfold f_pawnGoes_14
  refine ok_bnd (fun v1 e54 => ?_)
  have t_v1 : v1.toInt = x1.toInt + t0.toInt := ti_add e54 rfl rfl (by omega) (by omega)
  refine ok_if (fun c55 => ?_) (fun c55 => ?_)
  ·
    replace c55 := ti_eqP c55 rfl rfl
    refine ok_chk (ti_in (by omega) (by omega)) ?_
    refine ok_bnd (fun v12 e56 => ?_)
    have u_v12 : v12.toInt = mR A x2.toInt := mR_at e56 (by omega) (by omega)
    have w_v12 := q0 (x2.toInt)
    refine ok_if (fun c57 => ?_) (fun c57 => ?_)
    ·
      replace c57 := ti_eqP c57 rfl (show (0 : Int32).toInt = 0 from rfl)
      unfold f_pawnGoes_36
      refine ok_chk (by decide) ?_
      exact ok_ret ⟨rfl, (show (0 : Int) ≤ (1 : Int32).toInt ∧ (1 : Int32).toInt ≤ (1 : Int) from (by decide)), (by show ((1 : Int32).toInt = 1 ↔ pwn (mR A) (I 25).toInt (I 27).toInt x1.toInt x2.toInt); have b25 := tI_25 hI; unfold pwn; have z0 : (0 : Int32).toInt = 0 := rfl; have z1 : (1 : Int32).toInt = 1 := rfl; have z2 : (-1 : Int32).toInt = -1 := rfl; omega)⟩
    ·
      replace c57 := ti_eqN c57 rfl (show (0 : Int32).toInt = 0 from rfl)
      unfold f_pawnGoes_36
      refine ok_chk (by decide) ?_
      exact ok_ret ⟨rfl, (show (0 : Int) ≤ (0 : Int32).toInt ∧ (0 : Int32).toInt ≤ (1 : Int) from (by decide)), (by show ((0 : Int32).toInt = 1 ↔ pwn (mR A) (I 25).toInt (I 27).toInt x1.toInt x2.toInt); have b25 := tI_25 hI; unfold pwn; have z0 : (0 : Int32).toInt = 0 := rfl; have z1 : (1 : Int32).toInt = 1 := rfl; have z2 : (-1 : Int32).toInt = -1 := rfl; omega)⟩
  ·
    replace c55 := ti_eqN c55 rfl rfl
    refine ok_bnd (fun v2 e58 => ?_)
    have t_v2 : v2.toInt = 2 * t0.toInt := ti_mul e58 (show (2 : Int32).toInt = 2 from rfl) rfl (by omega) (by omega)
    refine ok_bnd (fun v3 e59 => ?_)
    have t_v3 : v3.toInt = x1.toInt + v2.toInt := ti_add e59 rfl rfl (by omega) (by omega)
    refine ok_if (fun c60 => ?_) (fun c60 => ?_)
    ·
      replace c60 := ti_eqP c60 rfl rfl
      refine ok_bnd (fun v11 e61 => ?_)
      have t_v11 : v11.toInt = x1.toInt / 8 := ti_div e61 rfl (show (8 : Int32).toInt = 8 from rfl) (by omega) (by decide)
      have b_I_25 := tI_25 hI
      refine ok_if (fun c62 => ?_) (fun c62 => ?_)
      ·
        replace c62 := ti_eqP c62 rfl (show (0 : Int32).toInt = 0 from rfl)
        exact x_pawnGoes_63    (x1 := x1) (x2 := x2) (x3 := t0) (t0 := (1 : Int32)) (t1 := v11) hI hA r_x1 r_x2 r_t0 (by decide) q0 (by have z0 : (1 : Int32).toInt = 1 := rfl; omega)
      ·
        replace c62 := ti_eqN c62 rfl (show (0 : Int32).toInt = 0 from rfl)
        exact x_pawnGoes_63    (x1 := x1) (x2 := x2) (x3 := t0) (t0 := (6 : Int32)) (t1 := v11) hI hA r_x1 r_x2 r_t0 (by decide) q0 (by have z0 : (6 : Int32).toInt = 6 := rfl; omega)
    ·
      replace c60 := ti_eqN c60 rfl rfl
      refine ok_bnd (fun v4 e63 => ?_)
      have t_v4 : v4.toInt = x2.toInt % 8 := ti_rem e63 rfl (show (8 : Int32).toInt = 8 from rfl) (by omega) (by decide)
      refine ok_bnd (fun v5 e64 => ?_)
      have t_v5 : v5.toInt = x1.toInt % 8 := ti_rem e64 rfl (show (8 : Int32).toInt = 8 from rfl) (by omega) (by decide)
      refine ok_bnd (fun v6 e65 => ?_)
      have t_v6 : v6.toInt = v4.toInt - v5.toInt := ti_sub e65 rfl rfl (by omega) (by omega)
      refine ok_bnd (fun v7 e66 => ?_)
      have t_v7 : v7.toInt = x2.toInt / 8 := ti_div e66 rfl (show (8 : Int32).toInt = 8 from rfl) (by omega) (by decide)
      refine ok_bnd (fun v8 e67 => ?_)
      have t_v8 : v8.toInt = x1.toInt / 8 := ti_div e67 rfl (show (8 : Int32).toInt = 8 from rfl) (by omega) (by decide)
      refine ok_bnd (fun v9 e68 => ?_)
      have t_v9 := ti_div8 e68 (by omega)
      refine ok_bnd (fun v10 e69 => ?_)
      have t_v10 : v10.toInt = v8.toInt + v9.toInt := ti_add e69 rfl rfl (by omega) (by omega)
      refine ok_if (fun c70 => ?_) (fun c70 => ?_)
      ·
        replace c70 := ti_eqP c70 rfl rfl
        refine ok_if (fun c71 => ?_) (fun c71 => ?_)
        ·
          replace c71 := ti_eqP c71 rfl (show (1 : Int32).toInt = 1 from rfl)
          unfold f_pawnGoes_131
          refine ok_chk (ti_in (by omega) (by omega)) ?_
          refine ok_bnd (fun v1 e72 => ?_)
          have u_v1 : v1.toInt = mR A x2.toInt := mR_at e72 (by omega) (by omega)
          have w_v1 := q0 (x2.toInt)
          obtain ⟨r2, h_r2, p_r2⟩ := ro (x_sideOf (x0 := v1)  hI hA (by omega))
          refine ok_clR h_r2 ?_
          dsimp only at p_r2
          refine ok_bnd (fun v3 e73 => ?_)
          have b_I_25 := tI_25 hI
          have t_v3 : v3.toInt = 1 - (I 25).toInt := ti_sub e73 (show (1 : Int32).toInt = 1 from rfl) rfl (by omega) (by omega)
          refine ok_if (fun c74 => ?_) (fun c74 => ?_)
          ·
            replace c74 := ti_eqP c74 rfl rfl
            unfold f_pawnGoes_157
            unfold f_pawnGoes_162
            refine ok_chk (by decide) ?_
            exact ok_ret ⟨rfl, (show (0 : Int) ≤ (1 : Int32).toInt ∧ (1 : Int32).toInt ≤ (1 : Int) from (by decide)), (by show ((1 : Int32).toInt = 1 ↔ pwn (mR A) (I 25).toInt (I 27).toInt x1.toInt x2.toInt); have b25 := tI_25 hI; unfold pwn; have z0 : (0 : Int32).toInt = 0 := rfl; have z1 : (1 : Int32).toInt = 1 := rfl; have z2 : (-1 : Int32).toInt = -1 := rfl; omega)⟩
          ·
            replace c74 := ti_eqN c74 rfl rfl
            refine ok_if (fun c75 => ?_) (fun c75 => ?_)
            ·
              replace c75 := ti_eqP c75 rfl rfl
              unfold f_pawnGoes_157
              unfold f_pawnGoes_162
              refine ok_chk (by decide) ?_
              exact ok_ret ⟨rfl, (show (0 : Int) ≤ (1 : Int32).toInt ∧ (1 : Int32).toInt ≤ (1 : Int) from (by decide)), (by show ((1 : Int32).toInt = 1 ↔ pwn (mR A) (I 25).toInt (I 27).toInt x1.toInt x2.toInt); have b25 := tI_25 hI; unfold pwn; have z0 : (0 : Int32).toInt = 0 := rfl; have z1 : (1 : Int32).toInt = 1 := rfl; have z2 : (-1 : Int32).toInt = -1 := rfl; omega)⟩
            ·
              replace c75 := ti_eqN c75 rfl rfl
              unfold f_pawnGoes_161
              unfold f_pawnGoes_162
              refine ok_chk (by decide) ?_
              exact ok_ret ⟨rfl, (show (0 : Int) ≤ (0 : Int32).toInt ∧ (0 : Int32).toInt ≤ (1 : Int) from (by decide)), (by show ((0 : Int32).toInt = 1 ↔ pwn (mR A) (I 25).toInt (I 27).toInt x1.toInt x2.toInt); have b25 := tI_25 hI; unfold pwn; have z0 : (0 : Int32).toInt = 0 := rfl; have z1 : (1 : Int32).toInt = 1 := rfl; have z2 : (-1 : Int32).toInt = -1 := rfl; omega)⟩
        ·
          replace c71 := ti_eqN c71 rfl (show (1 : Int32).toInt = 1 from rfl)
          refine ok_if (fun c76 => ?_) (fun c76 => ?_)
          ·
            replace c76 := ti_eqP c76 rfl (show (-1 : Int32).toInt = -1 from rfl)
            unfold f_pawnGoes_131
            refine ok_chk (ti_in (by omega) (by omega)) ?_
            refine ok_bnd (fun v1 e77 => ?_)
            have u_v1 : v1.toInt = mR A x2.toInt := mR_at e77 (by omega) (by omega)
            have w_v1 := q0 (x2.toInt)
            obtain ⟨r2, h_r2, p_r2⟩ := ro (x_sideOf (x0 := v1)  hI hA (by omega))
            refine ok_clR h_r2 ?_
            dsimp only at p_r2
            refine ok_bnd (fun v3 e78 => ?_)
            have b_I_25 := tI_25 hI
            have t_v3 : v3.toInt = 1 - (I 25).toInt := ti_sub e78 (show (1 : Int32).toInt = 1 from rfl) rfl (by omega) (by omega)
            refine ok_if (fun c79 => ?_) (fun c79 => ?_)
            ·
              replace c79 := ti_eqP c79 rfl rfl
              unfold f_pawnGoes_157
              unfold f_pawnGoes_162
              refine ok_chk (by decide) ?_
              exact ok_ret ⟨rfl, (show (0 : Int) ≤ (1 : Int32).toInt ∧ (1 : Int32).toInt ≤ (1 : Int) from (by decide)), (by show ((1 : Int32).toInt = 1 ↔ pwn (mR A) (I 25).toInt (I 27).toInt x1.toInt x2.toInt); have b25 := tI_25 hI; unfold pwn; have z0 : (0 : Int32).toInt = 0 := rfl; have z1 : (1 : Int32).toInt = 1 := rfl; have z2 : (-1 : Int32).toInt = -1 := rfl; omega)⟩
            ·
              replace c79 := ti_eqN c79 rfl rfl
              refine ok_if (fun c80 => ?_) (fun c80 => ?_)
              ·
                replace c80 := ti_eqP c80 rfl rfl
                unfold f_pawnGoes_157
                unfold f_pawnGoes_162
                refine ok_chk (by decide) ?_
                exact ok_ret ⟨rfl, (show (0 : Int) ≤ (1 : Int32).toInt ∧ (1 : Int32).toInt ≤ (1 : Int) from (by decide)), (by show ((1 : Int32).toInt = 1 ↔ pwn (mR A) (I 25).toInt (I 27).toInt x1.toInt x2.toInt); have b25 := tI_25 hI; unfold pwn; have z0 : (0 : Int32).toInt = 0 := rfl; have z1 : (1 : Int32).toInt = 1 := rfl; have z2 : (-1 : Int32).toInt = -1 := rfl; omega)⟩
              ·
                replace c80 := ti_eqN c80 rfl rfl
                unfold f_pawnGoes_161
                unfold f_pawnGoes_162
                refine ok_chk (by decide) ?_
                exact ok_ret ⟨rfl, (show (0 : Int) ≤ (0 : Int32).toInt ∧ (0 : Int32).toInt ≤ (1 : Int) from (by decide)), (by show ((0 : Int32).toInt = 1 ↔ pwn (mR A) (I 25).toInt (I 27).toInt x1.toInt x2.toInt); have b25 := tI_25 hI; unfold pwn; have z0 : (0 : Int32).toInt = 0 := rfl; have z1 : (1 : Int32).toInt = 1 := rfl; have z2 : (-1 : Int32).toInt = -1 := rfl; omega)⟩
          ·
            replace c76 := ti_eqN c76 rfl (show (-1 : Int32).toInt = -1 from rfl)
            unfold f_pawnGoes_161
            unfold f_pawnGoes_162
            refine ok_chk (by decide) ?_
            exact ok_ret ⟨rfl, (show (0 : Int) ≤ (0 : Int32).toInt ∧ (0 : Int32).toInt ≤ (1 : Int) from (by decide)), (by show ((0 : Int32).toInt = 1 ↔ pwn (mR A) (I 25).toInt (I 27).toInt x1.toInt x2.toInt); have b25 := tI_25 hI; unfold pwn; have z0 : (0 : Int32).toInt = 0 := rfl; have z1 : (1 : Int32).toInt = 1 := rfl; have z2 : (-1 : Int32).toInt = -1 := rfl; omega)⟩
      ·
        replace c70 := ti_eqN c70 rfl rfl
        unfold f_pawnGoes_161
        unfold f_pawnGoes_162
        refine ok_chk (by decide) ?_
        exact ok_ret ⟨rfl, (show (0 : Int) ≤ (0 : Int32).toInt ∧ (0 : Int32).toInt ≤ (1 : Int) from (by decide)), (by show ((0 : Int32).toInt = 1 ↔ pwn (mR A) (I 25).toInt (I 27).toInt x1.toInt x2.toInt); have b25 := tI_25 hI; unfold pwn; have z0 : (0 : Int32).toInt = 0 := rfl; have z1 : (1 : Int32).toInt = 1 := rfl; have z2 : (-1 : Int32).toInt = -1 := rfl; omega)⟩
theorem x_pawnGoes_0  {I : Nat → Int32} {A : Nat → Nat → Int32} {x1 : Int32} {x2 : Int32} (hI : TJ I) (hA : TK A) (r_x1 : (0 : Int) ≤ x1.toInt ∧ x1.toInt ≤ (63 : Int)) (r_x2 : (0 : Int) ≤ x2.toInt ∧ x2.toInt ≤ (63 : Int)) (q0 : MBd (mR A)) : Ok (f_pawnGoes_0 x1 x2 I A) (fun o => o.2 = (I, A) ∧ ((0 : Int) ≤ o.1.toInt ∧ o.1.toInt ≤ (1 : Int)) ∧ ((o.1.toInt = 1 ↔ pwn (mR A) (I 25).toInt (I 27).toInt x1.toInt x2.toInt))) := by
  unfold f_pawnGoes_0
  have b_I_25 := tI_25 hI
  refine ok_if (fun c81 => ?_) (fun c81 => ?_)
  ·
    replace c81 := ti_eqP c81 rfl (show (0 : Int32).toInt = 0 from rfl)
    exact x_pawnGoes_14    (x1 := x1) (x2 := x2) (t0 := (8 : Int32)) hI hA r_x1 r_x2 (by decide) q0 (by have z0 : (8 : Int32).toInt = 8 := rfl; omega)
  ·
    replace c81 := ti_eqN c81 rfl (show (0 : Int32).toInt = 0 from rfl)
    exact x_pawnGoes_14    (x1 := x1) (x2 := x2) (t0 := (-8 : Int32)) hI hA r_x1 r_x2 (by decide) q0 (by have z0 : (-8 : Int32).toInt = -8 := rfl; omega)
theorem x_pawnGoes  {I : Nat → Int32} {A : Nat → Nat → Int32} {x1 : Int32} {x2 : Int32} (hI : TJ I) (hA : TK A) (r_x1 : (0 : Int) ≤ x1.toInt ∧ x1.toInt ≤ (63 : Int)) (r_x2 : (0 : Int) ≤ x2.toInt ∧ x2.toInt ≤ (63 : Int)) (q0 : MBd (mR A)) : Ok (f_pawnGoes x1 x2 I A) (fun o => o.2 = (I, A) ∧ ((0 : Int) ≤ o.1.toInt ∧ o.1.toInt ≤ (1 : Int)) ∧ ((o.1.toInt = 1 ↔ pwn (mR A) (I 25).toInt (I 27).toInt x1.toInt x2.toInt))) := x_pawnGoes_0  hI hA r_x1 r_x2 q0
theorem x_goes_274s {P : Prop} {I : Nat → Int32} {A : Nat → Nat → Int32} {self274 : Int32 → Int32 → Int32 → Int32 → (Nat → Int32) → (Nat → Nat → Int32) → Option (Int32 × MS)} {N274 : Nat} (hself274 : ∀ (x2 : Int32) (x8 : Int32) (x9 : Int32) (x10 : Int32),  ((0 : Int) ≤ x2.toInt ∧ x2.toInt ≤ (63 : Int)) → ((-1 : Int) ≤ x8.toInt ∧ x8.toInt ≤ (1 : Int)) → ((-1 : Int) ≤ x9.toInt ∧ x9.toInt ≤ (1 : Int)) → ((0 : Int) ≤ x10.toInt ∧ x10.toInt ≤ (63 : Int)) → (MBd (mR A)) → (0 ≤ (I 26).toInt ∧ (I 26).toInt ≤ 15) → (kin x8.toInt x9.toInt) → (wlk (mR A) P x2.toInt x8.toInt x9.toInt x10.toInt) → (mst x8.toInt x9.toInt x10.toInt) < (N274 : Int) → Ok (self274 x2 x8 x9 x10 I A) (fun o => o.2 = (I, A) ∧ ((0 : Int) ≤ o.1.toInt ∧ o.1.toInt ≤ (1 : Int)) ∧ ((o.1.toInt = 1 ↔ P)))) {x2 : Int32} {x8 : Int32} {x9 : Int32} {x10 : Int32} (hI : TJ I) (hA : TK A) (r_x2 : (0 : Int) ≤ x2.toInt ∧ x2.toInt ≤ (63 : Int)) (r_x8 : (-1 : Int) ≤ x8.toInt ∧ x8.toInt ≤ (1 : Int)) (r_x9 : (-1 : Int) ≤ x9.toInt ∧ x9.toInt ≤ (1 : Int)) (r_x10 : (0 : Int) ≤ x10.toInt ∧ x10.toInt ≤ (63 : Int)) (q0 : MBd (mR A)) (q1 : 0 ≤ (I 26).toInt ∧ (I 26).toInt ≤ 15) (q2 : kin x8.toInt x9.toInt) (q3 : wlk (mR A) P x2.toInt x8.toInt x9.toInt x10.toInt) (m274 : (mst x8.toInt x9.toInt x10.toInt) ≤ (N274 : Int)) : Ok (f_goes_274s self274 x2 x8 x9 x10 I A) (fun o => o.2 = (I, A) ∧ ((0 : Int) ≤ o.1.toInt ∧ o.1.toInt ≤ (1 : Int)) ∧ ((o.1.toInt = 1 ↔ P))) := by
  unfold f_goes_274s
  refine ok_if (fun c82 => ?_) (fun c82 => ?_)
  ·
    replace c82 := ti_eqP c82 rfl rfl
    unfold f_goes_304
    refine ok_if (fun c83 => ?_) (fun c83 => ?_)
    ·
      replace c83 := ti_eqP c83 rfl rfl
      unfold f_goes_315
      refine ok_chk (by decide) ?_
      exact ok_ret ⟨rfl, (show (0 : Int) ≤ (1 : Int32).toInt ∧ (1 : Int32).toInt ≤ (1 : Int) from (by decide)), (by show ((1 : Int32).toInt = 1 ↔ P); first | (exfalso; omega) | exact wlk_y q2 q3 (by omega) | exact wlk_n q3 (by omega) u_v1 (by omega))⟩
    ·
      replace c83 := ti_eqN c83 rfl rfl
      unfold f_goes_315
      refine ok_chk (by decide) ?_
      exact ok_ret ⟨rfl, (show (0 : Int) ≤ (0 : Int32).toInt ∧ (0 : Int32).toInt ≤ (1 : Int) from (by decide)), (by show ((0 : Int32).toInt = 1 ↔ P); first | (exfalso; omega) | exact wlk_y q2 q3 (by omega) | exact wlk_n q3 (by omega) u_v1 (by omega))⟩
  ·
    replace c82 := ti_eqN c82 rfl rfl
    refine ok_chk (ti_in (by omega) (by omega)) ?_
    refine ok_bnd (fun v1 e84 => ?_)
    have u_v1 : v1.toInt = mR A x10.toInt := mR_at e84 (by omega) (by omega)
    have w_v1 := q0 (x10.toInt)
    refine ok_if (fun c85 => ?_) (fun c85 => ?_)
    ·
      replace c85 := ti_eqP c85 rfl (show (0 : Int32).toInt = 0 from rfl)
      obtain ⟨r2, h_r2, p_r2⟩ := ro (t_step (x0 := x10) (x1 := x8) (x2 := x9)  hI hA r_x10 (by omega) (by omega))
      refine ok_clR h_r2 ?_
      dsimp only at p_r2
      have w2 := wlk_s q2 q3 (by omega) u_v1 (by omega) p_r2.2
      exact hself274 x2 x8 x9 r2 r_x2 r_x8 r_x9 (by omega) q0 q1 q2 w2.2 (Int.lt_of_lt_of_le (mst_dec r_x8 r_x9 q2.2.2.2.2 (by omega) p_r2.2) m274)
    ·
      replace c85 := ti_eqN c85 rfl (show (0 : Int32).toInt = 0 from rfl)
      unfold f_goes_304
      refine ok_if (fun c86 => ?_) (fun c86 => ?_)
      ·
        replace c86 := ti_eqP c86 rfl rfl
        unfold f_goes_315
        refine ok_chk (by decide) ?_
        exact ok_ret ⟨rfl, (show (0 : Int) ≤ (1 : Int32).toInt ∧ (1 : Int32).toInt ≤ (1 : Int) from (by decide)), (by show ((1 : Int32).toInt = 1 ↔ P); first | (exfalso; omega) | exact wlk_y q2 q3 (by omega) | exact wlk_n q3 (by omega) u_v1 (by omega))⟩
      ·
        replace c86 := ti_eqN c86 rfl rfl
        unfold f_goes_315
        refine ok_chk (by decide) ?_
        exact ok_ret ⟨rfl, (show (0 : Int) ≤ (0 : Int32).toInt ∧ (0 : Int32).toInt ≤ (1 : Int) from (by decide)), (by show ((0 : Int32).toInt = 1 ↔ P); first | (exfalso; omega) | exact wlk_y q2 q3 (by omega) | exact wlk_n q3 (by omega) u_v1 (by omega))⟩
theorem x_goes_274 {P : Prop} {I : Nat → Int32} {A : Nat → Nat → Int32} (hI : TJ I) (hA : TK A) : ∀ (n : Nat) (x2 : Int32) (x8 : Int32) (x9 : Int32) (x10 : Int32),  ((0 : Int) ≤ x2.toInt ∧ x2.toInt ≤ (63 : Int)) → ((-1 : Int) ≤ x8.toInt ∧ x8.toInt ≤ (1 : Int)) → ((-1 : Int) ≤ x9.toInt ∧ x9.toInt ≤ (1 : Int)) → ((0 : Int) ≤ x10.toInt ∧ x10.toInt ≤ (63 : Int)) → (MBd (mR A)) → (0 ≤ (I 26).toInt ∧ (I 26).toInt ≤ 15) → (kin x8.toInt x9.toInt) → (wlk (mR A) P x2.toInt x8.toInt x9.toInt x10.toInt) → (mst x8.toInt x9.toInt x10.toInt) < (n : Int) → Ok (f_goes_274  n x2 x8 x9 x10 I A) (fun o => o.2 = (I, A) ∧ ((0 : Int) ≤ o.1.toInt ∧ o.1.toInt ≤ (1 : Int)) ∧ ((o.1.toInt = 1 ↔ P))) := by
  intro n
  induction n with
  | zero => intro x2 x8 x9 x10 g0 g1 g2 g3 g4 g5 g6 g7  hm; exfalso; have := mst_nn (s := x10.toInt) g1 g2 ⟨by omega, by omega⟩; omega
  | succ n ih =>
    intro x2 x8 x9 x10 g0 g1 g2 g3 g4 g5 g6 g7  hm
    exact x_goes_274s (P := P)  (N274 := n)  ih hI hA g0 g1 g2 g3 g4 g5 g6 g7  (by omega)
theorem x_goes_262 {P : Prop} {ff rr : Int} {I : Nat → Int32} {A : Nat → Nat → Int32} {x1 : Int32} {x2 : Int32} {x8 : Int32} {t0 : Int32} (hI : TJ I) (hA : TK A) (r_x1 : (0 : Int) ≤ x1.toInt ∧ x1.toInt ≤ (63 : Int)) (r_x2 : (0 : Int) ≤ x2.toInt ∧ x2.toInt ≤ (63 : Int)) (r_x8 : (-1 : Int) ≤ x8.toInt ∧ x8.toInt ≤ (1 : Int)) (r_t0 : (-1 : Int) ≤ t0.toInt ∧ t0.toInt ≤ (1 : Int)) (q0 : MBd (mR A)) (q1 : 0 ≤ (I 26).toInt ∧ (I 26).toInt ≤ 15) (q2 : ff = x2.toInt % 8 - x1.toInt % 8 ∧ rr = x2.toInt / 8 - x1.toInt / 8 ∧ (ff ≠ 0 ∨ rr ≠ 0)) (q3 : ff = 0 ∨ rr = 0 ∨ ff = rr ∨ ff = -rr) (q4 : P ↔ clr (mR A) x1.toInt ff rr) (q5 : x8.toInt = sg ff) (q6 : t0.toInt = sg rr) : Ok (f_goes_262 x1 x2 x8 t0 I A) (fun o => o.2 = (I, A) ∧ ((0 : Int) ≤ o.1.toInt ∧ o.1.toInt ≤ (1 : Int)) ∧ ((o.1.toInt = 1 ↔ P))) := by
  unfold f_goes_262
  obtain ⟨r1, h_r1, p_r1⟩ := ro (t_step (x0 := x1) (x1 := x8) (x2 := t0)  hI hA r_x1 (by omega) (by omega))
  refine ok_clR h_r1 ?_
  dsimp only at p_r1
  have w1 := wlk_0 (by omega) (by omega) q2.1 q2.2.1 q3 q2.2.2 q5 q6 q4 p_r1.2
  exact x_goes_274 (P := P)   hI hA mFuel x2 x8 t0 r1  r_x2 r_x8 r_t0 (by omega) q0 q1 w1.1 w1.2.2 (by apply mst_lt <;> omega)
theorem x_goes_241 {P : Prop} {ff : Int} {I : Nat → Int32} {A : Nat → Nat → Int32} {x1 : Int32} {x2 : Int32} {x5 : Int32} {t0 : Int32} (hI : TJ I) (hA : TK A) (r_x1 : (0 : Int) ≤ x1.toInt ∧ x1.toInt ≤ (63 : Int)) (r_x2 : (0 : Int) ≤ x2.toInt ∧ x2.toInt ≤ (63 : Int)) (r_x5 : (-7 : Int) ≤ x5.toInt ∧ x5.toInt ≤ (7 : Int)) (r_t0 : (-1 : Int) ≤ t0.toInt ∧ t0.toInt ≤ (1 : Int)) (q0 : MBd (mR A)) (q1 : 0 ≤ (I 26).toInt ∧ (I 26).toInt ≤ 15) (q2 : ff = x2.toInt % 8 - x1.toInt % 8 ∧ x5.toInt = x2.toInt / 8 - x1.toInt / 8 ∧ (ff ≠ 0 ∨ x5.toInt ≠ 0)) (q3 : ff = 0 ∨ x5.toInt = 0 ∨ ff = x5.toInt ∨ ff = -x5.toInt) (q4 : P ↔ clr (mR A) x1.toInt ff x5.toInt) (q5 : t0.toInt = sg ff) : Ok (f_goes_241 x1 x2 x5 t0 I A) (fun o => o.2 = (I, A) ∧ ((0 : Int) ≤ o.1.toInt ∧ o.1.toInt ≤ (1 : Int)) ∧ ((o.1.toInt = 1 ↔ P))) := by
  unfold f_goes_241
  refine ok_if (fun c87 => ?_) (fun c87 => ?_)
  ·
    replace c87 := ti_leP c87 rfl (show (0 : Int32).toInt = 0 from rfl)
    refine ok_if (fun c88 => ?_) (fun c88 => ?_)
    ·
      replace c88 := ti_leP c88 (show (0 : Int32).toInt = 0 from rfl) rfl
      exact x_goes_262 (P := P)   (x1 := x1) (x2 := x2) (x8 := t0) (t0 := (0 : Int32)) hI hA r_x1 r_x2 r_t0 (by decide) q0 q1 q2 q3 q4 q5 (by unfold sg; have z0 : (0 : Int32).toInt = 0 := rfl; have z1 : (1 : Int32).toInt = 1 := rfl; have z2 : (-1 : Int32).toInt = -1 := rfl; omega)
    ·
      replace c88 := ti_leN c88 (show (0 : Int32).toInt = 0 from rfl) rfl
      exact x_goes_262 (P := P)   (x1 := x1) (x2 := x2) (x8 := t0) (t0 := (-1 : Int32)) hI hA r_x1 r_x2 r_t0 (by decide) q0 q1 q2 q3 q4 q5 (by unfold sg; have z0 : (0 : Int32).toInt = 0 := rfl; have z1 : (1 : Int32).toInt = 1 := rfl; have z2 : (-1 : Int32).toInt = -1 := rfl; omega)
  ·
    replace c87 := ti_leN c87 rfl (show (0 : Int32).toInt = 0 from rfl)
    exact x_goes_262 (P := P)   (x1 := x1) (x2 := x2) (x8 := t0) (t0 := (1 : Int32)) hI hA r_x1 r_x2 r_t0 (by decide) q0 q1 q2 q3 q4 q5 (by unfold sg; have z0 : (0 : Int32).toInt = 0 := rfl; have z1 : (1 : Int32).toInt = 1 := rfl; have z2 : (-1 : Int32).toInt = -1 := rfl; omega)
theorem x_goes_222 {P : Prop} {I : Nat → Int32} {A : Nat → Nat → Int32} {x1 : Int32} {x2 : Int32} {x4 : Int32} {x5 : Int32} (hI : TJ I) (hA : TK A) (r_x1 : (0 : Int) ≤ x1.toInt ∧ x1.toInt ≤ (63 : Int)) (r_x2 : (0 : Int) ≤ x2.toInt ∧ x2.toInt ≤ (63 : Int)) (r_x4 : (-7 : Int) ≤ x4.toInt ∧ x4.toInt ≤ (7 : Int)) (r_x5 : (-7 : Int) ≤ x5.toInt ∧ x5.toInt ≤ (7 : Int)) (q0 : MBd (mR A)) (q1 : 0 ≤ (I 26).toInt ∧ (I 26).toInt ≤ 15) (q2 : x4.toInt = x2.toInt % 8 - x1.toInt % 8 ∧ x5.toInt = x2.toInt / 8 - x1.toInt / 8 ∧ (x4.toInt ≠ 0 ∨ x5.toInt ≠ 0)) (q3 : x4.toInt = 0 ∨ x5.toInt = 0 ∨ x4.toInt = x5.toInt ∨ x4.toInt = -x5.toInt) (q4 : P ↔ clr (mR A) x1.toInt x4.toInt x5.toInt) : Ok (f_goes_222 x1 x2 x4 x5 I A) (fun o => o.2 = (I, A) ∧ ((0 : Int) ≤ o.1.toInt ∧ o.1.toInt ≤ (1 : Int)) ∧ ((o.1.toInt = 1 ↔ P))) := by
  unfold f_goes_222
  refine ok_if (fun c89 => ?_) (fun c89 => ?_)
  ·
    replace c89 := ti_leP c89 rfl (show (0 : Int32).toInt = 0 from rfl)
    refine ok_if (fun c90 => ?_) (fun c90 => ?_)
    ·
      replace c90 := ti_leP c90 (show (0 : Int32).toInt = 0 from rfl) rfl
      exact x_goes_241 (P := P)   (x1 := x1) (x2 := x2) (x5 := x5) (t0 := (0 : Int32)) hI hA r_x1 r_x2 r_x5 (by decide) q0 q1 q2 q3 q4 (by unfold sg; have z0 : (0 : Int32).toInt = 0 := rfl; have z1 : (1 : Int32).toInt = 1 := rfl; have z2 : (-1 : Int32).toInt = -1 := rfl; omega)
    ·
      replace c90 := ti_leN c90 (show (0 : Int32).toInt = 0 from rfl) rfl
      exact x_goes_241 (P := P)   (x1 := x1) (x2 := x2) (x5 := x5) (t0 := (-1 : Int32)) hI hA r_x1 r_x2 r_x5 (by decide) q0 q1 q2 q3 q4 (by unfold sg; have z0 : (0 : Int32).toInt = 0 := rfl; have z1 : (1 : Int32).toInt = 1 := rfl; have z2 : (-1 : Int32).toInt = -1 := rfl; omega)
  ·
    replace c89 := ti_leN c89 rfl (show (0 : Int32).toInt = 0 from rfl)
    exact x_goes_241 (P := P)   (x1 := x1) (x2 := x2) (x5 := x5) (t0 := (1 : Int32)) hI hA r_x1 r_x2 r_x5 (by decide) q0 q1 q2 q3 q4 (by unfold sg; have z0 : (0 : Int32).toInt = 0 := rfl; have z1 : (1 : Int32).toInt = 1 := rfl; have z2 : (-1 : Int32).toInt = -1 := rfl; omega)
theorem x_goes_210 {P : Prop} {I : Nat → Int32} {A : Nat → Nat → Int32} {x1 : Int32} {x2 : Int32} {x3 : Int32} {x4 : Int32} {x5 : Int32} {x7 : Int32} (hI : TJ I) (hA : TK A) (r_x1 : (0 : Int) ≤ x1.toInt ∧ x1.toInt ≤ (63 : Int)) (r_x2 : (0 : Int) ≤ x2.toInt ∧ x2.toInt ≤ (63 : Int)) (r_x3 : (3 : Int) ≤ x3.toInt ∧ x3.toInt ≤ (5 : Int)) (r_x4 : (-7 : Int) ≤ x4.toInt ∧ x4.toInt ≤ (7 : Int)) (r_x5 : (-7 : Int) ≤ x5.toInt ∧ x5.toInt ≤ (7 : Int)) (r_x7 : (0 : Int) ≤ x7.toInt ∧ x7.toInt ≤ (1 : Int)) (q0 : MBd (mR A)) (q1 : 0 ≤ (I 26).toInt ∧ (I 26).toInt ≤ 15) (q2 : x4.toInt = x2.toInt % 8 - x1.toInt % 8 ∧ x5.toInt = x2.toInt / 8 - x1.toInt / 8 ∧ (x4.toInt ≠ 0 ∨ x5.toInt ≠ 0)) (q3 : (x7.toInt = 1 ↔ x4.toInt = 0 ∨ x5.toInt = 0) ∧ ¬ (x7.toInt = 1 ∧ x3.toInt = 3)) (q4 : x4.toInt = 0 ∨ x5.toInt = 0 ∨ x4.toInt = x5.toInt ∨ x4.toInt = -x5.toInt) (q5 : P ↔ lin x3.toInt x4.toInt x5.toInt ∧ clr (mR A) x1.toInt x4.toInt x5.toInt) : Ok (f_goes_210 x1 x2 x3 x4 x5 x7 I A) (fun o => o.2 = (I, A) ∧ ((0 : Int) ≤ o.1.toInt ∧ o.1.toInt ≤ (1 : Int)) ∧ ((o.1.toInt = 1 ↔ P))) := by
  unfold f_goes_210
  refine ok_if (fun c91 => ?_) (fun c91 => ?_)
  ·
    replace c91 := ti_eqP c91 rfl (show (0 : Int32).toInt = 0 from rfl)
    refine ok_if (fun c92 => ?_) (fun c92 => ?_)
    ·
      replace c92 := ti_eqP c92 rfl (show (4 : Int32).toInt = 4 from rfl)
      unfold f_goes_220
      refine ok_chk (by decide) ?_
      exact ok_ret ⟨rfl, (show (0 : Int) ≤ (0 : Int32).toInt ∧ (0 : Int32).toInt ≤ (1 : Int) from (by decide)), (by show ((0 : Int32).toInt = 1 ↔ P); exact lf_no (by first | exact q4 | exact q5) (fun h => by have z := h.1; unfold lin at z; omega))⟩
    ·
      replace c92 := ti_eqN c92 rfl (show (4 : Int32).toInt = 4 from rfl)
      exact x_goes_222 (P := P)   (x1 := x1) (x2 := x2) (x4 := x4) (x5 := x5) hI hA r_x1 r_x2 r_x4 r_x5 q0 q1 q2 q4 (by rw [q5]; exact ⟨fun h => h.2, fun h => ⟨by unfold lin; omega, h⟩⟩)
  ·
    replace c91 := ti_eqN c91 rfl (show (0 : Int32).toInt = 0 from rfl)
    exact x_goes_222 (P := P)   (x1 := x1) (x2 := x2) (x4 := x4) (x5 := x5) hI hA r_x1 r_x2 r_x4 r_x5 q0 q1 q2 q4 (by rw [q5]; exact ⟨fun h => h.2, fun h => ⟨by unfold lin; omega, h⟩⟩)
theorem x_goes_200 {P : Prop} {I : Nat → Int32} {A : Nat → Nat → Int32} {x1 : Int32} {x2 : Int32} {x3 : Int32} {x4 : Int32} {x5 : Int32} {x7 : Int32} (hI : TJ I) (hA : TK A) (r_x1 : (0 : Int) ≤ x1.toInt ∧ x1.toInt ≤ (63 : Int)) (r_x2 : (0 : Int) ≤ x2.toInt ∧ x2.toInt ≤ (63 : Int)) (r_x3 : (3 : Int) ≤ x3.toInt ∧ x3.toInt ≤ (5 : Int)) (r_x4 : (-7 : Int) ≤ x4.toInt ∧ x4.toInt ≤ (7 : Int)) (r_x5 : (-7 : Int) ≤ x5.toInt ∧ x5.toInt ≤ (7 : Int)) (r_x7 : (0 : Int) ≤ x7.toInt ∧ x7.toInt ≤ (1 : Int)) (q0 : MBd (mR A)) (q1 : 0 ≤ (I 26).toInt ∧ (I 26).toInt ≤ 15) (q2 : x4.toInt = x2.toInt % 8 - x1.toInt % 8 ∧ x5.toInt = x2.toInt / 8 - x1.toInt / 8 ∧ (x4.toInt ≠ 0 ∨ x5.toInt ≠ 0)) (q3 : (x7.toInt = 1 ↔ x4.toInt = 0 ∨ x5.toInt = 0)) (q4 : x4.toInt = 0 ∨ x5.toInt = 0 ∨ x4.toInt = x5.toInt ∨ x4.toInt = -x5.toInt) (q5 : P ↔ lin x3.toInt x4.toInt x5.toInt ∧ clr (mR A) x1.toInt x4.toInt x5.toInt) : Ok (f_goes_200 x1 x2 x3 x4 x5 x7 I A) (fun o => o.2 = (I, A) ∧ ((0 : Int) ≤ o.1.toInt ∧ o.1.toInt ≤ (1 : Int)) ∧ ((o.1.toInt = 1 ↔ P))) := by
  unfold f_goes_200
  refine ok_if (fun c93 => ?_) (fun c93 => ?_)
  ·
    replace c93 := ti_eqP c93 rfl (show (0 : Int32).toInt = 0 from rfl)
    exact x_goes_210 (P := P)   (x1 := x1) (x2 := x2) (x3 := x3) (x4 := x4) (x5 := x5) (x7 := x7) hI hA r_x1 r_x2 r_x3 r_x4 r_x5 r_x7 q0 q1 q2 (by omega) q4 q5
  ·
    replace c93 := ti_eqN c93 rfl (show (0 : Int32).toInt = 0 from rfl)
    refine ok_if (fun c94 => ?_) (fun c94 => ?_)
    ·
      replace c94 := ti_eqP c94 rfl (show (3 : Int32).toInt = 3 from rfl)
      unfold f_goes_220
      refine ok_chk (by decide) ?_
      exact ok_ret ⟨rfl, (show (0 : Int) ≤ (0 : Int32).toInt ∧ (0 : Int32).toInt ≤ (1 : Int) from (by decide)), (by show ((0 : Int32).toInt = 1 ↔ P); exact lf_no (by first | exact q4 | exact q5) (fun h => by have z := h.1; unfold lin at z; omega))⟩
    ·
      replace c94 := ti_eqN c94 rfl (show (3 : Int32).toInt = 3 from rfl)
      exact x_goes_210 (P := P)   (x1 := x1) (x2 := x2) (x3 := x3) (x4 := x4) (x5 := x5) (x7 := x7) hI hA r_x1 r_x2 r_x3 r_x4 r_x5 r_x7 q0 q1 q2 (by omega) q4 q5
theorem x_goes_178 {P : Prop} {I : Nat → Int32} {A : Nat → Nat → Int32} {x1 : Int32} {x2 : Int32} {x3 : Int32} {x4 : Int32} {x5 : Int32} {t0 : Int32} (hI : TJ I) (hA : TK A) (r_x1 : (0 : Int) ≤ x1.toInt ∧ x1.toInt ≤ (63 : Int)) (r_x2 : (0 : Int) ≤ x2.toInt ∧ x2.toInt ≤ (63 : Int)) (r_x3 : (3 : Int) ≤ x3.toInt ∧ x3.toInt ≤ (5 : Int)) (r_x4 : (-7 : Int) ≤ x4.toInt ∧ x4.toInt ≤ (7 : Int)) (r_x5 : (-7 : Int) ≤ x5.toInt ∧ x5.toInt ≤ (7 : Int)) (r_t0 : (0 : Int) ≤ t0.toInt ∧ t0.toInt ≤ (1 : Int)) (q0 : MBd (mR A)) (q1 : 0 ≤ (I 26).toInt ∧ (I 26).toInt ≤ 15) (q2 : x4.toInt = x2.toInt % 8 - x1.toInt % 8 ∧ x5.toInt = x2.toInt / 8 - x1.toInt / 8 ∧ (x4.toInt ≠ 0 ∨ x5.toInt ≠ 0)) (q3 : (t0.toInt = 1 ↔ x4.toInt = 0 ∨ x5.toInt = 0)) (q4 : P ↔ lin x3.toInt x4.toInt x5.toInt ∧ clr (mR A) x1.toInt x4.toInt x5.toInt) : Ok (f_goes_178 x1 x2 x3 x4 x5 t0 I A) (fun o => o.2 = (I, A) ∧ ((0 : Int) ≤ o.1.toInt ∧ o.1.toInt ≤ (1 : Int)) ∧ ((o.1.toInt = 1 ↔ P))) := by
  unfold f_goes_178
  refine ok_if (fun c95 => ?_) (fun c95 => ?_)
  ·
    replace c95 := ti_eqP c95 rfl (show (0 : Int32).toInt = 0 from rfl)
    refine ok_if (fun c96 => ?_) (fun c96 => ?_)
    ·
      replace c96 := ti_eqP c96 rfl rfl
      exact x_goes_200 (P := P)   (x1 := x1) (x2 := x2) (x3 := x3) (x4 := x4) (x5 := x5) (x7 := t0) hI hA r_x1 r_x2 r_x3 r_x4 r_x5 r_t0 q0 q1 q2 q3 (by omega) q4
    ·
      replace c96 := ti_eqN c96 rfl rfl
      refine ok_bnd (fun v1 e97 => ?_)
      have t_v1 : v1.toInt = -x5.toInt := ti_neg e97 rfl (by omega)
      refine ok_if (fun c98 => ?_) (fun c98 => ?_)
      ·
        replace c98 := ti_eqP c98 rfl rfl
        exact x_goes_200 (P := P)   (x1 := x1) (x2 := x2) (x3 := x3) (x4 := x4) (x5 := x5) (x7 := t0) hI hA r_x1 r_x2 r_x3 r_x4 r_x5 r_t0 q0 q1 q2 q3 (by omega) q4
      ·
        replace c98 := ti_eqN c98 rfl rfl
        unfold f_goes_220
        refine ok_chk (by decide) ?_
        exact ok_ret ⟨rfl, (show (0 : Int) ≤ (0 : Int32).toInt ∧ (0 : Int32).toInt ≤ (1 : Int) from (by decide)), (by show ((0 : Int32).toInt = 1 ↔ P); exact lf_no (by first | exact q4 | exact q5) (fun h => by have z := h.1; unfold lin at z; omega))⟩
  ·
    replace c95 := ti_eqN c95 rfl (show (0 : Int32).toInt = 0 from rfl)
    exact x_goes_200 (P := P)   (x1 := x1) (x2 := x2) (x3 := x3) (x4 := x4) (x5 := x5) (x7 := t0) hI hA r_x1 r_x2 r_x3 r_x4 r_x5 r_t0 q0 q1 q2 q3 (by omega) q4
theorem x_goes_0 {P : Prop} {I : Nat → Int32} {A : Nat → Nat → Int32} {x1 : Int32} {x2 : Int32} (hI : TJ I) (hA : TK A) (r_x1 : (0 : Int) ≤ x1.toInt ∧ x1.toInt ≤ (63 : Int)) (r_x2 : (0 : Int) ≤ x2.toInt ∧ x2.toInt ≤ (63 : Int)) (q0 : P ↔ goR (mR A) (I 25).toInt (I 26).toInt (I 27).toInt x1.toInt x2.toInt) (q1 : MBd (mR A)) (q2 : 0 ≤ (I 26).toInt ∧ (I 26).toInt ≤ 15) : Ok (f_goes_0 x1 x2 I A) (fun o => o.2 = (I, A) ∧ ((0 : Int) ≤ o.1.toInt ∧ o.1.toInt ≤ (1 : Int)) ∧ ((o.1.toInt = 1 ↔ P))) := by
  unfold f_goes_0
  refine ok_chk (ti_in (by omega) (by omega)) ?_
  refine ok_bnd (fun v1 e99 => ?_)
  have u_v1 : v1.toInt = mR A x1.toInt := mR_at e99 (by omega) (by omega)
  have w_v1 := q1 (x1.toInt)
  obtain ⟨r2, h_r2, p_r2⟩ := ro (x_sideOf (x0 := v1)  hI hA (by omega))
  refine ok_clR h_r2 ?_
  dsimp only at p_r2
  have b_I_25 := tI_25 hI
  refine ok_if (fun c100 => ?_) (fun c100 => ?_)
  ·
    replace c100 := ti_eqP c100 rfl rfl
    refine ok_chk (ti_in (by omega) (by omega)) ?_
    refine ok_bnd (fun v3 e101 => ?_)
    have u_v3 : v3.toInt = mR A x2.toInt := mR_at e101 (by omega) (by omega)
    have w_v3 := q1 (x2.toInt)
    obtain ⟨r4, h_r4, p_r4⟩ := ro (x_sideOf (x0 := v3)  hI hA (by omega))
    refine ok_clR h_r4 ?_
    dsimp only at p_r4
    refine ok_if (fun c102 => ?_) (fun c102 => ?_)
    ·
      replace c102 := ti_eqP c102 rfl rfl
      unfold f_goes_37
      refine ok_chk (by decide) ?_
      exact ok_ret ⟨rfl, (show (0 : Int) ≤ (0 : Int32).toInt ∧ (0 : Int32).toInt ≤ (1 : Int) from (by decide)), (by show ((0 : Int32).toInt = 1 ↔ P); first | exact go_no1 q0 u_v1 (by have := p_r2.2; omega) | exact go_no2 q0 u_v3 (by have := p_r4.2; omega) | exact go_no2 q0 u_v3 (by have hx : mR A x1.toInt = mR A x2.toInt := (by rw [show x1.toInt = x2.toInt by omega]); have := p_r2.2; omega))⟩
    ·
      replace c102 := ti_eqN c102 rfl rfl
      refine ok_if (fun c103 => ?_) (fun c103 => ?_)
      ·
        replace c103 := ti_eqP c103 rfl rfl
        unfold f_goes_37
        refine ok_chk (by decide) ?_
        exact ok_ret ⟨rfl, (show (0 : Int) ≤ (0 : Int32).toInt ∧ (0 : Int32).toInt ≤ (1 : Int) from (by decide)), (by show ((0 : Int32).toInt = 1 ↔ P); first | exact go_no1 q0 u_v1 (by have := p_r2.2; omega) | exact go_no2 q0 u_v3 (by have := p_r4.2; omega) | exact go_no2 q0 u_v3 (by have hx : mR A x1.toInt = mR A x2.toInt := (by rw [show x1.toInt = x2.toInt by omega]); have := p_r2.2; omega))⟩
      ·
        replace c103 := ti_eqN c103 rfl rfl
        refine ok_chk (ti_in (by omega) (by omega)) ?_
        refine ok_bnd (fun v5 e104 => ?_)
        have u_v5 : v5.toInt = mR A x1.toInt := mR_at e104 (by omega) (by omega)
        have w_v5 := q1 (x1.toInt)
        obtain ⟨r6, h_r6, p_r6⟩ := ro (x_kind (x0 := v5)  hI hA (by omega))
        refine ok_clR h_r6 ?_
        dsimp only at p_r6
        have k6 : mR A x1.toInt % 8 = r6.toInt := by have := p_r6.2; omega
        have s1 : mR A x1.toInt ≠ 0 ∧ mR A x1.toInt / 8 = (I 25).toInt := by have := p_r2.2; omega
        have s2 : ¬ (mR A x2.toInt ≠ 0 ∧ mR A x2.toInt / 8 = (I 25).toInt) := by have := p_r4.2; omega
        refine ok_if (fun c105 => ?_) (fun c105 => ?_)
        ·
          replace c105 := ti_eqP c105 rfl (show (1 : Int32).toInt = 1 from rfl)
          obtain ⟨r19, h_r19, p_r19⟩ := ro (x_pawnGoes (x1 := x1) (x2 := x2)  hI hA r_x1 r_x2 q1)
          refine ok_clR h_r19 ?_
          dsimp only at p_r19
          refine ok_chk (nar_b (by omega) (by omega)) ?_
          exact ok_ret ⟨rfl, (show (0 : Int) ≤ r19.toInt ∧ r19.toInt ≤ (1 : Int) from (by omega)), (by show ((r19 : Int32).toInt = 1 ↔ P); exact go_pw q0 s1 s2 (by omega) p_r19.2)⟩
        ·
          replace c105 := ti_eqN c105 rfl (show (1 : Int32).toInt = 1 from rfl)
          have gk := go_k q0 s1 s2 (by omega)
          have k7 : 1 ≤ r6.toInt ∧ r6.toInt ≤ 6 := by omega
          clear s1 s2 w_v1 w_v3 w_v5 u_v1 u_v3 u_v5 c100 c102 p_r2 p_r4
          refine ok_bnd (fun v7 e106 => ?_)
          have t_v7 : v7.toInt = x2.toInt % 8 := ti_rem e106 rfl (show (8 : Int32).toInt = 8 from rfl) (by omega) (by decide)
          refine ok_bnd (fun v8 e107 => ?_)
          have t_v8 : v8.toInt = x1.toInt % 8 := ti_rem e107 rfl (show (8 : Int32).toInt = 8 from rfl) (by omega) (by decide)
          refine ok_bnd (fun v9 e108 => ?_)
          have t_v9 : v9.toInt = v7.toInt - v8.toInt := ti_sub e108 rfl rfl (by omega) (by omega)
          refine ok_bnd (fun v10 e109 => ?_)
          have t_v10 : v10.toInt = x2.toInt / 8 := ti_div e109 rfl (show (8 : Int32).toInt = 8 from rfl) (by omega) (by decide)
          refine ok_bnd (fun v11 e110 => ?_)
          have t_v11 : v11.toInt = x1.toInt / 8 := ti_div e110 rfl (show (8 : Int32).toInt = 8 from rfl) (by omega) (by decide)
          refine ok_bnd (fun v12 e111 => ?_)
          have t_v12 : v12.toInt = v10.toInt - v11.toInt := ti_sub e111 rfl rfl (by omega) (by omega)
          have t_v9x : v9.toInt = x2.toInt % 8 - x1.toInt % 8 := by omega
          have t_v12x : v12.toInt = x2.toInt / 8 - x1.toInt / 8 := by omega
          refine ok_bnd (fun v13 e112 => ?_)
          have t_v13 := ti_sq e112 (by omega) (by omega)
          refine ok_bnd (fun v14 e113 => ?_)
          have t_v14 := ti_sq e113 (by omega) (by omega)
          refine ok_bnd (fun v15 e114 => ?_)
          have t_v15 : v15.toInt = v13.toInt + v14.toInt := ti_add e114 rfl rfl (by omega) (by omega)
          refine ok_if (fun c115 => ?_) (fun c115 => ?_)
          ·
            replace c115 := ti_eqP c115 rfl (show (2 : Int32).toInt = 2 from rfl)
            refine ok_if (fun c116 => ?_) (fun c116 => ?_)
            ·
              replace c116 := ti_eqP c116 rfl (show (5 : Int32).toInt = 5 from rfl)
              unfold f_goes_112
              refine ok_chk (by decide) ?_
              exact ok_ret ⟨rfl, (show (0 : Int) ≤ (1 : Int32).toInt ∧ (1 : Int32).toInt ≤ (1 : Int) from (by decide)), (by show ((1 : Int32).toInt = 1 ↔ P); rw [go_kn gk k6 (by omega)]; unfold kni; have z0 : (0 : Int32).toInt = 0 := rfl; have z1 : (1 : Int32).toInt = 1 := rfl; have z2 : (-1 : Int32).toInt = -1 := rfl; omega)⟩
            ·
              replace c116 := ti_eqN c116 rfl (show (5 : Int32).toInt = 5 from rfl)
              unfold f_goes_112
              refine ok_chk (by decide) ?_
              exact ok_ret ⟨rfl, (show (0 : Int) ≤ (0 : Int32).toInt ∧ (0 : Int32).toInt ≤ (1 : Int) from (by decide)), (by show ((0 : Int32).toInt = 1 ↔ P); rw [go_kn gk k6 (by omega)]; unfold kni; have z0 : (0 : Int32).toInt = 0 := rfl; have z1 : (1 : Int32).toInt = 1 := rfl; have z2 : (-1 : Int32).toInt = -1 := rfl; omega)⟩
          ·
            replace c115 := ti_eqN c115 rfl (show (2 : Int32).toInt = 2 from rfl)
            refine ok_if (fun c117 => ?_) (fun c117 => ?_)
            ·
              replace c117 := ti_eqP c117 rfl (show (6 : Int32).toInt = 6 from rfl)
              refine ok_if (fun c118 => ?_) (fun c118 => ?_)
              ·
                replace c118 := ti_ltP c118 rfl (show (3 : Int32).toInt = 3 from rfl)
                unfold f_goes_157
                unfold f_goes_162
                refine ok_chk (by decide) ?_
                exact ok_ret ⟨rfl, (show (0 : Int) ≤ (1 : Int32).toInt ∧ (1 : Int32).toInt ≤ (1 : Int) from (by decide)), (by show ((1 : Int32).toInt = 1 ↔ P); have gg := go_kg gk k6 (by omega) t_v9x t_v12x; first | exact lf_ye gg (Or.inl (by unfold kin; omega)) | exact lf_ye gg (Or.inr (by rw [show x1.toInt = 4 + 56 * (I 25).toInt by omega]; exact p_r18.2.1 (by omega))) | exact lf_no gg (fun h => h.elim (fun z => by unfold kin at z; omega) (fun z => by rw [show x1.toInt = 4 + 56 * (I 25).toInt by omega] at z; have := p_r18.2.2 z; omega)) | exact lf_no gg (fun h => h.elim (fun z => by unfold kin at z; omega) (fun z => by have z1 := z.1; unfold csl at z1; omega)))⟩
              ·
                replace c118 := ti_ltN c118 rfl (show (3 : Int32).toInt = 3 from rfl)
                refine ok_bnd (fun v16 e119 => ?_)
                have t_v16 : v16.toInt = 56 * (I 25).toInt := ti_mul e119 (show (56 : Int32).toInt = 56 from rfl) rfl (by omega) (by omega)
                refine ok_bnd (fun v17 e120 => ?_)
                have t_v17 : v17.toInt = 4 + v16.toInt := ti_add e120 (show (4 : Int32).toInt = 4 from rfl) rfl (by omega) (by omega)
                refine ok_if (fun c121 => ?_) (fun c121 => ?_)
                ·
                  replace c121 := ti_eqP c121 rfl rfl
                  refine ok_if (fun c122 => ?_) (fun c122 => ?_)
                  ·
                    replace c122 := ti_eqP c122 rfl (show (0 : Int32).toInt = 0 from rfl)
                    refine ok_if (fun c123 => ?_) (fun c123 => ?_)
                    ·
                      replace c123 := ti_eqP c123 rfl (show (4 : Int32).toInt = 4 from rfl)
                      obtain ⟨r18, h_r18, p_r18⟩ := ro (x_mayCastle (x1 := x2) (P := mcS (mR A) (I 25).toInt (I 26).toInt (4 + 56 * (I 25).toInt) x2.toInt) hI hA r_x2 Iff.rfl (by omega) q1 q2)
                      refine ok_clR h_r18 ?_
                      dsimp only at p_r18
                      refine ok_if (fun c124 => ?_) (fun c124 => ?_)
                      ·
                        replace c124 := ti_eqP c124 rfl (show (0 : Int32).toInt = 0 from rfl)
                        unfold f_goes_161
                        unfold f_goes_162
                        refine ok_chk (by decide) ?_
                        exact ok_ret ⟨rfl, (show (0 : Int) ≤ (0 : Int32).toInt ∧ (0 : Int32).toInt ≤ (1 : Int) from (by decide)), (by show ((0 : Int32).toInt = 1 ↔ P); have gg := go_kg gk k6 (by omega) t_v9x t_v12x; first | exact lf_ye gg (Or.inl (by unfold kin; omega)) | exact lf_ye gg (Or.inr (by rw [show x1.toInt = 4 + 56 * (I 25).toInt by omega]; exact p_r18.2.1 (by omega))) | exact lf_no gg (fun h => h.elim (fun z => by unfold kin at z; omega) (fun z => by rw [show x1.toInt = 4 + 56 * (I 25).toInt by omega] at z; have := p_r18.2.2 z; omega)) | exact lf_no gg (fun h => h.elim (fun z => by unfold kin at z; omega) (fun z => by have z1 := z.1; unfold csl at z1; omega)))⟩
                      ·
                        replace c124 := ti_eqN c124 rfl (show (0 : Int32).toInt = 0 from rfl)
                        unfold f_goes_157
                        unfold f_goes_162
                        refine ok_chk (by decide) ?_
                        exact ok_ret ⟨rfl, (show (0 : Int) ≤ (1 : Int32).toInt ∧ (1 : Int32).toInt ≤ (1 : Int) from (by decide)), (by show ((1 : Int32).toInt = 1 ↔ P); have gg := go_kg gk k6 (by omega) t_v9x t_v12x; first | exact lf_ye gg (Or.inl (by unfold kin; omega)) | exact lf_ye gg (Or.inr (by rw [show x1.toInt = 4 + 56 * (I 25).toInt by omega]; exact p_r18.2.1 (by omega))) | exact lf_no gg (fun h => h.elim (fun z => by unfold kin at z; omega) (fun z => by rw [show x1.toInt = 4 + 56 * (I 25).toInt by omega] at z; have := p_r18.2.2 z; omega)) | exact lf_no gg (fun h => h.elim (fun z => by unfold kin at z; omega) (fun z => by have z1 := z.1; unfold csl at z1; omega)))⟩
                    ·
                      replace c123 := ti_eqN c123 rfl (show (4 : Int32).toInt = 4 from rfl)
                      unfold f_goes_161
                      unfold f_goes_162
                      refine ok_chk (by decide) ?_
                      exact ok_ret ⟨rfl, (show (0 : Int) ≤ (0 : Int32).toInt ∧ (0 : Int32).toInt ≤ (1 : Int) from (by decide)), (by show ((0 : Int32).toInt = 1 ↔ P); have gg := go_kg gk k6 (by omega) t_v9x t_v12x; first | exact lf_ye gg (Or.inl (by unfold kin; omega)) | exact lf_ye gg (Or.inr (by rw [show x1.toInt = 4 + 56 * (I 25).toInt by omega]; exact p_r18.2.1 (by omega))) | exact lf_no gg (fun h => h.elim (fun z => by unfold kin at z; omega) (fun z => by rw [show x1.toInt = 4 + 56 * (I 25).toInt by omega] at z; have := p_r18.2.2 z; omega)) | exact lf_no gg (fun h => h.elim (fun z => by unfold kin at z; omega) (fun z => by have z1 := z.1; unfold csl at z1; omega)))⟩
                  ·
                    replace c122 := ti_eqN c122 rfl (show (0 : Int32).toInt = 0 from rfl)
                    unfold f_goes_161
                    unfold f_goes_162
                    refine ok_chk (by decide) ?_
                    exact ok_ret ⟨rfl, (show (0 : Int) ≤ (0 : Int32).toInt ∧ (0 : Int32).toInt ≤ (1 : Int) from (by decide)), (by show ((0 : Int32).toInt = 1 ↔ P); have gg := go_kg gk k6 (by omega) t_v9x t_v12x; first | exact lf_ye gg (Or.inl (by unfold kin; omega)) | exact lf_ye gg (Or.inr (by rw [show x1.toInt = 4 + 56 * (I 25).toInt by omega]; exact p_r18.2.1 (by omega))) | exact lf_no gg (fun h => h.elim (fun z => by unfold kin at z; omega) (fun z => by rw [show x1.toInt = 4 + 56 * (I 25).toInt by omega] at z; have := p_r18.2.2 z; omega)) | exact lf_no gg (fun h => h.elim (fun z => by unfold kin at z; omega) (fun z => by have z1 := z.1; unfold csl at z1; omega)))⟩
                ·
                  replace c121 := ti_eqN c121 rfl rfl
                  unfold f_goes_161
                  unfold f_goes_162
                  refine ok_chk (by decide) ?_
                  exact ok_ret ⟨rfl, (show (0 : Int) ≤ (0 : Int32).toInt ∧ (0 : Int32).toInt ≤ (1 : Int) from (by decide)), (by show ((0 : Int32).toInt = 1 ↔ P); have gg := go_kg gk k6 (by omega) t_v9x t_v12x; first | exact lf_ye gg (Or.inl (by unfold kin; omega)) | exact lf_ye gg (Or.inr (by rw [show x1.toInt = 4 + 56 * (I 25).toInt by omega]; exact p_r18.2.1 (by omega))) | exact lf_no gg (fun h => h.elim (fun z => by unfold kin at z; omega) (fun z => by rw [show x1.toInt = 4 + 56 * (I 25).toInt by omega] at z; have := p_r18.2.2 z; omega)) | exact lf_no gg (fun h => h.elim (fun z => by unfold kin at z; omega) (fun z => by have z1 := z.1; unfold csl at z1; omega)))⟩
            ·
              replace c117 := ti_eqN c117 rfl (show (6 : Int32).toInt = 6 from rfl)
              refine ok_if (fun c125 => ?_) (fun c125 => ?_)
              ·
                replace c125 := ti_eqP c125 rfl (show (0 : Int32).toInt = 0 from rfl)
                unfold f_goes_173
                exact x_goes_178 (P := P)   (x1 := x1) (x2 := x2) (x3 := r6) (x4 := v9) (x5 := v12) (t0 := (1 : Int32)) hI hA r_x1 r_x2 (by omega) (by omega) (by omega) (by decide) q1 q2 (by have z0 : (1 : Int32).toInt = 1 := rfl; omega) (by have z0 : (0 : Int32).toInt = 0 := rfl; have z1 : (1 : Int32).toInt = 1 := rfl; have z2 : (-1 : Int32).toInt = -1 := rfl; omega) (go_ln gk k6 (by omega) (by omega) (by omega) (by omega) (by omega))
              ·
                replace c125 := ti_eqN c125 rfl (show (0 : Int32).toInt = 0 from rfl)
                refine ok_if (fun c126 => ?_) (fun c126 => ?_)
                ·
                  replace c126 := ti_eqP c126 rfl (show (0 : Int32).toInt = 0 from rfl)
                  unfold f_goes_173
                  exact x_goes_178 (P := P)   (x1 := x1) (x2 := x2) (x3 := r6) (x4 := v9) (x5 := v12) (t0 := (1 : Int32)) hI hA r_x1 r_x2 (by omega) (by omega) (by omega) (by decide) q1 q2 (by have z0 : (1 : Int32).toInt = 1 := rfl; omega) (by have z0 : (0 : Int32).toInt = 0 := rfl; have z1 : (1 : Int32).toInt = 1 := rfl; have z2 : (-1 : Int32).toInt = -1 := rfl; omega) (go_ln gk k6 (by omega) (by omega) (by omega) (by omega) (by omega))
                ·
                  replace c126 := ti_eqN c126 rfl (show (0 : Int32).toInt = 0 from rfl)
                  exact x_goes_178 (P := P)   (x1 := x1) (x2 := x2) (x3 := r6) (x4 := v9) (x5 := v12) (t0 := (0 : Int32)) hI hA r_x1 r_x2 (by omega) (by omega) (by omega) (by decide) q1 q2 (by have z0 : (0 : Int32).toInt = 0 := rfl; omega) (by have z0 : (0 : Int32).toInt = 0 := rfl; have z1 : (1 : Int32).toInt = 1 := rfl; have z2 : (-1 : Int32).toInt = -1 := rfl; omega) (go_ln gk k6 (by omega) (by omega) (by omega) (by omega) (by omega))
  ·
    replace c100 := ti_eqN c100 rfl rfl
    unfold f_goes_37
    refine ok_chk (by decide) ?_
    exact ok_ret ⟨rfl, (show (0 : Int) ≤ (0 : Int32).toInt ∧ (0 : Int32).toInt ≤ (1 : Int) from (by decide)), (by show ((0 : Int32).toInt = 1 ↔ P); first | exact go_no1 q0 u_v1 (by have := p_r2.2; omega) | exact go_no2 q0 u_v3 (by have := p_r4.2; omega) | exact go_no2 q0 u_v3 (by have hx : mR A x1.toInt = mR A x2.toInt := (by rw [show x1.toInt = x2.toInt by omega]); have := p_r2.2; omega))⟩
theorem x_goes {P : Prop} {I : Nat → Int32} {A : Nat → Nat → Int32} {x1 : Int32} {x2 : Int32} (hI : TJ I) (hA : TK A) (r_x1 : (0 : Int) ≤ x1.toInt ∧ x1.toInt ≤ (63 : Int)) (r_x2 : (0 : Int) ≤ x2.toInt ∧ x2.toInt ≤ (63 : Int)) (q0 : P ↔ goR (mR A) (I 25).toInt (I 26).toInt (I 27).toInt x1.toInt x2.toInt) (q1 : MBd (mR A)) (q2 : 0 ≤ (I 26).toInt ∧ (I 26).toInt ≤ 15) : Ok (f_goes x1 x2 I A) (fun o => o.2 = (I, A) ∧ ((0 : Int) ≤ o.1.toInt ∧ o.1.toInt ≤ (1 : Int)) ∧ ((o.1.toInt = 1 ↔ P))) := x_goes_0 (P := P) hI hA r_x1 r_x2 q0 q1 q2
