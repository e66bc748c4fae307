def zsV (S : ZS) (j : Nat) : ZS := (zL S, zK S, zI S, zP S, zN S, zA S, zB S, zc S, zt S - 1 + j, zu S)
def zsJ (S : ZS) (j : Nat) : ZS := (zL S, zK S, zI S, zP S, zN S, zA S, zB S, zc S, zt S + j, zu S)
def zSs : ZS := ([], fun _ => 99, fun _ _ => 0, fun _ _ => none, fun _ => 0, fun _ _ => 0, fun _ _ => none, 0, 1, 0)
theorem m_ifP {β : Type} {c : Prop} [Decidable c] {a b : Option β} (h : c) : m_if c a b = a := if_pos h
theorem m_ifN {β : Type} {c : Prop} [Decidable c] {a b : Option β} (h : ¬ c) : m_if c a b = b := if_neg h
theorem m_chkP {β : Type} {c : Prop} [Decidable c] {k : Option β} (h : c) : m_chk c k = k := if_pos h
