def zsV (S : ZS) (j : Nat) : ZS := (zL S, zK S, zI S, zP S, zN S, zA S, zB S, zc S, zt S - 1 + j, zu S)
def zsJ (S : ZS) (j : Nat) : ZS := (zL S, zK S, zI S, zP S, zN S, zA S, zB S, zc S, zt S + j, zu S)
def zSs : ZS := ([], fun _ => 99, fun _ _ => 0, fun _ _ => none, fun _ => 0, fun _ _ => 0, fun _ _ => none, 0, 1, 0)
