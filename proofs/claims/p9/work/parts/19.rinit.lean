abbrev cF_0 : List Value := [.int 0, .int 0, .null, .int 0, .null, .int 0, .int 0, .null, .null, .null, .null, .null, .null, .null, .null, .null, .null, .null, .null, .null, .null, .null, .null, .null, .null, .int 0, .int 0, .int 0, .int 0, .int 0, .null, .null, .null, .int 0, .null, .null, .int 0, .int 0, .int 0, .int 0]
abbrev cW_0 (cy ci : ClassId) (a : Nat) : va_W := [(a, .inr (12, cF_0))]
abbrev cF_1 (q1 : Nat) : List Value := [.int 0, .int 0, .ref q1, .int 0, .null, .int 0, .int 0, .null, .null, .null, .null, .null, .null, .null, .null, .null, .null, .null, .null, .null, .null, .null, .null, .null, .null, .int 0, .int 0, .int 0, .int 0, .int 0, .null, .null, .null, .int 0, .null, .null, .int 0, .int 0, .int 0, .int 0]
abbrev cW_1 (cy ci : ClassId) (a : Nat) (q1 : Nat) : va_W := [(a, .inr (12, cF_1 q1)), (q1, .inl (cy, 2000, .inl (fun _ => 0)))]
abbrev cF_2 (q1 q2 : Nat) : List Value := [.int 0, .int 0, .ref q1, .int 0, .ref q2, .int 0, .int 0, .null, .null, .null, .null, .null, .null, .null, .null, .null, .null, .null, .null, .null, .null, .null, .null, .null, .null, .int 0, .int 0, .int 0, .int 0, .int 0, .null, .null, .null, .int 0, .null, .null, .int 0, .int 0, .int 0, .int 0]
abbrev cW_2 (cy ci : ClassId) (a : Nat) (q1 q2 : Nat) : va_W := [(a, .inr (12, cF_2 q1 q2)), (q1, .inl (cy, 2000, .inl (fun _ => 0))), (q2, .inl (cy, 80000, .inl (fun _ => 0)))]
abbrev cF_3 (q1 q2 q3 : Nat) : List Value := [.int 0, .int 0, .ref q1, .int 0, .ref q2, .int 0, .int 0, .ref q3, .null, .null, .null, .null, .null, .null, .null, .null, .null, .null, .null, .null, .null, .null, .null, .null, .null, .int 0, .int 0, .int 0, .int 0, .int 0, .null, .null, .null, .int 0, .null, .null, .int 0, .int 0, .int 0, .int 0]
abbrev cW_3 (cy ci : ClassId) (a : Nat) (q1 q2 q3 : Nat) : va_W := [(a, .inr (12, cF_3 q1 q2 q3)), (q1, .inl (cy, 2000, .inl (fun _ => 0))), (q2, .inl (cy, 80000, .inl (fun _ => 0))), (q3, .inl (ci, 2, .inl (fun _ => 0)))]
abbrev cF_4 (q1 q2 q3 q4 : Nat) : List Value := [.int 0, .int 0, .ref q1, .int 0, .ref q2, .int 0, .int 0, .ref q3, .ref q4, .null, .null, .null, .null, .null, .null, .null, .null, .null, .null, .null, .null, .null, .null, .null, .null, .int 0, .int 0, .int 0, .int 0, .int 0, .null, .null, .null, .int 0, .null, .null, .int 0, .int 0, .int 0, .int 0]
abbrev cW_4 (cy ci : ClassId) (a : Nat) (q1 q2 q3 q4 : Nat) : va_W := [(a, .inr (12, cF_4 q1 q2 q3 q4)), (q1, .inl (cy, 2000, .inl (fun _ => 0))), (q2, .inl (cy, 80000, .inl (fun _ => 0))), (q3, .inl (ci, 2, .inl (fun _ => 0))), (q4, .inl (ci, 602, .inl (fun _ => 0)))]
abbrev cF_5 (q1 q2 q3 q4 q5 : Nat) : List Value := [.int 0, .int 0, .ref q1, .int 0, .ref q2, .int 0, .int 0, .ref q3, .ref q4, .ref q5, .null, .null, .null, .null, .null, .null, .null, .null, .null, .null, .null, .null, .null, .null, .null, .int 0, .int 0, .int 0, .int 0, .int 0, .null, .null, .null, .int 0, .null, .null, .int 0, .int 0, .int 0, .int 0]
abbrev cW_5 (cy ci : ClassId) (a : Nat) (q1 q2 q3 q4 q5 : Nat) : va_W := [(a, .inr (12, cF_5 q1 q2 q3 q4 q5)), (q1, .inl (cy, 2000, .inl (fun _ => 0))), (q2, .inl (cy, 80000, .inl (fun _ => 0))), (q3, .inl (ci, 2, .inl (fun _ => 0))), (q4, .inl (ci, 602, .inl (fun _ => 0))), (q5, .inl (ci, 602, .inl (fun _ => 0)))]
abbrev cF_6 (q1 q2 q3 q4 q5 q6 : Nat) : List Value := [.int 0, .int 0, .ref q1, .int 0, .ref q2, .int 0, .int 0, .ref q3, .ref q4, .ref q5, .ref q6, .null, .null, .null, .null, .null, .null, .null, .null, .null, .null, .null, .null, .null, .null, .int 0, .int 0, .int 0, .int 0, .int 0, .null, .null, .null, .int 0, .null, .null, .int 0, .int 0, .int 0, .int 0]
abbrev cW_6 (cy ci : ClassId) (a : Nat) (q1 q2 q3 q4 q5 q6 : Nat) : va_W := [(a, .inr (12, cF_6 q1 q2 q3 q4 q5 q6)), (q1, .inl (cy, 2000, .inl (fun _ => 0))), (q2, .inl (cy, 80000, .inl (fun _ => 0))), (q3, .inl (ci, 2, .inl (fun _ => 0))), (q4, .inl (ci, 602, .inl (fun _ => 0))), (q5, .inl (ci, 602, .inl (fun _ => 0))), (q6, .inl (ci, 602, .inl (fun _ => 0)))]
abbrev cF_7 (q1 q2 q3 q4 q5 q6 q7 : Nat) : List Value := [.int 0, .int 0, .ref q1, .int 0, .ref q2, .int 0, .int 0, .ref q3, .ref q4, .ref q5, .ref q6, .ref q7, .null, .null, .null, .null, .null, .null, .null, .null, .null, .null, .null, .null, .null, .int 0, .int 0, .int 0, .int 0, .int 0, .null, .null, .null, .int 0, .null, .null, .int 0, .int 0, .int 0, .int 0]
abbrev cW_7 (cy ci : ClassId) (a : Nat) (q1 q2 q3 q4 q5 q6 q7 : Nat) : va_W := [(a, .inr (12, cF_7 q1 q2 q3 q4 q5 q6 q7)), (q1, .inl (cy, 2000, .inl (fun _ => 0))), (q2, .inl (cy, 80000, .inl (fun _ => 0))), (q3, .inl (ci, 2, .inl (fun _ => 0))), (q4, .inl (ci, 602, .inl (fun _ => 0))), (q5, .inl (ci, 602, .inl (fun _ => 0))), (q6, .inl (ci, 602, .inl (fun _ => 0))), (q7, .inl (ci, 602, .inl (fun _ => 0)))]
abbrev cF_8 (q1 q2 q3 q4 q5 q6 q7 q8 : Nat) : List Value := [.int 0, .int 0, .ref q1, .int 0, .ref q2, .int 0, .int 0, .ref q3, .ref q4, .ref q5, .ref q6, .ref q7, .ref q8, .null, .null, .null, .null, .null, .null, .null, .null, .null, .null, .null, .null, .int 0, .int 0, .int 0, .int 0, .int 0, .null, .null, .null, .int 0, .null, .null, .int 0, .int 0, .int 0, .int 0]
abbrev cW_8 (cy ci : ClassId) (a : Nat) (q1 q2 q3 q4 q5 q6 q7 q8 : Nat) : va_W := [(a, .inr (12, cF_8 q1 q2 q3 q4 q5 q6 q7 q8)), (q1, .inl (cy, 2000, .inl (fun _ => 0))), (q2, .inl (cy, 80000, .inl (fun _ => 0))), (q3, .inl (ci, 2, .inl (fun _ => 0))), (q4, .inl (ci, 602, .inl (fun _ => 0))), (q5, .inl (ci, 602, .inl (fun _ => 0))), (q6, .inl (ci, 602, .inl (fun _ => 0))), (q7, .inl (ci, 602, .inl (fun _ => 0))), (q8, .inl (ci, 602, .inl (fun _ => 0)))]
abbrev cF_9 (q1 q2 q3 q4 q5 q6 q7 q8 q9 : Nat) : List Value := [.int 0, .int 0, .ref q1, .int 0, .ref q2, .int 0, .int 0, .ref q3, .ref q4, .ref q5, .ref q6, .ref q7, .ref q8, .ref q9, .null, .null, .null, .null, .null, .null, .null, .null, .null, .null, .null, .int 0, .int 0, .int 0, .int 0, .int 0, .null, .null, .null, .int 0, .null, .null, .int 0, .int 0, .int 0, .int 0]
abbrev cW_9 (cy ci : ClassId) (a : Nat) (q1 q2 q3 q4 q5 q6 q7 q8 q9 : Nat) : va_W := [(a, .inr (12, cF_9 q1 q2 q3 q4 q5 q6 q7 q8 q9)), (q1, .inl (cy, 2000, .inl (fun _ => 0))), (q2, .inl (cy, 80000, .inl (fun _ => 0))), (q3, .inl (ci, 2, .inl (fun _ => 0))), (q4, .inl (ci, 602, .inl (fun _ => 0))), (q5, .inl (ci, 602, .inl (fun _ => 0))), (q6, .inl (ci, 602, .inl (fun _ => 0))), (q7, .inl (ci, 602, .inl (fun _ => 0))), (q8, .inl (ci, 602, .inl (fun _ => 0))), (q9, .inl (ci, 2408, .inl (fun _ => 0)))]
abbrev cF_10 (q1 q2 q3 q4 q5 q6 q7 q8 q9 q10 : Nat) : List Value := [.int 0, .int 0, .ref q1, .int 0, .ref q2, .int 0, .int 0, .ref q3, .ref q4, .ref q5, .ref q6, .ref q7, .ref q8, .ref q9, .ref q10, .null, .null, .null, .null, .null, .null, .null, .null, .null, .null, .int 0, .int 0, .int 0, .int 0, .int 0, .null, .null, .null, .int 0, .null, .null, .int 0, .int 0, .int 0, .int 0]
abbrev cW_10 (cy ci : ClassId) (a : Nat) (q1 q2 q3 q4 q5 q6 q7 q8 q9 q10 : Nat) : va_W := [(a, .inr (12, cF_10 q1 q2 q3 q4 q5 q6 q7 q8 q9 q10)), (q1, .inl (cy, 2000, .inl (fun _ => 0))), (q2, .inl (cy, 80000, .inl (fun _ => 0))), (q3, .inl (ci, 2, .inl (fun _ => 0))), (q4, .inl (ci, 602, .inl (fun _ => 0))), (q5, .inl (ci, 602, .inl (fun _ => 0))), (q6, .inl (ci, 602, .inl (fun _ => 0))), (q7, .inl (ci, 602, .inl (fun _ => 0))), (q8, .inl (ci, 602, .inl (fun _ => 0))), (q9, .inl (ci, 2408, .inl (fun _ => 0))), (q10, .inl (ci, 602, .inl (fun _ => 0)))]
abbrev cF_11 (q1 q2 q3 q4 q5 q6 q7 q8 q9 q10 q11 : Nat) : List Value := [.int 0, .int 0, .ref q1, .int 0, .ref q2, .int 0, .int 0, .ref q3, .ref q4, .ref q5, .ref q6, .ref q7, .ref q8, .ref q9, .ref q10, .ref q11, .null, .null, .null, .null, .null, .null, .null, .null, .null, .int 0, .int 0, .int 0, .int 0, .int 0, .null, .null, .null, .int 0, .null, .null, .int 0, .int 0, .int 0, .int 0]
abbrev cW_11 (cy ci : ClassId) (a : Nat) (q1 q2 q3 q4 q5 q6 q7 q8 q9 q10 q11 : Nat) : va_W := [(a, .inr (12, cF_11 q1 q2 q3 q4 q5 q6 q7 q8 q9 q10 q11)), (q1, .inl (cy, 2000, .inl (fun _ => 0))), (q2, .inl (cy, 80000, .inl (fun _ => 0))), (q3, .inl (ci, 2, .inl (fun _ => 0))), (q4, .inl (ci, 602, .inl (fun _ => 0))), (q5, .inl (ci, 602, .inl (fun _ => 0))), (q6, .inl (ci, 602, .inl (fun _ => 0))), (q7, .inl (ci, 602, .inl (fun _ => 0))), (q8, .inl (ci, 602, .inl (fun _ => 0))), (q9, .inl (ci, 2408, .inl (fun _ => 0))), (q10, .inl (ci, 602, .inl (fun _ => 0))), (q11, .inl (cy, 120400, .inl (fun _ => 0)))]
abbrev cF_12 (q1 q2 q3 q4 q5 q6 q7 q8 q9 q10 q11 q12 : Nat) : List Value := [.int 0, .int 0, .ref q1, .int 0, .ref q2, .int 0, .int 0, .ref q3, .ref q4, .ref q5, .ref q6, .ref q7, .ref q8, .ref q9, .ref q10, .ref q11, .ref q12, .null, .null, .null, .null, .null, .null, .null, .null, .int 0, .int 0, .int 0, .int 0, .int 0, .null, .null, .null, .int 0, .null, .null, .int 0, .int 0, .int 0, .int 0]
abbrev cW_12 (cy ci : ClassId) (a : Nat) (q1 q2 q3 q4 q5 q6 q7 q8 q9 q10 q11 q12 : Nat) : va_W := [(a, .inr (12, cF_12 q1 q2 q3 q4 q5 q6 q7 q8 q9 q10 q11 q12)), (q1, .inl (cy, 2000, .inl (fun _ => 0))), (q2, .inl (cy, 80000, .inl (fun _ => 0))), (q3, .inl (ci, 2, .inl (fun _ => 0))), (q4, .inl (ci, 602, .inl (fun _ => 0))), (q5, .inl (ci, 602, .inl (fun _ => 0))), (q6, .inl (ci, 602, .inl (fun _ => 0))), (q7, .inl (ci, 602, .inl (fun _ => 0))), (q8, .inl (ci, 602, .inl (fun _ => 0))), (q9, .inl (ci, 2408, .inl (fun _ => 0))), (q10, .inl (ci, 602, .inl (fun _ => 0))), (q11, .inl (cy, 120400, .inl (fun _ => 0))), (q12, .inl (ci, 128, .inl (fun _ => 0)))]
abbrev cF_13 (q1 q2 q3 q4 q5 q6 q7 q8 q9 q10 q11 q12 q13 : Nat) : List Value := [.int 0, .int 0, .ref q1, .int 0, .ref q2, .int 0, .int 0, .ref q3, .ref q4, .ref q5, .ref q6, .ref q7, .ref q8, .ref q9, .ref q10, .ref q11, .ref q12, .ref q13, .null, .null, .null, .null, .null, .null, .null, .int 0, .int 0, .int 0, .int 0, .int 0, .null, .null, .null, .int 0, .null, .null, .int 0, .int 0, .int 0, .int 0]
abbrev cW_13 (cy ci : ClassId) (a : Nat) (q1 q2 q3 q4 q5 q6 q7 q8 q9 q10 q11 q12 q13 : Nat) : va_W := [(a, .inr (12, cF_13 q1 q2 q3 q4 q5 q6 q7 q8 q9 q10 q11 q12 q13)), (q1, .inl (cy, 2000, .inl (fun _ => 0))), (q2, .inl (cy, 80000, .inl (fun _ => 0))), (q3, .inl (ci, 2, .inl (fun _ => 0))), (q4, .inl (ci, 602, .inl (fun _ => 0))), (q5, .inl (ci, 602, .inl (fun _ => 0))), (q6, .inl (ci, 602, .inl (fun _ => 0))), (q7, .inl (ci, 602, .inl (fun _ => 0))), (q8, .inl (ci, 602, .inl (fun _ => 0))), (q9, .inl (ci, 2408, .inl (fun _ => 0))), (q10, .inl (ci, 602, .inl (fun _ => 0))), (q11, .inl (cy, 120400, .inl (fun _ => 0))), (q12, .inl (ci, 128, .inl (fun _ => 0))), (q13, .inl (ci, 10, .inl (fun _ => 0)))]
abbrev cF_14 (q1 q2 q3 q4 q5 q6 q7 q8 q9 q10 q11 q12 q13 q14 : Nat) : List Value := [.int 0, .int 0, .ref q1, .int 0, .ref q2, .int 0, .int 0, .ref q3, .ref q4, .ref q5, .ref q6, .ref q7, .ref q8, .ref q9, .ref q10, .ref q11, .ref q12, .ref q13, .ref q14, .null, .null, .null, .null, .null, .null, .int 0, .int 0, .int 0, .int 0, .int 0, .null, .null, .null, .int 0, .null, .null, .int 0, .int 0, .int 0, .int 0]
abbrev cW_14 (cy ci : ClassId) (a : Nat) (q1 q2 q3 q4 q5 q6 q7 q8 q9 q10 q11 q12 q13 q14 : Nat) : va_W := [(a, .inr (12, cF_14 q1 q2 q3 q4 q5 q6 q7 q8 q9 q10 q11 q12 q13 q14)), (q1, .inl (cy, 2000, .inl (fun _ => 0))), (q2, .inl (cy, 80000, .inl (fun _ => 0))), (q3, .inl (ci, 2, .inl (fun _ => 0))), (q4, .inl (ci, 602, .inl (fun _ => 0))), (q5, .inl (ci, 602, .inl (fun _ => 0))), (q6, .inl (ci, 602, .inl (fun _ => 0))), (q7, .inl (ci, 602, .inl (fun _ => 0))), (q8, .inl (ci, 602, .inl (fun _ => 0))), (q9, .inl (ci, 2408, .inl (fun _ => 0))), (q10, .inl (ci, 602, .inl (fun _ => 0))), (q11, .inl (cy, 120400, .inl (fun _ => 0))), (q12, .inl (ci, 128, .inl (fun _ => 0))), (q13, .inl (ci, 10, .inl (fun _ => 0))), (q14, .inl (ci, 2, .inl (fun _ => 0)))]
abbrev cF_15 (q1 q2 q3 q4 q5 q6 q7 q8 q9 q10 q11 q12 q13 q14 q15 : Nat) : List Value := [.int 0, .int 0, .ref q1, .int 0, .ref q2, .int 0, .int 0, .ref q3, .ref q4, .ref q5, .ref q6, .ref q7, .ref q8, .ref q9, .ref q10, .ref q11, .ref q12, .ref q13, .ref q14, .ref q15, .null, .null, .null, .null, .null, .int 0, .int 0, .int 0, .int 0, .int 0, .null, .null, .null, .int 0, .null, .null, .int 0, .int 0, .int 0, .int 0]
abbrev cW_15 (cy ci : ClassId) (a : Nat) (q1 q2 q3 q4 q5 q6 q7 q8 q9 q10 q11 q12 q13 q14 q15 : Nat) : va_W := [(a, .inr (12, cF_15 q1 q2 q3 q4 q5 q6 q7 q8 q9 q10 q11 q12 q13 q14 q15)), (q1, .inl (cy, 2000, .inl (fun _ => 0))), (q2, .inl (cy, 80000, .inl (fun _ => 0))), (q3, .inl (ci, 2, .inl (fun _ => 0))), (q4, .inl (ci, 602, .inl (fun _ => 0))), (q5, .inl (ci, 602, .inl (fun _ => 0))), (q6, .inl (ci, 602, .inl (fun _ => 0))), (q7, .inl (ci, 602, .inl (fun _ => 0))), (q8, .inl (ci, 602, .inl (fun _ => 0))), (q9, .inl (ci, 2408, .inl (fun _ => 0))), (q10, .inl (ci, 602, .inl (fun _ => 0))), (q11, .inl (cy, 120400, .inl (fun _ => 0))), (q12, .inl (ci, 128, .inl (fun _ => 0))), (q13, .inl (ci, 10, .inl (fun _ => 0))), (q14, .inl (ci, 2, .inl (fun _ => 0))), (q15, .inl (ci, 16, .inl (fun _ => 0)))]
abbrev cF_16 (q1 q2 q3 q4 q5 q6 q7 q8 q9 q10 q11 q12 q13 q14 q15 q16 : Nat) : List Value := [.int 0, .int 0, .ref q1, .int 0, .ref q2, .int 0, .int 0, .ref q3, .ref q4, .ref q5, .ref q6, .ref q7, .ref q8, .ref q9, .ref q10, .ref q11, .ref q12, .ref q13, .ref q14, .ref q15, .ref q16, .null, .null, .null, .null, .int 0, .int 0, .int 0, .int 0, .int 0, .null, .null, .null, .int 0, .null, .null, .int 0, .int 0, .int 0, .int 0]
abbrev cW_16 (cy ci : ClassId) (a : Nat) (q1 q2 q3 q4 q5 q6 q7 q8 q9 q10 q11 q12 q13 q14 q15 q16 : Nat) : va_W := [(a, .inr (12, cF_16 q1 q2 q3 q4 q5 q6 q7 q8 q9 q10 q11 q12 q13 q14 q15 q16)), (q1, .inl (cy, 2000, .inl (fun _ => 0))), (q2, .inl (cy, 80000, .inl (fun _ => 0))), (q3, .inl (ci, 2, .inl (fun _ => 0))), (q4, .inl (ci, 602, .inl (fun _ => 0))), (q5, .inl (ci, 602, .inl (fun _ => 0))), (q6, .inl (ci, 602, .inl (fun _ => 0))), (q7, .inl (ci, 602, .inl (fun _ => 0))), (q8, .inl (ci, 602, .inl (fun _ => 0))), (q9, .inl (ci, 2408, .inl (fun _ => 0))), (q10, .inl (ci, 602, .inl (fun _ => 0))), (q11, .inl (cy, 120400, .inl (fun _ => 0))), (q12, .inl (ci, 128, .inl (fun _ => 0))), (q13, .inl (ci, 10, .inl (fun _ => 0))), (q14, .inl (ci, 2, .inl (fun _ => 0))), (q15, .inl (ci, 16, .inl (fun _ => 0))), (q16, .inl (cy, 192, .inl (fun _ => 0)))]
abbrev cF_17 (q1 q2 q3 q4 q5 q6 q7 q8 q9 q10 q11 q12 q13 q14 q15 q16 q17 : Nat) : List Value := [.int 0, .int 0, .ref q1, .int 0, .ref q2, .int 0, .int 0, .ref q3, .ref q4, .ref q5, .ref q6, .ref q7, .ref q8, .ref q9, .ref q10, .ref q11, .ref q12, .ref q13, .ref q14, .ref q15, .ref q16, .ref q17, .null, .null, .null, .int 0, .int 0, .int 0, .int 0, .int 0, .null, .null, .null, .int 0, .null, .null, .int 0, .int 0, .int 0, .int 0]
abbrev cW_17 (cy ci : ClassId) (a : Nat) (q1 q2 q3 q4 q5 q6 q7 q8 q9 q10 q11 q12 q13 q14 q15 q16 q17 : Nat) : va_W := [(a, .inr (12, cF_17 q1 q2 q3 q4 q5 q6 q7 q8 q9 q10 q11 q12 q13 q14 q15 q16 q17)), (q1, .inl (cy, 2000, .inl (fun _ => 0))), (q2, .inl (cy, 80000, .inl (fun _ => 0))), (q3, .inl (ci, 2, .inl (fun _ => 0))), (q4, .inl (ci, 602, .inl (fun _ => 0))), (q5, .inl (ci, 602, .inl (fun _ => 0))), (q6, .inl (ci, 602, .inl (fun _ => 0))), (q7, .inl (ci, 602, .inl (fun _ => 0))), (q8, .inl (ci, 602, .inl (fun _ => 0))), (q9, .inl (ci, 2408, .inl (fun _ => 0))), (q10, .inl (ci, 602, .inl (fun _ => 0))), (q11, .inl (cy, 120400, .inl (fun _ => 0))), (q12, .inl (ci, 128, .inl (fun _ => 0))), (q13, .inl (ci, 10, .inl (fun _ => 0))), (q14, .inl (ci, 2, .inl (fun _ => 0))), (q15, .inl (ci, 16, .inl (fun _ => 0))), (q16, .inl (cy, 192, .inl (fun _ => 0))), (q17, .inl (ci, 16, .inl (fun _ => 0)))]
abbrev cF_18 (q1 q2 q3 q4 q5 q6 q7 q8 q9 q10 q11 q12 q13 q14 q15 q16 q17 q18 : Nat) : List Value := [.int 0, .int 0, .ref q1, .int 0, .ref q2, .int 0, .int 0, .ref q3, .ref q4, .ref q5, .ref q6, .ref q7, .ref q8, .ref q9, .ref q10, .ref q11, .ref q12, .ref q13, .ref q14, .ref q15, .ref q16, .ref q17, .ref q18, .null, .null, .int 0, .int 0, .int 0, .int 0, .int 0, .null, .null, .null, .int 0, .null, .null, .int 0, .int 0, .int 0, .int 0]
abbrev cW_18 (cy ci : ClassId) (a : Nat) (q1 q2 q3 q4 q5 q6 q7 q8 q9 q10 q11 q12 q13 q14 q15 q16 q17 q18 : Nat) : va_W := [(a, .inr (12, cF_18 q1 q2 q3 q4 q5 q6 q7 q8 q9 q10 q11 q12 q13 q14 q15 q16 q17 q18)), (q1, .inl (cy, 2000, .inl (fun _ => 0))), (q2, .inl (cy, 80000, .inl (fun _ => 0))), (q3, .inl (ci, 2, .inl (fun _ => 0))), (q4, .inl (ci, 602, .inl (fun _ => 0))), (q5, .inl (ci, 602, .inl (fun _ => 0))), (q6, .inl (ci, 602, .inl (fun _ => 0))), (q7, .inl (ci, 602, .inl (fun _ => 0))), (q8, .inl (ci, 602, .inl (fun _ => 0))), (q9, .inl (ci, 2408, .inl (fun _ => 0))), (q10, .inl (ci, 602, .inl (fun _ => 0))), (q11, .inl (cy, 120400, .inl (fun _ => 0))), (q12, .inl (ci, 128, .inl (fun _ => 0))), (q13, .inl (ci, 10, .inl (fun _ => 0))), (q14, .inl (ci, 2, .inl (fun _ => 0))), (q15, .inl (ci, 16, .inl (fun _ => 0))), (q16, .inl (cy, 192, .inl (fun _ => 0))), (q17, .inl (ci, 16, .inl (fun _ => 0))), (q18, .inl (cy, 1536, .inl (fun _ => 0)))]
abbrev cF_19 (q1 q2 q3 q4 q5 q6 q7 q8 q9 q10 q11 q12 q13 q14 q15 q16 q17 q18 q19 : Nat) : List Value := [.int 0, .int 0, .ref q1, .int 0, .ref q2, .int 0, .int 0, .ref q3, .ref q4, .ref q5, .ref q6, .ref q7, .ref q8, .ref q9, .ref q10, .ref q11, .ref q12, .ref q13, .ref q14, .ref q15, .ref q16, .ref q17, .ref q18, .ref q19, .null, .int 0, .int 0, .int 0, .int 0, .int 0, .null, .null, .null, .int 0, .null, .null, .int 0, .int 0, .int 0, .int 0]
abbrev cW_19 (cy ci : ClassId) (a : Nat) (q1 q2 q3 q4 q5 q6 q7 q8 q9 q10 q11 q12 q13 q14 q15 q16 q17 q18 q19 : Nat) : va_W := [(a, .inr (12, cF_19 q1 q2 q3 q4 q5 q6 q7 q8 q9 q10 q11 q12 q13 q14 q15 q16 q17 q18 q19)), (q1, .inl (cy, 2000, .inl (fun _ => 0))), (q2, .inl (cy, 80000, .inl (fun _ => 0))), (q3, .inl (ci, 2, .inl (fun _ => 0))), (q4, .inl (ci, 602, .inl (fun _ => 0))), (q5, .inl (ci, 602, .inl (fun _ => 0))), (q6, .inl (ci, 602, .inl (fun _ => 0))), (q7, .inl (ci, 602, .inl (fun _ => 0))), (q8, .inl (ci, 602, .inl (fun _ => 0))), (q9, .inl (ci, 2408, .inl (fun _ => 0))), (q10, .inl (ci, 602, .inl (fun _ => 0))), (q11, .inl (cy, 120400, .inl (fun _ => 0))), (q12, .inl (ci, 128, .inl (fun _ => 0))), (q13, .inl (ci, 10, .inl (fun _ => 0))), (q14, .inl (ci, 2, .inl (fun _ => 0))), (q15, .inl (ci, 16, .inl (fun _ => 0))), (q16, .inl (cy, 192, .inl (fun _ => 0))), (q17, .inl (ci, 16, .inl (fun _ => 0))), (q18, .inl (cy, 1536, .inl (fun _ => 0))), (q19, .inl (ci, 2, .inl (fun _ => 0)))]
abbrev cF_20 (q1 q2 q3 q4 q5 q6 q7 q8 q9 q10 q11 q12 q13 q14 q15 q16 q17 q18 q19 q20 : Nat) : List Value := [.int 0, .int 0, .ref q1, .int 0, .ref q2, .int 0, .int 0, .ref q3, .ref q4, .ref q5, .ref q6, .ref q7, .ref q8, .ref q9, .ref q10, .ref q11, .ref q12, .ref q13, .ref q14, .ref q15, .ref q16, .ref q17, .ref q18, .ref q19, .ref q20, .int 0, .int 0, .int 0, .int 0, .int 0, .null, .null, .null, .int 0, .null, .null, .int 0, .int 0, .int 0, .int 0]
abbrev cW_20 (cy ci : ClassId) (a : Nat) (q1 q2 q3 q4 q5 q6 q7 q8 q9 q10 q11 q12 q13 q14 q15 q16 q17 q18 q19 q20 : Nat) : va_W := [(a, .inr (12, cF_20 q1 q2 q3 q4 q5 q6 q7 q8 q9 q10 q11 q12 q13 q14 q15 q16 q17 q18 q19 q20)), (q1, .inl (cy, 2000, .inl (fun _ => 0))), (q2, .inl (cy, 80000, .inl (fun _ => 0))), (q3, .inl (ci, 2, .inl (fun _ => 0))), (q4, .inl (ci, 602, .inl (fun _ => 0))), (q5, .inl (ci, 602, .inl (fun _ => 0))), (q6, .inl (ci, 602, .inl (fun _ => 0))), (q7, .inl (ci, 602, .inl (fun _ => 0))), (q8, .inl (ci, 602, .inl (fun _ => 0))), (q9, .inl (ci, 2408, .inl (fun _ => 0))), (q10, .inl (ci, 602, .inl (fun _ => 0))), (q11, .inl (cy, 120400, .inl (fun _ => 0))), (q12, .inl (ci, 128, .inl (fun _ => 0))), (q13, .inl (ci, 10, .inl (fun _ => 0))), (q14, .inl (ci, 2, .inl (fun _ => 0))), (q15, .inl (ci, 16, .inl (fun _ => 0))), (q16, .inl (cy, 192, .inl (fun _ => 0))), (q17, .inl (ci, 16, .inl (fun _ => 0))), (q18, .inl (cy, 1536, .inl (fun _ => 0))), (q19, .inl (ci, 2, .inl (fun _ => 0))), (q20, .inl (ci, 64, .inl (fun _ => 0)))]
abbrev cF_21 (q1 q2 q3 q4 q5 q6 q7 q8 q9 q10 q11 q12 q13 q14 q15 q16 q17 q18 q19 q20 q21 : Nat) : List Value := [.int 0, .int 0, .ref q1, .int 0, .ref q2, .int 0, .int 0, .ref q3, .ref q4, .ref q5, .ref q6, .ref q7, .ref q8, .ref q9, .ref q10, .ref q11, .ref q12, .ref q13, .ref q14, .ref q15, .ref q16, .ref q17, .ref q18, .ref q19, .ref q20, .int 0, .int 0, .int 0, .int 0, .int 0, .ref q21, .null, .null, .int 0, .null, .null, .int 0, .int 0, .int 0, .int 0]
abbrev cW_21 (cy ci : ClassId) (a : Nat) (q1 q2 q3 q4 q5 q6 q7 q8 q9 q10 q11 q12 q13 q14 q15 q16 q17 q18 q19 q20 q21 : Nat) : va_W := [(a, .inr (12, cF_21 q1 q2 q3 q4 q5 q6 q7 q8 q9 q10 q11 q12 q13 q14 q15 q16 q17 q18 q19 q20 q21)), (q1, .inl (cy, 2000, .inl (fun _ => 0))), (q2, .inl (cy, 80000, .inl (fun _ => 0))), (q3, .inl (ci, 2, .inl (fun _ => 0))), (q4, .inl (ci, 602, .inl (fun _ => 0))), (q5, .inl (ci, 602, .inl (fun _ => 0))), (q6, .inl (ci, 602, .inl (fun _ => 0))), (q7, .inl (ci, 602, .inl (fun _ => 0))), (q8, .inl (ci, 602, .inl (fun _ => 0))), (q9, .inl (ci, 2408, .inl (fun _ => 0))), (q10, .inl (ci, 602, .inl (fun _ => 0))), (q11, .inl (cy, 120400, .inl (fun _ => 0))), (q12, .inl (ci, 128, .inl (fun _ => 0))), (q13, .inl (ci, 10, .inl (fun _ => 0))), (q14, .inl (ci, 2, .inl (fun _ => 0))), (q15, .inl (ci, 16, .inl (fun _ => 0))), (q16, .inl (cy, 192, .inl (fun _ => 0))), (q17, .inl (ci, 16, .inl (fun _ => 0))), (q18, .inl (cy, 1536, .inl (fun _ => 0))), (q19, .inl (ci, 2, .inl (fun _ => 0))), (q20, .inl (ci, 64, .inl (fun _ => 0))), (q21, .inl (ci, 64, .inl (fun _ => 0)))]
abbrev cF_22 (q1 q2 q3 q4 q5 q6 q7 q8 q9 q10 q11 q12 q13 q14 q15 q16 q17 q18 q19 q20 q21 q22 : Nat) : List Value := [.int 0, .int 0, .ref q1, .int 0, .ref q2, .int 0, .int 0, .ref q3, .ref q4, .ref q5, .ref q6, .ref q7, .ref q8, .ref q9, .ref q10, .ref q11, .ref q12, .ref q13, .ref q14, .ref q15, .ref q16, .ref q17, .ref q18, .ref q19, .ref q20, .int 0, .int 0, .int 0, .int 0, .int 0, .ref q21, .ref q22, .null, .int 0, .null, .null, .int 0, .int 0, .int 0, .int 0]
abbrev cW_22 (cy ci : ClassId) (a : Nat) (q1 q2 q3 q4 q5 q6 q7 q8 q9 q10 q11 q12 q13 q14 q15 q16 q17 q18 q19 q20 q21 q22 : Nat) : va_W := [(a, .inr (12, cF_22 q1 q2 q3 q4 q5 q6 q7 q8 q9 q10 q11 q12 q13 q14 q15 q16 q17 q18 q19 q20 q21 q22)), (q1, .inl (cy, 2000, .inl (fun _ => 0))), (q2, .inl (cy, 80000, .inl (fun _ => 0))), (q3, .inl (ci, 2, .inl (fun _ => 0))), (q4, .inl (ci, 602, .inl (fun _ => 0))), (q5, .inl (ci, 602, .inl (fun _ => 0))), (q6, .inl (ci, 602, .inl (fun _ => 0))), (q7, .inl (ci, 602, .inl (fun _ => 0))), (q8, .inl (ci, 602, .inl (fun _ => 0))), (q9, .inl (ci, 2408, .inl (fun _ => 0))), (q10, .inl (ci, 602, .inl (fun _ => 0))), (q11, .inl (cy, 120400, .inl (fun _ => 0))), (q12, .inl (ci, 128, .inl (fun _ => 0))), (q13, .inl (ci, 10, .inl (fun _ => 0))), (q14, .inl (ci, 2, .inl (fun _ => 0))), (q15, .inl (ci, 16, .inl (fun _ => 0))), (q16, .inl (cy, 192, .inl (fun _ => 0))), (q17, .inl (ci, 16, .inl (fun _ => 0))), (q18, .inl (cy, 1536, .inl (fun _ => 0))), (q19, .inl (ci, 2, .inl (fun _ => 0))), (q20, .inl (ci, 64, .inl (fun _ => 0))), (q21, .inl (ci, 64, .inl (fun _ => 0))), (q22, .inl (ci, 5, .inl (fun _ => 0)))]
abbrev cF_23 (q1 q2 q3 q4 q5 q6 q7 q8 q9 q10 q11 q12 q13 q14 q15 q16 q17 q18 q19 q20 q21 q22 q23 : Nat) : List Value := [.int 0, .int 0, .ref q1, .int 0, .ref q2, .int 0, .int 0, .ref q3, .ref q4, .ref q5, .ref q6, .ref q7, .ref q8, .ref q9, .ref q10, .ref q11, .ref q12, .ref q13, .ref q14, .ref q15, .ref q16, .ref q17, .ref q18, .ref q19, .ref q20, .int 0, .int 0, .int 0, .int 0, .int 0, .ref q21, .ref q22, .ref q23, .int 0, .null, .null, .int 0, .int 0, .int 0, .int 0]
abbrev cW_23 (cy ci : ClassId) (a : Nat) (q1 q2 q3 q4 q5 q6 q7 q8 q9 q10 q11 q12 q13 q14 q15 q16 q17 q18 q19 q20 q21 q22 q23 : Nat) : va_W := [(a, .inr (12, cF_23 q1 q2 q3 q4 q5 q6 q7 q8 q9 q10 q11 q12 q13 q14 q15 q16 q17 q18 q19 q20 q21 q22 q23)), (q1, .inl (cy, 2000, .inl (fun _ => 0))), (q2, .inl (cy, 80000, .inl (fun _ => 0))), (q3, .inl (ci, 2, .inl (fun _ => 0))), (q4, .inl (ci, 602, .inl (fun _ => 0))), (q5, .inl (ci, 602, .inl (fun _ => 0))), (q6, .inl (ci, 602, .inl (fun _ => 0))), (q7, .inl (ci, 602, .inl (fun _ => 0))), (q8, .inl (ci, 602, .inl (fun _ => 0))), (q9, .inl (ci, 2408, .inl (fun _ => 0))), (q10, .inl (ci, 602, .inl (fun _ => 0))), (q11, .inl (cy, 120400, .inl (fun _ => 0))), (q12, .inl (ci, 128, .inl (fun _ => 0))), (q13, .inl (ci, 10, .inl (fun _ => 0))), (q14, .inl (ci, 2, .inl (fun _ => 0))), (q15, .inl (ci, 16, .inl (fun _ => 0))), (q16, .inl (cy, 192, .inl (fun _ => 0))), (q17, .inl (ci, 16, .inl (fun _ => 0))), (q18, .inl (cy, 1536, .inl (fun _ => 0))), (q19, .inl (ci, 2, .inl (fun _ => 0))), (q20, .inl (ci, 64, .inl (fun _ => 0))), (q21, .inl (ci, 64, .inl (fun _ => 0))), (q22, .inl (ci, 5, .inl (fun _ => 0))), (q23, .inl (ci, 2048, .inl (fun _ => 0)))]
abbrev cF_24 (q1 q2 q3 q4 q5 q6 q7 q8 q9 q10 q11 q12 q13 q14 q15 q16 q17 q18 q19 q20 q21 q22 q23 q24 : Nat) : List Value := [.int 0, .int 0, .ref q1, .int 0, .ref q2, .int 0, .int 0, .ref q3, .ref q4, .ref q5, .ref q6, .ref q7, .ref q8, .ref q9, .ref q10, .ref q11, .ref q12, .ref q13, .ref q14, .ref q15, .ref q16, .ref q17, .ref q18, .ref q19, .ref q20, .int 0, .int 0, .int 0, .int 0, .int 0, .ref q21, .ref q22, .ref q23, .int 0, .ref q24, .null, .int 0, .int 0, .int 0, .int 0]
abbrev cW_24 (cy ci : ClassId) (a : Nat) (q1 q2 q3 q4 q5 q6 q7 q8 q9 q10 q11 q12 q13 q14 q15 q16 q17 q18 q19 q20 q21 q22 q23 q24 : Nat) : va_W := [(a, .inr (12, cF_24 q1 q2 q3 q4 q5 q6 q7 q8 q9 q10 q11 q12 q13 q14 q15 q16 q17 q18 q19 q20 q21 q22 q23 q24)), (q1, .inl (cy, 2000, .inl (fun _ => 0))), (q2, .inl (cy, 80000, .inl (fun _ => 0))), (q3, .inl (ci, 2, .inl (fun _ => 0))), (q4, .inl (ci, 602, .inl (fun _ => 0))), (q5, .inl (ci, 602, .inl (fun _ => 0))), (q6, .inl (ci, 602, .inl (fun _ => 0))), (q7, .inl (ci, 602, .inl (fun _ => 0))), (q8, .inl (ci, 602, .inl (fun _ => 0))), (q9, .inl (ci, 2408, .inl (fun _ => 0))), (q10, .inl (ci, 602, .inl (fun _ => 0))), (q11, .inl (cy, 120400, .inl (fun _ => 0))), (q12, .inl (ci, 128, .inl (fun _ => 0))), (q13, .inl (ci, 10, .inl (fun _ => 0))), (q14, .inl (ci, 2, .inl (fun _ => 0))), (q15, .inl (ci, 16, .inl (fun _ => 0))), (q16, .inl (cy, 192, .inl (fun _ => 0))), (q17, .inl (ci, 16, .inl (fun _ => 0))), (q18, .inl (cy, 1536, .inl (fun _ => 0))), (q19, .inl (ci, 2, .inl (fun _ => 0))), (q20, .inl (ci, 64, .inl (fun _ => 0))), (q21, .inl (ci, 64, .inl (fun _ => 0))), (q22, .inl (ci, 5, .inl (fun _ => 0))), (q23, .inl (ci, 2048, .inl (fun _ => 0))), (q24, .inl (ci, 301, .inl (fun _ => 0)))]
abbrev cF_25 (q1 q2 q3 q4 q5 q6 q7 q8 q9 q10 q11 q12 q13 q14 q15 q16 q17 q18 q19 q20 q21 q22 q23 q24 q25 : Nat) : List Value := [.int 0, .int 0, .ref q1, .int 0, .ref q2, .int 0, .int 0, .ref q3, .ref q4, .ref q5, .ref q6, .ref q7, .ref q8, .ref q9, .ref q10, .ref q11, .ref q12, .ref q13, .ref q14, .ref q15, .ref q16, .ref q17, .ref q18, .ref q19, .ref q20, .int 0, .int 0, .int 0, .int 0, .int 0, .ref q21, .ref q22, .ref q23, .int 0, .ref q24, .ref q25, .int 0, .int 0, .int 0, .int 0]
abbrev cW_25 (cy ci : ClassId) (a : Nat) (q1 q2 q3 q4 q5 q6 q7 q8 q9 q10 q11 q12 q13 q14 q15 q16 q17 q18 q19 q20 q21 q22 q23 q24 q25 : Nat) : va_W := [(a, .inr (12, cF_25 q1 q2 q3 q4 q5 q6 q7 q8 q9 q10 q11 q12 q13 q14 q15 q16 q17 q18 q19 q20 q21 q22 q23 q24 q25)), (q1, .inl (cy, 2000, .inl (fun _ => 0))), (q2, .inl (cy, 80000, .inl (fun _ => 0))), (q3, .inl (ci, 2, .inl (fun _ => 0))), (q4, .inl (ci, 602, .inl (fun _ => 0))), (q5, .inl (ci, 602, .inl (fun _ => 0))), (q6, .inl (ci, 602, .inl (fun _ => 0))), (q7, .inl (ci, 602, .inl (fun _ => 0))), (q8, .inl (ci, 602, .inl (fun _ => 0))), (q9, .inl (ci, 2408, .inl (fun _ => 0))), (q10, .inl (ci, 602, .inl (fun _ => 0))), (q11, .inl (cy, 120400, .inl (fun _ => 0))), (q12, .inl (ci, 128, .inl (fun _ => 0))), (q13, .inl (ci, 10, .inl (fun _ => 0))), (q14, .inl (ci, 2, .inl (fun _ => 0))), (q15, .inl (ci, 16, .inl (fun _ => 0))), (q16, .inl (cy, 192, .inl (fun _ => 0))), (q17, .inl (ci, 16, .inl (fun _ => 0))), (q18, .inl (cy, 1536, .inl (fun _ => 0))), (q19, .inl (ci, 2, .inl (fun _ => 0))), (q20, .inl (ci, 64, .inl (fun _ => 0))), (q21, .inl (ci, 64, .inl (fun _ => 0))), (q22, .inl (ci, 5, .inl (fun _ => 0))), (q23, .inl (ci, 2048, .inl (fun _ => 0))), (q24, .inl (ci, 301, .inl (fun _ => 0))), (q25, .inl (cy, 16, .inl (fun _ => 0)))]
def cH (a q1 q2 q3 q4 q5 q6 q7 q8 q9 q10 q11 q12 q13 q14 q15 q16 q17 q18 q19 q20 q21 q22 q23 q24 q25 : Nat) : Nat → Nat := fun k => match k with
  | 0 => a
  | 2 => q1
  | 4 => q2
  | 7 => q3
  | 8 => q4
  | 9 => q5
  | 10 => q6
  | 11 => q7
  | 12 => q8
  | 13 => q9
  | 14 => q10
  | 15 => q11
  | 16 => q12
  | 17 => q13
  | 18 => q14
  | 19 => q15
  | 20 => q16
  | 21 => q17
  | 22 => q18
  | 23 => q19
  | 24 => q20
  | 30 => q21
  | 31 => q22
  | 32 => q23
  | 34 => q24
  | 35 => q25
  | _ => 0
theorem cH_W {cy ci : ClassId} {a q1 q2 q3 q4 q5 q6 q7 q8 q9 q10 q11 q12 q13 q14 q15 q16 q17 q18 q19 q20 q21 q22 q23 q24 q25 : Nat} : cW_25 cy ci a q1 q2 q3 q4 q5 q6 q7 q8 q9 q10 q11 q12 q13 q14 q15 q16 q17 q18 q19 q20 q21 q22 q23 q24 q25 = mW cy ci (cH a q1 q2 q3 q4 q5 q6 q7 q8 q9 q10 q11 q12 q13 q14 q15 q16 q17 q18 q19 q20 q21 q22 q23 q24 q25) (fun _ => 0) (fun _ _ => 0) := rfl
theorem fl_X12_init_2 : Cond.fieldLink RX12 7 "MoveTextsModel" "text" "[C" ∈ wsX12_init := by decide +kernel
theorem fl_X12_init_4 : Cond.fieldLink RX12 14 "MoveTextsModel" "out" "[C" ∈ wsX12_init := by decide +kernel
theorem fl_X12_init_7 : Cond.fieldLink RX12 17 "MoveTextsModel" "count" "[I" ∈ wsX12_init := by decide +kernel
theorem fl_X12_init_8 : Cond.fieldLink RX12 21 "MoveTextsModel" "parent" "[I" ∈ wsX12_init := by decide +kernel
theorem fl_X12_init_9 : Cond.fieldLink RX12 24 "MoveTextsModel" "moveOf" "[I" ∈ wsX12_init := by decide +kernel
theorem fl_X12_init_10 : Cond.fieldLink RX12 27 "MoveTextsModel" "child" "[I" ∈ wsX12_init := by decide +kernel
theorem fl_X12_init_11 : Cond.fieldLink RX12 30 "MoveTextsModel" "next" "[I" ∈ wsX12_init := by decide +kernel
theorem fl_X12_init_12 : Cond.fieldLink RX12 33 "MoveTextsModel" "markCount" "[I" ∈ wsX12_init := by decide +kernel
theorem fl_X12_init_13 : Cond.fieldLink RX12 36 "MoveTextsModel" "marks" "[I" ∈ wsX12_init := by decide +kernel
theorem fl_X12_init_14 : Cond.fieldLink RX12 39 "MoveTextsModel" "remarkSize" "[I" ∈ wsX12_init := by decide +kernel
theorem fl_X12_init_15 : Cond.fieldLink RX12 43 "MoveTextsModel" "remarks" "[C" ∈ wsX12_init := by decide +kernel
theorem fl_X12_init_16 : Cond.fieldLink RX12 46 "MoveTextsModel" "startMen" "[I" ∈ wsX12_init := by decide +kernel
theorem fl_X12_init_17 : Cond.fieldLink RX12 49 "MoveTextsModel" "startRest" "[I" ∈ wsX12_init := by decide +kernel
theorem fl_X12_init_18 : Cond.fieldLink RX12 52 "MoveTextsModel" "tagCount" "[I" ∈ wsX12_init := by decide +kernel
theorem fl_X12_init_19 : Cond.fieldLink RX12 55 "MoveTextsModel" "nameSize" "[I" ∈ wsX12_init := by decide +kernel
theorem fl_X12_init_20 : Cond.fieldLink RX12 58 "MoveTextsModel" "names" "[C" ∈ wsX12_init := by decide +kernel
theorem fl_X12_init_21 : Cond.fieldLink RX12 61 "MoveTextsModel" "valueSize" "[I" ∈ wsX12_init := by decide +kernel
theorem fl_X12_init_22 : Cond.fieldLink RX12 64 "MoveTextsModel" "values" "[C" ∈ wsX12_init := by decide +kernel
theorem fl_X12_init_23 : Cond.fieldLink RX12 67 "MoveTextsModel" "results" "[I" ∈ wsX12_init := by decide +kernel
theorem fl_X12_init_24 : Cond.fieldLink RX12 70 "MoveTextsModel" "men" "[I" ∈ wsX12_init := by decide +kernel
theorem fl_X12_init_30 : Cond.fieldLink RX12 73 "MoveTextsModel" "keptMen" "[I" ∈ wsX12_init := by decide +kernel
theorem fl_X12_init_31 : Cond.fieldLink RX12 76 "MoveTextsModel" "keptRest" "[I" ∈ wsX12_init := by decide +kernel
theorem fl_X12_init_32 : Cond.fieldLink RX12 79 "MoveTextsModel" "list" "[I" ∈ wsX12_init := by decide +kernel
theorem fl_X12_init_34 : Cond.fieldLink RX12 82 "MoveTextsModel" "path" "[I" ∈ wsX12_init := by decide +kernel
theorem fl_X12_init_35 : Cond.fieldLink RX12 85 "MoveTextsModel" "spelled" "[C" ∈ wsX12_init := by decide +kernel
theorem hw_X12_init : ∀ w ∈ wsX120, w ∈ wsX12_init := by decide +kernel
theorem ar_X12_init : Cond.arrayClass .char ∈ wsX12_init ∧ Cond.arrayClass .int ∈ wsX12_init := by decide +kernel
theorem k_X12_init : Cond.constant RX12 13 (80000) ∈ wsX12_init ∧ Cond.constant RX12 42 (120400) ∈ wsX12_init := by decide +kernel
theorem ob_X12_init : (Cond.methodLink RX12 1 objectInit ∈ wsX12_init ∧ Cond.instanceMethod objectInit ∈ wsX12_init) ∧ Cond.code objectInit ⟨#[0xb1]⟩ 1 none ∈ wsX12_init := by decide +kernel
section MI
variable {p : Program} {l : Launch} {e : Env} {R : Room} {s : State} {m : MethodId} {args : Array Value} {below : List Frame} {meth : Method} {c : Code} {H : Heap} {locs : List Loc} {cells slots : Nat} {Q : State → Prop}
variable {cc : ByteArray} {pc nL : Nat} {ls : Array Slot} {rest : List Value} {D : va_G} {A0 : Nat → Prop} {Ts : List Cond} {cy ci : ClassId} {ws : va_W}
theorem m_nwC (X : CallFix p m c cc nL s args Ts RX12) (hP : va_P D vwCl ws H) (hD : va_D A0 ws) (hS : va_S A0 s.heap H locs) (hK : va_K D vwCl [(cy, .char), (ci, .int)] s) (hA : ∀ q, s.heap.size ≤ q → A0 q) (harr : Cond.arrayClass .char ∈ Ts) {n : Int32} {N : Nat} (hn : ¬ n < 0) (hN : n.toNatClampNeg = N) (hbytes : N * componentBytes .char ≤ 536870912) (hcs : cells + 1 ≤ R.cells ∧ slots + N ≤ R.slots) (hdg : decode cc pc = .ok (.newarray .char, 2))
    (kk : ∀ (q : Nat) (H1 : Heap), va_P D vwCl (ws ++ [(q, .inl (cy, N, .inl (fun _ => 0)))]) H1 → va_D A0 (ws ++ [(q, .inl (cy, N, .inl (fun _ => 0)))]) → va_S A0 s.heap H1 locs → H1.size = H.size + 1 → W p l e R s m args below meth c H1 locs (cells + 1) (slots + N) Q (F0 m (pc + 2) ls (.ref q :: rest))) : W p l e R s m args below meth c H locs cells slots Q (F0 m pc ls (.int n :: rest)) := by
  refine va_newaK (atype := .char) X.1 X.2.1 (X.2.2.2.2 _ harr) rfl hdg rfl hn hN hbytes hcs.1 hcs.2 rfl (fun H1 cA e1 z1 o1 hAr hNm => ?_)
  have e2 : va_RA s cy .char := (hK.2 0 (cy, .char) rfl).2
  have e3 : cA = cy := Option.some.inj ((show s.vm.findClass _ = some cA from hNm).symm.trans e2)
  rw [e3] at e1
  have hk : ∀ (k : Nat) (x : Nat × va_E), ws[k]? = some x → H1[x.1]? = H[x.1]? := fun k x hx => o1 x.1 ((hP k x hx).lt)
  refine kk H.size H1 ((hP.kept hk).app (fun k x hx => ?_)) (hD.push hP rfl (hA _ hS.1)) ⟨Nat.le_trans hS.1 (by omega), fun x h1 h2 => (o1 x (Nat.lt_of_lt_of_le h1 hS.1)).trans (hS.2.1 x h1 h2), hS.2.2⟩ z1
  have hz : k < 1 := (List.getElem?_eq_some_iff.mp hx).1
  rw [show k = 0 by omega] at hx
  cases hx
  exact e1
theorem m_nwI (X : CallFix p m c cc nL s args Ts RX12) (hP : va_P D vwCl ws H) (hD : va_D A0 ws) (hS : va_S A0 s.heap H locs) (hK : va_K D vwCl [(cy, .char), (ci, .int)] s) (hA : ∀ q, s.heap.size ≤ q → A0 q) (harr : Cond.arrayClass .int ∈ Ts) {n : Int32} {N : Nat} (hn : ¬ n < 0) (hN : n.toNatClampNeg = N) (hbytes : N * componentBytes .int ≤ 536870912) (hcs : cells + 1 ≤ R.cells ∧ slots + N ≤ R.slots) (hdg : decode cc pc = .ok (.newarray .int, 2))
    (kk : ∀ (q : Nat) (H1 : Heap), va_P D vwCl (ws ++ [(q, .inl (ci, N, .inl (fun _ => 0)))]) H1 → va_D A0 (ws ++ [(q, .inl (ci, N, .inl (fun _ => 0)))]) → va_S A0 s.heap H1 locs → H1.size = H.size + 1 → W p l e R s m args below meth c H1 locs (cells + 1) (slots + N) Q (F0 m (pc + 2) ls (.ref q :: rest))) : W p l e R s m args below meth c H locs cells slots Q (F0 m pc ls (.int n :: rest)) := by
  refine va_newaK (atype := .int) X.1 X.2.1 (X.2.2.2.2 _ harr) rfl hdg rfl hn hN hbytes hcs.1 hcs.2 rfl (fun H1 cA e1 z1 o1 hAr hNm => ?_)
  have e2 : va_RA s ci .int := (hK.2 1 (ci, .int) rfl).2
  have e3 : cA = ci := Option.some.inj ((show s.vm.findClass _ = some cA from hNm).symm.trans e2)
  rw [e3] at e1
  have hk : ∀ (k : Nat) (x : Nat × va_E), ws[k]? = some x → H1[x.1]? = H[x.1]? := fun k x hx => o1 x.1 ((hP k x hx).lt)
  refine kk H.size H1 ((hP.kept hk).app (fun k x hx => ?_)) (hD.push hP rfl (hA _ hS.1)) ⟨Nat.le_trans hS.1 (by omega), fun x h1 h2 => (o1 x (Nat.lt_of_lt_of_le h1 hS.1)).trans (hS.2.1 x h1 h2), hS.2.2⟩ z1
  have hz : k < 1 := (List.getElem?_eq_some_iff.mp hx).1
  rw [show k = 0 by omega] at hx
  cases hx
  exact e1
variable {y : MethodName} {ws1 ws' : List Cond} {rm : Room} {bytes : ByteArray} {maxL n index : Nat} {ret : Option FieldType} {As st : List Value} {o : Int32 × MS} {h : Nat → Nat} {I : Nat → Int32} {A : Nat → Nat → Int32}
theorem m_gcallVv (X : CallFix p m c cc nL s args Ts RX12) (hM : mH D cy ci h A0 s H locs I A) (hc : mMv l y ws1 rm (.ref (h 0) :: As) D cy ci h I A o) (hT : GoodIn Ts (wsV RX12 index RX12 y ws1)) (hw : ws1 = Cond.code y bytes maxL ret :: ws') (hrm : rm.cells = 0 ∧ rm.slots = 0) (hcs : cells ≤ R.cells ∧ slots ≤ R.slots)
    (hd : y.cls = RX12 ∧ y.cls ≠ "java/lang/invoke/MethodHandle" ∧ y.cls ≠ "java/lang/invoke/VarHandle" ∧ (parseMethodDescriptor y.desc).map (fun d => d.parameters.length) = some n) (hR : rm.frames + 1 ≤ R.frames ∧ 8 + (maxL + 11) + rm.locals ≤ R.locals) (hn : As.length = n) (hls : ls.size = nL) (hst : st = As.reverse ++ .ref (h 0) :: rest) (hrest : (rest.map fun v => v.category).sum ≤ 8) (hdg : decode cc pc = .ok (.invokevirtual index, 3))
    (kk : ∀ (H1 : Heap) (locs : List Loc), mH D cy ci h A0 s H1 locs o.2.1 o.2.2 → H.size ≤ H1.size → W p l e R s m args below meth c H1 locs cells slots Q (F0 m (pc + 3) ls rest)) : W p l e R s m args below meth c H locs cells slots Q (F0 m pc ls st) := by
  subst hst
  have hF := m_free hM
  refine va_callv (va_runV (As := As) (rest := rest) X (hc H.size) (cwV n X.2.2.2.2 hT hw hrm.1 hrm.2 hd hR) (m_preV hM) rfl hn hls rfl (lv_room hrest) hdg hcs) hM.2.2.1 (fun q _ hq => hF q hq) hF (fun u t H1 locs1 ht hvm hw1 hB hz1 hk1 hS => ?_)
  obtain ⟨hP, hD, hS0, hK, hA⟩ := hM
  have hB' : va_P D vwCl (mW cy ci h o.2.1 o.2.2) t.heap := hB
  rw [ht] at hB'
  exact kk H1 locs1 ⟨hB', mD_any hD, hS, hK, hA⟩ hz1
end MI
def mI0 : Nat → Int32 := fun _ => 0
def mA0 : Nat → Nat → Int32 := fun _ _ => 0
def mB2 (D : va_G) (cy ci : ClassId) (a sz : Nat) : State → Prop := fun U => U.heap.size = sz ∧ va_P D vwCl (cW_0 cy ci a) U.heap ∧ va_K D vwCl [(cy, .char), (ci, .int)] U ∧ va_D (fun _ => True) (cW_0 cy ci a)
def mMc (l : Launch) (D : va_G) (cy ci : ClassId) (a : Nat) (o : Int32 × MS) : Prop :=
  ∀ sz : Nat, Met l yX12_init wsX12_init ({ frames := 7, cells := 25, slots := 212822, locals := 300 } : Room) (va_Pc [.ref a] (mB2 D cy ci a sz)) (va_Qv (fun (u : Nat → Nat) => u 0 = a) (fun u t => va_P D vwCl (mW cy ci u o.2.1 o.2.2) t.heap ∧ va_D (va_A (cW_0 cy ci a) sz) (mW cy ci u o.2.1 o.2.2) ∧ t.heap.size = sz + 25) (va_A (cW_0 cy ci a) sz)) 25 212822 (va_A (cW_0 cy ci a) sz)
set_option maxRecDepth 100000 in
set_option maxHeartbeats 8000000 in
theorem c_X12_init {l : Launch} {D : va_G} {cy ci : ClassId} {a : Nat} {o1 o2 o3 : Int32 × MS} (hf1 : f_clearGame 0 mI0 mA0 = some o1) (hf2 : f_usual 0 o1.2.1 o1.2.2 = some o2) (hf3 : f_place 0 0 o2.2.1 o2.2.2 = some o3) : mMc l D cy ci a o3 := by
  intro sz
  refine Met.ofW (cc := cX12_init) (maxL := 1) (ret := none) (by decide) rfl ?_
  intro p e s m args below meth c s₁ B hml hv
  obtain ⟨rfl, hsz, hP, hK, hD0⟩ := hv
  subst hsz
  have hr := B.returns
  have hlocks := B.notSynchronized
  have X : CallFix p m c cX12_init 1 s [Value.ref a].toArray wsX12_init RX12 := ⟨B.exec, B.bytes, hml, findClass_of_methodNamed B.named, atoms_spec (ws := wsX12_init) B.pre⟩
  have hin : meth.name = "<init>" := (name_of_methodNamed B.named B.method).1
  have hl := lv_entry [Value.ref a] (n := 1) (Nat.le_of_ble_eq_true rfl)
  rw [lg_entry_eq]
  obtain ⟨hx, hb, -, hown, hts⟩ := id X
  have hA : ∀ q, s.heap.size ≤ q → va_A (cW_0 cy ci a) s.heap.size q := fun q hq => Or.inr hq
  have hD : va_D (va_A (cW_0 cy ci a) s.heap.size) (cW_0 cy ci a) := hD0.self
  have hS : va_S (va_A (cW_0 cy ci a) s.heap.size) s.heap s.heap [] := va_S.rf
  have hz : s.heap.size + 0 ≤ s.heap.size := Nat.le_refl _
  clear hD0
  replace hl := (lv_sub hl [0] rfl : lv_has _ 1 [(0, Value.ref a)])
  refine lv_aload_n hx hb dX12_init_0 rfl (lv_at hl 0 rfl) ?_
  refine W.objInit X.1 X.2.1 X.2.2.2.1 (X.2.2.2.2 _ ob_X12_init.1.1) (X.2.2.2.2 _ ob_X12_init.1.2) (X.2.2.2.2 _ ob_X12_init.2) rfl (by rw [hml]; exact hl.1) rfl dX12_init_1 (Nat.le_of_ble_eq_true rfl) (Nat.le_of_ble_eq_true rfl) ?_
  refine lv_aload_n hx hb dX12_init_4 rfl (lv_at hl 0 rfl) ?_
  refine lv_sipush (v := (2000 : Int32)) hx hb dX12_init_5 (by decide) ?_
  refine m_nwC (N := 2000) X hP hD hS hK hA ar_X12_init.1 (by decide) (by decide) (Nat.le_of_ble_eq_true rfl) ⟨Nat.le_of_ble_eq_true rfl, Nat.le_of_ble_eq_true rfl⟩ dX12_init_8 (fun q1 H hP hD hS h9 => ?_)
  replace hz : s.heap.size + 1 ≤ H.size := by omega
  clear h9
  refine va_putF (D := D) (ci := 12) (v := .ref q1) (ty := tyX12 2) (C := RX12) (T := TX12) (N := 40) (fs := cF_0) X.1 X.2.1 X.2.2.2.2 hw_X12_init tyX12 tyX12_ok nmX12 X.2.2.2.1 hK hP hD (z_Srf hS) 0 rfl rfl 2 (by decide) (X.2.2.2.2 _ fl_X12_init_2) (fun _ h9 => h9) rfl hin rfl (tyX12_ok 2 (by decide)) rfl rfl (Nat.le_of_ble_eq_true rfl) dX12_init_10 (fun H9 locs hP hD hS9 => ?_)
  replace hz : s.heap.size + 1 ≤ H9.size := Nat.le_trans hz hS9.1
  replace hS := z_Str hS hS9
  clear hS9
  replace hP : va_P D vwCl (cW_1 cy ci a q1) H9 := hP
  replace hD : va_D (va_A (cW_0 cy ci a) s.heap.size) (cW_1 cy ci a q1) := hD
  refine lv_aload_n hx hb dX12_init_13 rfl (lv_at hl 0 rfl) ?_
  refine lv_ldc (v := (80000 : Int32)) hx hb hown (hts _ k_X12_init.1) dX12_init_14 ?_
  refine m_nwC (N := 80000) X hP hD hS hK hA ar_X12_init.1 (by decide) (by decide) (Nat.le_of_ble_eq_true rfl) ⟨Nat.le_of_ble_eq_true rfl, Nat.le_of_ble_eq_true rfl⟩ dX12_init_16 (fun q2 H hP hD hS h9 => ?_)
  replace hz : s.heap.size + 2 ≤ H.size := by omega
  clear h9
  refine va_putF (D := D) (ci := 12) (v := .ref q2) (ty := tyX12 4) (C := RX12) (T := TX12) (N := 40) (fs := cF_1 q1) X.1 X.2.1 X.2.2.2.2 hw_X12_init tyX12 tyX12_ok nmX12 X.2.2.2.1 hK hP hD (z_Srf hS) 0 rfl rfl 4 (by decide) (X.2.2.2.2 _ fl_X12_init_4) (fun _ h9 => h9) rfl hin rfl (tyX12_ok 4 (by decide)) rfl rfl (Nat.le_of_ble_eq_true rfl) dX12_init_18 (fun H9 locs hP hD hS9 => ?_)
  replace hz : s.heap.size + 2 ≤ H9.size := Nat.le_trans hz hS9.1
  replace hS := z_Str hS hS9
  clear hS9
  replace hP : va_P D vwCl (cW_2 cy ci a q1 q2) H9 := hP
  replace hD : va_D (va_A (cW_0 cy ci a) s.heap.size) (cW_2 cy ci a q1 q2) := hD
  refine lv_aload_n hx hb dX12_init_21 rfl (lv_at hl 0 rfl) ?_
  refine lv_iconst (v := (2 : Int32)) hx hb dX12_init_22 (by decide) ?_
  refine m_nwI (N := 2) X hP hD hS hK hA ar_X12_init.2 (by decide) (by decide) (Nat.le_of_ble_eq_true rfl) ⟨Nat.le_of_ble_eq_true rfl, Nat.le_of_ble_eq_true rfl⟩ dX12_init_23 (fun q3 H hP hD hS h9 => ?_)
  replace hz : s.heap.size + 3 ≤ H.size := by omega
  clear h9
  refine va_putF (D := D) (ci := 12) (v := .ref q3) (ty := tyX12 7) (C := RX12) (T := TX12) (N := 40) (fs := cF_2 q1 q2) X.1 X.2.1 X.2.2.2.2 hw_X12_init tyX12 tyX12_ok nmX12 X.2.2.2.1 hK hP hD (z_Srf hS) 0 rfl rfl 7 (by decide) (X.2.2.2.2 _ fl_X12_init_7) (fun _ h9 => h9) rfl hin rfl (tyX12_ok 7 (by decide)) rfl rfl (Nat.le_of_ble_eq_true rfl) dX12_init_25 (fun H9 locs hP hD hS9 => ?_)
  replace hz : s.heap.size + 3 ≤ H9.size := Nat.le_trans hz hS9.1
  replace hS := z_Str hS hS9
  clear hS9
  replace hP : va_P D vwCl (cW_3 cy ci a q1 q2 q3) H9 := hP
  replace hD : va_D (va_A (cW_0 cy ci a) s.heap.size) (cW_3 cy ci a q1 q2 q3) := hD
  refine lv_aload_n hx hb dX12_init_28 rfl (lv_at hl 0 rfl) ?_
  refine lv_sipush (v := (602 : Int32)) hx hb dX12_init_29 (by decide) ?_
  refine m_nwI (N := 602) X hP hD hS hK hA ar_X12_init.2 (by decide) (by decide) (Nat.le_of_ble_eq_true rfl) ⟨Nat.le_of_ble_eq_true rfl, Nat.le_of_ble_eq_true rfl⟩ dX12_init_32 (fun q4 H hP hD hS h9 => ?_)
  replace hz : s.heap.size + 4 ≤ H.size := by omega
  clear h9
  refine va_putF (D := D) (ci := 12) (v := .ref q4) (ty := tyX12 8) (C := RX12) (T := TX12) (N := 40) (fs := cF_3 q1 q2 q3) X.1 X.2.1 X.2.2.2.2 hw_X12_init tyX12 tyX12_ok nmX12 X.2.2.2.1 hK hP hD (z_Srf hS) 0 rfl rfl 8 (by decide) (X.2.2.2.2 _ fl_X12_init_8) (fun _ h9 => h9) rfl hin rfl (tyX12_ok 8 (by decide)) rfl rfl (Nat.le_of_ble_eq_true rfl) dX12_init_34 (fun H9 locs hP hD hS9 => ?_)
  replace hz : s.heap.size + 4 ≤ H9.size := Nat.le_trans hz hS9.1
  replace hS := z_Str hS hS9
  clear hS9
  replace hP : va_P D vwCl (cW_4 cy ci a q1 q2 q3 q4) H9 := hP
  replace hD : va_D (va_A (cW_0 cy ci a) s.heap.size) (cW_4 cy ci a q1 q2 q3 q4) := hD
  refine lv_aload_n hx hb dX12_init_37 rfl (lv_at hl 0 rfl) ?_
  refine lv_sipush (v := (602 : Int32)) hx hb dX12_init_38 (by decide) ?_
  refine m_nwI (N := 602) X hP hD hS hK hA ar_X12_init.2 (by decide) (by decide) (Nat.le_of_ble_eq_true rfl) ⟨Nat.le_of_ble_eq_true rfl, Nat.le_of_ble_eq_true rfl⟩ dX12_init_41 (fun q5 H hP hD hS h9 => ?_)
  replace hz : s.heap.size + 5 ≤ H.size := by omega
  clear h9
  refine va_putF (D := D) (ci := 12) (v := .ref q5) (ty := tyX12 9) (C := RX12) (T := TX12) (N := 40) (fs := cF_4 q1 q2 q3 q4) X.1 X.2.1 X.2.2.2.2 hw_X12_init tyX12 tyX12_ok nmX12 X.2.2.2.1 hK hP hD (z_Srf hS) 0 rfl rfl 9 (by decide) (X.2.2.2.2 _ fl_X12_init_9) (fun _ h9 => h9) rfl hin rfl (tyX12_ok 9 (by decide)) rfl rfl (Nat.le_of_ble_eq_true rfl) dX12_init_43 (fun H9 locs hP hD hS9 => ?_)
  replace hz : s.heap.size + 5 ≤ H9.size := Nat.le_trans hz hS9.1
  replace hS := z_Str hS hS9
  clear hS9
  replace hP : va_P D vwCl (cW_5 cy ci a q1 q2 q3 q4 q5) H9 := hP
  replace hD : va_D (va_A (cW_0 cy ci a) s.heap.size) (cW_5 cy ci a q1 q2 q3 q4 q5) := hD
  refine lv_aload_n hx hb dX12_init_46 rfl (lv_at hl 0 rfl) ?_
  refine lv_sipush (v := (602 : Int32)) hx hb dX12_init_47 (by decide) ?_
  refine m_nwI (N := 602) X hP hD hS hK hA ar_X12_init.2 (by decide) (by decide) (Nat.le_of_ble_eq_true rfl) ⟨Nat.le_of_ble_eq_true rfl, Nat.le_of_ble_eq_true rfl⟩ dX12_init_50 (fun q6 H hP hD hS h9 => ?_)
  replace hz : s.heap.size + 6 ≤ H.size := by omega
  clear h9
  refine va_putF (D := D) (ci := 12) (v := .ref q6) (ty := tyX12 10) (C := RX12) (T := TX12) (N := 40) (fs := cF_5 q1 q2 q3 q4 q5) X.1 X.2.1 X.2.2.2.2 hw_X12_init tyX12 tyX12_ok nmX12 X.2.2.2.1 hK hP hD (z_Srf hS) 0 rfl rfl 10 (by decide) (X.2.2.2.2 _ fl_X12_init_10) (fun _ h9 => h9) rfl hin rfl (tyX12_ok 10 (by decide)) rfl rfl (Nat.le_of_ble_eq_true rfl) dX12_init_52 (fun H9 locs hP hD hS9 => ?_)
  replace hz : s.heap.size + 6 ≤ H9.size := Nat.le_trans hz hS9.1
  replace hS := z_Str hS hS9
  clear hS9
  replace hP : va_P D vwCl (cW_6 cy ci a q1 q2 q3 q4 q5 q6) H9 := hP
  replace hD : va_D (va_A (cW_0 cy ci a) s.heap.size) (cW_6 cy ci a q1 q2 q3 q4 q5 q6) := hD
  refine lv_aload_n hx hb dX12_init_55 rfl (lv_at hl 0 rfl) ?_
  refine lv_sipush (v := (602 : Int32)) hx hb dX12_init_56 (by decide) ?_
  refine m_nwI (N := 602) X hP hD hS hK hA ar_X12_init.2 (by decide) (by decide) (Nat.le_of_ble_eq_true rfl) ⟨Nat.le_of_ble_eq_true rfl, Nat.le_of_ble_eq_true rfl⟩ dX12_init_59 (fun q7 H hP hD hS h9 => ?_)
  replace hz : s.heap.size + 7 ≤ H.size := by omega
  clear h9
  refine va_putF (D := D) (ci := 12) (v := .ref q7) (ty := tyX12 11) (C := RX12) (T := TX12) (N := 40) (fs := cF_6 q1 q2 q3 q4 q5 q6) X.1 X.2.1 X.2.2.2.2 hw_X12_init tyX12 tyX12_ok nmX12 X.2.2.2.1 hK hP hD (z_Srf hS) 0 rfl rfl 11 (by decide) (X.2.2.2.2 _ fl_X12_init_11) (fun _ h9 => h9) rfl hin rfl (tyX12_ok 11 (by decide)) rfl rfl (Nat.le_of_ble_eq_true rfl) dX12_init_61 (fun H9 locs hP hD hS9 => ?_)
  replace hz : s.heap.size + 7 ≤ H9.size := Nat.le_trans hz hS9.1
  replace hS := z_Str hS hS9
  clear hS9
  replace hP : va_P D vwCl (cW_7 cy ci a q1 q2 q3 q4 q5 q6 q7) H9 := hP
  replace hD : va_D (va_A (cW_0 cy ci a) s.heap.size) (cW_7 cy ci a q1 q2 q3 q4 q5 q6 q7) := hD
  refine lv_aload_n hx hb dX12_init_64 rfl (lv_at hl 0 rfl) ?_
  refine lv_sipush (v := (602 : Int32)) hx hb dX12_init_65 (by decide) ?_
  refine m_nwI (N := 602) X hP hD hS hK hA ar_X12_init.2 (by decide) (by decide) (Nat.le_of_ble_eq_true rfl) ⟨Nat.le_of_ble_eq_true rfl, Nat.le_of_ble_eq_true rfl⟩ dX12_init_68 (fun q8 H hP hD hS h9 => ?_)
  replace hz : s.heap.size + 8 ≤ H.size := by omega
  clear h9
  refine va_putF (D := D) (ci := 12) (v := .ref q8) (ty := tyX12 12) (C := RX12) (T := TX12) (N := 40) (fs := cF_7 q1 q2 q3 q4 q5 q6 q7) X.1 X.2.1 X.2.2.2.2 hw_X12_init tyX12 tyX12_ok nmX12 X.2.2.2.1 hK hP hD (z_Srf hS) 0 rfl rfl 12 (by decide) (X.2.2.2.2 _ fl_X12_init_12) (fun _ h9 => h9) rfl hin rfl (tyX12_ok 12 (by decide)) rfl rfl (Nat.le_of_ble_eq_true rfl) dX12_init_70 (fun H9 locs hP hD hS9 => ?_)
  replace hz : s.heap.size + 8 ≤ H9.size := Nat.le_trans hz hS9.1
  replace hS := z_Str hS hS9
  clear hS9
  replace hP : va_P D vwCl (cW_8 cy ci a q1 q2 q3 q4 q5 q6 q7 q8) H9 := hP
  replace hD : va_D (va_A (cW_0 cy ci a) s.heap.size) (cW_8 cy ci a q1 q2 q3 q4 q5 q6 q7 q8) := hD
  refine lv_aload_n hx hb dX12_init_73 rfl (lv_at hl 0 rfl) ?_
  refine lv_sipush (v := (2408 : Int32)) hx hb dX12_init_74 (by decide) ?_
  refine m_nwI (N := 2408) X hP hD hS hK hA ar_X12_init.2 (by decide) (by decide) (Nat.le_of_ble_eq_true rfl) ⟨Nat.le_of_ble_eq_true rfl, Nat.le_of_ble_eq_true rfl⟩ dX12_init_77 (fun q9 H hP hD hS h9 => ?_)
  replace hz : s.heap.size + 9 ≤ H.size := by omega
  clear h9
  refine va_putF (D := D) (ci := 12) (v := .ref q9) (ty := tyX12 13) (C := RX12) (T := TX12) (N := 40) (fs := cF_8 q1 q2 q3 q4 q5 q6 q7 q8) X.1 X.2.1 X.2.2.2.2 hw_X12_init tyX12 tyX12_ok nmX12 X.2.2.2.1 hK hP hD (z_Srf hS) 0 rfl rfl 13 (by decide) (X.2.2.2.2 _ fl_X12_init_13) (fun _ h9 => h9) rfl hin rfl (tyX12_ok 13 (by decide)) rfl rfl (Nat.le_of_ble_eq_true rfl) dX12_init_79 (fun H9 locs hP hD hS9 => ?_)
  replace hz : s.heap.size + 9 ≤ H9.size := Nat.le_trans hz hS9.1
  replace hS := z_Str hS hS9
  clear hS9
  replace hP : va_P D vwCl (cW_9 cy ci a q1 q2 q3 q4 q5 q6 q7 q8 q9) H9 := hP
  replace hD : va_D (va_A (cW_0 cy ci a) s.heap.size) (cW_9 cy ci a q1 q2 q3 q4 q5 q6 q7 q8 q9) := hD
  refine lv_aload_n hx hb dX12_init_82 rfl (lv_at hl 0 rfl) ?_
  refine lv_sipush (v := (602 : Int32)) hx hb dX12_init_83 (by decide) ?_
  refine m_nwI (N := 602) X hP hD hS hK hA ar_X12_init.2 (by decide) (by decide) (Nat.le_of_ble_eq_true rfl) ⟨Nat.le_of_ble_eq_true rfl, Nat.le_of_ble_eq_true rfl⟩ dX12_init_86 (fun q10 H hP hD hS h9 => ?_)
  replace hz : s.heap.size + 10 ≤ H.size := by omega
  clear h9
  refine va_putF (D := D) (ci := 12) (v := .ref q10) (ty := tyX12 14) (C := RX12) (T := TX12) (N := 40) (fs := cF_9 q1 q2 q3 q4 q5 q6 q7 q8 q9) X.1 X.2.1 X.2.2.2.2 hw_X12_init tyX12 tyX12_ok nmX12 X.2.2.2.1 hK hP hD (z_Srf hS) 0 rfl rfl 14 (by decide) (X.2.2.2.2 _ fl_X12_init_14) (fun _ h9 => h9) rfl hin rfl (tyX12_ok 14 (by decide)) rfl rfl (Nat.le_of_ble_eq_true rfl) dX12_init_88 (fun H9 locs hP hD hS9 => ?_)
  replace hz : s.heap.size + 10 ≤ H9.size := Nat.le_trans hz hS9.1
  replace hS := z_Str hS hS9
  clear hS9
  replace hP : va_P D vwCl (cW_10 cy ci a q1 q2 q3 q4 q5 q6 q7 q8 q9 q10) H9 := hP
  replace hD : va_D (va_A (cW_0 cy ci a) s.heap.size) (cW_10 cy ci a q1 q2 q3 q4 q5 q6 q7 q8 q9 q10) := hD
  refine lv_aload_n hx hb dX12_init_91 rfl (lv_at hl 0 rfl) ?_
  refine lv_ldc (v := (120400 : Int32)) hx hb hown (hts _ k_X12_init.2) dX12_init_92 ?_
  refine m_nwC (N := 120400) X hP hD hS hK hA ar_X12_init.1 (by decide) (by decide) (Nat.le_of_ble_eq_true rfl) ⟨Nat.le_of_ble_eq_true rfl, Nat.le_of_ble_eq_true rfl⟩ dX12_init_94 (fun q11 H hP hD hS h9 => ?_)
  replace hz : s.heap.size + 11 ≤ H.size := by omega
  clear h9
  refine va_putF (D := D) (ci := 12) (v := .ref q11) (ty := tyX12 15) (C := RX12) (T := TX12) (N := 40) (fs := cF_10 q1 q2 q3 q4 q5 q6 q7 q8 q9 q10) X.1 X.2.1 X.2.2.2.2 hw_X12_init tyX12 tyX12_ok nmX12 X.2.2.2.1 hK hP hD (z_Srf hS) 0 rfl rfl 15 (by decide) (X.2.2.2.2 _ fl_X12_init_15) (fun _ h9 => h9) rfl hin rfl (tyX12_ok 15 (by decide)) rfl rfl (Nat.le_of_ble_eq_true rfl) dX12_init_96 (fun H9 locs hP hD hS9 => ?_)
  replace hz : s.heap.size + 11 ≤ H9.size := Nat.le_trans hz hS9.1
  replace hS := z_Str hS hS9
  clear hS9
  replace hP : va_P D vwCl (cW_11 cy ci a q1 q2 q3 q4 q5 q6 q7 q8 q9 q10 q11) H9 := hP
  replace hD : va_D (va_A (cW_0 cy ci a) s.heap.size) (cW_11 cy ci a q1 q2 q3 q4 q5 q6 q7 q8 q9 q10 q11) := hD
  refine lv_aload_n hx hb dX12_init_99 rfl (lv_at hl 0 rfl) ?_
  refine lv_sipush (v := (128 : Int32)) hx hb dX12_init_100 (by decide) ?_
  refine m_nwI (N := 128) X hP hD hS hK hA ar_X12_init.2 (by decide) (by decide) (Nat.le_of_ble_eq_true rfl) ⟨Nat.le_of_ble_eq_true rfl, Nat.le_of_ble_eq_true rfl⟩ dX12_init_103 (fun q12 H hP hD hS h9 => ?_)
  replace hz : s.heap.size + 12 ≤ H.size := by omega
  clear h9
  refine va_putF (D := D) (ci := 12) (v := .ref q12) (ty := tyX12 16) (C := RX12) (T := TX12) (N := 40) (fs := cF_11 q1 q2 q3 q4 q5 q6 q7 q8 q9 q10 q11) X.1 X.2.1 X.2.2.2.2 hw_X12_init tyX12 tyX12_ok nmX12 X.2.2.2.1 hK hP hD (z_Srf hS) 0 rfl rfl 16 (by decide) (X.2.2.2.2 _ fl_X12_init_16) (fun _ h9 => h9) rfl hin rfl (tyX12_ok 16 (by decide)) rfl rfl (Nat.le_of_ble_eq_true rfl) dX12_init_105 (fun H9 locs hP hD hS9 => ?_)
  replace hz : s.heap.size + 12 ≤ H9.size := Nat.le_trans hz hS9.1
  replace hS := z_Str hS hS9
  clear hS9
  replace hP : va_P D vwCl (cW_12 cy ci a q1 q2 q3 q4 q5 q6 q7 q8 q9 q10 q11 q12) H9 := hP
  replace hD : va_D (va_A (cW_0 cy ci a) s.heap.size) (cW_12 cy ci a q1 q2 q3 q4 q5 q6 q7 q8 q9 q10 q11 q12) := hD
  refine lv_aload_n hx hb dX12_init_108 rfl (lv_at hl 0 rfl) ?_
  refine lv_bipush (v := (10 : Int32)) hx hb dX12_init_109 (by decide) ?_
  refine m_nwI (N := 10) X hP hD hS hK hA ar_X12_init.2 (by decide) (by decide) (Nat.le_of_ble_eq_true rfl) ⟨Nat.le_of_ble_eq_true rfl, Nat.le_of_ble_eq_true rfl⟩ dX12_init_111 (fun q13 H hP hD hS h9 => ?_)
  replace hz : s.heap.size + 13 ≤ H.size := by omega
  clear h9
  refine va_putF (D := D) (ci := 12) (v := .ref q13) (ty := tyX12 17) (C := RX12) (T := TX12) (N := 40) (fs := cF_12 q1 q2 q3 q4 q5 q6 q7 q8 q9 q10 q11 q12) X.1 X.2.1 X.2.2.2.2 hw_X12_init tyX12 tyX12_ok nmX12 X.2.2.2.1 hK hP hD (z_Srf hS) 0 rfl rfl 17 (by decide) (X.2.2.2.2 _ fl_X12_init_17) (fun _ h9 => h9) rfl hin rfl (tyX12_ok 17 (by decide)) rfl rfl (Nat.le_of_ble_eq_true rfl) dX12_init_113 (fun H9 locs hP hD hS9 => ?_)
  replace hz : s.heap.size + 13 ≤ H9.size := Nat.le_trans hz hS9.1
  replace hS := z_Str hS hS9
  clear hS9
  replace hP : va_P D vwCl (cW_13 cy ci a q1 q2 q3 q4 q5 q6 q7 q8 q9 q10 q11 q12 q13) H9 := hP
  replace hD : va_D (va_A (cW_0 cy ci a) s.heap.size) (cW_13 cy ci a q1 q2 q3 q4 q5 q6 q7 q8 q9 q10 q11 q12 q13) := hD
  refine lv_aload_n hx hb dX12_init_116 rfl (lv_at hl 0 rfl) ?_
  refine lv_iconst (v := (2 : Int32)) hx hb dX12_init_117 (by decide) ?_
  refine m_nwI (N := 2) X hP hD hS hK hA ar_X12_init.2 (by decide) (by decide) (Nat.le_of_ble_eq_true rfl) ⟨Nat.le_of_ble_eq_true rfl, Nat.le_of_ble_eq_true rfl⟩ dX12_init_118 (fun q14 H hP hD hS h9 => ?_)
  replace hz : s.heap.size + 14 ≤ H.size := by omega
  clear h9
  refine va_putF (D := D) (ci := 12) (v := .ref q14) (ty := tyX12 18) (C := RX12) (T := TX12) (N := 40) (fs := cF_13 q1 q2 q3 q4 q5 q6 q7 q8 q9 q10 q11 q12 q13) X.1 X.2.1 X.2.2.2.2 hw_X12_init tyX12 tyX12_ok nmX12 X.2.2.2.1 hK hP hD (z_Srf hS) 0 rfl rfl 18 (by decide) (X.2.2.2.2 _ fl_X12_init_18) (fun _ h9 => h9) rfl hin rfl (tyX12_ok 18 (by decide)) rfl rfl (Nat.le_of_ble_eq_true rfl) dX12_init_120 (fun H9 locs hP hD hS9 => ?_)
  replace hz : s.heap.size + 14 ≤ H9.size := Nat.le_trans hz hS9.1
  replace hS := z_Str hS hS9
  clear hS9
  replace hP : va_P D vwCl (cW_14 cy ci a q1 q2 q3 q4 q5 q6 q7 q8 q9 q10 q11 q12 q13 q14) H9 := hP
  replace hD : va_D (va_A (cW_0 cy ci a) s.heap.size) (cW_14 cy ci a q1 q2 q3 q4 q5 q6 q7 q8 q9 q10 q11 q12 q13 q14) := hD
  refine lv_aload_n hx hb dX12_init_123 rfl (lv_at hl 0 rfl) ?_
  refine lv_bipush (v := (16 : Int32)) hx hb dX12_init_124 (by decide) ?_
  refine m_nwI (N := 16) X hP hD hS hK hA ar_X12_init.2 (by decide) (by decide) (Nat.le_of_ble_eq_true rfl) ⟨Nat.le_of_ble_eq_true rfl, Nat.le_of_ble_eq_true rfl⟩ dX12_init_126 (fun q15 H hP hD hS h9 => ?_)
  replace hz : s.heap.size + 15 ≤ H.size := by omega
  clear h9
  refine va_putF (D := D) (ci := 12) (v := .ref q15) (ty := tyX12 19) (C := RX12) (T := TX12) (N := 40) (fs := cF_14 q1 q2 q3 q4 q5 q6 q7 q8 q9 q10 q11 q12 q13 q14) X.1 X.2.1 X.2.2.2.2 hw_X12_init tyX12 tyX12_ok nmX12 X.2.2.2.1 hK hP hD (z_Srf hS) 0 rfl rfl 19 (by decide) (X.2.2.2.2 _ fl_X12_init_19) (fun _ h9 => h9) rfl hin rfl (tyX12_ok 19 (by decide)) rfl rfl (Nat.le_of_ble_eq_true rfl) dX12_init_128 (fun H9 locs hP hD hS9 => ?_)
  replace hz : s.heap.size + 15 ≤ H9.size := Nat.le_trans hz hS9.1
  replace hS := z_Str hS hS9
  clear hS9
  replace hP : va_P D vwCl (cW_15 cy ci a q1 q2 q3 q4 q5 q6 q7 q8 q9 q10 q11 q12 q13 q14 q15) H9 := hP
  replace hD : va_D (va_A (cW_0 cy ci a) s.heap.size) (cW_15 cy ci a q1 q2 q3 q4 q5 q6 q7 q8 q9 q10 q11 q12 q13 q14 q15) := hD
  refine lv_aload_n hx hb dX12_init_131 rfl (lv_at hl 0 rfl) ?_
  refine lv_sipush (v := (192 : Int32)) hx hb dX12_init_132 (by decide) ?_
  refine m_nwC (N := 192) X hP hD hS hK hA ar_X12_init.1 (by decide) (by decide) (Nat.le_of_ble_eq_true rfl) ⟨Nat.le_of_ble_eq_true rfl, Nat.le_of_ble_eq_true rfl⟩ dX12_init_135 (fun q16 H hP hD hS h9 => ?_)
  replace hz : s.heap.size + 16 ≤ H.size := by omega
  clear h9
  refine va_putF (D := D) (ci := 12) (v := .ref q16) (ty := tyX12 20) (C := RX12) (T := TX12) (N := 40) (fs := cF_15 q1 q2 q3 q4 q5 q6 q7 q8 q9 q10 q11 q12 q13 q14 q15) X.1 X.2.1 X.2.2.2.2 hw_X12_init tyX12 tyX12_ok nmX12 X.2.2.2.1 hK hP hD (z_Srf hS) 0 rfl rfl 20 (by decide) (X.2.2.2.2 _ fl_X12_init_20) (fun _ h9 => h9) rfl hin rfl (tyX12_ok 20 (by decide)) rfl rfl (Nat.le_of_ble_eq_true rfl) dX12_init_137 (fun H9 locs hP hD hS9 => ?_)
  replace hz : s.heap.size + 16 ≤ H9.size := Nat.le_trans hz hS9.1
  replace hS := z_Str hS hS9
  clear hS9
  replace hP : va_P D vwCl (cW_16 cy ci a q1 q2 q3 q4 q5 q6 q7 q8 q9 q10 q11 q12 q13 q14 q15 q16) H9 := hP
  replace hD : va_D (va_A (cW_0 cy ci a) s.heap.size) (cW_16 cy ci a q1 q2 q3 q4 q5 q6 q7 q8 q9 q10 q11 q12 q13 q14 q15 q16) := hD
  refine lv_aload_n hx hb dX12_init_140 rfl (lv_at hl 0 rfl) ?_
  refine lv_bipush (v := (16 : Int32)) hx hb dX12_init_141 (by decide) ?_
  refine m_nwI (N := 16) X hP hD hS hK hA ar_X12_init.2 (by decide) (by decide) (Nat.le_of_ble_eq_true rfl) ⟨Nat.le_of_ble_eq_true rfl, Nat.le_of_ble_eq_true rfl⟩ dX12_init_143 (fun q17 H hP hD hS h9 => ?_)
  replace hz : s.heap.size + 17 ≤ H.size := by omega
  clear h9
  refine va_putF (D := D) (ci := 12) (v := .ref q17) (ty := tyX12 21) (C := RX12) (T := TX12) (N := 40) (fs := cF_16 q1 q2 q3 q4 q5 q6 q7 q8 q9 q10 q11 q12 q13 q14 q15 q16) X.1 X.2.1 X.2.2.2.2 hw_X12_init tyX12 tyX12_ok nmX12 X.2.2.2.1 hK hP hD (z_Srf hS) 0 rfl rfl 21 (by decide) (X.2.2.2.2 _ fl_X12_init_21) (fun _ h9 => h9) rfl hin rfl (tyX12_ok 21 (by decide)) rfl rfl (Nat.le_of_ble_eq_true rfl) dX12_init_145 (fun H9 locs hP hD hS9 => ?_)
  replace hz : s.heap.size + 17 ≤ H9.size := Nat.le_trans hz hS9.1
  replace hS := z_Str hS hS9
  clear hS9
  replace hP : va_P D vwCl (cW_17 cy ci a q1 q2 q3 q4 q5 q6 q7 q8 q9 q10 q11 q12 q13 q14 q15 q16 q17) H9 := hP
  replace hD : va_D (va_A (cW_0 cy ci a) s.heap.size) (cW_17 cy ci a q1 q2 q3 q4 q5 q6 q7 q8 q9 q10 q11 q12 q13 q14 q15 q16 q17) := hD
  refine lv_aload_n hx hb dX12_init_148 rfl (lv_at hl 0 rfl) ?_
  refine lv_sipush (v := (1536 : Int32)) hx hb dX12_init_149 (by decide) ?_
  refine m_nwC (N := 1536) X hP hD hS hK hA ar_X12_init.1 (by decide) (by decide) (Nat.le_of_ble_eq_true rfl) ⟨Nat.le_of_ble_eq_true rfl, Nat.le_of_ble_eq_true rfl⟩ dX12_init_152 (fun q18 H hP hD hS h9 => ?_)
  replace hz : s.heap.size + 18 ≤ H.size := by omega
  clear h9
  refine va_putF (D := D) (ci := 12) (v := .ref q18) (ty := tyX12 22) (C := RX12) (T := TX12) (N := 40) (fs := cF_17 q1 q2 q3 q4 q5 q6 q7 q8 q9 q10 q11 q12 q13 q14 q15 q16 q17) X.1 X.2.1 X.2.2.2.2 hw_X12_init tyX12 tyX12_ok nmX12 X.2.2.2.1 hK hP hD (z_Srf hS) 0 rfl rfl 22 (by decide) (X.2.2.2.2 _ fl_X12_init_22) (fun _ h9 => h9) rfl hin rfl (tyX12_ok 22 (by decide)) rfl rfl (Nat.le_of_ble_eq_true rfl) dX12_init_154 (fun H9 locs hP hD hS9 => ?_)
  replace hz : s.heap.size + 18 ≤ H9.size := Nat.le_trans hz hS9.1
  replace hS := z_Str hS hS9
  clear hS9
  replace hP : va_P D vwCl (cW_18 cy ci a q1 q2 q3 q4 q5 q6 q7 q8 q9 q10 q11 q12 q13 q14 q15 q16 q17 q18) H9 := hP
  replace hD : va_D (va_A (cW_0 cy ci a) s.heap.size) (cW_18 cy ci a q1 q2 q3 q4 q5 q6 q7 q8 q9 q10 q11 q12 q13 q14 q15 q16 q17 q18) := hD
  refine lv_aload_n hx hb dX12_init_157 rfl (lv_at hl 0 rfl) ?_
  refine lv_iconst (v := (2 : Int32)) hx hb dX12_init_158 (by decide) ?_
  refine m_nwI (N := 2) X hP hD hS hK hA ar_X12_init.2 (by decide) (by decide) (Nat.le_of_ble_eq_true rfl) ⟨Nat.le_of_ble_eq_true rfl, Nat.le_of_ble_eq_true rfl⟩ dX12_init_159 (fun q19 H hP hD hS h9 => ?_)
  replace hz : s.heap.size + 19 ≤ H.size := by omega
  clear h9
  refine va_putF (D := D) (ci := 12) (v := .ref q19) (ty := tyX12 23) (C := RX12) (T := TX12) (N := 40) (fs := cF_18 q1 q2 q3 q4 q5 q6 q7 q8 q9 q10 q11 q12 q13 q14 q15 q16 q17 q18) X.1 X.2.1 X.2.2.2.2 hw_X12_init tyX12 tyX12_ok nmX12 X.2.2.2.1 hK hP hD (z_Srf hS) 0 rfl rfl 23 (by decide) (X.2.2.2.2 _ fl_X12_init_23) (fun _ h9 => h9) rfl hin rfl (tyX12_ok 23 (by decide)) rfl rfl (Nat.le_of_ble_eq_true rfl) dX12_init_161 (fun H9 locs hP hD hS9 => ?_)
  replace hz : s.heap.size + 19 ≤ H9.size := Nat.le_trans hz hS9.1
  replace hS := z_Str hS hS9
  clear hS9
  replace hP : va_P D vwCl (cW_19 cy ci a q1 q2 q3 q4 q5 q6 q7 q8 q9 q10 q11 q12 q13 q14 q15 q16 q17 q18 q19) H9 := hP
  replace hD : va_D (va_A (cW_0 cy ci a) s.heap.size) (cW_19 cy ci a q1 q2 q3 q4 q5 q6 q7 q8 q9 q10 q11 q12 q13 q14 q15 q16 q17 q18 q19) := hD
  refine lv_aload_n hx hb dX12_init_164 rfl (lv_at hl 0 rfl) ?_
  refine lv_bipush (v := (64 : Int32)) hx hb dX12_init_165 (by decide) ?_
  refine m_nwI (N := 64) X hP hD hS hK hA ar_X12_init.2 (by decide) (by decide) (Nat.le_of_ble_eq_true rfl) ⟨Nat.le_of_ble_eq_true rfl, Nat.le_of_ble_eq_true rfl⟩ dX12_init_167 (fun q20 H hP hD hS h9 => ?_)
  replace hz : s.heap.size + 20 ≤ H.size := by omega
  clear h9
  refine va_putF (D := D) (ci := 12) (v := .ref q20) (ty := tyX12 24) (C := RX12) (T := TX12) (N := 40) (fs := cF_19 q1 q2 q3 q4 q5 q6 q7 q8 q9 q10 q11 q12 q13 q14 q15 q16 q17 q18 q19) X.1 X.2.1 X.2.2.2.2 hw_X12_init tyX12 tyX12_ok nmX12 X.2.2.2.1 hK hP hD (z_Srf hS) 0 rfl rfl 24 (by decide) (X.2.2.2.2 _ fl_X12_init_24) (fun _ h9 => h9) rfl hin rfl (tyX12_ok 24 (by decide)) rfl rfl (Nat.le_of_ble_eq_true rfl) dX12_init_169 (fun H9 locs hP hD hS9 => ?_)
  replace hz : s.heap.size + 20 ≤ H9.size := Nat.le_trans hz hS9.1
  replace hS := z_Str hS hS9
  clear hS9
  replace hP : va_P D vwCl (cW_20 cy ci a q1 q2 q3 q4 q5 q6 q7 q8 q9 q10 q11 q12 q13 q14 q15 q16 q17 q18 q19 q20) H9 := hP
  replace hD : va_D (va_A (cW_0 cy ci a) s.heap.size) (cW_20 cy ci a q1 q2 q3 q4 q5 q6 q7 q8 q9 q10 q11 q12 q13 q14 q15 q16 q17 q18 q19 q20) := hD
  refine lv_aload_n hx hb dX12_init_172 rfl (lv_at hl 0 rfl) ?_
  refine lv_bipush (v := (64 : Int32)) hx hb dX12_init_173 (by decide) ?_
  refine m_nwI (N := 64) X hP hD hS hK hA ar_X12_init.2 (by decide) (by decide) (Nat.le_of_ble_eq_true rfl) ⟨Nat.le_of_ble_eq_true rfl, Nat.le_of_ble_eq_true rfl⟩ dX12_init_175 (fun q21 H hP hD hS h9 => ?_)
  replace hz : s.heap.size + 21 ≤ H.size := by omega
  clear h9
  refine va_putF (D := D) (ci := 12) (v := .ref q21) (ty := tyX12 30) (C := RX12) (T := TX12) (N := 40) (fs := cF_20 q1 q2 q3 q4 q5 q6 q7 q8 q9 q10 q11 q12 q13 q14 q15 q16 q17 q18 q19 q20) X.1 X.2.1 X.2.2.2.2 hw_X12_init tyX12 tyX12_ok nmX12 X.2.2.2.1 hK hP hD (z_Srf hS) 0 rfl rfl 30 (by decide) (X.2.2.2.2 _ fl_X12_init_30) (fun _ h9 => h9) rfl hin rfl (tyX12_ok 30 (by decide)) rfl rfl (Nat.le_of_ble_eq_true rfl) dX12_init_177 (fun H9 locs hP hD hS9 => ?_)
  replace hz : s.heap.size + 21 ≤ H9.size := Nat.le_trans hz hS9.1
  replace hS := z_Str hS hS9
  clear hS9
  replace hP : va_P D vwCl (cW_21 cy ci a q1 q2 q3 q4 q5 q6 q7 q8 q9 q10 q11 q12 q13 q14 q15 q16 q17 q18 q19 q20 q21) H9 := hP
  replace hD : va_D (va_A (cW_0 cy ci a) s.heap.size) (cW_21 cy ci a q1 q2 q3 q4 q5 q6 q7 q8 q9 q10 q11 q12 q13 q14 q15 q16 q17 q18 q19 q20 q21) := hD
  refine lv_aload_n hx hb dX12_init_180 rfl (lv_at hl 0 rfl) ?_
  refine lv_iconst (v := (5 : Int32)) hx hb dX12_init_181 (by decide) ?_
  refine m_nwI (N := 5) X hP hD hS hK hA ar_X12_init.2 (by decide) (by decide) (Nat.le_of_ble_eq_true rfl) ⟨Nat.le_of_ble_eq_true rfl, Nat.le_of_ble_eq_true rfl⟩ dX12_init_182 (fun q22 H hP hD hS h9 => ?_)
  replace hz : s.heap.size + 22 ≤ H.size := by omega
  clear h9
  refine va_putF (D := D) (ci := 12) (v := .ref q22) (ty := tyX12 31) (C := RX12) (T := TX12) (N := 40) (fs := cF_21 q1 q2 q3 q4 q5 q6 q7 q8 q9 q10 q11 q12 q13 q14 q15 q16 q17 q18 q19 q20 q21) X.1 X.2.1 X.2.2.2.2 hw_X12_init tyX12 tyX12_ok nmX12 X.2.2.2.1 hK hP hD (z_Srf hS) 0 rfl rfl 31 (by decide) (X.2.2.2.2 _ fl_X12_init_31) (fun _ h9 => h9) rfl hin rfl (tyX12_ok 31 (by decide)) rfl rfl (Nat.le_of_ble_eq_true rfl) dX12_init_184 (fun H9 locs hP hD hS9 => ?_)
  replace hz : s.heap.size + 22 ≤ H9.size := Nat.le_trans hz hS9.1
  replace hS := z_Str hS hS9
  clear hS9
  replace hP : va_P D vwCl (cW_22 cy ci a q1 q2 q3 q4 q5 q6 q7 q8 q9 q10 q11 q12 q13 q14 q15 q16 q17 q18 q19 q20 q21 q22) H9 := hP
  replace hD : va_D (va_A (cW_0 cy ci a) s.heap.size) (cW_22 cy ci a q1 q2 q3 q4 q5 q6 q7 q8 q9 q10 q11 q12 q13 q14 q15 q16 q17 q18 q19 q20 q21 q22) := hD
  refine lv_aload_n hx hb dX12_init_187 rfl (lv_at hl 0 rfl) ?_
  refine lv_sipush (v := (2048 : Int32)) hx hb dX12_init_188 (by decide) ?_
  refine m_nwI (N := 2048) X hP hD hS hK hA ar_X12_init.2 (by decide) (by decide) (Nat.le_of_ble_eq_true rfl) ⟨Nat.le_of_ble_eq_true rfl, Nat.le_of_ble_eq_true rfl⟩ dX12_init_191 (fun q23 H hP hD hS h9 => ?_)
  replace hz : s.heap.size + 23 ≤ H.size := by omega
  clear h9
  refine va_putF (D := D) (ci := 12) (v := .ref q23) (ty := tyX12 32) (C := RX12) (T := TX12) (N := 40) (fs := cF_22 q1 q2 q3 q4 q5 q6 q7 q8 q9 q10 q11 q12 q13 q14 q15 q16 q17 q18 q19 q20 q21 q22) X.1 X.2.1 X.2.2.2.2 hw_X12_init tyX12 tyX12_ok nmX12 X.2.2.2.1 hK hP hD (z_Srf hS) 0 rfl rfl 32 (by decide) (X.2.2.2.2 _ fl_X12_init_32) (fun _ h9 => h9) rfl hin rfl (tyX12_ok 32 (by decide)) rfl rfl (Nat.le_of_ble_eq_true rfl) dX12_init_193 (fun H9 locs hP hD hS9 => ?_)
  replace hz : s.heap.size + 23 ≤ H9.size := Nat.le_trans hz hS9.1
  replace hS := z_Str hS hS9
  clear hS9
  replace hP : va_P D vwCl (cW_23 cy ci a q1 q2 q3 q4 q5 q6 q7 q8 q9 q10 q11 q12 q13 q14 q15 q16 q17 q18 q19 q20 q21 q22 q23) H9 := hP
  replace hD : va_D (va_A (cW_0 cy ci a) s.heap.size) (cW_23 cy ci a q1 q2 q3 q4 q5 q6 q7 q8 q9 q10 q11 q12 q13 q14 q15 q16 q17 q18 q19 q20 q21 q22 q23) := hD
  refine lv_aload_n hx hb dX12_init_196 rfl (lv_at hl 0 rfl) ?_
  refine lv_sipush (v := (301 : Int32)) hx hb dX12_init_197 (by decide) ?_
  refine m_nwI (N := 301) X hP hD hS hK hA ar_X12_init.2 (by decide) (by decide) (Nat.le_of_ble_eq_true rfl) ⟨Nat.le_of_ble_eq_true rfl, Nat.le_of_ble_eq_true rfl⟩ dX12_init_200 (fun q24 H hP hD hS h9 => ?_)
  replace hz : s.heap.size + 24 ≤ H.size := by omega
  clear h9
  refine va_putF (D := D) (ci := 12) (v := .ref q24) (ty := tyX12 34) (C := RX12) (T := TX12) (N := 40) (fs := cF_23 q1 q2 q3 q4 q5 q6 q7 q8 q9 q10 q11 q12 q13 q14 q15 q16 q17 q18 q19 q20 q21 q22 q23) X.1 X.2.1 X.2.2.2.2 hw_X12_init tyX12 tyX12_ok nmX12 X.2.2.2.1 hK hP hD (z_Srf hS) 0 rfl rfl 34 (by decide) (X.2.2.2.2 _ fl_X12_init_34) (fun _ h9 => h9) rfl hin rfl (tyX12_ok 34 (by decide)) rfl rfl (Nat.le_of_ble_eq_true rfl) dX12_init_202 (fun H9 locs hP hD hS9 => ?_)
  replace hz : s.heap.size + 24 ≤ H9.size := Nat.le_trans hz hS9.1
  replace hS := z_Str hS hS9
  clear hS9
  replace hP : va_P D vwCl (cW_24 cy ci a q1 q2 q3 q4 q5 q6 q7 q8 q9 q10 q11 q12 q13 q14 q15 q16 q17 q18 q19 q20 q21 q22 q23 q24) H9 := hP
  replace hD : va_D (va_A (cW_0 cy ci a) s.heap.size) (cW_24 cy ci a q1 q2 q3 q4 q5 q6 q7 q8 q9 q10 q11 q12 q13 q14 q15 q16 q17 q18 q19 q20 q21 q22 q23 q24) := hD
  refine lv_aload_n hx hb dX12_init_205 rfl (lv_at hl 0 rfl) ?_
  refine lv_bipush (v := (16 : Int32)) hx hb dX12_init_206 (by decide) ?_
  refine m_nwC (N := 16) X hP hD hS hK hA ar_X12_init.1 (by decide) (by decide) (Nat.le_of_ble_eq_true rfl) ⟨Nat.le_of_ble_eq_true rfl, Nat.le_of_ble_eq_true rfl⟩ dX12_init_208 (fun q25 H hP hD hS h9 => ?_)
  replace hz : s.heap.size + 25 ≤ H.size := by omega
  clear h9
  refine va_putF (D := D) (ci := 12) (v := .ref q25) (ty := tyX12 35) (C := RX12) (T := TX12) (N := 40) (fs := cF_24 q1 q2 q3 q4 q5 q6 q7 q8 q9 q10 q11 q12 q13 q14 q15 q16 q17 q18 q19 q20 q21 q22 q23 q24) X.1 X.2.1 X.2.2.2.2 hw_X12_init tyX12 tyX12_ok nmX12 X.2.2.2.1 hK hP hD (z_Srf hS) 0 rfl rfl 35 (by decide) (X.2.2.2.2 _ fl_X12_init_35) (fun _ h9 => h9) rfl hin rfl (tyX12_ok 35 (by decide)) rfl rfl (Nat.le_of_ble_eq_true rfl) dX12_init_210 (fun H9 locs hP hD hS9 => ?_)
  replace hz : s.heap.size + 25 ≤ H9.size := Nat.le_trans hz hS9.1
  replace hS := z_Str hS hS9
  clear hS9
  replace hP : va_P D vwCl (cW_25 cy ci a q1 q2 q3 q4 q5 q6 q7 q8 q9 q10 q11 q12 q13 q14 q15 q16 q17 q18 q19 q20 q21 q22 q23 q24 q25) H9 := hP
  replace hD : va_D (va_A (cW_0 cy ci a) s.heap.size) (cW_25 cy ci a q1 q2 q3 q4 q5 q6 q7 q8 q9 q10 q11 q12 q13 q14 q15 q16 q17 q18 q19 q20 q21 q22 q23 q24 q25) := hD
  have hM : mH D cy ci (cH a q1 q2 q3 q4 q5 q6 q7 q8 q9 q10 q11 q12 q13 q14 q15 q16 q17 q18 q19 q20 q21 q22 q23 q24 q25) (va_A (cW_0 cy ci a) s.heap.size) s _ _ mI0 mA0 := ⟨hP, hD, hS, hK, hA⟩
  clear hP hD hS
  refine lv_aload_n hx hb dX12_init_213 rfl (lv_at hl 0 rfl) ?_
  refine lv_iconst (v := (0 : Int32)) hx hb dX12_init_214 (by decide) ?_
  refine m_gcallVv (h := cH a q1 q2 q3 q4 q5 q6 q7 q8 q9 q10 q11 q12 q13 q14 q15 q16 q17 q18 q19 q20 q21 q22 q23 q24 q25) X hM (c_clearGame hf1) gX12_init_X12_clearGame rfl ⟨rfl, rfl⟩ ⟨Nat.le_of_ble_eq_true rfl, Nat.le_of_ble_eq_true rfl⟩ hd_clearGame ⟨Nat.le_of_ble_eq_true rfl, Nat.le_of_ble_eq_true rfl⟩ rfl hl.1 rfl (Nat.le_of_ble_eq_true rfl) dX12_init_215 (fun H9 locs hM h9 => ?_)
  replace hz : s.heap.size + 25 ≤ H9.size := Nat.le_trans hz h9
  clear h9
  refine lv_aload_n hx hb dX12_init_218 rfl (lv_at hl 0 rfl) ?_
  refine lv_iconst (v := (0 : Int32)) hx hb dX12_init_219 (by decide) ?_
  refine m_gcallVv (h := cH a q1 q2 q3 q4 q5 q6 q7 q8 q9 q10 q11 q12 q13 q14 q15 q16 q17 q18 q19 q20 q21 q22 q23 q24 q25) X hM (c_usual hf2) gX12_init_X12_usual rfl ⟨rfl, rfl⟩ ⟨Nat.le_of_ble_eq_true rfl, Nat.le_of_ble_eq_true rfl⟩ hd_usual ⟨Nat.le_of_ble_eq_true rfl, Nat.le_of_ble_eq_true rfl⟩ rfl hl.1 rfl (Nat.le_of_ble_eq_true rfl) dX12_init_220 (fun H9 locs hM h9 => ?_)
  replace hz : s.heap.size + 25 ≤ H9.size := Nat.le_trans hz h9
  clear h9
  refine lv_aload_n hx hb dX12_init_223 rfl (lv_at hl 0 rfl) ?_
  refine lv_iconst (v := (0 : Int32)) hx hb dX12_init_224 (by decide) ?_
  refine lv_iconst (v := (0 : Int32)) hx hb dX12_init_225 (by decide) ?_
  refine m_gcallVv (h := cH a q1 q2 q3 q4 q5 q6 q7 q8 q9 q10 q11 q12 q13 q14 q15 q16 q17 q18 q19 q20 q21 q22 q23 q24 q25) X hM (c_place hf3) gX12_init_X12_place rfl ⟨rfl, rfl⟩ ⟨Nat.le_of_ble_eq_true rfl, Nat.le_of_ble_eq_true rfl⟩ hd_place ⟨Nat.le_of_ble_eq_true rfl, Nat.le_of_ble_eq_true rfl⟩ rfl hl.1 rfl (Nat.le_of_ble_eq_true rfl) dX12_init_226 (fun H9 locs hM h9 => ?_)
  replace hz : s.heap.size + 25 ≤ H9.size := Nat.le_trans hz h9
  clear h9
  refine z_loose (cells := 25) (Nat.le_of_ble_eq_true rfl) (fun h9 => ?_)
  have hz9 : H9.size = s.heap.size + 25 := by omega
  refine W.widen (k := 25) (n := 212822) (Nat.le_of_ble_eq_true rfl) (Nat.le_of_ble_eq_true rfl) ?_
  exact W.vret X.1 X.2.1 hr (fun t ht hW => ⟨⟨cH a q1 q2 q3 q4 q5 q6 q7 q8 q9 q10 q11 q12 q13 q14 q15 q16 q17 q18 q19 q20 q21 q22 q23 q24 q25, rfl, rfl, by show va_P D vwCl (mW cy ci (cH a q1 q2 q3 q4 q5 q6 q7 q8 q9 q10 q11 q12 q13 q14 q15 q16 q17 q18 q19 q20 q21 q22 q23 q24 q25) o3.2.1 o3.2.2) t.heap ∧ _; rw [ht]; exact ⟨hM.1, hM.2.1, hz9⟩⟩, hM.2.2.1.F ht⟩) hM.2.2.1.2.2 dX12_init_229
