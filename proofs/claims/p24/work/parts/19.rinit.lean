section
noncomputable abbrev cF_0 : List Value := [.int 0, .int 0, .null, .int 0, .null, .int 0, .int 0, .null, .null, .null, .null, .null, .null, .null, .null, .null, .null, .null, .null, .null, .null, .null, .null, .null, .null, .int 0, .int 0, .int 0, .int 0, .int 0, .null, .null, .null, .int 0, .null, .null, .int 0, .int 0, .int 0, .int 0]
noncomputable abbrev cW_0 (cy ci : ClassId) (a : Nat) : va_W := [(a, .inr (12, cF_0))]
noncomputable abbrev cF_1 (q1 : Nat) : List Value := [.int 0, .int 0, .ref q1, .int 0, .null, .int 0, .int 0, .null, .null, .null, .null, .null, .null, .null, .null, .null, .null, .null, .null, .null, .null, .null, .null, .null, .null, .int 0, .int 0, .int 0, .int 0, .int 0, .null, .null, .null, .int 0, .null, .null, .int 0, .int 0, .int 0, .int 0]
noncomputable abbrev cW_1 (cy ci : ClassId) (a : Nat) (q1 : Nat) : va_W := [(a, .inr (12, cF_1 q1)), (q1, .inl (cy, 2000, .inl (fun _ => 0)))]
noncomputable abbrev cF_2 (q1 q2 : Nat) : List Value := [.int 0, .int 0, .ref q1, .int 0, .ref q2, .int 0, .int 0, .null, .null, .null, .null, .null, .null, .null, .null, .null, .null, .null, .null, .null, .null, .null, .null, .null, .null, .int 0, .int 0, .int 0, .int 0, .int 0, .null, .null, .null, .int 0, .null, .null, .int 0, .int 0, .int 0, .int 0]
noncomputable abbrev cW_2 (cy ci : ClassId) (a : Nat) (q1 q2 : Nat) : va_W := [(a, .inr (12, cF_2 q1 q2)), (q1, .inl (cy, 2000, .inl (fun _ => 0))), (q2, .inl (cy, 80000, .inl (fun _ => 0)))]
noncomputable abbrev cF_3 (q1 q2 q3 : Nat) : List Value := [.int 0, .int 0, .ref q1, .int 0, .ref q2, .int 0, .int 0, .ref q3, .null, .null, .null, .null, .null, .null, .null, .null, .null, .null, .null, .null, .null, .null, .null, .null, .null, .int 0, .int 0, .int 0, .int 0, .int 0, .null, .null, .null, .int 0, .null, .null, .int 0, .int 0, .int 0, .int 0]
noncomputable abbrev cW_3 (cy ci : ClassId) (a : Nat) (q1 q2 q3 : Nat) : va_W := [(a, .inr (12, cF_3 q1 q2 q3)), (q1, .inl (cy, 2000, .inl (fun _ => 0))), (q2, .inl (cy, 80000, .inl (fun _ => 0))), (q3, .inl (ci, 2, .inl (fun _ => 0)))]
noncomputable abbrev cF_4 (q1 q2 q3 q4 : Nat) : List Value := [.int 0, .int 0, .ref q1, .int 0, .ref q2, .int 0, .int 0, .ref q3, .ref q4, .null, .null, .null, .null, .null, .null, .null, .null, .null, .null, .null, .null, .null, .null, .null, .null, .int 0, .int 0, .int 0, .int 0, .int 0, .null, .null, .null, .int 0, .null, .null, .int 0, .int 0, .int 0, .int 0]
noncomputable abbrev cW_4 (cy ci : ClassId) (a : Nat) (q1 q2 q3 q4 : Nat) : va_W := [(a, .inr (12, cF_4 q1 q2 q3 q4)), (q1, .inl (cy, 2000, .inl (fun _ => 0))), (q2, .inl (cy, 80000, .inl (fun _ => 0))), (q3, .inl (ci, 2, .inl (fun _ => 0))), (q4, .inl (ci, 602, .inl (fun _ => 0)))]
noncomputable abbrev cF_5 (q1 q2 q3 q4 q5 : Nat) : List Value := [.int 0, .int 0, .ref q1, .int 0, .ref q2, .int 0, .int 0, .ref q3, .ref q4, .ref q5, .null, .null, .null, .null, .null, .null, .null, .null, .null, .null, .null, .null, .null, .null, .null, .int 0, .int 0, .int 0, .int 0, .int 0, .null, .null, .null, .int 0, .null, .null, .int 0, .int 0, .int 0, .int 0]
noncomputable abbrev cW_5 (cy ci : ClassId) (a : Nat) (q1 q2 q3 q4 q5 : Nat) : va_W := [(a, .inr (12, cF_5 q1 q2 q3 q4 q5)), (q1, .inl (cy, 2000, .inl (fun _ => 0))), (q2, .inl (cy, 80000, .inl (fun _ => 0))), (q3, .inl (ci, 2, .inl (fun _ => 0))), (q4, .inl (ci, 602, .inl (fun _ => 0))), (q5, .inl (ci, 602, .inl (fun _ => 0)))]
noncomputable abbrev cF_6 (q1 q2 q3 q4 q5 q6 : Nat) : List Value := [.int 0, .int 0, .ref q1, .int 0, .ref q2, .int 0, .int 0, .ref q3, .ref q4, .ref q5, .ref q6, .null, .null, .null, .null, .null, .null, .null, .null, .null, .null, .null, .null, .null, .null, .int 0, .int 0, .int 0, .int 0, .int 0, .null, .null, .null, .int 0, .null, .null, .int 0, .int 0, .int 0, .int 0]
noncomputable abbrev cW_6 (cy ci : ClassId) (a : Nat) (q1 q2 q3 q4 q5 q6 : Nat) : va_W := [(a, .inr (12, cF_6 q1 q2 q3 q4 q5 q6)), (q1, .inl (cy, 2000, .inl (fun _ => 0))), (q2, .inl (cy, 80000, .inl (fun _ => 0))), (q3, .inl (ci, 2, .inl (fun _ => 0))), (q4, .inl (ci, 602, .inl (fun _ => 0))), (q5, .inl (ci, 602, .inl (fun _ => 0))), (q6, .inl (ci, 602, .inl (fun _ => 0)))]
noncomputable abbrev cF_7 (q1 q2 q3 q4 q5 q6 q7 : Nat) : List Value := [.int 0, .int 0, .ref q1, .int 0, .ref q2, .int 0, .int 0, .ref q3, .ref q4, .ref q5, .ref q6, .ref q7, .null, .null, .null, .null, .null, .null, .null, .null, .null, .null, .null, .null, .null, .int 0, .int 0, .int 0, .int 0, .int 0, .null, .null, .null, .int 0, .null, .null, .int 0, .int 0, .int 0, .int 0]
noncomputable abbrev cW_7 (cy ci : ClassId) (a : Nat) (q1 q2 q3 q4 q5 q6 q7 : Nat) : va_W := [(a, .inr (12, cF_7 q1 q2 q3 q4 q5 q6 q7)), (q1, .inl (cy, 2000, .inl (fun _ => 0))), (q2, .inl (cy, 80000, .inl (fun _ => 0))), (q3, .inl (ci, 2, .inl (fun _ => 0))), (q4, .inl (ci, 602, .inl (fun _ => 0))), (q5, .inl (ci, 602, .inl (fun _ => 0))), (q6, .inl (ci, 602, .inl (fun _ => 0))), (q7, .inl (ci, 602, .inl (fun _ => 0)))]
noncomputable abbrev cF_8 (q1 q2 q3 q4 q5 q6 q7 q8 : Nat) : List Value := [.int 0, .int 0, .ref q1, .int 0, .ref q2, .int 0, .int 0, .ref q3, .ref q4, .ref q5, .ref q6, .ref q7, .ref q8, .null, .null, .null, .null, .null, .null, .null, .null, .null, .null, .null, .null, .int 0, .int 0, .int 0, .int 0, .int 0, .null, .null, .null, .int 0, .null, .null, .int 0, .int 0, .int 0, .int 0]
noncomputable abbrev cW_8 (cy ci : ClassId) (a : Nat) (q1 q2 q3 q4 q5 q6 q7 q8 : Nat) : va_W := [(a, .inr (12, cF_8 q1 q2 q3 q4 q5 q6 q7 q8)), (q1, .inl (cy, 2000, .inl (fun _ => 0))), (q2, .inl (cy, 80000, .inl (fun _ => 0))), (q3, .inl (ci, 2, .inl (fun _ => 0))), (q4, .inl (ci, 602, .inl (fun _ => 0))), (q5, .inl (ci, 602, .inl (fun _ => 0))), (q6, .inl (ci, 602, .inl (fun _ => 0))), (q7, .inl (ci, 602, .inl (fun _ => 0))), (q8, .inl (ci, 602, .inl (fun _ => 0)))]
noncomputable abbrev cF_9 (q1 q2 q3 q4 q5 q6 q7 q8 q9 : Nat) : List Value := [.int 0, .int 0, .ref q1, .int 0, .ref q2, .int 0, .int 0, .ref q3, .ref q4, .ref q5, .ref q6, .ref q7, .ref q8, .ref q9, .null, .null, .null, .null, .null, .null, .null, .null, .null, .null, .null, .int 0, .int 0, .int 0, .int 0, .int 0, .null, .null, .null, .int 0, .null, .null, .int 0, .int 0, .int 0, .int 0]
noncomputable abbrev cW_9 (cy ci : ClassId) (a : Nat) (q1 q2 q3 q4 q5 q6 q7 q8 q9 : Nat) : va_W := [(a, .inr (12, cF_9 q1 q2 q3 q4 q5 q6 q7 q8 q9)), (q1, .inl (cy, 2000, .inl (fun _ => 0))), (q2, .inl (cy, 80000, .inl (fun _ => 0))), (q3, .inl (ci, 2, .inl (fun _ => 0))), (q4, .inl (ci, 602, .inl (fun _ => 0))), (q5, .inl (ci, 602, .inl (fun _ => 0))), (q6, .inl (ci, 602, .inl (fun _ => 0))), (q7, .inl (ci, 602, .inl (fun _ => 0))), (q8, .inl (ci, 602, .inl (fun _ => 0))), (q9, .inl (ci, 2408, .inl (fun _ => 0)))]
noncomputable abbrev cF_10 (q1 q2 q3 q4 q5 q6 q7 q8 q9 q10 : Nat) : List Value := [.int 0, .int 0, .ref q1, .int 0, .ref q2, .int 0, .int 0, .ref q3, .ref q4, .ref q5, .ref q6, .ref q7, .ref q8, .ref q9, .ref q10, .null, .null, .null, .null, .null, .null, .null, .null, .null, .null, .int 0, .int 0, .int 0, .int 0, .int 0, .null, .null, .null, .int 0, .null, .null, .int 0, .int 0, .int 0, .int 0]
noncomputable abbrev cW_10 (cy ci : ClassId) (a : Nat) (q1 q2 q3 q4 q5 q6 q7 q8 q9 q10 : Nat) : va_W := [(a, .inr (12, cF_10 q1 q2 q3 q4 q5 q6 q7 q8 q9 q10)), (q1, .inl (cy, 2000, .inl (fun _ => 0))), (q2, .inl (cy, 80000, .inl (fun _ => 0))), (q3, .inl (ci, 2, .inl (fun _ => 0))), (q4, .inl (ci, 602, .inl (fun _ => 0))), (q5, .inl (ci, 602, .inl (fun _ => 0))), (q6, .inl (ci, 602, .inl (fun _ => 0))), (q7, .inl (ci, 602, .inl (fun _ => 0))), (q8, .inl (ci, 602, .inl (fun _ => 0))), (q9, .inl (ci, 2408, .inl (fun _ => 0))), (q10, .inl (ci, 602, .inl (fun _ => 0)))]
noncomputable abbrev cF_11 (q1 q2 q3 q4 q5 q6 q7 q8 q9 q10 q11 : Nat) : List Value := [.int 0, .int 0, .ref q1, .int 0, .ref q2, .int 0, .int 0, .ref q3, .ref q4, .ref q5, .ref q6, .ref q7, .ref q8, .ref q9, .ref q10, .ref q11, .null, .null, .null, .null, .null, .null, .null, .null, .null, .int 0, .int 0, .int 0, .int 0, .int 0, .null, .null, .null, .int 0, .null, .null, .int 0, .int 0, .int 0, .int 0]
noncomputable abbrev cW_11 (cy ci : ClassId) (a : Nat) (q1 q2 q3 q4 q5 q6 q7 q8 q9 q10 q11 : Nat) : va_W := [(a, .inr (12, cF_11 q1 q2 q3 q4 q5 q6 q7 q8 q9 q10 q11)), (q1, .inl (cy, 2000, .inl (fun _ => 0))), (q2, .inl (cy, 80000, .inl (fun _ => 0))), (q3, .inl (ci, 2, .inl (fun _ => 0))), (q4, .inl (ci, 602, .inl (fun _ => 0))), (q5, .inl (ci, 602, .inl (fun _ => 0))), (q6, .inl (ci, 602, .inl (fun _ => 0))), (q7, .inl (ci, 602, .inl (fun _ => 0))), (q8, .inl (ci, 602, .inl (fun _ => 0))), (q9, .inl (ci, 2408, .inl (fun _ => 0))), (q10, .inl (ci, 602, .inl (fun _ => 0))), (q11, .inl (cy, 120400, .inl (fun _ => 0)))]
noncomputable abbrev cF_12 (q1 q2 q3 q4 q5 q6 q7 q8 q9 q10 q11 q12 : Nat) : List Value := [.int 0, .int 0, .ref q1, .int 0, .ref q2, .int 0, .int 0, .ref q3, .ref q4, .ref q5, .ref q6, .ref q7, .ref q8, .ref q9, .ref q10, .ref q11, .ref q12, .null, .null, .null, .null, .null, .null, .null, .null, .int 0, .int 0, .int 0, .int 0, .int 0, .null, .null, .null, .int 0, .null, .null, .int 0, .int 0, .int 0, .int 0]
noncomputable abbrev cW_12 (cy ci : ClassId) (a : Nat) (q1 q2 q3 q4 q5 q6 q7 q8 q9 q10 q11 q12 : Nat) : va_W := [(a, .inr (12, cF_12 q1 q2 q3 q4 q5 q6 q7 q8 q9 q10 q11 q12)), (q1, .inl (cy, 2000, .inl (fun _ => 0))), (q2, .inl (cy, 80000, .inl (fun _ => 0))), (q3, .inl (ci, 2, .inl (fun _ => 0))), (q4, .inl (ci, 602, .inl (fun _ => 0))), (q5, .inl (ci, 602, .inl (fun _ => 0))), (q6, .inl (ci, 602, .inl (fun _ => 0))), (q7, .inl (ci, 602, .inl (fun _ => 0))), (q8, .inl (ci, 602, .inl (fun _ => 0))), (q9, .inl (ci, 2408, .inl (fun _ => 0))), (q10, .inl (ci, 602, .inl (fun _ => 0))), (q11, .inl (cy, 120400, .inl (fun _ => 0))), (q12, .inl (ci, 128, .inl (fun _ => 0)))]
noncomputable abbrev cF_13 (q1 q2 q3 q4 q5 q6 q7 q8 q9 q10 q11 q12 q13 : Nat) : List Value := [.int 0, .int 0, .ref q1, .int 0, .ref q2, .int 0, .int 0, .ref q3, .ref q4, .ref q5, .ref q6, .ref q7, .ref q8, .ref q9, .ref q10, .ref q11, .ref q12, .ref q13, .null, .null, .null, .null, .null, .null, .null, .int 0, .int 0, .int 0, .int 0, .int 0, .null, .null, .null, .int 0, .null, .null, .int 0, .int 0, .int 0, .int 0]
noncomputable abbrev cW_13 (cy ci : ClassId) (a : Nat) (q1 q2 q3 q4 q5 q6 q7 q8 q9 q10 q11 q12 q13 : Nat) : va_W := [(a, .inr (12, cF_13 q1 q2 q3 q4 q5 q6 q7 q8 q9 q10 q11 q12 q13)), (q1, .inl (cy, 2000, .inl (fun _ => 0))), (q2, .inl (cy, 80000, .inl (fun _ => 0))), (q3, .inl (ci, 2, .inl (fun _ => 0))), (q4, .inl (ci, 602, .inl (fun _ => 0))), (q5, .inl (ci, 602, .inl (fun _ => 0))), (q6, .inl (ci, 602, .inl (fun _ => 0))), (q7, .inl (ci, 602, .inl (fun _ => 0))), (q8, .inl (ci, 602, .inl (fun _ => 0))), (q9, .inl (ci, 2408, .inl (fun _ => 0))), (q10, .inl (ci, 602, .inl (fun _ => 0))), (q11, .inl (cy, 120400, .inl (fun _ => 0))), (q12, .inl (ci, 128, .inl (fun _ => 0))), (q13, .inl (ci, 10, .inl (fun _ => 0)))]
noncomputable abbrev cF_14 (q1 q2 q3 q4 q5 q6 q7 q8 q9 q10 q11 q12 q13 q14 : Nat) : List Value := [.int 0, .int 0, .ref q1, .int 0, .ref q2, .int 0, .int 0, .ref q3, .ref q4, .ref q5, .ref q6, .ref q7, .ref q8, .ref q9, .ref q10, .ref q11, .ref q12, .ref q13, .ref q14, .null, .null, .null, .null, .null, .null, .int 0, .int 0, .int 0, .int 0, .int 0, .null, .null, .null, .int 0, .null, .null, .int 0, .int 0, .int 0, .int 0]
noncomputable abbrev cW_14 (cy ci : ClassId) (a : Nat) (q1 q2 q3 q4 q5 q6 q7 q8 q9 q10 q11 q12 q13 q14 : Nat) : va_W := [(a, .inr (12, cF_14 q1 q2 q3 q4 q5 q6 q7 q8 q9 q10 q11 q12 q13 q14)), (q1, .inl (cy, 2000, .inl (fun _ => 0))), (q2, .inl (cy, 80000, .inl (fun _ => 0))), (q3, .inl (ci, 2, .inl (fun _ => 0))), (q4, .inl (ci, 602, .inl (fun _ => 0))), (q5, .inl (ci, 602, .inl (fun _ => 0))), (q6, .inl (ci, 602, .inl (fun _ => 0))), (q7, .inl (ci, 602, .inl (fun _ => 0))), (q8, .inl (ci, 602, .inl (fun _ => 0))), (q9, .inl (ci, 2408, .inl (fun _ => 0))), (q10, .inl (ci, 602, .inl (fun _ => 0))), (q11, .inl (cy, 120400, .inl (fun _ => 0))), (q12, .inl (ci, 128, .inl (fun _ => 0))), (q13, .inl (ci, 10, .inl (fun _ => 0))), (q14, .inl (ci, 2, .inl (fun _ => 0)))]
noncomputable abbrev cF_15 (q1 q2 q3 q4 q5 q6 q7 q8 q9 q10 q11 q12 q13 q14 q15 : Nat) : List Value := [.int 0, .int 0, .ref q1, .int 0, .ref q2, .int 0, .int 0, .ref q3, .ref q4, .ref q5, .ref q6, .ref q7, .ref q8, .ref q9, .ref q10, .ref q11, .ref q12, .ref q13, .ref q14, .ref q15, .null, .null, .null, .null, .null, .int 0, .int 0, .int 0, .int 0, .int 0, .null, .null, .null, .int 0, .null, .null, .int 0, .int 0, .int 0, .int 0]
noncomputable abbrev cW_15 (cy ci : ClassId) (a : Nat) (q1 q2 q3 q4 q5 q6 q7 q8 q9 q10 q11 q12 q13 q14 q15 : Nat) : va_W := [(a, .inr (12, cF_15 q1 q2 q3 q4 q5 q6 q7 q8 q9 q10 q11 q12 q13 q14 q15)), (q1, .inl (cy, 2000, .inl (fun _ => 0))), (q2, .inl (cy, 80000, .inl (fun _ => 0))), (q3, .inl (ci, 2, .inl (fun _ => 0))), (q4, .inl (ci, 602, .inl (fun _ => 0))), (q5, .inl (ci, 602, .inl (fun _ => 0))), (q6, .inl (ci, 602, .inl (fun _ => 0))), (q7, .inl (ci, 602, .inl (fun _ => 0))), (q8, .inl (ci, 602, .inl (fun _ => 0))), (q9, .inl (ci, 2408, .inl (fun _ => 0))), (q10, .inl (ci, 602, .inl (fun _ => 0))), (q11, .inl (cy, 120400, .inl (fun _ => 0))), (q12, .inl (ci, 128, .inl (fun _ => 0))), (q13, .inl (ci, 10, .inl (fun _ => 0))), (q14, .inl (ci, 2, .inl (fun _ => 0))), (q15, .inl (ci, 16, .inl (fun _ => 0)))]
noncomputable abbrev cF_16 (q1 q2 q3 q4 q5 q6 q7 q8 q9 q10 q11 q12 q13 q14 q15 q16 : Nat) : List Value := [.int 0, .int 0, .ref q1, .int 0, .ref q2, .int 0, .int 0, .ref q3, .ref q4, .ref q5, .ref q6, .ref q7, .ref q8, .ref q9, .ref q10, .ref q11, .ref q12, .ref q13, .ref q14, .ref q15, .ref q16, .null, .null, .null, .null, .int 0, .int 0, .int 0, .int 0, .int 0, .null, .null, .null, .int 0, .null, .null, .int 0, .int 0, .int 0, .int 0]
noncomputable abbrev cW_16 (cy ci : ClassId) (a : Nat) (q1 q2 q3 q4 q5 q6 q7 q8 q9 q10 q11 q12 q13 q14 q15 q16 : Nat) : va_W := [(a, .inr (12, cF_16 q1 q2 q3 q4 q5 q6 q7 q8 q9 q10 q11 q12 q13 q14 q15 q16)), (q1, .inl (cy, 2000, .inl (fun _ => 0))), (q2, .inl (cy, 80000, .inl (fun _ => 0))), (q3, .inl (ci, 2, .inl (fun _ => 0))), (q4, .inl (ci, 602, .inl (fun _ => 0))), (q5, .inl (ci, 602, .inl (fun _ => 0))), (q6, .inl (ci, 602, .inl (fun _ => 0))), (q7, .inl (ci, 602, .inl (fun _ => 0))), (q8, .inl (ci, 602, .inl (fun _ => 0))), (q9, .inl (ci, 2408, .inl (fun _ => 0))), (q10, .inl (ci, 602, .inl (fun _ => 0))), (q11, .inl (cy, 120400, .inl (fun _ => 0))), (q12, .inl (ci, 128, .inl (fun _ => 0))), (q13, .inl (ci, 10, .inl (fun _ => 0))), (q14, .inl (ci, 2, .inl (fun _ => 0))), (q15, .inl (ci, 16, .inl (fun _ => 0))), (q16, .inl (cy, 192, .inl (fun _ => 0)))]
noncomputable abbrev cF_17 (q1 q2 q3 q4 q5 q6 q7 q8 q9 q10 q11 q12 q13 q14 q15 q16 q17 : Nat) : List Value := [.int 0, .int 0, .ref q1, .int 0, .ref q2, .int 0, .int 0, .ref q3, .ref q4, .ref q5, .ref q6, .ref q7, .ref q8, .ref q9, .ref q10, .ref q11, .ref q12, .ref q13, .ref q14, .ref q15, .ref q16, .ref q17, .null, .null, .null, .int 0, .int 0, .int 0, .int 0, .int 0, .null, .null, .null, .int 0, .null, .null, .int 0, .int 0, .int 0, .int 0]
noncomputable abbrev cW_17 (cy ci : ClassId) (a : Nat) (q1 q2 q3 q4 q5 q6 q7 q8 q9 q10 q11 q12 q13 q14 q15 q16 q17 : Nat) : va_W := [(a, .inr (12, cF_17 q1 q2 q3 q4 q5 q6 q7 q8 q9 q10 q11 q12 q13 q14 q15 q16 q17)), (q1, .inl (cy, 2000, .inl (fun _ => 0))), (q2, .inl (cy, 80000, .inl (fun _ => 0))), (q3, .inl (ci, 2, .inl (fun _ => 0))), (q4, .inl (ci, 602, .inl (fun _ => 0))), (q5, .inl (ci, 602, .inl (fun _ => 0))), (q6, .inl (ci, 602, .inl (fun _ => 0))), (q7, .inl (ci, 602, .inl (fun _ => 0))), (q8, .inl (ci, 602, .inl (fun _ => 0))), (q9, .inl (ci, 2408, .inl (fun _ => 0))), (q10, .inl (ci, 602, .inl (fun _ => 0))), (q11, .inl (cy, 120400, .inl (fun _ => 0))), (q12, .inl (ci, 128, .inl (fun _ => 0))), (q13, .inl (ci, 10, .inl (fun _ => 0))), (q14, .inl (ci, 2, .inl (fun _ => 0))), (q15, .inl (ci, 16, .inl (fun _ => 0))), (q16, .inl (cy, 192, .inl (fun _ => 0))), (q17, .inl (ci, 16, .inl (fun _ => 0)))]
noncomputable abbrev cF_18 (q1 q2 q3 q4 q5 q6 q7 q8 q9 q10 q11 q12 q13 q14 q15 q16 q17 q18 : Nat) : List Value := [.int 0, .int 0, .ref q1, .int 0, .ref q2, .int 0, .int 0, .ref q3, .ref q4, .ref q5, .ref q6, .ref q7, .ref q8, .ref q9, .ref q10, .ref q11, .ref q12, .ref q13, .ref q14, .ref q15, .ref q16, .ref q17, .ref q18, .null, .null, .int 0, .int 0, .int 0, .int 0, .int 0, .null, .null, .null, .int 0, .null, .null, .int 0, .int 0, .int 0, .int 0]
noncomputable abbrev cW_18 (cy ci : ClassId) (a : Nat) (q1 q2 q3 q4 q5 q6 q7 q8 q9 q10 q11 q12 q13 q14 q15 q16 q17 q18 : Nat) : va_W := [(a, .inr (12, cF_18 q1 q2 q3 q4 q5 q6 q7 q8 q9 q10 q11 q12 q13 q14 q15 q16 q17 q18)), (q1, .inl (cy, 2000, .inl (fun _ => 0))), (q2, .inl (cy, 80000, .inl (fun _ => 0))), (q3, .inl (ci, 2, .inl (fun _ => 0))), (q4, .inl (ci, 602, .inl (fun _ => 0))), (q5, .inl (ci, 602, .inl (fun _ => 0))), (q6, .inl (ci, 602, .inl (fun _ => 0))), (q7, .inl (ci, 602, .inl (fun _ => 0))), (q8, .inl (ci, 602, .inl (fun _ => 0))), (q9, .inl (ci, 2408, .inl (fun _ => 0))), (q10, .inl (ci, 602, .inl (fun _ => 0))), (q11, .inl (cy, 120400, .inl (fun _ => 0))), (q12, .inl (ci, 128, .inl (fun _ => 0))), (q13, .inl (ci, 10, .inl (fun _ => 0))), (q14, .inl (ci, 2, .inl (fun _ => 0))), (q15, .inl (ci, 16, .inl (fun _ => 0))), (q16, .inl (cy, 192, .inl (fun _ => 0))), (q17, .inl (ci, 16, .inl (fun _ => 0))), (q18, .inl (cy, 1536, .inl (fun _ => 0)))]
noncomputable abbrev cF_19 (q1 q2 q3 q4 q5 q6 q7 q8 q9 q10 q11 q12 q13 q14 q15 q16 q17 q18 q19 : Nat) : List Value := [.int 0, .int 0, .ref q1, .int 0, .ref q2, .int 0, .int 0, .ref q3, .ref q4, .ref q5, .ref q6, .ref q7, .ref q8, .ref q9, .ref q10, .ref q11, .ref q12, .ref q13, .ref q14, .ref q15, .ref q16, .ref q17, .ref q18, .ref q19, .null, .int 0, .int 0, .int 0, .int 0, .int 0, .null, .null, .null, .int 0, .null, .null, .int 0, .int 0, .int 0, .int 0]
noncomputable abbrev cW_19 (cy ci : ClassId) (a : Nat) (q1 q2 q3 q4 q5 q6 q7 q8 q9 q10 q11 q12 q13 q14 q15 q16 q17 q18 q19 : Nat) : va_W := [(a, .inr (12, cF_19 q1 q2 q3 q4 q5 q6 q7 q8 q9 q10 q11 q12 q13 q14 q15 q16 q17 q18 q19)), (q1, .inl (cy, 2000, .inl (fun _ => 0))), (q2, .inl (cy, 80000, .inl (fun _ => 0))), (q3, .inl (ci, 2, .inl (fun _ => 0))), (q4, .inl (ci, 602, .inl (fun _ => 0))), (q5, .inl (ci, 602, .inl (fun _ => 0))), (q6, .inl (ci, 602, .inl (fun _ => 0))), (q7, .inl (ci, 602, .inl (fun _ => 0))), (q8, .inl (ci, 602, .inl (fun _ => 0))), (q9, .inl (ci, 2408, .inl (fun _ => 0))), (q10, .inl (ci, 602, .inl (fun _ => 0))), (q11, .inl (cy, 120400, .inl (fun _ => 0))), (q12, .inl (ci, 128, .inl (fun _ => 0))), (q13, .inl (ci, 10, .inl (fun _ => 0))), (q14, .inl (ci, 2, .inl (fun _ => 0))), (q15, .inl (ci, 16, .inl (fun _ => 0))), (q16, .inl (cy, 192, .inl (fun _ => 0))), (q17, .inl (ci, 16, .inl (fun _ => 0))), (q18, .inl (cy, 1536, .inl (fun _ => 0))), (q19, .inl (ci, 2, .inl (fun _ => 0)))]
noncomputable abbrev cF_20 (q1 q2 q3 q4 q5 q6 q7 q8 q9 q10 q11 q12 q13 q14 q15 q16 q17 q18 q19 q20 : Nat) : List Value := [.int 0, .int 0, .ref q1, .int 0, .ref q2, .int 0, .int 0, .ref q3, .ref q4, .ref q5, .ref q6, .ref q7, .ref q8, .ref q9, .ref q10, .ref q11, .ref q12, .ref q13, .ref q14, .ref q15, .ref q16, .ref q17, .ref q18, .ref q19, .ref q20, .int 0, .int 0, .int 0, .int 0, .int 0, .null, .null, .null, .int 0, .null, .null, .int 0, .int 0, .int 0, .int 0]
noncomputable abbrev cW_20 (cy ci : ClassId) (a : Nat) (q1 q2 q3 q4 q5 q6 q7 q8 q9 q10 q11 q12 q13 q14 q15 q16 q17 q18 q19 q20 : Nat) : va_W := [(a, .inr (12, cF_20 q1 q2 q3 q4 q5 q6 q7 q8 q9 q10 q11 q12 q13 q14 q15 q16 q17 q18 q19 q20)), (q1, .inl (cy, 2000, .inl (fun _ => 0))), (q2, .inl (cy, 80000, .inl (fun _ => 0))), (q3, .inl (ci, 2, .inl (fun _ => 0))), (q4, .inl (ci, 602, .inl (fun _ => 0))), (q5, .inl (ci, 602, .inl (fun _ => 0))), (q6, .inl (ci, 602, .inl (fun _ => 0))), (q7, .inl (ci, 602, .inl (fun _ => 0))), (q8, .inl (ci, 602, .inl (fun _ => 0))), (q9, .inl (ci, 2408, .inl (fun _ => 0))), (q10, .inl (ci, 602, .inl (fun _ => 0))), (q11, .inl (cy, 120400, .inl (fun _ => 0))), (q12, .inl (ci, 128, .inl (fun _ => 0))), (q13, .inl (ci, 10, .inl (fun _ => 0))), (q14, .inl (ci, 2, .inl (fun _ => 0))), (q15, .inl (ci, 16, .inl (fun _ => 0))), (q16, .inl (cy, 192, .inl (fun _ => 0))), (q17, .inl (ci, 16, .inl (fun _ => 0))), (q18, .inl (cy, 1536, .inl (fun _ => 0))), (q19, .inl (ci, 2, .inl (fun _ => 0))), (q20, .inl (ci, 64, .inl (fun _ => 0)))]
noncomputable abbrev cF_21 (q1 q2 q3 q4 q5 q6 q7 q8 q9 q10 q11 q12 q13 q14 q15 q16 q17 q18 q19 q20 q21 : Nat) : List Value := [.int 0, .int 0, .ref q1, .int 0, .ref q2, .int 0, .int 0, .ref q3, .ref q4, .ref q5, .ref q6, .ref q7, .ref q8, .ref q9, .ref q10, .ref q11, .ref q12, .ref q13, .ref q14, .ref q15, .ref q16, .ref q17, .ref q18, .ref q19, .ref q20, .int 0, .int 0, .int 0, .int 0, .int 0, .ref q21, .null, .null, .int 0, .null, .null, .int 0, .int 0, .int 0, .int 0]
noncomputable abbrev cW_21 (cy ci : ClassId) (a : Nat) (q1 q2 q3 q4 q5 q6 q7 q8 q9 q10 q11 q12 q13 q14 q15 q16 q17 q18 q19 q20 q21 : Nat) : va_W := [(a, .inr (12, cF_21 q1 q2 q3 q4 q5 q6 q7 q8 q9 q10 q11 q12 q13 q14 q15 q16 q17 q18 q19 q20 q21)), (q1, .inl (cy, 2000, .inl (fun _ => 0))), (q2, .inl (cy, 80000, .inl (fun _ => 0))), (q3, .inl (ci, 2, .inl (fun _ => 0))), (q4, .inl (ci, 602, .inl (fun _ => 0))), (q5, .inl (ci, 602, .inl (fun _ => 0))), (q6, .inl (ci, 602, .inl (fun _ => 0))), (q7, .inl (ci, 602, .inl (fun _ => 0))), (q8, .inl (ci, 602, .inl (fun _ => 0))), (q9, .inl (ci, 2408, .inl (fun _ => 0))), (q10, .inl (ci, 602, .inl (fun _ => 0))), (q11, .inl (cy, 120400, .inl (fun _ => 0))), (q12, .inl (ci, 128, .inl (fun _ => 0))), (q13, .inl (ci, 10, .inl (fun _ => 0))), (q14, .inl (ci, 2, .inl (fun _ => 0))), (q15, .inl (ci, 16, .inl (fun _ => 0))), (q16, .inl (cy, 192, .inl (fun _ => 0))), (q17, .inl (ci, 16, .inl (fun _ => 0))), (q18, .inl (cy, 1536, .inl (fun _ => 0))), (q19, .inl (ci, 2, .inl (fun _ => 0))), (q20, .inl (ci, 64, .inl (fun _ => 0))), (q21, .inl (ci, 64, .inl (fun _ => 0)))]
noncomputable abbrev cF_22 (q1 q2 q3 q4 q5 q6 q7 q8 q9 q10 q11 q12 q13 q14 q15 q16 q17 q18 q19 q20 q21 q22 : Nat) : List Value := [.int 0, .int 0, .ref q1, .int 0, .ref q2, .int 0, .int 0, .ref q3, .ref q4, .ref q5, .ref q6, .ref q7, .ref q8, .ref q9, .ref q10, .ref q11, .ref q12, .ref q13, .ref q14, .ref q15, .ref q16, .ref q17, .ref q18, .ref q19, .ref q20, .int 0, .int 0, .int 0, .int 0, .int 0, .ref q21, .ref q22, .null, .int 0, .null, .null, .int 0, .int 0, .int 0, .int 0]
noncomputable abbrev cW_22 (cy ci : ClassId) (a : Nat) (q1 q2 q3 q4 q5 q6 q7 q8 q9 q10 q11 q12 q13 q14 q15 q16 q17 q18 q19 q20 q21 q22 : Nat) : va_W := [(a, .inr (12, cF_22 q1 q2 q3 q4 q5 q6 q7 q8 q9 q10 q11 q12 q13 q14 q15 q16 q17 q18 q19 q20 q21 q22)), (q1, .inl (cy, 2000, .inl (fun _ => 0))), (q2, .inl (cy, 80000, .inl (fun _ => 0))), (q3, .inl (ci, 2, .inl (fun _ => 0))), (q4, .inl (ci, 602, .inl (fun _ => 0))), (q5, .inl (ci, 602, .inl (fun _ => 0))), (q6, .inl (ci, 602, .inl (fun _ => 0))), (q7, .inl (ci, 602, .inl (fun _ => 0))), (q8, .inl (ci, 602, .inl (fun _ => 0))), (q9, .inl (ci, 2408, .inl (fun _ => 0))), (q10, .inl (ci, 602, .inl (fun _ => 0))), (q11, .inl (cy, 120400, .inl (fun _ => 0))), (q12, .inl (ci, 128, .inl (fun _ => 0))), (q13, .inl (ci, 10, .inl (fun _ => 0))), (q14, .inl (ci, 2, .inl (fun _ => 0))), (q15, .inl (ci, 16, .inl (fun _ => 0))), (q16, .inl (cy, 192, .inl (fun _ => 0))), (q17, .inl (ci, 16, .inl (fun _ => 0))), (q18, .inl (cy, 1536, .inl (fun _ => 0))), (q19, .inl (ci, 2, .inl (fun _ => 0))), (q20, .inl (ci, 64, .inl (fun _ => 0))), (q21, .inl (ci, 64, .inl (fun _ => 0))), (q22, .inl (ci, 5, .inl (fun _ => 0)))]
noncomputable abbrev cF_23 (q1 q2 q3 q4 q5 q6 q7 q8 q9 q10 q11 q12 q13 q14 q15 q16 q17 q18 q19 q20 q21 q22 q23 : Nat) : List Value := [.int 0, .int 0, .ref q1, .int 0, .ref q2, .int 0, .int 0, .ref q3, .ref q4, .ref q5, .ref q6, .ref q7, .ref q8, .ref q9, .ref q10, .ref q11, .ref q12, .ref q13, .ref q14, .ref q15, .ref q16, .ref q17, .ref q18, .ref q19, .ref q20, .int 0, .int 0, .int 0, .int 0, .int 0, .ref q21, .ref q22, .ref q23, .int 0, .null, .null, .int 0, .int 0, .int 0, .int 0]
noncomputable abbrev cW_23 (cy ci : ClassId) (a : Nat) (q1 q2 q3 q4 q5 q6 q7 q8 q9 q10 q11 q12 q13 q14 q15 q16 q17 q18 q19 q20 q21 q22 q23 : Nat) : va_W := [(a, .inr (12, cF_23 q1 q2 q3 q4 q5 q6 q7 q8 q9 q10 q11 q12 q13 q14 q15 q16 q17 q18 q19 q20 q21 q22 q23)), (q1, .inl (cy, 2000, .inl (fun _ => 0))), (q2, .inl (cy, 80000, .inl (fun _ => 0))), (q3, .inl (ci, 2, .inl (fun _ => 0))), (q4, .inl (ci, 602, .inl (fun _ => 0))), (q5, .inl (ci, 602, .inl (fun _ => 0))), (q6, .inl (ci, 602, .inl (fun _ => 0))), (q7, .inl (ci, 602, .inl (fun _ => 0))), (q8, .inl (ci, 602, .inl (fun _ => 0))), (q9, .inl (ci, 2408, .inl (fun _ => 0))), (q10, .inl (ci, 602, .inl (fun _ => 0))), (q11, .inl (cy, 120400, .inl (fun _ => 0))), (q12, .inl (ci, 128, .inl (fun _ => 0))), (q13, .inl (ci, 10, .inl (fun _ => 0))), (q14, .inl (ci, 2, .inl (fun _ => 0))), (q15, .inl (ci, 16, .inl (fun _ => 0))), (q16, .inl (cy, 192, .inl (fun _ => 0))), (q17, .inl (ci, 16, .inl (fun _ => 0))), (q18, .inl (cy, 1536, .inl (fun _ => 0))), (q19, .inl (ci, 2, .inl (fun _ => 0))), (q20, .inl (ci, 64, .inl (fun _ => 0))), (q21, .inl (ci, 64, .inl (fun _ => 0))), (q22, .inl (ci, 5, .inl (fun _ => 0))), (q23, .inl (ci, 2048, .inl (fun _ => 0)))]
noncomputable abbrev cF_24 (q1 q2 q3 q4 q5 q6 q7 q8 q9 q10 q11 q12 q13 q14 q15 q16 q17 q18 q19 q20 q21 q22 q23 q24 : Nat) : List Value := [.int 0, .int 0, .ref q1, .int 0, .ref q2, .int 0, .int 0, .ref q3, .ref q4, .ref q5, .ref q6, .ref q7, .ref q8, .ref q9, .ref q10, .ref q11, .ref q12, .ref q13, .ref q14, .ref q15, .ref q16, .ref q17, .ref q18, .ref q19, .ref q20, .int 0, .int 0, .int 0, .int 0, .int 0, .ref q21, .ref q22, .ref q23, .int 0, .ref q24, .null, .int 0, .int 0, .int 0, .int 0]
noncomputable abbrev cW_24 (cy ci : ClassId) (a : Nat) (q1 q2 q3 q4 q5 q6 q7 q8 q9 q10 q11 q12 q13 q14 q15 q16 q17 q18 q19 q20 q21 q22 q23 q24 : Nat) : va_W := [(a, .inr (12, cF_24 q1 q2 q3 q4 q5 q6 q7 q8 q9 q10 q11 q12 q13 q14 q15 q16 q17 q18 q19 q20 q21 q22 q23 q24)), (q1, .inl (cy, 2000, .inl (fun _ => 0))), (q2, .inl (cy, 80000, .inl (fun _ => 0))), (q3, .inl (ci, 2, .inl (fun _ => 0))), (q4, .inl (ci, 602, .inl (fun _ => 0))), (q5, .inl (ci, 602, .inl (fun _ => 0))), (q6, .inl (ci, 602, .inl (fun _ => 0))), (q7, .inl (ci, 602, .inl (fun _ => 0))), (q8, .inl (ci, 602, .inl (fun _ => 0))), (q9, .inl (ci, 2408, .inl (fun _ => 0))), (q10, .inl (ci, 602, .inl (fun _ => 0))), (q11, .inl (cy, 120400, .inl (fun _ => 0))), (q12, .inl (ci, 128, .inl (fun _ => 0))), (q13, .inl (ci, 10, .inl (fun _ => 0))), (q14, .inl (ci, 2, .inl (fun _ => 0))), (q15, .inl (ci, 16, .inl (fun _ => 0))), (q16, .inl (cy, 192, .inl (fun _ => 0))), (q17, .inl (ci, 16, .inl (fun _ => 0))), (q18, .inl (cy, 1536, .inl (fun _ => 0))), (q19, .inl (ci, 2, .inl (fun _ => 0))), (q20, .inl (ci, 64, .inl (fun _ => 0))), (q21, .inl (ci, 64, .inl (fun _ => 0))), (q22, .inl (ci, 5, .inl (fun _ => 0))), (q23, .inl (ci, 2048, .inl (fun _ => 0))), (q24, .inl (ci, 301, .inl (fun _ => 0)))]
noncomputable abbrev cF_25 (q1 q2 q3 q4 q5 q6 q7 q8 q9 q10 q11 q12 q13 q14 q15 q16 q17 q18 q19 q20 q21 q22 q23 q24 q25 : Nat) : List Value := [.int 0, .int 0, .ref q1, .int 0, .ref q2, .int 0, .int 0, .ref q3, .ref q4, .ref q5, .ref q6, .ref q7, .ref q8, .ref q9, .ref q10, .ref q11, .ref q12, .ref q13, .ref q14, .ref q15, .ref q16, .ref q17, .ref q18, .ref q19, .ref q20, .int 0, .int 0, .int 0, .int 0, .int 0, .ref q21, .ref q22, .ref q23, .int 0, .ref q24, .ref q25, .int 0, .int 0, .int 0, .int 0]
noncomputable abbrev cW_25 (cy ci : ClassId) (a : Nat) (q1 q2 q3 q4 q5 q6 q7 q8 q9 q10 q11 q12 q13 q14 q15 q16 q17 q18 q19 q20 q21 q22 q23 q24 q25 : Nat) : va_W := [(a, .inr (12, cF_25 q1 q2 q3 q4 q5 q6 q7 q8 q9 q10 q11 q12 q13 q14 q15 q16 q17 q18 q19 q20 q21 q22 q23 q24 q25)), (q1, .inl (cy, 2000, .inl (fun _ => 0))), (q2, .inl (cy, 80000, .inl (fun _ => 0))), (q3, .inl (ci, 2, .inl (fun _ => 0))), (q4, .inl (ci, 602, .inl (fun _ => 0))), (q5, .inl (ci, 602, .inl (fun _ => 0))), (q6, .inl (ci, 602, .inl (fun _ => 0))), (q7, .inl (ci, 602, .inl (fun _ => 0))), (q8, .inl (ci, 602, .inl (fun _ => 0))), (q9, .inl (ci, 2408, .inl (fun _ => 0))), (q10, .inl (ci, 602, .inl (fun _ => 0))), (q11, .inl (cy, 120400, .inl (fun _ => 0))), (q12, .inl (ci, 128, .inl (fun _ => 0))), (q13, .inl (ci, 10, .inl (fun _ => 0))), (q14, .inl (ci, 2, .inl (fun _ => 0))), (q15, .inl (ci, 16, .inl (fun _ => 0))), (q16, .inl (cy, 192, .inl (fun _ => 0))), (q17, .inl (ci, 16, .inl (fun _ => 0))), (q18, .inl (cy, 1536, .inl (fun _ => 0))), (q19, .inl (ci, 2, .inl (fun _ => 0))), (q20, .inl (ci, 64, .inl (fun _ => 0))), (q21, .inl (ci, 64, .inl (fun _ => 0))), (q22, .inl (ci, 5, .inl (fun _ => 0))), (q23, .inl (ci, 2048, .inl (fun _ => 0))), (q24, .inl (ci, 301, .inl (fun _ => 0))), (q25, .inl (cy, 16, .inl (fun _ => 0)))]
noncomputable def cH (a q1 q2 q3 q4 q5 q6 q7 q8 q9 q10 q11 q12 q13 q14 q15 q16 q17 q18 q19 q20 q21 q22 q23 q24 q25 : Nat) : Nat → Nat := fun k => match k with
  | 0 => a
  | 2 => q1
  | 4 => q2
  | 7 => q3
  | 8 => q4
  | 9 => q5
  | 10 => q6
  | 11 => q7
  | 12 => q8
  | 13 => q9
  | 14 => q10
  | 15 => q11
  | 16 => q12
  | 17 => q13
  | 18 => q14
  | 19 => q15
  | 20 => q16
  | 21 => q17
  | 22 => q18
  | 23 => q19
  | 24 => q20
  | 30 => q21
  | 31 => q22
  | 32 => q23
  | 34 => q24
  | 35 => q25
  | _ => 0
theorem cH_W {cy ci : ClassId} {a q1 q2 q3 q4 q5 q6 q7 q8 q9 q10 q11 q12 q13 q14 q15 q16 q17 q18 q19 q20 q21 q22 q23 q24 q25 : Nat} : cW_25 cy ci a q1 q2 q3 q4 q5 q6 q7 q8 q9 q10 q11 q12 q13 q14 q15 q16 q17 q18 q19 q20 q21 q22 q23 q24 q25 = mW cy ci (cH a q1 q2 q3 q4 q5 q6 q7 q8 q9 q10 q11 q12 q13 q14 q15 q16 q17 q18 q19 q20 q21 q22 q23 q24 q25) (fun _ => 0) (fun _ _ => 0) := rfl
theorem fl_X12_init_2 : Cond.fieldLink RX12 7 "MoveTextsModel" "text" "[C" ∈ wsX12_init := by decide +kernel
theorem fl_X12_init_4 : Cond.fieldLink RX12 14 "MoveTextsModel" "out" "[C" ∈ wsX12_init := by decide +kernel
theorem fl_X12_init_7 : Cond.fieldLink RX12 17 "MoveTextsModel" "count" "[I" ∈ wsX12_init := by decide +kernel
theorem fl_X12_init_8 : Cond.fieldLink RX12 21 "MoveTextsModel" "parent" "[I" ∈ wsX12_init := by decide +kernel
theorem fl_X12_init_9 : Cond.fieldLink RX12 24 "MoveTextsModel" "moveOf" "[I" ∈ wsX12_init := by decide +kernel
theorem fl_X12_init_10 : Cond.fieldLink RX12 27 "MoveTextsModel" "child" "[I" ∈ wsX12_init := by decide +kernel
theorem fl_X12_init_11 : Cond.fieldLink RX12 30 "MoveTextsModel" "next" "[I" ∈ wsX12_init := by decide +kernel
theorem fl_X12_init_12 : Cond.fieldLink RX12 33 "MoveTextsModel" "markCount" "[I" ∈ wsX12_init := by decide +kernel
theorem fl_X12_init_13 : Cond.fieldLink RX12 36 "MoveTextsModel" "marks" "[I" ∈ wsX12_init := by decide +kernel
theorem fl_X12_init_14 : Cond.fieldLink RX12 39 "MoveTextsModel" "remarkSize" "[I" ∈ wsX12_init := by decide +kernel
theorem fl_X12_init_15 : Cond.fieldLink RX12 43 "MoveTextsModel" "remarks" "[C" ∈ wsX12_init := by decide +kernel
theorem fl_X12_init_16 : Cond.fieldLink RX12 46 "MoveTextsModel" "startMen" "[I" ∈ wsX12_init := by decide +kernel
theorem fl_X12_init_17 : Cond.fieldLink RX12 49 "MoveTextsModel" "startRest" "[I" ∈ wsX12_init := by decide +kernel
theorem fl_X12_init_18 : Cond.fieldLink RX12 52 "MoveTextsModel" "tagCount" "[I" ∈ wsX12_init := by decide +kernel
theorem fl_X12_init_19 : Cond.fieldLink RX12 55 "MoveTextsModel" "nameSize" "[I" ∈ wsX12_init := by decide +kernel
theorem fl_X12_init_20 : Cond.fieldLink RX12 58 "MoveTextsModel" "names" "[C" ∈ wsX12_init := by decide +kernel
theorem fl_X12_init_21 : Cond.fieldLink RX12 61 "MoveTextsModel" "valueSize" "[I" ∈ wsX12_init := by decide +kernel
theorem fl_X12_init_22 : Cond.fieldLink RX12 64 "MoveTextsModel" "values" "[C" ∈ wsX12_init := by decide +kernel
theorem fl_X12_init_23 : Cond.fieldLink RX12 67 "MoveTextsModel" "results" "[I" ∈ wsX12_init := by decide +kernel
theorem fl_X12_init_24 : Cond.fieldLink RX12 70 "MoveTextsModel" "men" "[I" ∈ wsX12_init := by decide +kernel
theorem fl_X12_init_30 : Cond.fieldLink RX12 73 "MoveTextsModel" "keptMen" "[I" ∈ wsX12_init := by decide +kernel
theorem fl_X12_init_31 : Cond.fieldLink RX12 76 "MoveTextsModel" "keptRest" "[I" ∈ wsX12_init := by decide +kernel
theorem fl_X12_init_32 : Cond.fieldLink RX12 79 "MoveTextsModel" "list" "[I" ∈ wsX12_init := by decide +kernel
theorem fl_X12_init_34 : Cond.fieldLink RX12 82 "MoveTextsModel" "path" "[I" ∈ wsX12_init := by decide +kernel
theorem fl_X12_init_35 : Cond.fieldLink RX12 85 "MoveTextsModel" "spelled" "[C" ∈ wsX12_init := by decide +kernel
theorem hw_X12_init : ∀ w ∈ wsX120, w ∈ wsX12_init := by decide +kernel
theorem ar_X12_init : Cond.arrayClass .char ∈ wsX12_init ∧ Cond.arrayClass .int ∈ wsX12_init := by decide +kernel
theorem k_X12_init : Cond.constant RX12 13 (80000) ∈ wsX12_init ∧ Cond.constant RX12 42 (120400) ∈ wsX12_init := by decide +kernel
theorem ob_X12_init : (Cond.methodLink RX12 1 objectInit ∈ wsX12_init ∧ Cond.instanceMethod objectInit ∈ wsX12_init) ∧ Cond.code objectInit ⟨#[0xb1]⟩ 1 none ∈ wsX12_init := by decide +kernel
section MI
variable {p : Program} {l : Launch} {e : Env} {R : Room} {s : State} {m : MethodId} {args : Array Value} {below : List Frame} {meth : Method} {c : Code} {H : Heap} {locs : List Loc} {cells slots : Nat} {Q : State → Prop}
variable {cc : ByteArray} {pc nL : Nat} {ls : Array Slot} {rest : List Value} {D : va_G} {A0 : Nat → Prop} {Ts : List Cond} {cy ci : ClassId} {ws : va_W}
theorem m_nwC (X : CallFix p m c cc nL s args Ts RX12) (hP : va_P D vwCl ws H) (hD : va_D A0 ws) (hS : va_S A0 s.heap H locs) (hK : va_K D vwCl [(cy, .char), (ci, .int)] s) (hA : ∀ q, s.heap.size ≤ q → A0 q) (harr : Cond.arrayClass .char ∈ Ts) {n : Int32} {N : Nat} (hn : ¬ n < 0) (hN : n.toNatClampNeg = N) (hbytes : N * componentBytes .char ≤ 536870912) (hcs : cells + 1 ≤ R.cells ∧ slots + N ≤ R.slots) (hdg : decode cc pc = .ok (.newarray .char, 2))
    (kk : ∀ (q : Nat) (H1 : Heap), va_P D vwCl (ws ++ [(q, .inl (cy, N, .inl (fun _ => 0)))]) H1 → va_D A0 (ws ++ [(q, .inl (cy, N, .inl (fun _ => 0)))]) → va_S A0 s.heap H1 locs → H1.size = H.size + 1 → W p l e R s m args below meth c H1 locs (cells + 1) (slots + N) Q (F0 m (pc + 2) ls (.ref q :: rest))) : W p l e R s m args below meth c H locs cells slots Q (F0 m pc ls (.int n :: rest)) := by
  refine va_newaK (atype := .char) X.1 X.2.1 (X.2.2.2.2 _ harr) rfl hdg rfl hn hN hbytes hcs.1 hcs.2 rfl (fun H1 cA e1 z1 o1 hAr hNm => ?_)
  have e2 : va_RA s cy .char := (hK.2 0 (cy, .char) rfl).2
  have e3 : cA = cy := Option.some.inj ((show s.vm.findClass _ = some cA from hNm).symm.trans e2)
  rw [e3] at e1
  have hk : ∀ (k : Nat) (x : Nat × va_E), ws[k]? = some x → H1[x.1]? = H[x.1]? := fun k x hx => o1 x.1 ((hP k x hx).lt)
  refine kk H.size H1 ((hP.kept hk).app (fun k x hx => ?_)) (hD.push hP rfl (hA _ hS.1)) ⟨Nat.le_trans hS.1 (by omega), fun x h1 h2 => (o1 x (Nat.lt_of_lt_of_le h1 hS.1)).trans (hS.2.1 x h1 h2), hS.2.2⟩ z1
  have hz : k < 1 := (List.getElem?_eq_some_iff.mp hx).1
  rw [show k = 0 by omega] at hx
  cases hx
  exact e1
theorem m_nwI (X : CallFix p m c cc nL s args Ts RX12) (hP : va_P D vwCl ws H) (hD : va_D A0 ws) (hS : va_S A0 s.heap H locs) (hK : va_K D vwCl [(cy, .char), (ci, .int)] s) (hA : ∀ q, s.heap.size ≤ q → A0 q) (harr : Cond.arrayClass .int ∈ Ts) {n : Int32} {N : Nat} (hn : ¬ n < 0) (hN : n.toNatClampNeg = N) (hbytes : N * componentBytes .int ≤ 536870912) (hcs : cells + 1 ≤ R.cells ∧ slots + N ≤ R.slots) (hdg : decode cc pc = .ok (.newarray .int, 2))
    (kk : ∀ (q : Nat) (H1 : Heap), va_P D vwCl (ws ++ [(q, .inl (ci, N, .inl (fun _ => 0)))]) H1 → va_D A0 (ws ++ [(q, .inl (ci, N, .inl (fun _ => 0)))]) → va_S A0 s.heap H1 locs → H1.size = H.size + 1 → W p l e R s m args below meth c H1 locs (cells + 1) (slots + N) Q (F0 m (pc + 2) ls (.ref q :: rest))) : W p l e R s m args below meth c H locs cells slots Q (F0 m pc ls (.int n :: rest)) := by
  refine va_newaK (atype := .int) X.1 X.2.1 (X.2.2.2.2 _ harr) rfl hdg rfl hn hN hbytes hcs.1 hcs.2 rfl (fun H1 cA e1 z1 o1 hAr hNm => ?_)
  have e2 : va_RA s ci .int := (hK.2 1 (ci, .int) rfl).2
  have e3 : cA = ci := Option.some.inj ((show s.vm.findClass _ = some cA from hNm).symm.trans e2)
  rw [e3] at e1
  have hk : ∀ (k : Nat) (x : Nat × va_E), ws[k]? = some x → H1[x.1]? = H[x.1]? := fun k x hx => o1 x.1 ((hP k x hx).lt)
  refine kk H.size H1 ((hP.kept hk).app (fun k x hx => ?_)) (hD.push hP rfl (hA _ hS.1)) ⟨Nat.le_trans hS.1 (by omega), fun x h1 h2 => (o1 x (Nat.lt_of_lt_of_le h1 hS.1)).trans (hS.2.1 x h1 h2), hS.2.2⟩ z1
  have hz : k < 1 := (List.getElem?_eq_some_iff.mp hx).1
  rw [show k = 0 by omega] at hx
  cases hx
  exact e1
variable {y : MethodName} {ws1 ws' : List Cond} {rm : Room} {bytes : ByteArray} {maxL n index : Nat} {ret : Option FieldType} {As st : List Value} {o : Int32 × MS} {h : Nat → Nat} {I : Nat → Int32} {A : Nat → Nat → Int32}
theorem m_gcallVv (X : CallFix p m c cc nL s args Ts RX12) (hM : mH D cy ci h A0 s H locs I A) (hc : mMv l y ws1 rm (.ref (h 0) :: As) D cy ci h I A o) (hT : GoodIn Ts (wsV RX12 index RX12 y ws1)) (hw : ws1 = Cond.code y bytes maxL ret :: ws') (hrm : rm.cells = 0 ∧ rm.slots = 0) (hcs : cells ≤ R.cells ∧ slots ≤ R.slots)
    (hd : y.cls = RX12 ∧ y.cls ≠ "java/lang/invoke/MethodHandle" ∧ y.cls ≠ "java/lang/invoke/VarHandle" ∧ (parseMethodDescriptor y.desc).map (fun d => d.parameters.length) = some n) (hR : rm.frames + 1 ≤ R.frames ∧ 8 + (maxL + 11) + rm.locals ≤ R.locals) (hn : As.length = n) (hls : ls.size = nL) (hst : st = As.reverse ++ .ref (h 0) :: rest) (hrest : (rest.map fun v => v.category).sum ≤ 8) (hdg : decode cc pc = .ok (.invokevirtual index, 3))
    (kk : ∀ (H1 : Heap) (locs : List Loc), mH D cy ci h A0 s H1 locs o.2.1 o.2.2 → H.size ≤ H1.size → W p l e R s m args below meth c H1 locs cells slots Q (F0 m (pc + 3) ls rest)) : W p l e R s m args below meth c H locs cells slots Q (F0 m pc ls st) := by
  subst hst
  have hF := m_free hM
  refine va_callv (va_runV (As := As) (rest := rest) X (hc H.size) (cwV n X.2.2.2.2 hT hw hrm.1 hrm.2 hd hR) (m_preV hM) rfl hn hls rfl (lv_room hrest) hdg hcs) hM.2.2.1 (fun q _ hq => hF q hq) hF (fun u t H1 locs1 ht hvm hw1 hB hz1 hk1 hS => ?_)
  obtain ⟨hP, hD, hS0, hK, hA⟩ := hM
  have hB' : va_P D vwCl (mW cy ci h o.2.1 o.2.2) t.heap := hB
  rw [ht] at hB'
  exact kk H1 locs1 ⟨hB', mD_any hD, hS, hK, hA⟩ hz1
end MI
noncomputable def mI0 : Nat → Int32 := fun _ => 0
noncomputable def mA0 : Nat → Nat → Int32 := fun _ _ => 0
noncomputable def mB2 (D : va_G) (cy ci : ClassId) (a sz : Nat) : State → Prop := fun U => U.heap.size = sz ∧ va_P D vwCl (cW_0 cy ci a) U.heap ∧ va_K D vwCl [(cy, .char), (ci, .int)] U ∧ va_D (fun _ => True) (cW_0 cy ci a)
noncomputable def mMc (l : Launch) (D : va_G) (cy ci : ClassId) (a : Nat) (o : Int32 × MS) : Prop :=
  ∀ sz : Nat, Met l yX12_init wsX12_init ({ frames := 7, cells := 25, slots := 212822, locals := 300 } : Room) (va_Pc [.ref a] (mB2 D cy ci a sz)) (va_Qv (fun (u : Nat → Nat) => u 0 = a) (fun u t => va_P D vwCl (mW cy ci u o.2.1 o.2.2) t.heap ∧ va_D (va_A (cW_0 cy ci a) sz) (mW cy ci u o.2.1 o.2.2) ∧ t.heap.size = sz + 25) (va_A (cW_0 cy ci a) sz)) 25 212822 (va_A (cW_0 cy ci a) sz)
set_option maxRecDepth 100000 in
set_option maxHeartbeats 8000000 in
theorem c_X12_init {l : Launch} {D : va_G} {cy ci : ClassId} {a : Nat} {o1 o2 o3 : Int32 × MS} (hf1 : f_clearGame 0 mI0 mA0 = some o1) (hf2 : f_usual 0 o1.2.1 o1.2.2 = some o2) (hf3 : f_place 0 0 o2.2.1 o2.2.2 = some o3) : mMc l D cy ci a o3 := by
  intro sz
  refine Met.ofW (cc := cX12_init) (maxL := 1) (ret := none) (by decide) rfl ?_
  intro p e s m args below meth c s₁ B hml hv
  obtain ⟨rfl, hsz, hP, hK, hD0⟩ := hv
  subst hsz
  have hr := B.returns
  have hlocks := B.notSynchronized
  have X : CallFix p m c cX12_init 1 s [Value.ref a].toArray wsX12_init RX12 := ⟨B.exec, B.bytes, hml, findClass_of_methodNamed B.named, atoms_spec (ws := wsX12_init) B.pre⟩
  have hin : meth.name = "<init>" := (name_of_methodNamed B.named B.method).1
  have hl := lv_entry [Value.ref a] (n := 1) (Nat.le_of_ble_eq_true rfl)
  rw [lg_entry_eq]
  obtain ⟨hx, hb, -, hown, hts⟩ := id X
  have hA : ∀ q, s.heap.size ≤ q → va_A (cW_0 cy ci a) s.heap.size q := fun q hq => Or.inr hq
  have hD : va_D (va_A (cW_0 cy ci a) s.heap.size) (cW_0 cy ci a) := hD0.self
  have hS : va_S (va_A (cW_0 cy ci a) s.heap.size) s.heap s.heap [] := va_S.rf
  have hz : s.heap.size + 0 ≤ s.heap.size := Nat.le_refl _
  clear hD0
  replace hl := (lv_sub hl [0] rfl : lv_has _ 1 [(0, Value.ref a)])
  refine lv_aload_n hx hb dX12_init_0 rfl (lv_at hl 0 rfl) ?_
  refine W.objInit X.1 X.2.1 X.2.2.2.1 (X.2.2.2.2 _ ob_X12_init.1.1) (X.2.2.2.2 _ ob_X12_init.1.2) (X.2.2.2.2 _ ob_X12_init.2) rfl (by rw [hml]; exact hl.1) rfl dX12_init_1 (Nat.le_of_ble_eq_true rfl) (Nat.le_of_ble_eq_true rfl) ?_
  refine lv_aload_n hx hb dX12_init_4 rfl (lv_at hl 0 rfl) ?_
  refine lv_sipush (v := (2000 : Int32)) hx hb dX12_init_5 (by decide) ?_
  refine m_nwC (N := 2000) X hP hD hS hK hA ar_X12_init.1 (by decide) (by decide) (Nat.le_of_ble_eq_true rfl) ⟨Nat.le_of_ble_eq_true rfl, Nat.le_of_ble_eq_true rfl⟩ dX12_init_8 (fun q1 H hP hD hS h9 => ?_)
  replace hz : s.heap.size + 1 ≤ H.size := by omega
  clear h9
  refine va_putF (D := D) (ci := 12) (v := .ref q1) (ty := tyX12 2) (C := RX12) (T := TX12) (N := 40) (fs := cF_0) X.1 X.2.1 X.2.2.2.2 hw_X12_init tyX12 tyX12_ok nmX12 X.2.2.2.1 hK hP hD (z_Srf hS) 0 rfl rfl 2 (by decide) (X.2.2.2.2 _ fl_X12_init_2) (fun _ h9 => h9) rfl hin rfl (tyX12_ok 2 (by decide)) rfl rfl (Nat.le_of_ble_eq_true rfl) dX12_init_10 (fun H9 locs hP hD hS9 => ?_)
  replace hz : s.heap.size + 1 ≤ H9.size := Nat.le_trans hz hS9.1
  replace hS := z_Str hS hS9
  clear hS9
  replace hP : va_P D vwCl (cW_1 cy ci a q1) H9 := hP
  replace hD : va_D (va_A (cW_0 cy ci a) s.heap.size) (cW_1 cy ci a q1) := hD
  refine lv_aload_n hx hb dX12_init_13 rfl (lv_at hl 0 rfl) ?_
  refine lv_ldc (v := (80000 : Int32)) hx hb hown (hts _ k_X12_init.1) dX12_init_14 ?_
  refine m_nwC (N := 80000) X hP hD hS hK hA ar_X12_init.1 (by decide) (by decide) (Nat.le_of_ble_eq_true rfl) ⟨Nat.le_of_ble_eq_true rfl, Nat.le_of_ble_eq_true rfl⟩ dX12_init_16 (fun q2 H hP hD hS h9 => ?_)
  replace hz : s.heap.size + 2 ≤ H.size := by omega
  clear h9
  refine va_putF (D := D) (ci := 12) (v := .ref q2) (ty := tyX12 4) (C := RX12) (T := TX12) (N := 40) (fs := cF_1 q1) X.1 X.2.1 X.2.2.2.2 hw_X12_init tyX12 tyX12_ok nmX12 X.2.2.2.1 hK hP hD (z_Srf hS) 0 rfl rfl 4 (by decide) (X.2.2.2.2 _ fl_X12_init_4) (fun _ h9 => h9) rfl hin rfl (tyX12_ok 4 (by decide)) rfl rfl (Nat.le_of_ble_eq_true rfl) dX12_init_18 (fun H9 locs hP hD hS9 => ?_)
  replace hz : s.heap.size + 2 ≤ H9.size := Nat.le_trans hz hS9.1
  replace hS := z_Str hS hS9
  clear hS9
  replace hP : va_P D vwCl (cW_2 cy ci a q1 q2) H9 := hP
  replace hD : va_D (va_A (cW_0 cy ci a) s.heap.size) (cW_2 cy ci a q1 q2) := hD
  refine lv_aload_n hx hb dX12_init_21 rfl (lv_at hl 0 rfl) ?_
  refine lv_iconst (v := (2 : Int32)) hx hb dX12_init_22 (by decide) ?_
  refine m_nwI (N := 2) X hP hD hS hK hA ar_X12_init.2 (by decide) (by decide) (Nat.le_of_ble_eq_true rfl) ⟨Nat.le_of_ble_eq_true rfl, Nat.le_of_ble_eq_true rfl⟩ dX12_init_23 (fun q3 H hP hD hS h9 => ?_)
  replace hz : s.heap.size + 3 ≤ H.size := by omega
  clear h9
  refine va_putF (D := D) (ci := 12) (v := .ref q3) (ty := tyX12 7) (C := RX12) (T := TX12) (N := 40) (fs := cF_2 q1 q2) X.1 X.2.1 X.2.2.2.2 hw_X12_init tyX12 tyX12_ok nmX12 X.2.2.2.1 hK hP hD (z_Srf hS) 0 rfl rfl 7 (by decide) (X.2.2.2.2 _ fl_X12_init_7) (fun _ h9 => h9) rfl hin rfl (tyX12_ok 7 (by decide)) rfl rfl (Nat.le_of_ble_eq_true rfl) dX12_init_25 (fun H9 locs hP hD hS9 => ?_)
  replace hz : s.heap.size + 3 ≤ H9.size := Nat.le_trans hz hS9.1
  replace hS := z_Str hS hS9
  clear hS9
  replace hP : va_P D vwCl (cW_3 cy ci a q1 q2 q3) H9 := hP
  replace hD : va_D (va_A (cW_0 cy ci a) s.heap.size) (cW_3 cy ci a q1 q2 q3) := hD
  refine lv_aload_n hx hb dX12_init_28 rfl (lv_at hl 0 rfl) ?_
  refine lv_sipush (v := (602 : Int32)) hx hb dX12_init_29 (by decide) ?_
  refine m_nwI (N := 602) X hP hD hS hK hA ar_X12_init.2 (by decide) (by decide) (Nat.le_of_ble_eq_true rfl) ⟨Nat.le_of_ble_eq_true rfl, Nat.le_of_ble_eq_true rfl⟩ dX12_init_32 (fun q4 H hP hD hS h9 => ?_)
  replace hz : s.heap.size + 4 ≤ H.size := by omega
  clear h9
  refine va_putF (D := D) (ci := 12) (v := .ref q4) (ty := tyX12 8) (C := RX12) (T := TX12) (N := 40) (fs := cF_3 q1 q2 q3) X.1 X.2.1 X.2.2.2.2 hw_X12_init tyX12 tyX12_ok nmX12 X.2.2.2.1 hK hP hD (z_Srf hS) 0 rfl rfl 8 (by decide) (X.2.2.2.2 _ fl_X12_init_8) (fun _ h9 => h9) rfl hin rfl (tyX12_ok 8 (by decide)) rfl rfl (Nat.le_of_ble_eq_true rfl) dX12_init_34 (fun H9 locs hP hD hS9 => ?_)
  replace hz : s.heap.size + 4 ≤ H9.size := Nat.le_trans hz hS9.1
  replace hS := z_Str hS hS9
  clear hS9
  replace hP : va_P D vwCl (cW_4 cy ci a q1 q2 q3 q4) H9 := hP
  replace hD : va_D (va_A (cW_0 cy ci a) s.heap.size) (cW_4 cy ci a q1 q2 q3 q4) := hD
  refine lv_aload_n hx hb dX12_init_37 rfl (lv_at hl 0 rfl) ?_
  refine lv_sipush (v := (602 : Int32)) hx hb dX12_init_38 (by decide) ?_
  refine m_nwI (N := 602) X hP hD hS hK hA ar_X12_init.2 (by decide) (by decide) (Nat.le_of_ble_eq_true rfl) ⟨Nat.le_of_ble_eq_true rfl, Nat.le_of_ble_eq_true rfl⟩ dX12_init_41 (fun q5 H hP hD hS h9 => ?_)
  replace hz : s.heap.size + 5 ≤ H.size := by omega
  clear h9
  refine va_putF (D := D) (ci := 12) (v := .ref q5) (ty := tyX12 9) (C := RX12) (T := TX12) (N := 40) (fs := cF_4 q1 q2 q3 q4) X.1 X.2.1 X.2.2.2.2 hw_X12_init tyX12 tyX12_ok nmX12 X.2.2.2.1 hK hP hD (z_Srf hS) 0 rfl rfl 9 (by decide) (X.2.2.2.2 _ fl_X12_init_9) (fun _ h9 => h9) rfl hin rfl (tyX12_ok 9 (by decide)) rfl rfl (Nat.le_of_ble_eq_true rfl) dX12_init_43 (fun H9 locs hP hD hS9 => ?_)
  replace hz : s.heap.size + 5 ≤ H9.size := Nat.le_trans hz hS9.1
  replace hS := z_Str hS hS9
  clear hS9
  replace hP : va_P D vwCl (cW_5 cy ci a q1 q2 q3 q4 q5) H9 := hP
  replace hD : va_D (va_A (cW_0 cy ci a) s.heap.size) (cW_5 cy ci a q1 q2 q3 q4 q5) := hD
  refine lv_aload_n hx hb dX12_init_46 rfl (lv_at hl 0 rfl) ?_
  refine lv_sipush (v := (602 : Int32)) hx hb dX12_init_47 (by decide) ?_
  refine m_nwI (N := 602) X hP hD hS hK hA ar_X12_init.2 (by decide) (by decide) (Nat.le_of_ble_eq_true rfl) ⟨Nat.le_of_ble_eq_true rfl, Nat.le_of_ble_eq_true rfl⟩ dX12_init_50 (fun q6 H hP hD hS h9 => ?_)
  replace hz : s.heap.size + 6 ≤ H.size := by omega
  clear h9
  refine va_putF (D := D) (ci := 12) (v := .ref q6) (ty := tyX12 10) (C := RX12) (T := TX12) (N := 40) (fs := cF_5 q1 q2 q3 q4 q5) X.1 X.2.1 X.2.2.2.2 hw_X12_init tyX12 tyX12_ok nmX12 X.2.2.2.1 hK hP hD (z_Srf hS) 0 rfl rfl 10 (by decide) (X.2.2.2.2 _ fl_X12_init_10) (fun _ h9 => h9) rfl hin rfl (tyX12_ok 10 (by decide)) rfl rfl (Nat.le_of_ble_eq_true rfl) dX12_init_52 (fun H9 locs hP hD hS9 => ?_)
  replace hz : s.heap.size + 6 ≤ H9.size := Nat.le_trans hz hS9.1
  replace hS := z_Str hS hS9
  clear hS9
  replace hP : va_P D vwCl (cW_6 cy ci a q1 q2 q3 q4 q5 q6) H9 := hP
  replace hD : va_D (va_A (cW_0 cy ci a) s.heap.size) (cW_6 cy ci a q1 q2 q3 q4 q5 q6) := hD
  refine lv_aload_n hx hb dX12_init_55 rfl (lv_at hl 0 rfl) ?_
  refine lv_sipush (v := (602 : Int32)) hx hb dX12_init_56 (by decide) ?_
  refine m_nwI (N := 602) X hP hD hS hK hA ar_X12_init.2 (by decide) (by decide) (Nat.le_of_ble_eq_true rfl) ⟨Nat.le_of_ble_eq_true rfl, Nat.le_of_ble_eq_true rfl⟩ dX12_init_59 (fun q7 H hP hD hS h9 => ?_)
  replace hz : s.heap.size + 7 ≤ H.size := by omega
  clear h9
  refine va_putF (D := D) (ci := 12) (v := .ref q7) (ty := tyX12 11) (C := RX12) (T := TX12) (N := 40) (fs := cF_6 q1 q2 q3 q4 q5 q6) X.1 X.2.1 X.2.2.2.2 hw_X12_init tyX12 tyX12_ok nmX12 X.2.2.2.1 hK hP hD (z_Srf hS) 0 rfl rfl 11 (by decide) (X.2.2.2.2 _ fl_X12_init_11) (fun _ h9 => h9) rfl hin rfl (tyX12_ok 11 (by decide)) rfl rfl (Nat.le_of_ble_eq_true rfl) dX12_init_61 (fun H9 locs hP hD hS9 => ?_)
  replace hz : s.heap.size + 7 ≤ H9.size := Nat.le_trans hz hS9.1
  replace hS := z_Str hS hS9
  clear hS9
  replace hP : va_P D vwCl (cW_7 cy ci a q1 q2 q3 q4 q5 q6 q7) H9 := hP
  replace hD : va_D (va_A (cW_0 cy ci a) s.heap.size) (cW_7 cy ci a q1 q2 q3 q4 q5 q6 q7) := hD
  refine lv_aload_n hx hb dX12_init_64 rfl (lv_at hl 0 rfl) ?_
  refine lv_sipush (v := (602 : Int32)) hx hb dX12_init_65 (by decide) ?_
  refine m_nwI (N := 602) X hP hD hS hK hA ar_X12_init.2 (by decide) (by decide) (Nat.le_of_ble_eq_true rfl) ⟨Nat.le_of_ble_eq_true rfl, Nat.le_of_ble_eq_true rfl⟩ dX12_init_68 (fun q8 H hP hD hS h9 => ?_)
  replace hz : s.heap.size + 8 ≤ H.size := by omega
  clear h9
  refine va_putF (D := D) (ci := 12) (v := .ref q8) (ty := tyX12 12) (C := RX12) (T := TX12) (N := 40) (fs := cF_7 q1 q2 q3 q4 q5 q6 q7) X.1 X.2.1 X.2.2.2.2 hw_X12_init tyX12 tyX12_ok nmX12 X.2.2.2.1 hK hP hD (z_Srf hS) 0 rfl rfl 12 (by decide) (X.2.2.2.2 _ fl_X12_init_12) (fun _ h9 => h9) rfl hin rfl (tyX12_ok 12 (by decide)) rfl rfl (Nat.le_of_ble_eq_true rfl) dX12_init_70 (fun H9 locs hP hD hS9 => ?_)
  replace hz : s.heap.size + 8 ≤ H9.size := Nat.le_trans hz hS9.1
  replace hS := z_Str hS hS9
  clear hS9
  replace hP : va_P D vwCl (cW_8 cy ci a q1 q2 q3 q4 q5 q6 q7 q8) H9 := hP
  replace hD : va_D (va_A (cW_0 cy ci a) s.heap.size) (cW_8 cy ci a q1 q2 q3 q4 q5 q6 q7 q8) := hD
  refine lv_aload_n hx hb dX12_init_73 rfl (lv_at hl 0 rfl) ?_
  refine lv_sipush (v := (2408 : Int32)) hx hb dX12_init_74 (by decide) ?_
  refine m_nwI (N := 2408) X hP hD hS hK hA ar_X12_init.2 (by decide) (by decide) (Nat.le_of_ble_eq_true rfl) ⟨Nat.le_of_ble_eq_true rfl, Nat.le_of_ble_eq_true rfl⟩ dX12_init_77 (fun q9 H hP hD hS h9 => ?_)
  replace hz : s.heap.size + 9 ≤ H.size := by omega
  clear h9
  refine va_putF (D := D) (ci := 12) (v := .ref q9) (ty := tyX12 13) (C := RX12) (T := TX12) (N := 40) (fs := cF_8 q1 q2 q3 q4 q5 q6 q7 q8) X.1 X.2.1 X.2.2.2.2 hw_X12_init tyX12 tyX12_ok nmX12 X.2.2.2.1 hK hP hD (z_Srf hS) 0 rfl rfl 13 (by decide) (X.2.2.2.2 _ fl_X12_init_13) (fun _ h9 => h9) rfl hin rfl (tyX12_ok 13 (by decide)) rfl rfl (Nat.le_of_ble_eq_true rfl) dX12_init_79 (fun H9 locs hP hD hS9 => ?_)
  replace hz : s.heap.size + 9 ≤ H9.size := Nat.le_trans hz hS9.1
  replace hS := z_Str hS hS9
  clear hS9
  replace hP : va_P D vwCl (cW_9 cy ci a q1 q2 q3 q4 q5 q6 q7 q8 q9) H9 := hP
  replace hD : va_D (va_A (cW_0 cy ci a) s.heap.size) (cW_9 cy ci a q1 q2 q3 q4 q5 q6 q7 q8 q9) := hD
  refine lv_aload_n hx hb dX12_init_82 rfl (lv_at hl 0 rfl) ?_
  refine lv_sipush (v := (602 : Int32)) hx hb dX12_init_83 (by decide) ?_
  refine m_nwI (N := 602) X hP hD hS hK hA ar_X12_init.2 (by decide) (by decide) (Nat.le_of_ble_eq_true rfl) ⟨Nat.le_of_ble_eq_true rfl, Nat.le_of_ble_eq_true rfl⟩ dX12_init_86 (fun q10 H hP hD hS h9 => ?_)
  replace hz : s.heap.size + 10 ≤ H.size := by omega
  clear h9
  refine va_putF (D := D) (ci := 12) (v := .ref q10) (ty := tyX12 14) (C := RX12) (T := TX12) (N := 40) (fs := cF_9 q1 q2 q3 q4 q5 q6 q7 q8 q9) X.1 X.2.1 X.2.2.2.2 hw_X12_init tyX12 tyX12_ok nmX12 X.2.2.2.1 hK hP hD (z_Srf hS) 0 rfl rfl 14 (by decide) (X.2.2.2.2 _ fl_X12_init_14) (fun _ h9 => h9) rfl hin rfl (tyX12_ok 14 (by decide)) rfl rfl (Nat.le_of_ble_eq_true rfl) dX12_init_88 (fun H9 locs hP hD hS9 => ?_)
  replace hz : s.heap.size + 10 ≤ H9.size := Nat.le_trans hz hS9.1
  replace hS := z_Str hS hS9
  clear hS9
  replace hP : va_P D vwCl (cW_10 cy ci a q1 q2 q3 q4 q5 q6 q7 q8 q9 q10) H9 := hP
  replace hD : va_D (va_A (cW_0 cy ci a) s.heap.size) (cW_10 cy ci a q1 q2 q3 q4 q5 q6 q7 q8 q9 q10) := hD
  refine lv_aload_n hx hb dX12_init_91 rfl (lv_at hl 0 rfl) ?_
  refine lv_ldc (v := (120400 : Int32)) hx hb hown (hts _ k_X12_init.2) dX12_init_92 ?_
  refine m_nwC (N := 120400) X hP hD hS hK hA ar_X12_init.1 (by decide) (by decide) (Nat.le_of_ble_eq_true rfl) ⟨Nat.le_of_ble_eq_true rfl, Nat.le_of_ble_eq_true rfl⟩ dX12_init_94 (fun q11 H hP hD hS h9 => ?_)
  replace hz : s.heap.size + 11 ≤ H.size := by omega
  clear h9
  refine va_putF (D := D) (ci := 12) (v := .ref q11) (ty := tyX12 15) (C := RX12) (T := TX12) (N := 40) (fs := cF_10 q1 q2 q3 q4 q5 q6 q7 q8 q9 q10) X.1 X.2.1 X.2.2.2.2 hw_X12_init tyX12 tyX12_ok nmX12 X.2.2.2.1 hK hP hD (z_Srf hS) 0 rfl rfl 15 (by decide) (X.2.2.2.2 _ fl_X12_init_15) (fun _ h9 => h9) rfl hin rfl (tyX12_ok 15 (by decide)) rfl rfl (Nat.le_of_ble_eq_true rfl) dX12_init_96 (fun H9 locs hP hD hS9 => ?_)
  replace hz : s.heap.size + 11 ≤ H9.size := Nat.le_trans hz hS9.1
  replace hS := z_Str hS hS9
  clear hS9
  replace hP : va_P D vwCl (cW_11 cy ci a q1 q2 q3 q4 q5 q6 q7 q8 q9 q10 q11) H9 := hP
  replace hD : va_D (va_A (cW_0 cy ci a) s.heap.size) (cW_11 cy ci a q1 q2 q3 q4 q5 q6 q7 q8 q9 q10 q11) := hD
  refine lv_aload_n hx hb dX12_init_99 rfl (lv_at hl 0 rfl) ?_
  refine lv_sipush (v := (128 : Int32)) hx hb dX12_init_100 (by decide) ?_
  refine m_nwI (N := 128) X hP hD hS hK hA ar_X12_init.2 (by decide) (by decide) (Nat.le_of_ble_eq_true rfl) ⟨Nat.le_of_ble_eq_true rfl, Nat.le_of_ble_eq_true rfl⟩ dX12_init_103 (fun q12 H hP hD hS h9 => ?_)
  replace hz : s.heap.size + 12 ≤ H.size := by omega
  clear h9
  refine va_putF (D := D) (ci := 12) (v := .ref q12) (ty := tyX12 16) (C := RX12) (T := TX12) (N := 40) (fs := cF_11 q1 q2 q3 q4 q5 q6 q7 q8 q9 q10 q11) X.1 X.2.1 X.2.2.2.2 hw_X12_init tyX12 tyX12_ok nmX12 X.2.2.2.1 hK hP hD (z_Srf hS) 0 rfl rfl 16 (by decide) (X.2.2.2.2 _ fl_X12_init_16) (fun _ h9 => h9) rfl hin rfl (tyX12_ok 16 (by decide)) rfl rfl (Nat.le_of_ble_eq_true rfl) dX12_init_105 (fun H9 locs hP hD hS9 => ?_)
  replace hz : s.heap.size + 12 ≤ H9.size := Nat.le_trans hz hS9.1
  replace hS := z_Str hS hS9
  clear hS9
  replace hP : va_P D vwCl (cW_12 cy ci a q1 q2 q3 q4 q5 q6 q7 q8 q9 q10 q11 q12) H9 := hP
  replace hD : va_D (va_A (cW_0 cy ci a) s.heap.size) (cW_12 cy ci a q1 q2 q3 q4 q5 q6 q7 q8 q9 q10 q11 q12) := hD
  refine lv_aload_n hx hb dX12_init_108 rfl (lv_at hl 0 rfl) ?_
  refine lv_bipush (v := (10 : Int32)) hx hb dX12_init_109 (by decide) ?_
  refine m_nwI (N := 10) X hP hD hS hK hA ar_X12_init.2 (by decide) (by decide) (Nat.le_of_ble_eq_true rfl) ⟨Nat.le_of_ble_eq_true rfl, Nat.le_of_ble_eq_true rfl⟩ dX12_init_111 (fun q13 H hP hD hS h9 => ?_)
  replace hz : s.heap.size + 13 ≤ H.size := by omega
  clear h9
  refine va_putF (D := D) (ci := 12) (v := .ref q13) (ty := tyX12 17) (C := RX12) (T := TX12) (N := 40) (fs := cF_12 q1 q2 q3 q4 q5 q6 q7 q8 q9 q10 q11 q12) X.1 X.2.1 X.2.2.2.2 hw_X12_init tyX12 tyX12_ok nmX12 X.2.2.2.1 hK hP hD (z_Srf hS) 0 rfl rfl 17 (by decide) (X.2.2.2.2 _ fl_X12_init_17) (fun _ h9 => h9) rfl hin rfl (tyX12_ok 17 (by decide)) rfl rfl (Nat.le_of_ble_eq_true rfl) dX12_init_113 (fun H9 locs hP hD hS9 => ?_)
  replace hz : s.heap.size + 13 ≤ H9.size := Nat.le_trans hz hS9.1
  replace hS := z_Str hS hS9
  clear hS9
  replace hP : va_P D vwCl (cW_13 cy ci a q1 q2 q3 q4 q5 q6 q7 q8 q9 q10 q11 q12 q13) H9 := hP
  replace hD : va_D (va_A (cW_0 cy ci a) s.heap.size) (cW_13 cy ci a q1 q2 q3 q4 q5 q6 q7 q8 q9 q10 q11 q12 q13) := hD
  refine lv_aload_n hx hb dX12_init_116 rfl (lv_at hl 0 rfl) ?_
  refine lv_iconst (v := (2 : Int32)) hx hb dX12_init_117 (by decide) ?_
  refine m_nwI (N := 2) X hP hD hS hK hA ar_X12_init.2 (by decide) (by decide) (Nat.le_of_ble_eq_true rfl) ⟨Nat.le_of_ble_eq_true rfl, Nat.le_of_ble_eq_true rfl⟩ dX12_init_118 (fun q14 H hP hD hS h9 => ?_)
  replace hz : s.heap.size + 14 ≤ H.size := by omega
  clear h9
  refine va_putF (D := D) (ci := 12) (v := .ref q14) (ty := tyX12 18) (C := RX12) (T := TX12) (N := 40) (fs := cF_13 q1 q2 q3 q4 q5 q6 q7 q8 q9 q10 q11 q12 q13) X.1 X.2.1 X.2.2.2.2 hw_X12_init tyX12 tyX12_ok nmX12 X.2.2.2.1 hK hP hD (z_Srf hS) 0 rfl rfl 18 (by decide) (X.2.2.2.2 _ fl_X12_init_18) (fun _ h9 => h9) rfl hin rfl (tyX12_ok 18 (by decide)) rfl rfl (Nat.le_of_ble_eq_true rfl) dX12_init_120 (fun H9 locs hP hD hS9 => ?_)
  replace hz : s.heap.size + 14 ≤ H9.size := Nat.le_trans hz hS9.1
  replace hS := z_Str hS hS9
  clear hS9
  replace hP : va_P D vwCl (cW_14 cy ci a q1 q2 q3 q4 q5 q6 q7 q8 q9 q10 q11 q12 q13 q14) H9 := hP
  replace hD : va_D (va_A (cW_0 cy ci a) s.heap.size) (cW_14 cy ci a q1 q2 q3 q4 q5 q6 q7 q8 q9 q10 q11 q12 q13 q14) := hD
  refine lv_aload_n hx hb dX12_init_123 rfl (lv_at hl 0 rfl) ?_
  refine lv_bipush (v := (16 : Int32)) hx hb dX12_init_124 (by decide) ?_
  refine m_nwI (N := 16) X hP hD hS hK hA ar_X12_init.2 (by decide) (by decide) (Nat.le_of_ble_eq_true rfl) ⟨Nat.le_of_ble_eq_true rfl, Nat.le_of_ble_eq_true rfl⟩ dX12_init_126 (fun q15 H hP hD hS h9 => ?_)
  replace hz : s.heap.size + 15 ≤ H.size := by omega
  clear h9
  refine va_putF (D := D) (ci := 12) (v := .ref q15) (ty := tyX12 19) (C := RX12) (T := TX12) (N := 40) (fs := cF_14 q1 q2 q3 q4 q5 q6 q7 q8 q9 q10 q11 q12 q13 q14) X.1 X.2.1 X.2.2.2.2 hw_X12_init tyX12 tyX12_ok nmX12 X.2.2.2.1 hK hP hD (z_Srf hS) 0 rfl rfl 19 (by decide) (X.2.2.2.2 _ fl_X12_init_19) (fun _ h9 => h9) rfl hin rfl (tyX12_ok 19 (by decide)) rfl rfl (Nat.le_of_ble_eq_true rfl) dX12_init_128 (fun H9 locs hP hD hS9 => ?_)
  replace hz : s.heap.size + 15 ≤ H9.size := Nat.le_trans hz hS9.1
  replace hS := z_Str hS hS9
  clear hS9
  replace hP : va_P D vwCl (cW_15 cy ci a q1 q2 q3 q4 q5 q6 q7 q8 q9 q10 q11 q12 q13 q14 q15) H9 := hP
  replace hD : va_D (va_A (cW_0 cy ci a) s.heap.size) (cW_15 cy ci a q1 q2 q3 q4 q5 q6 q7 q8 q9 q10 q11 q12 q13 q14 q15) := hD
  refine lv_aload_n hx hb dX12_init_131 rfl (lv_at hl 0 rfl) ?_
  refine lv_sipush (v := (192 : Int32)) hx hb dX12_init_132 (by decide) ?_
  refine m_nwC (N := 192) X hP hD hS hK hA ar_X12_init.1 (by decide) (by decide) (Nat.le_of_ble_eq_true rfl) ⟨Nat.le_of_ble_eq_true rfl, Nat.le_of_ble_eq_true rfl⟩ dX12_init_135 (fun q16 H hP hD hS h9 => ?_)
  replace hz : s.heap.size + 16 ≤ H.size := by omega
  clear h9
  refine va_putF (D := D) (ci := 12) (v := .ref q16) (ty := tyX12 20) (C := RX12) (T := TX12) (N := 40) (fs := cF_15 q1 q2 q3 q4 q5 q6 q7 q8 q9 q10 q11 q12 q13 q14 q15) X.1 X.2.1 X.2.2.2.2 hw_X12_init tyX12 tyX12_ok nmX12 X.2.2.2.1 hK hP hD (z_Srf hS) 0 rfl rfl 20 (by decide) (X.2.2.2.2 _ fl_X12_init_20) (fun _ h9 => h9) rfl hin rfl (tyX12_ok 20 (by decide)) rfl rfl (Nat.le_of_ble_eq_true rfl) dX12_init_137 (fun H9 locs hP hD hS9 => ?_)
  replace hz : s.heap.size + 16 ≤ H9.size := Nat.le_trans hz hS9.1
  replace hS := z_Str hS hS9
  clear hS9
  replace hP : va_P D vwCl (cW_16 cy ci a q1 q2 q3 q4 q5 q6 q7 q8 q9 q10 q11 q12 q13 q14 q15 q16) H9 := hP
  replace hD : va_D (va_A (cW_0 cy ci a) s.heap.size) (cW_16 cy ci a q1 q2 q3 q4 q5 q6 q7 q8 q9 q10 q11 q12 q13 q14 q15 q16) := hD
  refine lv_aload_n hx hb dX12_init_140 rfl (lv_at hl 0 rfl) ?_
  refine lv_bipush (v := (16 : Int32)) hx hb dX12_init_141 (by decide) ?_
  refine m_nwI (N := 16) X hP hD hS hK hA ar_X12_init.2 (by decide) (by decide) (Nat.le_of_ble_eq_true rfl) ⟨Nat.le_of_ble_eq_true rfl, Nat.le_of_ble_eq_true rfl⟩ dX12_init_143 (fun q17 H hP hD hS h9 => ?_)
  replace hz : s.heap.size + 17 ≤ H.size := by omega
  clear h9
  refine va_putF (D := D) (ci := 12) (v := .ref q17) (ty := tyX12 21) (C := RX12) (T := TX12) (N := 40) (fs := cF_16 q1 q2 q3 q4 q5 q6 q7 q8 q9 q10 q11 q12 q13 q14 q15 q16) X.1 X.2.1 X.2.2.2.2 hw_X12_init tyX12 tyX12_ok nmX12 X.2.2.2.1 hK hP hD (z_Srf hS) 0 rfl rfl 21 (by decide) (X.2.2.2.2 _ fl_X12_init_21) (fun _ h9 => h9) rfl hin rfl (tyX12_ok 21 (by decide)) rfl rfl (Nat.le_of_ble_eq_true rfl) dX12_init_145 (fun H9 locs hP hD hS9 => ?_)
  replace hz : s.heap.size + 17 ≤ H9.size := Nat.le_trans hz hS9.1
  replace hS := z_Str hS hS9
  clear hS9
  replace hP : va_P D vwCl (cW_17 cy ci a q1 q2 q3 q4 q5 q6 q7 q8 q9 q10 q11 q12 q13 q14 q15 q16 q17) H9 := hP
  replace hD : va_D (va_A (cW_0 cy ci a) s.heap.size) (cW_17 cy ci a q1 q2 q3 q4 q5 q6 q7 q8 q9 q10 q11 q12 q13 q14 q15 q16 q17) := hD
  refine lv_aload_n hx hb dX12_init_148 rfl (lv_at hl 0 rfl) ?_
  refine lv_sipush (v := (1536 : Int32)) hx hb dX12_init_149 (by decide) ?_
  refine m_nwC (N := 1536) X hP hD hS hK hA ar_X12_init.1 (by decide) (by decide) (Nat.le_of_ble_eq_true rfl) ⟨Nat.le_of_ble_eq_true rfl, Nat.le_of_ble_eq_true rfl⟩ dX12_init_152 (fun q18 H hP hD hS h9 => ?_)
  replace hz : s.heap.size + 18 ≤ H.size := by omega
  clear h9
  refine va_putF (D := D) (ci := 12) (v := .ref q18) (ty := tyX12 22) (C := RX12) (T := TX12) (N := 40) (fs := cF_17 q1 q2 q3 q4 q5 q6 q7 q8 q9 q10 q11 q12 q13 q14 q15 q16 q17) X.1 X.2.1 X.2.2.2.2 hw_X12_init tyX12 tyX12_ok nmX12 X.2.2.2.1 hK hP hD (z_Srf hS) 0 rfl rfl 22 (by decide) (X.2.2.2.2 _ fl_X12_init_22) (fun _ h9 => h9) rfl hin rfl (tyX12_ok 22 (by decide)) rfl rfl (Nat.le_of_ble_eq_true rfl) dX12_init_154 (fun H9 locs hP hD hS9 => ?_)
  replace hz : s.heap.size + 18 ≤ H9.size := Nat.le_trans hz hS9.1
  replace hS := z_Str hS hS9
  clear hS9
  replace hP : va_P D vwCl (cW_18 cy ci a q1 q2 q3 q4 q5 q6 q7 q8 q9 q10 q11 q12 q13 q14 q15 q16 q17 q18) H9 := hP
  replace hD : va_D (va_A (cW_0 cy ci a) s.heap.size) (cW_18 cy ci a q1 q2 q3 q4 q5 q6 q7 q8 q9 q10 q11 q12 q13 q14 q15 q16 q17 q18) := hD
  refine lv_aload_n hx hb dX12_init_157 rfl (lv_at hl 0 rfl) ?_
  refine lv_iconst (v := (2 : Int32)) hx hb dX12_init_158 (by decide) ?_
  refine m_nwI (N := 2) X hP hD hS hK hA ar_X12_init.2 (by decide) (by decide) (Nat.le_of_ble_eq_true rfl) ⟨Nat.le_of_ble_eq_true rfl, Nat.le_of_ble_eq_true rfl⟩ dX12_init_159 (fun q19 H hP hD hS h9 => ?_)
  replace hz : s.heap.size + 19 ≤ H.size := by omega
  clear h9
  refine va_putF (D := D) (ci := 12) (v := .ref q19) (ty := tyX12 23) (C := RX12) (T := TX12) (N := 40) (fs := cF_18 q1 q2 q3 q4 q5 q6 q7 q8 q9 q10 q11 q12 q13 q14 q15 q16 q17 q18) X.1 X.2.1 X.2.2.2.2 hw_X12_init tyX12 tyX12_ok nmX12 X.2.2.2.1 hK hP hD (z_Srf hS) 0 rfl rfl 23 (by decide) (X.2.2.2.2 _ fl_X12_init_23) (fun _ h9 => h9) rfl hin rfl (tyX12_ok 23 (by decide)) rfl rfl (Nat.le_of_ble_eq_true rfl) dX12_init_161 (fun H9 locs hP hD hS9 => ?_)
  replace hz : s.heap.size + 19 ≤ H9.size := Nat.le_trans hz hS9.1
  replace hS := z_Str hS hS9
  clear hS9
  replace hP : va_P D vwCl (cW_19 cy ci a q1 q2 q3 q4 q5 q6 q7 q8 q9 q10 q11 q12 q13 q14 q15 q16 q17 q18 q19) H9 := hP
  replace hD : va_D (va_A (cW_0 cy ci a) s.heap.size) (cW_19 cy ci a q1 q2 q3 q4 q5 q6 q7 q8 q9 q10 q11 q12 q13 q14 q15 q16 q17 q18 q19) := hD
  refine lv_aload_n hx hb dX12_init_164 rfl (lv_at hl 0 rfl) ?_
  refine lv_bipush (v := (64 : Int32)) hx hb dX12_init_165 (by decide) ?_
  refine m_nwI (N := 64) X hP hD hS hK hA ar_X12_init.2 (by decide) (by decide) (Nat.le_of_ble_eq_true rfl) ⟨Nat.le_of_ble_eq_true rfl, Nat.le_of_ble_eq_true rfl⟩ dX12_init_167 (fun q20 H hP hD hS h9 => ?_)
  replace hz : s.heap.size + 20 ≤ H.size := by omega
  clear h9
  refine va_putF (D := D) (ci := 12) (v := .ref q20) (ty := tyX12 24) (C := RX12) (T := TX12) (N := 40) (fs := cF_19 q1 q2 q3 q4 q5 q6 q7 q8 q9 q10 q11 q12 q13 q14 q15 q16 q17 q18 q19) X.1 X.2.1 X.2.2.2.2 hw_X12_init tyX12 tyX12_ok nmX12 X.2.2.2.1 hK hP hD (z_Srf hS) 0 rfl rfl 24 (by decide) (X.2.2.2.2 _ fl_X12_init_24) (fun _ h9 => h9) rfl hin rfl (tyX12_ok 24 (by decide)) rfl rfl (Nat.le_of_ble_eq_true rfl) dX12_init_169 (fun H9 locs hP hD hS9 => ?_)
  replace hz : s.heap.size + 20 ≤ H9.size := Nat.le_trans hz hS9.1
  replace hS := z_Str hS hS9
  clear hS9
  replace hP : va_P D vwCl (cW_20 cy ci a q1 q2 q3 q4 q5 q6 q7 q8 q9 q10 q11 q12 q13 q14 q15 q16 q17 q18 q19 q20) H9 := hP
  replace hD : va_D (va_A (cW_0 cy ci a) s.heap.size) (cW_20 cy ci a q1 q2 q3 q4 q5 q6 q7 q8 q9 q10 q11 q12 q13 q14 q15 q16 q17 q18 q19 q20) := hD
  refine lv_aload_n hx hb dX12_init_172 rfl (lv_at hl 0 rfl) ?_
  refine lv_bipush (v := (64 : Int32)) hx hb dX12_init_173 (by decide) ?_
  refine m_nwI (N := 64) X hP hD hS hK hA ar_X12_init.2 (by decide) (by decide) (Nat.le_of_ble_eq_true rfl) ⟨Nat.le_of_ble_eq_true rfl, Nat.le_of_ble_eq_true rfl⟩ dX12_init_175 (fun q21 H hP hD hS h9 => ?_)
  replace hz : s.heap.size + 21 ≤ H.size := by omega
  clear h9
  refine va_putF (D := D) (ci := 12) (v := .ref q21) (ty := tyX12 30) (C := RX12) (T := TX12) (N := 40) (fs := cF_20 q1 q2 q3 q4 q5 q6 q7 q8 q9 q10 q11 q12 q13 q14 q15 q16 q17 q18 q19 q20) X.1 X.2.1 X.2.2.2.2 hw_X12_init tyX12 tyX12_ok nmX12 X.2.2.2.1 hK hP hD (z_Srf hS) 0 rfl rfl 30 (by decide) (X.2.2.2.2 _ fl_X12_init_30) (fun _ h9 => h9) rfl hin rfl (tyX12_ok 30 (by decide)) rfl rfl (Nat.le_of_ble_eq_true rfl) dX12_init_177 (fun H9 locs hP hD hS9 => ?_)
  replace hz : s.heap.size + 21 ≤ H9.size := Nat.le_trans hz hS9.1
  replace hS := z_Str hS hS9
  clear hS9
  replace hP : va_P D vwCl (cW_21 cy ci a q1 q2 q3 q4 q5 q6 q7 q8 q9 q10 q11 q12 q13 q14 q15 q16 q17 q18 q19 q20 q21) H9 := hP
  replace hD : va_D (va_A (cW_0 cy ci a) s.heap.size) (cW_21 cy ci a q1 q2 q3 q4 q5 q6 q7 q8 q9 q10 q11 q12 q13 q14 q15 q16 q17 q18 q19 q20 q21) := hD
  refine lv_aload_n hx hb dX12_init_180 rfl (lv_at hl 0 rfl) ?_
  refine lv_iconst (v := (5 : Int32)) hx hb dX12_init_181 (by decide) ?_
  refine m_nwI (N := 5) X hP hD hS hK hA ar_X12_init.2 (by decide) (by decide) (Nat.le_of_ble_eq_true rfl) ⟨Nat.le_of_ble_eq_true rfl, Nat.le_of_ble_eq_true rfl⟩ dX12_init_182 (fun q22 H hP hD hS h9 => ?_)
  replace hz : s.heap.size + 22 ≤ H.size := by omega
  clear h9
  refine va_putF (D := D) (ci := 12) (v := .ref q22) (ty := tyX12 31) (C := RX12) (T := TX12) (N := 40) (fs := cF_21 q1 q2 q3 q4 q5 q6 q7 q8 q9 q10 q11 q12 q13 q14 q15 q16 q17 q18 q19 q20 q21) X.1 X.2.1 X.2.2.2.2 hw_X12_init tyX12 tyX12_ok nmX12 X.2.2.2.1 hK hP hD (z_Srf hS) 0 rfl rfl 31 (by decide) (X.2.2.2.2 _ fl_X12_init_31) (fun _ h9 => h9) rfl hin rfl (tyX12_ok 31 (by decide)) rfl rfl (Nat.le_of_ble_eq_true rfl) dX12_init_184 (fun H9 locs hP hD hS9 => ?_)
  replace hz : s.heap.size + 22 ≤ H9.size := Nat.le_trans hz hS9.1
  replace hS := z_Str hS hS9
  clear hS9
  replace hP : va_P D vwCl (cW_22 cy ci a q1 q2 q3 q4 q5 q6 q7 q8 q9 q10 q11 q12 q13 q14 q15 q16 q17 q18 q19 q20 q21 q22) H9 := hP
  replace hD : va_D (va_A (cW_0 cy ci a) s.heap.size) (cW_22 cy ci a q1 q2 q3 q4 q5 q6 q7 q8 q9 q10 q11 q12 q13 q14 q15 q16 q17 q18 q19 q20 q21 q22) := hD
  refine lv_aload_n hx hb dX12_init_187 rfl (lv_at hl 0 rfl) ?_
  refine lv_sipush (v := (2048 : Int32)) hx hb dX12_init_188 (by decide) ?_
  refine m_nwI (N := 2048) X hP hD hS hK hA ar_X12_init.2 (by decide) (by decide) (Nat.le_of_ble_eq_true rfl) ⟨Nat.le_of_ble_eq_true rfl, Nat.le_of_ble_eq_true rfl⟩ dX12_init_191 (fun q23 H hP hD hS h9 => ?_)
  replace hz : s.heap.size + 23 ≤ H.size := by omega
  clear h9
  refine va_putF (D := D) (ci := 12) (v := .ref q23) (ty := tyX12 32) (C := RX12) (T := TX12) (N := 40) (fs := cF_22 q1 q2 q3 q4 q5 q6 q7 q8 q9 q10 q11 q12 q13 q14 q15 q16 q17 q18 q19 q20 q21 q22) X.1 X.2.1 X.2.2.2.2 hw_X12_init tyX12 tyX12_ok nmX12 X.2.2.2.1 hK hP hD (z_Srf hS) 0 rfl rfl 32 (by decide) (X.2.2.2.2 _ fl_X12_init_32) (fun _ h9 => h9) rfl hin rfl (tyX12_ok 32 (by decide)) rfl rfl (Nat.le_of_ble_eq_true rfl) dX12_init_193 (fun H9 locs hP hD hS9 => ?_)
  replace hz : s.heap.size + 23 ≤ H9.size := Nat.le_trans hz hS9.1
  replace hS := z_Str hS hS9
  clear hS9
  replace hP : va_P D vwCl (cW_23 cy ci a q1 q2 q3 q4 q5 q6 q7 q8 q9 q10 q11 q12 q13 q14 q15 q16 q17 q18 q19 q20 q21 q22 q23) H9 := hP
  replace hD : va_D (va_A (cW_0 cy ci a) s.heap.size) (cW_23 cy ci a q1 q2 q3 q4 q5 q6 q7 q8 q9 q10 q11 q12 q13 q14 q15 q16 q17 q18 q19 q20 q21 q22 q23) := hD
  refine lv_aload_n hx hb dX12_init_196 rfl (lv_at hl 0 rfl) ?_
  refine lv_sipush (v := (301 : Int32)) hx hb dX12_init_197 (by decide) ?_
  refine m_nwI (N := 301) X hP hD hS hK hA ar_X12_init.2 (by decide) (by decide) (Nat.le_of_ble_eq_true rfl) ⟨Nat.le_of_ble_eq_true rfl, Nat.le_of_ble_eq_true rfl⟩ dX12_init_200 (fun q24 H hP hD hS h9 => ?_)
  replace hz : s.heap.size + 24 ≤ H.size := by omega
  clear h9
  refine va_putF (D := D) (ci := 12) (v := .ref q24) (ty := tyX12 34) (C := RX12) (T := TX12) (N := 40) (fs := cF_23 q1 q2 q3 q4 q5 q6 q7 q8 q9 q10 q11 q12 q13 q14 q15 q16 q17 q18 q19 q20 q21 q22 q23) X.1 X.2.1 X.2.2.2.2 hw_X12_init tyX12 tyX12_ok nmX12 X.2.2.2.1 hK hP hD (z_Srf hS) 0 rfl rfl 34 (by decide) (X.2.2.2.2 _ fl_X12_init_34) (fun _ h9 => h9) rfl hin rfl (tyX12_ok 34 (by decide)) rfl rfl (Nat.le_of_ble_eq_true rfl) dX12_init_202 (fun H9 locs hP hD hS9 => ?_)
  replace hz : s.heap.size + 24 ≤ H9.size := Nat.le_trans hz hS9.1
  replace hS := z_Str hS hS9
  clear hS9
  replace hP : va_P D vwCl (cW_24 cy ci a q1 q2 q3 q4 q5 q6 q7 q8 q9 q10 q11 q12 q13 q14 q15 q16 q17 q18 q19 q20 q21 q22 q23 q24) H9 := hP
  replace hD : va_D (va_A (cW_0 cy ci a) s.heap.size) (cW_24 cy ci a q1 q2 q3 q4 q5 q6 q7 q8 q9 q10 q11 q12 q13 q14 q15 q16 q17 q18 q19 q20 q21 q22 q23 q24) := hD
  refine lv_aload_n hx hb dX12_init_205 rfl (lv_at hl 0 rfl) ?_
  refine lv_bipush (v := (16 : Int32)) hx hb dX12_init_206 (by decide) ?_
  refine m_nwC (N := 16) X hP hD hS hK hA ar_X12_init.1 (by decide) (by decide) (Nat.le_of_ble_eq_true rfl) ⟨Nat.le_of_ble_eq_true rfl, Nat.le_of_ble_eq_true rfl⟩ dX12_init_208 (fun q25 H hP hD hS h9 => ?_)
  replace hz : s.heap.size + 25 ≤ H.size := by omega
  clear h9
  refine va_putF (D := D) (ci := 12) (v := .ref q25) (ty := tyX12 35) (C := RX12) (T := TX12) (N := 40) (fs := cF_24 q1 q2 q3 q4 q5 q6 q7 q8 q9 q10 q11 q12 q13 q14 q15 q16 q17 q18 q19 q20 q21 q22 q23 q24) X.1 X.2.1 X.2.2.2.2 hw_X12_init tyX12 tyX12_ok nmX12 X.2.2.2.1 hK hP hD (z_Srf hS) 0 rfl rfl 35 (by decide) (X.2.2.2.2 _ fl_X12_init_35) (fun _ h9 => h9) rfl hin rfl (tyX12_ok 35 (by decide)) rfl rfl (Nat.le_of_ble_eq_true rfl) dX12_init_210 (fun H9 locs hP hD hS9 => ?_)
  replace hz : s.heap.size + 25 ≤ H9.size := Nat.le_trans hz hS9.1
  replace hS := z_Str hS hS9
  clear hS9
  replace hP : va_P D vwCl (cW_25 cy ci a q1 q2 q3 q4 q5 q6 q7 q8 q9 q10 q11 q12 q13 q14 q15 q16 q17 q18 q19 q20 q21 q22 q23 q24 q25) H9 := hP
  replace hD : va_D (va_A (cW_0 cy ci a) s.heap.size) (cW_25 cy ci a q1 q2 q3 q4 q5 q6 q7 q8 q9 q10 q11 q12 q13 q14 q15 q16 q17 q18 q19 q20 q21 q22 q23 q24 q25) := hD
  have hM : mH D cy ci (cH a q1 q2 q3 q4 q5 q6 q7 q8 q9 q10 q11 q12 q13 q14 q15 q16 q17 q18 q19 q20 q21 q22 q23 q24 q25) (va_A (cW_0 cy ci a) s.heap.size) s _ _ mI0 mA0 := ⟨hP, hD, hS, hK, hA⟩
  clear hP hD hS
  refine lv_aload_n hx hb dX12_init_213 rfl (lv_at hl 0 rfl) ?_
  refine lv_iconst (v := (0 : Int32)) hx hb dX12_init_214 (by decide) ?_
  refine m_gcallVv (h := cH a q1 q2 q3 q4 q5 q6 q7 q8 q9 q10 q11 q12 q13 q14 q15 q16 q17 q18 q19 q20 q21 q22 q23 q24 q25) X hM (c_clearGame hf1) gX12_init_X12_clearGame rfl ⟨rfl, rfl⟩ ⟨Nat.le_of_ble_eq_true rfl, Nat.le_of_ble_eq_true rfl⟩ hd_clearGame ⟨Nat.le_of_ble_eq_true rfl, Nat.le_of_ble_eq_true rfl⟩ rfl hl.1 rfl (Nat.le_of_ble_eq_true rfl) dX12_init_215 (fun H9 locs hM h9 => ?_)
  replace hz : s.heap.size + 25 ≤ H9.size := Nat.le_trans hz h9
  clear h9
  refine lv_aload_n hx hb dX12_init_218 rfl (lv_at hl 0 rfl) ?_
  refine lv_iconst (v := (0 : Int32)) hx hb dX12_init_219 (by decide) ?_
  refine m_gcallVv (h := cH a q1 q2 q3 q4 q5 q6 q7 q8 q9 q10 q11 q12 q13 q14 q15 q16 q17 q18 q19 q20 q21 q22 q23 q24 q25) X hM (c_usual hf2) gX12_init_X12_usual rfl ⟨rfl, rfl⟩ ⟨Nat.le_of_ble_eq_true rfl, Nat.le_of_ble_eq_true rfl⟩ hd_usual ⟨Nat.le_of_ble_eq_true rfl, Nat.le_of_ble_eq_true rfl⟩ rfl hl.1 rfl (Nat.le_of_ble_eq_true rfl) dX12_init_220 (fun H9 locs hM h9 => ?_)
  replace hz : s.heap.size + 25 ≤ H9.size := Nat.le_trans hz h9
  clear h9
  refine lv_aload_n hx hb dX12_init_223 rfl (lv_at hl 0 rfl) ?_
  refine lv_iconst (v := (0 : Int32)) hx hb dX12_init_224 (by decide) ?_
  refine lv_iconst (v := (0 : Int32)) hx hb dX12_init_225 (by decide) ?_
  refine m_gcallVv (h := cH a q1 q2 q3 q4 q5 q6 q7 q8 q9 q10 q11 q12 q13 q14 q15 q16 q17 q18 q19 q20 q21 q22 q23 q24 q25) X hM (c_place hf3) gX12_init_X12_place rfl ⟨rfl, rfl⟩ ⟨Nat.le_of_ble_eq_true rfl, Nat.le_of_ble_eq_true rfl⟩ hd_place ⟨Nat.le_of_ble_eq_true rfl, Nat.le_of_ble_eq_true rfl⟩ rfl hl.1 rfl (Nat.le_of_ble_eq_true rfl) dX12_init_226 (fun H9 locs hM h9 => ?_)
  replace hz : s.heap.size + 25 ≤ H9.size := Nat.le_trans hz h9
  clear h9
  refine z_loose (cells := 25) (Nat.le_of_ble_eq_true rfl) (fun h9 => ?_)
  have hz9 : H9.size = s.heap.size + 25 := by omega
  refine W.widen (k := 25) (n := 212822) (Nat.le_of_ble_eq_true rfl) (Nat.le_of_ble_eq_true rfl) ?_
  exact W.vret X.1 X.2.1 hr (fun t ht hW => ⟨⟨cH a q1 q2 q3 q4 q5 q6 q7 q8 q9 q10 q11 q12 q13 q14 q15 q16 q17 q18 q19 q20 q21 q22 q23 q24 q25, rfl, rfl, by show va_P D vwCl (mW cy ci (cH a q1 q2 q3 q4 q5 q6 q7 q8 q9 q10 q11 q12 q13 q14 q15 q16 q17 q18 q19 q20 q21 q22 q23 q24 q25) o3.2.1 o3.2.2) t.heap ∧ _; rw [ht]; exact ⟨hM.1, hM.2.1, hz9⟩⟩, hM.2.2.1.F ht⟩) hM.2.2.1.2.2 dX12_init_229
end
section
/-- j numbers are left out, nothing else -/
noncomputable def zsJ (S : ZS) (j : Nat) : ZS := (zL S, zK S, zI S, zP S, zN S, zA S, zB S, zc S, zt S + j, zu S)
noncomputable abbrev oE (cJ : ClassId) (F : Nat → Int64) : va_E := .inl (cJ, 1, .inr (.inl F))
noncomputable abbrev mAd (h : Nat → Nat) : List Nat := [h 0, h 2, h 4, h 7, h 8, h 9, h 10, h 11, h 12, h 13, h 14, h 15, h 16, h 17, h 18, h 19, h 20, h 21, h 22, h 23, h 24, h 30, h 31, h 32, h 34, h 35]
theorem mAd_W {cy ci : ClassId} {h : Nat → Nat} {I : Nat → Int32} {A : Nat → Nat → Int32} : (mW cy ci h I A).map Prod.fst = mAd h := rfl
theorem mAd_at {cy ci : ClassId} {h : Nat → Nat} {I : Nat → Int32} {A : Nat → Nat → Int32} {k : Nat} {x : Nat × va_E} (hk : (mW cy ci h I A)[k]? = some x) : x.1 ∈ mAd h := by
  rw [← mAd_W (cy := cy) (ci := ci) (I := I) (A := A)]
  exact List.mem_map.mpr ⟨x, List.mem_of_getElem? hk, rfl⟩
theorem mAd_in {cy ci : ClassId} {h : Nat → Nat} {I : Nat → Int32} {A : Nat → Nat → Int32} {q : Nat} (hq : q ∈ mAd h) : ∃ (k : Nat) (e : va_E), (mW cy ci h I A)[k]? = some (q, e) := by
  rw [← mAd_W (cy := cy) (ci := ci) (I := I) (A := A)] at hq
  obtain ⟨x, hx, rfl⟩ := List.mem_map.mp hq
  obtain ⟨k, hk⟩ := List.getElem?_of_mem hx
  exact ⟨k, x.2, hk⟩
theorem lp_l {D : va_G} {cl : List vw_C} {w1 w2 : va_W} {H : Heap} (h : va_P D cl (w1 ++ w2) H) : va_P D cl w1 H := fun k q hk => h k q (by rw [List.getElem?_append_left (List.getElem?_eq_some_iff.mp hk).1]; exact hk)
theorem lp_r {D : va_G} {cl : List vw_C} {w1 w2 : va_W} {H : Heap} (h : va_P D cl (w1 ++ w2) H) : va_P D cl w2 H := fun k q hk => h (w1.length + k) q (by rw [List.getElem?_append_right (Nat.le_add_right _ _), Nat.add_sub_cancel_left]; exact hk)
theorem ld_a {A : Nat → Prop} {w : va_W} {x : Nat × va_E} (h : va_D A w) (hx : A x.1) (hn : ∀ (k : Nat) (z : Nat × va_E), w[k]? = some z → z.1 ≠ x.1) : va_D A (w ++ [x]) := by
  have key : ∀ (i : Nat) (z : Nat × va_E), (w ++ [x])[i]? = some z → w[i]? = some z ∨ (i = w.length ∧ z = x) := by
    intro i z hi
    by_cases hl : i < w.length
    · rw [List.getElem?_append_left hl] at hi; exact Or.inl hi
    · rw [List.getElem?_append_right (Nat.not_lt.mp hl)] at hi
      have h1 : i - w.length < 1 := (List.getElem?_eq_some_iff.mp hi).1
      have h2 : i = w.length := by omega
      rw [h2, Nat.sub_self] at hi
      exact Or.inr ⟨h2, (Option.some.inj hi).symm⟩
  refine ⟨fun i j a b hi hj hab => ?_, fun k q hk => ?_⟩
  · rcases key i a hi with h1 | ⟨h1, h1'⟩ <;> rcases key j b hj with h2 | ⟨h2, h2'⟩
    · exact h.1 i j a b h1 h2 hab
    · exact absurd (by rw [hab, h2']) (hn i a h1)
    · exact absurd (by rw [← hab, h1']) (hn j b h2)
    · rw [h1, h2]
  · rcases key k q hk with h1 | ⟨-, h1⟩
    · exact h.2 k q h1
    · rw [h1]; exact hx
theorem l_zat {y : Nat → ClassId} {S : ZS} {k : Nat} {x : Nat × va_E} (hk : (zW y S)[k]? = some x) : ∃ a ∈ zL S, zh y a = x.1 := by
  have hm : x ∈ zW y S := List.mem_of_getElem? hk
  obtain ⟨a, ha, rfl⟩ := List.mem_map.mp hm
  exact ⟨a, ha, rfl⟩
theorem l_notA {y : Nat → ClassId} {S : ZS} {sz q : Nat} (hq : q < sz) (hn : ∀ a ∈ zL S, zh y a ≠ q) : ¬ va_A (zW y S) sz q := by
  rintro (⟨k, e, hk⟩ | h)
  · obtain ⟨a, ha, e1⟩ := l_zat hk
    exact hn a ha e1
  · exact absurd hq (Nat.not_lt.mpr h)
theorem l_new {y : Nat → ClassId} {S S1 : ZS} {sz q : Nat} (hD : va_D (va_A (zW y S) sz) (zW y S1)) (hq : q < sz) (hn : ∀ a ∈ zL S, zh y a ≠ q) : ∀ a ∈ zL S1, zh y a ≠ q := fun a ha e1 => by
  obtain ⟨k, hk⟩ := zW_at (y := y) ha
  have h1 := hD.2 k _ hk
  rw [show ((zh y a, zF y S1 a) : Nat × va_E).1 = q from e1] at h1
  exact l_notA hq hn h1
/-- the class's pool and the law's row -/
noncomputable def LH0 (D : va_G) (y : Nat → ClassId) (ob : Nat) (cJ : ClassId) (A0 : Nat → Prop) (s : State) (H : Heap) (locs : List Loc) (S : ZS) (F : Nat → Int64) : Prop :=
  zH D y A0 s H locs S ∧ va_P D vwCl [(ob, oE cJ F)] H ∧ (A0 ob ∧ va_K D vwCl [(cJ, .long)] s) ∧ (∀ a ∈ zL S, zh y a ≠ ob) ∧ zX A0 s s.heap
/-- .. and the reference -/
noncomputable def LH (D : va_G) (y : Nat → ClassId) (h : Nat → Nat) (ob : Nat) (cJ : ClassId) (A0 : Nat → Prop) (s : State) (H : Heap) (locs : List Loc) (I : Nat → Int32) (A : Nat → Nat → Int32) (S : ZS) (F : Nat → Int64) : Prop :=
  LH0 D y ob cJ A0 s H locs S F ∧ va_P D vwCl (mW (y 13) (y 14) h I A) H ∧ va_D A0 (mW (y 13) (y 14) h I A) ∧ ∀ q ∈ mAd h, q ≠ ob ∧ ∀ a ∈ zL S, zh y a ≠ q
theorem l_K {D : va_G} {y : Nat → ClassId} {s : State} (hK : va_K D vwCl (zT y) s) : va_K D vwCl [(y 13, .char), (y 14, .int)] s :=
  ⟨hK.1, fun k q hk => by
    match k, hk with
    | 0, hk => exact hK.2 0 q hk
    | 1, hk => exact hK.2 1 q hk⟩
section LL
variable {p : Program} {l : Launch} {e : Env} {R : Room} {s : State} {m : MethodId} {args : Array Value} {below : List Frame} {meth : Method} {c : Code} {H : Heap} {locs : List Loc} {cells slots : Nat} {Q : State → Prop}
variable {cc : ByteArray} {pc nL : Nat} {ls : Array Slot} {rest : List Value} {D : va_G} {A0 : Nat → Prop} {Ts : List Cond} {y : Nat → ClassId} {S : ZS} {own : String} {a ob : Nat} {cJ : ClassId} {F : Nat → Int64} {h : Nat → Nat} {I : Nat → Int32} {A : Nat → Nat → Int32}
theorem L_oblt (hP : va_P D vwCl [(ob, oE cJ F)] H) : ob < H.size := (hP 0 _ rfl).lt
theorem L_okeep {H1 : Heap} (hP : va_P D vwCl [(ob, oE cJ F)] H) (hk : H1[ob]? = H[ob]?) : va_P D vwCl [(ob, oE cJ F)] H1 := hP.kept (fun k x hx => by
  have hz : k < 1 := (List.getElem?_eq_some_iff.mp hx).1
  rw [show k = 0 by omega] at hx
  cases hx
  exact hk)
theorem L_mkeep {H1 : Heap} (hP : va_P D vwCl (mW (y 13) (y 14) h I A) H) (hk : ∀ q ∈ mAd h, H1[q]? = H[q]?) : va_P D vwCl (mW (y 13) (y 14) h I A) H1 := hP.kept (fun k x hx => hk x.1 (mAd_at hx))
theorem L_mlt (hP : va_P D vwCl (mW (y 13) (y 14) h I A) H) {q : Nat} (hq : q ∈ mAd h) : q < H.size := by
  obtain ⟨k, e1, hk⟩ := mAd_in (cy := y 13) (ci := y 14) (I := I) (A := A) hq
  exact (hP k _ hk).lt
/-- the law's row is written -/
theorem L_last (X : CallFix p m c cc nL s args Ts own) (hM : LH0 D y ob cJ A0 s H locs S F) {x : Int64} (hdg : decode cc pc = .ok (.lastore, 1))
    (kk : ∀ (H : Heap) (locs : List Loc) (F : Nat → Int64), F 0 = x → LH0 D y ob cJ A0 s H locs S F → W p l e R s m args below meth c H locs cells slots Q (F0 m (pc + 1) ls rest)) : W p l e R s m args below meth c H locs cells slots Q (F0 m pc ls (.long x :: .int 0 :: .ref ob :: rest)) := by
  obtain ⟨hz, hP, ⟨hob, hKJ⟩, hne, hX⟩ := hM
  have hP2 : va_P D vwCl (zW y S ++ [(ob, oE cJ F)]) H := hz.1.app hP
  have hD2 : va_D A0 (zW y S ++ [(ob, oE cJ F)]) := ld_a hz.2.1 hob (fun k z hk => by
    obtain ⟨a, ha, e1⟩ := l_zat hk
    rw [← e1]; exact hne a ha)
  refine z_tight hz.2.2.1.1 (fun c9 h8 h9 => ?_)
  refine va_last (D := D) (tys := [(cJ, .long)]) X.1 X.2.1 hKJ hP2 hD2 (z_Srf hz.2.2.1) (zW y S).length 0 (by rw [List.getElem?_append_right (Nat.le_refl _), Nat.sub_self]; rfl) rfl (by unfold vp_in; decide) hdg (fun H1 locs1 hP1 hD1 hS1 => ?_)
  refine z_loose h9 (fun h7 => ?_)
  have hz9 : H1.size = H.size := Nat.le_antisymm (h8 ▸ h7) hS1.1
  rw [List.set_append_right _ _ (Nat.le_refl _), Nat.sub_self] at hP1
  exact kk H1 locs1 _ rfl ⟨⟨lp_l hP1, hz.2.1, z_Str hz.2.2.1 hS1, hz.2.2.2.1, hz.2.2.2.2.1, hz.2.2.2.2.2.1, zG_put hz.2.2.2.2.2.2 hz9 rfl⟩, lp_r hP1, ⟨hob, hKJ⟩, hne, hX⟩
variable {q : MethodName} {ws ws' : List Cond} {rm : Room} {bytes : ByteArray} {maxL n index : Nat} {ret : Option FieldType} {As st : List Value} {mc ms : Nat} {Pw : Int32 → ZS → Prop} {Px : Nat → ZS → Prop}
theorem z_preVX (ha : a ∈ zL S ∧ zK S a = 11) (hM : zH D y A0 s H locs S) (hX : zX A0 s s.heap) : PreV s H RX11 (zh y a) (va_Pc (.ref (zh y a) :: As) (zB1 D y S H.size)) As := by
  have hF := z_free hM
  obtain ⟨h1, h2, h3⟩ := z_preV (As := As) (k := 11) (C := RX11) (T := TX11) (N := 10) (fl := zf_11) rfl zc_11 ha hM
  refine ⟨fun a1 U g mk q => ⟨q.1, (h1 a1 U g mk ⟨q.1, q.2.1⟩).2, zX_blind q.2.2⟩, h2, fun U hU hW => ⟨(h3 U hU hW).1, (h3 U hU hW).2, zX_call hX hM.2.2.1 hF hU hW⟩⟩
theorem L_xpost {H1 : Heap} {locs1 : List Loc} {S1 : ZS} (hM : LH0 D y ob cJ A0 s H locs S F) (hP : va_P D vwCl (zW y S1) H1) (hD : va_D (va_A (zW y S) H.size) (zW y S1)) (hG : zG y S1 H1.size) (hk : ∀ q : Nat, q < H.size → ¬ va_A (zW y S) H.size q → H1[q]? = H[q]?) (hS : va_S A0 s.heap H1 locs1) : LH0 D y ob cJ A0 s H1 locs1 S1 F := by
  have hF := z_free hM.1
  obtain ⟨hz, hPo, hob, hne, hX⟩ := hM
  have ho := L_oblt hPo
  exact ⟨⟨hP, hD.weaken (fun _ q _ h9 => hF q.1 h9), hS, hz.2.2.2.1, hz.2.2.2.2.1, hz.2.2.2.2.2.1, hG⟩, L_okeep hPo (hk ob ho (l_notA ho hne)), hob, l_new hD ho hne, hX⟩
/-- a call of a method that throws, from one of the law's own -/
theorem L_xcalli (X : CallFix p m c cc nL s args Ts RL) (hM : LH0 D y ob cJ A0 s H locs S F) (ha : a ∈ zL S ∧ zK S a = 11) (hc : zXi l q ws rm (.ref (zh y a) :: As) D y S mc ms Pw Px) (hT : GoodIn Ts (wsV RL index RX11 q ws)) (hw : ws = Cond.code q bytes maxL ret :: ws') (hrm : rm.cells = mc ∧ rm.slots = ms) (hcs : cells + mc ≤ R.cells ∧ slots + ms ≤ R.slots)
    (hd : q.cls = RX11 ∧ q.cls ≠ "java/lang/invoke/MethodHandle" ∧ q.cls ≠ "java/lang/invoke/VarHandle" ∧ (parseMethodDescriptor q.desc).map (fun d => d.parameters.length) = some n) (hR : rm.frames + 1 ≤ R.frames ∧ 8 + (maxL + 11) + rm.locals ≤ R.locals) (hn : As.length = n) (hls : ls.size = nL) (hst : st = As.reverse ++ .ref (zh y a) :: rest) (hrest : (rest.map fun v => v.category).sum ≤ 8) (hdg : decode cc pc = .ok (.invokevirtual index, 3))
    (kx : ∀ (k : Nat) (S1 : ZS) (H1 : Heap) (locs1 : List Loc) (q9 : Addr) (ce : Cell), Px k S1 → LH0 D y ob cJ A0 s H1 locs1 S1 F → H1[q9]? = some ce → ce.vm = .none → s.vm.findClass (xN k) = some ce.cls → vx_W p l e R s m args below meth c H1 locs1 (cells + mc) (slots + ms) Q (F0 m pc ls rest) q9)
    (kk : ∀ (r : Int32) (S1 : ZS) (H1 : Heap) (locs1 : List Loc), Pw r S1 → LH0 D y ob cJ A0 s H1 locs1 S1 F → W p l e R s m args below meth c H1 locs1 (cells + mc) (slots + ms) Q (F0 m (pc + 3) ls (.int r :: rest))) : W p l e R s m args below meth c H locs cells slots Q (F0 m pc ls st) := by
  subst hst
  have hF := z_free hM.1
  refine vx_calli (A0 := A0) (vx_runV (As := As) (rest := rest) X (hc H.size) (cwV n X.2.2.2.2 hT hw hrm.1 hrm.2 hd hR) (z_preVX ha hM.1 hM.2.2.2.2) rfl hn hls rfl (lv_room hrest) hdg hcs) hM.1.2.2.1 (fun q _ hq => hF q hq) hF (fun q _ hq => hF q hq) (fun E ce q9 u t H1 locs1 ht hvm hp hB hz1 hk1 hS h5 h6 h7 => ?_) (fun r u t H1 locs1 ht hvm hp hB hz1 hk1 hS => ?_)
  · obtain ⟨rfl, hP1, hD1, hG1⟩ := hB
    rw [ht] at hP1 hG1
    exact kx u.1 u.2 H1 locs1 q9 ce hp (L_xpost hM hP1 hD1 hG1 hk1 hS) h5 h6 h7
  · obtain ⟨hP1, hD1, hG1⟩ := hB
    rw [ht] at hP1 hG1
    exact kk r u H1 locs1 hp (L_xpost hM hP1 hD1 hG1 hk1 hS)
theorem L_xcallv (X : CallFix p m c cc nL s args Ts RL) (hM : LH0 D y ob cJ A0 s H locs S F) (ha : a ∈ zL S ∧ zK S a = 11) (hc : zXv l q ws rm (.ref (zh y a) :: As) D y S mc ms Pw Px) (hT : GoodIn Ts (wsV RL index RX11 q ws)) (hw : ws = Cond.code q bytes maxL ret :: ws') (hrm : rm.cells = mc ∧ rm.slots = ms) (hcs : cells + mc ≤ R.cells ∧ slots + ms ≤ R.slots)
    (hd : q.cls = RX11 ∧ q.cls ≠ "java/lang/invoke/MethodHandle" ∧ q.cls ≠ "java/lang/invoke/VarHandle" ∧ (parseMethodDescriptor q.desc).map (fun d => d.parameters.length) = some n) (hR : rm.frames + 1 ≤ R.frames ∧ 8 + (maxL + 11) + rm.locals ≤ R.locals) (hn : As.length = n) (hls : ls.size = nL) (hst : st = As.reverse ++ .ref (zh y a) :: rest) (hrest : (rest.map fun v => v.category).sum ≤ 8) (hdg : decode cc pc = .ok (.invokevirtual index, 3))
    (kx : ∀ (k : Nat) (S1 : ZS) (H1 : Heap) (locs1 : List Loc) (q9 : Addr) (ce : Cell), Px k S1 → LH0 D y ob cJ A0 s H1 locs1 S1 F → H1[q9]? = some ce → ce.vm = .none → s.vm.findClass (xN k) = some ce.cls → vx_W p l e R s m args below meth c H1 locs1 (cells + mc) (slots + ms) Q (F0 m pc ls rest) q9)
    (kk : ∀ (S1 : ZS) (H1 : Heap) (locs1 : List Loc), Pw 0 S1 → LH0 D y ob cJ A0 s H1 locs1 S1 F → W p l e R s m args below meth c H1 locs1 (cells + mc) (slots + ms) Q (F0 m (pc + 3) ls rest)) : W p l e R s m args below meth c H locs cells slots Q (F0 m pc ls st) := by
  subst hst
  have hF := z_free hM.1
  refine vx_callv (A0 := A0) (vx_runV (As := As) (rest := rest) X (hc H.size) (cwV n X.2.2.2.2 hT hw hrm.1 hrm.2 hd hR) (z_preVX ha hM.1 hM.2.2.2.2) rfl hn hls rfl (lv_room hrest) hdg hcs) hM.1.2.2.1 (fun q _ hq => hF q hq) hF (fun q _ hq => hF q hq) (fun E ce q9 u t H1 locs1 ht hvm hp hB hz1 hk1 hS h5 h6 h7 => ?_) (fun u t H1 locs1 ht hvm hp hB hz1 hk1 hS => ?_)
  · obtain ⟨rfl, hP1, hD1, hG1⟩ := hB
    rw [ht] at hP1 hG1
    exact kx u.1 u.2 H1 locs1 q9 ce hp (L_xpost hM hP1 hD1 hG1 hk1 hS) h5 h6 h7
  · obtain ⟨hP1, hD1, hG1⟩ := hB
    rw [ht] at hP1 hG1
    exact kk u H1 locs1 hp (L_xpost hM hP1 hD1 hG1 hk1 hS)
end LL
end
section
noncomputable abbrev oW (y : Nat → ClassId) (S : ZS) (ob : Nat) (cJ : ClassId) (F : Nat → Int64) : va_W := zW y S ++ [(ob, oE cJ F)]
noncomputable def LB (D : va_G) (y : Nat → ClassId) (ob : Nat) (cJ : ClassId) (S : ZS) (F : Nat → Int64) (sz : Nat) : State → Prop := fun U =>
  U.heap.size = sz ∧ va_P D vwCl (oW y S ob cJ F) U.heap ∧ va_K D vwCl (zT y) U ∧ va_K D vwCl [(cJ, .long)] U ∧ va_D (fun _ => True) (oW y S ob cJ F) ∧ zE y (va_A (oW y S ob cJ F) sz) U U.heap ∧ zG y S sz ∧ zX (va_A (oW y S ob cJ F) sz) U U.heap ∧ va_Nc (xN 3) (xN 1) U ∧ va_Nc (xN 4) (xN 1) U
noncomputable abbrev LQi (D : va_G) (y : Nat → ClassId) (ob : Nat) (cJ : ClassId) (S : ZS) (F : Nat → Int64) (sz : Nat) (Pl : Int32 → (Nat → Int64) → ZS → Prop) : Array Value → State → Outcome → State → Prop := va_Qi (fun (r : Int32) (u : (Nat → Int64) × ZS) => Pl r u.1 u.2) (fun u t => va_P D vwCl (oW y u.2 ob cJ u.1) t.heap ∧ va_D (va_A (oW y S ob cJ F) sz) (oW y u.2 ob cJ u.1) ∧ zG y u.2 t.heap.size) (va_A (oW y S ob cJ F) sz)
noncomputable def LMi (l : Launch) (q : MethodName) (ws : List Cond) (rm : Room) (av : List Value) (D : va_G) (y : Nat → ClassId) (ob : Nat) (cJ : ClassId) (S : ZS) (F : Nat → Int64) (mc ms : Nat) (Pl : Int32 → (Nat → Int64) → ZS → Prop) : Prop :=
  ∀ sz : Nat, Met l q ws rm (va_Pc av (LB D y ob cJ S F sz)) (LQi D y ob cJ S F sz Pl) mc ms (va_A (oW y S ob cJ F) sz)
theorem L_ne {A : Nat → Prop} {y : Nat → ClassId} {S : ZS} {ob : Nat} {cJ : ClassId} {F : Nat → Int64} (hD : va_D A (oW y S ob cJ F)) : ∀ a ∈ zL S, zh y a ≠ ob := by
  intro a ha e1
  obtain ⟨k, hk⟩ := zW_at (y := y) ha
  have hlt : k < (zW y S).length := (List.getElem?_eq_some_iff.mp hk).1
  have h1 := hD.1 k (zW y S).length (zh y a, zF y S a) (ob, oE cJ F) (by rw [List.getElem?_append_left hlt]; exact hk) (by rw [List.getElem?_append_right (Nat.le_refl _), Nat.sub_self]; rfl) e1
  exact absurd h1 (Nat.ne_of_lt hlt)
theorem LB_start {D : va_G} {y : Nat → ClassId} {ob : Nat} {cJ : ClassId} {S : ZS} {F : Nat → Int64} {s : State} (hv : LB D y ob cJ S F s.heap.size s) : LH0 D y ob cJ (va_A (oW y S ob cJ F) s.heap.size) s s.heap [] S F := by
  obtain ⟨-, hP, hK, hKJ, hD0, hE, hG, hX, -⟩ := hv
  have hD : va_D (va_A (oW y S ob cJ F) s.heap.size) (oW y S ob cJ F) := hD0.self
  refine ⟨⟨lp_l hP, ⟨fun i j a b hi hj e1 => hD.1 i j a b (by rw [List.getElem?_append_left (List.getElem?_eq_some_iff.mp hi).1]; exact hi) (by rw [List.getElem?_append_left (List.getElem?_eq_some_iff.mp hj).1]; exact hj) e1, fun k q hk => hD.2 k q (by rw [List.getElem?_append_left (List.getElem?_eq_some_iff.mp hk).1]; exact hk)⟩, va_S.rf, hK, fun q hq => Or.inr hq, hE, hG⟩, lp_r hP, ⟨hD.2 (zW y S).length (ob, oE cJ F) (by rw [List.getElem?_append_right (Nat.le_refl _), Nat.sub_self]; rfl), hKJ⟩, L_ne hD, hX⟩
theorem L_hret {p : Program} {l : Launch} {e : Env} {R : Room} {s : State} {m : MethodId} {args : Array Value} {below : List Frame} {meth : Method} {c : Code} {H : Heap} {locs : List Loc} {cells slots : Nat} {cc : ByteArray} {pc nL : Nat} {ls : Array Slot} {D : va_G} {Ts : List Cond} {y : Nat → ClassId} {S S1 : ZS} {own : String} {ob : Nat} {cJ : ClassId} {F F1 : Nat → Int64} {Pl : Int32 → (Nat → Int64) → ZS → Prop} (X : CallFix p m c cc nL s args Ts own) (hr : meth.sig.returnType = some .int) (hlocks : meth.locks = false) (hM : LH0 D y ob cJ (va_A (oW y S ob cJ F) s.heap.size) s H locs S1 F1) {r : Int32} (hp : Pl r F1 S1) (hcs : cells ≤ R.cells ∧ slots ≤ R.slots) (hdg : decode cc pc = .ok (.ireturn, 1)) :
    W p l e R s m args below meth c H locs cells slots (MQ below (LQi D y ob cJ S F s.heap.size Pl) args s R.cells R.slots (va_A (oW y S ob cJ F) s.heap.size)) (F0 m pc ls [.int r]) := by
  obtain ⟨hz, hPo, ⟨hob, hKJ⟩, hne, hX⟩ := hM
  refine W.widen (k := R.cells) (n := R.slots) hcs.1 hcs.2 ?_
  refine W.zret (v := r) X.1 X.2.1 hr rfl (fun t ht hW => ⟨⟨r, (F1, S1), rfl, hp, ?_⟩, hz.2.2.1.F ht⟩) hz.2.2.1.2.2 hdg
  show va_P D vwCl (oW y S1 ob cJ F1) t.heap ∧ va_D (va_A (oW y S ob cJ F) s.heap.size) (oW y S1 ob cJ F1) ∧ zG y S1 t.heap.size
  rw [ht]
  exact ⟨hz.1.app hPo, ld_a hz.2.1 hob (fun k z hk => by
    obtain ⟨a, ha, e1⟩ := l_zat hk
    rw [← e1]; exact hne a ha), hz.2.2.2.2.2.2⟩
theorem lk_L_signs_13 : Cond.classLink RL 13 (xN 1) ∈ wsL_signs := by decide +kernel
set_option maxRecDepth 100000 in
set_option maxHeartbeats 4000000 in
theorem c_L_signs {l : Launch} {D : va_G} {y : Nat → ClassId} {ob : Nat} {cJ : ClassId} {x0 : Nat} {x1 : Int32} {S : ZS} {F : Nat → Int64} {kc kt : Nat} {Pl : Int32 → (Nat → Int64) → ZS → Prop} (hlt : l.stackTraces = false) (ha : x0 ∈ zL S ∧ zK S x0 = 11) (hf : g_X11_signs x0 x1 S kc kt (fun v S1 => ∀ F1 : Nat → Int64, F1 0 = v.toInt64 → Pl 0 F1 S1) (fun k S1 => (k = 1 ∧ Pl 1 F S1))) : LMi l yL_signs wsL_signs ({ frames := 7, cells := kc, slots := kt, locals := 181 } : Room) [.ref (zh y x0), .int x1, .ref ob] D y ob cJ S F kc kt Pl := by
  intro sz
  refine va_MetW (cc := cL_signs) (maxL := 4) (ret := some .int) (hh := [(0, 9, 12, 13)]) (by decide) rfl ?_
  intro p e s m args below meth c s₁ B hml hv
  obtain ⟨rfl, hv⟩ := hv
  have hsz := hv.1
  subst hsz
  have hM := LB_start hv
  have hX := hv.2.2.2.2.2.2.2.1
  have hN := hv.2.2.2.2.2.2.2.2
  have hr := B.returns
  have hlocks := B.notSynchronized
  have X : CallFix p m c cL_signs 4 s [Value.ref (zh y x0), Value.int x1, Value.ref ob].toArray wsL_signs RL := ⟨B.exec, B.bytes, hml, findClass_of_methodNamed B.named, atoms_spec (ws := wsL_signs) B.pre⟩
  obtain ⟨hx, hb, -, hown, hts⟩ := id X
  have htab := vx_table (x := yL_signs) B (hts _ List.mem_cons_self)
  have hl := lv_entry [Value.ref (zh y x0), Value.int x1, Value.ref ob] (n := 4) (Nat.le_of_ble_eq_true rfl)
  rw [lg_entry_eq]
  replace hl := (lv_sub hl [0, 1, 2] rfl : lv_has _ 4 [(0, .ref (zh y x0)), (1, .int x1), (2, .ref ob)])
  clear hv
  refine lv_aload_n hx hb dL_signs_0 rfl (lv_at hl 2 rfl) ?_
  refine lv_iconst (v := (0 : Int32)) hx hb dL_signs_1 (by decide) ?_
  refine lv_aload_n hx hb dL_signs_2 rfl (lv_at hl 0 rfl) ?_
  refine lv_iload_n hx hb dL_signs_3 rfl (lv_at hl 1 rfl) ?_
  refine L_xcalli (cells := 0) (slots := 0) X hM ha (c_X11_signs hlt hf) gL_signs_X11_signs rfl ⟨rfl, rfl⟩ ⟨Nat.le_of_eq (Nat.zero_add _), Nat.le_of_eq (Nat.zero_add _)⟩ hd_X11_signs ⟨Nat.le_of_ble_eq_true rfl, Nat.le_of_ble_eq_true rfl⟩ rfl hl.1 rfl (Nat.le_of_ble_eq_true rfl) dL_signs_4 (fun k S1 H locs q9 ce hp hM h5 h6 h7 => ?_) (fun v S1 H locs hp hM => ?_)
  · obtain ⟨rfl, hp⟩ := hp
    refine vx_catch (own := RL) (name := xN 1) hown [] ⟨0, 9, 12, 13⟩ [] htab (fun z hz => nomatch hz) (by decide) (by decide) (hts _ lk_L_signs_13) (va_Nw.use rfl (hX.1.1 _ (xN_in 1))) h5 h6 h7 ?_
    refine lv_astore_n (lv' := [(3, .ref q9), (0, .ref (zh y x0)), (1, .int x1), (2, .ref ob)]) hx hb dL_signs_12 rfl hl (by decide) rfl (fun ls hl => ?_)
    refine lv_iconst (v := (1 : Int32)) hx hb dL_signs_13 (by decide) ?_
    exact L_hret X hr hlocks hM hp ⟨Nat.le_of_eq (Nat.zero_add _), Nat.le_of_eq (Nat.zero_add _)⟩ dL_signs_14
  refine lv_i2l (v := v.toInt64) hx hb dL_signs_7 rfl ?_
  refine L_last X hM dL_signs_8 (fun H locs F1 hF1 hM => ?_)
  replace hp := hp F1 hF1
  refine lv_goto (tgt := 15) hx hb dL_signs_9 (by decide) ?_
  refine lv_iconst (v := (0 : Int32)) hx hb dL_signs_15 (by decide) ?_
  exact L_hret X hr hlocks hM hp ⟨Nat.le_of_eq (Nat.zero_add _), Nat.le_of_eq (Nat.zero_add _)⟩ dL_signs_16
theorem lk_L_node_19 : Cond.classLink RL 19 (xN 2) ∈ wsL_node := by decide +kernel
set_option maxRecDepth 100000 in
set_option maxHeartbeats 4000000 in
theorem c_L_node {l : Launch} {D : va_G} {y : Nat → ClassId} {ob : Nat} {cJ : ClassId} {x0 : Nat} {x1 : Int32} {x2 : Int32} {S : ZS} {F : Nat → Int64} {kc kt : Nat} {Pl : Int32 → (Nat → Int64) → ZS → Prop} (hlt : l.stackTraces = false) (ha : x0 ∈ zL S ∧ zK S x0 = 11) (hf : g_X11_node x0 x1 x2 S kc kt (fun v S1 => ∀ F1 : Nat → Int64, F1 0 = v.toInt64 → Pl 0 F1 S1) (fun k S1 => (k = 2 ∧ Pl 1 F S1))) : LMi l yL_node wsL_node ({ frames := 7, cells := kc, slots := kt, locals := 113 } : Room) [.ref (zh y x0), .int x1, .int x2, .ref ob] D y ob cJ S F kc kt Pl := by
  intro sz
  refine va_MetW (cc := cL_node) (maxL := 5) (ret := some .int) (hh := [(0, 10, 13, 19)]) (by decide) rfl ?_
  intro p e s m args below meth c s₁ B hml hv
  obtain ⟨rfl, hv⟩ := hv
  have hsz := hv.1
  subst hsz
  have hM := LB_start hv
  have hX := hv.2.2.2.2.2.2.2.1
  have hN := hv.2.2.2.2.2.2.2.2
  have hr := B.returns
  have hlocks := B.notSynchronized
  have X : CallFix p m c cL_node 5 s [Value.ref (zh y x0), Value.int x1, Value.int x2, Value.ref ob].toArray wsL_node RL := ⟨B.exec, B.bytes, hml, findClass_of_methodNamed B.named, atoms_spec (ws := wsL_node) B.pre⟩
  obtain ⟨hx, hb, -, hown, hts⟩ := id X
  have htab := vx_table (x := yL_node) B (hts _ List.mem_cons_self)
  have hl := lv_entry [Value.ref (zh y x0), Value.int x1, Value.int x2, Value.ref ob] (n := 5) (Nat.le_of_ble_eq_true rfl)
  rw [lg_entry_eq]
  replace hl := (lv_sub hl [0, 1, 2, 3] rfl : lv_has _ 5 [(0, .ref (zh y x0)), (1, .int x1), (2, .int x2), (3, .ref ob)])
  clear hv
  refine lv_aload_n hx hb dL_node_0 rfl (lv_at hl 3 rfl) ?_
  refine lv_iconst (v := (0 : Int32)) hx hb dL_node_1 (by decide) ?_
  refine lv_aload_n hx hb dL_node_2 rfl (lv_at hl 0 rfl) ?_
  refine lv_iload_n hx hb dL_node_3 rfl (lv_at hl 1 rfl) ?_
  refine lv_iload_n hx hb dL_node_4 rfl (lv_at hl 2 rfl) ?_
  refine L_xcalli (cells := 0) (slots := 0) X hM ha (c_X11_node hlt hf) gL_node_X11_node rfl ⟨rfl, rfl⟩ ⟨Nat.le_of_eq (Nat.zero_add _), Nat.le_of_eq (Nat.zero_add _)⟩ hd_X11_node ⟨Nat.le_of_ble_eq_true rfl, Nat.le_of_ble_eq_true rfl⟩ rfl hl.1 rfl (Nat.le_of_ble_eq_true rfl) dL_node_5 (fun k S1 H locs q9 ce hp hM h5 h6 h7 => ?_) (fun v S1 H locs hp hM => ?_)
  · obtain ⟨rfl, hp⟩ := hp
    refine vx_catch (own := RL) (name := xN 2) hown [] ⟨0, 10, 13, 19⟩ [] htab (fun z hz => nomatch hz) (by decide) (by decide) (hts _ lk_L_node_19) (va_Nw.use rfl (hX.1.1 _ (xN_in 2))) h5 h6 h7 ?_
    refine lv_astore (lv' := [(4, .ref q9), (0, .ref (zh y x0)), (1, .int x1), (2, .int x2), (3, .ref ob)]) hx hb dL_node_13 hl (by decide) rfl (fun ls hl => ?_)
    refine lv_iconst (v := (1 : Int32)) hx hb dL_node_15 (by decide) ?_
    exact L_hret X hr hlocks hM hp ⟨Nat.le_of_eq (Nat.zero_add _), Nat.le_of_eq (Nat.zero_add _)⟩ dL_node_16
  refine lv_i2l (v := v.toInt64) hx hb dL_node_8 rfl ?_
  refine L_last X hM dL_node_9 (fun H locs F1 hF1 hM => ?_)
  replace hp := hp F1 hF1
  refine lv_goto (tgt := 17) hx hb dL_node_10 (by decide) ?_
  refine lv_iconst (v := (0 : Int32)) hx hb dL_node_17 (by decide) ?_
  exact L_hret X hr hlocks hM hp ⟨Nat.le_of_eq (Nat.zero_add _), Nat.le_of_eq (Nat.zero_add _)⟩ dL_node_18
theorem lk_L_mark_19 : Cond.classLink RL 19 (xN 2) ∈ wsL_mark := by decide +kernel
set_option maxRecDepth 100000 in
set_option maxHeartbeats 4000000 in
theorem c_L_mark {l : Launch} {D : va_G} {y : Nat → ClassId} {ob : Nat} {cJ : ClassId} {x0 : Nat} {x1 : Int32} {x2 : Int32} {S : ZS} {F : Nat → Int64} {kc kt : Nat} {Pl : Int32 → (Nat → Int64) → ZS → Prop} (hlt : l.stackTraces = false) (ha : x0 ∈ zL S ∧ zK S x0 = 11) (hf : g_X11_mark x0 x1 x2 S kc kt (fun v S1 => ∀ F1 : Nat → Int64, F1 0 = v.toInt64 → Pl 0 F1 S1) (fun k S1 => (k = 2 ∧ Pl 1 F S1))) : LMi l yL_mark wsL_mark ({ frames := 7, cells := kc, slots := kt, locals := 112 } : Room) [.ref (zh y x0), .int x1, .int x2, .ref ob] D y ob cJ S F kc kt Pl := by
  intro sz
  refine va_MetW (cc := cL_mark) (maxL := 5) (ret := some .int) (hh := [(0, 10, 13, 19)]) (by decide) rfl ?_
  intro p e s m args below meth c s₁ B hml hv
  obtain ⟨rfl, hv⟩ := hv
  have hsz := hv.1
  subst hsz
  have hM := LB_start hv
  have hX := hv.2.2.2.2.2.2.2.1
  have hN := hv.2.2.2.2.2.2.2.2
  have hr := B.returns
  have hlocks := B.notSynchronized
  have X : CallFix p m c cL_mark 5 s [Value.ref (zh y x0), Value.int x1, Value.int x2, Value.ref ob].toArray wsL_mark RL := ⟨B.exec, B.bytes, hml, findClass_of_methodNamed B.named, atoms_spec (ws := wsL_mark) B.pre⟩
  obtain ⟨hx, hb, -, hown, hts⟩ := id X
  have htab := vx_table (x := yL_mark) B (hts _ List.mem_cons_self)
  have hl := lv_entry [Value.ref (zh y x0), Value.int x1, Value.int x2, Value.ref ob] (n := 5) (Nat.le_of_ble_eq_true rfl)
  rw [lg_entry_eq]
  replace hl := (lv_sub hl [0, 1, 2, 3] rfl : lv_has _ 5 [(0, .ref (zh y x0)), (1, .int x1), (2, .int x2), (3, .ref ob)])
  clear hv
  refine lv_aload_n hx hb dL_mark_0 rfl (lv_at hl 3 rfl) ?_
  refine lv_iconst (v := (0 : Int32)) hx hb dL_mark_1 (by decide) ?_
  refine lv_aload_n hx hb dL_mark_2 rfl (lv_at hl 0 rfl) ?_
  refine lv_iload_n hx hb dL_mark_3 rfl (lv_at hl 1 rfl) ?_
  refine lv_iload_n hx hb dL_mark_4 rfl (lv_at hl 2 rfl) ?_
  refine L_xcalli (cells := 0) (slots := 0) X hM ha (c_X11_mark hlt hf) gL_mark_X11_mark rfl ⟨rfl, rfl⟩ ⟨Nat.le_of_eq (Nat.zero_add _), Nat.le_of_eq (Nat.zero_add _)⟩ hd_X11_mark ⟨Nat.le_of_ble_eq_true rfl, Nat.le_of_ble_eq_true rfl⟩ rfl hl.1 rfl (Nat.le_of_ble_eq_true rfl) dL_mark_5 (fun k S1 H locs q9 ce hp hM h5 h6 h7 => ?_) (fun v S1 H locs hp hM => ?_)
  · obtain ⟨rfl, hp⟩ := hp
    refine vx_catch (own := RL) (name := xN 2) hown [] ⟨0, 10, 13, 19⟩ [] htab (fun z hz => nomatch hz) (by decide) (by decide) (hts _ lk_L_mark_19) (va_Nw.use rfl (hX.1.1 _ (xN_in 2))) h5 h6 h7 ?_
    refine lv_astore (lv' := [(4, .ref q9), (0, .ref (zh y x0)), (1, .int x1), (2, .int x2), (3, .ref ob)]) hx hb dL_mark_13 hl (by decide) rfl (fun ls hl => ?_)
    refine lv_iconst (v := (1 : Int32)) hx hb dL_mark_15 (by decide) ?_
    exact L_hret X hr hlocks hM hp ⟨Nat.le_of_eq (Nat.zero_add _), Nat.le_of_eq (Nat.zero_add _)⟩ dL_mark_16
  refine lv_i2l (v := v.toInt64) hx hb dL_mark_8 rfl ?_
  refine L_last X hM dL_mark_9 (fun H locs F1 hF1 hM => ?_)
  replace hp := hp F1 hF1
  refine lv_goto (tgt := 17) hx hb dL_mark_10 (by decide) ?_
  refine lv_iconst (v := (0 : Int32)) hx hb dL_mark_17 (by decide) ?_
  exact L_hret X hr hlocks hM hp ⟨Nat.le_of_eq (Nat.zero_add _), Nat.le_of_eq (Nat.zero_add _)⟩ dL_mark_18
theorem lk_L_remark_19 : Cond.classLink RL 19 (xN 2) ∈ wsL_remark := by decide +kernel
set_option maxRecDepth 100000 in
set_option maxHeartbeats 4000000 in
theorem c_L_remark {l : Launch} {D : va_G} {y : Nat → ClassId} {ob : Nat} {cJ : ClassId} {x0 : Nat} {x1 : Int32} {x2 : Int32} {S : ZS} {F : Nat → Int64} {kc kt : Nat} {Pl : Int32 → (Nat → Int64) → ZS → Prop} (hlt : l.stackTraces = false) (ha : x0 ∈ zL S ∧ zK S x0 = 11) (hf : g_X11_remark x0 x1 x2 S kc kt (fun v S1 => ∀ F1 : Nat → Int64, F1 0 = v.toInt64 → Pl 0 F1 S1) (fun k S1 => (k = 2 ∧ Pl 1 F S1))) : LMi l yL_remark wsL_remark ({ frames := 7, cells := kc, slots := kt, locals := 112 } : Room) [.ref (zh y x0), .int x1, .int x2, .ref ob] D y ob cJ S F kc kt Pl := by
  intro sz
  refine va_MetW (cc := cL_remark) (maxL := 5) (ret := some .int) (hh := [(0, 10, 13, 19)]) (by decide) rfl ?_
  intro p e s m args below meth c s₁ B hml hv
  obtain ⟨rfl, hv⟩ := hv
  have hsz := hv.1
  subst hsz
  have hM := LB_start hv
  have hX := hv.2.2.2.2.2.2.2.1
  have hN := hv.2.2.2.2.2.2.2.2
  have hr := B.returns
  have hlocks := B.notSynchronized
  have X : CallFix p m c cL_remark 5 s [Value.ref (zh y x0), Value.int x1, Value.int x2, Value.ref ob].toArray wsL_remark RL := ⟨B.exec, B.bytes, hml, findClass_of_methodNamed B.named, atoms_spec (ws := wsL_remark) B.pre⟩
  obtain ⟨hx, hb, -, hown, hts⟩ := id X
  have htab := vx_table (x := yL_remark) B (hts _ List.mem_cons_self)
  have hl := lv_entry [Value.ref (zh y x0), Value.int x1, Value.int x2, Value.ref ob] (n := 5) (Nat.le_of_ble_eq_true rfl)
  rw [lg_entry_eq]
  replace hl := (lv_sub hl [0, 1, 2, 3] rfl : lv_has _ 5 [(0, .ref (zh y x0)), (1, .int x1), (2, .int x2), (3, .ref ob)])
  clear hv
  refine lv_aload_n hx hb dL_remark_0 rfl (lv_at hl 3 rfl) ?_
  refine lv_iconst (v := (0 : Int32)) hx hb dL_remark_1 (by decide) ?_
  refine lv_aload_n hx hb dL_remark_2 rfl (lv_at hl 0 rfl) ?_
  refine lv_iload_n hx hb dL_remark_3 rfl (lv_at hl 1 rfl) ?_
  refine lv_iload_n hx hb dL_remark_4 rfl (lv_at hl 2 rfl) ?_
  refine L_xcalli (cells := 0) (slots := 0) X hM ha (c_X11_remark hlt hf) gL_remark_X11_remark rfl ⟨rfl, rfl⟩ ⟨Nat.le_of_eq (Nat.zero_add _), Nat.le_of_eq (Nat.zero_add _)⟩ hd_X11_remark ⟨Nat.le_of_ble_eq_true rfl, Nat.le_of_ble_eq_true rfl⟩ rfl hl.1 rfl (Nat.le_of_ble_eq_true rfl) dL_remark_5 (fun k S1 H locs q9 ce hp hM h5 h6 h7 => ?_) (fun v S1 H locs hp hM => ?_)
  · obtain ⟨rfl, hp⟩ := hp
    refine vx_catch (own := RL) (name := xN 2) hown [] ⟨0, 10, 13, 19⟩ [] htab (fun z hz => nomatch hz) (by decide) (by decide) (hts _ lk_L_remark_19) (va_Nw.use rfl (hX.1.1 _ (xN_in 2))) h5 h6 h7 ?_
    refine lv_astore (lv' := [(4, .ref q9), (0, .ref (zh y x0)), (1, .int x1), (2, .int x2), (3, .ref ob)]) hx hb dL_remark_13 hl (by decide) rfl (fun ls hl => ?_)
    refine lv_iconst (v := (1 : Int32)) hx hb dL_remark_15 (by decide) ?_
    exact L_hret X hr hlocks hM hp ⟨Nat.le_of_eq (Nat.zero_add _), Nat.le_of_eq (Nat.zero_add _)⟩ dL_remark_16
  refine lv_i2l (v := v.toInt64) hx hb dL_remark_8 rfl ?_
  refine L_last X hM dL_remark_9 (fun H locs F1 hF1 hM => ?_)
  replace hp := hp F1 hF1
  refine lv_goto (tgt := 17) hx hb dL_remark_10 (by decide) ?_
  refine lv_iconst (v := (0 : Int32)) hx hb dL_remark_17 (by decide) ?_
  exact L_hret X hr hlocks hM hp ⟨Nat.le_of_eq (Nat.zero_add _), Nat.le_of_eq (Nat.zero_add _)⟩ dL_remark_18
theorem lk_L_go_19 : Cond.classLink RL 19 (xN 2) ∈ wsL_go := by decide +kernel
set_option maxRecDepth 100000 in
set_option maxHeartbeats 4000000 in
theorem c_L_go {l : Launch} {D : va_G} {y : Nat → ClassId} {ob : Nat} {cJ : ClassId} {x0 : Nat} {x1 : Int32} {S : ZS} {F : Nat → Int64} {kc kt : Nat} {Pl : Int32 → (Nat → Int64) → ZS → Prop} (hlt : l.stackTraces = false) (ha : x0 ∈ zL S ∧ zK S x0 = 11) (hf : g_X11_go x0 x1 S kc kt (fun _ S1 => Pl 0 F S1) (fun k S1 => (k = 2 ∧ Pl 1 F S1))) : LMi l yL_go wsL_go ({ frames := 7, cells := kc, slots := kt, locals := 127 } : Room) [.ref (zh y x0), .int x1] D y ob cJ S F kc kt Pl := by
  intro sz
  refine va_MetW (cc := cL_go) (maxL := 3) (ret := some .int) (hh := [(0, 5, 8, 19)]) (by decide) rfl ?_
  intro p e s m args below meth c s₁ B hml hv
  obtain ⟨rfl, hv⟩ := hv
  have hsz := hv.1
  subst hsz
  have hM := LB_start hv
  have hX := hv.2.2.2.2.2.2.2.1
  have hN := hv.2.2.2.2.2.2.2.2
  have hr := B.returns
  have hlocks := B.notSynchronized
  have X : CallFix p m c cL_go 3 s [Value.ref (zh y x0), Value.int x1].toArray wsL_go RL := ⟨B.exec, B.bytes, hml, findClass_of_methodNamed B.named, atoms_spec (ws := wsL_go) B.pre⟩
  obtain ⟨hx, hb, -, hown, hts⟩ := id X
  have htab := vx_table (x := yL_go) B (hts _ List.mem_cons_self)
  have hl := lv_entry [Value.ref (zh y x0), Value.int x1] (n := 3) (Nat.le_of_ble_eq_true rfl)
  rw [lg_entry_eq]
  replace hl := (lv_sub hl [0, 1] rfl : lv_has _ 3 [(0, .ref (zh y x0)), (1, .int x1)])
  clear hv
  refine lv_aload_n hx hb dL_go_0 rfl (lv_at hl 0 rfl) ?_
  refine lv_iload_n hx hb dL_go_1 rfl (lv_at hl 1 rfl) ?_
  refine L_xcallv (cells := 0) (slots := 0) X hM ha (c_X11_go hlt hf) gL_go_X11_go rfl ⟨rfl, rfl⟩ ⟨Nat.le_of_eq (Nat.zero_add _), Nat.le_of_eq (Nat.zero_add _)⟩ hd_X11_go ⟨Nat.le_of_ble_eq_true rfl, Nat.le_of_ble_eq_true rfl⟩ rfl hl.1 rfl (Nat.le_of_ble_eq_true rfl) dL_go_2 (fun k S1 H locs q9 ce hp hM h5 h6 h7 => ?_) (fun S1 H locs hp hM => ?_)
  · obtain ⟨rfl, hp⟩ := hp
    refine vx_catch (own := RL) (name := xN 2) hown [] ⟨0, 5, 8, 19⟩ [] htab (fun z hz => nomatch hz) (by decide) (by decide) (hts _ lk_L_go_19) (va_Nw.use rfl (hX.1.1 _ (xN_in 2))) h5 h6 h7 ?_
    refine lv_astore_n (lv' := [(2, .ref q9), (0, .ref (zh y x0)), (1, .int x1)]) hx hb dL_go_8 rfl hl (by decide) rfl (fun ls hl => ?_)
    refine lv_iconst (v := (1 : Int32)) hx hb dL_go_9 (by decide) ?_
    exact L_hret X hr hlocks hM hp ⟨Nat.le_of_eq (Nat.zero_add _), Nat.le_of_eq (Nat.zero_add _)⟩ dL_go_10
  refine lv_goto (tgt := 11) hx hb dL_go_5 (by decide) ?_
  refine lv_iconst (v := (0 : Int32)) hx hb dL_go_11 (by decide) ?_
  exact L_hret X hr hlocks hM hp ⟨Nat.le_of_eq (Nat.zero_add _), Nat.le_of_eq (Nat.zero_add _)⟩ dL_go_12
theorem lk_L_man_19 : Cond.classLink RL 19 (xN 2) ∈ wsL_man := by decide +kernel
set_option maxRecDepth 100000 in
set_option maxHeartbeats 4000000 in
theorem c_L_man {l : Launch} {D : va_G} {y : Nat → ClassId} {ob : Nat} {cJ : ClassId} {x0 : Nat} {x1 : Int32} {S : ZS} {F : Nat → Int64} {kc kt : Nat} {Pl : Int32 → (Nat → Int64) → ZS → Prop} (hlt : l.stackTraces = false) (ha : x0 ∈ zL S ∧ zK S x0 = 11) (hf : g_X11_man x0 x1 S kc kt (fun v S1 => ∀ F1 : Nat → Int64, F1 0 = v.toInt64 → Pl 0 F1 S1) (fun k S1 => (k = 2 ∧ Pl 1 F S1))) : LMi l yL_man wsL_man ({ frames := 7, cells := kc, slots := kt, locals := 111 } : Room) [.ref (zh y x0), .int x1, .ref ob] D y ob cJ S F kc kt Pl := by
  intro sz
  refine va_MetW (cc := cL_man) (maxL := 4) (ret := some .int) (hh := [(0, 9, 12, 19)]) (by decide) rfl ?_
  intro p e s m args below meth c s₁ B hml hv
  obtain ⟨rfl, hv⟩ := hv
  have hsz := hv.1
  subst hsz
  have hM := LB_start hv
  have hX := hv.2.2.2.2.2.2.2.1
  have hN := hv.2.2.2.2.2.2.2.2
  have hr := B.returns
  have hlocks := B.notSynchronized
  have X : CallFix p m c cL_man 4 s [Value.ref (zh y x0), Value.int x1, Value.ref ob].toArray wsL_man RL := ⟨B.exec, B.bytes, hml, findClass_of_methodNamed B.named, atoms_spec (ws := wsL_man) B.pre⟩
  obtain ⟨hx, hb, -, hown, hts⟩ := id X
  have htab := vx_table (x := yL_man) B (hts _ List.mem_cons_self)
  have hl := lv_entry [Value.ref (zh y x0), Value.int x1, Value.ref ob] (n := 4) (Nat.le_of_ble_eq_true rfl)
  rw [lg_entry_eq]
  replace hl := (lv_sub hl [0, 1, 2] rfl : lv_has _ 4 [(0, .ref (zh y x0)), (1, .int x1), (2, .ref ob)])
  clear hv
  refine lv_aload_n hx hb dL_man_0 rfl (lv_at hl 2 rfl) ?_
  refine lv_iconst (v := (0 : Int32)) hx hb dL_man_1 (by decide) ?_
  refine lv_aload_n hx hb dL_man_2 rfl (lv_at hl 0 rfl) ?_
  refine lv_iload_n hx hb dL_man_3 rfl (lv_at hl 1 rfl) ?_
  refine L_xcalli (cells := 0) (slots := 0) X hM ha (c_X11_man hlt hf) gL_man_X11_man rfl ⟨rfl, rfl⟩ ⟨Nat.le_of_eq (Nat.zero_add _), Nat.le_of_eq (Nat.zero_add _)⟩ hd_X11_man ⟨Nat.le_of_ble_eq_true rfl, Nat.le_of_ble_eq_true rfl⟩ rfl hl.1 rfl (Nat.le_of_ble_eq_true rfl) dL_man_4 (fun k S1 H locs q9 ce hp hM h5 h6 h7 => ?_) (fun v S1 H locs hp hM => ?_)
  · obtain ⟨rfl, hp⟩ := hp
    refine vx_catch (own := RL) (name := xN 2) hown [] ⟨0, 9, 12, 19⟩ [] htab (fun z hz => nomatch hz) (by decide) (by decide) (hts _ lk_L_man_19) (va_Nw.use rfl (hX.1.1 _ (xN_in 2))) h5 h6 h7 ?_
    refine lv_astore_n (lv' := [(3, .ref q9), (0, .ref (zh y x0)), (1, .int x1), (2, .ref ob)]) hx hb dL_man_12 rfl hl (by decide) rfl (fun ls hl => ?_)
    refine lv_iconst (v := (1 : Int32)) hx hb dL_man_13 (by decide) ?_
    exact L_hret X hr hlocks hM hp ⟨Nat.le_of_eq (Nat.zero_add _), Nat.le_of_eq (Nat.zero_add _)⟩ dL_man_14
  refine lv_i2l (v := v.toInt64) hx hb dL_man_7 rfl ?_
  refine L_last X hM dL_man_8 (fun H locs F1 hF1 hM => ?_)
  replace hp := hp F1 hF1
  refine lv_goto (tgt := 15) hx hb dL_man_9 (by decide) ?_
  refine lv_iconst (v := (0 : Int32)) hx hb dL_man_15 (by decide) ?_
  exact L_hret X hr hlocks hM hp ⟨Nat.le_of_eq (Nat.zero_add _), Nat.le_of_eq (Nat.zero_add _)⟩ dL_man_16
theorem lk_L_add_13 : Cond.classLink RL 13 (xN 1) ∈ wsL_add := by decide +kernel
theorem lk_L_add_37 : Cond.classLink RL 37 (xN 3) ∈ wsL_add := by decide +kernel
set_option maxRecDepth 100000 in
set_option maxHeartbeats 4000000 in
theorem c_L_add {l : Launch} {D : va_G} {y : Nat → ClassId} {ob : Nat} {cJ : ClassId} {x0 : Nat} {x1 : Int32} {S : ZS} {F : Nat → Int64} {kc kt : Nat} {Pl : Int32 → (Nat → Int64) → ZS → Prop} (hlt : l.stackTraces = false) (ha : x0 ∈ zL S ∧ zK S x0 = 11) (hf : g_X11_add x0 x1 S kc kt (fun v S1 => ∀ F1 : Nat → Int64, F1 0 = v.toInt64 → Pl 0 F1 S1) (fun k S1 => (k = 1 ∧ Pl 1 F S1) ∨ (k = 3 ∧ Pl 2 F S1))) : LMi l yL_add wsL_add ({ frames := 7, cells := kc, slots := kt, locals := 153 } : Room) [.ref (zh y x0), .int x1, .ref ob] D y ob cJ S F kc kt Pl := by
  intro sz
  refine va_MetW (cc := cL_add) (maxL := 4) (ret := some .int) (hh := [(0, 9, 12, 13), (0, 9, 15, 37)]) (by decide) rfl ?_
  intro p e s m args below meth c s₁ B hml hv
  obtain ⟨rfl, hv⟩ := hv
  have hsz := hv.1
  subst hsz
  have hM := LB_start hv
  have hX := hv.2.2.2.2.2.2.2.1
  have hN := hv.2.2.2.2.2.2.2.2
  have hr := B.returns
  have hlocks := B.notSynchronized
  have X : CallFix p m c cL_add 4 s [Value.ref (zh y x0), Value.int x1, Value.ref ob].toArray wsL_add RL := ⟨B.exec, B.bytes, hml, findClass_of_methodNamed B.named, atoms_spec (ws := wsL_add) B.pre⟩
  obtain ⟨hx, hb, -, hown, hts⟩ := id X
  have htab := vx_table (x := yL_add) B (hts _ List.mem_cons_self)
  have hl := lv_entry [Value.ref (zh y x0), Value.int x1, Value.ref ob] (n := 4) (Nat.le_of_ble_eq_true rfl)
  rw [lg_entry_eq]
  replace hl := (lv_sub hl [0, 1, 2] rfl : lv_has _ 4 [(0, .ref (zh y x0)), (1, .int x1), (2, .ref ob)])
  clear hv
  refine lv_aload_n hx hb dL_add_0 rfl (lv_at hl 2 rfl) ?_
  refine lv_iconst (v := (0 : Int32)) hx hb dL_add_1 (by decide) ?_
  refine lv_aload_n hx hb dL_add_2 rfl (lv_at hl 0 rfl) ?_
  refine lv_iload_n hx hb dL_add_3 rfl (lv_at hl 1 rfl) ?_
  refine L_xcalli (cells := 0) (slots := 0) X hM ha (c_X11_add hlt hf) gL_add_X11_add rfl ⟨rfl, rfl⟩ ⟨Nat.le_of_eq (Nat.zero_add _), Nat.le_of_eq (Nat.zero_add _)⟩ hd_X11_add ⟨Nat.le_of_ble_eq_true rfl, Nat.le_of_ble_eq_true rfl⟩ rfl hl.1 rfl (Nat.le_of_ble_eq_true rfl) dL_add_4 (fun k S1 H locs q9 ce hp hM h5 h6 h7 => ?_) (fun v S1 H locs hp hM => ?_)
  · rcases hp with ⟨rfl, hp⟩ | ⟨rfl, hp⟩
    · refine vx_catch (own := RL) (name := xN 1) hown [] ⟨0, 9, 12, 13⟩ [⟨0, 9, 15, 37⟩] htab (fun z hz => nomatch hz) (by decide) (by decide) (hts _ lk_L_add_13) (va_Nw.use rfl (hX.1.1 _ (xN_in 1))) h5 h6 h7 ?_
      refine lv_astore_n (lv' := [(3, .ref q9), (0, .ref (zh y x0)), (1, .int x1), (2, .ref ob)]) hx hb dL_add_12 rfl hl (by decide) rfl (fun ls hl => ?_)
      refine lv_iconst (v := (1 : Int32)) hx hb dL_add_13 (by decide) ?_
      exact L_hret X hr hlocks hM hp ⟨Nat.le_of_eq (Nat.zero_add _), Nat.le_of_eq (Nat.zero_add _)⟩ dL_add_14
    · refine vx_catch (own := RL) (name := xN 3) hown [⟨0, 9, 12, 13⟩] ⟨0, 9, 15, 37⟩ [] htab (fun z hz => Or.inr (by rw [List.mem_singleton.mp hz]; exact ⟨by decide, xN 1, hts _ lk_L_add_13, hN.1⟩)) (by decide) (by decide) (hts _ lk_L_add_37) (va_Nw.use rfl (hX.1.1 _ (xN_in 3))) h5 h6 h7 ?_
      refine lv_astore_n (lv' := [(3, .ref q9), (0, .ref (zh y x0)), (1, .int x1), (2, .ref ob)]) hx hb dL_add_15 rfl hl (by decide) rfl (fun ls hl => ?_)
      refine lv_iconst (v := (2 : Int32)) hx hb dL_add_16 (by decide) ?_
      exact L_hret X hr hlocks hM hp ⟨Nat.le_of_eq (Nat.zero_add _), Nat.le_of_eq (Nat.zero_add _)⟩ dL_add_17
  refine lv_i2l (v := v.toInt64) hx hb dL_add_7 rfl ?_
  refine L_last X hM dL_add_8 (fun H locs F1 hF1 hM => ?_)
  replace hp := hp F1 hF1
  refine lv_goto (tgt := 18) hx hb dL_add_9 (by decide) ?_
  refine lv_iconst (v := (0 : Int32)) hx hb dL_add_18 (by decide) ?_
  exact L_hret X hr hlocks hM hp ⟨Nat.le_of_eq (Nat.zero_add _), Nat.le_of_eq (Nat.zero_add _)⟩ dL_add_19
theorem lk_L_addMark_13 : Cond.classLink RL 13 (xN 1) ∈ wsL_addMark := by decide +kernel
theorem lk_L_addMark_42 : Cond.classLink RL 42 (xN 4) ∈ wsL_addMark := by decide +kernel
set_option maxRecDepth 100000 in
set_option maxHeartbeats 4000000 in
theorem c_L_addMark {l : Launch} {D : va_G} {y : Nat → ClassId} {ob : Nat} {cJ : ClassId} {x0 : Nat} {x1 : Int32} {S : ZS} {F : Nat → Int64} {kc kt : Nat} {Pl : Int32 → (Nat → Int64) → ZS → Prop} (hlt : l.stackTraces = false) (ha : x0 ∈ zL S ∧ zK S x0 = 11) (hf : g_X11_addMark x0 x1 S kc kt (fun v S1 => ∀ F1 : Nat → Int64, F1 0 = v.toInt64 → Pl 0 F1 S1) (fun k S1 => (k = 1 ∧ Pl 1 F S1) ∨ (k = 4 ∧ Pl 2 F S1))) : LMi l yL_addMark wsL_addMark ({ frames := 7, cells := kc, slots := kt, locals := 112 } : Room) [.ref (zh y x0), .int x1, .ref ob] D y ob cJ S F kc kt Pl := by
  intro sz
  refine va_MetW (cc := cL_addMark) (maxL := 4) (ret := some .int) (hh := [(0, 9, 12, 13), (0, 9, 15, 42)]) (by decide) rfl ?_
  intro p e s m args below meth c s₁ B hml hv
  obtain ⟨rfl, hv⟩ := hv
  have hsz := hv.1
  subst hsz
  have hM := LB_start hv
  have hX := hv.2.2.2.2.2.2.2.1
  have hN := hv.2.2.2.2.2.2.2.2
  have hr := B.returns
  have hlocks := B.notSynchronized
  have X : CallFix p m c cL_addMark 4 s [Value.ref (zh y x0), Value.int x1, Value.ref ob].toArray wsL_addMark RL := ⟨B.exec, B.bytes, hml, findClass_of_methodNamed B.named, atoms_spec (ws := wsL_addMark) B.pre⟩
  obtain ⟨hx, hb, -, hown, hts⟩ := id X
  have htab := vx_table (x := yL_addMark) B (hts _ List.mem_cons_self)
  have hl := lv_entry [Value.ref (zh y x0), Value.int x1, Value.ref ob] (n := 4) (Nat.le_of_ble_eq_true rfl)
  rw [lg_entry_eq]
  replace hl := (lv_sub hl [0, 1, 2] rfl : lv_has _ 4 [(0, .ref (zh y x0)), (1, .int x1), (2, .ref ob)])
  clear hv
  refine lv_aload_n hx hb dL_addMark_0 rfl (lv_at hl 2 rfl) ?_
  refine lv_iconst (v := (0 : Int32)) hx hb dL_addMark_1 (by decide) ?_
  refine lv_aload_n hx hb dL_addMark_2 rfl (lv_at hl 0 rfl) ?_
  refine lv_iload_n hx hb dL_addMark_3 rfl (lv_at hl 1 rfl) ?_
  refine L_xcalli (cells := 0) (slots := 0) X hM ha (c_X11_addMark hlt hf) gL_addMark_X11_addMark rfl ⟨rfl, rfl⟩ ⟨Nat.le_of_eq (Nat.zero_add _), Nat.le_of_eq (Nat.zero_add _)⟩ hd_X11_addMark ⟨Nat.le_of_ble_eq_true rfl, Nat.le_of_ble_eq_true rfl⟩ rfl hl.1 rfl (Nat.le_of_ble_eq_true rfl) dL_addMark_4 (fun k S1 H locs q9 ce hp hM h5 h6 h7 => ?_) (fun v S1 H locs hp hM => ?_)
  · rcases hp with ⟨rfl, hp⟩ | ⟨rfl, hp⟩
    · refine vx_catch (own := RL) (name := xN 1) hown [] ⟨0, 9, 12, 13⟩ [⟨0, 9, 15, 42⟩] htab (fun z hz => nomatch hz) (by decide) (by decide) (hts _ lk_L_addMark_13) (va_Nw.use rfl (hX.1.1 _ (xN_in 1))) h5 h6 h7 ?_
      refine lv_astore_n (lv' := [(3, .ref q9), (0, .ref (zh y x0)), (1, .int x1), (2, .ref ob)]) hx hb dL_addMark_12 rfl hl (by decide) rfl (fun ls hl => ?_)
      refine lv_iconst (v := (1 : Int32)) hx hb dL_addMark_13 (by decide) ?_
      exact L_hret X hr hlocks hM hp ⟨Nat.le_of_eq (Nat.zero_add _), Nat.le_of_eq (Nat.zero_add _)⟩ dL_addMark_14
    · refine vx_catch (own := RL) (name := xN 4) hown [⟨0, 9, 12, 13⟩] ⟨0, 9, 15, 42⟩ [] htab (fun z hz => Or.inr (by rw [List.mem_singleton.mp hz]; exact ⟨by decide, xN 1, hts _ lk_L_addMark_13, hN.2⟩)) (by decide) (by decide) (hts _ lk_L_addMark_42) (va_Nw.use rfl (hX.1.1 _ (xN_in 4))) h5 h6 h7 ?_
      refine lv_astore_n (lv' := [(3, .ref q9), (0, .ref (zh y x0)), (1, .int x1), (2, .ref ob)]) hx hb dL_addMark_15 rfl hl (by decide) rfl (fun ls hl => ?_)
      refine lv_iconst (v := (2 : Int32)) hx hb dL_addMark_16 (by decide) ?_
      exact L_hret X hr hlocks hM hp ⟨Nat.le_of_eq (Nat.zero_add _), Nat.le_of_eq (Nat.zero_add _)⟩ dL_addMark_17
  refine lv_i2l (v := v.toInt64) hx hb dL_addMark_7 rfl ?_
  refine L_last X hM dL_addMark_8 (fun H locs F1 hF1 hM => ?_)
  replace hp := hp F1 hF1
  refine lv_goto (tgt := 18) hx hb dL_addMark_9 (by decide) ?_
  refine lv_iconst (v := (0 : Int32)) hx hb dL_addMark_18 (by decide) ?_
  exact L_hret X hr hlocks hM hp ⟨Nat.le_of_eq (Nat.zero_add _), Nat.le_of_eq (Nat.zero_add _)⟩ dL_addMark_19
theorem lk_L_say_13 : Cond.classLink RL 13 (xN 1) ∈ wsL_say := by decide +kernel
set_option maxRecDepth 100000 in
set_option maxHeartbeats 4000000 in
theorem c_L_say {l : Launch} {D : va_G} {y : Nat → ClassId} {ob : Nat} {cJ : ClassId} {x0 : Nat} {S : ZS} {F : Nat → Int64} {kc kt : Nat} {Pl : Int32 → (Nat → Int64) → ZS → Prop} (hlt : l.stackTraces = false) (ha : x0 ∈ zL S ∧ zK S x0 = 11) (hf : g_X11_say x0 S kc kt (fun v S1 => ∀ F1 : Nat → Int64, F1 0 = v.toInt64 → Pl 0 F1 S1) (fun k S1 => (k = 1 ∧ Pl 1 F S1))) : LMi l yL_say wsL_say ({ frames := 7, cells := kc, slots := kt, locals := 146 } : Room) [.ref (zh y x0), .ref ob] D y ob cJ S F kc kt Pl := by
  intro sz
  refine va_MetW (cc := cL_say) (maxL := 3) (ret := some .int) (hh := [(0, 8, 11, 13)]) (by decide) rfl ?_
  intro p e s m args below meth c s₁ B hml hv
  obtain ⟨rfl, hv⟩ := hv
  have hsz := hv.1
  subst hsz
  have hM := LB_start hv
  have hX := hv.2.2.2.2.2.2.2.1
  have hN := hv.2.2.2.2.2.2.2.2
  have hr := B.returns
  have hlocks := B.notSynchronized
  have X : CallFix p m c cL_say 3 s [Value.ref (zh y x0), Value.ref ob].toArray wsL_say RL := ⟨B.exec, B.bytes, hml, findClass_of_methodNamed B.named, atoms_spec (ws := wsL_say) B.pre⟩
  obtain ⟨hx, hb, -, hown, hts⟩ := id X
  have htab := vx_table (x := yL_say) B (hts _ List.mem_cons_self)
  have hl := lv_entry [Value.ref (zh y x0), Value.ref ob] (n := 3) (Nat.le_of_ble_eq_true rfl)
  rw [lg_entry_eq]
  replace hl := (lv_sub hl [0, 1] rfl : lv_has _ 3 [(0, .ref (zh y x0)), (1, .ref ob)])
  clear hv
  refine lv_aload_n hx hb dL_say_0 rfl (lv_at hl 1 rfl) ?_
  refine lv_iconst (v := (0 : Int32)) hx hb dL_say_1 (by decide) ?_
  refine lv_aload_n hx hb dL_say_2 rfl (lv_at hl 0 rfl) ?_
  refine L_xcalli (cells := 0) (slots := 0) X hM ha (c_X11_say hlt hf) gL_say_X11_say rfl ⟨rfl, rfl⟩ ⟨Nat.le_of_eq (Nat.zero_add _), Nat.le_of_eq (Nat.zero_add _)⟩ hd_X11_say ⟨Nat.le_of_ble_eq_true rfl, Nat.le_of_ble_eq_true rfl⟩ rfl hl.1 rfl (Nat.le_of_ble_eq_true rfl) dL_say_3 (fun k S1 H locs q9 ce hp hM h5 h6 h7 => ?_) (fun v S1 H locs hp hM => ?_)
  · obtain ⟨rfl, hp⟩ := hp
    refine vx_catch (own := RL) (name := xN 1) hown [] ⟨0, 8, 11, 13⟩ [] htab (fun z hz => nomatch hz) (by decide) (by decide) (hts _ lk_L_say_13) (va_Nw.use rfl (hX.1.1 _ (xN_in 1))) h5 h6 h7 ?_
    refine lv_astore_n (lv' := [(2, .ref q9), (0, .ref (zh y x0)), (1, .ref ob)]) hx hb dL_say_11 rfl hl (by decide) rfl (fun ls hl => ?_)
    refine lv_iconst (v := (1 : Int32)) hx hb dL_say_12 (by decide) ?_
    exact L_hret X hr hlocks hM hp ⟨Nat.le_of_eq (Nat.zero_add _), Nat.le_of_eq (Nat.zero_add _)⟩ dL_say_13
  refine lv_i2l (v := v.toInt64) hx hb dL_say_6 rfl ?_
  refine L_last X hM dL_say_7 (fun H locs F1 hF1 hM => ?_)
  replace hp := hp F1 hF1
  refine lv_goto (tgt := 14) hx hb dL_say_8 (by decide) ?_
  refine lv_iconst (v := (0 : Int32)) hx hb dL_say_14 (by decide) ?_
  exact L_hret X hr hlocks hM hp ⟨Nat.le_of_eq (Nat.zero_add _), Nat.le_of_eq (Nat.zero_add _)⟩ dL_say_15
theorem lk_L_lead_42 : Cond.classLink RL 42 (xN 4) ∈ wsL_lead := by decide +kernel
set_option maxRecDepth 100000 in
set_option maxHeartbeats 4000000 in
theorem c_L_lead {l : Launch} {D : va_G} {y : Nat → ClassId} {ob : Nat} {cJ : ClassId} {x0 : Nat} {S : ZS} {F : Nat → Int64} {kc kt : Nat} {Pl : Int32 → (Nat → Int64) → ZS → Prop} (hlt : l.stackTraces = false) (ha : x0 ∈ zL S ∧ zK S x0 = 11) (hf : g_X11_lead x0 S kc kt (fun v S1 => ∀ F1 : Nat → Int64, F1 0 = (if v = 0 then 0 else 1) → Pl 0 F1 S1) (fun k S1 => (k = 4 ∧ Pl 1 F S1))) : LMi l yL_lead wsL_lead ({ frames := 7, cells := kc, slots := kt, locals := 110 } : Room) [.ref (zh y x0), .ref ob] D y ob cJ S F kc kt Pl := by
  intro sz
  refine va_MetW (cc := cL_lead) (maxL := 3) (ret := some .int) (hh := [(0, 15, 18, 42)]) (by decide) rfl ?_
  intro p e s m args below meth c s₁ B hml hv
  obtain ⟨rfl, hv⟩ := hv
  have hsz := hv.1
  subst hsz
  have hM := LB_start hv
  have hX := hv.2.2.2.2.2.2.2.1
  have hN := hv.2.2.2.2.2.2.2.2
  have hr := B.returns
  have hlocks := B.notSynchronized
  have X : CallFix p m c cL_lead 3 s [Value.ref (zh y x0), Value.ref ob].toArray wsL_lead RL := ⟨B.exec, B.bytes, hml, findClass_of_methodNamed B.named, atoms_spec (ws := wsL_lead) B.pre⟩
  obtain ⟨hx, hb, -, hown, hts⟩ := id X
  have htab := vx_table (x := yL_lead) B (hts _ List.mem_cons_self)
  have hl := lv_entry [Value.ref (zh y x0), Value.ref ob] (n := 3) (Nat.le_of_ble_eq_true rfl)
  rw [lg_entry_eq]
  replace hl := (lv_sub hl [0, 1] rfl : lv_has _ 3 [(0, .ref (zh y x0)), (1, .ref ob)])
  clear hv
  refine lv_aload_n hx hb dL_lead_0 rfl (lv_at hl 1 rfl) ?_
  refine lv_iconst (v := (0 : Int32)) hx hb dL_lead_1 (by decide) ?_
  refine lv_aload_n hx hb dL_lead_2 rfl (lv_at hl 0 rfl) ?_
  refine L_xcalli (cells := 0) (slots := 0) X hM ha (c_X11_lead hlt hf) gL_lead_X11_lead rfl ⟨rfl, rfl⟩ ⟨Nat.le_of_eq (Nat.zero_add _), Nat.le_of_eq (Nat.zero_add _)⟩ hd_X11_lead ⟨Nat.le_of_ble_eq_true rfl, Nat.le_of_ble_eq_true rfl⟩ rfl hl.1 rfl (Nat.le_of_ble_eq_true rfl) dL_lead_3 (fun k S1 H locs q9 ce hp hM h5 h6 h7 => ?_) (fun v S1 H locs hp hM => ?_)
  · obtain ⟨rfl, hp⟩ := hp
    refine vx_catch (own := RL) (name := xN 4) hown [] ⟨0, 15, 18, 42⟩ [] htab (fun z hz => nomatch hz) (by decide) (by decide) (hts _ lk_L_lead_42) (va_Nw.use rfl (hX.1.1 _ (xN_in 4))) h5 h6 h7 ?_
    refine lv_astore_n (lv' := [(2, .ref q9), (0, .ref (zh y x0)), (1, .ref ob)]) hx hb dL_lead_18 rfl hl (by decide) rfl (fun ls hl => ?_)
    refine lv_iconst (v := (1 : Int32)) hx hb dL_lead_19 (by decide) ?_
    exact L_hret X hr hlocks hM hp ⟨Nat.le_of_eq (Nat.zero_add _), Nat.le_of_eq (Nat.zero_add _)⟩ dL_lead_20
  refine lv_if_eq (tgt := 13) hx hb dL_lead_6 (by decide) (fun cc1 => ?_) (fun cc1 => ?_)
  · refine lv_lconst (v := (0 : Int64)) hx hb dL_lead_13 (by decide) ?_
    refine L_last X hM dL_lead_14 (fun H locs F1 hF1 hM => ?_)
    replace hp := hp F1 (by rw [hF1]; exact (if_pos cc1).symm)
    refine lv_goto (tgt := 21) hx hb dL_lead_15 (by decide) ?_
    refine lv_iconst (v := (0 : Int32)) hx hb dL_lead_21 (by decide) ?_
    exact L_hret X hr hlocks hM hp ⟨Nat.le_of_eq (Nat.zero_add _), Nat.le_of_eq (Nat.zero_add _)⟩ dL_lead_22
  · refine lv_lconst (v := (1 : Int64)) hx hb dL_lead_9 (by decide) ?_
    refine lv_goto (tgt := 14) hx hb dL_lead_10 (by decide) ?_
    refine L_last X hM dL_lead_14 (fun H locs F1 hF1 hM => ?_)
    replace hp := hp F1 (by rw [hF1]; exact (if_neg cc1).symm)
    refine lv_goto (tgt := 21) hx hb dL_lead_15 (by decide) ?_
    refine lv_iconst (v := (0 : Int32)) hx hb dL_lead_21 (by decide) ?_
    exact L_hret X hr hlocks hM hp ⟨Nat.le_of_eq (Nat.zero_add _), Nat.le_of_eq (Nat.zero_add _)⟩ dL_lead_22
theorem lk_L_end_13 : Cond.classLink RL 13 (xN 1) ∈ wsL_end := by decide +kernel
set_option maxRecDepth 100000 in
set_option maxHeartbeats 4000000 in
theorem c_L_end {l : Launch} {D : va_G} {y : Nat → ClassId} {ob : Nat} {cJ : ClassId} {x0 : Nat} {x1 : Int32} {S : ZS} {F : Nat → Int64} {kc kt : Nat} {Pl : Int32 → (Nat → Int64) → ZS → Prop} (hlt : l.stackTraces = false) (ha : x0 ∈ zL S ∧ zK S x0 = 11) (hf : g_X11_end x0 x1 S kc kt (fun _ S1 => Pl 0 F S1) (fun k S1 => (k = 1 ∧ Pl 1 F S1))) : LMi l yL_end wsL_end ({ frames := 7, cells := kc, slots := kt, locals := 111 } : Room) [.ref (zh y x0), .int x1] D y ob cJ S F kc kt Pl := by
  intro sz
  refine va_MetW (cc := cL_end) (maxL := 3) (ret := some .int) (hh := [(0, 5, 8, 13)]) (by decide) rfl ?_
  intro p e s m args below meth c s₁ B hml hv
  obtain ⟨rfl, hv⟩ := hv
  have hsz := hv.1
  subst hsz
  have hM := LB_start hv
  have hX := hv.2.2.2.2.2.2.2.1
  have hN := hv.2.2.2.2.2.2.2.2
  have hr := B.returns
  have hlocks := B.notSynchronized
  have X : CallFix p m c cL_end 3 s [Value.ref (zh y x0), Value.int x1].toArray wsL_end RL := ⟨B.exec, B.bytes, hml, findClass_of_methodNamed B.named, atoms_spec (ws := wsL_end) B.pre⟩
  obtain ⟨hx, hb, -, hown, hts⟩ := id X
  have htab := vx_table (x := yL_end) B (hts _ List.mem_cons_self)
  have hl := lv_entry [Value.ref (zh y x0), Value.int x1] (n := 3) (Nat.le_of_ble_eq_true rfl)
  rw [lg_entry_eq]
  replace hl := (lv_sub hl [0, 1] rfl : lv_has _ 3 [(0, .ref (zh y x0)), (1, .int x1)])
  clear hv
  refine lv_aload_n hx hb dL_end_0 rfl (lv_at hl 0 rfl) ?_
  refine lv_iload_n hx hb dL_end_1 rfl (lv_at hl 1 rfl) ?_
  refine L_xcallv (cells := 0) (slots := 0) X hM ha (c_X11_end hlt hf) gL_end_X11_end rfl ⟨rfl, rfl⟩ ⟨Nat.le_of_eq (Nat.zero_add _), Nat.le_of_eq (Nat.zero_add _)⟩ hd_X11_end ⟨Nat.le_of_ble_eq_true rfl, Nat.le_of_ble_eq_true rfl⟩ rfl hl.1 rfl (Nat.le_of_ble_eq_true rfl) dL_end_2 (fun k S1 H locs q9 ce hp hM h5 h6 h7 => ?_) (fun S1 H locs hp hM => ?_)
  · obtain ⟨rfl, hp⟩ := hp
    refine vx_catch (own := RL) (name := xN 1) hown [] ⟨0, 5, 8, 13⟩ [] htab (fun z hz => nomatch hz) (by decide) (by decide) (hts _ lk_L_end_13) (va_Nw.use rfl (hX.1.1 _ (xN_in 1))) h5 h6 h7 ?_
    refine lv_astore_n (lv' := [(2, .ref q9), (0, .ref (zh y x0)), (1, .int x1)]) hx hb dL_end_8 rfl hl (by decide) rfl (fun ls hl => ?_)
    refine lv_iconst (v := (1 : Int32)) hx hb dL_end_9 (by decide) ?_
    exact L_hret X hr hlocks hM hp ⟨Nat.le_of_eq (Nat.zero_add _), Nat.le_of_eq (Nat.zero_add _)⟩ dL_end_10
  refine lv_goto (tgt := 11) hx hb dL_end_5 (by decide) ?_
  refine lv_iconst (v := (0 : Int32)) hx hb dL_end_11 (by decide) ?_
  exact L_hret X hr hlocks hM hp ⟨Nat.le_of_eq (Nat.zero_add _), Nat.le_of_eq (Nat.zero_add _)⟩ dL_end_12
theorem lk_L_tag_19 : Cond.classLink RL 19 (xN 2) ∈ wsL_tag := by decide +kernel
set_option maxRecDepth 100000 in
set_option maxHeartbeats 4000000 in
theorem c_L_tag {l : Launch} {D : va_G} {y : Nat → ClassId} {ob : Nat} {cJ : ClassId} {x0 : Nat} {x1 : Int32} {x2 : Int32} {x3 : Int32} {S : ZS} {F : Nat → Int64} {kc kt : Nat} {Pl : Int32 → (Nat → Int64) → ZS → Prop} (hlt : l.stackTraces = false) (ha : x0 ∈ zL S ∧ zK S x0 = 11) (hf : g_X11_tag x0 x1 x2 x3 S kc kt (fun v S1 => ∀ F1 : Nat → Int64, F1 0 = v.toInt64 → Pl 0 F1 S1) (fun k S1 => (k = 2 ∧ Pl 1 F S1))) : LMi l yL_tag wsL_tag ({ frames := 7, cells := kc, slots := kt, locals := 114 } : Room) [.ref (zh y x0), .int x1, .int x2, .int x3, .ref ob] D y ob cJ S F kc kt Pl := by
  intro sz
  refine va_MetW (cc := cL_tag) (maxL := 6) (ret := some .int) (hh := [(0, 12, 15, 19)]) (by decide) rfl ?_
  intro p e s m args below meth c s₁ B hml hv
  obtain ⟨rfl, hv⟩ := hv
  have hsz := hv.1
  subst hsz
  have hM := LB_start hv
  have hX := hv.2.2.2.2.2.2.2.1
  have hN := hv.2.2.2.2.2.2.2.2
  have hr := B.returns
  have hlocks := B.notSynchronized
  have X : CallFix p m c cL_tag 6 s [Value.ref (zh y x0), Value.int x1, Value.int x2, Value.int x3, Value.ref ob].toArray wsL_tag RL := ⟨B.exec, B.bytes, hml, findClass_of_methodNamed B.named, atoms_spec (ws := wsL_tag) B.pre⟩
  obtain ⟨hx, hb, -, hown, hts⟩ := id X
  have htab := vx_table (x := yL_tag) B (hts _ List.mem_cons_self)
  have hl := lv_entry [Value.ref (zh y x0), Value.int x1, Value.int x2, Value.int x3, Value.ref ob] (n := 6) (Nat.le_of_ble_eq_true rfl)
  rw [lg_entry_eq]
  replace hl := (lv_sub hl [0, 1, 2, 3, 4] rfl : lv_has _ 6 [(0, .ref (zh y x0)), (1, .int x1), (2, .int x2), (3, .int x3), (4, .ref ob)])
  clear hv
  refine lv_aload hx hb dL_tag_0 (lv_at hl 4 rfl) ?_
  refine lv_iconst (v := (0 : Int32)) hx hb dL_tag_2 (by decide) ?_
  refine lv_aload_n hx hb dL_tag_3 rfl (lv_at hl 0 rfl) ?_
  refine lv_iload_n hx hb dL_tag_4 rfl (lv_at hl 1 rfl) ?_
  refine lv_iload_n hx hb dL_tag_5 rfl (lv_at hl 2 rfl) ?_
  refine lv_iload_n hx hb dL_tag_6 rfl (lv_at hl 3 rfl) ?_
  refine L_xcalli (cells := 0) (slots := 0) X hM ha (c_X11_tag hlt hf) gL_tag_X11_tag rfl ⟨rfl, rfl⟩ ⟨Nat.le_of_eq (Nat.zero_add _), Nat.le_of_eq (Nat.zero_add _)⟩ hd_X11_tag ⟨Nat.le_of_ble_eq_true rfl, Nat.le_of_ble_eq_true rfl⟩ rfl hl.1 rfl (Nat.le_of_ble_eq_true rfl) dL_tag_7 (fun k S1 H locs q9 ce hp hM h5 h6 h7 => ?_) (fun v S1 H locs hp hM => ?_)
  · obtain ⟨rfl, hp⟩ := hp
    refine vx_catch (own := RL) (name := xN 2) hown [] ⟨0, 12, 15, 19⟩ [] htab (fun z hz => nomatch hz) (by decide) (by decide) (hts _ lk_L_tag_19) (va_Nw.use rfl (hX.1.1 _ (xN_in 2))) h5 h6 h7 ?_
    refine lv_astore (lv' := [(5, .ref q9), (0, .ref (zh y x0)), (1, .int x1), (2, .int x2), (3, .int x3), (4, .ref ob)]) hx hb dL_tag_15 hl (by decide) rfl (fun ls hl => ?_)
    refine lv_iconst (v := (1 : Int32)) hx hb dL_tag_17 (by decide) ?_
    exact L_hret X hr hlocks hM hp ⟨Nat.le_of_eq (Nat.zero_add _), Nat.le_of_eq (Nat.zero_add _)⟩ dL_tag_18
  refine lv_i2l (v := v.toInt64) hx hb dL_tag_10 rfl ?_
  refine L_last X hM dL_tag_11 (fun H locs F1 hF1 hM => ?_)
  replace hp := hp F1 hF1
  refine lv_goto (tgt := 19) hx hb dL_tag_12 (by decide) ?_
  refine lv_iconst (v := (0 : Int32)) hx hb dL_tag_19 (by decide) ?_
  exact L_hret X hr hlocks hM hp ⟨Nat.le_of_eq (Nat.zero_add _), Nat.le_of_eq (Nat.zero_add _)⟩ dL_tag_20
end
section
section LC
variable {p : Program} {l : Launch} {e : Env} {R : Room} {s : State} {m : MethodId} {args : Array Value} {below : List Frame} {meth : Method} {c : Code} {H : Heap} {locs : List Loc} {cells slots : Nat} {Q : State → Prop}
variable {cc : ByteArray} {pc nL : Nat} {ls : Array Slot} {rest : List Value} {D : va_G} {A0 : Nat → Prop} {Ts : List Cond} {y : Nat → ClassId} {S : ZS} {own : String} {a ob : Nat} {cJ : ClassId} {F : Nat → Int64} {h : Nat → Nat} {I : Nat → Int32} {A : Nat → Nat → Int32}
variable {q : MethodName} {ws ws' : List Cond} {rm : Room} {bytes : ByteArray} {maxL n index : Nat} {ret : Option FieldType} {As st : List Value} {mc ms : Nat} {Pw : Int32 → ZS → Prop} {Px : Nat → ZS → Prop}
theorem LH_post {H1 : Heap} {locs1 : List Loc} {S1 : ZS} {F1 : Nat → Int64} (hM : LH D y h ob cJ A0 s H locs I A S F) (h0 : LH0 D y ob cJ A0 s H1 locs1 S1 F1) (hD : va_D (va_A (zW y S) H.size) (zW y S1)) (hk : ∀ q : Nat, q < H.size → ¬ va_A (zW y S) H.size q → H1[q]? = H[q]?) : LH D y h ob cJ A0 s H1 locs1 I A S1 F1 :=
  ⟨h0, L_mkeep hM.2.1 (fun q hq => hk q (L_mlt hM.2.1 hq) (l_notA (L_mlt hM.2.1 hq) (hM.2.2.2 q hq).2)), hM.2.2.1, fun q hq => ⟨(hM.2.2.2 q hq).1, l_new hD (L_mlt hM.2.1 hq) (hM.2.2.2 q hq).2⟩⟩
/-- the law calls a method of the class that makes cells -/
theorem L_cwi (X : CallFix p m c cc nL s args Ts RL) (hM : LH D y h ob cJ A0 s H locs I A S F) (ha : a ∈ zL S ∧ zK S a = 11) (hc : zWi l q ws rm (.ref (zh y a) :: As) D y S mc ms Pw) (hT : GoodIn Ts (wsV RL index RX11 q ws)) (hw : ws = Cond.code q bytes maxL ret :: ws') (hrm : rm.cells = mc ∧ rm.slots = ms) (hcs : cells + mc ≤ R.cells ∧ slots + ms ≤ R.slots)
    (hd : q.cls = RX11 ∧ q.cls ≠ "java/lang/invoke/MethodHandle" ∧ q.cls ≠ "java/lang/invoke/VarHandle" ∧ (parseMethodDescriptor q.desc).map (fun d => d.parameters.length) = some n) (hR : rm.frames + 1 ≤ R.frames ∧ 8 + (maxL + 11) + rm.locals ≤ R.locals) (hn : As.length = n) (hls : ls.size = nL) (hst : st = As.reverse ++ .ref (zh y a) :: rest) (hrest : (rest.map fun v => v.category).sum ≤ 8) (hdg : decode cc pc = .ok (.invokevirtual index, 3))
    (kk : ∀ (r : Int32) (S1 : ZS) (H : Heap) (locs : List Loc), Pw r S1 → LH D y h ob cJ A0 s H locs I A S1 F → W p l e R s m args below meth c H locs (cells + mc) (slots + ms) Q (F0 m (pc + 3) ls (.int r :: rest))) : W p l e R s m args below meth c H locs cells slots Q (F0 m pc ls st) := by
  subst hst
  have hF := z_free hM.1.1
  refine va_calli (va_runV (C := RX11) (As := As) (rest := rest) X (hc H.size) (cwV n X.2.2.2.2 hT hw hrm.1 hrm.2 hd hR) (z_preV (k := 11) (C := RX11) (T := TX11) (N := 10) (fl := zf_11) rfl zc_11 ha hM.1.1) rfl hn hls rfl (lv_room hrest) hdg hcs) hM.1.1.2.2.1 (fun q _ hq => hF q hq) hF (fun r u t H1 locs1 ht hvm hp hB hz1 hk1 hS => ?_)
  obtain ⟨hP1, hD1, hG1⟩ := hB
  rw [ht] at hP1 hG1
  exact kk r u H1 locs1 hp (LH_post hM (L_xpost hM.1 hP1 hD1 hG1 hk1 hS) hD1 hk1)
/-- .. one that makes none -/
theorem L_czi {o : Int32 × ZS} (X : CallFix p m c cc nL s args Ts RL) (hM : LH D y h ob cJ A0 s H locs I A S F) (ha : a ∈ zL S ∧ zK S a = 11) (hc : zMi l q ws rm (.ref (zh y a) :: As) D y S o) (hT : GoodIn Ts (wsV RL index RX11 q ws)) (hw : ws = Cond.code q bytes maxL ret :: ws') (hrm : rm.cells = 0 ∧ rm.slots = 0) (hcs : cells ≤ R.cells ∧ slots ≤ R.slots)
    (hd : q.cls = RX11 ∧ q.cls ≠ "java/lang/invoke/MethodHandle" ∧ q.cls ≠ "java/lang/invoke/VarHandle" ∧ (parseMethodDescriptor q.desc).map (fun d => d.parameters.length) = some n) (hR : rm.frames + 1 ≤ R.frames ∧ 8 + (maxL + 11) + rm.locals ≤ R.locals) (hn : As.length = n) (hls : ls.size = nL) (hst : st = As.reverse ++ .ref (zh y a) :: rest) (hrest : (rest.map fun v => v.category).sum ≤ 8) (hdg : decode cc pc = .ok (.invokevirtual index, 3))
    (kk : ∀ (H : Heap) (locs : List Loc), LH D y h ob cJ A0 s H locs I A o.2 F → W p l e R s m args below meth c H locs cells slots Q (F0 m (pc + 3) ls (.int o.1 :: rest))) : W p l e R s m args below meth c H locs cells slots Q (F0 m pc ls st) := by
  subst hst
  have hF := z_free hM.1.1
  refine va_calli (va_runV (C := RX11) (As := As) (rest := rest) X (hc H.size) (cwV n X.2.2.2.2 hT hw hrm.1 hrm.2 hd hR) (z_preV (k := 11) (C := RX11) (T := TX11) (N := 10) (fl := zf_11) rfl zc_11 ha hM.1.1) rfl hn hls rfl (lv_room hrest) hdg hcs) hM.1.1.2.2.1 (fun q _ hq => hF q hq) hF (fun r u t H1 locs1 ht hvm hp hB hz1 hk1 hS => ?_)
  obtain ⟨hP1, hD1, hG1⟩ := hB
  rw [ht] at hP1 hG1
  have hp' : r = o.1 := hp
  subst hp'
  exact kk H1 locs1 (LH_post hM (L_xpost hM.1 hP1 hD1 hG1 hk1 hS) hD1 hk1)
theorem L_mnotA {sz x : Nat} (hq : x < sz) (hn : x ∉ mAd h) : ¬ va_A (mW (y 13) (y 14) h I A) sz x := by
  rintro (⟨k, e1, hk⟩ | h1)
  · exact hn (mAd_at hk)
  · exact absurd hq (Nat.not_lt.mpr h1)
theorem L_mpost {H1 : Heap} {locs1 : List Loc} {I1 : Nat → Int32} {A1 : Nat → Nat → Int32} (hM : LH D y h ob cJ A0 s H locs I A S F) (hP : va_P D vwCl (mW (y 13) (y 14) h I1 A1) H1) (hz : H1.size = H.size) (hk : ∀ q : Nat, q < H.size → ¬ va_A (mW (y 13) (y 14) h I A) H.size q → H1[q]? = H[q]?) (hS : va_S A0 s.heap H1 locs1) : LH D y h ob cJ A0 s H1 locs1 I1 A1 S F := by
  obtain ⟨⟨hz0, hPo, hob, hne, hX⟩, hPm, hDm, hnm⟩ := hM
  have ho := L_oblt hPo
  refine ⟨⟨⟨hz0.1.kept (fun k x hx => ?_), hz0.2.1, hS, hz0.2.2.2.1, hz0.2.2.2.2.1, hz0.2.2.2.2.2.1, zG_put hz0.2.2.2.2.2.2 hz rfl⟩, L_okeep hPo (hk ob ho (L_mnotA ho (fun h9 => (hnm ob h9).1 rfl))), hob, hne, hX⟩, hP, mD_any hDm, hnm⟩
  obtain ⟨a1, ha1, e1⟩ := l_zat hx
  exact hk x.1 ((hz0.1 k x hx).lt) (L_mnotA ((hz0.1 k x hx).lt) (fun h9 => (hnm x.1 h9).2 a1 ha1 e1))
/-- the law calls the reference -/
theorem L_mi {o : Int32 × MS} (X : CallFix p m c cc nL s args Ts RL) (hM : LH D y h ob cJ A0 s H locs I A S F) (hc : mMi l q ws rm (.ref (h 0) :: As) D (y 13) (y 14) h I A o) (hT : GoodIn Ts (wsV RL index RX12 q ws)) (hw : ws = Cond.code q bytes maxL ret :: ws') (hrm : rm.cells = 0 ∧ rm.slots = 0) (hcs : cells ≤ R.cells ∧ slots ≤ R.slots)
    (hd : q.cls = RX12 ∧ q.cls ≠ "java/lang/invoke/MethodHandle" ∧ q.cls ≠ "java/lang/invoke/VarHandle" ∧ (parseMethodDescriptor q.desc).map (fun d => d.parameters.length) = some n) (hR : rm.frames + 1 ≤ R.frames ∧ 8 + (maxL + 11) + rm.locals ≤ R.locals) (hn : As.length = n) (hls : ls.size = nL) (hst : st = As.reverse ++ .ref (h 0) :: rest) (hrest : (rest.map fun v => v.category).sum ≤ 8) (hdg : decode cc pc = .ok (.invokevirtual index, 3))
    (kk : ∀ (H : Heap) (locs : List Loc), LH D y h ob cJ A0 s H locs o.2.1 o.2.2 S F → W p l e R s m args below meth c H locs cells slots Q (F0 m (pc + 3) ls (.int o.1 :: rest))) : W p l e R s m args below meth c H locs cells slots Q (F0 m pc ls st) := by
  subst hst
  have hmH : mH D (y 13) (y 14) h A0 s H locs I A := ⟨hM.2.1, hM.2.2.1, hM.1.1.2.2.1, l_K hM.1.1.2.2.2.1, hM.1.1.2.2.2.2.1⟩
  have hF := m_free hmH
  refine z_tight hM.1.1.2.2.1.1 (fun c9 h8 h9 => ?_)
  refine va_calli (va_runV (C := RX12) (As := As) (rest := rest) X (hc H.size) (cwV n X.2.2.2.2 hT hw hrm.1 hrm.2 hd hR) (m_preV hmH) rfl hn hls rfl (lv_room hrest) hdg ⟨Nat.le_trans h9 hcs.1, hcs.2⟩) hM.1.1.2.2.1 (fun q _ hq => hF q hq) hF (fun r u t H1 locs1 ht hvm hw1 hB hz1 hk1 hS => ?_)
  refine z_loose (c9 := c9) h9 (fun h7 => ?_)
  have hz9 : H1.size = H.size := Nat.le_antisymm (h8 ▸ h7) hz1
  have hB' : va_P D vwCl (mW (y 13) (y 14) h o.2.1 o.2.2) t.heap := hB
  rw [ht] at hB'
  have hw2 : r = o.1 := hw1
  subst hw2
  exact kk H1 locs1 (L_mpost hM hB' hz9 hk1 hS)
theorem L_mv {o : Int32 × MS} (X : CallFix p m c cc nL s args Ts RL) (hM : LH D y h ob cJ A0 s H locs I A S F) (hc : mMv l q ws rm (.ref (h 0) :: As) D (y 13) (y 14) h I A o) (hT : GoodIn Ts (wsV RL index RX12 q ws)) (hw : ws = Cond.code q bytes maxL ret :: ws') (hrm : rm.cells = 0 ∧ rm.slots = 0) (hcs : cells ≤ R.cells ∧ slots ≤ R.slots)
    (hd : q.cls = RX12 ∧ q.cls ≠ "java/lang/invoke/MethodHandle" ∧ q.cls ≠ "java/lang/invoke/VarHandle" ∧ (parseMethodDescriptor q.desc).map (fun d => d.parameters.length) = some n) (hR : rm.frames + 1 ≤ R.frames ∧ 8 + (maxL + 11) + rm.locals ≤ R.locals) (hn : As.length = n) (hls : ls.size = nL) (hst : st = As.reverse ++ .ref (h 0) :: rest) (hrest : (rest.map fun v => v.category).sum ≤ 8) (hdg : decode cc pc = .ok (.invokevirtual index, 3))
    (kk : ∀ (H : Heap) (locs : List Loc), LH D y h ob cJ A0 s H locs o.2.1 o.2.2 S F → W p l e R s m args below meth c H locs cells slots Q (F0 m (pc + 3) ls rest)) : W p l e R s m args below meth c H locs cells slots Q (F0 m pc ls st) := by
  subst hst
  have hmH : mH D (y 13) (y 14) h A0 s H locs I A := ⟨hM.2.1, hM.2.2.1, hM.1.1.2.2.1, l_K hM.1.1.2.2.2.1, hM.1.1.2.2.2.2.1⟩
  have hF := m_free hmH
  refine z_tight hM.1.1.2.2.1.1 (fun c9 h8 h9 => ?_)
  refine va_callv (va_runV (C := RX12) (As := As) (rest := rest) X (hc H.size) (cwV n X.2.2.2.2 hT hw hrm.1 hrm.2 hd hR) (m_preV hmH) rfl hn hls rfl (lv_room hrest) hdg ⟨Nat.le_trans h9 hcs.1, hcs.2⟩) hM.1.1.2.2.1 (fun q _ hq => hF q hq) hF (fun u t H1 locs1 ht hvm hw1 hB hz1 hk1 hS => ?_)
  refine z_loose (c9 := c9) h9 (fun h7 => ?_)
  have hz9 : H1.size = H.size := Nat.le_antisymm (h8 ▸ h7) hz1
  have hB' : va_P D vwCl (mW (y 13) (y 14) h o.2.1 o.2.2) t.heap := hB
  rw [ht] at hB'
  exact kk H1 locs1 (L_mpost hM hB' hz9 hk1 hS)
theorem L_oF (hM : LH0 D y ob cJ A0 s H locs S F) : ∀ q, va_A (oW y S ob cJ F) H.size q → A0 q := by
  rintro q (⟨k, e1, hk⟩ | hq)
  · by_cases hl : k < (zW y S).length
    · rw [List.getElem?_append_left hl] at hk
      exact z_free hM.1 q (Or.inl ⟨k, e1, hk⟩)
    · rw [List.getElem?_append_right (Nat.not_lt.mp hl)] at hk
      have h1 : k - (zW y S).length < 1 := (List.getElem?_eq_some_iff.mp hk).1
      rw [show k - (zW y S).length = 0 by omega] at hk
      cases hk
      exact hM.2.2.1.1
  · exact z_free hM.1 q (Or.inr hq)
theorem L_oD (hM : LH0 D y ob cJ A0 s H locs S F) : va_D A0 (oW y S ob cJ F) := ld_a hM.1.2.1 hM.2.2.1.1 (fun k z hk => by
  obtain ⟨a, ha, e1⟩ := l_zat hk
  rw [← e1]; exact hM.2.2.2.1 a ha)
theorem L_preS (hM : LH0 D y ob cJ A0 s H locs S F) (hN : va_Nc (xN 3) (xN 1) s ∧ va_Nc (xN 4) (xN 1) s) : PreS s H (va_Pc As (LB D y ob cJ S F H.size)) As := by
  have hF := L_oF hM
  have hD := L_oD hM
  obtain ⟨⟨hP, -, hS, hK, hA, hE, hG⟩, hPo, ⟨hob, hKJ⟩, hne, hX⟩ := hM
  refine ⟨fun a1 U g mk z => ?_, fun U hU hW => ⟨rfl, by rw [hU], by rw [hU]; exact hP.app hPo, va_K.moved hW.alike hK, va_K.moved hW.alike hKJ, hD.weaken (fun _ _ _ _ => trivial), zE_call hE hS hF hU hW, hG, zX_call hX hS hF hU hW, va_Nc.moved hW.alike hN.1, va_Nc.moved hW.alike hN.2⟩⟩
  obtain ⟨q0, q1, q2, q3, q4, q5, q6, q7, q8, q9, q10⟩ := z
  have hr : U.vm.Alike (U.calling g mk a1).vm := Vm.Alike.refl U.vm
  exact ⟨q0, q1, q2, va_K.moved (u := U) (U := U.calling g mk a1) hr q3, va_K.moved (u := U) (U := U.calling g mk a1) hr q4, q5, zE_blind q6, q7, zX_blind q8, va_Nc.moved hr q9, va_Nc.moved hr q10⟩
/-- the law calls one of its catchers -/
theorem L_si {hh : List (Nat × Nat × Nat × Nat)} {Pl : Int32 → (Nat → Int64) → ZS → Prop} (X : CallFix p m c cc nL s args Ts RL) (hM : LH D y h ob cJ A0 s H locs I A S F) (hN : va_Nc (xN 3) (xN 1) s ∧ va_Nc (xN 4) (xN 1) s) (hc : LMi l q ws rm As D y ob cJ S F mc ms Pl) (hT : GoodIn Ts (va_wsS RL index q ws)) (hw : ws = Cond.codeWith q bytes maxL ret hh :: ws') (hrm : rm.cells = mc ∧ rm.slots = ms) (hcs : cells + mc ≤ R.cells ∧ slots + ms ≤ R.slots)
    (hd : q.cls ≠ "java/lang/invoke/MethodHandle" ∧ q.cls ≠ "java/lang/invoke/VarHandle" ∧ (parseMethodDescriptor q.desc).map (fun d => d.parameters.length) = some n) (hR : rm.frames + 1 ≤ R.frames ∧ 8 + (maxL + 11) + rm.locals ≤ R.locals) (hn : As.length = n) (hls : ls.size = nL) (hst : st = As.reverse ++ rest) (hrest : (rest.map fun v => v.category).sum ≤ 8) (hdg : decode cc pc = .ok (.invokestatic index, 3))
    (kk : ∀ (r : Int32) (F1 : Nat → Int64) (S1 : ZS) (H : Heap) (locs : List Loc), Pl r F1 S1 → LH D y h ob cJ A0 s H locs I A S1 F1 → W p l e R s m args below meth c H locs (cells + mc) (slots + ms) Q (F0 m (pc + 3) ls (.int r :: rest))) : W p l e R s m args below meth c H locs cells slots Q (F0 m pc ls st) := by
  subst hst
  have hF := L_oF hM.1
  refine va_calli (vx_runSW (As := As) (rest := rest) X (hc H.size) (vx_cwSW n X.2.2.2.2 hT hw hrm.1 hrm.2 hd hR) (L_preS hM.1 hN) rfl hn hls rfl (lv_room hrest) hdg hcs) hM.1.1.2.2.1 (fun q _ hq => hF q hq) hF (fun r u t H1 locs1 ht hvm hp hB hz1 hk1 hS => ?_)
  obtain ⟨hP1, hD1, hG1⟩ := hB
  rw [ht] at hP1 hG1
  obtain ⟨⟨hz0, hPo, hob, hne, hX⟩, hPm, hDm, hnm⟩ := hM
  have hnA : ∀ q ∈ mAd h, ¬ va_A (oW y S ob cJ F) H.size q := by
    rintro q hq (⟨k, e1, hk⟩ | h1)
    · by_cases hl : k < (zW y S).length
      · rw [List.getElem?_append_left hl] at hk
        obtain ⟨a1, ha1, e2⟩ := l_zat hk
        exact (hnm q hq).2 a1 ha1 e2
      · rw [List.getElem?_append_right (Nat.not_lt.mp hl)] at hk
        have h1 : k - (zW y S).length < 1 := (List.getElem?_eq_some_iff.mp hk).1
        rw [show k - (zW y S).length = 0 by omega] at hk
        cases hk
        exact (hnm _ hq).1 rfl
    · exact absurd (L_mlt hPm hq) (Nat.not_lt.mpr h1)
  have hD2 : va_D A0 (oW y u.2 ob cJ u.1) := hD1.weaken (fun _ q _ h9 => hF q.1 h9)
  refine kk r u.1 u.2 H1 locs1 hp ⟨⟨⟨lp_l hP1, ⟨fun i j a b hi hj e1 => hD2.1 i j a b (by rw [List.getElem?_append_left (List.getElem?_eq_some_iff.mp hi).1]; exact hi) (by rw [List.getElem?_append_left (List.getElem?_eq_some_iff.mp hj).1]; exact hj) e1, fun k q hk => hD2.2 k q (by rw [List.getElem?_append_left (List.getElem?_eq_some_iff.mp hk).1]; exact hk)⟩, hS, hz0.2.2.2.1, hz0.2.2.2.2.1, hz0.2.2.2.2.2.1, hG1⟩, lp_r hP1, hob, L_ne hD2, hX⟩, L_mkeep hPm (fun q hq => hk1 q (L_mlt hPm hq) (hnA q hq)), hDm, fun q hq => ⟨(hnm q hq).1, fun a1 ha1 e1 => ?_⟩⟩
  obtain ⟨k, hk⟩ := zW_at (y := y) ha1
  have h1 := hD1.2 k (zh y a1, zF y u.2 a1) (by rw [List.getElem?_append_left (List.getElem?_eq_some_iff.mp hk).1]; exact hk)
  rw [show ((zh y a1, zF y u.2 a1) : Nat × va_E).1 = q from e1] at h1
  exact hnA q hq h1
/-- the law reads its script -/
theorem L_sld {b L : Nat} {xs : Nat → Int32} (X : CallFix p m c cc nL s args Ts RL) (hM : LH D y h ob cJ A0 s H locs I A S F) (hX : va_X b L xs s s.heap ∧ b < s.heap.size ∧ ¬ A0 b) {i v : Int32} (hs : vp_in i L ∧ xs i.toNatClampNeg = v) (hdg : decode cc pc = .ok (.iaload, 1))
    (kk : W p l e R s m args below meth c H locs cells slots Q (F0 m (pc + 1) ls (.int v :: rest))) : W p l e R s m args below meth c H locs cells slots Q (F0 m pc ls (.int i :: .ref b :: rest)) := by
  refine va_sld X.1 X.2.1 hX.1 hX.2.1 hX.2.2 hM.1.1.2.2.1 hs.1 hdg ?_
  rw [hs.2]
  exact kk
theorem L_lald (X : CallFix p m c cc nL s args Ts RL) (hM : LH D y h ob cJ A0 s H locs I A S F) (hdg : decode cc pc = .ok (.laload, 1))
    (kk : W p l e R s m args below meth c H locs cells slots Q (F0 m (pc + 1) ls (.long (F 0) :: rest))) : W p l e R s m args below meth c H locs cells slots Q (F0 m pc ls (.int 0 :: .ref ob :: rest)) :=
  va_lald (tys := [(cJ, .long)]) X.1 X.2.1 hM.1.2.2.1.2 hM.1.2.1 0 0 rfl rfl (by unfold vp_in; decide) hdg kk
end LC
end
section
noncomputable def tmZ (i : Nat) : Term := match zSR.find? (fun t => t.2.2.2 == i) with
  | some t => .string t.1 t.2.1
  | none => .string "" 0
noncomputable abbrev gvC : Cond := Jvm.Cond.and given_1 narrow_1
theorem pz_1 : ∀ i, i < zSn → Cond.exactly (tmZ i) "java/lang/String" ∈ flatC gvC := by decide +kernel
theorem pz_2 : ∀ i, i < zSn → Cond.eq (.field (tmZ i) "java/lang/String" "coder" "B") (.int 0) ∈ flatC gvC := by decide +kernel
theorem pz_3 : ∀ i, i < zSn → Cond.arrayOf (.field (tmZ i) "java/lang/String" "value" "[B") .byte ∈ flatC gvC := by decide +kernel
theorem pz_4 : ∀ i, i < zSn → Cond.eq (.length (.field (tmZ i) "java/lang/String" "value" "[B")) (.int (Int32.ofNat (zSl.getD i 0))) ∈ flatC gvC := by decide +kernel
noncomputable def posZ : List (List Nat) := [[93, 94, 95], [100, 101, 102, 103, 104, 105, 106, 107, 108, 109, 110, 111, 112, 113], [118, 119, 120, 121], [126, 127, 128], [133, 134, 135], [140, 141, 142, 143, 144, 145, 146], [151], [156, 157, 158], [163, 164, 165, 166, 167], [172, 173, 174, 175, 176, 177], [182, 183, 184, 185, 186, 187], [192, 193], [198, 199, 200], [205], [210, 211, 212], [235, 236, 237, 238, 239, 240, 241, 242, 243, 244, 245, 246, 247, 248, 249, 250], [255, 256, 257, 258, 259, 260, 261, 262, 263, 264, 265, 266], [271, 272, 273, 274, 275, 276, 277, 278, 279, 280, 281, 282, 283, 284, 285, 286, 287, 288, 289, 290, 291, 292], [297, 298, 299, 300, 301, 302, 303, 304, 305, 306, 307, 308, 309, 310, 311, 312, 313, 314, 315, 316], [321, 322, 323, 324, 325, 326, 327, 328, 329, 330, 331, 332, 333, 334, 335, 336, 337, 338, 339, 340, 341, 342, 343, 344, 345], [350, 351, 352, 353, 354, 355, 356, 357, 358, 359, 360, 361, 362, 363], [368, 369, 370, 371, 372, 373, 374, 375, 376, 377, 378, 379, 380, 381, 382, 383, 384, 385, 386, 387, 388, 389], [394, 395, 396, 397, 398, 399, 400, 401, 402, 403], [408, 409, 410, 411, 412, 413, 414, 415, 416, 417, 418, 419, 420, 421, 422, 423, 424, 425], [430, 431, 432, 433, 434, 435, 436, 437, 438, 439, 440, 441], [446, 447, 448, 449, 450, 451, 452, 453, 454, 455, 456, 457, 458, 459, 460, 461, 462, 463, 464, 465, 466, 467, 468, 469, 470, 471, 472, 473, 474, 475], [480, 481, 482, 483, 484, 485, 486, 487, 488, 489, 490, 491, 492, 493, 494, 495, 496, 497, 498, 499, 500, 501, 502, 503], [508, 509, 510, 511, 512, 513, 514, 515, 516, 517, 518, 519], [524, 525, 526, 527, 528, 529, 530, 531, 532, 533, 534, 535, 536, 537, 538, 539, 540, 541, 542, 543, 544, 545, 546, 547]]
theorem pz_50 : ∀ i, i < zSn → ∀ j, j < zSl.getD i 0 → (flatC gvC)[(posZ.getD i []).getD j 0]? = some (Cond.eq (.elem (.field (tmZ i) "java/lang/String" "value" "[B") (.int (Int32.ofNat j))) (.int ((zSb.getD i []).getD j 0))) := by decide +kernel
theorem pz_5 : ∀ i, i < zSn → ∀ j, j < zSl.getD i 0 → Cond.eq (.elem (.field (tmZ i) "java/lang/String" "value" "[B") (.int (Int32.ofNat j))) (.int ((zSb.getD i []).getD j 0)) ∈ flatC gvC := fun i hi j hj => List.mem_of_getElem? (pz_50 i hi j hj)
theorem pz_6 : ∀ t ∈ zSR, tmZ t.2.2.2 = .string t.1 t.2.1 ∨ Cond.eq (tmZ t.2.2.2) (.string t.1 t.2.1) ∈ flatC gvC := by decide +kernel
theorem pz_61 : ∀ t ∈ zSR, t.2.2.2 < zSn := by decide +kernel
theorem pz_7 : ∀ t ∈ zSR, Cond.stringRef t.1 t.2.1 t.2.2.1 ∈ lw_tbl := by decide +kernel
theorem pz_8 : ∀ t ∈ zNW, Cond.methodLinkNest t.1 t.2.1 t.2.2.1 t.2.2.2 ∈ lw_tbl := by decide +kernel
theorem pz_9 : ∀ C ∈ zAO, Cond.arrayOver (.object C) ∈ lw_tbl := by decide +kernel
theorem pz_10 : Cond.arrayClass .char ∈ lw_tbl ∧ Cond.arrayClass .int ∈ lw_tbl ∧ Cond.arrayClass .long ∈ lw_tbl := by decide +kernel
theorem pz_11 : ∀ E ∈ xEs, Cond.castable E E ∈ lw_tbl := by decide +kernel
theorem pz_18 : ∀ E ∈ xDs, Cond.declares (Bundle.initS E) ∈ lw_tbl := by decide +kernel
theorem pz_12 : (Cond.laysStatic "MoveTexts$Row" "NO_CHARS" "[C" ∈ lw_tbl ∧ Cond.initialized "MoveTexts$Row" ∈ lw_tbl) ∧ (Cond.arrayOf (.static "MoveTexts$Row" "NO_CHARS" "[C") .char ∈ flatC gvC ∧ Cond.eq (.length (.static "MoveTexts$Row" "NO_CHARS" "[C")) (.int 0) ∈ flatC gvC) := by decide +kernel
theorem pz_13 : (Cond.laysStatic "MoveTexts$Board" "FIRST_RANK" "[I" ∈ lw_tbl ∧ Cond.initialized "MoveTexts$Board" ∈ lw_tbl) ∧ (Cond.arrayOf (.static "MoveTexts$Board" "FIRST_RANK" "[I") .int ∈ flatC gvC ∧ Cond.eq (.length (.static "MoveTexts$Board" "FIRST_RANK" "[I")) (.int 8) ∈ flatC gvC) ∧ ∀ j, j < 8 → Cond.eq (.elem (.static "MoveTexts$Board" "FIRST_RANK" "[I") (.int (Int32.ofNat j))) (.int (zFR.getD j 0)) ∈ flatC gvC := by decide +kernel
theorem pz_14 : (Cond.laysStatic "java/lang/String" "COMPACT_STRINGS" "Z" ∈ lw_tbl ∧ Cond.initialized "java/lang/String" ∈ lw_tbl) ∧ Cond.eq (.static "java/lang/String" "COMPACT_STRINGS" "Z") (.int 1) ∈ flatC gvC := by decide +kernel
theorem pz_15 : (Cond.laysStatic "jdk/internal/util/Preconditions" "SIOOBE_FORMATTER" "Ljava/util/function/BiFunction;" ∈ lw_tbl ∧ Cond.initialized "jdk/internal/util/Preconditions" ∈ lw_tbl) ∧ Cond.isRef (.static "jdk/internal/util/Preconditions" "SIOOBE_FORMATTER" "Ljava/util/function/BiFunction;") ∈ flatC gvC := by decide +kernel
theorem pz_16 : (Cond.laysStatic Bundle.tN "UNASSIGNED_STACK" Bundle.steD ∈ lw_tbl ∧ Cond.initialized Bundle.tN ∈ lw_tbl ∧ Cond.laysStatic Bundle.tN "SUPPRESSED_SENTINEL" Bundle.listD ∈ lw_tbl) ∧ Cond.isRef (.static Bundle.tN "UNASSIGNED_STACK" Bundle.steD) ∈ flatC gvC ∧ Cond.isRef (.static Bundle.tN "SUPPRESSED_SENTINEL" Bundle.listD) ∈ flatC gvC := by decide +kernel
theorem pz_17 : Cond.not (.castable (xN 3) (xN 1)) ∈ flatC gvC ∧ Cond.not (.castable (xN 4) (xN 1)) ∈ flatC gvC := by decide +kernel
theorem pz_d : ∀ i, i < zSn → ∀ j, j < zSn → zSl.getD i 0 = zSl.getD j 0 → (∀ k, k < zSl.getD i 0 → (zSb.getD i []).getD k 0 = (zSb.getD j []).getD k 0) → i = j := by decide +kernel
theorem pz_l : ∀ i, i < zSn → zSl.getD i 0 < 2 ^ 31 := by decide +kernel
theorem pz_k : ∀ k : Fin 13, ∀ q : vw_C, vwCl[k.val]? = some q → Cond.instantiable q.1 q.2.2 ∈ lw_tbl := by
  intro k q hq
  match k, hq with
  | ⟨0, _⟩, hq => cases hq; decide +kernel
  | ⟨1, _⟩, hq => cases hq; decide +kernel
  | ⟨2, _⟩, hq => cases hq; decide +kernel
  | ⟨3, _⟩, hq => cases hq; decide +kernel
  | ⟨4, _⟩, hq => cases hq; decide +kernel
  | ⟨5, _⟩, hq => cases hq; decide +kernel
  | ⟨6, _⟩, hq => cases hq; decide +kernel
  | ⟨7, _⟩, hq => cases hq; decide +kernel
  | ⟨8, _⟩, hq => cases hq; decide +kernel
  | ⟨9, _⟩, hq => cases hq; decide +kernel
  | ⟨10, _⟩, hq => cases hq; decide +kernel
  | ⟨11, _⟩, hq => cases hq; decide +kernel
  | ⟨12, _⟩, hq => cases hq; decide +kernel
theorem pz_w : ∀ (k : Nat) (q : vw_C), vwCl[k]? = some q → ∀ w ∈ u_ws q.1 q.2.1 q.2.2, w ∈ lw_tbl := by
  intro k q hq
  match k, hq with
  | 0, hq => cases hq; exact inX0
  | 1, hq => cases hq; exact inX1
  | 2, hq => cases hq; exact inX2
  | 3, hq => cases hq; exact inX3
  | 4, hq => cases hq; exact inX4
  | 5, hq => cases hq; exact inX5
  | 6, hq => cases hq; exact inX6
  | 7, hq => cases hq; exact inX7
  | 8, hq => cases hq; exact inX8
  | 9, hq => cases hq; exact inX9
  | 10, hq => cases hq; exact inX10
  | 11, hq => cases hq; exact inX11
  | 12, hq => cases hq; exact inX12
  | k + 13, hq => simp [vwCl] at hq
end
section
theorem start_K {s : State} {args : Array Value} (hts : ∀ w ∈ lw_tbl, w.before args s = true) : ∃ D : va_G, ∀ (k : Nat) (q : vw_C), vwCl[k]? = some q → u_Kn s q.1 q.2.1 q.2.2 (D.1 k) (D.2 k) := by
  have h0 : ∀ k : Nat, ∃ x : ClassId × (Nat → Nat), ∀ q : vw_C, vwCl[k]? = some q → u_Kn s q.1 q.2.1 q.2.2 x.1 x.2 := by
    intro k
    cases hq : vwCl[k]? with
    | none => exact ⟨(0, fun _ => 0), fun q h => by cases h⟩
    | some q =>
      have hk : k < 13 := (List.getElem?_eq_some_iff.mp hq).1
      obtain ⟨cC, iS, hK⟩ := u_known (C := q.1) (T := q.2.1) (N := q.2.2) (n := q.2.2) hts (pz_w k q hq) (hts _ (pz_k ⟨k, hk⟩ q hq))
      exact ⟨(cC, iS), fun q' h => by cases h; exact hK⟩
  obtain ⟨f, hf⟩ := Classical.axiomOfChoice h0
  exact ⟨(fun k => (f k).1, fun k => (f k).2), fun k q hq => hf k q hq⟩
noncomputable def yF (c13 c14 c15 c16 c17 n0 fr sz f0 f1 : Nat) (adK adV : Nat → Nat) : Nat → Nat := fun i =>
  if i = 13 then c13 else if i = 14 then c14 else if i = 15 then c15 else if i = 16 then c16 else if i = 17 then c17 else if i = 50 then n0 else if i = 51 then fr else if i = 52 then sz else if i = 60 then f0 else if i = 61 then f1 else if i < 200 then adK (i - 100) else adV (i - 200)
theorem yF_K {c13 c14 c15 c16 c17 n0 fr sz f0 f1 : Nat} {adK adV : Nat → Nat} {i : Nat} (hi : i < 100) : yF c13 c14 c15 c16 c17 n0 fr sz f0 f1 adK adV (100 + i) = adK i := by
  unfold yF
  rw [if_neg (by omega), if_neg (by omega), if_neg (by omega), if_neg (by omega), if_neg (by omega), if_neg (by omega), if_neg (by omega), if_neg (by omega), if_neg (by omega), if_neg (by omega), if_pos (by omega), Nat.add_sub_cancel_left]
theorem yF_V {c13 c14 c15 c16 c17 n0 fr sz f0 f1 : Nat} {adK adV : Nat → Nat} {i : Nat} : yF c13 c14 c15 c16 c17 n0 fr sz f0 f1 adK adV (200 + i) = adV i := by
  unfold yF
  rw [if_neg (by omega), if_neg (by omega), if_neg (by omega), if_neg (by omega), if_neg (by omega), if_neg (by omega), if_neg (by omega), if_neg (by omega), if_neg (by omega), if_neg (by omega), if_neg (by omega), Nat.add_sub_cancel_left]
theorem start_S {s : State} {args : Array Value} {A : Nat → Prop} (hgv : ∀ w ∈ flatC gvC, w.before args s = true) (hA : ∀ a : Nat, a < s.heap.size → ¬ A a) : ∃ adK adV : Nat → Nat, vk_S zSn zSl zSb adK adV A s s.heap ∧ ∀ i : Nat, i < zSn → (tmZ i).eval args s none [] s = some (.ref (adK i)) := by
  have h0 : ∀ i : Nat, ∃ q : Nat × Nat, i < zSn → (tmZ i).eval args s none [] s = some (.ref q.1) ∧ va_O "java/lang/String" q.1 A s s.heap ∧ va_OF "java/lang/String" "coder" "B" (.int 0) q.1 A s s.heap ∧ va_OF "java/lang/String" "value" "[B" (.ref q.2) q.1 A s s.heap ∧ va_T .byte q.2 (zSl.getD i 0) (fun j => .int ((zSb.getD i []).getD j 0)) A s s.heap := by
    intro i
    by_cases hi : i < zSn
    · obtain ⟨a, c, cA, kA, q1, q2, q3, q4, q5, q6, -⟩ := Cond.exactly_spec (args := args) (first := s) (o := none) (s := s) (idx := []) (t := tmZ i) (cls := "java/lang/String") (hgv _ (pz_1 i hi))
      obtain ⟨t, ht, hT⟩ := va_Tof (f := fun j => .int ((zSb.getD i []).getD j 0)) (A := A) (pz_l i hi) (hgv _ (pz_3 i hi)) (va_eqt (hgv _ (pz_4 i hi))) (fun j hj => va_eqt (hgv _ (pz_5 i hi j hj))) hA
      exact ⟨(a, t), fun _ => ⟨q1, ⟨cA, q3, q5, by rw [q6]; exact q2, hA a (Array.getElem?_eq_some_iff.mp q3).1⟩, vk_OFof q1 (va_eqt (hgv _ (pz_2 i hi))) hA, vk_OFof q1 ht hA, hT⟩⟩
    · exact ⟨(0, 0), fun h => absurd h hi⟩
  obtain ⟨ad, had⟩ := Classical.axiomOfChoice h0
  refine ⟨fun i => (ad i).1, fun i => (ad i).2, ⟨fun i hi => (had i hi).2, fun i j hi hj e => ?_⟩, fun i hi => (had i hi).1⟩
  obtain ⟨-, -, -, ⟨cf, k1, i1, f1, cell1, a1, a2, a3, a4, a5, -⟩, ⟨cl1, b1, b2, b3, b4, b5, b6, -⟩⟩ := had i hi
  obtain ⟨-, -, -, ⟨cf', k2, i2, f2, cell2, a1', a2', a3', a4', a5', -⟩, ⟨cl2, b1', b2', b3', b4', b5', b6', -⟩⟩ := had j hj
  have e0 : (ad i).1 = (ad j).1 := e
  rw [← e0] at a3'
  cases a1.symm.trans a1'
  cases a3.symm.trans a3'
  have e1 : Value.ref (ad i).2 = Value.ref (ad j).2 := Option.some.inj (a5.symm.trans a5')
  have e2 : (ad i).2 = (ad j).2 := by injection e1
  rw [← e2] at b1'
  cases b1.symm.trans b1'
  have e3 : Int32.ofNat (zSl.getD i 0) = Int32.ofNat (zSl.getD j 0) := b5.symm.trans b5'
  have e4 : zSl.getD i 0 = zSl.getD j 0 := by
    have h1 := congrArg Int32.toNatClampNeg e3
    have hh : ∀ n, n < zSn → (Int32.ofNat (zSl.getD n 0)).toNatClampNeg = zSl.getD n 0 := by decide +kernel
    rw [hh i hi, hh j hj] at h1
    exact h1
  refine pz_d i hi j hj e4 (fun k hk => ?_)
  have h1 := (b6 k hk).symm.trans (b6' k (by rw [← e4]; exact hk))
  have h2 : Value.int ((zSb.getD i []).getD k 0) = Value.int ((zSb.getD j []).getD k 0) := Option.some.inj h1
  injection h2
theorem start_arr {s : State} {args : Array Value} {ty : FieldType} (hty : ∀ C, ty ≠ .object C) (h : (Cond.arrayClass ty).before args s = true) : ∃ c : ClassId, ArrOfT s c ty ∧ va_RA s c ty := by
  obtain ⟨c, k, comp, h1, h2, h3⟩ := Cond.arrayClass_spec h
  refine ⟨c, fun n z => ⟨fun k h => (by cases h), k, h2, comp, h3⟩, ?_⟩
  cases ty with
  | object C => exact absurd rfl (hty C)
  | _ => exact h1
theorem start_ob {s : State} {args : Array Value} {C : String} (h : (Cond.arrayOver (.object C)).before args s = true) : ∃ c : ClassId, ArrOfT s c (.object C) ∧ va_RA s c (.object C) := by
  obtain ⟨comp, c, k, f1, f2, f3, f4, f5⟩ := Cond.arrayOver_spec h
  exact ⟨c, fun n z => ⟨fun k h => (by cases h), k, f3, comp, f4⟩, k, comp, f3, f4, f1, f5⟩
/-- the world around, at the law's start -/
theorem start_E {s : State} {args : Array Value} (hts : ∀ w ∈ lw_tbl, w.before args s = true) (hgv : ∀ w ∈ flatC gvC, w.before args s = true) : ∃ (D : va_G) (y : Nat → ClassId) (cJ : ClassId), zE y (fun q => s.heap.size ≤ q) s s.heap ∧ va_K D vwCl (zT y) s ∧ va_K D vwCl [(cJ, .long)] s ∧ y 50 ≤ y 52 ∧ s.heap.size = y 52 + 1 ∧ zX (fun q => s.heap.size ≤ q) s s.heap ∧ va_Nc (xN 3) (xN 1) s ∧ va_Nc (xN 4) (xN 1) s := by
  have hA : ∀ a : Nat, a < s.heap.size → ¬ (fun q => s.heap.size ≤ q) a := fun a h1 h2 => absurd h1 (Nat.not_lt.mpr h2)
  obtain ⟨D, hD⟩ := start_K hts
  obtain ⟨adK, adV, hS, hK⟩ := start_S (A := fun q => s.heap.size ≤ q) hgv hA
  obtain ⟨c13, k13⟩ := start_arr (ty := .char) (fun C h => by cases h) (hts _ pz_10.1)
  obtain ⟨c14, k14⟩ := start_arr (ty := .int) (fun C h => by cases h) (hts _ pz_10.2.1)
  obtain ⟨cJ, kJ⟩ := start_arr (ty := .long) (fun C h => by cases h) (hts _ pz_10.2.2)
  obtain ⟨c15, k15⟩ := start_ob (C := "MoveTexts$Board") (hts _ (pz_9 _ (by decide)))
  obtain ⟨c16, k16⟩ := start_ob (C := "MoveTexts$Node") (hts _ (pz_9 _ (by decide)))
  obtain ⟨c17, k17⟩ := start_ob (C := "MoveTexts$Tag") (hts _ (pz_9 _ (by decide)))
  obtain ⟨n0, hn0, hT0⟩ := va_Tof (tm := .static "MoveTexts$Row" "NO_CHARS" "[C") (ty := .char) (N := 0) (f := fun _ => .int 0) (A := fun q => s.heap.size ≤ q) (by decide) (hgv _ pz_12.2.1) (va_eqt (hgv _ pz_12.2.2)) (fun j hj => absurd hj (Nat.not_lt_zero _)) hA
  obtain ⟨fr, hfr, hTf⟩ := va_Tof (tm := .static "MoveTexts$Board" "FIRST_RANK" "[I") (ty := .int) (N := 8) (f := fun j => .int (zFR.getD j 0)) (A := fun q => s.heap.size ≤ q) (by decide) (hgv _ pz_13.2.1.1) (va_eqt (hgv _ pz_13.2.1.2)) (fun j hj => va_eqt (hgv _ (pz_13.2.2 j hj))) hA
  have hZ0 := va_Zof (A := fun q => s.heap.size ≤ q) (hts _ pz_12.1.1) (hts _ pz_12.1.2) hn0 hA
  have hZf := va_Zof (A := fun q => s.heap.size ≤ q) (hts _ pz_13.1.1) (hts _ pz_13.1.2) hfr hA
  have hZc := va_Zof (A := fun q => s.heap.size ≤ q) (hts _ pz_14.1.1) (hts _ pz_14.1.2) (va_eqi (hgv _ pz_14.2)) hA
  have hZs := va_Zqof (A := fun q => s.heap.size ≤ q) (hts _ pz_15.1.1) (hts _ pz_15.1.2) (hgv _ pz_15.2) hA
  have hn : n0 < s.heap.size := by
    obtain ⟨cell, h1, -⟩ := hT0
    exact (Array.getElem?_eq_some_iff.mp h1).1
  obtain ⟨f0, f1, hfo⟩ : ∃ f0 f1 : Nat, va_Z "jdk/internal/util/Preconditions" "SIOOBE_FORMATTER" "Ljava/util/function/BiFunction;" (va_rf (if f0 = 0 then none else some f1)) (fun q => s.heap.size ≤ q) s s.heap := by
    rcases hZs with h | ⟨t, h⟩
    · exact ⟨0, 0, h⟩
    · exact ⟨1, t, h⟩
  refine ⟨D, yF c13 c14 c15 c16 c17 n0 fr (s.heap.size - 1) f0 f1 adK adV, cJ, ⟨fun t ht => va_Nw.of rfl (hts _ (pz_8 t ht)), ?_, fun t ht => ?_, hZc, hZ0, hZf, hTf, hfo, fun C hC => va_AO.of (hts _ (pz_9 C hC)), hT0⟩, ⟨hD, fun k q hk => ?_⟩, ⟨hD, fun k q hk => ?_⟩, ?_, ?_, ⟨⟨fun E hE => va_Nw.of rfl (hts _ (pz_11 E hE)), fun E hE => va_Nw.of rfl (hts _ (pz_18 E hE))⟩, vx_Zqof (hts _ pz_16.1.1) (hts _ pz_16.1.2.1) (hgv _ pz_16.2.1) hA, vx_Zqof (hts _ pz_16.1.2.2) (hts _ pz_16.1.2.1) (hgv _ pz_16.2.2) hA⟩, va_Nc.of (hgv _ pz_17.1), va_Nc.of (hgv _ pz_17.2)⟩
  · refine ⟨fun i hi => ?_, fun i j hi hj e => ?_⟩
    · have hi9 : i < 100 := Nat.lt_trans hi (by decide)
      dsimp only
      rw [yF_K hi9, yF_V]
      exact hS.1 i hi
    · have e9 : yF c13 c14 c15 c16 c17 n0 fr (s.heap.size - 1) f0 f1 adK adV (100 + i) = yF c13 c14 c15 c16 c17 n0 fr (s.heap.size - 1) f0 f1 adK adV (100 + j) := e
      rw [yF_K (Nat.lt_trans hi (by decide)), yF_K (Nat.lt_trans hj (by decide))] at e9
      exact hS.2 i j hi hj e9
  · have h1 := pz_61 t ht
    rw [yF_K (Nat.lt_trans h1 (by decide))]
    refine vk_R.of (hts _ (pz_7 t ht)) ?_
    rcases pz_6 t ht with h2 | h2
    · rw [← h2]; exact hK _ h1
    · exact va_eqR (hgv _ h2) (hK _ h1)
  · match k, hk with
    | 0, hk => cases hk; exact k13
    | 1, hk => cases hk; exact k14
    | 2, hk => cases hk; exact k15
    | 3, hk => cases hk; exact k16
    | 4, hk => cases hk; exact k17
  · match k, hk with
    | 0, hk => cases hk; exact kJ
  · show n0 ≤ s.heap.size - 1
    omega
  · show s.heap.size = s.heap.size - 1 + 1
    omega
end
section
noncomputable def Ok {α : Type} (x : Option α) (Q : α → Prop) : Prop := ∃ r, x = some r ∧ Q r
theorem ok_ret {α : Type} {r : α} {Q : α → Prop} (h : Q r) : Ok (some r) Q := ⟨r, rfl, h⟩
theorem ok_bnd {α β : Type} {x : α} {k : α → Option β} {Q : β → Prop} (h : ∀ v, v = x → Ok (k v) Q) : Ok (m_bnd x k) Q := h x rfl
theorem ok_chk {β : Type} {c : Prop} [Decidable c] {k : Option β} {Q : β → Prop} (hc : c) (h : Ok k Q) : Ok (m_chk c k) Q := by
  have e : m_chk c k = k := if_pos hc
  rw [e]; exact h
theorem ok_ifT {β : Type} {c : Prop} [Decidable c] {a b : Option β} {Q : β → Prop} (hc : c) (h : Ok a Q) : Ok (m_if c a b) Q := by
  have e : m_if c a b = a := if_pos hc
  rw [e]; exact h
theorem ok_ifF {β : Type} {c : Prop} [Decidable c] {a b : Option β} {Q : β → Prop} (hc : ¬ c) (h : Ok b Q) : Ok (m_if c a b) Q := by
  have e : m_if c a b = b := if_neg hc
  rw [e]; exact h
theorem ok_if {β : Type} {c : Prop} [Decidable c] {a b : Option β} {Q : β → Prop} (h1 : c → Ok a Q) (h2 : ¬ c → Ok b Q) : Ok (m_if c a b) Q := by
  by_cases hc : c
  · exact ok_ifT hc (h1 hc)
  · exact ok_ifF hc (h2 hc)
theorem ok_cl {γ : Type} {e : Option (Int32 × MS)} {k : Int32 → (Nat → Int32) → (Nat → Nat → Int32) → Option γ} {Q : γ → Prop} {o : Int32 × MS} (he : e = some o) (h : Ok (k o.1 o.2.1 o.2.2) Q) : Ok (m_cl e k) Q := by
  rw [he]; exact h
theorem ok_clR {γ : Type} {e : Option (Int32 × MS)} {k : Int32 → (Nat → Int32) → (Nat → Nat → Int32) → Option γ} {Q : γ → Prop} {r : Int32} {I : Nat → Int32} {A : Nat → Nat → Int32} (he : e = some (r, (I, A))) (h : Ok (k r I A) Q) : Ok (m_cl e k) Q := by
  rw [he]; exact h
theorem ro {e : Option (Int32 × MS)} {I : Nat → Int32} {A : Nat → Nat → Int32} {R : Int32 × MS → Prop} (h : Ok e (fun o => o.2 = (I, A) ∧ R o)) : ∃ r, e = some (r, (I, A)) ∧ R (r, (I, A)) := by
  obtain ⟨⟨r, st⟩, h1, h2, h3⟩ := h
  cases h2
  exact ⟨r, h1, h3⟩
theorem ok_mono {α : Type} {x : Option α} {Q Q' : α → Prop} (h : Ok x Q) (hq : ∀ r, Q r → Q' r) : Ok x Q' := by
  obtain ⟨r, h1, h2⟩ := h
  exact ⟨r, h1, hq r h2⟩
theorem ti_bm {z : Int} (h1 : -2147483648 ≤ z) (h2 : z ≤ 2147483647) : z.bmod (2 ^ 32) = z := by
  rw [Int.bmod_def]
  have e : ((2 ^ 32 : Nat) : Int) = 4294967296 := by decide
  rw [e]
  split <;> omega
theorem ti_add {a b c : Int32} {x y : Int} (e : c = a + b) (ha : a.toInt = x) (hb : b.toInt = y) (h1 : -2147483648 ≤ x + y) (h2 : x + y ≤ 2147483647) : c.toInt = x + y := by
  rw [e, Int32.toInt_add, ha, hb]; exact ti_bm h1 h2
theorem ti_sub {a b c : Int32} {x y : Int} (e : c = a - b) (ha : a.toInt = x) (hb : b.toInt = y) (h1 : -2147483648 ≤ x - y) (h2 : x - y ≤ 2147483647) : c.toInt = x - y := by
  rw [e, Int32.toInt_sub, ha, hb]; exact ti_bm h1 h2
theorem ti_mul {a b c : Int32} {x y : Int} (e : c = a * b) (ha : a.toInt = x) (hb : b.toInt = y) (h1 : -2147483648 ≤ x * y) (h2 : x * y ≤ 2147483647) : c.toInt = x * y := by
  rw [e, Int32.toInt_mul, ha, hb]; exact ti_bm h1 h2
theorem ti_neg {a c : Int32} {x : Int} (e : c = -a) (ha : a.toInt = x) (h1 : -2147483648 < x) : c.toInt = -x := by
  have h2 : x ≤ 2147483647 := by rw [← ha]; exact Int32.toInt_le a
  rw [e, Int32.toInt_neg, ha]; exact ti_bm (by omega) (by omega)
theorem ti_div {a b c : Int32} {x y : Int} (e : c = a / b) (ha : a.toInt = x) (hb : b.toInt = y) (h1 : 0 ≤ x) (h2 : 0 < y) : c.toInt = x / y := by
  have h3 : x ≤ 2147483647 := by rw [← ha]; exact Int32.toInt_le a
  rw [e, Int32.toInt_div, ha, hb, Int.tdiv_eq_ediv_of_nonneg h1]
  have h4 : x / y ≤ x := Int.ediv_le_self _ h1
  have h5 : 0 ≤ x / y := Int.ediv_nonneg h1 (Int.le_of_lt h2)
  exact ti_bm (by omega) (by omega)
theorem ti_rem {a b c : Int32} {x y : Int} (e : c = a - a / b * b) (ha : a.toInt = x) (hb : b.toInt = y) (h1 : 0 ≤ x) (h2 : 0 < y) : c.toInt = x % y := by
  have h3 : x ≤ 2147483647 := by rw [← ha]; exact Int32.toInt_le a
  have h4 := ti_div (c := a / b) rfl ha hb h1 h2
  have h5 : x / y * y ≤ x := Int.ediv_mul_le x (Int.ne_of_gt h2)
  have h6 : 0 ≤ x / y * y := Int.mul_nonneg (Int.ediv_nonneg h1 (Int.le_of_lt h2)) (Int.le_of_lt h2)
  have h7 := ti_mul (c := a / b * b) rfl h4 hb (by omega) (by omega)
  rw [ti_sub e ha h7 (by omega) (by omega)]
  rw [Int.emod_def, Int.mul_comm y]
theorem ti_in {v : Int32} {n : Nat} (h1 : 0 ≤ v.toInt) (h2 : v.toInt < n) : ¬ (v < 0 ∨ n ≤ v.toNatClampNeg) := by
  intro h
  cases h with
  | inl h => rw [Int32.lt_iff_toInt_lt] at h; have e : (0 : Int32).toInt = 0 := rfl; omega
  | inr h => have e : v.toNatClampNeg = v.toInt.toNat := rfl; omega
theorem ti_nc {a : Int32} (h : 0 ≤ a.toInt) : (a.toNatClampNeg : Int) = a.toInt := by
  have e : a.toNatClampNeg = a.toInt.toNat := rfl
  omega
theorem ti_leP {a b : Int32} {x y : Int} (h : a ≤ b) (ha : a.toInt = x) (hb : b.toInt = y) : x ≤ y := by
  rw [Int32.le_iff_toInt_le, ha, hb] at h; exact h
theorem ti_leN {a b : Int32} {x y : Int} (h : ¬ a ≤ b) (ha : a.toInt = x) (hb : b.toInt = y) : y < x := by
  rw [Int32.le_iff_toInt_le, ha, hb] at h; omega
theorem ti_ltP {a b : Int32} {x y : Int} (h : a < b) (ha : a.toInt = x) (hb : b.toInt = y) : x < y := by
  rw [Int32.lt_iff_toInt_lt, ha, hb] at h; exact h
theorem ti_ltN {a b : Int32} {x y : Int} (h : ¬ a < b) (ha : a.toInt = x) (hb : b.toInt = y) : y ≤ x := by
  rw [Int32.lt_iff_toInt_lt, ha, hb] at h; omega
theorem ti_eqP {a b : Int32} {x y : Int} (h : a = b) (ha : a.toInt = x) (hb : b.toInt = y) : x = y := by
  rw [← ha, ← hb, h]
theorem ti_eqN {a b : Int32} {x y : Int} (h : ¬ a = b) (ha : a.toInt = x) (hb : b.toInt = y) : x ≠ y := by
  intro e; rw [← ha, ← hb] at e; exact h (Int32.toInt_inj.mp e)
theorem ti_and {a m c : Int32} {n : Nat} (e : c = a &&& m) (hm : m.toBitVec.toNat = n) (hn : n < 2147483648) : 0 ≤ c.toInt ∧ c.toInt ≤ (n : Int) := by
  have h1 : c.toBitVec.toNat ≤ n := by
    rw [e]
    have : (a &&& m).toBitVec = a.toBitVec &&& m.toBitVec := rfl
    rw [this, BitVec.toNat_and, hm]
    exact Nat.and_le_right
  have h2 : c.toInt = c.toBitVec.toInt := rfl
  rw [h2, BitVec.toInt_eq_toNat_of_lt (by omega)]
  omega
theorem ti_sq {a c : Int32} (e : c = a * a) (h1 : -7 ≤ a.toInt) (h2 : a.toInt ≤ 7) : (a.toInt = 0 ∧ c.toInt = 0) ∨ ((a.toInt = 1 ∨ a.toInt = -1) ∧ c.toInt = 1) ∨ ((a.toInt = 2 ∨ a.toInt = -2) ∧ c.toInt = 4) ∨ ((2 < a.toInt ∨ a.toInt < -2) ∧ 9 ≤ c.toInt ∧ c.toInt ≤ 49) := by
  have key : ∀ z : Int, -7 ≤ z → z ≤ 7 → z * z ≤ 49 ∧ 0 ≤ z * z ∧ ((z = 0 ∧ z * z = 0) ∨ ((z = 1 ∨ z = -1) ∧ z * z = 1) ∨ ((z = 2 ∨ z = -2) ∧ z * z = 4) ∨ ((2 < z ∨ z < -2) ∧ 9 ≤ z * z ∧ z * z ≤ 49)) := by
    intro z a b
    have : z = -7 ∨ z = -6 ∨ z = -5 ∨ z = -4 ∨ z = -3 ∨ z = -2 ∨ z = -1 ∨ z = 0 ∨ z = 1 ∨ z = 2 ∨ z = 3 ∨ z = 4 ∨ z = 5 ∨ z = 6 ∨ z = 7 := by omega
    rcases this with h | h | h | h | h | h | h | h | h | h | h | h | h | h | h <;> subst h <;> decide
  obtain ⟨k1, k2, k3⟩ := key a.toInt h1 h2
  rw [ti_mul e rfl rfl (by omega) (by omega)]
  exact k3
theorem nar_b {v : Int32} (h1 : 0 ≤ v.toInt) (h2 : v.toInt ≤ 1) : vp_nar .boolean v = v := by
  have h : v = 0 ∨ v = 1 := by
    by_cases e : v.toInt = 0
    · exact Or.inl (Int32.toInt_inj.mp e)
    · exact Or.inr (Int32.toInt_inj.mp (show v.toInt = 1 by omega))
  rcases h with h | h <;> subst h <;> decide
noncomputable def tB (k : Nat) : Int × Int := if k = 0 then (0, 2) else if k = 1 then (0, 2000) else if k = 3 then (0, 80000) else if k = 5 then (0, 1) else if k = 6 then (0, 300) else if k = 25 then (0, 1) else if k = 29 then (-1, 2000) else if k = 33 then (0, 2048) else if k = 36 then (0, 16) else if k = 37 then (0, 2100) else if k = 38 then (0, 4000) else if k = 39 then (0, 1536) else (-2147483648, 2147483647)
noncomputable def tF : Int × Int := (-2147483648, 2147483647)
noncomputable def tC (j i : Nat) : Int × Int := if j = 2 then (0, 65535) else if j = 4 then (0, 65535) else if j = 7 then (0, 300) else if j = 8 then (-1, 300) else if j = 9 then (-1, 24575) else if j = 10 then (-1, 300) else if j = 11 then (-1, 300) else if j = 12 then (0, 4) else if j = 13 then (0, 255) else if j = 14 then (0, 200) else if j = 15 then (0, 65535) else if j = 17 then (if i % 5 = 0 then (0, 1) else if i % 5 = 4 then (0, 999) else tF) else if j = 18 then (0, 8) else if j = 19 then (0, 12) else if j = 20 then (0, 65535) else if j = 21 then (0, 96) else if j = 22 then (0, 65535) else if j = 23 then (-1, 3) else if j = 31 then (if i = 0 then (0, 1) else if i = 4 then (-1, 2000) else tF) else if j = 32 then (0, 24575) else if j = 34 then (0, 300) else if j = 35 then (0, 65535) else tF
noncomputable def TJ (I : Nat → Int32) : Prop := ∀ k, (tB k).1 ≤ (I k).toInt ∧ (I k).toInt ≤ (tB k).2
noncomputable def TK (A : Nat → Nat → Int32) : Prop := ∀ j i, (tC j i).1 ≤ (A j i).toInt ∧ (A j i).toInt ≤ (tC j i).2
theorem tf_b (v : Int32) : tF.1 ≤ v.toInt ∧ v.toInt ≤ tF.2 := ⟨Int32.le_toInt v, Int32.toInt_le v⟩
theorem tj_u {I : Nat → Int32} {k : Nat} {v : Int32} (h : TJ I) (h1 : (tB k).1 ≤ v.toInt) (h2 : v.toInt ≤ (tB k).2) : TJ (upd I k v) := by
  intro i
  by_cases e : i = k
  · have : upd I k v i = v := if_pos e
    rw [this, e]; exact ⟨h1, h2⟩
  · have : upd I k v i = I i := if_neg e
    rw [this]; exact h i
theorem tj_w {I : Nat → Int32} {k : Nat} {v : Int32} (h : TJ I) (hk : tB k = tF) : TJ (upd I k v) := tj_u h (by rw [hk]; exact (tf_b v).1) (by rw [hk]; exact (tf_b v).2)
theorem tk_x {A : Nat → Nat → Int32} {j : Nat} {f : Nat → Int32} (h : TK A) (h1 : ∀ i, (tC j i).1 ≤ (f i).toInt ∧ (f i).toInt ≤ (tC j i).2) : TK (va_up A j f) := by
  intro j' i
  by_cases e : j' = j
  · have : va_up A j f j' = f := by rw [e]; exact va_up_self _ _ _
    rw [this, e]; exact h1 i
  · rw [va_up_ne _ _ e]; exact h j' i
theorem tk_i {A : Nat → Nat → Int32} {j i0 : Nat} {v : Int32} (h : TK A) (h1 : (tC j i0).1 ≤ v.toInt ∧ v.toInt ≤ (tC j i0).2) : TK (va_up A j (upd (A j) i0 v)) := tk_x h (fun i => by
  by_cases e : i = i0
  · have : upd (A j) i0 v i = v := if_pos e
    rw [this, e]; exact h1
  · have : upd (A j) i0 v i = A j i := if_neg e
    rw [this]; exact h j i)
theorem tk_u {A : Nat → Nat → Int32} {j i0 : Nat} {v : Int32} (h : TK A) (h1 : (tC j i0).1 ≤ v.toInt) (h2 : v.toInt ≤ (tC j i0).2) : TK (va_up A j (upd (A j) i0 v)) := tk_i h ⟨h1, h2⟩
theorem tk_w {A : Nat → Nat → Int32} {j i0 : Nat} {v : Int32} (h : TK A) (hj : tC j i0 = tF) : TK (va_up A j (upd (A j) i0 v)) := tk_i h (by rw [hj]; exact tf_b v)
theorem nar_rg (v : Int32) : 0 ≤ (vp_nar .char v).toInt ∧ (vp_nar .char v).toInt ≤ 65535 := by
  have e : vp_nar .char v = (v.toUInt32 % 65536).toInt32 := rfl
  rw [e]
  generalize hu : v.toUInt32 % 65536 = u
  have h1 : u.toNat < 65536 := by rw [← hu, UInt32.toNat_mod]; exact Nat.mod_lt _ (by decide)
  have h3 : u.toBitVec.toNat = u.toNat := rfl
  have h2 : u.toInt32.toInt = u.toBitVec.toInt := rfl
  rw [h2, BitVec.toInt_eq_toNat_of_lt (by omega)]
  omega
theorem nar_c {v : Int32} (h1 : 0 ≤ v.toInt) (h2 : v.toInt ≤ 65535) : vp_nar .char v = v := by
  have e : vp_nar .char v = (v.toUInt32 % 65536).toInt32 := rfl
  rw [e]
  have h3 : v.toInt = v.toBitVec.toInt := rfl
  have h4 : v.toBitVec.toNat < 65536 := by
    have h5 := BitVec.toInt_eq_toNat_bmod v.toBitVec
    rw [← h3, Int.bmod_def] at h5
    have h6 := v.toBitVec.isLt
    split at h5 <;> omega
  have h7 : v.toUInt32 % 65536 = v.toUInt32 := by
    apply UInt32.toNat_inj.mp
    rw [UInt32.toNat_mod]
    exact Nat.mod_eq_of_lt h4
  rw [h7]
  rfl
theorem nar_ci {v : Int32} {x : Int} (e : v.toInt = x) (h1 : 0 ≤ x) (h2 : x ≤ 65535) : (vp_nar .char v).toInt = x := by
  rw [nar_c (by omega) (by omega), e]
theorem nar_cb {c v : Int32} (e : c = vp_nar .char v) : 0 ≤ c.toInt ∧ c.toInt ≤ 65535 := by
  rw [e]; exact nar_rg v
theorem tk_n {A : Nat → Nat → Int32} {j i0 : Nat} {v : Int32} (h : TK A) (hj : tC j i0 = (0, 65535)) : TK (va_up A j (upd (A j) i0 (vp_nar .char v))) := tk_i h (by rw [hj]; exact nar_cb rfl)
theorem tk_17 {A : Nat → Nat → Int32} {i0 : Nat} {v : Int32} (h : TK A) (h0 : i0 % 5 = 0 → 0 ≤ v.toInt ∧ v.toInt ≤ 1) (h4 : i0 % 5 = 4 → 0 ≤ v.toInt ∧ v.toInt ≤ 999) : TK (va_up A 17 (upd (A 17) i0 v)) := tk_i h (by
  by_cases e0 : i0 % 5 = 0
  · have : tC 17 i0 = (0, 1) := by show (if i0 % 5 = 0 then _ else _) = _; rw [if_pos e0]
    rw [this]; exact h0 e0
  · by_cases e4 : i0 % 5 = 4
    · have : tC 17 i0 = (0, 999) := by show (if i0 % 5 = 0 then _ else _) = _; rw [if_neg e0, if_pos e4]
      rw [this]; exact h4 e4
    · have : tC 17 i0 = tF := by show (if i0 % 5 = 0 then _ else _) = _; rw [if_neg e0, if_neg e4]
      rw [this]; exact tf_b v)
theorem tA_17 {A : Nat → Nat → Int32} (h : TK A) (i : Nat) : (i % 5 = 0 → 0 ≤ (A 17 i).toInt ∧ (A 17 i).toInt ≤ 1) ∧ (i % 5 = 4 → 0 ≤ (A 17 i).toInt ∧ (A 17 i).toInt ≤ 999) := by
  have h1 := h 17 i
  refine ⟨fun e0 => ?_, fun e4 => ?_⟩
  · have : tC 17 i = (0, 1) := by show (if i % 5 = 0 then _ else _) = _; rw [if_pos e0]
    rw [this] at h1; exact h1
  · have : tC 17 i = (0, 999) := by show (if i % 5 = 0 then _ else _) = _; rw [if_neg (by omega), if_pos e4]
    rw [this] at h1; exact h1
theorem tA_31 {A : Nat → Nat → Int32} (h : TK A) (i : Nat) : (i = 0 → 0 ≤ (A 31 i).toInt ∧ (A 31 i).toInt ≤ 1) ∧ (i = 4 → -1 ≤ (A 31 i).toInt ∧ (A 31 i).toInt ≤ 2000) := by
  have h1 := h 31 i
  refine ⟨fun e0 => ?_, fun e4 => ?_⟩
  · subst e0; exact h1
  · subst e4; exact h1
theorem tk_nA {I : Nat → Int32} {A : Nat → Nat → Int32} (hI : TJ I) (hA : TK A) : TK (nA I A) := by
  unfold nA
  refine tk_x (tk_x hA (fun i => tf_b _)) (fun i => ?_)
  by_cases e0 : i = 0
  · subst e0; exact hI 25
  · by_cases e4 : i = 4
    · subst e4; exact hI 29
    · have : tC 31 i = tF := by show (if i = 0 then _ else _) = _; rw [if_neg e0, if_neg e4]
      rw [this]; exact tf_b _
theorem tj_nB {I : Nat → Int32} {A : Nat → Nat → Int32} (hI : TJ I) (hA : TK A) : TJ (nB I A) := by
  intro k
  by_cases e25 : k = 25
  · subst e25; exact hA 31 0
  · by_cases e29 : k = 29
    · subst e29; exact hA 31 4
    · by_cases e : k = 26 ∨ k = 27 ∨ k = 28
      · have : tB k = tF := by rcases e with e | e | e <;> subst e <;> rfl
        rw [this]; exact tf_b _
      · have : nB I A k = I k := nB_o (by simp; omega)
        rw [this]; exact hI k
theorem tk_bb {A : Nat → Nat → Int32} (hA : TK A) : TK (va_up A 24 (A 30)) := tk_x hA (fun i => tf_b _)
theorem tI_0 {I : Nat → Int32} (h : TJ I) : (0 : Int) ≤ (I 0).toInt ∧ (I 0).toInt ≤ (2 : Int) := h 0
theorem tI_1 {I : Nat → Int32} (h : TJ I) : (0 : Int) ≤ (I 1).toInt ∧ (I 1).toInt ≤ (2000 : Int) := h 1
theorem tI_3 {I : Nat → Int32} (h : TJ I) : (0 : Int) ≤ (I 3).toInt ∧ (I 3).toInt ≤ (80000 : Int) := h 3
theorem tI_5 {I : Nat → Int32} (h : TJ I) : (0 : Int) ≤ (I 5).toInt ∧ (I 5).toInt ≤ (1 : Int) := h 5
theorem tI_6 {I : Nat → Int32} (h : TJ I) : (0 : Int) ≤ (I 6).toInt ∧ (I 6).toInt ≤ (300 : Int) := h 6
theorem tI_25 {I : Nat → Int32} (h : TJ I) : (0 : Int) ≤ (I 25).toInt ∧ (I 25).toInt ≤ (1 : Int) := h 25
theorem tI_29 {I : Nat → Int32} (h : TJ I) : (-1 : Int) ≤ (I 29).toInt ∧ (I 29).toInt ≤ (2000 : Int) := h 29
theorem tI_33 {I : Nat → Int32} (h : TJ I) : (0 : Int) ≤ (I 33).toInt ∧ (I 33).toInt ≤ (2048 : Int) := h 33
theorem tI_36 {I : Nat → Int32} (h : TJ I) : (0 : Int) ≤ (I 36).toInt ∧ (I 36).toInt ≤ (16 : Int) := h 36
theorem tI_37 {I : Nat → Int32} (h : TJ I) : (0 : Int) ≤ (I 37).toInt ∧ (I 37).toInt ≤ (2100 : Int) := h 37
theorem tI_38 {I : Nat → Int32} (h : TJ I) : (0 : Int) ≤ (I 38).toInt ∧ (I 38).toInt ≤ (4000 : Int) := h 38
theorem tI_39 {I : Nat → Int32} (h : TJ I) : (0 : Int) ≤ (I 39).toInt ∧ (I 39).toInt ≤ (1536 : Int) := h 39
theorem tA_2 {A : Nat → Nat → Int32} (h : TK A) (i : Nat) : (0 : Int) ≤ (A 2 i).toInt ∧ (A 2 i).toInt ≤ (65535 : Int) := h 2 i
theorem tA_4 {A : Nat → Nat → Int32} (h : TK A) (i : Nat) : (0 : Int) ≤ (A 4 i).toInt ∧ (A 4 i).toInt ≤ (65535 : Int) := h 4 i
theorem tA_15 {A : Nat → Nat → Int32} (h : TK A) (i : Nat) : (0 : Int) ≤ (A 15 i).toInt ∧ (A 15 i).toInt ≤ (65535 : Int) := h 15 i
theorem tA_20 {A : Nat → Nat → Int32} (h : TK A) (i : Nat) : (0 : Int) ≤ (A 20 i).toInt ∧ (A 20 i).toInt ≤ (65535 : Int) := h 20 i
theorem tA_22 {A : Nat → Nat → Int32} (h : TK A) (i : Nat) : (0 : Int) ≤ (A 22 i).toInt ∧ (A 22 i).toInt ≤ (65535 : Int) := h 22 i
theorem tA_35 {A : Nat → Nat → Int32} (h : TK A) (i : Nat) : (0 : Int) ≤ (A 35 i).toInt ∧ (A 35 i).toInt ≤ (65535 : Int) := h 35 i
theorem tA_7 {A : Nat → Nat → Int32} (h : TK A) (i : Nat) : (0 : Int) ≤ (A 7 i).toInt ∧ (A 7 i).toInt ≤ (300 : Int) := h 7 i
theorem tA_8 {A : Nat → Nat → Int32} (h : TK A) (i : Nat) : (-1 : Int) ≤ (A 8 i).toInt ∧ (A 8 i).toInt ≤ (300 : Int) := h 8 i
theorem tA_9 {A : Nat → Nat → Int32} (h : TK A) (i : Nat) : (-1 : Int) ≤ (A 9 i).toInt ∧ (A 9 i).toInt ≤ (24575 : Int) := h 9 i
theorem tA_10 {A : Nat → Nat → Int32} (h : TK A) (i : Nat) : (-1 : Int) ≤ (A 10 i).toInt ∧ (A 10 i).toInt ≤ (300 : Int) := h 10 i
theorem tA_11 {A : Nat → Nat → Int32} (h : TK A) (i : Nat) : (-1 : Int) ≤ (A 11 i).toInt ∧ (A 11 i).toInt ≤ (300 : Int) := h 11 i
theorem tA_12 {A : Nat → Nat → Int32} (h : TK A) (i : Nat) : (0 : Int) ≤ (A 12 i).toInt ∧ (A 12 i).toInt ≤ (4 : Int) := h 12 i
theorem tA_13 {A : Nat → Nat → Int32} (h : TK A) (i : Nat) : (0 : Int) ≤ (A 13 i).toInt ∧ (A 13 i).toInt ≤ (255 : Int) := h 13 i
theorem tA_14 {A : Nat → Nat → Int32} (h : TK A) (i : Nat) : (0 : Int) ≤ (A 14 i).toInt ∧ (A 14 i).toInt ≤ (200 : Int) := h 14 i
theorem tA_18 {A : Nat → Nat → Int32} (h : TK A) (i : Nat) : (0 : Int) ≤ (A 18 i).toInt ∧ (A 18 i).toInt ≤ (8 : Int) := h 18 i
theorem tA_19 {A : Nat → Nat → Int32} (h : TK A) (i : Nat) : (0 : Int) ≤ (A 19 i).toInt ∧ (A 19 i).toInt ≤ (12 : Int) := h 19 i
theorem tA_21 {A : Nat → Nat → Int32} (h : TK A) (i : Nat) : (0 : Int) ≤ (A 21 i).toInt ∧ (A 21 i).toInt ≤ (96 : Int) := h 21 i
theorem tA_23 {A : Nat → Nat → Int32} (h : TK A) (i : Nat) : (-1 : Int) ≤ (A 23 i).toInt ∧ (A 23 i).toInt ≤ (3 : Int) := h 23 i
theorem tA_32 {A : Nat → Nat → Int32} (h : TK A) (i : Nat) : (0 : Int) ≤ (A 32 i).toInt ∧ (A 32 i).toInt ≤ (24575 : Int) := h 32 i
theorem tA_34 {A : Nat → Nat → Int32} (h : TK A) (i : Nat) : (0 : Int) ≤ (A 34 i).toInt ∧ (A 34 i).toInt ≤ (300 : Int) := h 34 i
end
