section
set_option maxRecDepth 20000 in
theorem ggL_law_L_remark : GoodIn wsL_law wsL_remark := goodIn_sub (List.forall_mem_cons.mpr ⟨lm_52 _ (List.mem_of_getElem? (i := 10) rfl), (inA (inA (inA (inA (inA (inA (inR3 wsL_remark_r1 [(49, 20), (51, 11), (51, 12), (51, 13), (0, 2), (51, 14), (50, 1), (50, 2), (1, 18), (50, 7), (50, 8), (50, 9), (50, 10), (1, 17), (50, 11), (5, 4), (44, 4), (26, 6), (26, 7), (26, 8), (5, 3), (5, 2), (12, 11), (12, 12)] rfl) (inR3 wsL_remark_r2 [(12, 13), (0, 16), (12, 14), (2, 5), (49, 3), (15, 4), (15, 5), (15, 6), (2, 4)] rfl)) inlX11) inlX4) inlX1) inlX6) lx_169)⟩) (by decide +kernel)
set_option maxRecDepth 20000 in
theorem gL_law_L_remark : GoodIn wsL_law (va_wsS RL 108 yL_remark wsL_remark) := goodIn_app (goodIn_sub (inR3 _ [(51, 8), (51, 9), (48, 0)] rfl) (by decide +kernel)) ggL_law_L_remark
set_option maxRecDepth 20000 in
theorem ggL_law_X12_remark : GoodIn wsL_law wsX12_remark := goodIn_sub (List.forall_mem_cons.mpr ⟨lm_52 _ (List.mem_of_getElem? (i := 18) rfl), (inA (inR3 _ [(7, 11), (35, 10), (13, 7), (7, 13), (50, 16), (50, 17), (50, 18), (0, 5), (50, 19), (7, 4)] rfl) inlX12)⟩) (by decide +kernel)
set_option maxRecDepth 20000 in
theorem gL_law_X12_remark : GoodIn wsL_law (wsV RL 110 RX12 yX12_remark wsX12_remark) := goodIn_app (goodIn_sub (inR3 _ [(51, 15), (51, 16), (51, 17), (0, 5)] rfl) (by decide +kernel)) ggL_law_X12_remark
set_option maxRecDepth 20000 in
theorem ggL_law_X11_here : GoodIn wsL_law wsX11_here := goodIn_sub (List.forall_mem_cons.mpr ⟨lm_52 _ (List.mem_of_getElem? (i := 22) rfl), (inA (inR3 _ [(1, 19)] rfl) inlX11)⟩) (by decide +kernel)
set_option maxRecDepth 20000 in
theorem gL_law_X11_here : GoodIn wsL_law (wsV RL 111 RX11 yX11_here wsX11_here) := goodIn_app (goodIn_sub (inR3 _ [(51, 19), (51, 20), (51, 21), (0, 2)] rfl) (by decide +kernel)) ggL_law_X11_here
set_option maxRecDepth 20000 in
theorem ggL_law_X12_here : GoodIn wsL_law wsX12_here := goodIn_sub (List.forall_mem_cons.mpr ⟨lm_53 _ (List.mem_of_getElem? (i := 2) rfl), (inA (inR3 _ [(13, 7), (35, 11)] rfl) inlX12)⟩) (by decide +kernel)
set_option maxRecDepth 20000 in
theorem gL_law_X12_here : GoodIn wsL_law (wsV RL 114 RX12 yX12_here wsX12_here) := goodIn_app (goodIn_sub (inR3 _ [(51, 23), (52, 0), (52, 1), (0, 5)] rfl) (by decide +kernel)) ggL_law_X12_here
set_option maxRecDepth 20000 in
theorem ggL_law_L_go : GoodIn wsL_law wsL_go := goodIn_sub (List.forall_mem_cons.mpr ⟨lm_53 _ (List.mem_of_getElem? (i := 5) rfl), (inA (inA (inA (inA (inA (inA (inR3 wsL_go_r1 [(49, 20), (52, 6), (52, 7), (52, 8), (0, 2), (52, 9), (50, 1), (50, 2), (1, 18), (1, 19), (1, 23), (50, 8), (50, 9), (50, 10), (1, 17), (50, 11), (5, 4), (34, 23), (35, 0), (35, 1), (35, 2), (5, 9), (33, 4), (35, 3)] rfl) (inA (inR3 wsL_go_r2 [(4, 22), (33, 6), (26, 6), (26, 7), (26, 8), (5, 3), (5, 2), (35, 4), (27, 11), (27, 12), (1, 22), (27, 13), (2, 16), (27, 14), (13, 0), (13, 1), (13, 2), (2, 17), (2, 18), (2, 19), (2, 20), (2, 21), (2, 22), (35, 5)] rfl) (inR3 wsL_go_r3 [(32, 5), (32, 6), (32, 7), (31, 2), (24, 14), (24, 15), (24, 16), (31, 15), (30, 14), (30, 15), (30, 16), (6, 6), (6, 7), (6, 8), (6, 9), (32, 8), (32, 9), (32, 10), (32, 11), (25, 12), (25, 13), (25, 14)] rfl))) inlX11) inlX1) inlX4) inlX0) lx_169)⟩) (by decide +kernel)
set_option maxRecDepth 20000 in
theorem gL_law_L_go : GoodIn wsL_law (va_wsS RL 115 yL_go wsL_go) := goodIn_app (goodIn_sub (inR3 _ [(52, 3), (52, 4), (48, 0)] rfl) (by decide +kernel)) ggL_law_L_go
set_option maxRecDepth 20000 in
theorem ggL_law_X12_go : GoodIn wsL_law wsX12_go := goodIn_sub (List.forall_mem_cons.mpr ⟨lm_53 _ (List.mem_of_getElem? (i := 13) rfl), (inA (inA (inR3 wsX12_go_r1 [(13, 7), (35, 11), (35, 10), (50, 16), (50, 17), (50, 18), (0, 5), (50, 19), (7, 4), (9, 1), (9, 2), (9, 3), (9, 4), (8, 2), (7, 5), (7, 22), (7, 14), (7, 15), (8, 16), (8, 17), (8, 18), (8, 19), (8, 20), (7, 6)] rfl) (inA (inR3 wsX12_go_r2 [(9, 5), (9, 6), (9, 7), (9, 8), (9, 9), (9, 10), (9, 11), (9, 12), (9, 13), (9, 14), (9, 15), (9, 16), (9, 17), (9, 18), (9, 19), (9, 20), (9, 21), (9, 22), (9, 23), (10, 0), (10, 1), (10, 2), (10, 3), (10, 4)] rfl) (inA (inR3 wsX12_go_r3 [(10, 5), (10, 6), (10, 7), (8, 1), (10, 8), (10, 9), (10, 10), (10, 11), (10, 12), (10, 13), (10, 14), (10, 15), (10, 16), (10, 17), (10, 18), (10, 19), (10, 20), (10, 21), (10, 22), (10, 23), (11, 0), (11, 1), (11, 2), (11, 3)] rfl) (inA (inR3 wsX12_go_r4 [(11, 4), (11, 5), (11, 6), (11, 7), (11, 8), (11, 9), (11, 10), (11, 11), (11, 12), (11, 13), (11, 14), (11, 15), (11, 16), (11, 17), (11, 18), (7, 23), (8, 0), (11, 19), (11, 20), (11, 21), (11, 22), (11, 23), (12, 0), (12, 1)] rfl) (inR3 wsX12_go_r5 [(12, 2), (12, 3), (12, 4), (12, 5), (12, 6)] rfl))))) inlX12)⟩) (by decide +kernel)
set_option maxRecDepth 20000 in
theorem gL_law_X12_go : GoodIn wsL_law (wsV RL 118 RX12 yX12_go wsX12_go) := goodIn_app (goodIn_sub (inR3 _ [(52, 10), (52, 11), (52, 12), (0, 5)] rfl) (by decide +kernel)) ggL_law_X12_go
set_option maxRecDepth 20000 in
theorem ggL_law_L_man : GoodIn wsL_law wsL_man := goodIn_sub (List.forall_mem_cons.mpr ⟨lm_53 _ (List.mem_of_getElem? (i := 16) rfl), (inA (inA (inA (inR3 _ [(49, 20), (52, 17), (52, 18), (52, 19), (0, 2), (52, 20), (50, 1), (50, 2), (1, 23), (52, 21)] rfl) inlX11) inlX0) lx_169)⟩) (by decide +kernel)
set_option maxRecDepth 20000 in
theorem gL_law_L_man : GoodIn wsL_law (va_wsS RL 119 yL_man wsL_man) := goodIn_app (goodIn_sub (inR3 _ [(52, 14), (52, 15), (48, 0)] rfl) (by decide +kernel)) ggL_law_L_man
set_option maxRecDepth 20000 in
theorem ggL_law_X12_man : GoodIn wsL_law wsX12_man := goodIn_sub (List.forall_mem_cons.mpr ⟨lm_54 _ (List.mem_of_getElem? (i := 1) rfl), (inA (inR3 _ [(13, 7), (7, 22)] rfl) inlX12)⟩) (by decide +kernel)
set_option maxRecDepth 20000 in
theorem gL_law_X12_man : GoodIn wsL_law (wsV RL 121 RX12 yX12_man wsX12_man) := goodIn_app (goodIn_sub (inR3 _ [(52, 22), (52, 23), (53, 0), (0, 5)] rfl) (by decide +kernel)) ggL_law_X12_man
set_option maxRecDepth 20000 in
theorem ggL_law_X11_move : GoodIn wsL_law wsX11_move := goodIn_sub (List.forall_mem_cons.mpr ⟨lm_54 _ (List.mem_of_getElem? (i := 5) rfl), (inA (inA (inA (inA (inR3 wsX11_move_r1 [(0, 22), (1, 23), (53, 6), (53, 7), (53, 8), (0, 21), (53, 9), (32, 17), (31, 8), (31, 9), (1, 22), (31, 10), (2, 16), (2, 19), (31, 2), (24, 14), (24, 15), (24, 16), (31, 11), (31, 12), (31, 13), (31, 14), (2, 21), (25, 1)] rfl) (inA (inR3 wsX11_move_r2 [(25, 2), (25, 3), (25, 4), (31, 15), (30, 14), (30, 15), (30, 16), (31, 16), (31, 17), (31, 18), (31, 19), (2, 20), (32, 18), (31, 21), (31, 22), (31, 23), (32, 0), (2, 10), (32, 1), (32, 2), (24, 22), (24, 23), (25, 0), (32, 3)] rfl) (inA (inR3 wsX11_move_r3 [(27, 11), (27, 12), (27, 13), (27, 14), (13, 0), (13, 1), (13, 2), (2, 17), (2, 18), (2, 22), (32, 4), (32, 5), (32, 6), (32, 7), (6, 6), (6, 7), (6, 8), (6, 9), (32, 8), (32, 9), (32, 10), (32, 11), (25, 12), (25, 13)] rfl) (inR3 wsX11_move_r4 [(25, 14), (32, 12), (24, 18), (24, 19), (24, 20), (48, 13), (31, 4), (31, 5), (31, 6)] rfl)))) inlX11) inlX0) inlX7)⟩) (by decide +kernel)
set_option maxRecDepth 20000 in
theorem gL_law_X11_move : GoodIn wsL_law (wsV RL 122 RX11 yX11_move wsX11_move) := goodIn_app (goodIn_sub (inR3 _ [(53, 2), (53, 3), (53, 4), (0, 2)] rfl) (by decide +kernel)) ggL_law_X11_move
set_option maxRecDepth 20000 in
theorem ggL_law_X12_move : GoodIn wsL_law wsX12_move := goodIn_sub (List.forall_mem_cons.mpr ⟨lm_54 _ (List.mem_of_getElem? (i := 13) rfl), (inA (inR3 _ [(13, 7), (10, 7), (8, 1)] rfl) inlX12)⟩) (by decide +kernel)
set_option maxRecDepth 20000 in
theorem gL_law_X12_move : GoodIn wsL_law (wsV RL 125 RX12 yX12_move wsX12_move) := goodIn_app (goodIn_sub (inR3 _ [(53, 10), (53, 11), (53, 12), (0, 5)] rfl) (by decide +kernel)) ggL_law_X12_move
set_option maxRecDepth 20000 in
theorem ggL_law_L_add : GoodIn wsL_law wsL_add := goodIn_sub (List.forall_mem_cons.mpr ⟨lm_54 _ (List.mem_of_getElem? (i := 16) rfl), (inA (inA (inA (inA (inA (inA (inA (inA (inA (inR3 wsL_add_r1 [(48, 2), (53, 17), (53, 18), (53, 19), (53, 20), (0, 2), (53, 21), (48, 7), (48, 8), (53, 22), (53, 23), (0, 22), (1, 23), (1, 18), (1, 19), (49, 12), (48, 9), (48, 10), (48, 11), (0, 21), (48, 12), (32, 17), (31, 8), (31, 9)] rfl) (inA (inR3 wsL_add_r2 [(1, 22), (31, 10), (2, 16), (2, 19), (31, 2), (24, 14), (24, 15), (24, 16), (31, 11), (31, 12), (31, 13), (31, 14), (2, 21), (25, 1), (25, 2), (25, 3), (25, 4), (31, 15), (30, 14), (30, 15), (30, 16), (31, 16), (31, 17), (31, 18)] rfl) (inA (inR3 wsL_add_r3 [(31, 19), (2, 20), (48, 13), (31, 4), (31, 5), (31, 6), (32, 18), (31, 21), (31, 22), (31, 23), (32, 0), (2, 10), (32, 1), (32, 2), (24, 22), (24, 23), (25, 0), (32, 3), (27, 11), (27, 12), (27, 13), (27, 14), (13, 0), (13, 1)] rfl) (inA (inR3 wsL_add_r4 [(13, 2), (2, 17), (2, 18), (2, 22), (32, 4), (32, 5), (32, 6), (32, 7), (6, 6), (6, 7), (6, 8), (6, 9), (32, 8), (32, 9), (32, 10), (32, 11), (25, 12), (25, 13), (25, 14), (32, 12), (24, 18), (24, 19), (24, 20), (54, 0)] rfl) (inA (inR3 wsL_add_r5 [(33, 0), (33, 1), (1, 17), (33, 2), (33, 3), (33, 4), (33, 5), (33, 6), (26, 6), (26, 7), (26, 8), (5, 4), (5, 3), (5, 2), (54, 1), (54, 2), (54, 3), (54, 4), (35, 3), (54, 5), (46, 3), (46, 4), (46, 5), (54, 6)] rfl) (inA (inR3 wsL_add_r6 [(33, 8), (33, 9), (33, 10), (4, 23), (5, 0), (5, 1), (5, 10), (5, 11), (5, 12), (0, 12), (0, 13), (5, 13), (5, 14), (5, 15), (5, 16), (5, 17), (5, 18), (5, 19), (0, 15), (0, 16), (5, 20), (2, 0), (2, 1), (2, 2)] rfl) (inR3 wsL_add_r7 [(2, 3), (2, 4), (2, 5), (14, 13), (14, 14), (14, 15), (14, 16), (14, 17), (13, 18), (13, 19), (13, 20), (54, 7)] rfl))))))) inlX11) inlX1) inlX0) inlX7) inlX4) inlX6) lx_148) lx_216)⟩) (by decide +kernel)
set_option maxRecDepth 20000 in
theorem gL_law_L_add : GoodIn wsL_law (va_wsS RL 126 yL_add wsL_add) := goodIn_app (goodIn_sub (inR3 _ [(53, 14), (53, 15), (48, 0)] rfl) (by decide +kernel)) ggL_law_L_add
set_option maxRecDepth 20000 in
theorem ggL_law_X12_add : GoodIn wsL_law wsX12_add := goodIn_sub (List.forall_mem_cons.mpr ⟨lm_55 _ (List.mem_of_getElem? (i := 11) rfl), (inA (inA (inR3 wsX12_add_r1 [(13, 7), (35, 10), (35, 11), (7, 7), (7, 4), (48, 19), (48, 20), (48, 21), (0, 5), (48, 22), (10, 7), (8, 1), (41, 7), (41, 8), (41, 9), (41, 10), (7, 6), (7, 8), (54, 12), (54, 13), (54, 14), (54, 15), (7, 5), (54, 16)] rfl) (inA (inR3 wsX12_add_r2 [(54, 17), (54, 18), (54, 19), (41, 11), (41, 12), (41, 13), (41, 14), (8, 8), (8, 9), (8, 10), (8, 11), (7, 9), (7, 11), (9, 1), (9, 2), (9, 3), (9, 4), (8, 2), (7, 22), (7, 14), (7, 15), (8, 16), (8, 17), (8, 18)] rfl) (inA (inR3 wsX12_add_r3 [(8, 19), (8, 20), (9, 5), (9, 6), (9, 7), (9, 8), (9, 9), (9, 10), (9, 11), (9, 12), (9, 13), (9, 14), (9, 15), (9, 16), (9, 17), (9, 18), (9, 19), (9, 20), (9, 21), (9, 22), (9, 23), (10, 0), (10, 1), (10, 2)] rfl) (inA (inR3 wsX12_add_r4 [(10, 3), (10, 4), (10, 5), (10, 6), (10, 8), (10, 9), (10, 10), (10, 11), (10, 12), (10, 13), (10, 14), (10, 15), (10, 16), (10, 17), (10, 18), (10, 19), (10, 20), (10, 21), (10, 22), (10, 23), (11, 0), (11, 1), (11, 2), (11, 3)] rfl) (inA (inR3 wsX12_add_r5 [(11, 4), (11, 5), (11, 6), (11, 7), (11, 8), (11, 9), (11, 10), (11, 11), (11, 12), (11, 13), (11, 14), (11, 15), (11, 16), (11, 17), (11, 18), (7, 23), (8, 0), (11, 19), (11, 20), (11, 21), (11, 22), (11, 23), (12, 0), (12, 1)] rfl) (inR3 wsX12_add_r6 [(12, 2), (12, 3), (12, 4), (12, 5), (12, 6)] rfl)))))) inlX12)⟩) (by decide +kernel)
set_option maxRecDepth 20000 in
theorem gL_law_X12_add : GoodIn wsL_law (wsV RL 128 RX12 yX12_add wsX12_add) := goodIn_app (goodIn_sub (inR3 _ [(54, 8), (54, 9), (54, 10), (0, 5)] rfl) (by decide +kernel)) ggL_law_X12_add
end
section
set_option maxRecDepth 20000 in
theorem ggL_law_L_addMark : GoodIn wsL_law wsL_addMark := goodIn_sub (List.forall_mem_cons.mpr ⟨lm_55 _ (List.mem_of_getElem? (i := 22) rfl), (inA (inA (inA (inA (inA (inA (inR3 wsL_addMark_r1 [(48, 2), (54, 23), (55, 0), (55, 1), (55, 2), (0, 2), (55, 3), (48, 7), (48, 8), (55, 4), (55, 5), (1, 18), (1, 19), (50, 6), (44, 4), (26, 6), (26, 7), (1, 17), (26, 8), (5, 4), (5, 3), (5, 2), (55, 6), (33, 20)] rfl) (inR3 wsL_addMark_r2 [(33, 21), (5, 1), (33, 22), (5, 18), (5, 17)] rfl)) inlX11) inlX4) inlX1) lx_148) lx_229)⟩) (by decide +kernel)
set_option maxRecDepth 20000 in
theorem gL_law_L_addMark : GoodIn wsL_law (va_wsS RL 129 yL_addMark wsL_addMark) := goodIn_app (goodIn_sub (inR3 _ [(54, 20), (54, 21), (48, 0)] rfl) (by decide +kernel)) ggL_law_L_addMark
set_option maxRecDepth 20000 in
theorem ggL_law_X12_addMark : GoodIn wsL_law wsX12_addMark := goodIn_sub (List.forall_mem_cons.mpr ⟨lm_56 _ (List.mem_of_getElem? (i := 10) rfl), (inA (inR3 _ [(35, 11), (7, 9), (35, 10), (13, 7), (41, 19), (41, 20), (41, 21), (0, 5), (41, 22), (7, 10)] rfl) inlX12)⟩) (by decide +kernel)
set_option maxRecDepth 20000 in
theorem gL_law_X12_addMark : GoodIn wsL_law (wsV RL 131 RX12 yX12_addMark wsX12_addMark) := goodIn_app (goodIn_sub (inR3 _ [(55, 7), (55, 8), (55, 9), (0, 5)] rfl) (by decide +kernel)) ggL_law_X12_addMark
set_option maxRecDepth 20000 in
theorem ggL_law_L_say : GoodIn wsL_law wsL_say := goodIn_sub (List.forall_mem_cons.mpr ⟨lm_56 _ (List.mem_of_getElem? (i := 13) rfl), (inA (inA (inA (inA (inA (inA (inR3 wsL_say_r1 [(48, 2), (55, 14), (55, 15), (55, 16), (0, 2), (55, 17), (48, 7), (48, 8), (0, 17), (1, 18), (1, 19), (50, 7), (12, 11), (12, 12), (12, 13), (0, 16), (12, 14), (2, 5), (55, 18), (26, 19), (26, 20), (26, 21), (26, 22), (20, 23)] rfl) (inA (inR3 wsL_say_r2 [(21, 0), (21, 1), (2, 4), (44, 4), (26, 6), (26, 7), (1, 17), (26, 8), (5, 4), (5, 3), (5, 2), (55, 19), (25, 21), (25, 22), (25, 23), (26, 0), (26, 1), (26, 2), (26, 3), (17, 4), (15, 4), (15, 5), (15, 6), (26, 4)] rfl) (inR3 wsL_say_r3 [(12, 20), (12, 21), (12, 22), (7, 0), (12, 23), (13, 0), (13, 1), (13, 2), (13, 17), (13, 18), (13, 19), (13, 20)] rfl))) inlX11) inlX4) inlX6) inlX1) lx_148)⟩) (by decide +kernel)
set_option maxRecDepth 20000 in
theorem gL_law_L_say : GoodIn wsL_law (va_wsS RL 132 yL_say wsL_say) := goodIn_app (goodIn_sub (inR3 _ [(55, 11), (55, 12), (48, 0)] rfl) (by decide +kernel)) ggL_law_L_say
set_option maxRecDepth 20000 in
theorem ggL_law_X12_say : GoodIn wsL_law wsX12_say := goodIn_sub (List.forall_mem_cons.mpr ⟨lm_56 _ (List.mem_of_getElem? (i := 23) rfl), (inA (inR3 _ [(13, 8), (7, 1), (13, 7), (35, 10), (35, 11), (7, 13), (7, 11)] rfl) inlX12)⟩) (by decide +kernel)
set_option maxRecDepth 20000 in
theorem gL_law_X12_say : GoodIn wsL_law (wsV RL 135 RX12 yX12_say wsX12_say) := goodIn_app (goodIn_sub (inR3 _ [(55, 20), (55, 21), (55, 22), (0, 5)] rfl) (by decide +kernel)) ggL_law_X12_say
set_option maxRecDepth 20000 in
theorem ggL_law_L_lead : GoodIn wsL_law wsL_lead := goodIn_sub (List.forall_mem_cons.mpr ⟨lm_57 _ (List.mem_of_getElem? (i := 2) rfl), (inA (inA (inA (inA (inA (inR3 wsL_lead_r1 [(54, 23), (56, 3), (56, 4), (56, 5), (0, 2), (56, 6), (55, 4), (55, 5), (1, 19), (1, 18), (56, 7), (46, 3), (46, 4), (1, 17), (46, 5), (35, 3), (33, 3), (33, 6), (26, 6), (26, 7), (26, 8), (5, 4), (5, 3), (5, 2)] rfl) (inR3 wsL_lead_r2 [(56, 8), (56, 9), (56, 10), (56, 11), (5, 9), (56, 12), (56, 13), (56, 14), (56, 15), (33, 5)] rfl)) inlX11) inlX4) inlX1) lx_229)⟩) (by decide +kernel)
set_option maxRecDepth 20000 in
theorem gL_law_L_lead : GoodIn wsL_law (va_wsS RL 136 yL_lead wsL_lead) := goodIn_app (goodIn_sub (inR3 _ [(56, 0), (56, 1), (48, 0)] rfl) (by decide +kernel)) ggL_law_L_lead
set_option maxRecDepth 20000 in
theorem ggL_law_X12_lead : GoodIn wsL_law wsX12_lead := goodIn_sub (List.forall_mem_cons.mpr ⟨lm_57 _ (List.mem_of_getElem? (i := 19) rfl), (inA (inR3 _ [(35, 11), (13, 7), (7, 5), (35, 10), (7, 7), (7, 4), (7, 8), (56, 20), (56, 21), (56, 22), (0, 5), (56, 23), (54, 12), (54, 13), (54, 14), (54, 15), (54, 16), (54, 17), (54, 18), (54, 19)] rfl) inlX12)⟩) (by decide +kernel)
set_option maxRecDepth 20000 in
theorem gL_law_X12_lead : GoodIn wsL_law (wsV RL 138 RX12 yX12_lead wsX12_lead) := goodIn_app (goodIn_sub (inR3 _ [(56, 16), (56, 17), (56, 18), (0, 5)] rfl) (by decide +kernel)) ggL_law_X12_lead
set_option maxRecDepth 20000 in
theorem ggL_law_L_end : GoodIn wsL_law wsL_end := goodIn_sub (List.forall_mem_cons.mpr ⟨lm_58 _ (List.mem_of_getElem? (i := 2) rfl), (inA (inA (inA (inR3 _ [(48, 2), (57, 3), (57, 4), (57, 5), (0, 2), (57, 6), (48, 7), (48, 8), (1, 18), (57, 7)] rfl) inlX11) inlX1) lx_148)⟩) (by decide +kernel)
set_option maxRecDepth 20000 in
theorem gL_law_L_end : GoodIn wsL_law (va_wsS RL 139 yL_end wsL_end) := goodIn_app (goodIn_sub (inR3 _ [(57, 0), (57, 1), (48, 0)] rfl) (by decide +kernel)) ggL_law_L_end
set_option maxRecDepth 20000 in
theorem ggL_law_X12_end : GoodIn wsL_law wsX12_end := goodIn_sub (List.forall_mem_cons.mpr ⟨lm_58 _ (List.mem_of_getElem? (i := 11) rfl), (inA (inR3 _ [(13, 7), (7, 21), (35, 10)] rfl) inlX12)⟩) (by decide +kernel)
set_option maxRecDepth 20000 in
theorem gL_law_X12_end : GoodIn wsL_law (wsV RL 141 RX12 yX12_end wsX12_end) := goodIn_app (goodIn_sub (inR3 _ [(57, 8), (57, 9), (57, 10), (0, 5)] rfl) (by decide +kernel)) ggL_law_X12_end
set_option maxRecDepth 20000 in
theorem ggL_law_X11_result : GoodIn wsL_law wsX11_result := goodIn_sub (List.forall_mem_cons.mpr ⟨lm_58 _ (List.mem_of_getElem? (i := 15) rfl), (inA (inA (inR3 _ [(1, 18), (57, 7)] rfl) inlX11) inlX1)⟩) (by decide +kernel)
set_option maxRecDepth 20000 in
theorem gL_law_X11_result : GoodIn wsL_law (wsV RL 142 RX11 yX11_result wsX11_result) := goodIn_app (goodIn_sub (inR3 _ [(57, 12), (57, 13), (57, 14), (0, 2)] rfl) (by decide +kernel)) ggL_law_X11_result
set_option maxRecDepth 20000 in
theorem ggL_law_X12_result : GoodIn wsL_law wsX12_result := goodIn_sub (List.forall_mem_cons.mpr ⟨lm_58 _ (List.mem_of_getElem? (i := 19) rfl), (inA (inR3 _ [(13, 7), (7, 21), (35, 10)] rfl) inlX12)⟩) (by decide +kernel)
set_option maxRecDepth 20000 in
theorem gL_law_X12_result : GoodIn wsL_law (wsV RL 145 RX12 yX12_result wsX12_result) := goodIn_app (goodIn_sub (inR3 _ [(57, 16), (57, 17), (57, 18), (0, 5)] rfl) (by decide +kernel)) ggL_law_X12_result
set_option maxRecDepth 20000 in
theorem ggL_law_X11_tags : GoodIn wsL_law wsX11_tags := goodIn_sub (List.forall_mem_cons.mpr ⟨lm_58 _ (List.mem_of_getElem? (i := 23) rfl), (inA (inA (inR3 _ [(1, 18), (58, 0)] rfl) inlX11) inlX1)⟩) (by decide +kernel)
set_option maxRecDepth 20000 in
theorem gL_law_X11_tags : GoodIn wsL_law (wsV RL 146 RX11 yX11_tags wsX11_tags) := goodIn_app (goodIn_sub (inR3 _ [(57, 20), (57, 21), (57, 22), (0, 2)] rfl) (by decide +kernel)) ggL_law_X11_tags
set_option maxRecDepth 20000 in
theorem ggL_law_X12_tags : GoodIn wsL_law wsX12_tags := goodIn_sub (List.forall_mem_cons.mpr ⟨lm_59 _ (List.mem_of_getElem? (i := 4) rfl), (inA (inR3 _ [(13, 7), (7, 16), (35, 10)] rfl) inlX12)⟩) (by decide +kernel)
set_option maxRecDepth 20000 in
theorem gL_law_X12_tags : GoodIn wsL_law (wsV RL 149 RX12 yX12_tags wsX12_tags) := goodIn_app (goodIn_sub (inR3 _ [(58, 1), (58, 2), (58, 3), (0, 5)] rfl) (by decide +kernel)) ggL_law_X12_tags
set_option maxRecDepth 20000 in
theorem ggL_law_L_tag : GoodIn wsL_law wsL_tag := goodIn_sub (List.forall_mem_cons.mpr ⟨lm_59 _ (List.mem_of_getElem? (i := 7) rfl), (inA (inA (inA (inA (inA (inA (inR3 wsL_tag_r1 [(49, 20), (58, 8), (58, 9), (58, 10), (0, 2), (58, 11), (50, 1), (50, 2), (1, 18), (58, 0), (58, 12), (58, 13), (58, 14), (16, 13), (16, 14), (1, 17), (16, 15), (5, 7), (5, 6), (5, 5), (16, 16), (16, 17), (16, 18), (16, 19)] rfl) (inR3 wsL_tag_r2 [(16, 20), (0, 12), (0, 13), (16, 21), (0, 15), (0, 16), (16, 22), (16, 23), (2, 0), (2, 1), (2, 2), (2, 3), (2, 4), (2, 5), (49, 3), (15, 4), (15, 5), (15, 6)] rfl)) inlX11) inlX1) inlX10) inlX6) lx_169)⟩) (by decide +kernel)
set_option maxRecDepth 20000 in
theorem gL_law_L_tag : GoodIn wsL_law (va_wsS RL 150 yL_tag wsL_tag) := goodIn_app (goodIn_sub (inR3 _ [(58, 5), (58, 6), (48, 0)] rfl) (by decide +kernel)) ggL_law_L_tag
set_option maxRecDepth 20000 in
theorem ggL_law_X12_tag : GoodIn wsL_law wsX12_tag := goodIn_sub (List.forall_mem_cons.mpr ⟨lm_59 _ (List.mem_of_getElem? (i := 18) rfl), (inA (inR3 _ [(7, 16), (35, 10), (13, 7), (7, 19), (7, 17), (7, 20), (7, 18)] rfl) inlX12)⟩) (by decide +kernel)
set_option maxRecDepth 20000 in
theorem gL_law_X12_tag : GoodIn wsL_law (wsV RL 153 RX12 yX12_tag wsX12_tag) := goodIn_app (goodIn_sub (inR3 _ [(58, 15), (58, 16), (58, 17), (0, 5)] rfl) (by decide +kernel)) ggL_law_X12_tag
set_option maxRecDepth 20000 in
theorem ggL_law_X12_thrown : GoodIn wsL_law wsX12_thrown := goodIn_sub (List.forall_mem_cons.mpr ⟨lm_59 _ (List.mem_of_getElem? (i := 22) rfl), (inA (inR3 _ [(13, 7)] rfl) inlX12)⟩) (by decide +kernel)
set_option maxRecDepth 20000 in
theorem gL_law_X12_thrown : GoodIn wsL_law (wsV RL 154 RX12 yX12_thrown wsX12_thrown) := goodIn_app (goodIn_sub (inR3 _ [(58, 19), (58, 20), (58, 21), (0, 5)] rfl) (by decide +kernel)) ggL_law_X12_thrown
end
