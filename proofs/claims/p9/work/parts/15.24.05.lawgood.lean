set_option maxRecDepth 20000 in
theorem ggL_law_L_addMark : GoodIn wsL_law wsL_addMark := goodIn_sub (List.forall_mem_cons.mpr ⟨lm_55 _ (List.mem_of_getElem? (i := 22) rfl), (inA (inA (inA (inA (inA (inA (inR3 wsL_addMark_r1 [(48, 2), (54, 23), (55, 0), (55, 1), (55, 2), (0, 2), (55, 3), (48, 7), (48, 8), (55, 4), (55, 5), (1, 18), (1, 19), (50, 6), (44, 4), (26, 6), (26, 7), (1, 17), (26, 8), (5, 4), (5, 3), (5, 2), (55, 6), (33, 20)] rfl) (inR3 wsL_addMark_r2 [(33, 21), (5, 1), (33, 22), (5, 18), (5, 17)] rfl)) inlX11) inlX4) inlX1) lx_148) lx_229)⟩) (by decide +kernel)
set_option maxRecDepth 20000 in
theorem gL_law_L_addMark : GoodIn wsL_law (va_wsS RL 129 yL_addMark wsL_addMark) := goodIn_app (goodIn_of _ (by decide +kernel)) ggL_law_L_addMark
set_option maxRecDepth 20000 in
theorem ggL_law_X12_addMark : GoodIn wsL_law wsX12_addMark := goodIn_sub (List.forall_mem_cons.mpr ⟨lm_56 _ (List.mem_of_getElem? (i := 10) rfl), (inA (inR3 _ [(35, 11), (7, 9), (35, 10), (13, 7), (41, 19), (41, 20), (41, 21), (0, 5), (41, 22), (7, 10)] rfl) inlX12)⟩) (by decide +kernel)
set_option maxRecDepth 20000 in
theorem gL_law_X12_addMark : GoodIn wsL_law (wsV RL 131 RX12 yX12_addMark wsX12_addMark) := goodIn_app (goodIn_of _ (by decide +kernel)) ggL_law_X12_addMark
set_option maxRecDepth 20000 in
theorem ggL_law_L_say : GoodIn wsL_law wsL_say := goodIn_sub (List.forall_mem_cons.mpr ⟨lm_56 _ (List.mem_of_getElem? (i := 13) rfl), (inA (inA (inA (inA (inA (inA (inR3 wsL_say_r1 [(48, 2), (55, 14), (55, 15), (55, 16), (0, 2), (55, 17), (48, 7), (48, 8), (0, 17), (1, 18), (1, 19), (50, 7), (12, 11), (12, 12), (12, 13), (0, 16), (12, 14), (2, 5), (55, 18), (26, 19), (26, 20), (26, 21), (26, 22), (20, 23)] rfl) (inA (inR3 wsL_say_r2 [(21, 0), (21, 1), (2, 4), (44, 4), (26, 6), (26, 7), (1, 17), (26, 8), (5, 4), (5, 3), (5, 2), (55, 19), (25, 21), (25, 22), (25, 23), (26, 0), (26, 1), (26, 2), (26, 3), (17, 4), (15, 4), (15, 5), (15, 6), (26, 4)] rfl) (inR3 wsL_say_r3 [(12, 20), (12, 21), (12, 22), (7, 0), (12, 23), (13, 0), (13, 1), (13, 2), (13, 17), (13, 18), (13, 19), (13, 20)] rfl))) inlX11) inlX4) inlX6) inlX1) lx_148)⟩) (by decide +kernel)
set_option maxRecDepth 20000 in
theorem gL_law_L_say : GoodIn wsL_law (va_wsS RL 132 yL_say wsL_say) := goodIn_app (goodIn_of _ (by decide +kernel)) ggL_law_L_say
set_option maxRecDepth 20000 in
theorem ggL_law_X12_say : GoodIn wsL_law wsX12_say := goodIn_sub (List.forall_mem_cons.mpr ⟨lm_56 _ (List.mem_of_getElem? (i := 23) rfl), (inA (inR3 _ [(13, 8), (7, 1), (13, 7), (35, 10), (35, 11), (7, 13), (7, 11)] rfl) inlX12)⟩) (by decide +kernel)
set_option maxRecDepth 20000 in
theorem gL_law_X12_say : GoodIn wsL_law (wsV RL 135 RX12 yX12_say wsX12_say) := goodIn_app (goodIn_of _ (by decide +kernel)) ggL_law_X12_say
set_option maxRecDepth 20000 in
theorem ggL_law_L_lead : GoodIn wsL_law wsL_lead := goodIn_sub (List.forall_mem_cons.mpr ⟨lm_57 _ (List.mem_of_getElem? (i := 2) rfl), (inA (inA (inA (inA (inA (inR3 wsL_lead_r1 [(54, 23), (56, 3), (56, 4), (56, 5), (0, 2), (56, 6), (55, 4), (55, 5), (1, 19), (1, 18), (56, 7), (46, 3), (46, 4), (1, 17), (46, 5), (35, 3), (33, 3), (33, 6), (26, 6), (26, 7), (26, 8), (5, 4), (5, 3), (5, 2)] rfl) (inR3 wsL_lead_r2 [(56, 8), (56, 9), (56, 10), (56, 11), (5, 9), (56, 12), (56, 13), (56, 14), (56, 15), (33, 5)] rfl)) inlX11) inlX4) inlX1) lx_229)⟩) (by decide +kernel)
set_option maxRecDepth 20000 in
theorem gL_law_L_lead : GoodIn wsL_law (va_wsS RL 136 yL_lead wsL_lead) := goodIn_app (goodIn_of _ (by decide +kernel)) ggL_law_L_lead
set_option maxRecDepth 20000 in
theorem ggL_law_X12_lead : GoodIn wsL_law wsX12_lead := goodIn_sub (List.forall_mem_cons.mpr ⟨lm_57 _ (List.mem_of_getElem? (i := 19) rfl), (inA (inR3 _ [(35, 11), (13, 7), (7, 5), (35, 10), (7, 7), (7, 4), (7, 8), (56, 20), (56, 21), (56, 22), (0, 5), (56, 23), (54, 12), (54, 13), (54, 14), (54, 15), (54, 16), (54, 17), (54, 18), (54, 19)] rfl) inlX12)⟩) (by decide +kernel)
set_option maxRecDepth 20000 in
theorem gL_law_X12_lead : GoodIn wsL_law (wsV RL 138 RX12 yX12_lead wsX12_lead) := goodIn_app (goodIn_of _ (by decide +kernel)) ggL_law_X12_lead
set_option maxRecDepth 20000 in
theorem ggL_law_L_end : GoodIn wsL_law wsL_end := goodIn_sub (List.forall_mem_cons.mpr ⟨lm_58 _ (List.mem_of_getElem? (i := 2) rfl), (inA (inA (inA (inR3 _ [(48, 2), (57, 3), (57, 4), (57, 5), (0, 2), (57, 6), (48, 7), (48, 8), (1, 18), (57, 7)] rfl) inlX11) inlX1) lx_148)⟩) (by decide +kernel)
set_option maxRecDepth 20000 in
theorem gL_law_L_end : GoodIn wsL_law (va_wsS RL 139 yL_end wsL_end) := goodIn_app (goodIn_of _ (by decide +kernel)) ggL_law_L_end
set_option maxRecDepth 20000 in
theorem ggL_law_X12_end : GoodIn wsL_law wsX12_end := goodIn_sub (List.forall_mem_cons.mpr ⟨lm_58 _ (List.mem_of_getElem? (i := 11) rfl), (inA (inR3 _ [(13, 7), (7, 21), (35, 10)] rfl) inlX12)⟩) (by decide +kernel)
set_option maxRecDepth 20000 in
theorem gL_law_X12_end : GoodIn wsL_law (wsV RL 141 RX12 yX12_end wsX12_end) := goodIn_app (goodIn_of _ (by decide +kernel)) ggL_law_X12_end
set_option maxRecDepth 20000 in
theorem ggL_law_X11_result : GoodIn wsL_law wsX11_result := goodIn_sub (List.forall_mem_cons.mpr ⟨lm_58 _ (List.mem_of_getElem? (i := 15) rfl), (inA (inA (inR3 _ [(1, 18), (57, 7)] rfl) inlX11) inlX1)⟩) (by decide +kernel)
set_option maxRecDepth 20000 in
theorem gL_law_X11_result : GoodIn wsL_law (wsV RL 142 RX11 yX11_result wsX11_result) := goodIn_app (goodIn_of _ (by decide +kernel)) ggL_law_X11_result
set_option maxRecDepth 20000 in
theorem ggL_law_X12_result : GoodIn wsL_law wsX12_result := goodIn_sub (List.forall_mem_cons.mpr ⟨lm_58 _ (List.mem_of_getElem? (i := 19) rfl), (inA (inR3 _ [(13, 7), (7, 21), (35, 10)] rfl) inlX12)⟩) (by decide +kernel)
set_option maxRecDepth 20000 in
theorem gL_law_X12_result : GoodIn wsL_law (wsV RL 145 RX12 yX12_result wsX12_result) := goodIn_app (goodIn_of _ (by decide +kernel)) ggL_law_X12_result
set_option maxRecDepth 20000 in
theorem ggL_law_X11_tags : GoodIn wsL_law wsX11_tags := goodIn_sub (List.forall_mem_cons.mpr ⟨lm_58 _ (List.mem_of_getElem? (i := 23) rfl), (inA (inA (inR3 _ [(1, 18), (58, 0)] rfl) inlX11) inlX1)⟩) (by decide +kernel)
set_option maxRecDepth 20000 in
theorem gL_law_X11_tags : GoodIn wsL_law (wsV RL 146 RX11 yX11_tags wsX11_tags) := goodIn_app (goodIn_of _ (by decide +kernel)) ggL_law_X11_tags
set_option maxRecDepth 20000 in
theorem ggL_law_X12_tags : GoodIn wsL_law wsX12_tags := goodIn_sub (List.forall_mem_cons.mpr ⟨lm_59 _ (List.mem_of_getElem? (i := 4) rfl), (inA (inR3 _ [(13, 7), (7, 16), (35, 10)] rfl) inlX12)⟩) (by decide +kernel)
set_option maxRecDepth 20000 in
theorem gL_law_X12_tags : GoodIn wsL_law (wsV RL 149 RX12 yX12_tags wsX12_tags) := goodIn_app (goodIn_of _ (by decide +kernel)) ggL_law_X12_tags
set_option maxRecDepth 20000 in
theorem ggL_law_L_tag : GoodIn wsL_law wsL_tag := goodIn_sub (List.forall_mem_cons.mpr ⟨lm_59 _ (List.mem_of_getElem? (i := 7) rfl), (inA (inA (inA (inA (inA (inA (inR3 wsL_tag_r1 [(49, 20), (58, 8), (58, 9), (58, 10), (0, 2), (58, 11), (50, 1), (50, 2), (1, 18), (58, 0), (58, 12), (58, 13), (58, 14), (16, 13), (16, 14), (1, 17), (16, 15), (5, 7), (5, 6), (5, 5), (16, 16), (16, 17), (16, 18), (16, 19)] rfl) (inR3 wsL_tag_r2 [(16, 20), (0, 12), (0, 13), (16, 21), (0, 15), (0, 16), (16, 22), (16, 23), (2, 0), (2, 1), (2, 2), (2, 3), (2, 4), (2, 5), (49, 3), (15, 4), (15, 5), (15, 6)] rfl)) inlX11) inlX1) inlX10) inlX6) lx_169)⟩) (by decide +kernel)
set_option maxRecDepth 20000 in
theorem gL_law_L_tag : GoodIn wsL_law (va_wsS RL 150 yL_tag wsL_tag) := goodIn_app (goodIn_of _ (by decide +kernel)) ggL_law_L_tag
set_option maxRecDepth 20000 in
theorem ggL_law_X12_tag : GoodIn wsL_law wsX12_tag := goodIn_sub (List.forall_mem_cons.mpr ⟨lm_59 _ (List.mem_of_getElem? (i := 18) rfl), (inA (inR3 _ [(7, 16), (35, 10), (13, 7), (7, 19), (7, 17), (7, 20), (7, 18)] rfl) inlX12)⟩) (by decide +kernel)
set_option maxRecDepth 20000 in
theorem gL_law_X12_tag : GoodIn wsL_law (wsV RL 153 RX12 yX12_tag wsX12_tag) := goodIn_app (goodIn_of _ (by decide +kernel)) ggL_law_X12_tag
