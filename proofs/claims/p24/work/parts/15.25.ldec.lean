section
theorem dL_signs_0 : decode cL_signs 0 = .ok (.aload_n 2, 1) := by decide +kernel
theorem dL_signs_1 : decode cL_signs 1 = .ok (.iconst 0, 1) := by decide +kernel
theorem dL_signs_2 : decode cL_signs 2 = .ok (.aload_n 0, 1) := by decide +kernel
theorem dL_signs_3 : decode cL_signs 3 = .ok (.iload_n 1, 1) := by decide +kernel
theorem dL_signs_4 : decode cL_signs 4 = .ok (.invokevirtual 7, 3) := by decide +kernel
theorem dL_signs_7 : decode cL_signs 7 = .ok (.i2l, 1) := by decide +kernel
theorem dL_signs_8 : decode cL_signs 8 = .ok (.lastore, 1) := by decide +kernel
theorem dL_signs_9 : decode cL_signs 9 = .ok (.goto 6, 3) := by decide +kernel
theorem dL_signs_12 : decode cL_signs 12 = .ok (.astore_n 3, 1) := by decide +kernel
theorem dL_signs_13 : decode cL_signs 13 = .ok (.iconst 1, 1) := by decide +kernel
theorem dL_signs_14 : decode cL_signs 14 = .ok (.ireturn, 1) := by decide +kernel
theorem dL_signs_15 : decode cL_signs 15 = .ok (.iconst 0, 1) := by decide +kernel
theorem dL_signs_16 : decode cL_signs 16 = .ok (.ireturn, 1) := by decide +kernel
theorem dL_node_0 : decode cL_node 0 = .ok (.aload_n 3, 1) := by decide +kernel
theorem dL_node_1 : decode cL_node 1 = .ok (.iconst 0, 1) := by decide +kernel
theorem dL_node_2 : decode cL_node 2 = .ok (.aload_n 0, 1) := by decide +kernel
theorem dL_node_3 : decode cL_node 3 = .ok (.iload_n 1, 1) := by decide +kernel
theorem dL_node_4 : decode cL_node 4 = .ok (.iload_n 2, 1) := by decide +kernel
theorem dL_node_5 : decode cL_node 5 = .ok (.invokevirtual 15, 3) := by decide +kernel
theorem dL_node_8 : decode cL_node 8 = .ok (.i2l, 1) := by decide +kernel
theorem dL_node_9 : decode cL_node 9 = .ok (.lastore, 1) := by decide +kernel
theorem dL_node_10 : decode cL_node 10 = .ok (.goto 7, 3) := by decide +kernel
theorem dL_node_13 : decode cL_node 13 = .ok (.astore 4, 2) := by decide +kernel
theorem dL_node_15 : decode cL_node 15 = .ok (.iconst 1, 1) := by decide +kernel
theorem dL_node_16 : decode cL_node 16 = .ok (.ireturn, 1) := by decide +kernel
theorem dL_node_17 : decode cL_node 17 = .ok (.iconst 0, 1) := by decide +kernel
theorem dL_node_18 : decode cL_node 18 = .ok (.ireturn, 1) := by decide +kernel
theorem dL_mark_0 : decode cL_mark 0 = .ok (.aload_n 3, 1) := by decide +kernel
theorem dL_mark_1 : decode cL_mark 1 = .ok (.iconst 0, 1) := by decide +kernel
theorem dL_mark_2 : decode cL_mark 2 = .ok (.aload_n 0, 1) := by decide +kernel
theorem dL_mark_3 : decode cL_mark 3 = .ok (.iload_n 1, 1) := by decide +kernel
theorem dL_mark_4 : decode cL_mark 4 = .ok (.iload_n 2, 1) := by decide +kernel
theorem dL_mark_5 : decode cL_mark 5 = .ok (.invokevirtual 21, 3) := by decide +kernel
theorem dL_mark_8 : decode cL_mark 8 = .ok (.i2l, 1) := by decide +kernel
theorem dL_mark_9 : decode cL_mark 9 = .ok (.lastore, 1) := by decide +kernel
theorem dL_mark_10 : decode cL_mark 10 = .ok (.goto 7, 3) := by decide +kernel
theorem dL_mark_13 : decode cL_mark 13 = .ok (.astore 4, 2) := by decide +kernel
theorem dL_mark_15 : decode cL_mark 15 = .ok (.iconst 1, 1) := by decide +kernel
theorem dL_mark_16 : decode cL_mark 16 = .ok (.ireturn, 1) := by decide +kernel
theorem dL_mark_17 : decode cL_mark 17 = .ok (.iconst 0, 1) := by decide +kernel
theorem dL_mark_18 : decode cL_mark 18 = .ok (.ireturn, 1) := by decide +kernel
theorem dL_remark_0 : decode cL_remark 0 = .ok (.aload_n 3, 1) := by decide +kernel
theorem dL_remark_1 : decode cL_remark 1 = .ok (.iconst 0, 1) := by decide +kernel
theorem dL_remark_2 : decode cL_remark 2 = .ok (.aload_n 0, 1) := by decide +kernel
theorem dL_remark_3 : decode cL_remark 3 = .ok (.iload_n 1, 1) := by decide +kernel
theorem dL_remark_4 : decode cL_remark 4 = .ok (.iload_n 2, 1) := by decide +kernel
theorem dL_remark_5 : decode cL_remark 5 = .ok (.invokevirtual 24, 3) := by decide +kernel
theorem dL_remark_8 : decode cL_remark 8 = .ok (.i2l, 1) := by decide +kernel
theorem dL_remark_9 : decode cL_remark 9 = .ok (.lastore, 1) := by decide +kernel
theorem dL_remark_10 : decode cL_remark 10 = .ok (.goto 7, 3) := by decide +kernel
theorem dL_remark_13 : decode cL_remark 13 = .ok (.astore 4, 2) := by decide +kernel
theorem dL_remark_15 : decode cL_remark 15 = .ok (.iconst 1, 1) := by decide +kernel
theorem dL_remark_16 : decode cL_remark 16 = .ok (.ireturn, 1) := by decide +kernel
theorem dL_remark_17 : decode cL_remark 17 = .ok (.iconst 0, 1) := by decide +kernel
theorem dL_remark_18 : decode cL_remark 18 = .ok (.ireturn, 1) := by decide +kernel
theorem dL_go_0 : decode cL_go 0 = .ok (.aload_n 0, 1) := by decide +kernel
theorem dL_go_1 : decode cL_go 1 = .ok (.iload_n 1, 1) := by decide +kernel
theorem dL_go_2 : decode cL_go 2 = .ok (.invokevirtual 27, 3) := by decide +kernel
theorem dL_go_5 : decode cL_go 5 = .ok (.goto 6, 3) := by decide +kernel
theorem dL_go_8 : decode cL_go 8 = .ok (.astore_n 2, 1) := by decide +kernel
theorem dL_go_9 : decode cL_go 9 = .ok (.iconst 1, 1) := by decide +kernel
theorem dL_go_10 : decode cL_go 10 = .ok (.ireturn, 1) := by decide +kernel
theorem dL_go_11 : decode cL_go 11 = .ok (.iconst 0, 1) := by decide +kernel
theorem dL_go_12 : decode cL_go 12 = .ok (.ireturn, 1) := by decide +kernel
theorem dL_man_0 : decode cL_man 0 = .ok (.aload_n 2, 1) := by decide +kernel
theorem dL_man_1 : decode cL_man 1 = .ok (.iconst 0, 1) := by decide +kernel
theorem dL_man_2 : decode cL_man 2 = .ok (.aload_n 0, 1) := by decide +kernel
theorem dL_man_3 : decode cL_man 3 = .ok (.iload_n 1, 1) := by decide +kernel
theorem dL_man_4 : decode cL_man 4 = .ok (.invokevirtual 31, 3) := by decide +kernel
theorem dL_man_7 : decode cL_man 7 = .ok (.i2l, 1) := by decide +kernel
theorem dL_man_8 : decode cL_man 8 = .ok (.lastore, 1) := by decide +kernel
theorem dL_man_9 : decode cL_man 9 = .ok (.goto 6, 3) := by decide +kernel
theorem dL_man_12 : decode cL_man 12 = .ok (.astore_n 3, 1) := by decide +kernel
theorem dL_man_13 : decode cL_man 13 = .ok (.iconst 1, 1) := by decide +kernel
theorem dL_man_14 : decode cL_man 14 = .ok (.ireturn, 1) := by decide +kernel
theorem dL_man_15 : decode cL_man 15 = .ok (.iconst 0, 1) := by decide +kernel
theorem dL_man_16 : decode cL_man 16 = .ok (.ireturn, 1) := by decide +kernel
theorem dL_add_0 : decode cL_add 0 = .ok (.aload_n 2, 1) := by decide +kernel
theorem dL_add_1 : decode cL_add 1 = .ok (.iconst 0, 1) := by decide +kernel
theorem dL_add_2 : decode cL_add 2 = .ok (.aload_n 0, 1) := by decide +kernel
theorem dL_add_3 : decode cL_add 3 = .ok (.iload_n 1, 1) := by decide +kernel
theorem dL_add_4 : decode cL_add 4 = .ok (.invokevirtual 34, 3) := by decide +kernel
theorem dL_add_7 : decode cL_add 7 = .ok (.i2l, 1) := by decide +kernel
theorem dL_add_8 : decode cL_add 8 = .ok (.lastore, 1) := by decide +kernel
theorem dL_add_9 : decode cL_add 9 = .ok (.goto 9, 3) := by decide +kernel
theorem dL_add_12 : decode cL_add 12 = .ok (.astore_n 3, 1) := by decide +kernel
theorem dL_add_13 : decode cL_add 13 = .ok (.iconst 1, 1) := by decide +kernel
theorem dL_add_14 : decode cL_add 14 = .ok (.ireturn, 1) := by decide +kernel
theorem dL_add_15 : decode cL_add 15 = .ok (.astore_n 3, 1) := by decide +kernel
theorem dL_add_16 : decode cL_add 16 = .ok (.iconst 2, 1) := by decide +kernel
theorem dL_add_17 : decode cL_add 17 = .ok (.ireturn, 1) := by decide +kernel
theorem dL_add_18 : decode cL_add 18 = .ok (.iconst 0, 1) := by decide +kernel
theorem dL_add_19 : decode cL_add 19 = .ok (.ireturn, 1) := by decide +kernel
theorem dL_addMark_0 : decode cL_addMark 0 = .ok (.aload_n 2, 1) := by decide +kernel
theorem dL_addMark_1 : decode cL_addMark 1 = .ok (.iconst 0, 1) := by decide +kernel
theorem dL_addMark_2 : decode cL_addMark 2 = .ok (.aload_n 0, 1) := by decide +kernel
theorem dL_addMark_3 : decode cL_addMark 3 = .ok (.iload_n 1, 1) := by decide +kernel
theorem dL_addMark_4 : decode cL_addMark 4 = .ok (.invokevirtual 39, 3) := by decide +kernel
theorem dL_addMark_7 : decode cL_addMark 7 = .ok (.i2l, 1) := by decide +kernel
theorem dL_addMark_8 : decode cL_addMark 8 = .ok (.lastore, 1) := by decide +kernel
theorem dL_addMark_9 : decode cL_addMark 9 = .ok (.goto 9, 3) := by decide +kernel
theorem dL_addMark_12 : decode cL_addMark 12 = .ok (.astore_n 3, 1) := by decide +kernel
theorem dL_addMark_13 : decode cL_addMark 13 = .ok (.iconst 1, 1) := by decide +kernel
theorem dL_addMark_14 : decode cL_addMark 14 = .ok (.ireturn, 1) := by decide +kernel
theorem dL_addMark_15 : decode cL_addMark 15 = .ok (.astore_n 3, 1) := by decide +kernel
theorem dL_addMark_16 : decode cL_addMark 16 = .ok (.iconst 2, 1) := by decide +kernel
theorem dL_addMark_17 : decode cL_addMark 17 = .ok (.ireturn, 1) := by decide +kernel
theorem dL_addMark_18 : decode cL_addMark 18 = .ok (.iconst 0, 1) := by decide +kernel
theorem dL_addMark_19 : decode cL_addMark 19 = .ok (.ireturn, 1) := by decide +kernel
theorem dL_say_0 : decode cL_say 0 = .ok (.aload_n 1, 1) := by decide +kernel
theorem dL_say_1 : decode cL_say 1 = .ok (.iconst 0, 1) := by decide +kernel
theorem dL_say_2 : decode cL_say 2 = .ok (.aload_n 0, 1) := by decide +kernel
theorem dL_say_3 : decode cL_say 3 = .ok (.invokevirtual 44, 3) := by decide +kernel
theorem dL_say_6 : decode cL_say 6 = .ok (.i2l, 1) := by decide +kernel
theorem dL_say_7 : decode cL_say 7 = .ok (.lastore, 1) := by decide +kernel
theorem dL_say_8 : decode cL_say 8 = .ok (.goto 6, 3) := by decide +kernel
theorem dL_say_11 : decode cL_say 11 = .ok (.astore_n 2, 1) := by decide +kernel
theorem dL_say_12 : decode cL_say 12 = .ok (.iconst 1, 1) := by decide +kernel
theorem dL_say_13 : decode cL_say 13 = .ok (.ireturn, 1) := by decide +kernel
theorem dL_say_14 : decode cL_say 14 = .ok (.iconst 0, 1) := by decide +kernel
theorem dL_say_15 : decode cL_say 15 = .ok (.ireturn, 1) := by decide +kernel
theorem dL_lead_0 : decode cL_lead 0 = .ok (.aload_n 1, 1) := by decide +kernel
theorem dL_lead_1 : decode cL_lead 1 = .ok (.iconst 0, 1) := by decide +kernel
theorem dL_lead_2 : decode cL_lead 2 = .ok (.aload_n 0, 1) := by decide +kernel
theorem dL_lead_3 : decode cL_lead 3 = .ok (.invokevirtual 48, 3) := by decide +kernel
theorem dL_lead_6 : decode cL_lead 6 = .ok (.ifCond .eq 7, 3) := by decide +kernel
theorem dL_lead_9 : decode cL_lead 9 = .ok (.lconst 1, 1) := by decide +kernel
theorem dL_lead_10 : decode cL_lead 10 = .ok (.goto 4, 3) := by decide +kernel
theorem dL_lead_13 : decode cL_lead 13 = .ok (.lconst 0, 1) := by decide +kernel
theorem dL_lead_14 : decode cL_lead 14 = .ok (.lastore, 1) := by decide +kernel
theorem dL_lead_15 : decode cL_lead 15 = .ok (.goto 6, 3) := by decide +kernel
theorem dL_lead_18 : decode cL_lead 18 = .ok (.astore_n 2, 1) := by decide +kernel
theorem dL_lead_19 : decode cL_lead 19 = .ok (.iconst 1, 1) := by decide +kernel
theorem dL_lead_20 : decode cL_lead 20 = .ok (.ireturn, 1) := by decide +kernel
theorem dL_lead_21 : decode cL_lead 21 = .ok (.iconst 0, 1) := by decide +kernel
theorem dL_lead_22 : decode cL_lead 22 = .ok (.ireturn, 1) := by decide +kernel
theorem dL_end_0 : decode cL_end 0 = .ok (.aload_n 0, 1) := by decide +kernel
theorem dL_end_1 : decode cL_end 1 = .ok (.iload_n 1, 1) := by decide +kernel
theorem dL_end_2 : decode cL_end 2 = .ok (.invokevirtual 52, 3) := by decide +kernel
theorem dL_end_5 : decode cL_end 5 = .ok (.goto 6, 3) := by decide +kernel
theorem dL_end_8 : decode cL_end 8 = .ok (.astore_n 2, 1) := by decide +kernel
theorem dL_end_9 : decode cL_end 9 = .ok (.iconst 1, 1) := by decide +kernel
theorem dL_end_10 : decode cL_end 10 = .ok (.ireturn, 1) := by decide +kernel
theorem dL_end_11 : decode cL_end 11 = .ok (.iconst 0, 1) := by decide +kernel
theorem dL_end_12 : decode cL_end 12 = .ok (.ireturn, 1) := by decide +kernel
theorem dL_tag_0 : decode cL_tag 0 = .ok (.aload 4, 2) := by decide +kernel
theorem dL_tag_2 : decode cL_tag 2 = .ok (.iconst 0, 1) := by decide +kernel
theorem dL_tag_3 : decode cL_tag 3 = .ok (.aload_n 0, 1) := by decide +kernel
theorem dL_tag_4 : decode cL_tag 4 = .ok (.iload_n 1, 1) := by decide +kernel
theorem dL_tag_5 : decode cL_tag 5 = .ok (.iload_n 2, 1) := by decide +kernel
theorem dL_tag_6 : decode cL_tag 6 = .ok (.iload_n 3, 1) := by decide +kernel
theorem dL_tag_7 : decode cL_tag 7 = .ok (.invokevirtual 55, 3) := by decide +kernel
theorem dL_tag_10 : decode cL_tag 10 = .ok (.i2l, 1) := by decide +kernel
theorem dL_tag_11 : decode cL_tag 11 = .ok (.lastore, 1) := by decide +kernel
theorem dL_tag_12 : decode cL_tag 12 = .ok (.goto 7, 3) := by decide +kernel
theorem dL_tag_15 : decode cL_tag 15 = .ok (.astore 5, 2) := by decide +kernel
theorem dL_tag_17 : decode cL_tag 17 = .ok (.iconst 1, 1) := by decide +kernel
theorem dL_tag_18 : decode cL_tag 18 = .ok (.ireturn, 1) := by decide +kernel
theorem dL_tag_19 : decode cL_tag 19 = .ok (.iconst 0, 1) := by decide +kernel
theorem dL_tag_20 : decode cL_tag 20 = .ok (.ireturn, 1) := by decide +kernel
theorem dL_law_0 : decode cL_law 0 = .ok (.new 8, 3) := by decide +kernel
theorem dL_law_3 : decode cL_law 3 = .ok (.dup, 1) := by decide +kernel
theorem dL_law_4 : decode cL_law 4 = .ok (.invokespecial 59, 3) := by decide +kernel
theorem dL_law_7 : decode cL_law 7 = .ok (.astore_n 1, 1) := by decide +kernel
theorem dL_law_8 : decode cL_law 8 = .ok (.new 60, 3) := by decide +kernel
theorem dL_law_11 : decode cL_law 11 = .ok (.dup, 1) := by decide +kernel
theorem dL_law_12 : decode cL_law 12 = .ok (.invokespecial 62, 3) := by decide +kernel
theorem dL_law_15 : decode cL_law 15 = .ok (.astore_n 2, 1) := by decide +kernel
theorem dL_law_16 : decode cL_law 16 = .ok (.iconst 1, 1) := by decide +kernel
theorem dL_law_17 : decode cL_law 17 = .ok (.newarray .long, 2) := by decide +kernel
theorem dL_law_19 : decode cL_law 19 = .ok (.astore_n 3, 1) := by decide +kernel
theorem dL_law_20 : decode cL_law 20 = .ok (.iconst 0, 1) := by decide +kernel
theorem dL_law_21 : decode cL_law 21 = .ok (.istore 4, 2) := by decide +kernel
theorem dL_law_23 : decode cL_law 23 = .ok (.iload 4, 2) := by decide +kernel
theorem dL_law_25 : decode cL_law 25 = .ok (.aload_n 0, 1) := by decide +kernel
theorem dL_law_26 : decode cL_law 26 = .ok (.arraylength, 1) := by decide +kernel
theorem dL_law_27 : decode cL_law 27 = .ok (.iconst 4, 1) := by decide +kernel
theorem dL_law_28 : decode cL_law 28 = .ok (.isub, 1) := by decide +kernel
theorem dL_law_29 : decode cL_law 29 = .ok (.if_icmp .gt 766, 3) := by decide +kernel
theorem dL_law_32 : decode cL_law 32 = .ok (.aload_n 0, 1) := by decide +kernel
theorem dL_law_33 : decode cL_law 33 = .ok (.iload 4, 2) := by decide +kernel
theorem dL_law_35 : decode cL_law 35 = .ok (.iaload, 1) := by decide +kernel
theorem dL_law_36 : decode cL_law 36 = .ok (.bipush 31, 2) := by decide +kernel
theorem dL_law_38 : decode cL_law 38 = .ok (.iand, 1) := by decide +kernel
theorem dL_law_39 : decode cL_law 39 = .ok (.tableswitch 750 0 22 #[105, 174, 199, 212, 225, 238, 266, 291, 304, 344, 384, 424, 437, 462, 490, 515, 543, 571, 587, 603, 628, 641, 654], 105) := by decide +kernel
theorem dL_law_144 : decode cL_law 144 = .ok (.aload_n 1, 1) := by decide +kernel
theorem dL_law_145 : decode cL_law 145 = .ok (.aload_n 0, 1) := by decide +kernel
theorem dL_law_146 : decode cL_law 146 = .ok (.iload 4, 2) := by decide +kernel
theorem dL_law_148 : decode cL_law 148 = .ok (.iconst 1, 1) := by decide +kernel
theorem dL_law_149 : decode cL_law 149 = .ok (.iadd, 1) := by decide +kernel
theorem dL_law_150 : decode cL_law 150 = .ok (.iaload, 1) := by decide +kernel
theorem dL_law_151 : decode cL_law 151 = .ok (.i2l, 1) := by decide +kernel
theorem dL_law_152 : decode cL_law 152 = .ok (.bipush 32, 2) := by decide +kernel
theorem dL_law_154 : decode cL_law 154 = .ok (.lshl, 1) := by decide +kernel
theorem dL_law_155 : decode cL_law 155 = .ok (.aload_n 0, 1) := by decide +kernel
theorem dL_law_156 : decode cL_law 156 = .ok (.iload 4, 2) := by decide +kernel
theorem dL_law_158 : decode cL_law 158 = .ok (.iconst 2, 1) := by decide +kernel
theorem dL_law_159 : decode cL_law 159 = .ok (.iadd, 1) := by decide +kernel
theorem dL_law_160 : decode cL_law 160 = .ok (.iaload, 1) := by decide +kernel
theorem dL_law_161 : decode cL_law 161 = .ok (.i2l, 1) := by decide +kernel
theorem dL_law_162 : decode cL_law 162 = .ok (.ldc2_w 63, 3) := by decide +kernel
theorem dL_law_165 : decode cL_law 165 = .ok (.land, 1) := by decide +kernel
theorem dL_law_166 : decode cL_law 166 = .ok (.lor, 1) := by decide +kernel
theorem dL_law_167 : decode cL_law 167 = .ok (.aload_n 0, 1) := by decide +kernel
theorem dL_law_168 : decode cL_law 168 = .ok (.iload 4, 2) := by decide +kernel
theorem dL_law_170 : decode cL_law 170 = .ok (.iconst 3, 1) := by decide +kernel
theorem dL_law_171 : decode cL_law 171 = .ok (.iadd, 1) := by decide +kernel
theorem dL_law_172 : decode cL_law 172 = .ok (.iaload, 1) := by decide +kernel
theorem dL_law_173 : decode cL_law 173 = .ok (.invokevirtual 65, 3) := by decide +kernel
theorem dL_law_176 : decode cL_law 176 = .ok (.pop, 1) := by decide +kernel
theorem dL_law_177 : decode cL_law 177 = .ok (.aload_n 2, 1) := by decide +kernel
theorem dL_law_178 : decode cL_law 178 = .ok (.aload_n 0, 1) := by decide +kernel
theorem dL_law_179 : decode cL_law 179 = .ok (.iload 4, 2) := by decide +kernel
theorem dL_law_181 : decode cL_law 181 = .ok (.iconst 1, 1) := by decide +kernel
theorem dL_law_182 : decode cL_law 182 = .ok (.iadd, 1) := by decide +kernel
theorem dL_law_183 : decode cL_law 183 = .ok (.iaload, 1) := by decide +kernel
theorem dL_law_184 : decode cL_law 184 = .ok (.i2l, 1) := by decide +kernel
theorem dL_law_185 : decode cL_law 185 = .ok (.bipush 32, 2) := by decide +kernel
theorem dL_law_187 : decode cL_law 187 = .ok (.lshl, 1) := by decide +kernel
theorem dL_law_188 : decode cL_law 188 = .ok (.aload_n 0, 1) := by decide +kernel
theorem dL_law_189 : decode cL_law 189 = .ok (.iload 4, 2) := by decide +kernel
theorem dL_law_191 : decode cL_law 191 = .ok (.iconst 2, 1) := by decide +kernel
theorem dL_law_192 : decode cL_law 192 = .ok (.iadd, 1) := by decide +kernel
theorem dL_law_193 : decode cL_law 193 = .ok (.iaload, 1) := by decide +kernel
theorem dL_law_194 : decode cL_law 194 = .ok (.i2l, 1) := by decide +kernel
theorem dL_law_195 : decode cL_law 195 = .ok (.ldc2_w 63, 3) := by decide +kernel
theorem dL_law_198 : decode cL_law 198 = .ok (.land, 1) := by decide +kernel
theorem dL_law_199 : decode cL_law 199 = .ok (.lor, 1) := by decide +kernel
theorem dL_law_200 : decode cL_law 200 = .ok (.aload_n 0, 1) := by decide +kernel
theorem dL_law_201 : decode cL_law 201 = .ok (.iload 4, 2) := by decide +kernel
theorem dL_law_203 : decode cL_law 203 = .ok (.iconst 3, 1) := by decide +kernel
theorem dL_law_204 : decode cL_law 204 = .ok (.iadd, 1) := by decide +kernel
theorem dL_law_205 : decode cL_law 205 = .ok (.iaload, 1) := by decide +kernel
theorem dL_law_206 : decode cL_law 206 = .ok (.invokevirtual 69, 3) := by decide +kernel
theorem dL_law_209 : decode cL_law 209 = .ok (.pop, 1) := by decide +kernel
theorem dL_law_210 : decode cL_law 210 = .ok (.goto 579, 3) := by decide +kernel
theorem dL_law_213 : decode cL_law 213 = .ok (.aload_n 1, 1) := by decide +kernel
theorem dL_law_214 : decode cL_law 214 = .ok (.aload_n 0, 1) := by decide +kernel
theorem dL_law_215 : decode cL_law 215 = .ok (.iload 4, 2) := by decide +kernel
theorem dL_law_217 : decode cL_law 217 = .ok (.iconst 1, 1) := by decide +kernel
theorem dL_law_218 : decode cL_law 218 = .ok (.iadd, 1) := by decide +kernel
theorem dL_law_219 : decode cL_law 219 = .ok (.iaload, 1) := by decide +kernel
theorem dL_law_220 : decode cL_law 220 = .ok (.invokevirtual 70, 3) := by decide +kernel
theorem dL_law_223 : decode cL_law 223 = .ok (.pop, 1) := by decide +kernel
theorem dL_law_224 : decode cL_law 224 = .ok (.aload_n 2, 1) := by decide +kernel
theorem dL_law_225 : decode cL_law 225 = .ok (.aload_n 0, 1) := by decide +kernel
theorem dL_law_226 : decode cL_law 226 = .ok (.iload 4, 2) := by decide +kernel
theorem dL_law_228 : decode cL_law 228 = .ok (.iconst 1, 1) := by decide +kernel
theorem dL_law_229 : decode cL_law 229 = .ok (.iadd, 1) := by decide +kernel
theorem dL_law_230 : decode cL_law 230 = .ok (.iaload, 1) := by decide +kernel
theorem dL_law_231 : decode cL_law 231 = .ok (.invokevirtual 74, 3) := by decide +kernel
theorem dL_law_234 : decode cL_law 234 = .ok (.pop, 1) := by decide +kernel
theorem dL_law_235 : decode cL_law 235 = .ok (.goto 554, 3) := by decide +kernel
theorem dL_law_238 : decode cL_law 238 = .ok (.aload_n 1, 1) := by decide +kernel
theorem dL_law_239 : decode cL_law 239 = .ok (.invokevirtual 75, 3) := by decide +kernel
theorem dL_law_242 : decode cL_law 242 = .ok (.pop, 1) := by decide +kernel
theorem dL_law_243 : decode cL_law 243 = .ok (.aload_n 2, 1) := by decide +kernel
theorem dL_law_244 : decode cL_law 244 = .ok (.invokevirtual 78, 3) := by decide +kernel
theorem dL_law_247 : decode cL_law 247 = .ok (.pop, 1) := by decide +kernel
theorem dL_law_248 : decode cL_law 248 = .ok (.goto 541, 3) := by decide +kernel
theorem dL_law_251 : decode cL_law 251 = .ok (.aload_n 1, 1) := by decide +kernel
theorem dL_law_252 : decode cL_law 252 = .ok (.invokevirtual 79, 3) := by decide +kernel
theorem dL_law_255 : decode cL_law 255 = .ok (.pop, 1) := by decide +kernel
theorem dL_law_256 : decode cL_law 256 = .ok (.aload_n 2, 1) := by decide +kernel
theorem dL_law_257 : decode cL_law 257 = .ok (.invokevirtual 82, 3) := by decide +kernel
theorem dL_law_260 : decode cL_law 260 = .ok (.pop, 1) := by decide +kernel
theorem dL_law_261 : decode cL_law 261 = .ok (.goto 528, 3) := by decide +kernel
theorem dL_law_264 : decode cL_law 264 = .ok (.aload_n 1, 1) := by decide +kernel
theorem dL_law_265 : decode cL_law 265 = .ok (.invokevirtual 83, 3) := by decide +kernel
theorem dL_law_268 : decode cL_law 268 = .ok (.pop, 1) := by decide +kernel
theorem dL_law_269 : decode cL_law 269 = .ok (.aload_n 2, 1) := by decide +kernel
theorem dL_law_270 : decode cL_law 270 = .ok (.invokevirtual 86, 3) := by decide +kernel
theorem dL_law_273 : decode cL_law 273 = .ok (.pop, 1) := by decide +kernel
theorem dL_law_274 : decode cL_law 274 = .ok (.goto 515, 3) := by decide +kernel
theorem dL_law_277 : decode cL_law 277 = .ok (.aload_n 1, 1) := by decide +kernel
theorem dL_law_278 : decode cL_law 278 = .ok (.aload_n 0, 1) := by decide +kernel
theorem dL_law_279 : decode cL_law 279 = .ok (.iload 4, 2) := by decide +kernel
theorem dL_law_281 : decode cL_law 281 = .ok (.iconst 1, 1) := by decide +kernel
theorem dL_law_282 : decode cL_law 282 = .ok (.iadd, 1) := by decide +kernel
theorem dL_law_283 : decode cL_law 283 = .ok (.iaload, 1) := by decide +kernel
theorem dL_law_284 : decode cL_law 284 = .ok (.aload_n 3, 1) := by decide +kernel
theorem dL_law_285 : decode cL_law 285 = .ok (.invokestatic 87, 3) := by decide +kernel
theorem dL_law_288 : decode cL_law 288 = .ok (.istore 5, 2) := by decide +kernel
theorem dL_law_290 : decode cL_law 290 = .ok (.aload_n 2, 1) := by decide +kernel
theorem dL_law_291 : decode cL_law 291 = .ok (.aload_n 0, 1) := by decide +kernel
theorem dL_law_292 : decode cL_law 292 = .ok (.iload 4, 2) := by decide +kernel
theorem dL_law_294 : decode cL_law 294 = .ok (.iconst 1, 1) := by decide +kernel
theorem dL_law_295 : decode cL_law 295 = .ok (.iadd, 1) := by decide +kernel
theorem dL_law_296 : decode cL_law 296 = .ok (.iaload, 1) := by decide +kernel
theorem dL_law_297 : decode cL_law 297 = .ok (.invokevirtual 92, 3) := by decide +kernel
theorem dL_law_300 : decode cL_law 300 = .ok (.istore 6, 2) := by decide +kernel
theorem dL_law_302 : decode cL_law 302 = .ok (.goto 487, 3) := by decide +kernel
theorem dL_law_305 : decode cL_law 305 = .ok (.aload_n 1, 1) := by decide +kernel
theorem dL_law_306 : decode cL_law 306 = .ok (.aload_n 0, 1) := by decide +kernel
theorem dL_law_307 : decode cL_law 307 = .ok (.iload 4, 2) := by decide +kernel
theorem dL_law_309 : decode cL_law 309 = .ok (.iconst 1, 1) := by decide +kernel
theorem dL_law_310 : decode cL_law 310 = .ok (.iadd, 1) := by decide +kernel
theorem dL_law_311 : decode cL_law 311 = .ok (.iaload, 1) := by decide +kernel
theorem dL_law_312 : decode cL_law 312 = .ok (.invokevirtual 93, 3) := by decide +kernel
theorem dL_law_315 : decode cL_law 315 = .ok (.pop, 1) := by decide +kernel
theorem dL_law_316 : decode cL_law 316 = .ok (.aload_n 2, 1) := by decide +kernel
theorem dL_law_317 : decode cL_law 317 = .ok (.aload_n 0, 1) := by decide +kernel
theorem dL_law_318 : decode cL_law 318 = .ok (.iload 4, 2) := by decide +kernel
theorem dL_law_320 : decode cL_law 320 = .ok (.iconst 1, 1) := by decide +kernel
theorem dL_law_321 : decode cL_law 321 = .ok (.iadd, 1) := by decide +kernel
theorem dL_law_322 : decode cL_law 322 = .ok (.iaload, 1) := by decide +kernel
theorem dL_law_323 : decode cL_law 323 = .ok (.invokevirtual 96, 3) := by decide +kernel
theorem dL_law_326 : decode cL_law 326 = .ok (.pop, 1) := by decide +kernel
theorem dL_law_327 : decode cL_law 327 = .ok (.goto 462, 3) := by decide +kernel
theorem dL_law_330 : decode cL_law 330 = .ok (.aload_n 1, 1) := by decide +kernel
theorem dL_law_331 : decode cL_law 331 = .ok (.invokevirtual 97, 3) := by decide +kernel
theorem dL_law_334 : decode cL_law 334 = .ok (.pop, 1) := by decide +kernel
theorem dL_law_335 : decode cL_law 335 = .ok (.aload_n 2, 1) := by decide +kernel
theorem dL_law_336 : decode cL_law 336 = .ok (.invokevirtual 100, 3) := by decide +kernel
theorem dL_law_339 : decode cL_law 339 = .ok (.pop, 1) := by decide +kernel
theorem dL_law_340 : decode cL_law 340 = .ok (.goto 449, 3) := by decide +kernel
theorem dL_law_343 : decode cL_law 343 = .ok (.aload_n 1, 1) := by decide +kernel
theorem dL_law_344 : decode cL_law 344 = .ok (.aload_n 0, 1) := by decide +kernel
theorem dL_law_345 : decode cL_law 345 = .ok (.iload 4, 2) := by decide +kernel
theorem dL_law_347 : decode cL_law 347 = .ok (.iconst 1, 1) := by decide +kernel
theorem dL_law_348 : decode cL_law 348 = .ok (.iadd, 1) := by decide +kernel
theorem dL_law_349 : decode cL_law 349 = .ok (.iaload, 1) := by decide +kernel
theorem dL_law_350 : decode cL_law 350 = .ok (.aload_n 0, 1) := by decide +kernel
theorem dL_law_351 : decode cL_law 351 = .ok (.iload 4, 2) := by decide +kernel
theorem dL_law_353 : decode cL_law 353 = .ok (.iconst 2, 1) := by decide +kernel
theorem dL_law_354 : decode cL_law 354 = .ok (.iadd, 1) := by decide +kernel
theorem dL_law_355 : decode cL_law 355 = .ok (.iaload, 1) := by decide +kernel
theorem dL_law_356 : decode cL_law 356 = .ok (.aload_n 3, 1) := by decide +kernel
theorem dL_law_357 : decode cL_law 357 = .ok (.invokestatic 101, 3) := by decide +kernel
theorem dL_law_360 : decode cL_law 360 = .ok (.istore 5, 2) := by decide +kernel
theorem dL_law_362 : decode cL_law 362 = .ok (.aload_n 2, 1) := by decide +kernel
theorem dL_law_363 : decode cL_law 363 = .ok (.aload_n 0, 1) := by decide +kernel
theorem dL_law_364 : decode cL_law 364 = .ok (.iload 4, 2) := by decide +kernel
theorem dL_law_366 : decode cL_law 366 = .ok (.iconst 1, 1) := by decide +kernel
theorem dL_law_367 : decode cL_law 367 = .ok (.iadd, 1) := by decide +kernel
theorem dL_law_368 : decode cL_law 368 = .ok (.iaload, 1) := by decide +kernel
theorem dL_law_369 : decode cL_law 369 = .ok (.aload_n 0, 1) := by decide +kernel
theorem dL_law_370 : decode cL_law 370 = .ok (.iload 4, 2) := by decide +kernel
theorem dL_law_372 : decode cL_law 372 = .ok (.iconst 2, 1) := by decide +kernel
theorem dL_law_373 : decode cL_law 373 = .ok (.iadd, 1) := by decide +kernel
theorem dL_law_374 : decode cL_law 374 = .ok (.iaload, 1) := by decide +kernel
theorem dL_law_375 : decode cL_law 375 = .ok (.invokevirtual 104, 3) := by decide +kernel
theorem dL_law_378 : decode cL_law 378 = .ok (.istore 6, 2) := by decide +kernel
theorem dL_law_380 : decode cL_law 380 = .ok (.goto 409, 3) := by decide +kernel
theorem dL_law_383 : decode cL_law 383 = .ok (.aload_n 1, 1) := by decide +kernel
theorem dL_law_384 : decode cL_law 384 = .ok (.aload_n 0, 1) := by decide +kernel
theorem dL_law_385 : decode cL_law 385 = .ok (.iload 4, 2) := by decide +kernel
theorem dL_law_387 : decode cL_law 387 = .ok (.iconst 1, 1) := by decide +kernel
theorem dL_law_388 : decode cL_law 388 = .ok (.iadd, 1) := by decide +kernel
theorem dL_law_389 : decode cL_law 389 = .ok (.iaload, 1) := by decide +kernel
theorem dL_law_390 : decode cL_law 390 = .ok (.aload_n 0, 1) := by decide +kernel
theorem dL_law_391 : decode cL_law 391 = .ok (.iload 4, 2) := by decide +kernel
theorem dL_law_393 : decode cL_law 393 = .ok (.iconst 2, 1) := by decide +kernel
theorem dL_law_394 : decode cL_law 394 = .ok (.iadd, 1) := by decide +kernel
theorem dL_law_395 : decode cL_law 395 = .ok (.iaload, 1) := by decide +kernel
theorem dL_law_396 : decode cL_law 396 = .ok (.aload_n 3, 1) := by decide +kernel
theorem dL_law_397 : decode cL_law 397 = .ok (.invokestatic 105, 3) := by decide +kernel
theorem dL_law_400 : decode cL_law 400 = .ok (.istore 5, 2) := by decide +kernel
theorem dL_law_402 : decode cL_law 402 = .ok (.aload_n 2, 1) := by decide +kernel
theorem dL_law_403 : decode cL_law 403 = .ok (.aload_n 0, 1) := by decide +kernel
theorem dL_law_404 : decode cL_law 404 = .ok (.iload 4, 2) := by decide +kernel
theorem dL_law_406 : decode cL_law 406 = .ok (.iconst 1, 1) := by decide +kernel
theorem dL_law_407 : decode cL_law 407 = .ok (.iadd, 1) := by decide +kernel
theorem dL_law_408 : decode cL_law 408 = .ok (.iaload, 1) := by decide +kernel
theorem dL_law_409 : decode cL_law 409 = .ok (.aload_n 0, 1) := by decide +kernel
theorem dL_law_410 : decode cL_law 410 = .ok (.iload 4, 2) := by decide +kernel
theorem dL_law_412 : decode cL_law 412 = .ok (.iconst 2, 1) := by decide +kernel
theorem dL_law_413 : decode cL_law 413 = .ok (.iadd, 1) := by decide +kernel
theorem dL_law_414 : decode cL_law 414 = .ok (.iaload, 1) := by decide +kernel
theorem dL_law_415 : decode cL_law 415 = .ok (.invokevirtual 107, 3) := by decide +kernel
theorem dL_law_418 : decode cL_law 418 = .ok (.istore 6, 2) := by decide +kernel
theorem dL_law_420 : decode cL_law 420 = .ok (.goto 369, 3) := by decide +kernel
theorem dL_law_423 : decode cL_law 423 = .ok (.aload_n 1, 1) := by decide +kernel
theorem dL_law_424 : decode cL_law 424 = .ok (.aload_n 0, 1) := by decide +kernel
theorem dL_law_425 : decode cL_law 425 = .ok (.iload 4, 2) := by decide +kernel
theorem dL_law_427 : decode cL_law 427 = .ok (.iconst 1, 1) := by decide +kernel
theorem dL_law_428 : decode cL_law 428 = .ok (.iadd, 1) := by decide +kernel
theorem dL_law_429 : decode cL_law 429 = .ok (.iaload, 1) := by decide +kernel
theorem dL_law_430 : decode cL_law 430 = .ok (.aload_n 0, 1) := by decide +kernel
theorem dL_law_431 : decode cL_law 431 = .ok (.iload 4, 2) := by decide +kernel
theorem dL_law_433 : decode cL_law 433 = .ok (.iconst 2, 1) := by decide +kernel
theorem dL_law_434 : decode cL_law 434 = .ok (.iadd, 1) := by decide +kernel
theorem dL_law_435 : decode cL_law 435 = .ok (.iaload, 1) := by decide +kernel
theorem dL_law_436 : decode cL_law 436 = .ok (.aload_n 3, 1) := by decide +kernel
theorem dL_law_437 : decode cL_law 437 = .ok (.invokestatic 108, 3) := by decide +kernel
theorem dL_law_440 : decode cL_law 440 = .ok (.istore 5, 2) := by decide +kernel
theorem dL_law_442 : decode cL_law 442 = .ok (.aload_n 2, 1) := by decide +kernel
theorem dL_law_443 : decode cL_law 443 = .ok (.aload_n 0, 1) := by decide +kernel
theorem dL_law_444 : decode cL_law 444 = .ok (.iload 4, 2) := by decide +kernel
theorem dL_law_446 : decode cL_law 446 = .ok (.iconst 1, 1) := by decide +kernel
theorem dL_law_447 : decode cL_law 447 = .ok (.iadd, 1) := by decide +kernel
theorem dL_law_448 : decode cL_law 448 = .ok (.iaload, 1) := by decide +kernel
theorem dL_law_449 : decode cL_law 449 = .ok (.aload_n 0, 1) := by decide +kernel
theorem dL_law_450 : decode cL_law 450 = .ok (.iload 4, 2) := by decide +kernel
theorem dL_law_452 : decode cL_law 452 = .ok (.iconst 2, 1) := by decide +kernel
theorem dL_law_453 : decode cL_law 453 = .ok (.iadd, 1) := by decide +kernel
theorem dL_law_454 : decode cL_law 454 = .ok (.iaload, 1) := by decide +kernel
theorem dL_law_455 : decode cL_law 455 = .ok (.invokevirtual 110, 3) := by decide +kernel
theorem dL_law_458 : decode cL_law 458 = .ok (.istore 6, 2) := by decide +kernel
theorem dL_law_460 : decode cL_law 460 = .ok (.goto 329, 3) := by decide +kernel
theorem dL_law_463 : decode cL_law 463 = .ok (.aload_n 1, 1) := by decide +kernel
theorem dL_law_464 : decode cL_law 464 = .ok (.invokevirtual 111, 3) := by decide +kernel
theorem dL_law_467 : decode cL_law 467 = .ok (.pop, 1) := by decide +kernel
theorem dL_law_468 : decode cL_law 468 = .ok (.aload_n 2, 1) := by decide +kernel
theorem dL_law_469 : decode cL_law 469 = .ok (.invokevirtual 114, 3) := by decide +kernel
theorem dL_law_472 : decode cL_law 472 = .ok (.pop, 1) := by decide +kernel
theorem dL_law_473 : decode cL_law 473 = .ok (.goto 316, 3) := by decide +kernel
theorem dL_law_476 : decode cL_law 476 = .ok (.aload_n 1, 1) := by decide +kernel
theorem dL_law_477 : decode cL_law 477 = .ok (.aload_n 0, 1) := by decide +kernel
theorem dL_law_478 : decode cL_law 478 = .ok (.iload 4, 2) := by decide +kernel
theorem dL_law_480 : decode cL_law 480 = .ok (.iconst 1, 1) := by decide +kernel
theorem dL_law_481 : decode cL_law 481 = .ok (.iadd, 1) := by decide +kernel
theorem dL_law_482 : decode cL_law 482 = .ok (.iaload, 1) := by decide +kernel
theorem dL_law_483 : decode cL_law 483 = .ok (.invokestatic 115, 3) := by decide +kernel
theorem dL_law_486 : decode cL_law 486 = .ok (.istore 5, 2) := by decide +kernel
theorem dL_law_488 : decode cL_law 488 = .ok (.aload_n 2, 1) := by decide +kernel
theorem dL_law_489 : decode cL_law 489 = .ok (.aload_n 0, 1) := by decide +kernel
theorem dL_law_490 : decode cL_law 490 = .ok (.iload 4, 2) := by decide +kernel
theorem dL_law_492 : decode cL_law 492 = .ok (.iconst 1, 1) := by decide +kernel
theorem dL_law_493 : decode cL_law 493 = .ok (.iadd, 1) := by decide +kernel
theorem dL_law_494 : decode cL_law 494 = .ok (.iaload, 1) := by decide +kernel
theorem dL_law_495 : decode cL_law 495 = .ok (.invokevirtual 118, 3) := by decide +kernel
theorem dL_law_498 : decode cL_law 498 = .ok (.goto 291, 3) := by decide +kernel
theorem dL_law_501 : decode cL_law 501 = .ok (.aload_n 1, 1) := by decide +kernel
theorem dL_law_502 : decode cL_law 502 = .ok (.aload_n 0, 1) := by decide +kernel
theorem dL_law_503 : decode cL_law 503 = .ok (.iload 4, 2) := by decide +kernel
theorem dL_law_505 : decode cL_law 505 = .ok (.iconst 1, 1) := by decide +kernel
theorem dL_law_506 : decode cL_law 506 = .ok (.iadd, 1) := by decide +kernel
theorem dL_law_507 : decode cL_law 507 = .ok (.iaload, 1) := by decide +kernel
theorem dL_law_508 : decode cL_law 508 = .ok (.aload_n 3, 1) := by decide +kernel
theorem dL_law_509 : decode cL_law 509 = .ok (.invokestatic 119, 3) := by decide +kernel
theorem dL_law_512 : decode cL_law 512 = .ok (.istore 5, 2) := by decide +kernel
theorem dL_law_514 : decode cL_law 514 = .ok (.aload_n 2, 1) := by decide +kernel
theorem dL_law_515 : decode cL_law 515 = .ok (.aload_n 0, 1) := by decide +kernel
theorem dL_law_516 : decode cL_law 516 = .ok (.iload 4, 2) := by decide +kernel
theorem dL_law_518 : decode cL_law 518 = .ok (.iconst 1, 1) := by decide +kernel
theorem dL_law_519 : decode cL_law 519 = .ok (.iadd, 1) := by decide +kernel
theorem dL_law_520 : decode cL_law 520 = .ok (.iaload, 1) := by decide +kernel
theorem dL_law_521 : decode cL_law 521 = .ok (.invokevirtual 121, 3) := by decide +kernel
theorem dL_law_524 : decode cL_law 524 = .ok (.istore 6, 2) := by decide +kernel
theorem dL_law_526 : decode cL_law 526 = .ok (.goto 263, 3) := by decide +kernel
theorem dL_law_529 : decode cL_law 529 = .ok (.aload_n 1, 1) := by decide +kernel
theorem dL_law_530 : decode cL_law 530 = .ok (.aload_n 0, 1) := by decide +kernel
theorem dL_law_531 : decode cL_law 531 = .ok (.iload 4, 2) := by decide +kernel
theorem dL_law_533 : decode cL_law 533 = .ok (.iconst 1, 1) := by decide +kernel
theorem dL_law_534 : decode cL_law 534 = .ok (.iadd, 1) := by decide +kernel
theorem dL_law_535 : decode cL_law 535 = .ok (.iaload, 1) := by decide +kernel
theorem dL_law_536 : decode cL_law 536 = .ok (.invokevirtual 122, 3) := by decide +kernel
theorem dL_law_539 : decode cL_law 539 = .ok (.pop, 1) := by decide +kernel
theorem dL_law_540 : decode cL_law 540 = .ok (.aload_n 2, 1) := by decide +kernel
theorem dL_law_541 : decode cL_law 541 = .ok (.aload_n 0, 1) := by decide +kernel
theorem dL_law_542 : decode cL_law 542 = .ok (.iload 4, 2) := by decide +kernel
theorem dL_law_544 : decode cL_law 544 = .ok (.iconst 1, 1) := by decide +kernel
theorem dL_law_545 : decode cL_law 545 = .ok (.iadd, 1) := by decide +kernel
theorem dL_law_546 : decode cL_law 546 = .ok (.iaload, 1) := by decide +kernel
theorem dL_law_547 : decode cL_law 547 = .ok (.invokevirtual 125, 3) := by decide +kernel
theorem dL_law_550 : decode cL_law 550 = .ok (.pop, 1) := by decide +kernel
theorem dL_law_551 : decode cL_law 551 = .ok (.goto 238, 3) := by decide +kernel
theorem dL_law_554 : decode cL_law 554 = .ok (.aload_n 1, 1) := by decide +kernel
theorem dL_law_555 : decode cL_law 555 = .ok (.aload_n 0, 1) := by decide +kernel
theorem dL_law_556 : decode cL_law 556 = .ok (.iload 4, 2) := by decide +kernel
theorem dL_law_558 : decode cL_law 558 = .ok (.iconst 1, 1) := by decide +kernel
theorem dL_law_559 : decode cL_law 559 = .ok (.iadd, 1) := by decide +kernel
theorem dL_law_560 : decode cL_law 560 = .ok (.iaload, 1) := by decide +kernel
theorem dL_law_561 : decode cL_law 561 = .ok (.aload_n 3, 1) := by decide +kernel
theorem dL_law_562 : decode cL_law 562 = .ok (.invokestatic 126, 3) := by decide +kernel
theorem dL_law_565 : decode cL_law 565 = .ok (.istore 5, 2) := by decide +kernel
theorem dL_law_567 : decode cL_law 567 = .ok (.aload_n 2, 1) := by decide +kernel
theorem dL_law_568 : decode cL_law 568 = .ok (.aload_n 0, 1) := by decide +kernel
theorem dL_law_569 : decode cL_law 569 = .ok (.iload 4, 2) := by decide +kernel
theorem dL_law_571 : decode cL_law 571 = .ok (.iconst 1, 1) := by decide +kernel
theorem dL_law_572 : decode cL_law 572 = .ok (.iadd, 1) := by decide +kernel
theorem dL_law_573 : decode cL_law 573 = .ok (.iaload, 1) := by decide +kernel
theorem dL_law_574 : decode cL_law 574 = .ok (.invokevirtual 128, 3) := by decide +kernel
theorem dL_law_577 : decode cL_law 577 = .ok (.istore 6, 2) := by decide +kernel
theorem dL_law_579 : decode cL_law 579 = .ok (.goto 210, 3) := by decide +kernel
theorem dL_law_582 : decode cL_law 582 = .ok (.aload_n 1, 1) := by decide +kernel
theorem dL_law_583 : decode cL_law 583 = .ok (.aload_n 0, 1) := by decide +kernel
theorem dL_law_584 : decode cL_law 584 = .ok (.iload 4, 2) := by decide +kernel
theorem dL_law_586 : decode cL_law 586 = .ok (.iconst 1, 1) := by decide +kernel
theorem dL_law_587 : decode cL_law 587 = .ok (.iadd, 1) := by decide +kernel
theorem dL_law_588 : decode cL_law 588 = .ok (.iaload, 1) := by decide +kernel
theorem dL_law_589 : decode cL_law 589 = .ok (.aload_n 3, 1) := by decide +kernel
theorem dL_law_590 : decode cL_law 590 = .ok (.invokestatic 129, 3) := by decide +kernel
theorem dL_law_593 : decode cL_law 593 = .ok (.istore 5, 2) := by decide +kernel
theorem dL_law_595 : decode cL_law 595 = .ok (.aload_n 2, 1) := by decide +kernel
theorem dL_law_596 : decode cL_law 596 = .ok (.aload_n 0, 1) := by decide +kernel
theorem dL_law_597 : decode cL_law 597 = .ok (.iload 4, 2) := by decide +kernel
theorem dL_law_599 : decode cL_law 599 = .ok (.iconst 1, 1) := by decide +kernel
theorem dL_law_600 : decode cL_law 600 = .ok (.iadd, 1) := by decide +kernel
theorem dL_law_601 : decode cL_law 601 = .ok (.iaload, 1) := by decide +kernel
theorem dL_law_602 : decode cL_law 602 = .ok (.invokevirtual 131, 3) := by decide +kernel
theorem dL_law_605 : decode cL_law 605 = .ok (.istore 6, 2) := by decide +kernel
theorem dL_law_607 : decode cL_law 607 = .ok (.goto 182, 3) := by decide +kernel
theorem dL_law_610 : decode cL_law 610 = .ok (.aload_n 1, 1) := by decide +kernel
theorem dL_law_611 : decode cL_law 611 = .ok (.aload_n 3, 1) := by decide +kernel
theorem dL_law_612 : decode cL_law 612 = .ok (.invokestatic 132, 3) := by decide +kernel
theorem dL_law_615 : decode cL_law 615 = .ok (.istore 5, 2) := by decide +kernel
theorem dL_law_617 : decode cL_law 617 = .ok (.aload_n 2, 1) := by decide +kernel
theorem dL_law_618 : decode cL_law 618 = .ok (.invokevirtual 135, 3) := by decide +kernel
theorem dL_law_621 : decode cL_law 621 = .ok (.istore 6, 2) := by decide +kernel
theorem dL_law_623 : decode cL_law 623 = .ok (.goto 166, 3) := by decide +kernel
theorem dL_law_626 : decode cL_law 626 = .ok (.aload_n 1, 1) := by decide +kernel
theorem dL_law_627 : decode cL_law 627 = .ok (.aload_n 3, 1) := by decide +kernel
theorem dL_law_628 : decode cL_law 628 = .ok (.invokestatic 136, 3) := by decide +kernel
theorem dL_law_631 : decode cL_law 631 = .ok (.istore 5, 2) := by decide +kernel
theorem dL_law_633 : decode cL_law 633 = .ok (.aload_n 2, 1) := by decide +kernel
theorem dL_law_634 : decode cL_law 634 = .ok (.invokevirtual 138, 3) := by decide +kernel
theorem dL_law_637 : decode cL_law 637 = .ok (.istore 6, 2) := by decide +kernel
theorem dL_law_639 : decode cL_law 639 = .ok (.goto 150, 3) := by decide +kernel
theorem dL_law_642 : decode cL_law 642 = .ok (.aload_n 1, 1) := by decide +kernel
theorem dL_law_643 : decode cL_law 643 = .ok (.aload_n 0, 1) := by decide +kernel
theorem dL_law_644 : decode cL_law 644 = .ok (.iload 4, 2) := by decide +kernel
theorem dL_law_646 : decode cL_law 646 = .ok (.iconst 1, 1) := by decide +kernel
theorem dL_law_647 : decode cL_law 647 = .ok (.iadd, 1) := by decide +kernel
theorem dL_law_648 : decode cL_law 648 = .ok (.iaload, 1) := by decide +kernel
theorem dL_law_649 : decode cL_law 649 = .ok (.invokestatic 139, 3) := by decide +kernel
theorem dL_law_652 : decode cL_law 652 = .ok (.istore 5, 2) := by decide +kernel
theorem dL_law_654 : decode cL_law 654 = .ok (.aload_n 2, 1) := by decide +kernel
theorem dL_law_655 : decode cL_law 655 = .ok (.aload_n 0, 1) := by decide +kernel
theorem dL_law_656 : decode cL_law 656 = .ok (.iload 4, 2) := by decide +kernel
theorem dL_law_658 : decode cL_law 658 = .ok (.iconst 1, 1) := by decide +kernel
theorem dL_law_659 : decode cL_law 659 = .ok (.iadd, 1) := by decide +kernel
theorem dL_law_660 : decode cL_law 660 = .ok (.iaload, 1) := by decide +kernel
theorem dL_law_661 : decode cL_law 661 = .ok (.invokevirtual 141, 3) := by decide +kernel
theorem dL_law_664 : decode cL_law 664 = .ok (.goto 125, 3) := by decide +kernel
theorem dL_law_667 : decode cL_law 667 = .ok (.aload_n 1, 1) := by decide +kernel
theorem dL_law_668 : decode cL_law 668 = .ok (.invokevirtual 142, 3) := by decide +kernel
theorem dL_law_671 : decode cL_law 671 = .ok (.pop, 1) := by decide +kernel
theorem dL_law_672 : decode cL_law 672 = .ok (.aload_n 2, 1) := by decide +kernel
theorem dL_law_673 : decode cL_law 673 = .ok (.invokevirtual 145, 3) := by decide +kernel
theorem dL_law_676 : decode cL_law 676 = .ok (.pop, 1) := by decide +kernel
theorem dL_law_677 : decode cL_law 677 = .ok (.goto 112, 3) := by decide +kernel
theorem dL_law_680 : decode cL_law 680 = .ok (.aload_n 1, 1) := by decide +kernel
theorem dL_law_681 : decode cL_law 681 = .ok (.invokevirtual 146, 3) := by decide +kernel
theorem dL_law_684 : decode cL_law 684 = .ok (.pop, 1) := by decide +kernel
theorem dL_law_685 : decode cL_law 685 = .ok (.aload_n 2, 1) := by decide +kernel
theorem dL_law_686 : decode cL_law 686 = .ok (.invokevirtual 149, 3) := by decide +kernel
theorem dL_law_689 : decode cL_law 689 = .ok (.pop, 1) := by decide +kernel
theorem dL_law_690 : decode cL_law 690 = .ok (.goto 99, 3) := by decide +kernel
theorem dL_law_693 : decode cL_law 693 = .ok (.aload_n 1, 1) := by decide +kernel
theorem dL_law_694 : decode cL_law 694 = .ok (.aload_n 0, 1) := by decide +kernel
theorem dL_law_695 : decode cL_law 695 = .ok (.iload 4, 2) := by decide +kernel
theorem dL_law_697 : decode cL_law 697 = .ok (.iconst 1, 1) := by decide +kernel
theorem dL_law_698 : decode cL_law 698 = .ok (.iadd, 1) := by decide +kernel
theorem dL_law_699 : decode cL_law 699 = .ok (.iaload, 1) := by decide +kernel
theorem dL_law_700 : decode cL_law 700 = .ok (.aload_n 0, 1) := by decide +kernel
theorem dL_law_701 : decode cL_law 701 = .ok (.iload 4, 2) := by decide +kernel
theorem dL_law_703 : decode cL_law 703 = .ok (.iconst 2, 1) := by decide +kernel
theorem dL_law_704 : decode cL_law 704 = .ok (.iadd, 1) := by decide +kernel
theorem dL_law_705 : decode cL_law 705 = .ok (.iaload, 1) := by decide +kernel
theorem dL_law_706 : decode cL_law 706 = .ok (.ifCond .eq 7, 3) := by decide +kernel
theorem dL_law_709 : decode cL_law 709 = .ok (.iconst 1, 1) := by decide +kernel
theorem dL_law_710 : decode cL_law 710 = .ok (.goto 4, 3) := by decide +kernel
theorem dL_law_713 : decode cL_law 713 = .ok (.iconst 0, 1) := by decide +kernel
theorem dL_law_714 : decode cL_law 714 = .ok (.aload_n 0, 1) := by decide +kernel
theorem dL_law_715 : decode cL_law 715 = .ok (.iload 4, 2) := by decide +kernel
theorem dL_law_717 : decode cL_law 717 = .ok (.iconst 3, 1) := by decide +kernel
theorem dL_law_718 : decode cL_law 718 = .ok (.iadd, 1) := by decide +kernel
theorem dL_law_719 : decode cL_law 719 = .ok (.iaload, 1) := by decide +kernel
theorem dL_law_720 : decode cL_law 720 = .ok (.aload_n 3, 1) := by decide +kernel
theorem dL_law_721 : decode cL_law 721 = .ok (.invokestatic 150, 3) := by decide +kernel
theorem dL_law_724 : decode cL_law 724 = .ok (.istore 5, 2) := by decide +kernel
theorem dL_law_726 : decode cL_law 726 = .ok (.aload_n 2, 1) := by decide +kernel
theorem dL_law_727 : decode cL_law 727 = .ok (.aload_n 0, 1) := by decide +kernel
theorem dL_law_728 : decode cL_law 728 = .ok (.iload 4, 2) := by decide +kernel
theorem dL_law_730 : decode cL_law 730 = .ok (.iconst 1, 1) := by decide +kernel
theorem dL_law_731 : decode cL_law 731 = .ok (.iadd, 1) := by decide +kernel
theorem dL_law_732 : decode cL_law 732 = .ok (.iaload, 1) := by decide +kernel
theorem dL_law_733 : decode cL_law 733 = .ok (.aload_n 0, 1) := by decide +kernel
theorem dL_law_734 : decode cL_law 734 = .ok (.iload 4, 2) := by decide +kernel
theorem dL_law_736 : decode cL_law 736 = .ok (.iconst 2, 1) := by decide +kernel
theorem dL_law_737 : decode cL_law 737 = .ok (.iadd, 1) := by decide +kernel
theorem dL_law_738 : decode cL_law 738 = .ok (.iaload, 1) := by decide +kernel
theorem dL_law_739 : decode cL_law 739 = .ok (.ifCond .eq 7, 3) := by decide +kernel
theorem dL_law_742 : decode cL_law 742 = .ok (.iconst 1, 1) := by decide +kernel
theorem dL_law_743 : decode cL_law 743 = .ok (.goto 4, 3) := by decide +kernel
theorem dL_law_746 : decode cL_law 746 = .ok (.iconst 0, 1) := by decide +kernel
theorem dL_law_747 : decode cL_law 747 = .ok (.aload_n 0, 1) := by decide +kernel
theorem dL_law_748 : decode cL_law 748 = .ok (.iload 4, 2) := by decide +kernel
theorem dL_law_750 : decode cL_law 750 = .ok (.iconst 3, 1) := by decide +kernel
theorem dL_law_751 : decode cL_law 751 = .ok (.iadd, 1) := by decide +kernel
theorem dL_law_752 : decode cL_law 752 = .ok (.iaload, 1) := by decide +kernel
theorem dL_law_753 : decode cL_law 753 = .ok (.invokevirtual 153, 3) := by decide +kernel
theorem dL_law_756 : decode cL_law 756 = .ok (.istore 6, 2) := by decide +kernel
theorem dL_law_758 : decode cL_law 758 = .ok (.aload_n 2, 1) := by decide +kernel
theorem dL_law_759 : decode cL_law 759 = .ok (.invokevirtual 154, 3) := by decide +kernel
theorem dL_law_762 : decode cL_law 762 = .ok (.iload 5, 2) := by decide +kernel
theorem dL_law_764 : decode cL_law 764 = .ok (.if_icmp .eq 5, 3) := by decide +kernel
theorem dL_law_767 : decode cL_law 767 = .ok (.iconst 0, 1) := by decide +kernel
theorem dL_law_768 : decode cL_law 768 = .ok (.ireturn, 1) := by decide +kernel
theorem dL_law_769 : decode cL_law 769 = .ok (.iload 5, 2) := by decide +kernel
theorem dL_law_771 : decode cL_law 771 = .ok (.ifCond .ne 15, 3) := by decide +kernel
theorem dL_law_774 : decode cL_law 774 = .ok (.aload_n 3, 1) := by decide +kernel
theorem dL_law_775 : decode cL_law 775 = .ok (.iconst 0, 1) := by decide +kernel
theorem dL_law_776 : decode cL_law 776 = .ok (.laload, 1) := by decide +kernel
theorem dL_law_777 : decode cL_law 777 = .ok (.iload 6, 2) := by decide +kernel
theorem dL_law_779 : decode cL_law 779 = .ok (.i2l, 1) := by decide +kernel
theorem dL_law_780 : decode cL_law 780 = .ok (.lcmp, 1) := by decide +kernel
theorem dL_law_781 : decode cL_law 781 = .ok (.ifCond .eq 5, 3) := by decide +kernel
theorem dL_law_784 : decode cL_law 784 = .ok (.iconst 0, 1) := by decide +kernel
theorem dL_law_785 : decode cL_law 785 = .ok (.ireturn, 1) := by decide +kernel
theorem dL_law_786 : decode cL_law 786 = .ok (.goto 3, 3) := by decide +kernel
theorem dL_law_789 : decode cL_law 789 = .ok (.iinc 4 4, 3) := by decide +kernel
theorem dL_law_792 : decode cL_law 792 = .ok (.goto (-769), 3) := by decide +kernel
theorem dL_law_795 : decode cL_law 795 = .ok (.iconst 1, 1) := by decide +kernel
theorem dL_law_796 : decode cL_law 796 = .ok (.ireturn, 1) := by decide +kernel
end
section
noncomputable def xN (k : Nat) : String := if k = 1 then "java/lang/IllegalArgumentException" else if k = 2 then "java/lang/IndexOutOfBoundsException" else if k = 3 then "java/lang/UnsupportedOperationException" else "java/lang/IllegalStateException"
noncomputable abbrev xNs : List String := ["java/lang/RuntimeException", "java/lang/Exception"]
noncomputable def xEs : List String := ["java/lang/IllegalArgumentException", "java/lang/IndexOutOfBoundsException", "java/lang/UnsupportedOperationException", "java/lang/IllegalStateException"]
theorem xN_in (k : Nat) : xN k ∈ xEs := by
  unfold xN xEs
  by_cases h1 : k = 1
  · rw [if_pos h1]; decide
  · rw [if_neg h1]
    by_cases h2 : k = 2
    · rw [if_pos h2]; decide
    · rw [if_neg h2]
      by_cases h3 : k = 3
      · rw [if_pos h3]; decide
      · rw [if_neg h3]; decide
theorem xN_fit (k : Nat) : Bundle.fit (xN k) = true := by
  have h : ∀ E ∈ xEs, Bundle.fit E = true := by decide +kernel
  exact h _ (xN_in k)
theorem xNs_fit : ∀ n ∈ xNs, Bundle.fit n = true := by decide +kernel
/-- j numbers are left out -/
noncomputable def zsK (S : ZS) (j : Nat) : ZS := (zL S, zK S, zI S, zP S, zN S, zA S, zB S, zc S, zt S + j, zu S + 6)
theorem zW_k (y : Nat → ClassId) (S : ZS) (j : Nat) : zW y (zsK S j) = zW y S := rfl
theorem zG_k {y : Nat → ClassId} {S : ZS} {n n' : Nat} (hg : zG y S n) (h : n ≤ n') : zG y (zsK S (n' - n)) n' := by
  obtain ⟨g1, g2, g3, g4, g5⟩ := hg
  refine ⟨g1, g2, Nat.lt_of_lt_of_le g3 (Nat.le_add_right _ _), ?_, g5⟩
  show n' = y 52 + (zt S + (n' - n))
  omega
/-- what a throw needs of the world around -/
noncomputable def xDs : List String := ["java/lang/RuntimeException", "java/lang/Exception", Bundle.tN]
noncomputable def zX (A : Nat → Prop) (U : State) (H : Heap) : Prop := ((∀ E ∈ xEs, va_Nw (.castable E E) U) ∧ ∀ E ∈ xDs, va_Nw (.declares (Bundle.initS E)) U) ∧ vx_Zq Bundle.tN "UNASSIGNED_STACK" Bundle.steD A U H ∧ vx_Zq Bundle.tN "SUPPRESSED_SENTINEL" Bundle.listD A U H
theorem zX_call {A0 A1 : Nat → Prop} {s U : State} {H : Heap} {locs : List Loc} (h : zX A0 s s.heap) (hS : va_S A0 s.heap H locs) (hA : ∀ q, A1 q → A0 q) (hU : U.heap = H) (hW : s.WarmedH U.vm) : zX A1 U U.heap := by
  obtain ⟨⟨h1, h0⟩, h2, h3⟩ := h
  rw [hU]
  exact ⟨⟨fun E hE => (h1 E hE).warmC hW, fun E hE => (h0 E hE).warmD hW⟩, vx_Zq.moved hW.alike ((h2.kept hS.2.1).narrow hA), vx_Zq.moved hW.alike ((h3.kept hS.2.1).narrow hA)⟩
theorem zX_blind {A : Nat → Prop} {U : State} {g : JFrame} {mk : MethodId} {a : Array Value} (h : zX A U U.heap) : zX A (U.calling g mk a) (U.calling g mk a).heap := by
  obtain ⟨⟨h1, h0⟩, h2, h3⟩ := h
  have hr : U.vm.Alike (U.calling g mk a).vm := Vm.Alike.refl U.vm
  exact ⟨⟨fun E hE => va_Nw.same rfl rfl (h1 E hE), fun E hE => va_Nw.same rfl rfl (h0 E hE)⟩, vx_Zq.moved hr h2, vx_Zq.moved hr h3⟩
noncomputable def zB1 (D : va_G) (y : Nat → ClassId) (S : ZS) (sz : Nat) : State → Prop := fun U => zB0 D y S sz U ∧ zX (va_A (zW y S) sz) U U.heap
/-- what a thrown end leaves -/
noncomputable abbrev zXX (D : va_G) (y : Nat → ClassId) (S : ZS) (sz : Nat) (Px : Nat → ZS → Prop) : String → State → State → Prop := vx_X (fun (u : Nat × ZS) => Px u.1 u.2) (fun E u t => E = xN u.1 ∧ va_P D vwCl (zW y u.2) t.heap ∧ va_D (va_A (zW y S) sz) (zW y u.2) ∧ zG y u.2 t.heap.size) (va_A (zW y S) sz)
/-- a method of the class that answers an int or throws -/
noncomputable def zXi (l : Launch) (q : MethodName) (ws : List Cond) (rm : Room) (av : List Value) (D : va_G) (y : Nat → ClassId) (S : ZS) (mc ms : Nat) (Pw : Int32 → ZS → Prop) (Px : Nat → ZS → Prop) : Prop :=
  ∀ sz : Nat, vx_Met l q ws rm (va_Pc av (zB1 D y S sz)) (va_Qi (fun (r : Int32) (u : ZS) => Pw r u) (fun u t => va_P D vwCl (zW y u) t.heap ∧ va_D (va_A (zW y S) sz) (zW y u) ∧ zG y u t.heap.size) (va_A (zW y S) sz)) (zXX D y S sz Px) mc ms (va_A (zW y S) sz)
noncomputable def zXv (l : Launch) (q : MethodName) (ws : List Cond) (rm : Room) (av : List Value) (D : va_G) (y : Nat → ClassId) (S : ZS) (mc ms : Nat) (Pw : Int32 → ZS → Prop) (Px : Nat → ZS → Prop) : Prop :=
  ∀ sz : Nat, vx_Met l q ws rm (va_Pc av (zB1 D y S sz)) (va_Qv (fun (u : ZS) => Pw 0 u) (fun u t => va_P D vwCl (zW y u) t.heap ∧ va_D (va_A (zW y S) sz) (zW y u) ∧ zG y u t.heap.size) (va_A (zW y S) sz)) (zXX D y S sz Px) mc ms (va_A (zW y S) sz)
noncomputable def zTx (own : String) (Ts : List Cond) (k ik ic : Nat) : Prop := (Cond.classLink own ik (xN k) ∈ Ts ∧ Cond.initialized (xN k) ∈ Ts) ∧ (∀ w ∈ (vx_atS own ic (xN k) xNs).filter goodWord, w ∈ Ts) ∧ (∀ w ∈ (vx_atS own ic (xN k) xNs).filter (fun w => !goodWord w), w ∈ [Cond.castable (xN k) (xN k), Cond.declares (Bundle.initS "java/lang/RuntimeException"), Cond.declares (Bundle.initS "java/lang/Exception"), Cond.declares (Bundle.initS Bundle.tN)]) ∧ ∀ w ∈ Cond.classLink own ik (xN k) :: Cond.initialized (xN k) :: vx_atS own ic (xN k) xNs, vx_ot w = true
noncomputable def zTd (cc : ByteArray) (pc ik is ic : Nat) : Prop := decode cc pc = .ok (.new ik, 3) ∧ decode cc (pc + 3) = .ok (.dup, 1) ∧ ((decode cc (pc + 4) = .ok (.ldc is, 2) ∧ decode cc (pc + 6) = .ok (.invokespecial ic, 3) ∧ decode cc (pc + 9) = .ok (.athrow, 1)) ∨ (decode cc (pc + 4) = .ok (.ldc_w is, 3) ∧ decode cc (pc + 7) = .ok (.invokespecial ic, 3) ∧ decode cc (pc + 10) = .ok (.athrow, 1)))
noncomputable def m_thrP (C T k : Nat) (S : ZS) (Px : Nat → ZS → Prop) : Prop := (1 ≤ C ∧ 6 ≤ T) ∧ ∀ j, Px k (zsK S j)
noncomputable def zQx (p : Program) (l : Launch) (e : Env) (R : Room) (s : State) (m : MethodId) (args : Array Value) (below : List Frame) (meth : Method) (c : Code) (Q : State → Prop) (cc : ByteArray) (D : va_G) (y : Nat → ClassId) (A0 : Nat → Prop) (Px : Nat → ZS → Prop) (own : String) (Ts : List Cond) : Prop :=
  ∀ (k : Nat) (S : ZS) (C T : Nat) (H : Heap) (locs : List Loc) (pc ik is ic : Nat) (ls : Array Slot) (text : String) (sa : Nat), m_thrP C T k S Px → C ≤ R.cells ∧ T ≤ R.slots → zH D y A0 s H locs S → ls.size = c.maxLocals → zTx own Ts k ik ic → (own, is, text, sa) ∈ zSR → zTd cc pc ik is ic → W p l e R s m args below meth c H locs (R.cells - C) (R.slots - T) Q (F0 m pc ls [])
section XL
variable {p : Program} {l : Launch} {e : Env} {R : Room} {s : State} {m : MethodId} {args : Array Value} {below : List Frame} {meth : Method} {c : Code} {cc : ByteArray} {nL : Nat} {D : va_G} {Ts : List Cond} {y : Nat → ClassId} {S0 : ZS} {own : String} {Qc : Array Value → State → Outcome → State → Prop} {Px : Nat → ZS → Prop}
theorem z_thr (X : CallFix p m c cc nL s args Ts own) (hl : l.stackTraces = false) (hxt : ∀ x ∈ c.exceptionTable.toList, False) (hlocks : meth.locks = false) (hZ : zX (va_A (zW y S0) s.heap.size) s s.heap) (hR : 6 ≤ R.frames ∧ 90 ≤ R.locals) :
    zQx p l e R s m args below meth c (vx_MQ below Qc (zXX D y S0 s.heap.size Px) args s R.cells R.slots (va_A (zW y S0) s.heap.size)) cc D y (va_A (zW y S0) s.heap.size) Px own Ts := by
  intro k S C T H locs pc ik is ic ls text sa hp hCT hM hls hT hsr hd
  obtain ⟨⟨hC1, hT1⟩, hp⟩ := hp
  obtain ⟨⟨t1, t2⟩, t3, t4, t5⟩ := hT
  have hat : ∀ w ∈ vx_atS own ic (xN k) xNs, w.before args s = true := vx_hat (fun w hw => X.2.2.2.2 _ (t3 w hw)) t4 (vx_c (va_Nw.use rfl (hZ.1.1 _ (xN_in k))) (vx_c (va_Nw.use rfl (hZ.1.2 _ (by decide))) (vx_c (va_Nw.use rfl (hZ.1.2 _ (by decide))) (vx_c (va_Nw.use rfl (hZ.1.2 _ (by decide))) vx_n))))
  have hstr : vk_R own is text (y (100 + sa)) s := hM.2.2.2.2.2.1.2.2.1 _ hsr
  have hx : ∀ t : State, s.vm.Alike t.vm → H.size ≤ t.heap.size → (∀ q : Nat, q < H.size → t.heap[q]? = H[q]?) → zXX D y S0 s.heap.size Px (xN k) s t := by
    intro t hA hz hq
    refine ⟨(k, zsK S (t.heap.size - H.size)), hp _, ⟨rfl, ?_, ?_, zG_k hM.2.2.2.2.2.2 hz⟩, ?_, ?_⟩
    · show va_P D vwCl (zW y S) t.heap
      exact hM.1.kept (fun k x hx => hq x.1 ((hM.1 k x hx).lt))
    · show va_D _ (zW y S)
      exact hM.2.1
    · exact Nat.le_trans hM.2.2.1.1 hz
    · intro q h1 h2
      rw [hq q (Nat.lt_of_lt_of_le h1 hM.2.2.1.1)]
      exact hM.2.2.1.2.1 q h1 h2
  have hf : xNs.length + 3 < R.frames := Nat.lt_of_lt_of_le (show 2 + 3 < 6 by decide) hR.1
  have hlo : ((([] : List Value).map fun v => v.category).sum + (13 * (xNs.length + 1) + 43)) ≤ R.locals := Nat.le_trans (show 0 + (13 * (2 + 1) + 43) ≤ 90 by decide) hR.2
  obtain ⟨d0, d3, ⟨d4, d6, d9⟩ | ⟨d4, d6, d9⟩⟩ := hd
  · exact vx_throwS (names := xNs) X.1 X.2.1 hl X.2.2.2.1 (xN_fit k) xNs_fit (X.2.2.2.2 _ t1) (X.2.2.2.2 _ t2) hstr hat t5 hZ.2.1 hZ.2.2 hM.2.2.1 hls d0 d3 d4 d6 d9 (fun x hx => (hxt x hx).elim) hf hlo (by omega) (by omega) hlocks hx hM.2.2.1.2.2 (by omega) (by omega)
  · exact vx_throwSW (names := xNs) X.1 X.2.1 hl X.2.2.2.1 (xN_fit k) xNs_fit (X.2.2.2.2 _ t1) (X.2.2.2.2 _ t2) hstr hat t5 hZ.2.1 hZ.2.2 hM.2.2.1 hls d0 d3 d4 d6 d9 (fun x hx => (hxt x hx).elim) hf hlo (by omega) (by omega) hlocks hx hM.2.2.1.2.2 (by omega) (by omega)
end XL
theorem z_xentI {l : Launch} {q : MethodName} {ws ws' : List Cond} {rm : Room} {cc : ByteArray} {maxL : Nat} {ty : FieldType} {av : List Value} {D : va_G} {y : Nat → ClassId} {S : ZS} {mc ms : Nat} {Pw : Int32 → ZS → Prop} {Px : Nat → ZS → Prop} {own : String} (hlt : l.stackTraces = false) (hR : 6 ≤ rm.frames ∧ 90 ≤ rm.locals) (hy : plainName q.cls = true) (hcls : q.cls = own) (hw : ws = Cond.code q cc maxL (some ty) :: ws') (hav : (lg_sl av).length ≤ maxL) (hrm : rm.cells = mc ∧ rm.slots = ms)
    (body : ∀ (p : Program) (e : Env) (s : State) (m : MethodId) (args : Array Value) (below : List Frame) (meth : Method) (c : Code) (A0 : Nat → Prop) (Q : State → Prop) (H : Heap) (locs : List Loc) (ls : Array Slot), CallFix p m c cc maxL s args ws own → zQi p l e rm s m args below meth c Q cc D y A0 ty Pw → zQx p l e rm s m args below meth c Q cc D y A0 Px own ws → zH D y A0 s H locs S → lv_has ls maxL (lv_args 0 av) → W p l e rm s m args below meth c H locs (rm.cells - rm.cells) (rm.slots - rm.slots) Q (F0 m 0 ls [])) : zXi l q ws rm av D y S mc ms Pw Px := by
  intro sz
  refine vx_ofW (cc := cc) (maxL := maxL) (ret := some ty) hy hw ?_
  intro p e s m args below meth c s₁ B hml hxt hv
  obtain ⟨rfl, ⟨hsz, hP, hK, hD0, hE⟩, hZ⟩ := hv
  subst hsz
  have hlocks := B.notSynchronized
  have hr := B.returns
  have X : CallFix p m c cc maxL s av.toArray ws own := ⟨B.exec, B.bytes, hml, by rw [← hcls]; exact findClass_of_methodNamed B.named, atoms_spec (ws := ws) B.pre⟩
  have hl := lv_entry av (n := maxL) hav
  rw [lg_entry_eq]
  have hM : zH D y (va_A (zW y S) s.heap.size) s s.heap [] S := ⟨hP, hD0.self, va_S.rf, hK, fun q hq => Or.inr hq, hE⟩
  obtain ⟨rfl, rfl⟩ := hrm
  refine z_eqCS (c2 := rm.cells - rm.cells) (t2 := rm.slots - rm.slots) (Nat.sub_self _).symm (Nat.sub_self _).symm ?_
  refine body p e s m av.toArray below meth c (va_A (zW y S) s.heap.size) _ s.heap [] _ X ?_ (z_thr X hlt hxt hlocks hZ hR) hM hl
  intro r S1 C T H locs pc ls hp hM hn hdg
  refine W.widen (k := rm.cells) (n := rm.slots) (Nat.sub_le _ _) (Nat.sub_le _ _) ?_
  refine vx_ret ?_
  exact W.zret (v := r) X.1 X.2.1 hr hn (fun t ht hW => ⟨⟨r, S1, rfl, hp, by show va_P D vwCl (zW y S1) t.heap ∧ _; rw [ht]; exact ⟨hM.1, hM.2.1, hM.2.2.2.2.2.2⟩⟩, hM.2.2.1.F ht⟩) hM.2.2.1.2.2 hdg
theorem z_xentV {l : Launch} {q : MethodName} {ws ws' : List Cond} {rm : Room} {cc : ByteArray} {maxL : Nat} {av : List Value} {D : va_G} {y : Nat → ClassId} {S : ZS} {mc ms : Nat} {Pw : Int32 → ZS → Prop} {Px : Nat → ZS → Prop} {own : String} (hlt : l.stackTraces = false) (hR : 6 ≤ rm.frames ∧ 90 ≤ rm.locals) (hy : plainName q.cls = true) (hcls : q.cls = own) (hw : ws = Cond.code q cc maxL none :: ws') (hav : (lg_sl av).length ≤ maxL) (hrm : rm.cells = mc ∧ rm.slots = ms)
    (body : ∀ (p : Program) (e : Env) (s : State) (m : MethodId) (args : Array Value) (below : List Frame) (meth : Method) (c : Code) (A0 : Nat → Prop) (Q : State → Prop) (H : Heap) (locs : List Loc) (ls : Array Slot), CallFix p m c cc maxL s args ws own → zQv p l e rm s m args below meth c Q cc D y A0 Pw → zQx p l e rm s m args below meth c Q cc D y A0 Px own ws → zH D y A0 s H locs S → lv_has ls maxL (lv_args 0 av) → W p l e rm s m args below meth c H locs (rm.cells - rm.cells) (rm.slots - rm.slots) Q (F0 m 0 ls [])) : zXv l q ws rm av D y S mc ms Pw Px := by
  intro sz
  refine vx_ofW (cc := cc) (maxL := maxL) (ret := none) hy hw ?_
  intro p e s m args below meth c s₁ B hml hxt hv
  obtain ⟨rfl, ⟨hsz, hP, hK, hD0, hE⟩, hZ⟩ := hv
  subst hsz
  have hlocks := B.notSynchronized
  have hr := B.returns
  have X : CallFix p m c cc maxL s av.toArray ws own := ⟨B.exec, B.bytes, hml, by rw [← hcls]; exact findClass_of_methodNamed B.named, atoms_spec (ws := ws) B.pre⟩
  have hl := lv_entry av (n := maxL) hav
  rw [lg_entry_eq]
  have hM : zH D y (va_A (zW y S) s.heap.size) s s.heap [] S := ⟨hP, hD0.self, va_S.rf, hK, fun q hq => Or.inr hq, hE⟩
  obtain ⟨rfl, rfl⟩ := hrm
  refine z_eqCS (c2 := rm.cells - rm.cells) (t2 := rm.slots - rm.slots) (Nat.sub_self _).symm (Nat.sub_self _).symm ?_
  refine body p e s m av.toArray below meth c (va_A (zW y S) s.heap.size) _ s.heap [] _ X ?_ (z_thr X hlt hxt hlocks hZ hR) hM hl
  intro S1 C T H locs pc ls hp hM hdg
  refine W.widen (k := rm.cells) (n := rm.slots) (Nat.sub_le _ _) (Nat.sub_le _ _) ?_
  refine vx_ret ?_
  exact W.vret X.1 X.2.1 hr (fun t ht hW => ⟨⟨S1, rfl, hp, by show va_P D vwCl (zW y S1) t.heap ∧ _; rw [ht]; exact ⟨hM.1, hM.2.1, hM.2.2.2.2.2.2⟩⟩, hM.2.2.1.F ht⟩) hM.2.2.1.2.2 hdg
end
section
theorem xh_1 : ∀ w ∈ (vx_atS RX11 148 (xN 1) xNs).filter (fun w => !goodWord w), w ∈ [Cond.castable (xN 1) (xN 1), Cond.declares (Bundle.initS "java/lang/RuntimeException"), Cond.declares (Bundle.initS "java/lang/Exception"), Cond.declares (Bundle.initS Bundle.tN)] := by decide +kernel
theorem xg_1 : ∀ w ∈ Cond.classLink RX11 144 (xN 1) :: Cond.initialized (xN 1) :: vx_atS RX11 148 (xN 1) xNs, vx_ot w = true := by decide +kernel
theorem xh_2 : ∀ w ∈ (vx_atS RX11 169 (xN 2) xNs).filter (fun w => !goodWord w), w ∈ [Cond.castable (xN 2) (xN 2), Cond.declares (Bundle.initS "java/lang/RuntimeException"), Cond.declares (Bundle.initS "java/lang/Exception"), Cond.declares (Bundle.initS Bundle.tN)] := by decide +kernel
theorem xg_2 : ∀ w ∈ Cond.classLink RX11 165 (xN 2) :: Cond.initialized (xN 2) :: vx_atS RX11 169 (xN 2) xNs, vx_ot w = true := by decide +kernel
theorem xh_3 : ∀ w ∈ (vx_atS RX11 216 (xN 3) xNs).filter (fun w => !goodWord w), w ∈ [Cond.castable (xN 3) (xN 3), Cond.declares (Bundle.initS "java/lang/RuntimeException"), Cond.declares (Bundle.initS "java/lang/Exception"), Cond.declares (Bundle.initS Bundle.tN)] := by decide +kernel
theorem xg_3 : ∀ w ∈ Cond.classLink RX11 212 (xN 3) :: Cond.initialized (xN 3) :: vx_atS RX11 216 (xN 3) xNs, vx_ot w = true := by decide +kernel
theorem xh_4 : ∀ w ∈ (vx_atS RX11 229 (xN 4) xNs).filter (fun w => !goodWord w), w ∈ [Cond.castable (xN 4) (xN 4), Cond.declares (Bundle.initS "java/lang/RuntimeException"), Cond.declares (Bundle.initS "java/lang/Exception"), Cond.declares (Bundle.initS Bundle.tN)] := by decide +kernel
theorem xg_4 : ∀ w ∈ Cond.classLink RX11 225 (xN 4) :: Cond.initialized (xN 4) :: vx_atS RX11 229 (xN 4) xNs, vx_ot w = true := by decide +kernel
theorem hd_X11_signs : yX11_signs.cls = RX11 ∧ yX11_signs.cls ≠ "java/lang/invoke/MethodHandle" ∧ yX11_signs.cls ≠ "java/lang/invoke/VarHandle" ∧ (parseMethodDescriptor yX11_signs.desc).map (fun d => d.parameters.length) = some 1 := by decide +kernel
theorem fl_X11_signs_11_1 : Cond.fieldLink RX11 16 "MoveTexts" "out" "LMoveTexts$Row;" ∈ wsX11_signs := by decide +kernel
theorem fl_X11_signs_11_2 : Cond.fieldLink RX11 22 "MoveTexts" "rules" "LMoveTexts$Rules;" ∈ wsX11_signs := by decide +kernel
theorem fl_X11_signs_11_4 : Cond.fieldLink RX11 36 "MoveTexts" "signWriter" "LMoveTexts$SignWriter;" ∈ wsX11_signs := by decide +kernel
theorem fl_X11_signs_11_9 : Cond.fieldLink RX11 68 "MoveTexts" "board" "LMoveTexts$Board;" ∈ wsX11_signs := by decide +kernel
theorem hw_X11_signs_11 : ∀ w ∈ wsX110, w ∈ wsX11_signs := by decide +kernel
theorem sr_X11_signs_146 : (RX11, 146, "not a legal move", 15) ∈ zSR := by decide +kernel
theorem xt_X11_signs_1 : zTx RX11 wsX11_signs 1 144 148 := ⟨by decide +kernel, fun w hw => List.mem_cons_of_mem _ (List.mem_append_right _ hw), xh_1, xg_1⟩
noncomputable def g_X11_signs_0 (Pw : Int32 → ZS → Prop) (Px : Nat → ZS → Prop) (x0 : Nat) (x1 : Int32) (S : ZS) (C T : Nat) : Prop :=
  m_chkQ (zK S x0 = 11) (
  m_calP (zP S 2 x0) (fun b1 =>
  m_chkQ (zK S x0 = 11) (
  m_calP (zP S 9 x0) (fun b2 =>
  m_chkQ (zK S b1 = 7) (
  m_calP (f_X7_isLegal b1 b2 x1 S) (fun o3 =>
  m_ifQ (o3.1 = 0) (
  m_thrP (C) (T) 1 o3.2 Px
  ) (
  m_chkQ (zK o3.2 x0 = 11) (
  m_calP (zP o3.2 1 x0) (fun b4 =>
  m_chkQ (zK o3.2 b4 = 6) (
  m_calP (f_X6_keep b4 (0 : Int32) o3.2) (fun o5 =>
  m_chkQ (zK o5.2 x0 = 11) (
  m_calP (zP o5.2 4 x0) (fun b6 =>
  m_chkQ (zK o5.2 x0 = 11) (
  m_calP (zP o5.2 9 x0) (fun b7 =>
  m_chkQ (zK o5.2 x0 = 11) (
  m_calP (zP o5.2 1 x0) (fun b8 =>
  m_chkQ (zK o5.2 b6 = 9) (
  m_gal (C) (T) (fun mc ms Pw => g_X9_putSigns b6 b7 x1 b8 o5.2 mc ms Pw) (fun r10 S11 C12 T13 =>
  m_chkQ (zK S11 x0 = 11) (
  m_calP (zP S11 1 x0) (fun b14 =>
  m_chkQ (zK S11 b14 = 6) (
  m_calP (f_X6_size b14 S11) (fun o15 =>
  Pw o15.1 o15.2))))))))))))))))
  )))))))

set_option maxRecDepth 100000 in
set_option maxHeartbeats 4000000 in
theorem w_X11_signs_0 {p : Program} {l : Launch} {e : Env} {s : State} {m : MethodId} {args : Array Value} {below : List Frame} {meth : Method} {c : Code} {Q : State → Prop} {D : va_G} {y : Nat → ClassId} {A0 : Nat → Prop} {kc kt : Nat} {Pw : Int32 → ZS → Prop} {Px : Nat → ZS → Prop} (X : CallFix p m c cX11_signs 2 s args wsX11_signs RX11) (hret : zQi p l e ({ frames := 6, cells := kc, slots := kt, locals := 160 } : Room) s m args below meth c Q cX11_signs D y A0 .int Pw) (hthr : zQx p l e ({ frames := 6, cells := kc, slots := kt, locals := 160 } : Room) s m args below meth c Q cX11_signs D y A0 Px RX11 wsX11_signs) {x0 : Nat} {x1 : Int32} {S : ZS} {C T : Nat} {H : Heap} {locs : List Loc} {ls : Array Slot} (hf : g_X11_signs_0 Pw Px x0 x1 S C T) (hCT : C ≤ kc ∧ T ≤ kt) (hM : zH D y A0 s H locs S) (hl : lv_has ls 2 [(0, .ref (zh y x0)), (1, .int x1)]) : W p l e ({ frames := 6, cells := kc, slots := kt, locals := 160 } : Room) s m args below meth c H locs (kc - C) (kt - T) Q (F0 m 0 ls []) := by
  obtain ⟨hx, hb, hml, hown, hts⟩ := id X
  unfold g_X11_signs_0 at hf
  refine lv_aload_n hx hb dX11_signs_0 rfl (lv_at hl 0 rfl) ?_
  obtain ⟨ca, hf⟩ := m_chkPE hf
  replace ca := z_in hM (by decide) ca
  refine z_get (k := 11) (j := 2) (C := RX11) (T := TX11) (N := 10) (fl := zf_11) (v := va_rf ((zP S 2 x0).map (zh y))) X hw_X11_signs_11 hM rfl zc_11 ca (by decide) fl_X11_signs_11_2 rfl dX11_signs_1 ?_
  clear ca
  obtain ⟨b1, hb9, hf⟩ := m_calPE hf
  refine z_topr hb9 ?_
  clear hb9
  refine lv_aload_n hx hb dX11_signs_4 rfl (lv_at hl 0 rfl) ?_
  obtain ⟨ca, hf⟩ := m_chkPE hf
  replace ca := z_in hM (by decide) ca
  refine z_get (k := 11) (j := 9) (C := RX11) (T := TX11) (N := 10) (fl := zf_11) (v := va_rf ((zP S 9 x0).map (zh y))) X hw_X11_signs_11 hM rfl zc_11 ca (by decide) fl_X11_signs_11_9 rfl dX11_signs_5 ?_
  clear ca
  obtain ⟨b2, hb9, hf⟩ := m_calPE hf
  refine z_topr hb9 ?_
  clear hb9
  refine lv_iload_n hx hb dX11_signs_8 rfl (lv_at hl 1 rfl) ?_
  obtain ⟨ca, hf⟩ := m_chkPE hf
  replace ca := z_in hM (by decide) ca
  obtain ⟨o3, ho, hf⟩ := m_calPE hf
  refine z_gcallVi (k := 7) (C := RX7) (T := TX7) (N := 2) (fl := zf_7) X hM rfl zc_7 ca (c_X7_isLegal ho) gX11_signs_X7_isLegal rfl ⟨rfl, rfl⟩ hd_X7_isLegal ⟨Nat.le_of_ble_eq_true rfl, Nat.le_of_ble_eq_true rfl⟩ rfl hl.1 rfl ⟨Nat.sub_le _ _, Nat.sub_le _ _⟩ (Nat.le_of_ble_eq_true rfl) dX11_signs_9 (fun H locs hM => ?_)
  clear ho
  refine lv_if_ne (tgt := 25) hx hb dX11_signs_12 (by decide) (fun cc1 => ?_) (fun cc1 => ?_)
  · replace hf := m_ifPF hf cc1
    refine lv_aload_n hx hb dX11_signs_25 rfl (lv_at hl 0 rfl) ?_
    obtain ⟨ca, hf⟩ := m_chkPE hf
    replace ca := z_in hM (by decide) ca
    refine z_get (k := 11) (j := 1) (C := RX11) (T := TX11) (N := 10) (fl := zf_11) (v := va_rf ((zP o3.2 1 x0).map (zh y))) X hw_X11_signs_11 hM rfl zc_11 ca (by decide) fl_X11_signs_11_1 rfl dX11_signs_26 ?_
    clear ca
    obtain ⟨b4, hb9, hf⟩ := m_calPE hf
    refine z_topr hb9 ?_
    clear hb9
    refine lv_iconst (v := (0 : Int32)) hx hb dX11_signs_29 (by decide) ?_
    obtain ⟨ca, hf⟩ := m_chkPE hf
    replace ca := z_in hM (by decide) ca
    obtain ⟨o5, ho, hf⟩ := m_calPE hf
    refine z_gcallVv (k := 6) (C := RX6) (T := TX6) (N := 2) (fl := zf_6) X hM rfl zc_6 ca (c_X6_keep ho) gX11_signs_X6_keep rfl ⟨rfl, rfl⟩ hd_X6_keep ⟨Nat.le_of_ble_eq_true rfl, Nat.le_of_ble_eq_true rfl⟩ rfl hl.1 rfl ⟨Nat.sub_le _ _, Nat.sub_le _ _⟩ (Nat.le_of_ble_eq_true rfl) dX11_signs_30 (fun H locs hM => ?_)
    clear ho
    refine lv_aload_n hx hb dX11_signs_33 rfl (lv_at hl 0 rfl) ?_
    obtain ⟨ca, hf⟩ := m_chkPE hf
    replace ca := z_in hM (by decide) ca
    refine z_get (k := 11) (j := 4) (C := RX11) (T := TX11) (N := 10) (fl := zf_11) (v := va_rf ((zP o5.2 4 x0).map (zh y))) X hw_X11_signs_11 hM rfl zc_11 ca (by decide) fl_X11_signs_11_4 rfl dX11_signs_34 ?_
    clear ca
    obtain ⟨b6, hb9, hf⟩ := m_calPE hf
    refine z_topr hb9 ?_
    clear hb9
    refine lv_aload_n hx hb dX11_signs_37 rfl (lv_at hl 0 rfl) ?_
    obtain ⟨ca, hf⟩ := m_chkPE hf
    replace ca := z_in hM (by decide) ca
    refine z_get (k := 11) (j := 9) (C := RX11) (T := TX11) (N := 10) (fl := zf_11) (v := va_rf ((zP o5.2 9 x0).map (zh y))) X hw_X11_signs_11 hM rfl zc_11 ca (by decide) fl_X11_signs_11_9 rfl dX11_signs_38 ?_
    clear ca
    obtain ⟨b7, hb9, hf⟩ := m_calPE hf
    refine z_topr hb9 ?_
    clear hb9
    refine lv_iload_n hx hb dX11_signs_41 rfl (lv_at hl 1 rfl) ?_
    refine lv_aload_n hx hb dX11_signs_42 rfl (lv_at hl 0 rfl) ?_
    obtain ⟨ca, hf⟩ := m_chkPE hf
    replace ca := z_in hM (by decide) ca
    refine z_get (k := 11) (j := 1) (C := RX11) (T := TX11) (N := 10) (fl := zf_11) (v := va_rf ((zP o5.2 1 x0).map (zh y))) X hw_X11_signs_11 hM rfl zc_11 ca (by decide) fl_X11_signs_11_1 rfl dX11_signs_43 ?_
    clear ca
    obtain ⟨b8, hb9, hf⟩ := m_calPE hf
    refine z_topr hb9 ?_
    clear hb9
    obtain ⟨ca, hf⟩ := m_chkPE hf
    replace ca := z_in hM (by decide) ca
    obtain ⟨mc, ms, hcm, ho⟩ := m_galE hf
    refine z_wcallVv (k := 9) (C := RX9) (T := TX9) (N := 1) (fl := zf_9) X hM rfl zc_9 ca (c_X9_putSigns ho) gX11_signs_X9_putSigns rfl ⟨rfl, rfl⟩ ⟨by show kc - (C) + mc ≤ kc; omega, by show kt - (T) + ms ≤ kt; omega⟩ hd_X9_putSigns ⟨Nat.le_of_ble_eq_true rfl, Nat.le_of_ble_eq_true rfl⟩ rfl hl.1 rfl (Nat.le_of_ble_eq_true rfl) dX11_signs_46 (fun S11 H locs hf hM => ?_)
    refine z_eqCS (c2 := kc - (C - mc)) (t2 := kt - (T - ms)) (by omega) (by omega) ?_
    replace hCT : C - mc ≤ kc ∧ T - ms ≤ kt := by omega
    generalize C - mc = C12 at hf hCT ⊢
    generalize T - ms = T13 at hf hCT ⊢
    clear ho hcm
    refine lv_aload_n hx hb dX11_signs_49 rfl (lv_at hl 0 rfl) ?_
    obtain ⟨ca, hf⟩ := m_chkPE hf
    replace ca := z_in hM (by decide) ca
    refine z_get (k := 11) (j := 1) (C := RX11) (T := TX11) (N := 10) (fl := zf_11) (v := va_rf ((zP S11 1 x0).map (zh y))) X hw_X11_signs_11 hM rfl zc_11 ca (by decide) fl_X11_signs_11_1 rfl dX11_signs_50 ?_
    clear ca
    obtain ⟨b14, hb9, hf⟩ := m_calPE hf
    refine z_topr hb9 ?_
    clear hb9
    obtain ⟨ca, hf⟩ := m_chkPE hf
    replace ca := z_in hM (by decide) ca
    obtain ⟨o15, ho, hf⟩ := m_calPE hf
    refine z_gcallVi (k := 6) (C := RX6) (T := TX6) (N := 2) (fl := zf_6) X hM rfl zc_6 ca (c_X6_size ho) gX11_signs_X6_size rfl ⟨rfl, rfl⟩ hd_X6_size ⟨Nat.le_of_ble_eq_true rfl, Nat.le_of_ble_eq_true rfl⟩ rfl hl.1 rfl ⟨Nat.sub_le _ _, Nat.sub_le _ _⟩ (Nat.le_of_ble_eq_true rfl) dX11_signs_53 (fun H locs hM => ?_)
    clear ho
    exact hret _ _ _ _ H locs _ ls hf hM rfl dX11_signs_56
  · replace hf := m_ifPT hf cc1
    exact hthr 1 _ _ _ H locs _ _ _ _ ls _ _ hf hCT hM (by rw [hml]; exact hl.1) xt_X11_signs_1 sr_X11_signs_146 ⟨dX11_signs_15, dX11_signs_18, Or.inl ⟨dX11_signs_19, dX11_signs_21, dX11_signs_24⟩⟩
noncomputable def g_X11_signs (x0 : Nat) (x1 : Int32) (S : ZS) (mc ms : Nat) (Pw : Int32 → ZS → Prop) (Px : Nat → ZS → Prop) : Prop := g_X11_signs_0 Pw Px x0 x1 S mc ms
theorem c_X11_signs {l : Launch} {D : va_G} {y : Nat → ClassId} {x0 : Nat} {x1 : Int32} {S : ZS} {kc kt : Nat} {Pw : Int32 → ZS → Prop} {Px : Nat → ZS → Prop} (hlt : l.stackTraces = false) (hf : g_X11_signs x0 x1 S kc kt Pw Px) : zXi l yX11_signs wsX11_signs ({ frames := 6, cells := kc, slots := kt, locals := 160 } : Room) [.ref (zh y x0), .int x1] D y S kc kt Pw Px :=
  z_xentI hlt ⟨Nat.le_of_ble_eq_true rfl, Nat.le_of_ble_eq_true rfl⟩ (own := RX11) (cc := cX11_signs) (maxL := 2) (by decide) rfl rfl (Nat.le_of_ble_eq_true rfl) ⟨rfl, rfl⟩ (fun p e s m args below meth c A0 Q H locs ls X hret hthr hM hl => w_X11_signs_0 X hret hthr hf ⟨Nat.le_refl _, Nat.le_refl _⟩ hM (lv_sub hl [0, 1] rfl))
theorem hd_X11_node : yX11_node.cls = RX11 ∧ yX11_node.cls ≠ "java/lang/invoke/MethodHandle" ∧ yX11_node.cls ≠ "java/lang/invoke/VarHandle" ∧ (parseMethodDescriptor yX11_node.desc).map (fun d => d.parameters.length) = some 2 := by decide +kernel
theorem fl_X11_node_11_7 : Cond.fieldLink RX11 57 "MoveTexts" "game" "LMoveTexts$Game;" ∈ wsX11_node := by decide +kernel
theorem fl_X11_node_4_0 : Cond.fieldLink RX11 170 "MoveTexts$Node" "parent" "I" ∈ wsX11_node := by decide +kernel
theorem fl_X11_node_4_1 : Cond.fieldLink RX11 173 "MoveTexts$Node" "move" "I" ∈ wsX11_node := by decide +kernel
theorem fl_X11_node_4_2 : Cond.fieldLink RX11 128 "MoveTexts$Node" "first" "I" ∈ wsX11_node := by decide +kernel
theorem fl_X11_node_4_3 : Cond.fieldLink RX11 176 "MoveTexts$Node" "next" "I" ∈ wsX11_node := by decide +kernel
theorem fl_X11_node_4_4 : Cond.fieldLink RX11 179 "MoveTexts$Node" "markCount" "I" ∈ wsX11_node := by decide +kernel
theorem fl_X11_node_4_6 : Cond.fieldLink RX11 182 "MoveTexts$Node" "remark" "LMoveTexts$Row;" ∈ wsX11_node := by decide +kernel
theorem hw_X11_node_11 : ∀ w ∈ wsX110, w ∈ wsX11_node := by decide +kernel
theorem hw_X11_node_4 : ∀ w ∈ wsX40, w ∈ wsX11_node := by decide +kernel
theorem sr_X11_node_167 : (RX11, 167, "no such node", 16) ∈ zSR := by decide +kernel
theorem sr_X11_node_185 : (RX11, 185, "no such part of a node", 17) ∈ zSR := by decide +kernel
theorem xt_X11_node_2 : zTx RX11 wsX11_node 2 165 169 := ⟨by decide +kernel, fun w hw => List.mem_cons_of_mem _ (List.mem_append_right _ hw), xh_2, xg_2⟩
noncomputable def g_X11_node_0 (Pw : Int32 → ZS → Prop) (Px : Nat → ZS → Prop) (x0 : Nat) (x1 : Int32) (x2 : Int32) (S : ZS) (C T : Nat) : Prop :=
  m_chkQ (zK S x0 = 11) (
  m_calP (zP S 7 x0) (fun b1 =>
  m_chkQ (zK S b1 = 1) (
  m_calP (f_X1_has b1 x1 S) (fun o2 =>
  m_ifQ (o2.1 = 0) (
  m_thrP (C) (T) 2 o2.2 Px
  ) (
  m_chkQ (zK o2.2 x0 = 11) (
  m_calP (zP o2.2 7 x0) (fun b3 =>
  m_chkQ (zK o2.2 b3 = 1) (
  m_calP (f_X1_at b3 x1 o2.2) (fun o4 =>
  m_ifQ (x2 = (0 : Int32)) (
  m_chkQ (zK o4.2 o4.1 = 4) (
  Pw (zI o4.2 0 o4.1) o4.2)
  ) (
  m_ifQ (x2 = (1 : Int32)) (
  m_chkQ (zK o4.2 o4.1 = 4) (
  Pw (zI o4.2 1 o4.1) o4.2)
  ) (
  m_ifQ (x2 = (2 : Int32)) (
  m_chkQ (zK o4.2 o4.1 = 4) (
  Pw (zI o4.2 2 o4.1) o4.2)
  ) (
  m_ifQ (x2 = (3 : Int32)) (
  m_chkQ (zK o4.2 o4.1 = 4) (
  Pw (zI o4.2 3 o4.1) o4.2)
  ) (
  m_ifQ (x2 = (4 : Int32)) (
  m_chkQ (zK o4.2 o4.1 = 4) (
  Pw (zI o4.2 4 o4.1) o4.2)
  ) (
  m_ifQ (x2 = (5 : Int32)) (
  m_chkQ (zK o4.2 o4.1 = 4) (
  m_calP (zP o4.2 6 o4.1) (fun b5 =>
  m_chkQ (zK o4.2 b5 = 6) (
  m_calP (f_X6_size b5 o4.2) (fun o6 =>
  Pw o6.1 o6.2))))
  ) (
  m_thrP (C) (T) 2 o4.2 Px
  ))))))))))
  )))))

set_option maxRecDepth 100000 in
set_option maxHeartbeats 4000000 in
theorem w_X11_node_0 {p : Program} {l : Launch} {e : Env} {s : State} {m : MethodId} {args : Array Value} {below : List Frame} {meth : Method} {c : Code} {Q : State → Prop} {D : va_G} {y : Nat → ClassId} {A0 : Nat → Prop} {kc kt : Nat} {Pw : Int32 → ZS → Prop} {Px : Nat → ZS → Prop} (X : CallFix p m c cX11_node 4 s args wsX11_node RX11) (hret : zQi p l e ({ frames := 6, cells := kc, slots := kt, locals := 90 } : Room) s m args below meth c Q cX11_node D y A0 .int Pw) (hthr : zQx p l e ({ frames := 6, cells := kc, slots := kt, locals := 90 } : Room) s m args below meth c Q cX11_node D y A0 Px RX11 wsX11_node) {x0 : Nat} {x1 : Int32} {x2 : Int32} {S : ZS} {C T : Nat} {H : Heap} {locs : List Loc} {ls : Array Slot} (hf : g_X11_node_0 Pw Px x0 x1 x2 S C T) (hCT : C ≤ kc ∧ T ≤ kt) (hM : zH D y A0 s H locs S) (hl : lv_has ls 4 [(0, .ref (zh y x0)), (1, .int x1), (2, .int x2)]) : W p l e ({ frames := 6, cells := kc, slots := kt, locals := 90 } : Room) s m args below meth c H locs (kc - C) (kt - T) Q (F0 m 0 ls []) := by
  obtain ⟨hx, hb, hml, hown, hts⟩ := id X
  unfold g_X11_node_0 at hf
  refine lv_aload_n hx hb dX11_node_0 rfl (lv_at hl 0 rfl) ?_
  obtain ⟨ca, hf⟩ := m_chkPE hf
  replace ca := z_in hM (by decide) ca
  refine z_get (k := 11) (j := 7) (C := RX11) (T := TX11) (N := 10) (fl := zf_11) (v := va_rf ((zP S 7 x0).map (zh y))) X hw_X11_node_11 hM rfl zc_11 ca (by decide) fl_X11_node_11_7 rfl dX11_node_1 ?_
  clear ca
  obtain ⟨b1, hb9, hf⟩ := m_calPE hf
  refine z_topr hb9 ?_
  clear hb9
  refine lv_iload_n hx hb dX11_node_4 rfl (lv_at hl 1 rfl) ?_
  obtain ⟨ca, hf⟩ := m_chkPE hf
  replace ca := z_in hM (by decide) ca
  obtain ⟨o2, ho, hf⟩ := m_calPE hf
  refine z_gcallVi (k := 1) (C := RX1) (T := TX1) (N := 8) (fl := zf_1) X hM rfl zc_1 ca (c_X1_has ho) gX11_node_X1_has rfl ⟨rfl, rfl⟩ hd_X1_has ⟨Nat.le_of_ble_eq_true rfl, Nat.le_of_ble_eq_true rfl⟩ rfl hl.1 rfl ⟨Nat.sub_le _ _, Nat.sub_le _ _⟩ (Nat.le_of_ble_eq_true rfl) dX11_node_5 (fun H locs hM => ?_)
  clear ho
  refine lv_if_ne (tgt := 21) hx hb dX11_node_8 (by decide) (fun cc1 => ?_) (fun cc1 => ?_)
  · replace hf := m_ifPF hf cc1
    refine lv_aload_n hx hb dX11_node_21 rfl (lv_at hl 0 rfl) ?_
    obtain ⟨ca, hf⟩ := m_chkPE hf
    replace ca := z_in hM (by decide) ca
    refine z_get (k := 11) (j := 7) (C := RX11) (T := TX11) (N := 10) (fl := zf_11) (v := va_rf ((zP o2.2 7 x0).map (zh y))) X hw_X11_node_11 hM rfl zc_11 ca (by decide) fl_X11_node_11_7 rfl dX11_node_22 ?_
    clear ca
    obtain ⟨b3, hb9, hf⟩ := m_calPE hf
    refine z_topr hb9 ?_
    clear hb9
    refine lv_iload_n hx hb dX11_node_25 rfl (lv_at hl 1 rfl) ?_
    obtain ⟨ca, hf⟩ := m_chkPE hf
    replace ca := z_in hM (by decide) ca
    obtain ⟨o4, ho, hf⟩ := m_calPE hf
    refine z_gcallVr (k := 1) (C := RX1) (T := TX1) (N := 8) (fl := zf_1) X hM rfl zc_1 ca (c_X1_at ho) gX11_node_X1_at rfl ⟨rfl, rfl⟩ hd_X1_at ⟨Nat.le_of_ble_eq_true rfl, Nat.le_of_ble_eq_true rfl⟩ rfl hl.1 rfl ⟨Nat.sub_le _ _, Nat.sub_le _ _⟩ (Nat.le_of_ble_eq_true rfl) dX11_node_26 (fun H locs hM => ?_)
    clear ho
    refine lv_astore_n (lv' := [(3, .ref (zh y o4.1)), (0, .ref (zh y x0)), (1, .int x1), (2, .int x2)]) hx hb dX11_node_29 rfl hl (by decide) rfl (fun ls hl => ?_)
    refine lv_iload_n hx hb dX11_node_30 rfl (lv_at hl 3 rfl) ?_
    by_cases ck0 : x2 = (0 : Int32)
    · replace hf := m_ifPT hf ck0
      refine lv_tableIn (off := 37) (tgt := 68) hx hb dX11_node_31 (by rw [ck0]; decide) (by rw [ck0]; decide) (by rw [ck0]; decide) (by decide) ?_
      refine lv_aload_n hx hb dX11_node_68 rfl (lv_at hl 0 rfl) ?_
      obtain ⟨ca, hf⟩ := m_chkPE hf
      replace ca := z_in hM (by decide) ca
      refine z_get (k := 4) (j := 0) (C := RX4) (T := TX4) (N := 7) (fl := zf_4) (v := .int (zI o4.2 0 o4.1)) X hw_X11_node_4 hM rfl zc_4 ca (by decide) fl_X11_node_4_0 rfl dX11_node_69 ?_
      clear ca
      exact hret _ _ _ _ H locs _ ls hf hM rfl dX11_node_72
    · replace hf := m_ifPF hf ck0
      by_cases ck1 : x2 = (1 : Int32)
      · replace hf := m_ifPT hf ck1
        refine lv_tableIn (off := 42) (tgt := 73) hx hb dX11_node_31 (by rw [ck1]; decide) (by rw [ck1]; decide) (by rw [ck1]; decide) (by decide) ?_
        refine lv_aload_n hx hb dX11_node_73 rfl (lv_at hl 0 rfl) ?_
        obtain ⟨ca, hf⟩ := m_chkPE hf
        replace ca := z_in hM (by decide) ca
        refine z_get (k := 4) (j := 1) (C := RX4) (T := TX4) (N := 7) (fl := zf_4) (v := .int (zI o4.2 1 o4.1)) X hw_X11_node_4 hM rfl zc_4 ca (by decide) fl_X11_node_4_1 rfl dX11_node_74 ?_
        clear ca
        exact hret _ _ _ _ H locs _ ls hf hM rfl dX11_node_77
      · replace hf := m_ifPF hf ck1
        by_cases ck2 : x2 = (2 : Int32)
        · replace hf := m_ifPT hf ck2
          refine lv_tableIn (off := 47) (tgt := 78) hx hb dX11_node_31 (by rw [ck2]; decide) (by rw [ck2]; decide) (by rw [ck2]; decide) (by decide) ?_
          refine lv_aload_n hx hb dX11_node_78 rfl (lv_at hl 0 rfl) ?_
          obtain ⟨ca, hf⟩ := m_chkPE hf
          replace ca := z_in hM (by decide) ca
          refine z_get (k := 4) (j := 2) (C := RX4) (T := TX4) (N := 7) (fl := zf_4) (v := .int (zI o4.2 2 o4.1)) X hw_X11_node_4 hM rfl zc_4 ca (by decide) fl_X11_node_4_2 rfl dX11_node_79 ?_
          clear ca
          exact hret _ _ _ _ H locs _ ls hf hM rfl dX11_node_82
        · replace hf := m_ifPF hf ck2
          by_cases ck3 : x2 = (3 : Int32)
          · replace hf := m_ifPT hf ck3
            refine lv_tableIn (off := 52) (tgt := 83) hx hb dX11_node_31 (by rw [ck3]; decide) (by rw [ck3]; decide) (by rw [ck3]; decide) (by decide) ?_
            refine lv_aload_n hx hb dX11_node_83 rfl (lv_at hl 0 rfl) ?_
            obtain ⟨ca, hf⟩ := m_chkPE hf
            replace ca := z_in hM (by decide) ca
            refine z_get (k := 4) (j := 3) (C := RX4) (T := TX4) (N := 7) (fl := zf_4) (v := .int (zI o4.2 3 o4.1)) X hw_X11_node_4 hM rfl zc_4 ca (by decide) fl_X11_node_4_3 rfl dX11_node_84 ?_
            clear ca
            exact hret _ _ _ _ H locs _ ls hf hM rfl dX11_node_87
          · replace hf := m_ifPF hf ck3
            by_cases ck4 : x2 = (4 : Int32)
            · replace hf := m_ifPT hf ck4
              refine lv_tableIn (off := 57) (tgt := 88) hx hb dX11_node_31 (by rw [ck4]; decide) (by rw [ck4]; decide) (by rw [ck4]; decide) (by decide) ?_
              refine lv_aload_n hx hb dX11_node_88 rfl (lv_at hl 0 rfl) ?_
              obtain ⟨ca, hf⟩ := m_chkPE hf
              replace ca := z_in hM (by decide) ca
              refine z_get (k := 4) (j := 4) (C := RX4) (T := TX4) (N := 7) (fl := zf_4) (v := .int (zI o4.2 4 o4.1)) X hw_X11_node_4 hM rfl zc_4 ca (by decide) fl_X11_node_4_4 rfl dX11_node_89 ?_
              clear ca
              exact hret _ _ _ _ H locs _ ls hf hM rfl dX11_node_92
            · replace hf := m_ifPF hf ck4
              by_cases ck5 : x2 = (5 : Int32)
              · replace hf := m_ifPT hf ck5
                refine lv_tableIn (off := 62) (tgt := 93) hx hb dX11_node_31 (by rw [ck5]; decide) (by rw [ck5]; decide) (by rw [ck5]; decide) (by decide) ?_
                refine lv_aload_n hx hb dX11_node_93 rfl (lv_at hl 0 rfl) ?_
                obtain ⟨ca, hf⟩ := m_chkPE hf
                replace ca := z_in hM (by decide) ca
                refine z_get (k := 4) (j := 6) (C := RX4) (T := TX4) (N := 7) (fl := zf_4) (v := va_rf ((zP o4.2 6 o4.1).map (zh y))) X hw_X11_node_4 hM rfl zc_4 ca (by decide) fl_X11_node_4_6 rfl dX11_node_94 ?_
                clear ca
                obtain ⟨b5, hb9, hf⟩ := m_calPE hf
                refine z_topr hb9 ?_
                clear hb9
                obtain ⟨ca, hf⟩ := m_chkPE hf
                replace ca := z_in hM (by decide) ca
                obtain ⟨o6, ho, hf⟩ := m_calPE hf
                refine z_gcallVi (k := 6) (C := RX6) (T := TX6) (N := 2) (fl := zf_6) X hM rfl zc_6 ca (c_X6_size ho) gX11_node_X6_size rfl ⟨rfl, rfl⟩ hd_X6_size ⟨Nat.le_of_ble_eq_true rfl, Nat.le_of_ble_eq_true rfl⟩ rfl hl.1 rfl ⟨Nat.sub_le _ _, Nat.sub_le _ _⟩ (Nat.le_of_ble_eq_true rfl) dX11_node_97 (fun H locs hM => ?_)
                clear ho
                exact hret _ _ _ _ H locs _ ls hf hM rfl dX11_node_100
              · replace hf := m_ifPF hf ck5
                refine m_tabD (tgt := 101) [(0 : Int32), (1 : Int32), (2 : Int32), (3 : Int32), (4 : Int32), (5 : Int32)] hx hb dX11_node_31 (by decide) (by decide) (List.forall_mem_cons.mpr ⟨ck0, List.forall_mem_cons.mpr ⟨ck1, List.forall_mem_cons.mpr ⟨ck2, List.forall_mem_cons.mpr ⟨ck3, List.forall_mem_cons.mpr ⟨ck4, List.forall_mem_cons.mpr ⟨ck5, fun _ h9 => absurd h9 List.not_mem_nil⟩⟩⟩⟩⟩⟩) (by decide) ?_
                exact hthr 2 _ _ _ H locs _ _ _ _ ls _ _ hf hCT hM (by rw [hml]; exact hl.1) xt_X11_node_2 sr_X11_node_185 ⟨dX11_node_101, dX11_node_104, Or.inl ⟨dX11_node_105, dX11_node_107, dX11_node_110⟩⟩
  · replace hf := m_ifPT hf cc1
    exact hthr 2 _ _ _ H locs _ _ _ _ ls _ _ hf hCT hM (by rw [hml]; exact hl.1) xt_X11_node_2 sr_X11_node_167 ⟨dX11_node_11, dX11_node_14, Or.inl ⟨dX11_node_15, dX11_node_17, dX11_node_20⟩⟩
noncomputable def g_X11_node (x0 : Nat) (x1 : Int32) (x2 : Int32) (S : ZS) (mc ms : Nat) (Pw : Int32 → ZS → Prop) (Px : Nat → ZS → Prop) : Prop := g_X11_node_0 Pw Px x0 x1 x2 S mc ms
theorem c_X11_node {l : Launch} {D : va_G} {y : Nat → ClassId} {x0 : Nat} {x1 : Int32} {x2 : Int32} {S : ZS} {kc kt : Nat} {Pw : Int32 → ZS → Prop} {Px : Nat → ZS → Prop} (hlt : l.stackTraces = false) (hf : g_X11_node x0 x1 x2 S kc kt Pw Px) : zXi l yX11_node wsX11_node ({ frames := 6, cells := kc, slots := kt, locals := 90 } : Room) [.ref (zh y x0), .int x1, .int x2] D y S kc kt Pw Px :=
  z_xentI hlt ⟨Nat.le_of_ble_eq_true rfl, Nat.le_of_ble_eq_true rfl⟩ (own := RX11) (cc := cX11_node) (maxL := 4) (by decide) rfl rfl (Nat.le_of_ble_eq_true rfl) ⟨rfl, rfl⟩ (fun p e s m args below meth c A0 Q H locs ls X hret hthr hM hl => w_X11_node_0 X hret hthr hf ⟨Nat.le_refl _, Nat.le_refl _⟩ hM (lv_sub hl [0, 1, 2] rfl))
theorem hd_X11_mark : yX11_mark.cls = RX11 ∧ yX11_mark.cls ≠ "java/lang/invoke/MethodHandle" ∧ yX11_mark.cls ≠ "java/lang/invoke/VarHandle" ∧ (parseMethodDescriptor yX11_mark.desc).map (fun d => d.parameters.length) = some 2 := by decide +kernel
theorem fl_X11_mark_11_7 : Cond.fieldLink RX11 57 "MoveTexts" "game" "LMoveTexts$Game;" ∈ wsX11_mark := by decide +kernel
theorem fl_X11_mark_4_4 : Cond.fieldLink RX11 179 "MoveTexts$Node" "markCount" "I" ∈ wsX11_mark := by decide +kernel
theorem hw_X11_mark_11 : ∀ w ∈ wsX110, w ∈ wsX11_mark := by decide +kernel
theorem hw_X11_mark_4 : ∀ w ∈ wsX40, w ∈ wsX11_mark := by decide +kernel
theorem sr_X11_mark_187 : (RX11, 187, "no such node or mark", 18) ∈ zSR := by decide +kernel
theorem xt_X11_mark_2 : zTx RX11 wsX11_mark 2 165 169 := ⟨by decide +kernel, fun w hw => List.mem_cons_of_mem _ (List.mem_append_right _ hw), xh_2, xg_2⟩
noncomputable def g_X11_mark_30 (Pw : Int32 → ZS → Prop) (Px : Nat → ZS → Prop) (S : ZS) (C T : Nat) : Prop :=
  m_thrP (C) (T) 2 S Px

set_option maxRecDepth 100000 in
set_option maxHeartbeats 4000000 in
theorem w_X11_mark_30 {p : Program} {l : Launch} {e : Env} {s : State} {m : MethodId} {args : Array Value} {below : List Frame} {meth : Method} {c : Code} {Q : State → Prop} {D : va_G} {y : Nat → ClassId} {A0 : Nat → Prop} {kc kt : Nat} {Pw : Int32 → ZS → Prop} {Px : Nat → ZS → Prop} (X : CallFix p m c cX11_mark 3 s args wsX11_mark RX11) (hret : zQi p l e ({ frames := 6, cells := kc, slots := kt, locals := 90 } : Room) s m args below meth c Q cX11_mark D y A0 .int Pw) (hthr : zQx p l e ({ frames := 6, cells := kc, slots := kt, locals := 90 } : Room) s m args below meth c Q cX11_mark D y A0 Px RX11 wsX11_mark) {S : ZS} {C T : Nat} {H : Heap} {locs : List Loc} {ls : Array Slot} (hf : g_X11_mark_30 Pw Px  S C T) (hCT : C ≤ kc ∧ T ≤ kt) (hM : zH D y A0 s H locs S) (hl : lv_has ls 3 []) : W p l e ({ frames := 6, cells := kc, slots := kt, locals := 90 } : Room) s m args below meth c H locs (kc - C) (kt - T) Q (F0 m 30 ls []) := by
  obtain ⟨hx, hb, hml, hown, hts⟩ := id X
  unfold g_X11_mark_30 at hf
  exact hthr 2 _ _ _ H locs _ _ _ _ ls _ _ hf hCT hM (by rw [hml]; exact hl.1) xt_X11_mark_2 sr_X11_mark_187 ⟨dX11_mark_30, dX11_mark_33, Or.inl ⟨dX11_mark_34, dX11_mark_36, dX11_mark_39⟩⟩
noncomputable def g_X11_mark_0 (Pw : Int32 → ZS → Prop) (Px : Nat → ZS → Prop) (x0 : Nat) (x1 : Int32) (x2 : Int32) (S : ZS) (C T : Nat) : Prop :=
  m_chkQ (zK S x0 = 11) (
  m_calP (zP S 7 x0) (fun b1 =>
  m_chkQ (zK S b1 = 1) (
  m_calP (f_X1_has b1 x1 S) (fun o2 =>
  m_ifQ (o2.1 = 0) (
  g_X11_mark_30 Pw Px  o2.2 (C) (T)
  ) (
  m_ifQ (x2 < 0) (
  g_X11_mark_30 Pw Px  o2.2 (C) (T)
  ) (
  m_chkQ (zK o2.2 x0 = 11) (
  m_calP (zP o2.2 7 x0) (fun b3 =>
  m_chkQ (zK o2.2 b3 = 1) (
  m_calP (f_X1_at b3 x1 o2.2) (fun o4 =>
  m_chkQ (zK o4.2 o4.1 = 4) (
  m_ifQ (x2 < (zI o4.2 4 o4.1)) (
  m_chkQ (zK o4.2 x0 = 11) (
  m_calP (zP o4.2 7 x0) (fun b5 =>
  m_chkQ (zK o4.2 b5 = 1) (
  m_calP (f_X1_at b5 x1 o4.2) (fun o6 =>
  m_chkQ (zK o6.2 o6.1 = 4) (
  m_calP (f_X4_markAt o6.1 x2 o6.2) (fun o7 =>
  Pw o7.1 o7.2))))))
  ) (
  g_X11_mark_30 Pw Px  o4.2 (C) (T)
  ))))))
  )
  )))))

set_option maxRecDepth 100000 in
set_option maxHeartbeats 4000000 in
theorem w_X11_mark_0 {p : Program} {l : Launch} {e : Env} {s : State} {m : MethodId} {args : Array Value} {below : List Frame} {meth : Method} {c : Code} {Q : State → Prop} {D : va_G} {y : Nat → ClassId} {A0 : Nat → Prop} {kc kt : Nat} {Pw : Int32 → ZS → Prop} {Px : Nat → ZS → Prop} (X : CallFix p m c cX11_mark 3 s args wsX11_mark RX11) (hret : zQi p l e ({ frames := 6, cells := kc, slots := kt, locals := 90 } : Room) s m args below meth c Q cX11_mark D y A0 .int Pw) (hthr : zQx p l e ({ frames := 6, cells := kc, slots := kt, locals := 90 } : Room) s m args below meth c Q cX11_mark D y A0 Px RX11 wsX11_mark) {x0 : Nat} {x1 : Int32} {x2 : Int32} {S : ZS} {C T : Nat} {H : Heap} {locs : List Loc} {ls : Array Slot} (hf : g_X11_mark_0 Pw Px x0 x1 x2 S C T) (hCT : C ≤ kc ∧ T ≤ kt) (hM : zH D y A0 s H locs S) (hl : lv_has ls 3 [(0, .ref (zh y x0)), (1, .int x1), (2, .int x2)]) : W p l e ({ frames := 6, cells := kc, slots := kt, locals := 90 } : Room) s m args below meth c H locs (kc - C) (kt - T) Q (F0 m 0 ls []) := by
  obtain ⟨hx, hb, hml, hown, hts⟩ := id X
  unfold g_X11_mark_0 at hf
  refine lv_aload_n hx hb dX11_mark_0 rfl (lv_at hl 0 rfl) ?_
  obtain ⟨ca, hf⟩ := m_chkPE hf
  replace ca := z_in hM (by decide) ca
  refine z_get (k := 11) (j := 7) (C := RX11) (T := TX11) (N := 10) (fl := zf_11) (v := va_rf ((zP S 7 x0).map (zh y))) X hw_X11_mark_11 hM rfl zc_11 ca (by decide) fl_X11_mark_11_7 rfl dX11_mark_1 ?_
  clear ca
  obtain ⟨b1, hb9, hf⟩ := m_calPE hf
  refine z_topr hb9 ?_
  clear hb9
  refine lv_iload_n hx hb dX11_mark_4 rfl (lv_at hl 1 rfl) ?_
  obtain ⟨ca, hf⟩ := m_chkPE hf
  replace ca := z_in hM (by decide) ca
  obtain ⟨o2, ho, hf⟩ := m_calPE hf
  refine z_gcallVi (k := 1) (C := RX1) (T := TX1) (N := 8) (fl := zf_1) X hM rfl zc_1 ca (c_X1_has ho) gX11_mark_X1_has rfl ⟨rfl, rfl⟩ hd_X1_has ⟨Nat.le_of_ble_eq_true rfl, Nat.le_of_ble_eq_true rfl⟩ rfl hl.1 rfl ⟨Nat.sub_le _ _, Nat.sub_le _ _⟩ (Nat.le_of_ble_eq_true rfl) dX11_mark_5 (fun H locs hM => ?_)
  clear ho
  refine lv_if_eq (tgt := 30) hx hb dX11_mark_8 (by decide) (fun cc1 => ?_) (fun cc1 => ?_)
  · replace hf := m_ifPT hf cc1
    exact w_X11_mark_30 X hret hthr hf hCT hM (lv_sub hl [] rfl)
  · replace hf := m_ifPF hf cc1
    refine lv_iload_n hx hb dX11_mark_11 rfl (lv_at hl 2 rfl) ?_
    refine lv_if_lt (tgt := 30) hx hb dX11_mark_12 (by decide) (fun cc1 => ?_) (fun cc1 => ?_)
    · replace hf := m_ifPT hf cc1
      exact w_X11_mark_30 X hret hthr hf hCT hM (lv_sub hl [] rfl)
    · replace hf := m_ifPF hf cc1
      refine lv_iload_n hx hb dX11_mark_15 rfl (lv_at hl 2 rfl) ?_
      refine lv_aload_n hx hb dX11_mark_16 rfl (lv_at hl 0 rfl) ?_
      obtain ⟨ca, hf⟩ := m_chkPE hf
      replace ca := z_in hM (by decide) ca
      refine z_get (k := 11) (j := 7) (C := RX11) (T := TX11) (N := 10) (fl := zf_11) (v := va_rf ((zP o2.2 7 x0).map (zh y))) X hw_X11_mark_11 hM rfl zc_11 ca (by decide) fl_X11_mark_11_7 rfl dX11_mark_17 ?_
      clear ca
      obtain ⟨b3, hb9, hf⟩ := m_calPE hf
      refine z_topr hb9 ?_
      clear hb9
      refine lv_iload_n hx hb dX11_mark_20 rfl (lv_at hl 1 rfl) ?_
      obtain ⟨ca, hf⟩ := m_chkPE hf
      replace ca := z_in hM (by decide) ca
      obtain ⟨o4, ho, hf⟩ := m_calPE hf
      refine z_gcallVr (k := 1) (C := RX1) (T := TX1) (N := 8) (fl := zf_1) X hM rfl zc_1 ca (c_X1_at ho) gX11_mark_X1_at rfl ⟨rfl, rfl⟩ hd_X1_at ⟨Nat.le_of_ble_eq_true rfl, Nat.le_of_ble_eq_true rfl⟩ rfl hl.1 rfl ⟨Nat.sub_le _ _, Nat.sub_le _ _⟩ (Nat.le_of_ble_eq_true rfl) dX11_mark_21 (fun H locs hM => ?_)
      clear ho
      obtain ⟨ca, hf⟩ := m_chkPE hf
      replace ca := z_in hM (by decide) ca
      refine z_get (k := 4) (j := 4) (C := RX4) (T := TX4) (N := 7) (fl := zf_4) (v := .int (zI o4.2 4 o4.1)) X hw_X11_mark_4 hM rfl zc_4 ca (by decide) fl_X11_mark_4_4 rfl dX11_mark_24 ?_
      clear ca
      refine lv_icmp_lt (tgt := 40) hx hb dX11_mark_27 (by decide) (fun cc1 => ?_) (fun cc1 => ?_)
      · replace hf := m_ifPT hf cc1
        refine lv_aload_n hx hb dX11_mark_40 rfl (lv_at hl 0 rfl) ?_
        obtain ⟨ca, hf⟩ := m_chkPE hf
        replace ca := z_in hM (by decide) ca
        refine z_get (k := 11) (j := 7) (C := RX11) (T := TX11) (N := 10) (fl := zf_11) (v := va_rf ((zP o4.2 7 x0).map (zh y))) X hw_X11_mark_11 hM rfl zc_11 ca (by decide) fl_X11_mark_11_7 rfl dX11_mark_41 ?_
        clear ca
        obtain ⟨b5, hb9, hf⟩ := m_calPE hf
        refine z_topr hb9 ?_
        clear hb9
        refine lv_iload_n hx hb dX11_mark_44 rfl (lv_at hl 1 rfl) ?_
        obtain ⟨ca, hf⟩ := m_chkPE hf
        replace ca := z_in hM (by decide) ca
        obtain ⟨o6, ho, hf⟩ := m_calPE hf
        refine z_gcallVr (k := 1) (C := RX1) (T := TX1) (N := 8) (fl := zf_1) X hM rfl zc_1 ca (c_X1_at ho) gX11_mark_X1_at rfl ⟨rfl, rfl⟩ hd_X1_at ⟨Nat.le_of_ble_eq_true rfl, Nat.le_of_ble_eq_true rfl⟩ rfl hl.1 rfl ⟨Nat.sub_le _ _, Nat.sub_le _ _⟩ (Nat.le_of_ble_eq_true rfl) dX11_mark_45 (fun H locs hM => ?_)
        clear ho
        refine lv_iload_n hx hb dX11_mark_48 rfl (lv_at hl 2 rfl) ?_
        obtain ⟨ca, hf⟩ := m_chkPE hf
        replace ca := z_in hM (by decide) ca
        obtain ⟨o7, ho, hf⟩ := m_calPE hf
        refine z_gcallVi (k := 4) (C := RX4) (T := TX4) (N := 7) (fl := zf_4) X hM rfl zc_4 ca (c_X4_markAt ho) gX11_mark_X4_markAt rfl ⟨rfl, rfl⟩ hd_X4_markAt ⟨Nat.le_of_ble_eq_true rfl, Nat.le_of_ble_eq_true rfl⟩ rfl hl.1 rfl ⟨Nat.sub_le _ _, Nat.sub_le _ _⟩ (Nat.le_of_ble_eq_true rfl) dX11_mark_49 (fun H locs hM => ?_)
        clear ho
        exact hret _ _ _ _ H locs _ ls hf hM rfl dX11_mark_52
      · replace hf := m_ifPF hf cc1
        exact w_X11_mark_30 X hret hthr hf hCT hM (lv_sub hl [] rfl)
noncomputable def g_X11_mark (x0 : Nat) (x1 : Int32) (x2 : Int32) (S : ZS) (mc ms : Nat) (Pw : Int32 → ZS → Prop) (Px : Nat → ZS → Prop) : Prop := g_X11_mark_0 Pw Px x0 x1 x2 S mc ms
theorem c_X11_mark {l : Launch} {D : va_G} {y : Nat → ClassId} {x0 : Nat} {x1 : Int32} {x2 : Int32} {S : ZS} {kc kt : Nat} {Pw : Int32 → ZS → Prop} {Px : Nat → ZS → Prop} (hlt : l.stackTraces = false) (hf : g_X11_mark x0 x1 x2 S kc kt Pw Px) : zXi l yX11_mark wsX11_mark ({ frames := 6, cells := kc, slots := kt, locals := 90 } : Room) [.ref (zh y x0), .int x1, .int x2] D y S kc kt Pw Px :=
  z_xentI hlt ⟨Nat.le_of_ble_eq_true rfl, Nat.le_of_ble_eq_true rfl⟩ (own := RX11) (cc := cX11_mark) (maxL := 3) (by decide) rfl rfl (Nat.le_of_ble_eq_true rfl) ⟨rfl, rfl⟩ (fun p e s m args below meth c A0 Q H locs ls X hret hthr hM hl => w_X11_mark_0 X hret hthr hf ⟨Nat.le_refl _, Nat.le_refl _⟩ hM (lv_sub hl [0, 1, 2] rfl))
theorem hd_X11_remark : yX11_remark.cls = RX11 ∧ yX11_remark.cls ≠ "java/lang/invoke/MethodHandle" ∧ yX11_remark.cls ≠ "java/lang/invoke/VarHandle" ∧ (parseMethodDescriptor yX11_remark.desc).map (fun d => d.parameters.length) = some 2 := by decide +kernel
theorem fl_X11_remark_11_7 : Cond.fieldLink RX11 57 "MoveTexts" "game" "LMoveTexts$Game;" ∈ wsX11_remark := by decide +kernel
theorem fl_X11_remark_4_6 : Cond.fieldLink RX11 182 "MoveTexts$Node" "remark" "LMoveTexts$Row;" ∈ wsX11_remark := by decide +kernel
theorem hw_X11_remark_11 : ∀ w ∈ wsX110, w ∈ wsX11_remark := by decide +kernel
theorem hw_X11_remark_4 : ∀ w ∈ wsX40, w ∈ wsX11_remark := by decide +kernel
theorem sr_X11_remark_193 : (RX11, 193, "no such node or character", 19) ∈ zSR := by decide +kernel
theorem xt_X11_remark_2 : zTx RX11 wsX11_remark 2 165 169 := ⟨by decide +kernel, fun w hw => List.mem_cons_of_mem _ (List.mem_append_right _ hw), xh_2, xg_2⟩
noncomputable def g_X11_remark_33 (Pw : Int32 → ZS → Prop) (Px : Nat → ZS → Prop) (S : ZS) (C T : Nat) : Prop :=
  m_thrP (C) (T) 2 S Px

set_option maxRecDepth 100000 in
set_option maxHeartbeats 4000000 in
theorem w_X11_remark_33 {p : Program} {l : Launch} {e : Env} {s : State} {m : MethodId} {args : Array Value} {below : List Frame} {meth : Method} {c : Code} {Q : State → Prop} {D : va_G} {y : Nat → ClassId} {A0 : Nat → Prop} {kc kt : Nat} {Pw : Int32 → ZS → Prop} {Px : Nat → ZS → Prop} (X : CallFix p m c cX11_remark 3 s args wsX11_remark RX11) (hret : zQi p l e ({ frames := 6, cells := kc, slots := kt, locals := 90 } : Room) s m args below meth c Q cX11_remark D y A0 .int Pw) (hthr : zQx p l e ({ frames := 6, cells := kc, slots := kt, locals := 90 } : Room) s m args below meth c Q cX11_remark D y A0 Px RX11 wsX11_remark) {S : ZS} {C T : Nat} {H : Heap} {locs : List Loc} {ls : Array Slot} (hf : g_X11_remark_33 Pw Px  S C T) (hCT : C ≤ kc ∧ T ≤ kt) (hM : zH D y A0 s H locs S) (hl : lv_has ls 3 []) : W p l e ({ frames := 6, cells := kc, slots := kt, locals := 90 } : Room) s m args below meth c H locs (kc - C) (kt - T) Q (F0 m 33 ls []) := by
  obtain ⟨hx, hb, hml, hown, hts⟩ := id X
  unfold g_X11_remark_33 at hf
  exact hthr 2 _ _ _ H locs _ _ _ _ ls _ _ hf hCT hM (by rw [hml]; exact hl.1) xt_X11_remark_2 sr_X11_remark_193 ⟨dX11_remark_33, dX11_remark_36, Or.inl ⟨dX11_remark_37, dX11_remark_39, dX11_remark_42⟩⟩
noncomputable def g_X11_remark_0 (Pw : Int32 → ZS → Prop) (Px : Nat → ZS → Prop) (x0 : Nat) (x1 : Int32) (x2 : Int32) (S : ZS) (C T : Nat) : Prop :=
  m_chkQ (zK S x0 = 11) (
  m_calP (zP S 7 x0) (fun b1 =>
  m_chkQ (zK S b1 = 1) (
  m_calP (f_X1_has b1 x1 S) (fun o2 =>
  m_ifQ (o2.1 = 0) (
  g_X11_remark_33 Pw Px  o2.2 (C) (T)
  ) (
  m_ifQ (x2 < 0) (
  g_X11_remark_33 Pw Px  o2.2 (C) (T)
  ) (
  m_chkQ (zK o2.2 x0 = 11) (
  m_calP (zP o2.2 7 x0) (fun b3 =>
  m_chkQ (zK o2.2 b3 = 1) (
  m_calP (f_X1_at b3 x1 o2.2) (fun o4 =>
  m_chkQ (zK o4.2 o4.1 = 4) (
  m_calP (zP o4.2 6 o4.1) (fun b5 =>
  m_chkQ (zK o4.2 b5 = 6) (
  m_calP (f_X6_size b5 o4.2) (fun o6 =>
  m_ifQ (x2 < o6.1) (
  m_chkQ (zK o6.2 x0 = 11) (
  m_calP (zP o6.2 7 x0) (fun b7 =>
  m_chkQ (zK o6.2 b7 = 1) (
  m_calP (f_X1_at b7 x1 o6.2) (fun o8 =>
  m_chkQ (zK o8.2 o8.1 = 4) (
  m_calP (zP o8.2 6 o8.1) (fun b9 =>
  m_chkQ (zK o8.2 b9 = 6) (
  m_calP (f_X6_at b9 x2 o8.2) (fun o10 =>
  Pw o10.1 o10.2))))))))
  ) (
  g_X11_remark_33 Pw Px  o6.2 (C) (T)
  )))))))))
  )
  )))))

set_option maxRecDepth 100000 in
set_option maxHeartbeats 4000000 in
theorem w_X11_remark_0 {p : Program} {l : Launch} {e : Env} {s : State} {m : MethodId} {args : Array Value} {below : List Frame} {meth : Method} {c : Code} {Q : State → Prop} {D : va_G} {y : Nat → ClassId} {A0 : Nat → Prop} {kc kt : Nat} {Pw : Int32 → ZS → Prop} {Px : Nat → ZS → Prop} (X : CallFix p m c cX11_remark 3 s args wsX11_remark RX11) (hret : zQi p l e ({ frames := 6, cells := kc, slots := kt, locals := 90 } : Room) s m args below meth c Q cX11_remark D y A0 .int Pw) (hthr : zQx p l e ({ frames := 6, cells := kc, slots := kt, locals := 90 } : Room) s m args below meth c Q cX11_remark D y A0 Px RX11 wsX11_remark) {x0 : Nat} {x1 : Int32} {x2 : Int32} {S : ZS} {C T : Nat} {H : Heap} {locs : List Loc} {ls : Array Slot} (hf : g_X11_remark_0 Pw Px x0 x1 x2 S C T) (hCT : C ≤ kc ∧ T ≤ kt) (hM : zH D y A0 s H locs S) (hl : lv_has ls 3 [(0, .ref (zh y x0)), (1, .int x1), (2, .int x2)]) : W p l e ({ frames := 6, cells := kc, slots := kt, locals := 90 } : Room) s m args below meth c H locs (kc - C) (kt - T) Q (F0 m 0 ls []) := by
  obtain ⟨hx, hb, hml, hown, hts⟩ := id X
  unfold g_X11_remark_0 at hf
  refine lv_aload_n hx hb dX11_remark_0 rfl (lv_at hl 0 rfl) ?_
  obtain ⟨ca, hf⟩ := m_chkPE hf
  replace ca := z_in hM (by decide) ca
  refine z_get (k := 11) (j := 7) (C := RX11) (T := TX11) (N := 10) (fl := zf_11) (v := va_rf ((zP S 7 x0).map (zh y))) X hw_X11_remark_11 hM rfl zc_11 ca (by decide) fl_X11_remark_11_7 rfl dX11_remark_1 ?_
  clear ca
  obtain ⟨b1, hb9, hf⟩ := m_calPE hf
  refine z_topr hb9 ?_
  clear hb9
  refine lv_iload_n hx hb dX11_remark_4 rfl (lv_at hl 1 rfl) ?_
  obtain ⟨ca, hf⟩ := m_chkPE hf
  replace ca := z_in hM (by decide) ca
  obtain ⟨o2, ho, hf⟩ := m_calPE hf
  refine z_gcallVi (k := 1) (C := RX1) (T := TX1) (N := 8) (fl := zf_1) X hM rfl zc_1 ca (c_X1_has ho) gX11_remark_X1_has rfl ⟨rfl, rfl⟩ hd_X1_has ⟨Nat.le_of_ble_eq_true rfl, Nat.le_of_ble_eq_true rfl⟩ rfl hl.1 rfl ⟨Nat.sub_le _ _, Nat.sub_le _ _⟩ (Nat.le_of_ble_eq_true rfl) dX11_remark_5 (fun H locs hM => ?_)
  clear ho
  refine lv_if_eq (tgt := 33) hx hb dX11_remark_8 (by decide) (fun cc1 => ?_) (fun cc1 => ?_)
  · replace hf := m_ifPT hf cc1
    exact w_X11_remark_33 X hret hthr hf hCT hM (lv_sub hl [] rfl)
  · replace hf := m_ifPF hf cc1
    refine lv_iload_n hx hb dX11_remark_11 rfl (lv_at hl 2 rfl) ?_
    refine lv_if_lt (tgt := 33) hx hb dX11_remark_12 (by decide) (fun cc1 => ?_) (fun cc1 => ?_)
    · replace hf := m_ifPT hf cc1
      exact w_X11_remark_33 X hret hthr hf hCT hM (lv_sub hl [] rfl)
    · replace hf := m_ifPF hf cc1
      refine lv_iload_n hx hb dX11_remark_15 rfl (lv_at hl 2 rfl) ?_
      refine lv_aload_n hx hb dX11_remark_16 rfl (lv_at hl 0 rfl) ?_
      obtain ⟨ca, hf⟩ := m_chkPE hf
      replace ca := z_in hM (by decide) ca
      refine z_get (k := 11) (j := 7) (C := RX11) (T := TX11) (N := 10) (fl := zf_11) (v := va_rf ((zP o2.2 7 x0).map (zh y))) X hw_X11_remark_11 hM rfl zc_11 ca (by decide) fl_X11_remark_11_7 rfl dX11_remark_17 ?_
      clear ca
      obtain ⟨b3, hb9, hf⟩ := m_calPE hf
      refine z_topr hb9 ?_
      clear hb9
      refine lv_iload_n hx hb dX11_remark_20 rfl (lv_at hl 1 rfl) ?_
      obtain ⟨ca, hf⟩ := m_chkPE hf
      replace ca := z_in hM (by decide) ca
      obtain ⟨o4, ho, hf⟩ := m_calPE hf
      refine z_gcallVr (k := 1) (C := RX1) (T := TX1) (N := 8) (fl := zf_1) X hM rfl zc_1 ca (c_X1_at ho) gX11_remark_X1_at rfl ⟨rfl, rfl⟩ hd_X1_at ⟨Nat.le_of_ble_eq_true rfl, Nat.le_of_ble_eq_true rfl⟩ rfl hl.1 rfl ⟨Nat.sub_le _ _, Nat.sub_le _ _⟩ (Nat.le_of_ble_eq_true rfl) dX11_remark_21 (fun H locs hM => ?_)
      clear ho
      obtain ⟨ca, hf⟩ := m_chkPE hf
      replace ca := z_in hM (by decide) ca
      refine z_get (k := 4) (j := 6) (C := RX4) (T := TX4) (N := 7) (fl := zf_4) (v := va_rf ((zP o4.2 6 o4.1).map (zh y))) X hw_X11_remark_4 hM rfl zc_4 ca (by decide) fl_X11_remark_4_6 rfl dX11_remark_24 ?_
      clear ca
      obtain ⟨b5, hb9, hf⟩ := m_calPE hf
      refine z_topr hb9 ?_
      clear hb9
      obtain ⟨ca, hf⟩ := m_chkPE hf
      replace ca := z_in hM (by decide) ca
      obtain ⟨o6, ho, hf⟩ := m_calPE hf
      refine z_gcallVi (k := 6) (C := RX6) (T := TX6) (N := 2) (fl := zf_6) X hM rfl zc_6 ca (c_X6_size ho) gX11_remark_X6_size rfl ⟨rfl, rfl⟩ hd_X6_size ⟨Nat.le_of_ble_eq_true rfl, Nat.le_of_ble_eq_true rfl⟩ rfl hl.1 rfl ⟨Nat.sub_le _ _, Nat.sub_le _ _⟩ (Nat.le_of_ble_eq_true rfl) dX11_remark_27 (fun H locs hM => ?_)
      clear ho
      refine lv_icmp_lt (tgt := 43) hx hb dX11_remark_30 (by decide) (fun cc1 => ?_) (fun cc1 => ?_)
      · replace hf := m_ifPT hf cc1
        refine lv_aload_n hx hb dX11_remark_43 rfl (lv_at hl 0 rfl) ?_
        obtain ⟨ca, hf⟩ := m_chkPE hf
        replace ca := z_in hM (by decide) ca
        refine z_get (k := 11) (j := 7) (C := RX11) (T := TX11) (N := 10) (fl := zf_11) (v := va_rf ((zP o6.2 7 x0).map (zh y))) X hw_X11_remark_11 hM rfl zc_11 ca (by decide) fl_X11_remark_11_7 rfl dX11_remark_44 ?_
        clear ca
        obtain ⟨b7, hb9, hf⟩ := m_calPE hf
        refine z_topr hb9 ?_
        clear hb9
        refine lv_iload_n hx hb dX11_remark_47 rfl (lv_at hl 1 rfl) ?_
        obtain ⟨ca, hf⟩ := m_chkPE hf
        replace ca := z_in hM (by decide) ca
        obtain ⟨o8, ho, hf⟩ := m_calPE hf
        refine z_gcallVr (k := 1) (C := RX1) (T := TX1) (N := 8) (fl := zf_1) X hM rfl zc_1 ca (c_X1_at ho) gX11_remark_X1_at rfl ⟨rfl, rfl⟩ hd_X1_at ⟨Nat.le_of_ble_eq_true rfl, Nat.le_of_ble_eq_true rfl⟩ rfl hl.1 rfl ⟨Nat.sub_le _ _, Nat.sub_le _ _⟩ (Nat.le_of_ble_eq_true rfl) dX11_remark_48 (fun H locs hM => ?_)
        clear ho
        obtain ⟨ca, hf⟩ := m_chkPE hf
        replace ca := z_in hM (by decide) ca
        refine z_get (k := 4) (j := 6) (C := RX4) (T := TX4) (N := 7) (fl := zf_4) (v := va_rf ((zP o8.2 6 o8.1).map (zh y))) X hw_X11_remark_4 hM rfl zc_4 ca (by decide) fl_X11_remark_4_6 rfl dX11_remark_51 ?_
        clear ca
        obtain ⟨b9, hb9, hf⟩ := m_calPE hf
        refine z_topr hb9 ?_
        clear hb9
        refine lv_iload_n hx hb dX11_remark_54 rfl (lv_at hl 2 rfl) ?_
        obtain ⟨ca, hf⟩ := m_chkPE hf
        replace ca := z_in hM (by decide) ca
        obtain ⟨o10, ho, hf⟩ := m_calPE hf
        refine z_gcallVi (k := 6) (C := RX6) (T := TX6) (N := 2) (fl := zf_6) X hM rfl zc_6 ca (c_X6_at ho) gX11_remark_X6_at rfl ⟨rfl, rfl⟩ hd_X6_at ⟨Nat.le_of_ble_eq_true rfl, Nat.le_of_ble_eq_true rfl⟩ rfl hl.1 rfl ⟨Nat.sub_le _ _, Nat.sub_le _ _⟩ (Nat.le_of_ble_eq_true rfl) dX11_remark_55 (fun H locs hM => ?_)
        clear ho
        exact hret _ _ _ _ H locs _ ls hf hM rfl dX11_remark_58
      · replace hf := m_ifPF hf cc1
        exact w_X11_remark_33 X hret hthr hf hCT hM (lv_sub hl [] rfl)
noncomputable def g_X11_remark (x0 : Nat) (x1 : Int32) (x2 : Int32) (S : ZS) (mc ms : Nat) (Pw : Int32 → ZS → Prop) (Px : Nat → ZS → Prop) : Prop := g_X11_remark_0 Pw Px x0 x1 x2 S mc ms
theorem c_X11_remark {l : Launch} {D : va_G} {y : Nat → ClassId} {x0 : Nat} {x1 : Int32} {x2 : Int32} {S : ZS} {kc kt : Nat} {Pw : Int32 → ZS → Prop} {Px : Nat → ZS → Prop} (hlt : l.stackTraces = false) (hf : g_X11_remark x0 x1 x2 S kc kt Pw Px) : zXi l yX11_remark wsX11_remark ({ frames := 6, cells := kc, slots := kt, locals := 90 } : Room) [.ref (zh y x0), .int x1, .int x2] D y S kc kt Pw Px :=
  z_xentI hlt ⟨Nat.le_of_ble_eq_true rfl, Nat.le_of_ble_eq_true rfl⟩ (own := RX11) (cc := cX11_remark) (maxL := 3) (by decide) rfl rfl (Nat.le_of_ble_eq_true rfl) ⟨rfl, rfl⟩ (fun p e s m args below meth c A0 Q H locs ls X hret hthr hM hl => w_X11_remark_0 X hret hthr hf ⟨Nat.le_refl _, Nat.le_refl _⟩ hM (lv_sub hl [0, 1, 2] rfl))
theorem hd_X11_go : yX11_go.cls = RX11 ∧ yX11_go.cls ≠ "java/lang/invoke/MethodHandle" ∧ yX11_go.cls ≠ "java/lang/invoke/VarHandle" ∧ (parseMethodDescriptor yX11_go.desc).map (fun d => d.parameters.length) = some 1 := by decide +kernel
theorem fl_X11_go_11_7 : Cond.fieldLink RX11 57 "MoveTexts" "game" "LMoveTexts$Game;" ∈ wsX11_go := by decide +kernel
theorem fl_X11_go_11_8 : Cond.fieldLink RX11 61 "MoveTexts" "here" "I" ∈ wsX11_go := by decide +kernel
theorem fl_X11_go_11_9 : Cond.fieldLink RX11 68 "MoveTexts" "board" "LMoveTexts$Board;" ∈ wsX11_go := by decide +kernel
theorem hw_X11_go_11 : ∀ w ∈ wsX110, w ∈ wsX11_go := by decide +kernel
theorem sr_X11_go_167 : (RX11, 167, "no such node", 16) ∈ zSR := by decide +kernel
theorem xt_X11_go_2 : zTx RX11 wsX11_go 2 165 169 := ⟨by decide +kernel, fun w hw => List.mem_cons_of_mem _ (List.mem_append_right _ hw), xh_2, xg_2⟩
noncomputable def g_X11_go_0 (Pw : Int32 → ZS → Prop) (Px : Nat → ZS → Prop) (x0 : Nat) (x1 : Int32) (S : ZS) (C T : Nat) : Prop :=
  m_chkQ (zK S x0 = 11) (
  m_calP (zP S 7 x0) (fun b1 =>
  m_chkQ (zK S b1 = 1) (
  m_calP (f_X1_has b1 x1 S) (fun o2 =>
  m_ifQ (o2.1 = 0) (
  m_thrP (C) (T) 2 o2.2 Px
  ) (
  m_chkQ (zK o2.2 x0 = 11) (
  m_bndP (zsI o2.2 8 x0 x1) (fun S3 =>
  m_chkQ (zK S3 x0 = 11) (
  m_calP (zP S3 7 x0) (fun b4 =>
  m_chkQ (zK S3 x0 = 11) (
  m_calP (zP S3 9 x0) (fun b5 =>
  m_chkQ (zK S3 b4 = 1) (
  m_calP (f_X1_standAt b4 x1 b5 S3) (fun o6 =>
  Pw 0 o6.2))))))))
  )))))

set_option maxRecDepth 100000 in
set_option maxHeartbeats 4000000 in
theorem w_X11_go_0 {p : Program} {l : Launch} {e : Env} {s : State} {m : MethodId} {args : Array Value} {below : List Frame} {meth : Method} {c : Code} {Q : State → Prop} {D : va_G} {y : Nat → ClassId} {A0 : Nat → Prop} {kc kt : Nat} {Pw : Int32 → ZS → Prop} {Px : Nat → ZS → Prop} (X : CallFix p m c cX11_go 2 s args wsX11_go RX11) (hret : zQv p l e ({ frames := 6, cells := kc, slots := kt, locals := 106 } : Room) s m args below meth c Q cX11_go D y A0 Pw) (hthr : zQx p l e ({ frames := 6, cells := kc, slots := kt, locals := 106 } : Room) s m args below meth c Q cX11_go D y A0 Px RX11 wsX11_go) {x0 : Nat} {x1 : Int32} {S : ZS} {C T : Nat} {H : Heap} {locs : List Loc} {ls : Array Slot} (hf : g_X11_go_0 Pw Px x0 x1 S C T) (hCT : C ≤ kc ∧ T ≤ kt) (hM : zH D y A0 s H locs S) (hl : lv_has ls 2 [(0, .ref (zh y x0)), (1, .int x1)]) : W p l e ({ frames := 6, cells := kc, slots := kt, locals := 106 } : Room) s m args below meth c H locs (kc - C) (kt - T) Q (F0 m 0 ls []) := by
  obtain ⟨hx, hb, hml, hown, hts⟩ := id X
  unfold g_X11_go_0 at hf
  refine lv_aload_n hx hb dX11_go_0 rfl (lv_at hl 0 rfl) ?_
  obtain ⟨ca, hf⟩ := m_chkPE hf
  replace ca := z_in hM (by decide) ca
  refine z_get (k := 11) (j := 7) (C := RX11) (T := TX11) (N := 10) (fl := zf_11) (v := va_rf ((zP S 7 x0).map (zh y))) X hw_X11_go_11 hM rfl zc_11 ca (by decide) fl_X11_go_11_7 rfl dX11_go_1 ?_
  clear ca
  obtain ⟨b1, hb9, hf⟩ := m_calPE hf
  refine z_topr hb9 ?_
  clear hb9
  refine lv_iload_n hx hb dX11_go_4 rfl (lv_at hl 1 rfl) ?_
  obtain ⟨ca, hf⟩ := m_chkPE hf
  replace ca := z_in hM (by decide) ca
  obtain ⟨o2, ho, hf⟩ := m_calPE hf
  refine z_gcallVi (k := 1) (C := RX1) (T := TX1) (N := 8) (fl := zf_1) X hM rfl zc_1 ca (c_X1_has ho) gX11_go_X1_has rfl ⟨rfl, rfl⟩ hd_X1_has ⟨Nat.le_of_ble_eq_true rfl, Nat.le_of_ble_eq_true rfl⟩ rfl hl.1 rfl ⟨Nat.sub_le _ _, Nat.sub_le _ _⟩ (Nat.le_of_ble_eq_true rfl) dX11_go_5 (fun H locs hM => ?_)
  clear ho
  refine lv_if_ne (tgt := 21) hx hb dX11_go_8 (by decide) (fun cc1 => ?_) (fun cc1 => ?_)
  · replace hf := m_ifPF hf cc1
    refine lv_aload_n hx hb dX11_go_21 rfl (lv_at hl 0 rfl) ?_
    refine lv_iload_n hx hb dX11_go_22 rfl (lv_at hl 1 rfl) ?_
    obtain ⟨ca, hf⟩ := m_chkPE hf
    replace ca := z_in hM (by decide) ca
    refine z_putI (k := 11) (j := 8) (C := RX11) (T := TX11) (N := 10) (fl := zf_11) (ty := .int) X hw_X11_go_11 tyX11_ok nmX11 hM rfl zc_11 ca (by decide) fl_X11_go_11_8 rfl (tyX11_ok 8 (by decide)) rfl rfl zi_11_8 (Nat.le_of_ble_eq_true rfl) dX11_go_23 (fun H locs hM => ?_)
    clear ca
    obtain ⟨S3, ev, hf⟩ := m_bndPE hf
    replace hM := z_hS hM ev
    clear ev
    refine lv_aload_n hx hb dX11_go_26 rfl (lv_at hl 0 rfl) ?_
    obtain ⟨ca, hf⟩ := m_chkPE hf
    replace ca := z_in hM (by decide) ca
    refine z_get (k := 11) (j := 7) (C := RX11) (T := TX11) (N := 10) (fl := zf_11) (v := va_rf ((zP S3 7 x0).map (zh y))) X hw_X11_go_11 hM rfl zc_11 ca (by decide) fl_X11_go_11_7 rfl dX11_go_27 ?_
    clear ca
    obtain ⟨b4, hb9, hf⟩ := m_calPE hf
    refine z_topr hb9 ?_
    clear hb9
    refine lv_iload_n hx hb dX11_go_30 rfl (lv_at hl 1 rfl) ?_
    refine lv_aload_n hx hb dX11_go_31 rfl (lv_at hl 0 rfl) ?_
    obtain ⟨ca, hf⟩ := m_chkPE hf
    replace ca := z_in hM (by decide) ca
    refine z_get (k := 11) (j := 9) (C := RX11) (T := TX11) (N := 10) (fl := zf_11) (v := va_rf ((zP S3 9 x0).map (zh y))) X hw_X11_go_11 hM rfl zc_11 ca (by decide) fl_X11_go_11_9 rfl dX11_go_32 ?_
    clear ca
    obtain ⟨b5, hb9, hf⟩ := m_calPE hf
    refine z_topr hb9 ?_
    clear hb9
    obtain ⟨ca, hf⟩ := m_chkPE hf
    replace ca := z_in hM (by decide) ca
    obtain ⟨o6, ho, hf⟩ := m_calPE hf
    refine z_gcallVv (k := 1) (C := RX1) (T := TX1) (N := 8) (fl := zf_1) X hM rfl zc_1 ca (c_X1_standAt ho) gX11_go_X1_standAt rfl ⟨rfl, rfl⟩ hd_X1_standAt ⟨Nat.le_of_ble_eq_true rfl, Nat.le_of_ble_eq_true rfl⟩ rfl hl.1 rfl ⟨Nat.sub_le _ _, Nat.sub_le _ _⟩ (Nat.le_of_ble_eq_true rfl) dX11_go_35 (fun H locs hM => ?_)
    clear ho
    exact hret _ _ _ H locs _ ls hf hM dX11_go_38
  · replace hf := m_ifPT hf cc1
    exact hthr 2 _ _ _ H locs _ _ _ _ ls _ _ hf hCT hM (by rw [hml]; exact hl.1) xt_X11_go_2 sr_X11_go_167 ⟨dX11_go_11, dX11_go_14, Or.inl ⟨dX11_go_15, dX11_go_17, dX11_go_20⟩⟩
noncomputable def g_X11_go (x0 : Nat) (x1 : Int32) (S : ZS) (mc ms : Nat) (Pw : Int32 → ZS → Prop) (Px : Nat → ZS → Prop) : Prop := g_X11_go_0 Pw Px x0 x1 S mc ms
theorem c_X11_go {l : Launch} {D : va_G} {y : Nat → ClassId} {x0 : Nat} {x1 : Int32} {S : ZS} {kc kt : Nat} {Pw : Int32 → ZS → Prop} {Px : Nat → ZS → Prop} (hlt : l.stackTraces = false) (hf : g_X11_go x0 x1 S kc kt Pw Px) : zXv l yX11_go wsX11_go ({ frames := 6, cells := kc, slots := kt, locals := 106 } : Room) [.ref (zh y x0), .int x1] D y S kc kt Pw Px :=
  z_xentV hlt ⟨Nat.le_of_ble_eq_true rfl, Nat.le_of_ble_eq_true rfl⟩ (own := RX11) (cc := cX11_go) (maxL := 2) (by decide) rfl rfl (Nat.le_of_ble_eq_true rfl) ⟨rfl, rfl⟩ (fun p e s m args below meth c A0 Q H locs ls X hret hthr hM hl => w_X11_go_0 X hret hthr hf ⟨Nat.le_refl _, Nat.le_refl _⟩ hM (lv_sub hl [0, 1] rfl))
theorem hd_X11_man : yX11_man.cls = RX11 ∧ yX11_man.cls ≠ "java/lang/invoke/MethodHandle" ∧ yX11_man.cls ≠ "java/lang/invoke/VarHandle" ∧ (parseMethodDescriptor yX11_man.desc).map (fun d => d.parameters.length) = some 1 := by decide +kernel
theorem fl_X11_man_0_0 : Cond.fieldLink RX11 197 "MoveTexts$Board" "men" "[I" ∈ wsX11_man := by decide +kernel
theorem fl_X11_man_11_9 : Cond.fieldLink RX11 68 "MoveTexts" "board" "LMoveTexts$Board;" ∈ wsX11_man := by decide +kernel
theorem hw_X11_man_0 : ∀ w ∈ wsX00, w ∈ wsX11_man := by decide +kernel
theorem hw_X11_man_11 : ∀ w ∈ wsX110, w ∈ wsX11_man := by decide +kernel
theorem sr_X11_man_195 : (RX11, 195, "no such square", 20) ∈ zSR := by decide +kernel
theorem xt_X11_man_2 : zTx RX11 wsX11_man 2 165 169 := ⟨by decide +kernel, fun w hw => List.mem_cons_of_mem _ (List.mem_append_right _ hw), xh_2, xg_2⟩
noncomputable def g_X11_man_10 (Pw : Int32 → ZS → Prop) (Px : Nat → ZS → Prop) (S : ZS) (C T : Nat) : Prop :=
  m_thrP (C) (T) 2 S Px

set_option maxRecDepth 100000 in
set_option maxHeartbeats 4000000 in
theorem w_X11_man_10 {p : Program} {l : Launch} {e : Env} {s : State} {m : MethodId} {args : Array Value} {below : List Frame} {meth : Method} {c : Code} {Q : State → Prop} {D : va_G} {y : Nat → ClassId} {A0 : Nat → Prop} {kc kt : Nat} {Pw : Int32 → ZS → Prop} {Px : Nat → ZS → Prop} (X : CallFix p m c cX11_man 2 s args wsX11_man RX11) (hret : zQi p l e ({ frames := 6, cells := kc, slots := kt, locals := 90 } : Room) s m args below meth c Q cX11_man D y A0 .int Pw) (hthr : zQx p l e ({ frames := 6, cells := kc, slots := kt, locals := 90 } : Room) s m args below meth c Q cX11_man D y A0 Px RX11 wsX11_man) {S : ZS} {C T : Nat} {H : Heap} {locs : List Loc} {ls : Array Slot} (hf : g_X11_man_10 Pw Px  S C T) (hCT : C ≤ kc ∧ T ≤ kt) (hM : zH D y A0 s H locs S) (hl : lv_has ls 2 []) : W p l e ({ frames := 6, cells := kc, slots := kt, locals := 90 } : Room) s m args below meth c H locs (kc - C) (kt - T) Q (F0 m 10 ls []) := by
  obtain ⟨hx, hb, hml, hown, hts⟩ := id X
  unfold g_X11_man_10 at hf
  exact hthr 2 _ _ _ H locs _ _ _ _ ls _ _ hf hCT hM (by rw [hml]; exact hl.1) xt_X11_man_2 sr_X11_man_195 ⟨dX11_man_10, dX11_man_13, Or.inl ⟨dX11_man_14, dX11_man_16, dX11_man_19⟩⟩
noncomputable def g_X11_man_0 (Pw : Int32 → ZS → Prop) (Px : Nat → ZS → Prop) (x0 : Nat) (x1 : Int32) (S : ZS) (C T : Nat) : Prop :=
  m_ifQ (x1 < 0) (
  g_X11_man_10 Pw Px  S (C) (T)
  ) (
  m_ifQ (x1 < (64 : Int32)) (
  m_chkQ (zK S x0 = 11) (
  m_calP (zP S 9 x0) (fun b1 =>
  m_chkQ (zK S b1 = 0) (
  m_calP (zP S 0 b1) (fun b2 =>
  m_chkQ (zK S b2 = 14) (
  m_chkQ (¬ (x1 < 0 ∨ zN S b2 ≤ (x1).toNatClampNeg)) (
  m_bndP (zA S b2 (x1).toNatClampNeg) (fun v3 =>
  Pw v3 S)))))))
  ) (
  g_X11_man_10 Pw Px  S (C) (T)
  )
  )

set_option maxRecDepth 100000 in
set_option maxHeartbeats 4000000 in
theorem w_X11_man_0 {p : Program} {l : Launch} {e : Env} {s : State} {m : MethodId} {args : Array Value} {below : List Frame} {meth : Method} {c : Code} {Q : State → Prop} {D : va_G} {y : Nat → ClassId} {A0 : Nat → Prop} {kc kt : Nat} {Pw : Int32 → ZS → Prop} {Px : Nat → ZS → Prop} (X : CallFix p m c cX11_man 2 s args wsX11_man RX11) (hret : zQi p l e ({ frames := 6, cells := kc, slots := kt, locals := 90 } : Room) s m args below meth c Q cX11_man D y A0 .int Pw) (hthr : zQx p l e ({ frames := 6, cells := kc, slots := kt, locals := 90 } : Room) s m args below meth c Q cX11_man D y A0 Px RX11 wsX11_man) {x0 : Nat} {x1 : Int32} {S : ZS} {C T : Nat} {H : Heap} {locs : List Loc} {ls : Array Slot} (hf : g_X11_man_0 Pw Px x0 x1 S C T) (hCT : C ≤ kc ∧ T ≤ kt) (hM : zH D y A0 s H locs S) (hl : lv_has ls 2 [(0, .ref (zh y x0)), (1, .int x1)]) : W p l e ({ frames := 6, cells := kc, slots := kt, locals := 90 } : Room) s m args below meth c H locs (kc - C) (kt - T) Q (F0 m 0 ls []) := by
  obtain ⟨hx, hb, hml, hown, hts⟩ := id X
  unfold g_X11_man_0 at hf
  refine lv_iload_n hx hb dX11_man_0 rfl (lv_at hl 1 rfl) ?_
  refine lv_if_lt (tgt := 10) hx hb dX11_man_1 (by decide) (fun cc1 => ?_) (fun cc1 => ?_)
  · replace hf := m_ifPT hf cc1
    exact w_X11_man_10 X hret hthr hf hCT hM (lv_sub hl [] rfl)
  · replace hf := m_ifPF hf cc1
    refine lv_iload_n hx hb dX11_man_4 rfl (lv_at hl 1 rfl) ?_
    refine lv_bipush (v := (64 : Int32)) hx hb dX11_man_5 (by decide) ?_
    refine lv_icmp_lt (tgt := 20) hx hb dX11_man_7 (by decide) (fun cc1 => ?_) (fun cc1 => ?_)
    · replace hf := m_ifPT hf cc1
      refine lv_aload_n hx hb dX11_man_20 rfl (lv_at hl 0 rfl) ?_
      obtain ⟨ca, hf⟩ := m_chkPE hf
      replace ca := z_in hM (by decide) ca
      refine z_get (k := 11) (j := 9) (C := RX11) (T := TX11) (N := 10) (fl := zf_11) (v := va_rf ((zP S 9 x0).map (zh y))) X hw_X11_man_11 hM rfl zc_11 ca (by decide) fl_X11_man_11_9 rfl dX11_man_21 ?_
      clear ca
      obtain ⟨b1, hb9, hf⟩ := m_calPE hf
      refine z_topr hb9 ?_
      clear hb9
      obtain ⟨ca, hf⟩ := m_chkPE hf
      replace ca := z_in hM (by decide) ca
      refine z_get (k := 0) (j := 0) (C := RX0) (T := TX0) (N := 7) (fl := zf_0) (v := va_rf ((zP S 0 b1).map (zh y))) X hw_X11_man_0 hM rfl zc_0 ca (by decide) fl_X11_man_0_0 rfl dX11_man_24 ?_
      clear ca
      obtain ⟨b2, hb9, hf⟩ := m_calPE hf
      refine z_topr hb9 ?_
      clear hb9
      refine lv_iload_n hx hb dX11_man_27 rfl (lv_at hl 1 rfl) ?_
      obtain ⟨ca, hf⟩ := m_chkPE hf
      replace ca := z_in hM (by decide) ca
      obtain ⟨cd, hf⟩ := m_chkPE hf
      refine z_iald X hM ca cd dX11_man_28 ?_
      clear ca cd
      obtain ⟨v3, ev, hf⟩ := m_bndPE hf
      refine m_top ev ?_
      clear ev
      exact hret _ _ _ _ H locs _ ls hf hM rfl dX11_man_29
    · replace hf := m_ifPF hf cc1
      exact w_X11_man_10 X hret hthr hf hCT hM (lv_sub hl [] rfl)
noncomputable def g_X11_man (x0 : Nat) (x1 : Int32) (S : ZS) (mc ms : Nat) (Pw : Int32 → ZS → Prop) (Px : Nat → ZS → Prop) : Prop := g_X11_man_0 Pw Px x0 x1 S mc ms
theorem c_X11_man {l : Launch} {D : va_G} {y : Nat → ClassId} {x0 : Nat} {x1 : Int32} {S : ZS} {kc kt : Nat} {Pw : Int32 → ZS → Prop} {Px : Nat → ZS → Prop} (hlt : l.stackTraces = false) (hf : g_X11_man x0 x1 S kc kt Pw Px) : zXi l yX11_man wsX11_man ({ frames := 6, cells := kc, slots := kt, locals := 90 } : Room) [.ref (zh y x0), .int x1] D y S kc kt Pw Px :=
  z_xentI hlt ⟨Nat.le_of_ble_eq_true rfl, Nat.le_of_ble_eq_true rfl⟩ (own := RX11) (cc := cX11_man) (maxL := 2) (by decide) rfl rfl (Nat.le_of_ble_eq_true rfl) ⟨rfl, rfl⟩ (fun p e s m args below meth c A0 Q H locs ls X hret hthr hM hl => w_X11_man_0 X hret hthr hf ⟨Nat.le_refl _, Nat.le_refl _⟩ hM (lv_sub hl [0, 1] rfl))
theorem hd_X11_add : yX11_add.cls = RX11 ∧ yX11_add.cls ≠ "java/lang/invoke/MethodHandle" ∧ yX11_add.cls ≠ "java/lang/invoke/VarHandle" ∧ (parseMethodDescriptor yX11_add.desc).map (fun d => d.parameters.length) = some 1 := by decide +kernel
theorem fl_X11_add_11_2 : Cond.fieldLink RX11 22 "MoveTexts" "rules" "LMoveTexts$Rules;" ∈ wsX11_add := by decide +kernel
theorem fl_X11_add_11_7 : Cond.fieldLink RX11 57 "MoveTexts" "game" "LMoveTexts$Game;" ∈ wsX11_add := by decide +kernel
theorem fl_X11_add_11_8 : Cond.fieldLink RX11 61 "MoveTexts" "here" "I" ∈ wsX11_add := by decide +kernel
theorem fl_X11_add_11_9 : Cond.fieldLink RX11 68 "MoveTexts" "board" "LMoveTexts$Board;" ∈ wsX11_add := by decide +kernel
theorem fl_X11_add_1_3 : Cond.fieldLink RX11 158 "MoveTexts$Game" "greatest" "I" ∈ wsX11_add := by decide +kernel
theorem hw_X11_add_1 : ∀ w ∈ wsX10, w ∈ wsX11_add := by decide +kernel
theorem hw_X11_add_11 : ∀ w ∈ wsX110, w ∈ wsX11_add := by decide +kernel
theorem sr_X11_add_146 : (RX11, 146, "not a legal move", 15) ∈ zSR := by decide +kernel
theorem sr_X11_add_214 : (RX11, 214, "no room for a new node", 21) ∈ zSR := by decide +kernel
theorem xt_X11_add_1 : zTx RX11 wsX11_add 1 144 148 := ⟨by decide +kernel, fun w hw => List.mem_cons_of_mem _ (List.mem_append_left _ (List.mem_append_right _ hw)), xh_1, xg_1⟩
theorem xt_X11_add_3 : zTx RX11 wsX11_add 3 212 216 := ⟨by decide +kernel, fun w hw => List.mem_cons_of_mem _ (List.mem_append_right _ hw), xh_3, xg_3⟩
noncomputable def g_X11_add_95 (Pw : Int32 → ZS → Prop) (Px : Nat → ZS → Prop) (x0 : Nat) (x1 : Int32) (x2 : Int32) (S : ZS) (C T : Nat) : Prop :=
  m_chkQ (zK S x0 = 11) (
  m_bndP (zsI S 8 x0 x2) (fun S1 =>
  m_chkQ (zK S1 x0 = 11) (
  m_calP (zP S1 9 x0) (fun b2 =>
  m_chkQ (zK S1 b2 = 0) (
  m_calP (f_X0_play b2 x1 S1) (fun o3 =>
  Pw x2 o3.2))))))

set_option maxRecDepth 100000 in
set_option maxHeartbeats 4000000 in
theorem w_X11_add_95 {p : Program} {l : Launch} {e : Env} {s : State} {m : MethodId} {args : Array Value} {below : List Frame} {meth : Method} {c : Code} {Q : State → Prop} {D : va_G} {y : Nat → ClassId} {A0 : Nat → Prop} {kc kt : Nat} {Pw : Int32 → ZS → Prop} {Px : Nat → ZS → Prop} (X : CallFix p m c cX11_add 3 s args wsX11_add RX11) (hret : zQi p l e ({ frames := 6, cells := kc, slots := kt, locals := 131 } : Room) s m args below meth c Q cX11_add D y A0 .int Pw) (hthr : zQx p l e ({ frames := 6, cells := kc, slots := kt, locals := 131 } : Room) s m args below meth c Q cX11_add D y A0 Px RX11 wsX11_add) {x0 : Nat} {x1 : Int32} {x2 : Int32} {S : ZS} {C T : Nat} {H : Heap} {locs : List Loc} {ls : Array Slot} (hf : g_X11_add_95 Pw Px x0 x1 x2 S C T) (hCT : C ≤ kc ∧ T ≤ kt) (hM : zH D y A0 s H locs S) (hl : lv_has ls 3 [(0, .ref (zh y x0)), (1, .int x1), (2, .int x2)]) : W p l e ({ frames := 6, cells := kc, slots := kt, locals := 131 } : Room) s m args below meth c H locs (kc - C) (kt - T) Q (F0 m 95 ls []) := by
  obtain ⟨hx, hb, hml, hown, hts⟩ := id X
  unfold g_X11_add_95 at hf
  refine lv_aload_n hx hb dX11_add_95 rfl (lv_at hl 0 rfl) ?_
  refine lv_iload_n hx hb dX11_add_96 rfl (lv_at hl 2 rfl) ?_
  obtain ⟨ca, hf⟩ := m_chkPE hf
  replace ca := z_in hM (by decide) ca
  refine z_putI (k := 11) (j := 8) (C := RX11) (T := TX11) (N := 10) (fl := zf_11) (ty := .int) X hw_X11_add_11 tyX11_ok nmX11 hM rfl zc_11 ca (by decide) fl_X11_add_11_8 rfl (tyX11_ok 8 (by decide)) rfl rfl zi_11_8 (Nat.le_of_ble_eq_true rfl) dX11_add_97 (fun H locs hM => ?_)
  clear ca
  obtain ⟨S1, ev, hf⟩ := m_bndPE hf
  replace hM := z_hS hM ev
  clear ev
  refine lv_aload_n hx hb dX11_add_100 rfl (lv_at hl 0 rfl) ?_
  obtain ⟨ca, hf⟩ := m_chkPE hf
  replace ca := z_in hM (by decide) ca
  refine z_get (k := 11) (j := 9) (C := RX11) (T := TX11) (N := 10) (fl := zf_11) (v := va_rf ((zP S1 9 x0).map (zh y))) X hw_X11_add_11 hM rfl zc_11 ca (by decide) fl_X11_add_11_9 rfl dX11_add_101 ?_
  clear ca
  obtain ⟨b2, hb9, hf⟩ := m_calPE hf
  refine z_topr hb9 ?_
  clear hb9
  refine lv_iload_n hx hb dX11_add_104 rfl (lv_at hl 1 rfl) ?_
  obtain ⟨ca, hf⟩ := m_chkPE hf
  replace ca := z_in hM (by decide) ca
  obtain ⟨o3, ho, hf⟩ := m_calPE hf
  refine z_gcallVv (k := 0) (C := RX0) (T := TX0) (N := 7) (fl := zf_0) X hM rfl zc_0 ca (c_X0_play ho) gX11_add_X0_play rfl ⟨rfl, rfl⟩ hd_X0_play ⟨Nat.le_of_ble_eq_true rfl, Nat.le_of_ble_eq_true rfl⟩ rfl hl.1 rfl ⟨Nat.sub_le _ _, Nat.sub_le _ _⟩ (Nat.le_of_ble_eq_true rfl) dX11_add_105 (fun H locs hM => ?_)
  clear ho
  refine lv_iload_n hx hb dX11_add_108 rfl (lv_at hl 2 rfl) ?_
  exact hret _ _ _ _ H locs _ ls hf hM rfl dX11_add_109
noncomputable def g_X11_add_72 (Pw : Int32 → ZS → Prop) (Px : Nat → ZS → Prop) (S : ZS) (C T : Nat) : Prop :=
  m_thrP (C) (T) 3 S Px

set_option maxRecDepth 100000 in
set_option maxHeartbeats 4000000 in
theorem w_X11_add_72 {p : Program} {l : Launch} {e : Env} {s : State} {m : MethodId} {args : Array Value} {below : List Frame} {meth : Method} {c : Code} {Q : State → Prop} {D : va_G} {y : Nat → ClassId} {A0 : Nat → Prop} {kc kt : Nat} {Pw : Int32 → ZS → Prop} {Px : Nat → ZS → Prop} (X : CallFix p m c cX11_add 3 s args wsX11_add RX11) (hret : zQi p l e ({ frames := 6, cells := kc, slots := kt, locals := 131 } : Room) s m args below meth c Q cX11_add D y A0 .int Pw) (hthr : zQx p l e ({ frames := 6, cells := kc, slots := kt, locals := 131 } : Room) s m args below meth c Q cX11_add D y A0 Px RX11 wsX11_add) {S : ZS} {C T : Nat} {H : Heap} {locs : List Loc} {ls : Array Slot} (hf : g_X11_add_72 Pw Px  S C T) (hCT : C ≤ kc ∧ T ≤ kt) (hM : zH D y A0 s H locs S) (hl : lv_has ls 3 []) : W p l e ({ frames := 6, cells := kc, slots := kt, locals := 131 } : Room) s m args below meth c H locs (kc - C) (kt - T) Q (F0 m 72 ls []) := by
  obtain ⟨hx, hb, hml, hown, hts⟩ := id X
  unfold g_X11_add_72 at hf
  exact hthr 3 _ _ _ H locs _ _ _ _ ls _ _ hf hCT hM (by rw [hml]; exact hl.1) xt_X11_add_3 sr_X11_add_214 ⟨dX11_add_72, dX11_add_75, Or.inl ⟨dX11_add_76, dX11_add_78, dX11_add_81⟩⟩
noncomputable def g_X11_add_0 (Pw : Int32 → ZS → Prop) (Px : Nat → ZS → Prop) (x0 : Nat) (x1 : Int32) (S : ZS) (C T : Nat) : Prop :=
  m_chkQ (zK S x0 = 11) (
  m_calP (zP S 2 x0) (fun b1 =>
  m_chkQ (zK S x0 = 11) (
  m_calP (zP S 9 x0) (fun b2 =>
  m_chkQ (zK S b1 = 7) (
  m_calP (f_X7_isLegal b1 b2 x1 S) (fun o3 =>
  m_ifQ (o3.1 = 0) (
  m_thrP (C) (T) 1 o3.2 Px
  ) (
  m_chkQ (zK o3.2 x0 = 11) (
  m_calP (zP o3.2 7 x0) (fun b4 =>
  m_chkQ (zK o3.2 x0 = 11) (
  m_chkQ (zK o3.2 b4 = 1) (
  m_calP (f_X1_childWith b4 (zI o3.2 8 x0) x1 o3.2) (fun o5 =>
  m_ifQ (o5.1 = (-1 : Int32)) (
  m_chkQ (zK o5.2 x0 = 11) (
  m_calP (zP o5.2 7 x0) (fun b6 =>
  m_chkQ (zK o5.2 b6 = 1) (
  m_ifQ ((300 : Int32) ≤ (zI o5.2 3 b6)) (
  g_X11_add_72 Pw Px  o5.2 (C) (T)
  ) (
  m_chkQ (zK o5.2 x0 = 11) (
  m_calP (zP o5.2 7 x0) (fun b7 =>
  m_chkQ (zK o5.2 x0 = 11) (
  m_chkQ (zK o5.2 b7 = 1) (
  m_calP (f_X1_deepOfNext b7 (zI o5.2 8 x0) o5.2) (fun o8 =>
  m_ifQ (o8.1 ≤ (6 : Int32)) (
  m_chkQ (zK o8.2 x0 = 11) (
  m_calP (zP o8.2 7 x0) (fun b9 =>
  m_chkQ (zK o8.2 x0 = 11) (
  m_chkQ (zK o8.2 b9 = 1) (
  m_gal (C) (T) (fun mc ms Pw => g_X1_grow b9 (zI o8.2 8 x0) x1 o8.2 mc ms Pw) (fun r11 S12 C13 T14 =>
  g_X11_add_95 Pw Px x0 x1 r11 S12 (C13) (T14))))))
  ) (
  g_X11_add_72 Pw Px  o8.2 (C) (T)
  ))))))
  ))))
  ) (
  g_X11_add_95 Pw Px x0 x1 o5.1 o5.2 (C) (T)
  ))))))
  )))))))

set_option maxRecDepth 100000 in
set_option maxHeartbeats 4000000 in
theorem w_X11_add_0 {p : Program} {l : Launch} {e : Env} {s : State} {m : MethodId} {args : Array Value} {below : List Frame} {meth : Method} {c : Code} {Q : State → Prop} {D : va_G} {y : Nat → ClassId} {A0 : Nat → Prop} {kc kt : Nat} {Pw : Int32 → ZS → Prop} {Px : Nat → ZS → Prop} (X : CallFix p m c cX11_add 3 s args wsX11_add RX11) (hret : zQi p l e ({ frames := 6, cells := kc, slots := kt, locals := 131 } : Room) s m args below meth c Q cX11_add D y A0 .int Pw) (hthr : zQx p l e ({ frames := 6, cells := kc, slots := kt, locals := 131 } : Room) s m args below meth c Q cX11_add D y A0 Px RX11 wsX11_add) {x0 : Nat} {x1 : Int32} {S : ZS} {C T : Nat} {H : Heap} {locs : List Loc} {ls : Array Slot} (hf : g_X11_add_0 Pw Px x0 x1 S C T) (hCT : C ≤ kc ∧ T ≤ kt) (hM : zH D y A0 s H locs S) (hl : lv_has ls 3 [(0, .ref (zh y x0)), (1, .int x1)]) : W p l e ({ frames := 6, cells := kc, slots := kt, locals := 131 } : Room) s m args below meth c H locs (kc - C) (kt - T) Q (F0 m 0 ls []) := by
  obtain ⟨hx, hb, hml, hown, hts⟩ := id X
  unfold g_X11_add_0 at hf
  refine lv_aload_n hx hb dX11_add_0 rfl (lv_at hl 0 rfl) ?_
  obtain ⟨ca, hf⟩ := m_chkPE hf
  replace ca := z_in hM (by decide) ca
  refine z_get (k := 11) (j := 2) (C := RX11) (T := TX11) (N := 10) (fl := zf_11) (v := va_rf ((zP S 2 x0).map (zh y))) X hw_X11_add_11 hM rfl zc_11 ca (by decide) fl_X11_add_11_2 rfl dX11_add_1 ?_
  clear ca
  obtain ⟨b1, hb9, hf⟩ := m_calPE hf
  refine z_topr hb9 ?_
  clear hb9
  refine lv_aload_n hx hb dX11_add_4 rfl (lv_at hl 0 rfl) ?_
  obtain ⟨ca, hf⟩ := m_chkPE hf
  replace ca := z_in hM (by decide) ca
  refine z_get (k := 11) (j := 9) (C := RX11) (T := TX11) (N := 10) (fl := zf_11) (v := va_rf ((zP S 9 x0).map (zh y))) X hw_X11_add_11 hM rfl zc_11 ca (by decide) fl_X11_add_11_9 rfl dX11_add_5 ?_
  clear ca
  obtain ⟨b2, hb9, hf⟩ := m_calPE hf
  refine z_topr hb9 ?_
  clear hb9
  refine lv_iload_n hx hb dX11_add_8 rfl (lv_at hl 1 rfl) ?_
  obtain ⟨ca, hf⟩ := m_chkPE hf
  replace ca := z_in hM (by decide) ca
  obtain ⟨o3, ho, hf⟩ := m_calPE hf
  refine z_gcallVi (k := 7) (C := RX7) (T := TX7) (N := 2) (fl := zf_7) X hM rfl zc_7 ca (c_X7_isLegal ho) gX11_add_X7_isLegal rfl ⟨rfl, rfl⟩ hd_X7_isLegal ⟨Nat.le_of_ble_eq_true rfl, Nat.le_of_ble_eq_true rfl⟩ rfl hl.1 rfl ⟨Nat.sub_le _ _, Nat.sub_le _ _⟩ (Nat.le_of_ble_eq_true rfl) dX11_add_9 (fun H locs hM => ?_)
  clear ho
  refine lv_if_ne (tgt := 25) hx hb dX11_add_12 (by decide) (fun cc1 => ?_) (fun cc1 => ?_)
  · replace hf := m_ifPF hf cc1
    refine lv_aload_n hx hb dX11_add_25 rfl (lv_at hl 0 rfl) ?_
    obtain ⟨ca, hf⟩ := m_chkPE hf
    replace ca := z_in hM (by decide) ca
    refine z_get (k := 11) (j := 7) (C := RX11) (T := TX11) (N := 10) (fl := zf_11) (v := va_rf ((zP o3.2 7 x0).map (zh y))) X hw_X11_add_11 hM rfl zc_11 ca (by decide) fl_X11_add_11_7 rfl dX11_add_26 ?_
    clear ca
    obtain ⟨b4, hb9, hf⟩ := m_calPE hf
    refine z_topr hb9 ?_
    clear hb9
    refine lv_aload_n hx hb dX11_add_29 rfl (lv_at hl 0 rfl) ?_
    obtain ⟨ca, hf⟩ := m_chkPE hf
    replace ca := z_in hM (by decide) ca
    refine z_get (k := 11) (j := 8) (C := RX11) (T := TX11) (N := 10) (fl := zf_11) (v := .int (zI o3.2 8 x0)) X hw_X11_add_11 hM rfl zc_11 ca (by decide) fl_X11_add_11_8 rfl dX11_add_30 ?_
    clear ca
    refine lv_iload_n hx hb dX11_add_33 rfl (lv_at hl 1 rfl) ?_
    obtain ⟨ca, hf⟩ := m_chkPE hf
    replace ca := z_in hM (by decide) ca
    obtain ⟨o5, ho, hf⟩ := m_calPE hf
    refine z_gcallVi (k := 1) (C := RX1) (T := TX1) (N := 8) (fl := zf_1) X hM rfl zc_1 ca (c_X1_childWith ho) gX11_add_X1_childWith rfl ⟨rfl, rfl⟩ hd_X1_childWith ⟨Nat.le_of_ble_eq_true rfl, Nat.le_of_ble_eq_true rfl⟩ rfl hl.1 rfl ⟨Nat.sub_le _ _, Nat.sub_le _ _⟩ (Nat.le_of_ble_eq_true rfl) dX11_add_34 (fun H locs hM => ?_)
    clear ho
    refine lv_istore_n (lv' := [(2, .int o5.1), (0, .ref (zh y x0)), (1, .int x1)]) hx hb dX11_add_37 rfl hl (by decide) rfl (fun ls hl => ?_)
    refine lv_iload_n hx hb dX11_add_38 rfl (lv_at hl 0 rfl) ?_
    refine lv_iconst (v := (-1 : Int32)) hx hb dX11_add_39 (by decide) ?_
    refine lv_icmp_ne (tgt := 95) hx hb dX11_add_40 (by decide) (fun cc1 => ?_) (fun cc1 => ?_)
    · replace hf := m_ifPF hf cc1
      exact w_X11_add_95 (x0 := x0) (x1 := x1) (x2 := o5.1) X hret hthr hf hCT hM (lv_sub hl [1, 2, 0] rfl)
    · replace hf := m_ifPT hf cc1
      refine lv_aload_n hx hb dX11_add_43 rfl (lv_at hl 1 rfl) ?_
      obtain ⟨ca, hf⟩ := m_chkPE hf
      replace ca := z_in hM (by decide) ca
      refine z_get (k := 11) (j := 7) (C := RX11) (T := TX11) (N := 10) (fl := zf_11) (v := va_rf ((zP o5.2 7 x0).map (zh y))) X hw_X11_add_11 hM rfl zc_11 ca (by decide) fl_X11_add_11_7 rfl dX11_add_44 ?_
      clear ca
      obtain ⟨b6, hb9, hf⟩ := m_calPE hf
      refine z_topr hb9 ?_
      clear hb9
      obtain ⟨ca, hf⟩ := m_chkPE hf
      replace ca := z_in hM (by decide) ca
      refine z_get (k := 1) (j := 3) (C := RX1) (T := TX1) (N := 8) (fl := zf_1) (v := .int (zI o5.2 3 b6)) X hw_X11_add_1 hM rfl zc_1 ca (by decide) fl_X11_add_1_3 rfl dX11_add_47 ?_
      clear ca
      refine lv_sipush (v := (300 : Int32)) hx hb dX11_add_50 (by decide) ?_
      refine lv_icmp_ge (tgt := 72) hx hb dX11_add_53 (by decide) (fun cc1 => ?_) (fun cc1 => ?_)
      · replace hf := m_ifPT hf cc1
        exact w_X11_add_72 X hret hthr hf hCT hM (lv_sub hl [] rfl)
      · replace hf := m_ifPF hf cc1
        refine lv_aload_n hx hb dX11_add_56 rfl (lv_at hl 1 rfl) ?_
        obtain ⟨ca, hf⟩ := m_chkPE hf
        replace ca := z_in hM (by decide) ca
        refine z_get (k := 11) (j := 7) (C := RX11) (T := TX11) (N := 10) (fl := zf_11) (v := va_rf ((zP o5.2 7 x0).map (zh y))) X hw_X11_add_11 hM rfl zc_11 ca (by decide) fl_X11_add_11_7 rfl dX11_add_57 ?_
        clear ca
        obtain ⟨b7, hb9, hf⟩ := m_calPE hf
        refine z_topr hb9 ?_
        clear hb9
        refine lv_aload_n hx hb dX11_add_60 rfl (lv_at hl 1 rfl) ?_
        obtain ⟨ca, hf⟩ := m_chkPE hf
        replace ca := z_in hM (by decide) ca
        refine z_get (k := 11) (j := 8) (C := RX11) (T := TX11) (N := 10) (fl := zf_11) (v := .int (zI o5.2 8 x0)) X hw_X11_add_11 hM rfl zc_11 ca (by decide) fl_X11_add_11_8 rfl dX11_add_61 ?_
        clear ca
        obtain ⟨ca, hf⟩ := m_chkPE hf
        replace ca := z_in hM (by decide) ca
        obtain ⟨o8, ho, hf⟩ := m_calPE hf
        refine z_gcallVi (k := 1) (C := RX1) (T := TX1) (N := 8) (fl := zf_1) X hM rfl zc_1 ca (c_X1_deepOfNext ho) gX11_add_X1_deepOfNext rfl ⟨rfl, rfl⟩ hd_X1_deepOfNext ⟨Nat.le_of_ble_eq_true rfl, Nat.le_of_ble_eq_true rfl⟩ rfl hl.1 rfl ⟨Nat.sub_le _ _, Nat.sub_le _ _⟩ (Nat.le_of_ble_eq_true rfl) dX11_add_64 (fun H locs hM => ?_)
        clear ho
        refine lv_bipush (v := (6 : Int32)) hx hb dX11_add_67 (by decide) ?_
        refine lv_icmp_le (tgt := 82) hx hb dX11_add_69 (by decide) (fun cc1 => ?_) (fun cc1 => ?_)
        · replace hf := m_ifPT hf cc1
          refine lv_aload_n hx hb dX11_add_82 rfl (lv_at hl 1 rfl) ?_
          obtain ⟨ca, hf⟩ := m_chkPE hf
          replace ca := z_in hM (by decide) ca
          refine z_get (k := 11) (j := 7) (C := RX11) (T := TX11) (N := 10) (fl := zf_11) (v := va_rf ((zP o8.2 7 x0).map (zh y))) X hw_X11_add_11 hM rfl zc_11 ca (by decide) fl_X11_add_11_7 rfl dX11_add_83 ?_
          clear ca
          obtain ⟨b9, hb9, hf⟩ := m_calPE hf
          refine z_topr hb9 ?_
          clear hb9
          refine lv_aload_n hx hb dX11_add_86 rfl (lv_at hl 1 rfl) ?_
          obtain ⟨ca, hf⟩ := m_chkPE hf
          replace ca := z_in hM (by decide) ca
          refine z_get (k := 11) (j := 8) (C := RX11) (T := TX11) (N := 10) (fl := zf_11) (v := .int (zI o8.2 8 x0)) X hw_X11_add_11 hM rfl zc_11 ca (by decide) fl_X11_add_11_8 rfl dX11_add_87 ?_
          clear ca
          refine lv_iload_n hx hb dX11_add_90 rfl (lv_at hl 2 rfl) ?_
          obtain ⟨ca, hf⟩ := m_chkPE hf
          replace ca := z_in hM (by decide) ca
          obtain ⟨mc, ms, hcm, ho⟩ := m_galE hf
          refine z_wcallVi (k := 1) (C := RX1) (T := TX1) (N := 8) (fl := zf_1) X hM rfl zc_1 ca (c_X1_grow ho) gX11_add_X1_grow rfl ⟨rfl, rfl⟩ ⟨by show kc - (C) + mc ≤ kc; omega, by show kt - (T) + ms ≤ kt; omega⟩ hd_X1_grow ⟨Nat.le_of_ble_eq_true rfl, Nat.le_of_ble_eq_true rfl⟩ rfl hl.1 rfl (Nat.le_of_ble_eq_true rfl) dX11_add_91 (fun r11 S12 H locs hf hM => ?_)
          refine z_eqCS (c2 := kc - (C - mc)) (t2 := kt - (T - ms)) (by omega) (by omega) ?_
          replace hCT : C - mc ≤ kc ∧ T - ms ≤ kt := by omega
          generalize C - mc = C13 at hf hCT ⊢
          generalize T - ms = T14 at hf hCT ⊢
          clear ho hcm
          refine lv_istore_n (lv' := [(2, .int r11), (0, .ref (zh y x0)), (1, .int x1)]) hx hb dX11_add_94 rfl hl (by decide) rfl (fun ls hl => ?_)
          exact w_X11_add_95 (x0 := x0) (x1 := x1) (x2 := r11) X hret hthr hf hCT hM (lv_sub hl [1, 2, 0] rfl)
        · replace hf := m_ifPF hf cc1
          exact w_X11_add_72 X hret hthr hf hCT hM (lv_sub hl [] rfl)
  · replace hf := m_ifPT hf cc1
    exact hthr 1 _ _ _ H locs _ _ _ _ ls _ _ hf hCT hM (by rw [hml]; exact hl.1) xt_X11_add_1 sr_X11_add_146 ⟨dX11_add_15, dX11_add_18, Or.inl ⟨dX11_add_19, dX11_add_21, dX11_add_24⟩⟩
noncomputable def g_X11_add (x0 : Nat) (x1 : Int32) (S : ZS) (mc ms : Nat) (Pw : Int32 → ZS → Prop) (Px : Nat → ZS → Prop) : Prop := g_X11_add_0 Pw Px x0 x1 S mc ms
theorem c_X11_add {l : Launch} {D : va_G} {y : Nat → ClassId} {x0 : Nat} {x1 : Int32} {S : ZS} {kc kt : Nat} {Pw : Int32 → ZS → Prop} {Px : Nat → ZS → Prop} (hlt : l.stackTraces = false) (hf : g_X11_add x0 x1 S kc kt Pw Px) : zXi l yX11_add wsX11_add ({ frames := 6, cells := kc, slots := kt, locals := 131 } : Room) [.ref (zh y x0), .int x1] D y S kc kt Pw Px :=
  z_xentI hlt ⟨Nat.le_of_ble_eq_true rfl, Nat.le_of_ble_eq_true rfl⟩ (own := RX11) (cc := cX11_add) (maxL := 3) (by decide) rfl rfl (Nat.le_of_ble_eq_true rfl) ⟨rfl, rfl⟩ (fun p e s m args below meth c A0 Q H locs ls X hret hthr hM hl => w_X11_add_0 X hret hthr hf ⟨Nat.le_refl _, Nat.le_refl _⟩ hM (lv_sub hl [0, 1] rfl))
theorem hd_X11_addMark : yX11_addMark.cls = RX11 ∧ yX11_addMark.cls ≠ "java/lang/invoke/MethodHandle" ∧ yX11_addMark.cls ≠ "java/lang/invoke/VarHandle" ∧ (parseMethodDescriptor yX11_addMark.desc).map (fun d => d.parameters.length) = some 1 := by decide +kernel
theorem fl_X11_addMark_11_7 : Cond.fieldLink RX11 57 "MoveTexts" "game" "LMoveTexts$Game;" ∈ wsX11_addMark := by decide +kernel
theorem fl_X11_addMark_11_8 : Cond.fieldLink RX11 61 "MoveTexts" "here" "I" ∈ wsX11_addMark := by decide +kernel
theorem fl_X11_addMark_4_4 : Cond.fieldLink RX11 179 "MoveTexts$Node" "markCount" "I" ∈ wsX11_addMark := by decide +kernel
theorem hw_X11_addMark_11 : ∀ w ∈ wsX110, w ∈ wsX11_addMark := by decide +kernel
theorem hw_X11_addMark_4 : ∀ w ∈ wsX40, w ∈ wsX11_addMark := by decide +kernel
theorem sr_X11_addMark_223 : (RX11, 223, "not a mark", 22) ∈ zSR := by decide +kernel
theorem sr_X11_addMark_227 : (RX11, 227, "no room for a mark", 23) ∈ zSR := by decide +kernel
theorem xt_X11_addMark_1 : zTx RX11 wsX11_addMark 1 144 148 := ⟨by decide +kernel, fun w hw => List.mem_cons_of_mem _ (List.mem_append_left _ (List.mem_append_right _ hw)), xh_1, xg_1⟩
theorem xt_X11_addMark_4 : zTx RX11 wsX11_addMark 4 225 229 := ⟨by decide +kernel, fun w hw => List.mem_cons_of_mem _ (List.mem_append_right _ hw), xh_4, xg_4⟩
noncomputable def g_X11_addMark_11 (Pw : Int32 → ZS → Prop) (Px : Nat → ZS → Prop) (S : ZS) (C T : Nat) : Prop :=
  m_thrP (C) (T) 1 S Px

set_option maxRecDepth 100000 in
set_option maxHeartbeats 4000000 in
theorem w_X11_addMark_11 {p : Program} {l : Launch} {e : Env} {s : State} {m : MethodId} {args : Array Value} {below : List Frame} {meth : Method} {c : Code} {Q : State → Prop} {D : va_G} {y : Nat → ClassId} {A0 : Nat → Prop} {kc kt : Nat} {Pw : Int32 → ZS → Prop} {Px : Nat → ZS → Prop} (X : CallFix p m c cX11_addMark 3 s args wsX11_addMark RX11) (hret : zQi p l e ({ frames := 6, cells := kc, slots := kt, locals := 90 } : Room) s m args below meth c Q cX11_addMark D y A0 .int Pw) (hthr : zQx p l e ({ frames := 6, cells := kc, slots := kt, locals := 90 } : Room) s m args below meth c Q cX11_addMark D y A0 Px RX11 wsX11_addMark) {S : ZS} {C T : Nat} {H : Heap} {locs : List Loc} {ls : Array Slot} (hf : g_X11_addMark_11 Pw Px  S C T) (hCT : C ≤ kc ∧ T ≤ kt) (hM : zH D y A0 s H locs S) (hl : lv_has ls 3 []) : W p l e ({ frames := 6, cells := kc, slots := kt, locals := 90 } : Room) s m args below meth c H locs (kc - C) (kt - T) Q (F0 m 11 ls []) := by
  obtain ⟨hx, hb, hml, hown, hts⟩ := id X
  unfold g_X11_addMark_11 at hf
  exact hthr 1 _ _ _ H locs _ _ _ _ ls _ _ hf hCT hM (by rw [hml]; exact hl.1) xt_X11_addMark_1 sr_X11_addMark_223 ⟨dX11_addMark_11, dX11_addMark_14, Or.inl ⟨dX11_addMark_15, dX11_addMark_17, dX11_addMark_20⟩⟩
noncomputable def g_X11_addMark_48 (Pw : Int32 → ZS → Prop) (Px : Nat → ZS → Prop) (S : ZS) (C T : Nat) : Prop :=
  m_thrP (C) (T) 4 S Px

set_option maxRecDepth 100000 in
set_option maxHeartbeats 4000000 in
theorem w_X11_addMark_48 {p : Program} {l : Launch} {e : Env} {s : State} {m : MethodId} {args : Array Value} {below : List Frame} {meth : Method} {c : Code} {Q : State → Prop} {D : va_G} {y : Nat → ClassId} {A0 : Nat → Prop} {kc kt : Nat} {Pw : Int32 → ZS → Prop} {Px : Nat → ZS → Prop} (X : CallFix p m c cX11_addMark 3 s args wsX11_addMark RX11) (hret : zQi p l e ({ frames := 6, cells := kc, slots := kt, locals := 90 } : Room) s m args below meth c Q cX11_addMark D y A0 .int Pw) (hthr : zQx p l e ({ frames := 6, cells := kc, slots := kt, locals := 90 } : Room) s m args below meth c Q cX11_addMark D y A0 Px RX11 wsX11_addMark) {S : ZS} {C T : Nat} {H : Heap} {locs : List Loc} {ls : Array Slot} (hf : g_X11_addMark_48 Pw Px  S C T) (hCT : C ≤ kc ∧ T ≤ kt) (hM : zH D y A0 s H locs S) (hl : lv_has ls 3 []) : W p l e ({ frames := 6, cells := kc, slots := kt, locals := 90 } : Room) s m args below meth c H locs (kc - C) (kt - T) Q (F0 m 48 ls []) := by
  obtain ⟨hx, hb, hml, hown, hts⟩ := id X
  unfold g_X11_addMark_48 at hf
  exact hthr 4 _ _ _ H locs _ _ _ _ ls _ _ hf hCT hM (by rw [hml]; exact hl.1) xt_X11_addMark_4 sr_X11_addMark_227 ⟨dX11_addMark_48, dX11_addMark_51, Or.inl ⟨dX11_addMark_52, dX11_addMark_54, dX11_addMark_57⟩⟩
noncomputable def g_X11_addMark_0 (Pw : Int32 → ZS → Prop) (Px : Nat → ZS → Prop) (x0 : Nat) (x1 : Int32) (S : ZS) (C T : Nat) : Prop :=
  m_ifQ (x1 < 0) (
  g_X11_addMark_11 Pw Px  S (C) (T)
  ) (
  m_ifQ (x1 ≤ (255 : Int32)) (
  m_chkQ (zK S x0 = 11) (
  m_calP (zP S 7 x0) (fun b1 =>
  m_chkQ (zK S x0 = 11) (
  m_chkQ (zK S b1 = 1) (
  m_calP (f_X1_at b1 (zI S 8 x0) S) (fun o2 =>
  m_chkQ (zK o2.2 x0 = 11) (
  m_ifQ ((zI o2.2 8 x0) = 0) (
  g_X11_addMark_48 Pw Px  o2.2 (C) (T)
  ) (
  m_chkQ (zK o2.2 o2.1 = 4) (
  m_ifQ ((zI o2.2 4 o2.1) < (4 : Int32)) (
  m_chkQ (zK o2.2 o2.1 = 4) (
  m_calP (f_X4_putMark o2.1 x1 o2.2) (fun o3 =>
  m_chkQ (zK o3.2 o2.1 = 4) (
  Pw (zI o3.2 4 o2.1) o3.2)))
  ) (
  g_X11_addMark_48 Pw Px  o2.2 (C) (T)
  ))
  )))))))
  ) (
  g_X11_addMark_11 Pw Px  S (C) (T)
  )
  )

set_option maxRecDepth 100000 in
set_option maxHeartbeats 4000000 in
theorem w_X11_addMark_0 {p : Program} {l : Launch} {e : Env} {s : State} {m : MethodId} {args : Array Value} {below : List Frame} {meth : Method} {c : Code} {Q : State → Prop} {D : va_G} {y : Nat → ClassId} {A0 : Nat → Prop} {kc kt : Nat} {Pw : Int32 → ZS → Prop} {Px : Nat → ZS → Prop} (X : CallFix p m c cX11_addMark 3 s args wsX11_addMark RX11) (hret : zQi p l e ({ frames := 6, cells := kc, slots := kt, locals := 90 } : Room) s m args below meth c Q cX11_addMark D y A0 .int Pw) (hthr : zQx p l e ({ frames := 6, cells := kc, slots := kt, locals := 90 } : Room) s m args below meth c Q cX11_addMark D y A0 Px RX11 wsX11_addMark) {x0 : Nat} {x1 : Int32} {S : ZS} {C T : Nat} {H : Heap} {locs : List Loc} {ls : Array Slot} (hf : g_X11_addMark_0 Pw Px x0 x1 S C T) (hCT : C ≤ kc ∧ T ≤ kt) (hM : zH D y A0 s H locs S) (hl : lv_has ls 3 [(0, .ref (zh y x0)), (1, .int x1)]) : W p l e ({ frames := 6, cells := kc, slots := kt, locals := 90 } : Room) s m args below meth c H locs (kc - C) (kt - T) Q (F0 m 0 ls []) := by
  obtain ⟨hx, hb, hml, hown, hts⟩ := id X
  unfold g_X11_addMark_0 at hf
  refine lv_iload_n hx hb dX11_addMark_0 rfl (lv_at hl 1 rfl) ?_
  refine lv_if_lt (tgt := 11) hx hb dX11_addMark_1 (by decide) (fun cc1 => ?_) (fun cc1 => ?_)
  · replace hf := m_ifPT hf cc1
    exact w_X11_addMark_11 X hret hthr hf hCT hM (lv_sub hl [] rfl)
  · replace hf := m_ifPF hf cc1
    refine lv_iload_n hx hb dX11_addMark_4 rfl (lv_at hl 1 rfl) ?_
    refine lv_sipush (v := (255 : Int32)) hx hb dX11_addMark_5 (by decide) ?_
    refine lv_icmp_le (tgt := 21) hx hb dX11_addMark_8 (by decide) (fun cc1 => ?_) (fun cc1 => ?_)
    · replace hf := m_ifPT hf cc1
      refine lv_aload_n hx hb dX11_addMark_21 rfl (lv_at hl 0 rfl) ?_
      obtain ⟨ca, hf⟩ := m_chkPE hf
      replace ca := z_in hM (by decide) ca
      refine z_get (k := 11) (j := 7) (C := RX11) (T := TX11) (N := 10) (fl := zf_11) (v := va_rf ((zP S 7 x0).map (zh y))) X hw_X11_addMark_11 hM rfl zc_11 ca (by decide) fl_X11_addMark_11_7 rfl dX11_addMark_22 ?_
      clear ca
      obtain ⟨b1, hb9, hf⟩ := m_calPE hf
      refine z_topr hb9 ?_
      clear hb9
      refine lv_aload_n hx hb dX11_addMark_25 rfl (lv_at hl 0 rfl) ?_
      obtain ⟨ca, hf⟩ := m_chkPE hf
      replace ca := z_in hM (by decide) ca
      refine z_get (k := 11) (j := 8) (C := RX11) (T := TX11) (N := 10) (fl := zf_11) (v := .int (zI S 8 x0)) X hw_X11_addMark_11 hM rfl zc_11 ca (by decide) fl_X11_addMark_11_8 rfl dX11_addMark_26 ?_
      clear ca
      obtain ⟨ca, hf⟩ := m_chkPE hf
      replace ca := z_in hM (by decide) ca
      obtain ⟨o2, ho, hf⟩ := m_calPE hf
      refine z_gcallVr (k := 1) (C := RX1) (T := TX1) (N := 8) (fl := zf_1) X hM rfl zc_1 ca (c_X1_at ho) gX11_addMark_X1_at rfl ⟨rfl, rfl⟩ hd_X1_at ⟨Nat.le_of_ble_eq_true rfl, Nat.le_of_ble_eq_true rfl⟩ rfl hl.1 rfl ⟨Nat.sub_le _ _, Nat.sub_le _ _⟩ (Nat.le_of_ble_eq_true rfl) dX11_addMark_29 (fun H locs hM => ?_)
      clear ho
      refine lv_astore_n (lv' := [(2, .ref (zh y o2.1)), (0, .ref (zh y x0)), (1, .int x1)]) hx hb dX11_addMark_32 rfl hl (by decide) rfl (fun ls hl => ?_)
      refine lv_aload_n hx hb dX11_addMark_33 rfl (lv_at hl 1 rfl) ?_
      obtain ⟨ca, hf⟩ := m_chkPE hf
      replace ca := z_in hM (by decide) ca
      refine z_get (k := 11) (j := 8) (C := RX11) (T := TX11) (N := 10) (fl := zf_11) (v := .int (zI o2.2 8 x0)) X hw_X11_addMark_11 hM rfl zc_11 ca (by decide) fl_X11_addMark_11_8 rfl dX11_addMark_34 ?_
      clear ca
      refine lv_if_eq (tgt := 48) hx hb dX11_addMark_37 (by decide) (fun cc1 => ?_) (fun cc1 => ?_)
      · replace hf := m_ifPT hf cc1
        exact w_X11_addMark_48 X hret hthr hf hCT hM (lv_sub hl [] rfl)
      · replace hf := m_ifPF hf cc1
        refine lv_aload_n hx hb dX11_addMark_40 rfl (lv_at hl 0 rfl) ?_
        obtain ⟨ca, hf⟩ := m_chkPE hf
        replace ca := z_in hM (by decide) ca
        refine z_get (k := 4) (j := 4) (C := RX4) (T := TX4) (N := 7) (fl := zf_4) (v := .int (zI o2.2 4 o2.1)) X hw_X11_addMark_4 hM rfl zc_4 ca (by decide) fl_X11_addMark_4_4 rfl dX11_addMark_41 ?_
        clear ca
        refine lv_iconst (v := (4 : Int32)) hx hb dX11_addMark_44 (by decide) ?_
        refine lv_icmp_lt (tgt := 58) hx hb dX11_addMark_45 (by decide) (fun cc1 => ?_) (fun cc1 => ?_)
        · replace hf := m_ifPT hf cc1
          refine lv_aload_n hx hb dX11_addMark_58 rfl (lv_at hl 0 rfl) ?_
          refine lv_iload_n hx hb dX11_addMark_59 rfl (lv_at hl 2 rfl) ?_
          obtain ⟨ca, hf⟩ := m_chkPE hf
          replace ca := z_in hM (by decide) ca
          obtain ⟨o3, ho, hf⟩ := m_calPE hf
          refine z_gcallVv (k := 4) (C := RX4) (T := TX4) (N := 7) (fl := zf_4) X hM rfl zc_4 ca (c_X4_putMark ho) gX11_addMark_X4_putMark rfl ⟨rfl, rfl⟩ hd_X4_putMark ⟨Nat.le_of_ble_eq_true rfl, Nat.le_of_ble_eq_true rfl⟩ rfl hl.1 rfl ⟨Nat.sub_le _ _, Nat.sub_le _ _⟩ (Nat.le_of_ble_eq_true rfl) dX11_addMark_60 (fun H locs hM => ?_)
          clear ho
          refine lv_aload_n hx hb dX11_addMark_63 rfl (lv_at hl 0 rfl) ?_
          obtain ⟨ca, hf⟩ := m_chkPE hf
          replace ca := z_in hM (by decide) ca
          refine z_get (k := 4) (j := 4) (C := RX4) (T := TX4) (N := 7) (fl := zf_4) (v := .int (zI o3.2 4 o2.1)) X hw_X11_addMark_4 hM rfl zc_4 ca (by decide) fl_X11_addMark_4_4 rfl dX11_addMark_64 ?_
          clear ca
          exact hret _ _ _ _ H locs _ ls hf hM rfl dX11_addMark_67
        · replace hf := m_ifPF hf cc1
          exact w_X11_addMark_48 X hret hthr hf hCT hM (lv_sub hl [] rfl)
    · replace hf := m_ifPF hf cc1
      exact w_X11_addMark_11 X hret hthr hf hCT hM (lv_sub hl [] rfl)
noncomputable def g_X11_addMark (x0 : Nat) (x1 : Int32) (S : ZS) (mc ms : Nat) (Pw : Int32 → ZS → Prop) (Px : Nat → ZS → Prop) : Prop := g_X11_addMark_0 Pw Px x0 x1 S mc ms
theorem c_X11_addMark {l : Launch} {D : va_G} {y : Nat → ClassId} {x0 : Nat} {x1 : Int32} {S : ZS} {kc kt : Nat} {Pw : Int32 → ZS → Prop} {Px : Nat → ZS → Prop} (hlt : l.stackTraces = false) (hf : g_X11_addMark x0 x1 S kc kt Pw Px) : zXi l yX11_addMark wsX11_addMark ({ frames := 6, cells := kc, slots := kt, locals := 90 } : Room) [.ref (zh y x0), .int x1] D y S kc kt Pw Px :=
  z_xentI hlt ⟨Nat.le_of_ble_eq_true rfl, Nat.le_of_ble_eq_true rfl⟩ (own := RX11) (cc := cX11_addMark) (maxL := 3) (by decide) rfl rfl (Nat.le_of_ble_eq_true rfl) ⟨rfl, rfl⟩ (fun p e s m args below meth c A0 Q H locs ls X hret hthr hM hl => w_X11_addMark_0 X hret hthr hf ⟨Nat.le_refl _, Nat.le_refl _⟩ hM (lv_sub hl [0, 1] rfl))
theorem hd_X11_say : yX11_say.cls = RX11 ∧ yX11_say.cls ≠ "java/lang/invoke/MethodHandle" ∧ yX11_say.cls ≠ "java/lang/invoke/VarHandle" ∧ (parseMethodDescriptor yX11_say.desc).map (fun d => d.parameters.length) = some 0 := by decide +kernel
theorem fl_X11_say_11_0 : Cond.fieldLink RX11 10 "MoveTexts" "text" "LMoveTexts$Row;" ∈ wsX11_say := by decide +kernel
theorem fl_X11_say_11_7 : Cond.fieldLink RX11 57 "MoveTexts" "game" "LMoveTexts$Game;" ∈ wsX11_say := by decide +kernel
theorem fl_X11_say_11_8 : Cond.fieldLink RX11 61 "MoveTexts" "here" "I" ∈ wsX11_say := by decide +kernel
theorem fl_X11_say_4_6 : Cond.fieldLink RX11 182 "MoveTexts$Node" "remark" "LMoveTexts$Row;" ∈ wsX11_say := by decide +kernel
theorem hw_X11_say_11 : ∀ w ∈ wsX110, w ∈ wsX11_say := by decide +kernel
theorem hw_X11_say_4 : ∀ w ∈ wsX40, w ∈ wsX11_say := by decide +kernel
theorem sr_X11_say_237 : (RX11, 237, "not a remark", 24) ∈ zSR := by decide +kernel
theorem xt_X11_say_1 : zTx RX11 wsX11_say 1 144 148 := ⟨by decide +kernel, fun w hw => List.mem_cons_of_mem _ (List.mem_append_right _ hw), xh_1, xg_1⟩
noncomputable def g_X11_say_43 (Pw : Int32 → ZS → Prop) (Px : Nat → ZS → Prop) (S : ZS) (C T : Nat) : Prop :=
  m_thrP (C) (T) 1 S Px

set_option maxRecDepth 100000 in
set_option maxHeartbeats 4000000 in
theorem w_X11_say_43 {p : Program} {l : Launch} {e : Env} {s : State} {m : MethodId} {args : Array Value} {below : List Frame} {meth : Method} {c : Code} {Q : State → Prop} {D : va_G} {y : Nat → ClassId} {A0 : Nat → Prop} {kc kt : Nat} {Pw : Int32 → ZS → Prop} {Px : Nat → ZS → Prop} (X : CallFix p m c cX11_say 2 s args wsX11_say RX11) (hret : zQi p l e ({ frames := 6, cells := kc, slots := kt, locals := 125 } : Room) s m args below meth c Q cX11_say D y A0 .int Pw) (hthr : zQx p l e ({ frames := 6, cells := kc, slots := kt, locals := 125 } : Room) s m args below meth c Q cX11_say D y A0 Px RX11 wsX11_say) {S : ZS} {C T : Nat} {H : Heap} {locs : List Loc} {ls : Array Slot} (hf : g_X11_say_43 Pw Px  S C T) (hCT : C ≤ kc ∧ T ≤ kt) (hM : zH D y A0 s H locs S) (hl : lv_has ls 2 []) : W p l e ({ frames := 6, cells := kc, slots := kt, locals := 125 } : Room) s m args below meth c H locs (kc - C) (kt - T) Q (F0 m 43 ls []) := by
  obtain ⟨hx, hb, hml, hown, hts⟩ := id X
  unfold g_X11_say_43 at hf
  exact hthr 1 _ _ _ H locs _ _ _ _ ls _ _ hf hCT hM (by rw [hml]; exact hl.1) xt_X11_say_1 sr_X11_say_237 ⟨dX11_say_43, dX11_say_46, Or.inl ⟨dX11_say_47, dX11_say_49, dX11_say_52⟩⟩
noncomputable def g_X11_say_0 (Pw : Int32 → ZS → Prop) (Px : Nat → ZS → Prop) (x0 : Nat) (S : ZS) (C T : Nat) : Prop :=
  m_chkQ (zK S x0 = 11) (
  m_calP (zP S 0 x0) (fun b1 =>
  m_chkQ (zK S b1 = 6) (
  m_calP (f_X6_size b1 S) (fun o2 =>
  m_ifQ ((200 : Int32) < o2.1) (
  g_X11_say_43 Pw Px  o2.2 (C) (T)
  ) (
  m_chkQ (zK o2.2 x0 = 11) (
  m_calP (zP o2.2 0 x0) (fun b3 =>
  m_chkQ (zK o2.2 b3 = 6) (
  m_calP (f_X6_indexOf b3 (125 : Int32) (0 : Int32) o2.2) (fun o4 =>
  m_ifQ (o4.1 < o2.1) (
  g_X11_say_43 Pw Px  o4.2 (C) (T)
  ) (
  m_chkQ (zK o4.2 x0 = 11) (
  m_calP (zP o4.2 0 x0) (fun b5 =>
  m_chkQ (zK o4.2 b5 = 6) (
  m_calP (f_X6_indexOf b5 (10 : Int32) (0 : Int32) o4.2) (fun o6 =>
  m_ifQ (o2.1 ≤ o6.1) (
  m_chkQ (zK o6.2 x0 = 11) (
  m_calP (zP o6.2 7 x0) (fun b7 =>
  m_chkQ (zK o6.2 x0 = 11) (
  m_chkQ (zK o6.2 b7 = 1) (
  m_calP (f_X1_at b7 (zI o6.2 8 x0) o6.2) (fun o8 =>
  m_chkQ (zK o8.2 o8.1 = 4) (
  m_calP (zP o8.2 6 o8.1) (fun b9 =>
  m_chkQ (zK o8.2 x0 = 11) (
  m_calP (zP o8.2 0 x0) (fun b10 =>
  m_chkQ (zK o8.2 b9 = 6) (
  m_gal (C) (T) (fun mc ms Pw => g_X6_copyFrom b9 b10 o8.2 mc ms Pw) (fun r12 S13 C14 T15 =>
  m_chkQ (zK S13 x0 = 11) (
  m_calP (zP S13 0 x0) (fun b16 =>
  m_chkQ (zK S13 b16 = 6) (
  m_calP (f_X6_keep b16 (0 : Int32) S13) (fun o17 =>
  Pw o2.1 o17.2)))))))))))))))
  ) (
  g_X11_say_43 Pw Px  o6.2 (C) (T)
  )))))
  )))))
  )))))

set_option maxRecDepth 100000 in
set_option maxHeartbeats 4000000 in
theorem w_X11_say_0 {p : Program} {l : Launch} {e : Env} {s : State} {m : MethodId} {args : Array Value} {below : List Frame} {meth : Method} {c : Code} {Q : State → Prop} {D : va_G} {y : Nat → ClassId} {A0 : Nat → Prop} {kc kt : Nat} {Pw : Int32 → ZS → Prop} {Px : Nat → ZS → Prop} (X : CallFix p m c cX11_say 2 s args wsX11_say RX11) (hret : zQi p l e ({ frames := 6, cells := kc, slots := kt, locals := 125 } : Room) s m args below meth c Q cX11_say D y A0 .int Pw) (hthr : zQx p l e ({ frames := 6, cells := kc, slots := kt, locals := 125 } : Room) s m args below meth c Q cX11_say D y A0 Px RX11 wsX11_say) {x0 : Nat} {S : ZS} {C T : Nat} {H : Heap} {locs : List Loc} {ls : Array Slot} (hf : g_X11_say_0 Pw Px x0 S C T) (hCT : C ≤ kc ∧ T ≤ kt) (hM : zH D y A0 s H locs S) (hl : lv_has ls 2 [(0, .ref (zh y x0))]) : W p l e ({ frames := 6, cells := kc, slots := kt, locals := 125 } : Room) s m args below meth c H locs (kc - C) (kt - T) Q (F0 m 0 ls []) := by
  obtain ⟨hx, hb, hml, hown, hts⟩ := id X
  unfold g_X11_say_0 at hf
  refine lv_aload_n hx hb dX11_say_0 rfl (lv_at hl 0 rfl) ?_
  obtain ⟨ca, hf⟩ := m_chkPE hf
  replace ca := z_in hM (by decide) ca
  refine z_get (k := 11) (j := 0) (C := RX11) (T := TX11) (N := 10) (fl := zf_11) (v := va_rf ((zP S 0 x0).map (zh y))) X hw_X11_say_11 hM rfl zc_11 ca (by decide) fl_X11_say_11_0 rfl dX11_say_1 ?_
  clear ca
  obtain ⟨b1, hb9, hf⟩ := m_calPE hf
  refine z_topr hb9 ?_
  clear hb9
  obtain ⟨ca, hf⟩ := m_chkPE hf
  replace ca := z_in hM (by decide) ca
  obtain ⟨o2, ho, hf⟩ := m_calPE hf
  refine z_gcallVi (k := 6) (C := RX6) (T := TX6) (N := 2) (fl := zf_6) X hM rfl zc_6 ca (c_X6_size ho) gX11_say_X6_size rfl ⟨rfl, rfl⟩ hd_X6_size ⟨Nat.le_of_ble_eq_true rfl, Nat.le_of_ble_eq_true rfl⟩ rfl hl.1 rfl ⟨Nat.sub_le _ _, Nat.sub_le _ _⟩ (Nat.le_of_ble_eq_true rfl) dX11_say_4 (fun H locs hM => ?_)
  clear ho
  refine lv_istore_n (lv' := [(1, .int o2.1), (0, .ref (zh y x0))]) hx hb dX11_say_7 rfl hl (by decide) rfl (fun ls hl => ?_)
  refine lv_iload_n hx hb dX11_say_8 rfl (lv_at hl 0 rfl) ?_
  refine lv_sipush (v := (200 : Int32)) hx hb dX11_say_9 (by decide) ?_
  refine lv_icmp_gt (tgt := 43) hx hb dX11_say_12 (by decide) (fun cc1 => ?_) (fun cc1 => ?_)
  · replace hf := m_ifPT hf cc1
    exact w_X11_say_43 X hret hthr hf hCT hM (lv_sub hl [] rfl)
  · replace hf := m_ifPF hf cc1
    refine lv_aload_n hx hb dX11_say_15 rfl (lv_at hl 1 rfl) ?_
    obtain ⟨ca, hf⟩ := m_chkPE hf
    replace ca := z_in hM (by decide) ca
    refine z_get (k := 11) (j := 0) (C := RX11) (T := TX11) (N := 10) (fl := zf_11) (v := va_rf ((zP o2.2 0 x0).map (zh y))) X hw_X11_say_11 hM rfl zc_11 ca (by decide) fl_X11_say_11_0 rfl dX11_say_16 ?_
    clear ca
    obtain ⟨b3, hb9, hf⟩ := m_calPE hf
    refine z_topr hb9 ?_
    clear hb9
    refine lv_bipush (v := (125 : Int32)) hx hb dX11_say_19 (by decide) ?_
    refine lv_iconst (v := (0 : Int32)) hx hb dX11_say_21 (by decide) ?_
    obtain ⟨ca, hf⟩ := m_chkPE hf
    replace ca := z_in hM (by decide) ca
    obtain ⟨o4, ho, hf⟩ := m_calPE hf
    refine z_gcallVi (k := 6) (C := RX6) (T := TX6) (N := 2) (fl := zf_6) X hM rfl zc_6 ca (c_X6_indexOf ho) gX11_say_X6_indexOf rfl ⟨rfl, rfl⟩ hd_X6_indexOf ⟨Nat.le_of_ble_eq_true rfl, Nat.le_of_ble_eq_true rfl⟩ rfl hl.1 rfl ⟨Nat.sub_le _ _, Nat.sub_le _ _⟩ (Nat.le_of_ble_eq_true rfl) dX11_say_22 (fun H locs hM => ?_)
    clear ho
    refine lv_iload_n hx hb dX11_say_25 rfl (lv_at hl 0 rfl) ?_
    refine lv_icmp_lt (tgt := 43) hx hb dX11_say_26 (by decide) (fun cc1 => ?_) (fun cc1 => ?_)
    · replace hf := m_ifPT hf cc1
      exact w_X11_say_43 X hret hthr hf hCT hM (lv_sub hl [] rfl)
    · replace hf := m_ifPF hf cc1
      refine lv_aload_n hx hb dX11_say_29 rfl (lv_at hl 1 rfl) ?_
      obtain ⟨ca, hf⟩ := m_chkPE hf
      replace ca := z_in hM (by decide) ca
      refine z_get (k := 11) (j := 0) (C := RX11) (T := TX11) (N := 10) (fl := zf_11) (v := va_rf ((zP o4.2 0 x0).map (zh y))) X hw_X11_say_11 hM rfl zc_11 ca (by decide) fl_X11_say_11_0 rfl dX11_say_30 ?_
      clear ca
      obtain ⟨b5, hb9, hf⟩ := m_calPE hf
      refine z_topr hb9 ?_
      clear hb9
      refine lv_bipush (v := (10 : Int32)) hx hb dX11_say_33 (by decide) ?_
      refine lv_iconst (v := (0 : Int32)) hx hb dX11_say_35 (by decide) ?_
      obtain ⟨ca, hf⟩ := m_chkPE hf
      replace ca := z_in hM (by decide) ca
      obtain ⟨o6, ho, hf⟩ := m_calPE hf
      refine z_gcallVi (k := 6) (C := RX6) (T := TX6) (N := 2) (fl := zf_6) X hM rfl zc_6 ca (c_X6_indexOf ho) gX11_say_X6_indexOf rfl ⟨rfl, rfl⟩ hd_X6_indexOf ⟨Nat.le_of_ble_eq_true rfl, Nat.le_of_ble_eq_true rfl⟩ rfl hl.1 rfl ⟨Nat.sub_le _ _, Nat.sub_le _ _⟩ (Nat.le_of_ble_eq_true rfl) dX11_say_36 (fun H locs hM => ?_)
      clear ho
      refine lv_iload_n hx hb dX11_say_39 rfl (lv_at hl 0 rfl) ?_
      refine lv_icmp_ge (tgt := 53) hx hb dX11_say_40 (by decide) (fun cc1 => ?_) (fun cc1 => ?_)
      · replace hf := m_ifPT hf cc1
        refine lv_aload_n hx hb dX11_say_53 rfl (lv_at hl 1 rfl) ?_
        obtain ⟨ca, hf⟩ := m_chkPE hf
        replace ca := z_in hM (by decide) ca
        refine z_get (k := 11) (j := 7) (C := RX11) (T := TX11) (N := 10) (fl := zf_11) (v := va_rf ((zP o6.2 7 x0).map (zh y))) X hw_X11_say_11 hM rfl zc_11 ca (by decide) fl_X11_say_11_7 rfl dX11_say_54 ?_
        clear ca
        obtain ⟨b7, hb9, hf⟩ := m_calPE hf
        refine z_topr hb9 ?_
        clear hb9
        refine lv_aload_n hx hb dX11_say_57 rfl (lv_at hl 1 rfl) ?_
        obtain ⟨ca, hf⟩ := m_chkPE hf
        replace ca := z_in hM (by decide) ca
        refine z_get (k := 11) (j := 8) (C := RX11) (T := TX11) (N := 10) (fl := zf_11) (v := .int (zI o6.2 8 x0)) X hw_X11_say_11 hM rfl zc_11 ca (by decide) fl_X11_say_11_8 rfl dX11_say_58 ?_
        clear ca
        obtain ⟨ca, hf⟩ := m_chkPE hf
        replace ca := z_in hM (by decide) ca
        obtain ⟨o8, ho, hf⟩ := m_calPE hf
        refine z_gcallVr (k := 1) (C := RX1) (T := TX1) (N := 8) (fl := zf_1) X hM rfl zc_1 ca (c_X1_at ho) gX11_say_X1_at rfl ⟨rfl, rfl⟩ hd_X1_at ⟨Nat.le_of_ble_eq_true rfl, Nat.le_of_ble_eq_true rfl⟩ rfl hl.1 rfl ⟨Nat.sub_le _ _, Nat.sub_le _ _⟩ (Nat.le_of_ble_eq_true rfl) dX11_say_61 (fun H locs hM => ?_)
        clear ho
        obtain ⟨ca, hf⟩ := m_chkPE hf
        replace ca := z_in hM (by decide) ca
        refine z_get (k := 4) (j := 6) (C := RX4) (T := TX4) (N := 7) (fl := zf_4) (v := va_rf ((zP o8.2 6 o8.1).map (zh y))) X hw_X11_say_4 hM rfl zc_4 ca (by decide) fl_X11_say_4_6 rfl dX11_say_64 ?_
        clear ca
        obtain ⟨b9, hb9, hf⟩ := m_calPE hf
        refine z_topr hb9 ?_
        clear hb9
        refine lv_aload_n hx hb dX11_say_67 rfl (lv_at hl 1 rfl) ?_
        obtain ⟨ca, hf⟩ := m_chkPE hf
        replace ca := z_in hM (by decide) ca
        refine z_get (k := 11) (j := 0) (C := RX11) (T := TX11) (N := 10) (fl := zf_11) (v := va_rf ((zP o8.2 0 x0).map (zh y))) X hw_X11_say_11 hM rfl zc_11 ca (by decide) fl_X11_say_11_0 rfl dX11_say_68 ?_
        clear ca
        obtain ⟨b10, hb9, hf⟩ := m_calPE hf
        refine z_topr hb9 ?_
        clear hb9
        obtain ⟨ca, hf⟩ := m_chkPE hf
        replace ca := z_in hM (by decide) ca
        obtain ⟨mc, ms, hcm, ho⟩ := m_galE hf
        refine z_wcallVv (k := 6) (C := RX6) (T := TX6) (N := 2) (fl := zf_6) X hM rfl zc_6 ca (c_X6_copyFrom ho) gX11_say_X6_copyFrom rfl ⟨rfl, rfl⟩ ⟨by show kc - (C) + mc ≤ kc; omega, by show kt - (T) + ms ≤ kt; omega⟩ hd_X6_copyFrom ⟨Nat.le_of_ble_eq_true rfl, Nat.le_of_ble_eq_true rfl⟩ rfl hl.1 rfl (Nat.le_of_ble_eq_true rfl) dX11_say_71 (fun S13 H locs hf hM => ?_)
        refine z_eqCS (c2 := kc - (C - mc)) (t2 := kt - (T - ms)) (by omega) (by omega) ?_
        replace hCT : C - mc ≤ kc ∧ T - ms ≤ kt := by omega
        generalize C - mc = C14 at hf hCT ⊢
        generalize T - ms = T15 at hf hCT ⊢
        clear ho hcm
        refine lv_aload_n hx hb dX11_say_74 rfl (lv_at hl 1 rfl) ?_
        obtain ⟨ca, hf⟩ := m_chkPE hf
        replace ca := z_in hM (by decide) ca
        refine z_get (k := 11) (j := 0) (C := RX11) (T := TX11) (N := 10) (fl := zf_11) (v := va_rf ((zP S13 0 x0).map (zh y))) X hw_X11_say_11 hM rfl zc_11 ca (by decide) fl_X11_say_11_0 rfl dX11_say_75 ?_
        clear ca
        obtain ⟨b16, hb9, hf⟩ := m_calPE hf
        refine z_topr hb9 ?_
        clear hb9
        refine lv_iconst (v := (0 : Int32)) hx hb dX11_say_78 (by decide) ?_
        obtain ⟨ca, hf⟩ := m_chkPE hf
        replace ca := z_in hM (by decide) ca
        obtain ⟨o17, ho, hf⟩ := m_calPE hf
        refine z_gcallVv (k := 6) (C := RX6) (T := TX6) (N := 2) (fl := zf_6) X hM rfl zc_6 ca (c_X6_keep ho) gX11_say_X6_keep rfl ⟨rfl, rfl⟩ hd_X6_keep ⟨Nat.le_of_ble_eq_true rfl, Nat.le_of_ble_eq_true rfl⟩ rfl hl.1 rfl ⟨Nat.sub_le _ _, Nat.sub_le _ _⟩ (Nat.le_of_ble_eq_true rfl) dX11_say_79 (fun H locs hM => ?_)
        clear ho
        refine lv_iload_n hx hb dX11_say_82 rfl (lv_at hl 0 rfl) ?_
        exact hret _ _ _ _ H locs _ ls hf hM rfl dX11_say_83
      · replace hf := m_ifPF hf cc1
        exact w_X11_say_43 X hret hthr hf hCT hM (lv_sub hl [] rfl)
noncomputable def g_X11_say (x0 : Nat) (S : ZS) (mc ms : Nat) (Pw : Int32 → ZS → Prop) (Px : Nat → ZS → Prop) : Prop := g_X11_say_0 Pw Px x0 S mc ms
theorem c_X11_say {l : Launch} {D : va_G} {y : Nat → ClassId} {x0 : Nat} {S : ZS} {kc kt : Nat} {Pw : Int32 → ZS → Prop} {Px : Nat → ZS → Prop} (hlt : l.stackTraces = false) (hf : g_X11_say x0 S kc kt Pw Px) : zXi l yX11_say wsX11_say ({ frames := 6, cells := kc, slots := kt, locals := 125 } : Room) [.ref (zh y x0)] D y S kc kt Pw Px :=
  z_xentI hlt ⟨Nat.le_of_ble_eq_true rfl, Nat.le_of_ble_eq_true rfl⟩ (own := RX11) (cc := cX11_say) (maxL := 2) (by decide) rfl rfl (Nat.le_of_ble_eq_true rfl) ⟨rfl, rfl⟩ (fun p e s m args below meth c A0 Q H locs ls X hret hthr hM hl => w_X11_say_0 X hret hthr hf ⟨Nat.le_refl _, Nat.le_refl _⟩ hM (lv_sub hl [0] rfl))
theorem hd_X11_lead : yX11_lead.cls = RX11 ∧ yX11_lead.cls ≠ "java/lang/invoke/MethodHandle" ∧ yX11_lead.cls ≠ "java/lang/invoke/VarHandle" ∧ (parseMethodDescriptor yX11_lead.desc).map (fun d => d.parameters.length) = some 0 := by decide +kernel
theorem fl_X11_lead_11_7 : Cond.fieldLink RX11 57 "MoveTexts" "game" "LMoveTexts$Game;" ∈ wsX11_lead := by decide +kernel
theorem fl_X11_lead_11_8 : Cond.fieldLink RX11 61 "MoveTexts" "here" "I" ∈ wsX11_lead := by decide +kernel
theorem hw_X11_lead_11 : ∀ w ∈ wsX110, w ∈ wsX11_lead := by decide +kernel
theorem sr_X11_lead_242 : (RX11, 242, "node 0 has no others beside it", 25) ∈ zSR := by decide +kernel
theorem sr_X11_lead_250 : (RX11, 250, "a node would be too deep", 26) ∈ zSR := by decide +kernel
theorem xt_X11_lead_4 : zTx RX11 wsX11_lead 4 225 229 := ⟨by decide +kernel, fun w hw => List.mem_cons_of_mem _ (List.mem_append_right _ hw), xh_4, xg_4⟩
noncomputable def g_X11_lead_0 (Pw : Int32 → ZS → Prop) (Px : Nat → ZS → Prop) (x0 : Nat) (S : ZS) (C T : Nat) : Prop :=
  m_chkQ (zK S x0 = 11) (
  m_ifQ ((zI S 8 x0) = 0) (
  m_thrP (C) (T) 4 S Px
  ) (
  m_chkQ (zK S x0 = 11) (
  m_calP (zP S 7 x0) (fun b1 =>
  m_chkQ (zK S x0 = 11) (
  m_chkQ (zK S b1 = 1) (
  m_calP (f_X1_goesOn b1 (zI S 8 x0) S) (fun o2 =>
  m_ifQ (o2.1 = 0) (
  m_chkQ (zK o2.2 x0 = 11) (
  m_calP (zP o2.2 7 x0) (fun b3 =>
  m_chkQ (zK o2.2 x0 = 11) (
  m_chkQ (zK o2.2 b3 = 1) (
  m_calP (f_X1_mayLead b3 (zI o2.2 8 x0) o2.2) (fun o4 =>
  m_ifQ (o4.1 = 0) (
  m_thrP (C) (T) 4 o4.2 Px
  ) (
  m_chkQ (zK o4.2 x0 = 11) (
  m_calP (zP o4.2 7 x0) (fun b5 =>
  m_chkQ (zK o4.2 x0 = 11) (
  m_chkQ (zK o4.2 b5 = 1) (
  m_calP (f_X1_putFirst b5 (zI o4.2 8 x0) o4.2) (fun o6 =>
  m_chkQ (vp_nar .boolean (1 : Int32) = (1 : Int32)) (Pw (1 : Int32) o6.2))))))
  ))))))
  ) (
  m_chkQ (vp_nar .boolean (0 : Int32) = (0 : Int32)) (Pw (0 : Int32) o2.2)
  ))))))
  ))

set_option maxRecDepth 100000 in
set_option maxHeartbeats 4000000 in
theorem w_X11_lead_0 {p : Program} {l : Launch} {e : Env} {s : State} {m : MethodId} {args : Array Value} {below : List Frame} {meth : Method} {c : Code} {Q : State → Prop} {D : va_G} {y : Nat → ClassId} {A0 : Nat → Prop} {kc kt : Nat} {Pw : Int32 → ZS → Prop} {Px : Nat → ZS → Prop} (X : CallFix p m c cX11_lead 1 s args wsX11_lead RX11) (hret : zQi p l e ({ frames := 6, cells := kc, slots := kt, locals := 90 } : Room) s m args below meth c Q cX11_lead D y A0 .boolean Pw) (hthr : zQx p l e ({ frames := 6, cells := kc, slots := kt, locals := 90 } : Room) s m args below meth c Q cX11_lead D y A0 Px RX11 wsX11_lead) {x0 : Nat} {S : ZS} {C T : Nat} {H : Heap} {locs : List Loc} {ls : Array Slot} (hf : g_X11_lead_0 Pw Px x0 S C T) (hCT : C ≤ kc ∧ T ≤ kt) (hM : zH D y A0 s H locs S) (hl : lv_has ls 1 [(0, .ref (zh y x0))]) : W p l e ({ frames := 6, cells := kc, slots := kt, locals := 90 } : Room) s m args below meth c H locs (kc - C) (kt - T) Q (F0 m 0 ls []) := by
  obtain ⟨hx, hb, hml, hown, hts⟩ := id X
  unfold g_X11_lead_0 at hf
  refine lv_aload_n hx hb dX11_lead_0 rfl (lv_at hl 0 rfl) ?_
  obtain ⟨ca, hf⟩ := m_chkPE hf
  replace ca := z_in hM (by decide) ca
  refine z_get (k := 11) (j := 8) (C := RX11) (T := TX11) (N := 10) (fl := zf_11) (v := .int (zI S 8 x0)) X hw_X11_lead_11 hM rfl zc_11 ca (by decide) fl_X11_lead_11_8 rfl dX11_lead_1 ?_
  clear ca
  refine lv_if_ne (tgt := 17) hx hb dX11_lead_4 (by decide) (fun cc1 => ?_) (fun cc1 => ?_)
  · replace hf := m_ifPF hf cc1
    refine lv_aload_n hx hb dX11_lead_17 rfl (lv_at hl 0 rfl) ?_
    obtain ⟨ca, hf⟩ := m_chkPE hf
    replace ca := z_in hM (by decide) ca
    refine z_get (k := 11) (j := 7) (C := RX11) (T := TX11) (N := 10) (fl := zf_11) (v := va_rf ((zP S 7 x0).map (zh y))) X hw_X11_lead_11 hM rfl zc_11 ca (by decide) fl_X11_lead_11_7 rfl dX11_lead_18 ?_
    clear ca
    obtain ⟨b1, hb9, hf⟩ := m_calPE hf
    refine z_topr hb9 ?_
    clear hb9
    refine lv_aload_n hx hb dX11_lead_21 rfl (lv_at hl 0 rfl) ?_
    obtain ⟨ca, hf⟩ := m_chkPE hf
    replace ca := z_in hM (by decide) ca
    refine z_get (k := 11) (j := 8) (C := RX11) (T := TX11) (N := 10) (fl := zf_11) (v := .int (zI S 8 x0)) X hw_X11_lead_11 hM rfl zc_11 ca (by decide) fl_X11_lead_11_8 rfl dX11_lead_22 ?_
    clear ca
    obtain ⟨ca, hf⟩ := m_chkPE hf
    replace ca := z_in hM (by decide) ca
    obtain ⟨o2, ho, hf⟩ := m_calPE hf
    refine z_gcallVi (k := 1) (C := RX1) (T := TX1) (N := 8) (fl := zf_1) X hM rfl zc_1 ca (c_X1_goesOn ho) gX11_lead_X1_goesOn rfl ⟨rfl, rfl⟩ hd_X1_goesOn ⟨Nat.le_of_ble_eq_true rfl, Nat.le_of_ble_eq_true rfl⟩ rfl hl.1 rfl ⟨Nat.sub_le _ _, Nat.sub_le _ _⟩ (Nat.le_of_ble_eq_true rfl) dX11_lead_25 (fun H locs hM => ?_)
    clear ho
    refine lv_if_eq (tgt := 33) hx hb dX11_lead_28 (by decide) (fun cc1 => ?_) (fun cc1 => ?_)
    · replace hf := m_ifPT hf cc1
      refine lv_aload_n hx hb dX11_lead_33 rfl (lv_at hl 0 rfl) ?_
      obtain ⟨ca, hf⟩ := m_chkPE hf
      replace ca := z_in hM (by decide) ca
      refine z_get (k := 11) (j := 7) (C := RX11) (T := TX11) (N := 10) (fl := zf_11) (v := va_rf ((zP o2.2 7 x0).map (zh y))) X hw_X11_lead_11 hM rfl zc_11 ca (by decide) fl_X11_lead_11_7 rfl dX11_lead_34 ?_
      clear ca
      obtain ⟨b3, hb9, hf⟩ := m_calPE hf
      refine z_topr hb9 ?_
      clear hb9
      refine lv_aload_n hx hb dX11_lead_37 rfl (lv_at hl 0 rfl) ?_
      obtain ⟨ca, hf⟩ := m_chkPE hf
      replace ca := z_in hM (by decide) ca
      refine z_get (k := 11) (j := 8) (C := RX11) (T := TX11) (N := 10) (fl := zf_11) (v := .int (zI o2.2 8 x0)) X hw_X11_lead_11 hM rfl zc_11 ca (by decide) fl_X11_lead_11_8 rfl dX11_lead_38 ?_
      clear ca
      obtain ⟨ca, hf⟩ := m_chkPE hf
      replace ca := z_in hM (by decide) ca
      obtain ⟨o4, ho, hf⟩ := m_calPE hf
      refine z_gcallVi (k := 1) (C := RX1) (T := TX1) (N := 8) (fl := zf_1) X hM rfl zc_1 ca (c_X1_mayLead ho) gX11_lead_X1_mayLead rfl ⟨rfl, rfl⟩ hd_X1_mayLead ⟨Nat.le_of_ble_eq_true rfl, Nat.le_of_ble_eq_true rfl⟩ rfl hl.1 rfl ⟨Nat.sub_le _ _, Nat.sub_le _ _⟩ (Nat.le_of_ble_eq_true rfl) dX11_lead_41 (fun H locs hM => ?_)
      clear ho
      refine lv_if_ne (tgt := 57) hx hb dX11_lead_44 (by decide) (fun cc1 => ?_) (fun cc1 => ?_)
      · replace hf := m_ifPF hf cc1
        refine lv_aload_n hx hb dX11_lead_57 rfl (lv_at hl 0 rfl) ?_
        obtain ⟨ca, hf⟩ := m_chkPE hf
        replace ca := z_in hM (by decide) ca
        refine z_get (k := 11) (j := 7) (C := RX11) (T := TX11) (N := 10) (fl := zf_11) (v := va_rf ((zP o4.2 7 x0).map (zh y))) X hw_X11_lead_11 hM rfl zc_11 ca (by decide) fl_X11_lead_11_7 rfl dX11_lead_58 ?_
        clear ca
        obtain ⟨b5, hb9, hf⟩ := m_calPE hf
        refine z_topr hb9 ?_
        clear hb9
        refine lv_aload_n hx hb dX11_lead_61 rfl (lv_at hl 0 rfl) ?_
        obtain ⟨ca, hf⟩ := m_chkPE hf
        replace ca := z_in hM (by decide) ca
        refine z_get (k := 11) (j := 8) (C := RX11) (T := TX11) (N := 10) (fl := zf_11) (v := .int (zI o4.2 8 x0)) X hw_X11_lead_11 hM rfl zc_11 ca (by decide) fl_X11_lead_11_8 rfl dX11_lead_62 ?_
        clear ca
        obtain ⟨ca, hf⟩ := m_chkPE hf
        replace ca := z_in hM (by decide) ca
        obtain ⟨o6, ho, hf⟩ := m_calPE hf
        refine z_gcallVv (k := 1) (C := RX1) (T := TX1) (N := 8) (fl := zf_1) X hM rfl zc_1 ca (c_X1_putFirst ho) gX11_lead_X1_putFirst rfl ⟨rfl, rfl⟩ hd_X1_putFirst ⟨Nat.le_of_ble_eq_true rfl, Nat.le_of_ble_eq_true rfl⟩ rfl hl.1 rfl ⟨Nat.sub_le _ _, Nat.sub_le _ _⟩ (Nat.le_of_ble_eq_true rfl) dX11_lead_65 (fun H locs hM => ?_)
        clear ho
        refine lv_iconst (v := (1 : Int32)) hx hb dX11_lead_68 (by decide) ?_
        obtain ⟨cd, hf⟩ := m_chkPE hf
        exact hret _ _ _ _ H locs _ ls hf hM (m_nb cd) dX11_lead_69
      · replace hf := m_ifPT hf cc1
        exact hthr 4 _ _ _ H locs _ _ _ _ ls _ _ hf hCT hM (by rw [hml]; exact hl.1) xt_X11_lead_4 sr_X11_lead_250 ⟨dX11_lead_47, dX11_lead_50, Or.inl ⟨dX11_lead_51, dX11_lead_53, dX11_lead_56⟩⟩
    · replace hf := m_ifPF hf cc1
      refine lv_iconst (v := (0 : Int32)) hx hb dX11_lead_31 (by decide) ?_
      obtain ⟨cd, hf⟩ := m_chkPE hf
      exact hret _ _ _ _ H locs _ ls hf hM (m_nb cd) dX11_lead_32
  · replace hf := m_ifPT hf cc1
    exact hthr 4 _ _ _ H locs _ _ _ _ ls _ _ hf hCT hM (by rw [hml]; exact hl.1) xt_X11_lead_4 sr_X11_lead_242 ⟨dX11_lead_7, dX11_lead_10, Or.inl ⟨dX11_lead_11, dX11_lead_13, dX11_lead_16⟩⟩
noncomputable def g_X11_lead (x0 : Nat) (S : ZS) (mc ms : Nat) (Pw : Int32 → ZS → Prop) (Px : Nat → ZS → Prop) : Prop := g_X11_lead_0 Pw Px x0 S mc ms
theorem c_X11_lead {l : Launch} {D : va_G} {y : Nat → ClassId} {x0 : Nat} {S : ZS} {kc kt : Nat} {Pw : Int32 → ZS → Prop} {Px : Nat → ZS → Prop} (hlt : l.stackTraces = false) (hf : g_X11_lead x0 S kc kt Pw Px) : zXi l yX11_lead wsX11_lead ({ frames := 6, cells := kc, slots := kt, locals := 90 } : Room) [.ref (zh y x0)] D y S kc kt Pw Px :=
  z_xentI hlt ⟨Nat.le_of_ble_eq_true rfl, Nat.le_of_ble_eq_true rfl⟩ (own := RX11) (cc := cX11_lead) (maxL := 1) (by decide) rfl rfl (Nat.le_of_ble_eq_true rfl) ⟨rfl, rfl⟩ (fun p e s m args below meth c A0 Q H locs ls X hret hthr hM hl => w_X11_lead_0 X hret hthr hf ⟨Nat.le_refl _, Nat.le_refl _⟩ hM (lv_sub hl [0] rfl))
theorem hd_X11_end : yX11_end.cls = RX11 ∧ yX11_end.cls ≠ "java/lang/invoke/MethodHandle" ∧ yX11_end.cls ≠ "java/lang/invoke/VarHandle" ∧ (parseMethodDescriptor yX11_end.desc).map (fun d => d.parameters.length) = some 1 := by decide +kernel
theorem fl_X11_end_11_7 : Cond.fieldLink RX11 57 "MoveTexts" "game" "LMoveTexts$Game;" ∈ wsX11_end := by decide +kernel
theorem fl_X11_end_1_6 : Cond.fieldLink RX11 257 "MoveTexts$Game" "result" "I" ∈ wsX11_end := by decide +kernel
theorem hw_X11_end_1 : ∀ w ∈ wsX10, w ∈ wsX11_end := by decide +kernel
theorem hw_X11_end_11 : ∀ w ∈ wsX110, w ∈ wsX11_end := by decide +kernel
theorem sr_X11_end_255 : (RX11, 255, "not a result", 27) ∈ zSR := by decide +kernel
theorem xt_X11_end_1 : zTx RX11 wsX11_end 1 144 148 := ⟨by decide +kernel, fun w hw => List.mem_cons_of_mem _ (List.mem_append_right _ hw), xh_1, xg_1⟩
noncomputable def g_X11_end_9 (Pw : Int32 → ZS → Prop) (Px : Nat → ZS → Prop) (S : ZS) (C T : Nat) : Prop :=
  m_thrP (C) (T) 1 S Px

set_option maxRecDepth 100000 in
set_option maxHeartbeats 4000000 in
theorem w_X11_end_9 {p : Program} {l : Launch} {e : Env} {s : State} {m : MethodId} {args : Array Value} {below : List Frame} {meth : Method} {c : Code} {Q : State → Prop} {D : va_G} {y : Nat → ClassId} {A0 : Nat → Prop} {kc kt : Nat} {Pw : Int32 → ZS → Prop} {Px : Nat → ZS → Prop} (X : CallFix p m c cX11_end 2 s args wsX11_end RX11) (hret : zQv p l e ({ frames := 6, cells := kc, slots := kt, locals := 90 } : Room) s m args below meth c Q cX11_end D y A0 Pw) (hthr : zQx p l e ({ frames := 6, cells := kc, slots := kt, locals := 90 } : Room) s m args below meth c Q cX11_end D y A0 Px RX11 wsX11_end) {S : ZS} {C T : Nat} {H : Heap} {locs : List Loc} {ls : Array Slot} (hf : g_X11_end_9 Pw Px  S C T) (hCT : C ≤ kc ∧ T ≤ kt) (hM : zH D y A0 s H locs S) (hl : lv_has ls 2 []) : W p l e ({ frames := 6, cells := kc, slots := kt, locals := 90 } : Room) s m args below meth c H locs (kc - C) (kt - T) Q (F0 m 9 ls []) := by
  obtain ⟨hx, hb, hml, hown, hts⟩ := id X
  unfold g_X11_end_9 at hf
  exact hthr 1 _ _ _ H locs _ _ _ _ ls _ _ hf hCT hM (by rw [hml]; exact hl.1) xt_X11_end_1 sr_X11_end_255 ⟨dX11_end_9, dX11_end_12, Or.inl ⟨dX11_end_13, dX11_end_15, dX11_end_18⟩⟩
noncomputable def g_X11_end_0 (Pw : Int32 → ZS → Prop) (Px : Nat → ZS → Prop) (x0 : Nat) (x1 : Int32) (S : ZS) (C T : Nat) : Prop :=
  m_ifQ (x1 < 0) (
  g_X11_end_9 Pw Px  S (C) (T)
  ) (
  m_ifQ (x1 < (4 : Int32)) (
  m_chkQ (zK S x0 = 11) (
  m_calP (zP S 7 x0) (fun b1 =>
  m_chkQ (zK S b1 = 1) (
  m_bndP (zsI S 6 b1 x1) (fun S2 =>
  Pw 0 S2))))
  ) (
  g_X11_end_9 Pw Px  S (C) (T)
  )
  )

set_option maxRecDepth 100000 in
set_option maxHeartbeats 4000000 in
theorem w_X11_end_0 {p : Program} {l : Launch} {e : Env} {s : State} {m : MethodId} {args : Array Value} {below : List Frame} {meth : Method} {c : Code} {Q : State → Prop} {D : va_G} {y : Nat → ClassId} {A0 : Nat → Prop} {kc kt : Nat} {Pw : Int32 → ZS → Prop} {Px : Nat → ZS → Prop} (X : CallFix p m c cX11_end 2 s args wsX11_end RX11) (hret : zQv p l e ({ frames := 6, cells := kc, slots := kt, locals := 90 } : Room) s m args below meth c Q cX11_end D y A0 Pw) (hthr : zQx p l e ({ frames := 6, cells := kc, slots := kt, locals := 90 } : Room) s m args below meth c Q cX11_end D y A0 Px RX11 wsX11_end) {x0 : Nat} {x1 : Int32} {S : ZS} {C T : Nat} {H : Heap} {locs : List Loc} {ls : Array Slot} (hf : g_X11_end_0 Pw Px x0 x1 S C T) (hCT : C ≤ kc ∧ T ≤ kt) (hM : zH D y A0 s H locs S) (hl : lv_has ls 2 [(0, .ref (zh y x0)), (1, .int x1)]) : W p l e ({ frames := 6, cells := kc, slots := kt, locals := 90 } : Room) s m args below meth c H locs (kc - C) (kt - T) Q (F0 m 0 ls []) := by
  obtain ⟨hx, hb, hml, hown, hts⟩ := id X
  unfold g_X11_end_0 at hf
  refine lv_iload_n hx hb dX11_end_0 rfl (lv_at hl 1 rfl) ?_
  refine lv_if_lt (tgt := 9) hx hb dX11_end_1 (by decide) (fun cc1 => ?_) (fun cc1 => ?_)
  · replace hf := m_ifPT hf cc1
    exact w_X11_end_9 X hret hthr hf hCT hM (lv_sub hl [] rfl)
  · replace hf := m_ifPF hf cc1
    refine lv_iload_n hx hb dX11_end_4 rfl (lv_at hl 1 rfl) ?_
    refine lv_iconst (v := (4 : Int32)) hx hb dX11_end_5 (by decide) ?_
    refine lv_icmp_lt (tgt := 19) hx hb dX11_end_6 (by decide) (fun cc1 => ?_) (fun cc1 => ?_)
    · replace hf := m_ifPT hf cc1
      refine lv_aload_n hx hb dX11_end_19 rfl (lv_at hl 0 rfl) ?_
      obtain ⟨ca, hf⟩ := m_chkPE hf
      replace ca := z_in hM (by decide) ca
      refine z_get (k := 11) (j := 7) (C := RX11) (T := TX11) (N := 10) (fl := zf_11) (v := va_rf ((zP S 7 x0).map (zh y))) X hw_X11_end_11 hM rfl zc_11 ca (by decide) fl_X11_end_11_7 rfl dX11_end_20 ?_
      clear ca
      obtain ⟨b1, hb9, hf⟩ := m_calPE hf
      refine z_topr hb9 ?_
      clear hb9
      refine lv_iload_n hx hb dX11_end_23 rfl (lv_at hl 1 rfl) ?_
      obtain ⟨ca, hf⟩ := m_chkPE hf
      replace ca := z_in hM (by decide) ca
      refine z_putI (k := 1) (j := 6) (C := RX1) (T := TX1) (N := 8) (fl := zf_1) (ty := .int) X hw_X11_end_1 tyX1_ok nmX1 hM rfl zc_1 ca (by decide) fl_X11_end_1_6 rfl (tyX1_ok 6 (by decide)) rfl rfl zi_1_6 (Nat.le_of_ble_eq_true rfl) dX11_end_24 (fun H locs hM => ?_)
      clear ca
      obtain ⟨S2, ev, hf⟩ := m_bndPE hf
      replace hM := z_hS hM ev
      clear ev
      exact hret _ _ _ H locs _ ls hf hM dX11_end_27
    · replace hf := m_ifPF hf cc1
      exact w_X11_end_9 X hret hthr hf hCT hM (lv_sub hl [] rfl)
noncomputable def g_X11_end (x0 : Nat) (x1 : Int32) (S : ZS) (mc ms : Nat) (Pw : Int32 → ZS → Prop) (Px : Nat → ZS → Prop) : Prop := g_X11_end_0 Pw Px x0 x1 S mc ms
theorem c_X11_end {l : Launch} {D : va_G} {y : Nat → ClassId} {x0 : Nat} {x1 : Int32} {S : ZS} {kc kt : Nat} {Pw : Int32 → ZS → Prop} {Px : Nat → ZS → Prop} (hlt : l.stackTraces = false) (hf : g_X11_end x0 x1 S kc kt Pw Px) : zXv l yX11_end wsX11_end ({ frames := 6, cells := kc, slots := kt, locals := 90 } : Room) [.ref (zh y x0), .int x1] D y S kc kt Pw Px :=
  z_xentV hlt ⟨Nat.le_of_ble_eq_true rfl, Nat.le_of_ble_eq_true rfl⟩ (own := RX11) (cc := cX11_end) (maxL := 2) (by decide) rfl rfl (Nat.le_of_ble_eq_true rfl) ⟨rfl, rfl⟩ (fun p e s m args below meth c A0 Q H locs ls X hret hthr hM hl => w_X11_end_0 X hret hthr hf ⟨Nat.le_refl _, Nat.le_refl _⟩ hM (lv_sub hl [0, 1] rfl))
theorem hd_X11_tag : yX11_tag.cls = RX11 ∧ yX11_tag.cls ≠ "java/lang/invoke/MethodHandle" ∧ yX11_tag.cls ≠ "java/lang/invoke/VarHandle" ∧ (parseMethodDescriptor yX11_tag.desc).map (fun d => d.parameters.length) = some 3 := by decide +kernel
theorem fl_X11_tag_10_0 : Cond.fieldLink RX11 274 "MoveTexts$Tag" "name" "LMoveTexts$Row;" ∈ wsX11_tag := by decide +kernel
theorem fl_X11_tag_10_1 : Cond.fieldLink RX11 269 "MoveTexts$Tag" "value" "LMoveTexts$Row;" ∈ wsX11_tag := by decide +kernel
theorem fl_X11_tag_11_7 : Cond.fieldLink RX11 57 "MoveTexts" "game" "LMoveTexts$Game;" ∈ wsX11_tag := by decide +kernel
theorem fl_X11_tag_1_5 : Cond.fieldLink RX11 260 "MoveTexts$Game" "tagCount" "I" ∈ wsX11_tag := by decide +kernel
theorem hw_X11_tag_1 : ∀ w ∈ wsX10, w ∈ wsX11_tag := by decide +kernel
theorem hw_X11_tag_10 : ∀ w ∈ wsX100, w ∈ wsX11_tag := by decide +kernel
theorem hw_X11_tag_11 : ∀ w ∈ wsX110, w ∈ wsX11_tag := by decide +kernel
theorem sr_X11_tag_263 : (RX11, 263, "no such tag or character", 28) ∈ zSR := by decide +kernel
theorem xt_X11_tag_2 : zTx RX11 wsX11_tag 2 165 169 := ⟨by decide +kernel, fun w hw => List.mem_cons_of_mem _ (List.mem_append_right _ hw), xh_2, xg_2⟩
noncomputable def g_X11_tag_19 (Pw : Int32 → ZS → Prop) (Px : Nat → ZS → Prop) (S : ZS) (C T : Nat) : Prop :=
  m_thrP (C) (T) 2 S Px

set_option maxRecDepth 100000 in
set_option maxHeartbeats 4000000 in
theorem w_X11_tag_19 {p : Program} {l : Launch} {e : Env} {s : State} {m : MethodId} {args : Array Value} {below : List Frame} {meth : Method} {c : Code} {Q : State → Prop} {D : va_G} {y : Nat → ClassId} {A0 : Nat → Prop} {kc kt : Nat} {Pw : Int32 → ZS → Prop} {Px : Nat → ZS → Prop} (X : CallFix p m c cX11_tag 5 s args wsX11_tag RX11) (hret : zQi p l e ({ frames := 6, cells := kc, slots := kt, locals := 90 } : Room) s m args below meth c Q cX11_tag D y A0 .int Pw) (hthr : zQx p l e ({ frames := 6, cells := kc, slots := kt, locals := 90 } : Room) s m args below meth c Q cX11_tag D y A0 Px RX11 wsX11_tag) {S : ZS} {C T : Nat} {H : Heap} {locs : List Loc} {ls : Array Slot} (hf : g_X11_tag_19 Pw Px  S C T) (hCT : C ≤ kc ∧ T ≤ kt) (hM : zH D y A0 s H locs S) (hl : lv_has ls 5 []) : W p l e ({ frames := 6, cells := kc, slots := kt, locals := 90 } : Room) s m args below meth c H locs (kc - C) (kt - T) Q (F0 m 19 ls []) := by
  obtain ⟨hx, hb, hml, hown, hts⟩ := id X
  unfold g_X11_tag_19 at hf
  exact hthr 2 _ _ _ H locs _ _ _ _ ls _ _ hf hCT hM (by rw [hml]; exact hl.1) xt_X11_tag_2 sr_X11_tag_263 ⟨dX11_tag_19, dX11_tag_22, Or.inr ⟨dX11_tag_23, dX11_tag_26, dX11_tag_29⟩⟩
noncomputable def g_X11_tag_65 (Pw : Int32 → ZS → Prop) (Px : Nat → ZS → Prop) (t0 : Int32) (S : ZS) (C T : Nat) : Prop :=
  Pw t0 S

set_option maxRecDepth 100000 in
set_option maxHeartbeats 4000000 in
theorem w_X11_tag_65 {p : Program} {l : Launch} {e : Env} {s : State} {m : MethodId} {args : Array Value} {below : List Frame} {meth : Method} {c : Code} {Q : State → Prop} {D : va_G} {y : Nat → ClassId} {A0 : Nat → Prop} {kc kt : Nat} {Pw : Int32 → ZS → Prop} {Px : Nat → ZS → Prop} (X : CallFix p m c cX11_tag 5 s args wsX11_tag RX11) (hret : zQi p l e ({ frames := 6, cells := kc, slots := kt, locals := 90 } : Room) s m args below meth c Q cX11_tag D y A0 .int Pw) (hthr : zQx p l e ({ frames := 6, cells := kc, slots := kt, locals := 90 } : Room) s m args below meth c Q cX11_tag D y A0 Px RX11 wsX11_tag) {t0 : Int32} {S : ZS} {C T : Nat} {H : Heap} {locs : List Loc} {ls : Array Slot} (hf : g_X11_tag_65 Pw Px t0 S C T) (hCT : C ≤ kc ∧ T ≤ kt) (hM : zH D y A0 s H locs S) (hl : lv_has ls 5 []) : W p l e ({ frames := 6, cells := kc, slots := kt, locals := 90 } : Room) s m args below meth c H locs (kc - C) (kt - T) Q (F0 m 65 ls [.int t0]) := by
  obtain ⟨hx, hb, hml, hown, hts⟩ := id X
  unfold g_X11_tag_65 at hf
  exact hret _ _ _ _ H locs _ ls hf hM rfl dX11_tag_65
noncomputable def g_X11_tag_0 (Pw : Int32 → ZS → Prop) (Px : Nat → ZS → Prop) (x0 : Nat) (x1 : Int32) (x2 : Int32) (x3 : Int32) (S : ZS) (C T : Nat) : Prop :=
  m_ifQ (x1 < 0) (
  g_X11_tag_19 Pw Px  S (C) (T)
  ) (
  m_chkQ (zK S x0 = 11) (
  m_calP (zP S 7 x0) (fun b1 =>
  m_chkQ (zK S b1 = 1) (
  m_ifQ ((zI S 5 b1) ≤ x1) (
  g_X11_tag_19 Pw Px  S (C) (T)
  ) (
  m_ifQ (0 ≤ x3) (
  m_chkQ (zK S x0 = 11) (
  m_calP (zP S 7 x0) (fun b2 =>
  m_chkQ (zK S b2 = 1) (
  m_galN (C) (T) (fun mc ms Pw => g_X1_tagAt b2 x1 S mc ms Pw) (fun r4 S5 C6 T7 =>
  m_ifQ (x2 = 0) (
  m_chkQ (zK S5 r4 = 10) (
  m_calP (zP S5 0 r4) (fun b8 =>
  m_chkQ (zK S5 b8 = 6) (
  m_calP (f_X6_at b8 x3 S5) (fun o9 =>
  g_X11_tag_65 Pw Px o9.1 o9.2 (C6) (T7)))))
  ) (
  m_chkQ (zK S5 r4 = 10) (
  m_calP (zP S5 1 r4) (fun b10 =>
  m_chkQ (zK S5 b10 = 6) (
  m_calP (f_X6_at b10 x3 S5) (fun o11 =>
  g_X11_tag_65 Pw Px o11.1 o11.2 (C6) (T7)))))
  )))))
  ) (
  g_X11_tag_19 Pw Px  S (C) (T)
  )
  ))))
  )

set_option maxRecDepth 100000 in
set_option maxHeartbeats 4000000 in
theorem w_X11_tag_0 {p : Program} {l : Launch} {e : Env} {s : State} {m : MethodId} {args : Array Value} {below : List Frame} {meth : Method} {c : Code} {Q : State → Prop} {D : va_G} {y : Nat → ClassId} {A0 : Nat → Prop} {kc kt : Nat} {Pw : Int32 → ZS → Prop} {Px : Nat → ZS → Prop} (X : CallFix p m c cX11_tag 5 s args wsX11_tag RX11) (hret : zQi p l e ({ frames := 6, cells := kc, slots := kt, locals := 90 } : Room) s m args below meth c Q cX11_tag D y A0 .int Pw) (hthr : zQx p l e ({ frames := 6, cells := kc, slots := kt, locals := 90 } : Room) s m args below meth c Q cX11_tag D y A0 Px RX11 wsX11_tag) {x0 : Nat} {x1 : Int32} {x2 : Int32} {x3 : Int32} {S : ZS} {C T : Nat} {H : Heap} {locs : List Loc} {ls : Array Slot} (hf : g_X11_tag_0 Pw Px x0 x1 x2 x3 S C T) (hCT : C ≤ kc ∧ T ≤ kt) (hM : zH D y A0 s H locs S) (hl : lv_has ls 5 [(0, .ref (zh y x0)), (1, .int x1), (2, .int x2), (3, .int x3)]) : W p l e ({ frames := 6, cells := kc, slots := kt, locals := 90 } : Room) s m args below meth c H locs (kc - C) (kt - T) Q (F0 m 0 ls []) := by
  obtain ⟨hx, hb, hml, hown, hts⟩ := id X
  unfold g_X11_tag_0 at hf
  refine lv_iload_n hx hb dX11_tag_0 rfl (lv_at hl 1 rfl) ?_
  refine lv_if_lt (tgt := 19) hx hb dX11_tag_1 (by decide) (fun cc1 => ?_) (fun cc1 => ?_)
  · replace hf := m_ifPT hf cc1
    exact w_X11_tag_19 X hret hthr hf hCT hM (lv_sub hl [] rfl)
  · replace hf := m_ifPF hf cc1
    refine lv_iload_n hx hb dX11_tag_4 rfl (lv_at hl 1 rfl) ?_
    refine lv_aload_n hx hb dX11_tag_5 rfl (lv_at hl 0 rfl) ?_
    obtain ⟨ca, hf⟩ := m_chkPE hf
    replace ca := z_in hM (by decide) ca
    refine z_get (k := 11) (j := 7) (C := RX11) (T := TX11) (N := 10) (fl := zf_11) (v := va_rf ((zP S 7 x0).map (zh y))) X hw_X11_tag_11 hM rfl zc_11 ca (by decide) fl_X11_tag_11_7 rfl dX11_tag_6 ?_
    clear ca
    obtain ⟨b1, hb9, hf⟩ := m_calPE hf
    refine z_topr hb9 ?_
    clear hb9
    obtain ⟨ca, hf⟩ := m_chkPE hf
    replace ca := z_in hM (by decide) ca
    refine z_get (k := 1) (j := 5) (C := RX1) (T := TX1) (N := 8) (fl := zf_1) (v := .int (zI S 5 b1)) X hw_X11_tag_1 hM rfl zc_1 ca (by decide) fl_X11_tag_1_5 rfl dX11_tag_9 ?_
    clear ca
    refine lv_icmp_ge (tgt := 19) hx hb dX11_tag_12 (by decide) (fun cc1 => ?_) (fun cc1 => ?_)
    · replace hf := m_ifPT hf cc1
      exact w_X11_tag_19 X hret hthr hf hCT hM (lv_sub hl [] rfl)
    · replace hf := m_ifPF hf cc1
      refine lv_iload_n hx hb dX11_tag_15 rfl (lv_at hl 3 rfl) ?_
      refine lv_if_ge (tgt := 30) hx hb dX11_tag_16 (by decide) (fun cc1 => ?_) (fun cc1 => ?_)
      · replace hf := m_ifPT hf cc1
        refine lv_aload_n hx hb dX11_tag_30 rfl (lv_at hl 0 rfl) ?_
        obtain ⟨ca, hf⟩ := m_chkPE hf
        replace ca := z_in hM (by decide) ca
        refine z_get (k := 11) (j := 7) (C := RX11) (T := TX11) (N := 10) (fl := zf_11) (v := va_rf ((zP S 7 x0).map (zh y))) X hw_X11_tag_11 hM rfl zc_11 ca (by decide) fl_X11_tag_11_7 rfl dX11_tag_31 ?_
        clear ca
        obtain ⟨b2, hb9, hf⟩ := m_calPE hf
        refine z_topr hb9 ?_
        clear hb9
        refine lv_iload_n hx hb dX11_tag_34 rfl (lv_at hl 1 rfl) ?_
        obtain ⟨ca, hf⟩ := m_chkPE hf
        replace ca := z_in hM (by decide) ca
        obtain ⟨mc, ms, hcm, ho⟩ := m_galNE hf
        refine z_wcallVr (k := 1) (C := RX1) (T := TX1) (N := 8) (fl := zf_1) X hM rfl zc_1 ca (c_X1_tagAt ho) gX11_tag_X1_tagAt rfl ⟨rfl, rfl⟩ ⟨by show kc - (C) + mc ≤ kc; omega, by show kt - (T) + ms ≤ kt; omega⟩ hd_X1_tagAt ⟨Nat.le_of_ble_eq_true rfl, Nat.le_of_ble_eq_true rfl⟩ rfl hl.1 rfl (Nat.le_of_ble_eq_true rfl) dX11_tag_35 (fun r4 S5 H locs hf hM => ?_)
        refine z_eqCS (c2 := kc - (C - mc)) (t2 := kt - (T - ms)) (by omega) (by omega) ?_
        replace hCT : C - mc ≤ kc ∧ T - ms ≤ kt := by omega
        generalize C - mc = C6 at hf hCT ⊢
        generalize T - ms = T7 at hf hCT ⊢
        clear ho hcm
        refine lv_astore (lv' := [(4, .ref (zh y r4)), (0, .ref (zh y x0)), (1, .int x1), (2, .int x2), (3, .int x3)]) hx hb dX11_tag_38 hl (by decide) rfl (fun ls hl => ?_)
        refine lv_iload_n hx hb dX11_tag_40 rfl (lv_at hl 3 rfl) ?_
        refine lv_if_eq (tgt := 56) hx hb dX11_tag_41 (by decide) (fun cc1 => ?_) (fun cc1 => ?_)
        · replace hf := m_ifPT hf cc1
          refine lv_aload hx hb dX11_tag_56 (lv_at hl 0 rfl) ?_
          obtain ⟨ca, hf⟩ := m_chkPE hf
          replace ca := z_in hM (by decide) ca
          refine z_get (k := 10) (j := 0) (C := RX10) (T := TX10) (N := 2) (fl := zf_10) (v := va_rf ((zP S5 0 r4).map (zh y))) X hw_X11_tag_10 hM rfl zc_10 ca (by decide) fl_X11_tag_10_0 rfl dX11_tag_58 ?_
          clear ca
          obtain ⟨b8, hb9, hf⟩ := m_calPE hf
          refine z_topr hb9 ?_
          clear hb9
          refine lv_iload_n hx hb dX11_tag_61 rfl (lv_at hl 4 rfl) ?_
          obtain ⟨ca, hf⟩ := m_chkPE hf
          replace ca := z_in hM (by decide) ca
          obtain ⟨o9, ho, hf⟩ := m_calPE hf
          refine z_gcallVi (k := 6) (C := RX6) (T := TX6) (N := 2) (fl := zf_6) X hM rfl zc_6 ca (c_X6_at ho) gX11_tag_X6_at rfl ⟨rfl, rfl⟩ hd_X6_at ⟨Nat.le_of_ble_eq_true rfl, Nat.le_of_ble_eq_true rfl⟩ rfl hl.1 rfl ⟨Nat.sub_le _ _, Nat.sub_le _ _⟩ (Nat.le_of_ble_eq_true rfl) dX11_tag_62 (fun H locs hM => ?_)
          clear ho
          exact w_X11_tag_65 (t0 := o9.1) X hret hthr hf hCT hM (lv_sub hl [] rfl)
        · replace hf := m_ifPF hf cc1
          refine lv_aload hx hb dX11_tag_44 (lv_at hl 0 rfl) ?_
          obtain ⟨ca, hf⟩ := m_chkPE hf
          replace ca := z_in hM (by decide) ca
          refine z_get (k := 10) (j := 1) (C := RX10) (T := TX10) (N := 2) (fl := zf_10) (v := va_rf ((zP S5 1 r4).map (zh y))) X hw_X11_tag_10 hM rfl zc_10 ca (by decide) fl_X11_tag_10_1 rfl dX11_tag_46 ?_
          clear ca
          obtain ⟨b10, hb9, hf⟩ := m_calPE hf
          refine z_topr hb9 ?_
          clear hb9
          refine lv_iload_n hx hb dX11_tag_49 rfl (lv_at hl 4 rfl) ?_
          obtain ⟨ca, hf⟩ := m_chkPE hf
          replace ca := z_in hM (by decide) ca
          obtain ⟨o11, ho, hf⟩ := m_calPE hf
          refine z_gcallVi (k := 6) (C := RX6) (T := TX6) (N := 2) (fl := zf_6) X hM rfl zc_6 ca (c_X6_at ho) gX11_tag_X6_at rfl ⟨rfl, rfl⟩ hd_X6_at ⟨Nat.le_of_ble_eq_true rfl, Nat.le_of_ble_eq_true rfl⟩ rfl hl.1 rfl ⟨Nat.sub_le _ _, Nat.sub_le _ _⟩ (Nat.le_of_ble_eq_true rfl) dX11_tag_50 (fun H locs hM => ?_)
          clear ho
          refine lv_goto (tgt := 65) hx hb dX11_tag_53 (by decide) ?_
          exact w_X11_tag_65 (t0 := o11.1) X hret hthr hf hCT hM (lv_sub hl [] rfl)
      · replace hf := m_ifPF hf cc1
        exact w_X11_tag_19 X hret hthr hf hCT hM (lv_sub hl [] rfl)
noncomputable def g_X11_tag (x0 : Nat) (x1 : Int32) (x2 : Int32) (x3 : Int32) (S : ZS) (mc ms : Nat) (Pw : Int32 → ZS → Prop) (Px : Nat → ZS → Prop) : Prop := g_X11_tag_0 Pw Px x0 x1 x2 x3 S mc ms
theorem c_X11_tag {l : Launch} {D : va_G} {y : Nat → ClassId} {x0 : Nat} {x1 : Int32} {x2 : Int32} {x3 : Int32} {S : ZS} {kc kt : Nat} {Pw : Int32 → ZS → Prop} {Px : Nat → ZS → Prop} (hlt : l.stackTraces = false) (hf : g_X11_tag x0 x1 x2 x3 S kc kt Pw Px) : zXi l yX11_tag wsX11_tag ({ frames := 6, cells := kc, slots := kt, locals := 90 } : Room) [.ref (zh y x0), .int x1, .int x2, .int x3] D y S kc kt Pw Px :=
  z_xentI hlt ⟨Nat.le_of_ble_eq_true rfl, Nat.le_of_ble_eq_true rfl⟩ (own := RX11) (cc := cX11_tag) (maxL := 5) (by decide) rfl rfl (Nat.le_of_ble_eq_true rfl) ⟨rfl, rfl⟩ (fun p e s m args below meth c A0 Q H locs ls X hret hthr hM hl => w_X11_tag_0 X hret hthr hf ⟨Nat.le_refl _, Nat.le_refl _⟩ hM (lv_sub hl [0, 1, 2, 3] rfl))
end
section
/-- after a throw: one cell more at most, six slots -/
noncomputable def zsQ (S : ZS) : ZS := (zL S, zK S, zI S, zP S, zN S, zA S, zB S, zc S, zt S + 1, zu S + 6)
noncomputable def zsV (S : ZS) (j : Nat) : ZS := (zL S, zK S, zI S, zP S, zN S, zA S, zB S, zc S, zt S - 1 + j, zu S)
theorem zsV_Q (S : ZS) (j : Nat) : zsV (zsQ S) j = zsK S j := by
  unfold zsV zsQ zsK
  show (_, _, _, _, _, _, _, _, zt S + 1 - 1 + j, zu S + 6) = (_, _, _, _, _, _, _, _, zt S + j, zu S + 6)
  rw [Nat.add_sub_cancel]
noncomputable abbrev twP (Pw : Int32 → ZS → Prop) (Px : Nat → ZS → Prop) : Nat × Int32 → ZS → Prop := fun a S => (a.1 = 0 → Pw a.2 S) ∧ (a.1 ≠ 0 → ∀ j, Px a.1 (zsV S j))
theorem tw_retX {Pw : Int32 → ZS → Prop} {Px : Nat → ZS → Prop} {n m : Nat} {v : Int32} {S : ZS} (hS : zt S = n ∧ zu S = m) : Tw (twP Pw Px) (some ((0, v), S)) n m (fun _ _ => Pw v S) := by
  intro o ho
  cases ho
  exact ⟨⟨Nat.le_of_eq hS.1.symm, Nat.le_of_eq hS.2.symm⟩, fun _ _ _ _ h => h.1 rfl⟩
theorem tw_thr {Pw : Int32 → ZS → Prop} {Px : Nat → ZS → Prop} {n m k : Nat} {S : ZS} (hk : k ≠ 0) (hS : zt S = n ∧ zu S = m) : Tw (twP Pw Px) (some ((k, (0 : Int32)), zsQ S)) n m (fun C T => m_thrP C T k S Px) := by
  intro o ho
  cases ho
  refine ⟨⟨?_, ?_⟩, fun C T h1 h2 h3 => ⟨⟨?_, ?_⟩, fun j => ?_⟩⟩
  · show n ≤ zt S + 1
    omega
  · show m ≤ zu S + 6
    omega
  · have h4 : zt S + 1 ≤ n + C := h1
    omega
  · have h4 : zu S + 6 ≤ m + T := h2
    omega
  · have h4 := h3.2 hk j
    rw [zsV_Q] at h4
    exact h4
noncomputable def d_X11_signs_0 (x0 : Nat) (x1 : Int32) (S : ZS) : Option ((Nat × Int32) × ZS) :=
  m_chk (zK S x0 = 11) (
  m_cal (zP S 2 x0) (fun b1 =>
  m_chk (zK S x0 = 11) (
  m_cal (zP S 9 x0) (fun b2 =>
  m_chk (zK S b1 = 7) (
  m_cal (f_X7_isLegal b1 b2 x1 S) (fun o3 => m_chk (zt o3.2 = zt S ∧ zu o3.2 = zu S) (
  m_if (o3.1 = 0) (
  some ((1, 0), zsQ o3.2)
  ) (
  m_chk (zK o3.2 x0 = 11) (
  m_cal (zP o3.2 1 x0) (fun b4 =>
  m_chk (zK o3.2 b4 = 6) (
  m_cal (f_X6_keep b4 (0 : Int32) o3.2) (fun o5 => m_chk (zt o5.2 = zt o3.2 ∧ zu o5.2 = zu o3.2) (
  m_chk (zK o5.2 x0 = 11) (
  m_cal (zP o5.2 4 x0) (fun b6 =>
  m_chk (zK o5.2 x0 = 11) (
  m_cal (zP o5.2 9 x0) (fun b7 =>
  m_chk (zK o5.2 x0 = 11) (
  m_cal (zP o5.2 1 x0) (fun b8 =>
  m_chk (zK o5.2 b6 = 9) (
  m_cal2 (d_X9_putSigns b6 b7 x1 b8 o5.2) (fun r10 S11 =>
  m_chk (zK S11 x0 = 11) (
  m_cal (zP S11 1 x0) (fun b14 =>
  m_chk (zK S11 b14 = 6) (
  m_cal (f_X6_size b14 S11) (fun o15 => m_chk (zt o15.2 = zt S11 ∧ zu o15.2 = zu S11) (
  some ((0, o15.1), o15.2)))))))))))))))))))
  ))))))))
theorem tt_X11_signs_0 {Pw : Int32 → ZS → Prop} {Px : Nat → ZS → Prop} {x0 : Nat} {x1 : Int32} {S : ZS} : Tw (twP Pw Px) (d_X11_signs_0 x0 x1 S) (zt S) (zu S) (fun C T => g_X11_signs_0 Pw Px x0 x1 S C T) := by
  unfold d_X11_signs_0 g_X11_signs_0
  refine tw_chk (fun _ => ?_)
  refine tw_calv (fun b1 => ?_)
  refine tw_chk (fun _ => ?_)
  refine tw_calv (fun b2 => ?_)
  refine tw_chk (fun _ => ?_)
  refine tw_calf (⟨rfl, rfl⟩ : zt S = zt S ∧ zu S = zu S) (fun o3 co3 => ?_)
  refine tw_if (fun _ => ?_) (fun _ => ?_)
  ·
    exact tw_thr (by decide) co3
  ·
    refine tw_chk (fun _ => ?_)
    refine tw_calv (fun b4 => ?_)
    refine tw_chk (fun _ => ?_)
    refine tw_calf co3 (fun o5 co5 => ?_)
    refine tw_chk (fun _ => ?_)
    refine tw_calv (fun b6 => ?_)
    refine tw_chk (fun _ => ?_)
    refine tw_calv (fun b7 => ?_)
    refine tw_chk (fun _ => ?_)
    refine tw_calv (fun b8 => ?_)
    refine tw_chk (fun _ => ?_)
    refine tw_gal (fun Pw9 => tw_at co5 tt_X9_putSigns) (fun r10 S11 => ?_)
    refine tw_chk (fun _ => ?_)
    refine tw_calv (fun b14 => ?_)
    refine tw_chk (fun _ => ?_)
    refine tw_calf (⟨rfl, rfl⟩ : zt S11 = zt S11 ∧ zu S11 = zu S11) (fun o15 co15 => ?_)
    exact tw_retX co15
noncomputable def d_X11_signs (x0 : Nat) (x1 : Int32) (S : ZS) : Option ((Nat × Int32) × ZS) := d_X11_signs_0 x0 x1 S
theorem tt_X11_signs {Pw : Int32 → ZS → Prop} {Px : Nat → ZS → Prop} {x0 : Nat} {x1 : Int32} {S : ZS} : Tw (twP Pw Px) (d_X11_signs x0 x1 S) (zt S) (zu S) (fun C T => g_X11_signs x0 x1 S C T Pw Px) := tt_X11_signs_0
noncomputable def d_X11_node_0 (x0 : Nat) (x1 : Int32) (x2 : Int32) (S : ZS) : Option ((Nat × Int32) × ZS) :=
  m_chk (zK S x0 = 11) (
  m_cal (zP S 7 x0) (fun b1 =>
  m_chk (zK S b1 = 1) (
  m_cal (f_X1_has b1 x1 S) (fun o2 => m_chk (zt o2.2 = zt S ∧ zu o2.2 = zu S) (
  m_if (o2.1 = 0) (
  some ((2, 0), zsQ o2.2)
  ) (
  m_chk (zK o2.2 x0 = 11) (
  m_cal (zP o2.2 7 x0) (fun b3 =>
  m_chk (zK o2.2 b3 = 1) (
  m_cal (f_X1_at b3 x1 o2.2) (fun o4 => m_chk (zt o4.2 = zt o2.2 ∧ zu o4.2 = zu o2.2) (
  m_if (x2 = (0 : Int32)) (
  m_chk (zK o4.2 o4.1 = 4) (
  some ((0, (zI o4.2 0 o4.1)), o4.2))
  ) (
  m_if (x2 = (1 : Int32)) (
  m_chk (zK o4.2 o4.1 = 4) (
  some ((0, (zI o4.2 1 o4.1)), o4.2))
  ) (
  m_if (x2 = (2 : Int32)) (
  m_chk (zK o4.2 o4.1 = 4) (
  some ((0, (zI o4.2 2 o4.1)), o4.2))
  ) (
  m_if (x2 = (3 : Int32)) (
  m_chk (zK o4.2 o4.1 = 4) (
  some ((0, (zI o4.2 3 o4.1)), o4.2))
  ) (
  m_if (x2 = (4 : Int32)) (
  m_chk (zK o4.2 o4.1 = 4) (
  some ((0, (zI o4.2 4 o4.1)), o4.2))
  ) (
  m_if (x2 = (5 : Int32)) (
  m_chk (zK o4.2 o4.1 = 4) (
  m_cal (zP o4.2 6 o4.1) (fun b5 =>
  m_chk (zK o4.2 b5 = 6) (
  m_cal (f_X6_size b5 o4.2) (fun o6 => m_chk (zt o6.2 = zt o4.2 ∧ zu o6.2 = zu o4.2) (
  some ((0, o6.1), o6.2))))))
  ) (
  some ((2, 0), zsQ o4.2)
  )
  )
  )
  )
  )
  ))))))
  ))))))
theorem tt_X11_node_0 {Pw : Int32 → ZS → Prop} {Px : Nat → ZS → Prop} {x0 : Nat} {x1 : Int32} {x2 : Int32} {S : ZS} : Tw (twP Pw Px) (d_X11_node_0 x0 x1 x2 S) (zt S) (zu S) (fun C T => g_X11_node_0 Pw Px x0 x1 x2 S C T) := by
  unfold d_X11_node_0 g_X11_node_0
  refine tw_chk (fun _ => ?_)
  refine tw_calv (fun b1 => ?_)
  refine tw_chk (fun _ => ?_)
  refine tw_calf (⟨rfl, rfl⟩ : zt S = zt S ∧ zu S = zu S) (fun o2 co2 => ?_)
  refine tw_if (fun _ => ?_) (fun _ => ?_)
  ·
    exact tw_thr (by decide) co2
  ·
    refine tw_chk (fun _ => ?_)
    refine tw_calv (fun b3 => ?_)
    refine tw_chk (fun _ => ?_)
    refine tw_calf co2 (fun o4 co4 => ?_)
    refine tw_if (fun _ => ?_) (fun _ => ?_)
    ·
      refine tw_chk (fun _ => ?_)
      exact tw_retX co4
    ·
      refine tw_if (fun _ => ?_) (fun _ => ?_)
      ·
        refine tw_chk (fun _ => ?_)
        exact tw_retX co4
      ·
        refine tw_if (fun _ => ?_) (fun _ => ?_)
        ·
          refine tw_chk (fun _ => ?_)
          exact tw_retX co4
        ·
          refine tw_if (fun _ => ?_) (fun _ => ?_)
          ·
            refine tw_chk (fun _ => ?_)
            exact tw_retX co4
          ·
            refine tw_if (fun _ => ?_) (fun _ => ?_)
            ·
              refine tw_chk (fun _ => ?_)
              exact tw_retX co4
            ·
              refine tw_if (fun _ => ?_) (fun _ => ?_)
              ·
                refine tw_chk (fun _ => ?_)
                refine tw_calv (fun b5 => ?_)
                refine tw_chk (fun _ => ?_)
                refine tw_calf co4 (fun o6 co6 => ?_)
                exact tw_retX co6
              ·
                exact tw_thr (by decide) co4
noncomputable def d_X11_node (x0 : Nat) (x1 : Int32) (x2 : Int32) (S : ZS) : Option ((Nat × Int32) × ZS) := d_X11_node_0 x0 x1 x2 S
theorem tt_X11_node {Pw : Int32 → ZS → Prop} {Px : Nat → ZS → Prop} {x0 : Nat} {x1 : Int32} {x2 : Int32} {S : ZS} : Tw (twP Pw Px) (d_X11_node x0 x1 x2 S) (zt S) (zu S) (fun C T => g_X11_node x0 x1 x2 S C T Pw Px) := tt_X11_node_0
noncomputable def d_X11_mark_30 (S : ZS) : Option ((Nat × Int32) × ZS) :=
  some ((2, 0), zsQ S)
theorem tt_X11_mark_30 {Pw : Int32 → ZS → Prop} {Px : Nat → ZS → Prop} {S : ZS} : Tw (twP Pw Px) (d_X11_mark_30 S) (zt S) (zu S) (fun C T => g_X11_mark_30 Pw Px S C T) := by
  unfold d_X11_mark_30 g_X11_mark_30
  exact tw_thr (by decide) (⟨rfl, rfl⟩ : zt S = zt S ∧ zu S = zu S)
noncomputable def d_X11_mark_0 (x0 : Nat) (x1 : Int32) (x2 : Int32) (S : ZS) : Option ((Nat × Int32) × ZS) :=
  m_chk (zK S x0 = 11) (
  m_cal (zP S 7 x0) (fun b1 =>
  m_chk (zK S b1 = 1) (
  m_cal (f_X1_has b1 x1 S) (fun o2 => m_chk (zt o2.2 = zt S ∧ zu o2.2 = zu S) (
  m_if (o2.1 = 0) (
  d_X11_mark_30 o2.2
  ) (
  m_if (x2 < 0) (
  d_X11_mark_30 o2.2
  ) (
  m_chk (zK o2.2 x0 = 11) (
  m_cal (zP o2.2 7 x0) (fun b3 =>
  m_chk (zK o2.2 b3 = 1) (
  m_cal (f_X1_at b3 x1 o2.2) (fun o4 => m_chk (zt o4.2 = zt o2.2 ∧ zu o4.2 = zu o2.2) (
  m_chk (zK o4.2 o4.1 = 4) (
  m_if (x2 < (zI o4.2 4 o4.1)) (
  m_chk (zK o4.2 x0 = 11) (
  m_cal (zP o4.2 7 x0) (fun b5 =>
  m_chk (zK o4.2 b5 = 1) (
  m_cal (f_X1_at b5 x1 o4.2) (fun o6 => m_chk (zt o6.2 = zt o4.2 ∧ zu o6.2 = zu o4.2) (
  m_chk (zK o6.2 o6.1 = 4) (
  m_cal (f_X4_markAt o6.1 x2 o6.2) (fun o7 => m_chk (zt o7.2 = zt o6.2 ∧ zu o7.2 = zu o6.2) (
  some ((0, o7.1), o7.2)))))))))
  ) (
  d_X11_mark_30 o4.2
  )))))))
  )
  ))))))
theorem tt_X11_mark_0 {Pw : Int32 → ZS → Prop} {Px : Nat → ZS → Prop} {x0 : Nat} {x1 : Int32} {x2 : Int32} {S : ZS} : Tw (twP Pw Px) (d_X11_mark_0 x0 x1 x2 S) (zt S) (zu S) (fun C T => g_X11_mark_0 Pw Px x0 x1 x2 S C T) := by
  unfold d_X11_mark_0 g_X11_mark_0
  refine tw_chk (fun _ => ?_)
  refine tw_calv (fun b1 => ?_)
  refine tw_chk (fun _ => ?_)
  refine tw_calf (⟨rfl, rfl⟩ : zt S = zt S ∧ zu S = zu S) (fun o2 co2 => ?_)
  refine tw_if (fun _ => ?_) (fun _ => ?_)
  ·
    exact tw_at co2 tt_X11_mark_30
  ·
    refine tw_if (fun _ => ?_) (fun _ => ?_)
    ·
      exact tw_at co2 tt_X11_mark_30
    ·
      refine tw_chk (fun _ => ?_)
      refine tw_calv (fun b3 => ?_)
      refine tw_chk (fun _ => ?_)
      refine tw_calf co2 (fun o4 co4 => ?_)
      refine tw_chk (fun _ => ?_)
      refine tw_if (fun _ => ?_) (fun _ => ?_)
      ·
        refine tw_chk (fun _ => ?_)
        refine tw_calv (fun b5 => ?_)
        refine tw_chk (fun _ => ?_)
        refine tw_calf co4 (fun o6 co6 => ?_)
        refine tw_chk (fun _ => ?_)
        refine tw_calf co6 (fun o7 co7 => ?_)
        exact tw_retX co7
      ·
        exact tw_at co4 tt_X11_mark_30
noncomputable def d_X11_mark (x0 : Nat) (x1 : Int32) (x2 : Int32) (S : ZS) : Option ((Nat × Int32) × ZS) := d_X11_mark_0 x0 x1 x2 S
theorem tt_X11_mark {Pw : Int32 → ZS → Prop} {Px : Nat → ZS → Prop} {x0 : Nat} {x1 : Int32} {x2 : Int32} {S : ZS} : Tw (twP Pw Px) (d_X11_mark x0 x1 x2 S) (zt S) (zu S) (fun C T => g_X11_mark x0 x1 x2 S C T Pw Px) := tt_X11_mark_0
noncomputable def d_X11_remark_33 (S : ZS) : Option ((Nat × Int32) × ZS) :=
  some ((2, 0), zsQ S)
theorem tt_X11_remark_33 {Pw : Int32 → ZS → Prop} {Px : Nat → ZS → Prop} {S : ZS} : Tw (twP Pw Px) (d_X11_remark_33 S) (zt S) (zu S) (fun C T => g_X11_remark_33 Pw Px S C T) := by
  unfold d_X11_remark_33 g_X11_remark_33
  exact tw_thr (by decide) (⟨rfl, rfl⟩ : zt S = zt S ∧ zu S = zu S)
noncomputable def d_X11_remark_0 (x0 : Nat) (x1 : Int32) (x2 : Int32) (S : ZS) : Option ((Nat × Int32) × ZS) :=
  m_chk (zK S x0 = 11) (
  m_cal (zP S 7 x0) (fun b1 =>
  m_chk (zK S b1 = 1) (
  m_cal (f_X1_has b1 x1 S) (fun o2 => m_chk (zt o2.2 = zt S ∧ zu o2.2 = zu S) (
  m_if (o2.1 = 0) (
  d_X11_remark_33 o2.2
  ) (
  m_if (x2 < 0) (
  d_X11_remark_33 o2.2
  ) (
  m_chk (zK o2.2 x0 = 11) (
  m_cal (zP o2.2 7 x0) (fun b3 =>
  m_chk (zK o2.2 b3 = 1) (
  m_cal (f_X1_at b3 x1 o2.2) (fun o4 => m_chk (zt o4.2 = zt o2.2 ∧ zu o4.2 = zu o2.2) (
  m_chk (zK o4.2 o4.1 = 4) (
  m_cal (zP o4.2 6 o4.1) (fun b5 =>
  m_chk (zK o4.2 b5 = 6) (
  m_cal (f_X6_size b5 o4.2) (fun o6 => m_chk (zt o6.2 = zt o4.2 ∧ zu o6.2 = zu o4.2) (
  m_if (x2 < o6.1) (
  m_chk (zK o6.2 x0 = 11) (
  m_cal (zP o6.2 7 x0) (fun b7 =>
  m_chk (zK o6.2 b7 = 1) (
  m_cal (f_X1_at b7 x1 o6.2) (fun o8 => m_chk (zt o8.2 = zt o6.2 ∧ zu o8.2 = zu o6.2) (
  m_chk (zK o8.2 o8.1 = 4) (
  m_cal (zP o8.2 6 o8.1) (fun b9 =>
  m_chk (zK o8.2 b9 = 6) (
  m_cal (f_X6_at b9 x2 o8.2) (fun o10 => m_chk (zt o10.2 = zt o8.2 ∧ zu o10.2 = zu o8.2) (
  some ((0, o10.1), o10.2)))))))))))
  ) (
  d_X11_remark_33 o6.2
  )))))))))))
  )
  ))))))
theorem tt_X11_remark_0 {Pw : Int32 → ZS → Prop} {Px : Nat → ZS → Prop} {x0 : Nat} {x1 : Int32} {x2 : Int32} {S : ZS} : Tw (twP Pw Px) (d_X11_remark_0 x0 x1 x2 S) (zt S) (zu S) (fun C T => g_X11_remark_0 Pw Px x0 x1 x2 S C T) := by
  unfold d_X11_remark_0 g_X11_remark_0
  refine tw_chk (fun _ => ?_)
  refine tw_calv (fun b1 => ?_)
  refine tw_chk (fun _ => ?_)
  refine tw_calf (⟨rfl, rfl⟩ : zt S = zt S ∧ zu S = zu S) (fun o2 co2 => ?_)
  refine tw_if (fun _ => ?_) (fun _ => ?_)
  ·
    exact tw_at co2 tt_X11_remark_33
  ·
    refine tw_if (fun _ => ?_) (fun _ => ?_)
    ·
      exact tw_at co2 tt_X11_remark_33
    ·
      refine tw_chk (fun _ => ?_)
      refine tw_calv (fun b3 => ?_)
      refine tw_chk (fun _ => ?_)
      refine tw_calf co2 (fun o4 co4 => ?_)
      refine tw_chk (fun _ => ?_)
      refine tw_calv (fun b5 => ?_)
      refine tw_chk (fun _ => ?_)
      refine tw_calf co4 (fun o6 co6 => ?_)
      refine tw_if (fun _ => ?_) (fun _ => ?_)
      ·
        refine tw_chk (fun _ => ?_)
        refine tw_calv (fun b7 => ?_)
        refine tw_chk (fun _ => ?_)
        refine tw_calf co6 (fun o8 co8 => ?_)
        refine tw_chk (fun _ => ?_)
        refine tw_calv (fun b9 => ?_)
        refine tw_chk (fun _ => ?_)
        refine tw_calf co8 (fun o10 co10 => ?_)
        exact tw_retX co10
      ·
        exact tw_at co6 tt_X11_remark_33
noncomputable def d_X11_remark (x0 : Nat) (x1 : Int32) (x2 : Int32) (S : ZS) : Option ((Nat × Int32) × ZS) := d_X11_remark_0 x0 x1 x2 S
theorem tt_X11_remark {Pw : Int32 → ZS → Prop} {Px : Nat → ZS → Prop} {x0 : Nat} {x1 : Int32} {x2 : Int32} {S : ZS} : Tw (twP Pw Px) (d_X11_remark x0 x1 x2 S) (zt S) (zu S) (fun C T => g_X11_remark x0 x1 x2 S C T Pw Px) := tt_X11_remark_0
noncomputable def d_X11_go_0 (x0 : Nat) (x1 : Int32) (S : ZS) : Option ((Nat × Int32) × ZS) :=
  m_chk (zK S x0 = 11) (
  m_cal (zP S 7 x0) (fun b1 =>
  m_chk (zK S b1 = 1) (
  m_cal (f_X1_has b1 x1 S) (fun o2 => m_chk (zt o2.2 = zt S ∧ zu o2.2 = zu S) (
  m_if (o2.1 = 0) (
  some ((2, 0), zsQ o2.2)
  ) (
  m_chk (zK o2.2 x0 = 11) (
  m_bnd (zsI o2.2 8 x0 x1) (fun S3 =>
  m_chk (zK S3 x0 = 11) (
  m_cal (zP S3 7 x0) (fun b4 =>
  m_chk (zK S3 x0 = 11) (
  m_cal (zP S3 9 x0) (fun b5 =>
  m_chk (zK S3 b4 = 1) (
  m_cal (f_X1_standAt b4 x1 b5 S3) (fun o6 => m_chk (zt o6.2 = zt S3 ∧ zu o6.2 = zu S3) (
  some ((0, 0), o6.2))))))))))
  ))))))
theorem tt_X11_go_0 {Pw : Int32 → ZS → Prop} {Px : Nat → ZS → Prop} {x0 : Nat} {x1 : Int32} {S : ZS} : Tw (twP Pw Px) (d_X11_go_0 x0 x1 S) (zt S) (zu S) (fun C T => g_X11_go_0 Pw Px x0 x1 S C T) := by
  unfold d_X11_go_0 g_X11_go_0
  refine tw_chk (fun _ => ?_)
  refine tw_calv (fun b1 => ?_)
  refine tw_chk (fun _ => ?_)
  refine tw_calf (⟨rfl, rfl⟩ : zt S = zt S ∧ zu S = zu S) (fun o2 co2 => ?_)
  refine tw_if (fun _ => ?_) (fun _ => ?_)
  ·
    exact tw_thr (by decide) co2
  ·
    refine tw_chk (fun _ => ?_)
    refine tw_bnds co2 (fun S3 cS3 => ?_)
    refine tw_chk (fun _ => ?_)
    refine tw_calv (fun b4 => ?_)
    refine tw_chk (fun _ => ?_)
    refine tw_calv (fun b5 => ?_)
    refine tw_chk (fun _ => ?_)
    refine tw_calf cS3 (fun o6 co6 => ?_)
    exact tw_retX co6
noncomputable def d_X11_go (x0 : Nat) (x1 : Int32) (S : ZS) : Option ((Nat × Int32) × ZS) := d_X11_go_0 x0 x1 S
theorem tt_X11_go {Pw : Int32 → ZS → Prop} {Px : Nat → ZS → Prop} {x0 : Nat} {x1 : Int32} {S : ZS} : Tw (twP Pw Px) (d_X11_go x0 x1 S) (zt S) (zu S) (fun C T => g_X11_go x0 x1 S C T Pw Px) := tt_X11_go_0
noncomputable def d_X11_man_10 (S : ZS) : Option ((Nat × Int32) × ZS) :=
  some ((2, 0), zsQ S)
theorem tt_X11_man_10 {Pw : Int32 → ZS → Prop} {Px : Nat → ZS → Prop} {S : ZS} : Tw (twP Pw Px) (d_X11_man_10 S) (zt S) (zu S) (fun C T => g_X11_man_10 Pw Px S C T) := by
  unfold d_X11_man_10 g_X11_man_10
  exact tw_thr (by decide) (⟨rfl, rfl⟩ : zt S = zt S ∧ zu S = zu S)
noncomputable def d_X11_man_0 (x0 : Nat) (x1 : Int32) (S : ZS) : Option ((Nat × Int32) × ZS) :=
  m_if (x1 < 0) (
  d_X11_man_10 S
  ) (
  m_if (x1 < (64 : Int32)) (
  m_chk (zK S x0 = 11) (
  m_cal (zP S 9 x0) (fun b1 =>
  m_chk (zK S b1 = 0) (
  m_cal (zP S 0 b1) (fun b2 =>
  m_chk (zK S b2 = 14) (
  m_chk (¬ (x1 < 0 ∨ zN S b2 ≤ (x1).toNatClampNeg)) (
  m_bnd (zA S b2 (x1).toNatClampNeg) (fun v3 =>
  some ((0, v3), S))))))))
  ) (
  d_X11_man_10 S
  )
  )
theorem tt_X11_man_0 {Pw : Int32 → ZS → Prop} {Px : Nat → ZS → Prop} {x0 : Nat} {x1 : Int32} {S : ZS} : Tw (twP Pw Px) (d_X11_man_0 x0 x1 S) (zt S) (zu S) (fun C T => g_X11_man_0 Pw Px x0 x1 S C T) := by
  unfold d_X11_man_0 g_X11_man_0
  refine tw_if (fun _ => ?_) (fun _ => ?_)
  ·
    exact tw_at (⟨rfl, rfl⟩ : zt S = zt S ∧ zu S = zu S) tt_X11_man_10
  ·
    refine tw_if (fun _ => ?_) (fun _ => ?_)
    ·
      refine tw_chk (fun _ => ?_)
      refine tw_calv (fun b1 => ?_)
      refine tw_chk (fun _ => ?_)
      refine tw_calv (fun b2 => ?_)
      refine tw_chk (fun _ => ?_)
      refine tw_chk (fun _ => ?_)
      refine tw_bndv (fun v3 => ?_)
      exact tw_retX (⟨rfl, rfl⟩ : zt S = zt S ∧ zu S = zu S)
    ·
      exact tw_at (⟨rfl, rfl⟩ : zt S = zt S ∧ zu S = zu S) tt_X11_man_10
noncomputable def d_X11_man (x0 : Nat) (x1 : Int32) (S : ZS) : Option ((Nat × Int32) × ZS) := d_X11_man_0 x0 x1 S
theorem tt_X11_man {Pw : Int32 → ZS → Prop} {Px : Nat → ZS → Prop} {x0 : Nat} {x1 : Int32} {S : ZS} : Tw (twP Pw Px) (d_X11_man x0 x1 S) (zt S) (zu S) (fun C T => g_X11_man x0 x1 S C T Pw Px) := tt_X11_man_0
noncomputable def d_X11_add_95 (x0 : Nat) (x1 : Int32) (x2 : Int32) (S : ZS) : Option ((Nat × Int32) × ZS) :=
  m_chk (zK S x0 = 11) (
  m_bnd (zsI S 8 x0 x2) (fun S1 =>
  m_chk (zK S1 x0 = 11) (
  m_cal (zP S1 9 x0) (fun b2 =>
  m_chk (zK S1 b2 = 0) (
  m_cal (f_X0_play b2 x1 S1) (fun o3 => m_chk (zt o3.2 = zt S1 ∧ zu o3.2 = zu S1) (
  some ((0, x2), o3.2))))))))
theorem tt_X11_add_95 {Pw : Int32 → ZS → Prop} {Px : Nat → ZS → Prop} {x0 : Nat} {x1 : Int32} {x2 : Int32} {S : ZS} : Tw (twP Pw Px) (d_X11_add_95 x0 x1 x2 S) (zt S) (zu S) (fun C T => g_X11_add_95 Pw Px x0 x1 x2 S C T) := by
  unfold d_X11_add_95 g_X11_add_95
  refine tw_chk (fun _ => ?_)
  refine tw_bnds (⟨rfl, rfl⟩ : zt S = zt S ∧ zu S = zu S) (fun S1 cS1 => ?_)
  refine tw_chk (fun _ => ?_)
  refine tw_calv (fun b2 => ?_)
  refine tw_chk (fun _ => ?_)
  refine tw_calf cS1 (fun o3 co3 => ?_)
  exact tw_retX co3
noncomputable def d_X11_add_72 (S : ZS) : Option ((Nat × Int32) × ZS) :=
  some ((3, 0), zsQ S)
theorem tt_X11_add_72 {Pw : Int32 → ZS → Prop} {Px : Nat → ZS → Prop} {S : ZS} : Tw (twP Pw Px) (d_X11_add_72 S) (zt S) (zu S) (fun C T => g_X11_add_72 Pw Px S C T) := by
  unfold d_X11_add_72 g_X11_add_72
  exact tw_thr (by decide) (⟨rfl, rfl⟩ : zt S = zt S ∧ zu S = zu S)
noncomputable def d_X11_add_0 (x0 : Nat) (x1 : Int32) (S : ZS) : Option ((Nat × Int32) × ZS) :=
  m_chk (zK S x0 = 11) (
  m_cal (zP S 2 x0) (fun b1 =>
  m_chk (zK S x0 = 11) (
  m_cal (zP S 9 x0) (fun b2 =>
  m_chk (zK S b1 = 7) (
  m_cal (f_X7_isLegal b1 b2 x1 S) (fun o3 => m_chk (zt o3.2 = zt S ∧ zu o3.2 = zu S) (
  m_if (o3.1 = 0) (
  some ((1, 0), zsQ o3.2)
  ) (
  m_chk (zK o3.2 x0 = 11) (
  m_cal (zP o3.2 7 x0) (fun b4 =>
  m_chk (zK o3.2 x0 = 11) (
  m_chk (zK o3.2 b4 = 1) (
  m_cal (f_X1_childWith b4 (zI o3.2 8 x0) x1 o3.2) (fun o5 => m_chk (zt o5.2 = zt o3.2 ∧ zu o5.2 = zu o3.2) (
  m_if (o5.1 = (-1 : Int32)) (
  m_chk (zK o5.2 x0 = 11) (
  m_cal (zP o5.2 7 x0) (fun b6 =>
  m_chk (zK o5.2 b6 = 1) (
  m_if ((300 : Int32) ≤ (zI o5.2 3 b6)) (
  d_X11_add_72 o5.2
  ) (
  m_chk (zK o5.2 x0 = 11) (
  m_cal (zP o5.2 7 x0) (fun b7 =>
  m_chk (zK o5.2 x0 = 11) (
  m_chk (zK o5.2 b7 = 1) (
  m_cal (f_X1_deepOfNext b7 (zI o5.2 8 x0) o5.2) (fun o8 => m_chk (zt o8.2 = zt o5.2 ∧ zu o8.2 = zu o5.2) (
  m_if (o8.1 ≤ (6 : Int32)) (
  m_chk (zK o8.2 x0 = 11) (
  m_cal (zP o8.2 7 x0) (fun b9 =>
  m_chk (zK o8.2 x0 = 11) (
  m_chk (zK o8.2 b9 = 1) (
  m_cal2 (d_X1_grow b9 (zI o8.2 8 x0) x1 o8.2) (fun r11 S12 =>
  d_X11_add_95 x0 x1 r11 S12)))))
  ) (
  d_X11_add_72 o8.2
  )))))))
  ))))
  ) (
  d_X11_add_95 x0 x1 o5.1 o5.2
  )))))))
  ))))))))
theorem tt_X11_add_0 {Pw : Int32 → ZS → Prop} {Px : Nat → ZS → Prop} {x0 : Nat} {x1 : Int32} {S : ZS} : Tw (twP Pw Px) (d_X11_add_0 x0 x1 S) (zt S) (zu S) (fun C T => g_X11_add_0 Pw Px x0 x1 S C T) := by
  unfold d_X11_add_0 g_X11_add_0
  refine tw_chk (fun _ => ?_)
  refine tw_calv (fun b1 => ?_)
  refine tw_chk (fun _ => ?_)
  refine tw_calv (fun b2 => ?_)
  refine tw_chk (fun _ => ?_)
  refine tw_calf (⟨rfl, rfl⟩ : zt S = zt S ∧ zu S = zu S) (fun o3 co3 => ?_)
  refine tw_if (fun _ => ?_) (fun _ => ?_)
  ·
    exact tw_thr (by decide) co3
  ·
    refine tw_chk (fun _ => ?_)
    refine tw_calv (fun b4 => ?_)
    refine tw_chk (fun _ => ?_)
    refine tw_chk (fun _ => ?_)
    refine tw_calf co3 (fun o5 co5 => ?_)
    refine tw_if (fun _ => ?_) (fun _ => ?_)
    ·
      refine tw_chk (fun _ => ?_)
      refine tw_calv (fun b6 => ?_)
      refine tw_chk (fun _ => ?_)
      refine tw_if (fun _ => ?_) (fun _ => ?_)
      ·
        exact tw_at co5 tt_X11_add_72
      ·
        refine tw_chk (fun _ => ?_)
        refine tw_calv (fun b7 => ?_)
        refine tw_chk (fun _ => ?_)
        refine tw_chk (fun _ => ?_)
        refine tw_calf co5 (fun o8 co8 => ?_)
        refine tw_if (fun _ => ?_) (fun _ => ?_)
        ·
          refine tw_chk (fun _ => ?_)
          refine tw_calv (fun b9 => ?_)
          refine tw_chk (fun _ => ?_)
          refine tw_chk (fun _ => ?_)
          refine tw_gal (fun Pw9 => tw_at co8 tt_X1_grow) (fun r11 S12 => ?_)
          exact tw_at (⟨rfl, rfl⟩ : zt S12 = zt S12 ∧ zu S12 = zu S12) tt_X11_add_95
        ·
          exact tw_at co8 tt_X11_add_72
    ·
      exact tw_at co5 tt_X11_add_95
noncomputable def d_X11_add (x0 : Nat) (x1 : Int32) (S : ZS) : Option ((Nat × Int32) × ZS) := d_X11_add_0 x0 x1 S
theorem tt_X11_add {Pw : Int32 → ZS → Prop} {Px : Nat → ZS → Prop} {x0 : Nat} {x1 : Int32} {S : ZS} : Tw (twP Pw Px) (d_X11_add x0 x1 S) (zt S) (zu S) (fun C T => g_X11_add x0 x1 S C T Pw Px) := tt_X11_add_0
noncomputable def d_X11_addMark_11 (S : ZS) : Option ((Nat × Int32) × ZS) :=
  some ((1, 0), zsQ S)
theorem tt_X11_addMark_11 {Pw : Int32 → ZS → Prop} {Px : Nat → ZS → Prop} {S : ZS} : Tw (twP Pw Px) (d_X11_addMark_11 S) (zt S) (zu S) (fun C T => g_X11_addMark_11 Pw Px S C T) := by
  unfold d_X11_addMark_11 g_X11_addMark_11
  exact tw_thr (by decide) (⟨rfl, rfl⟩ : zt S = zt S ∧ zu S = zu S)
noncomputable def d_X11_addMark_48 (S : ZS) : Option ((Nat × Int32) × ZS) :=
  some ((4, 0), zsQ S)
theorem tt_X11_addMark_48 {Pw : Int32 → ZS → Prop} {Px : Nat → ZS → Prop} {S : ZS} : Tw (twP Pw Px) (d_X11_addMark_48 S) (zt S) (zu S) (fun C T => g_X11_addMark_48 Pw Px S C T) := by
  unfold d_X11_addMark_48 g_X11_addMark_48
  exact tw_thr (by decide) (⟨rfl, rfl⟩ : zt S = zt S ∧ zu S = zu S)
noncomputable def d_X11_addMark_0 (x0 : Nat) (x1 : Int32) (S : ZS) : Option ((Nat × Int32) × ZS) :=
  m_if (x1 < 0) (
  d_X11_addMark_11 S
  ) (
  m_if (x1 ≤ (255 : Int32)) (
  m_chk (zK S x0 = 11) (
  m_cal (zP S 7 x0) (fun b1 =>
  m_chk (zK S x0 = 11) (
  m_chk (zK S b1 = 1) (
  m_cal (f_X1_at b1 (zI S 8 x0) S) (fun o2 => m_chk (zt o2.2 = zt S ∧ zu o2.2 = zu S) (
  m_chk (zK o2.2 x0 = 11) (
  m_if ((zI o2.2 8 x0) = 0) (
  d_X11_addMark_48 o2.2
  ) (
  m_chk (zK o2.2 o2.1 = 4) (
  m_if ((zI o2.2 4 o2.1) < (4 : Int32)) (
  m_chk (zK o2.2 o2.1 = 4) (
  m_cal (f_X4_putMark o2.1 x1 o2.2) (fun o3 => m_chk (zt o3.2 = zt o2.2 ∧ zu o3.2 = zu o2.2) (
  m_chk (zK o3.2 o2.1 = 4) (
  some ((0, (zI o3.2 4 o2.1)), o3.2)))))
  ) (
  d_X11_addMark_48 o2.2
  ))
  ))))))))
  ) (
  d_X11_addMark_11 S
  )
  )
theorem tt_X11_addMark_0 {Pw : Int32 → ZS → Prop} {Px : Nat → ZS → Prop} {x0 : Nat} {x1 : Int32} {S : ZS} : Tw (twP Pw Px) (d_X11_addMark_0 x0 x1 S) (zt S) (zu S) (fun C T => g_X11_addMark_0 Pw Px x0 x1 S C T) := by
  unfold d_X11_addMark_0 g_X11_addMark_0
  refine tw_if (fun _ => ?_) (fun _ => ?_)
  ·
    exact tw_at (⟨rfl, rfl⟩ : zt S = zt S ∧ zu S = zu S) tt_X11_addMark_11
  ·
    refine tw_if (fun _ => ?_) (fun _ => ?_)
    ·
      refine tw_chk (fun _ => ?_)
      refine tw_calv (fun b1 => ?_)
      refine tw_chk (fun _ => ?_)
      refine tw_chk (fun _ => ?_)
      refine tw_calf (⟨rfl, rfl⟩ : zt S = zt S ∧ zu S = zu S) (fun o2 co2 => ?_)
      refine tw_chk (fun _ => ?_)
      refine tw_if (fun _ => ?_) (fun _ => ?_)
      ·
        exact tw_at co2 tt_X11_addMark_48
      ·
        refine tw_chk (fun _ => ?_)
        refine tw_if (fun _ => ?_) (fun _ => ?_)
        ·
          refine tw_chk (fun _ => ?_)
          refine tw_calf co2 (fun o3 co3 => ?_)
          refine tw_chk (fun _ => ?_)
          exact tw_retX co3
        ·
          exact tw_at co2 tt_X11_addMark_48
    ·
      exact tw_at (⟨rfl, rfl⟩ : zt S = zt S ∧ zu S = zu S) tt_X11_addMark_11
noncomputable def d_X11_addMark (x0 : Nat) (x1 : Int32) (S : ZS) : Option ((Nat × Int32) × ZS) := d_X11_addMark_0 x0 x1 S
theorem tt_X11_addMark {Pw : Int32 → ZS → Prop} {Px : Nat → ZS → Prop} {x0 : Nat} {x1 : Int32} {S : ZS} : Tw (twP Pw Px) (d_X11_addMark x0 x1 S) (zt S) (zu S) (fun C T => g_X11_addMark x0 x1 S C T Pw Px) := tt_X11_addMark_0
noncomputable def d_X11_say_43 (S : ZS) : Option ((Nat × Int32) × ZS) :=
  some ((1, 0), zsQ S)
theorem tt_X11_say_43 {Pw : Int32 → ZS → Prop} {Px : Nat → ZS → Prop} {S : ZS} : Tw (twP Pw Px) (d_X11_say_43 S) (zt S) (zu S) (fun C T => g_X11_say_43 Pw Px S C T) := by
  unfold d_X11_say_43 g_X11_say_43
  exact tw_thr (by decide) (⟨rfl, rfl⟩ : zt S = zt S ∧ zu S = zu S)
noncomputable def d_X11_say_0 (x0 : Nat) (S : ZS) : Option ((Nat × Int32) × ZS) :=
  m_chk (zK S x0 = 11) (
  m_cal (zP S 0 x0) (fun b1 =>
  m_chk (zK S b1 = 6) (
  m_cal (f_X6_size b1 S) (fun o2 => m_chk (zt o2.2 = zt S ∧ zu o2.2 = zu S) (
  m_if ((200 : Int32) < o2.1) (
  d_X11_say_43 o2.2
  ) (
  m_chk (zK o2.2 x0 = 11) (
  m_cal (zP o2.2 0 x0) (fun b3 =>
  m_chk (zK o2.2 b3 = 6) (
  m_cal (f_X6_indexOf b3 (125 : Int32) (0 : Int32) o2.2) (fun o4 => m_chk (zt o4.2 = zt o2.2 ∧ zu o4.2 = zu o2.2) (
  m_if (o4.1 < o2.1) (
  d_X11_say_43 o4.2
  ) (
  m_chk (zK o4.2 x0 = 11) (
  m_cal (zP o4.2 0 x0) (fun b5 =>
  m_chk (zK o4.2 b5 = 6) (
  m_cal (f_X6_indexOf b5 (10 : Int32) (0 : Int32) o4.2) (fun o6 => m_chk (zt o6.2 = zt o4.2 ∧ zu o6.2 = zu o4.2) (
  m_if (o2.1 ≤ o6.1) (
  m_chk (zK o6.2 x0 = 11) (
  m_cal (zP o6.2 7 x0) (fun b7 =>
  m_chk (zK o6.2 x0 = 11) (
  m_chk (zK o6.2 b7 = 1) (
  m_cal (f_X1_at b7 (zI o6.2 8 x0) o6.2) (fun o8 => m_chk (zt o8.2 = zt o6.2 ∧ zu o8.2 = zu o6.2) (
  m_chk (zK o8.2 o8.1 = 4) (
  m_cal (zP o8.2 6 o8.1) (fun b9 =>
  m_chk (zK o8.2 x0 = 11) (
  m_cal (zP o8.2 0 x0) (fun b10 =>
  m_chk (zK o8.2 b9 = 6) (
  m_cal2 (d_X6_copyFrom b9 b10 o8.2) (fun r12 S13 =>
  m_chk (zK S13 x0 = 11) (
  m_cal (zP S13 0 x0) (fun b16 =>
  m_chk (zK S13 b16 = 6) (
  m_cal (f_X6_keep b16 (0 : Int32) S13) (fun o17 => m_chk (zt o17.2 = zt S13 ∧ zu o17.2 = zu S13) (
  some ((0, o2.1), o17.2))))))))))))))))))
  ) (
  d_X11_say_43 o6.2
  ))))))
  ))))))
  ))))))
theorem tt_X11_say_0 {Pw : Int32 → ZS → Prop} {Px : Nat → ZS → Prop} {x0 : Nat} {S : ZS} : Tw (twP Pw Px) (d_X11_say_0 x0 S) (zt S) (zu S) (fun C T => g_X11_say_0 Pw Px x0 S C T) := by
  unfold d_X11_say_0 g_X11_say_0
  refine tw_chk (fun _ => ?_)
  refine tw_calv (fun b1 => ?_)
  refine tw_chk (fun _ => ?_)
  refine tw_calf (⟨rfl, rfl⟩ : zt S = zt S ∧ zu S = zu S) (fun o2 co2 => ?_)
  refine tw_if (fun _ => ?_) (fun _ => ?_)
  ·
    exact tw_at co2 tt_X11_say_43
  ·
    refine tw_chk (fun _ => ?_)
    refine tw_calv (fun b3 => ?_)
    refine tw_chk (fun _ => ?_)
    refine tw_calf co2 (fun o4 co4 => ?_)
    refine tw_if (fun _ => ?_) (fun _ => ?_)
    ·
      exact tw_at co4 tt_X11_say_43
    ·
      refine tw_chk (fun _ => ?_)
      refine tw_calv (fun b5 => ?_)
      refine tw_chk (fun _ => ?_)
      refine tw_calf co4 (fun o6 co6 => ?_)
      refine tw_if (fun _ => ?_) (fun _ => ?_)
      ·
        refine tw_chk (fun _ => ?_)
        refine tw_calv (fun b7 => ?_)
        refine tw_chk (fun _ => ?_)
        refine tw_chk (fun _ => ?_)
        refine tw_calf co6 (fun o8 co8 => ?_)
        refine tw_chk (fun _ => ?_)
        refine tw_calv (fun b9 => ?_)
        refine tw_chk (fun _ => ?_)
        refine tw_calv (fun b10 => ?_)
        refine tw_chk (fun _ => ?_)
        refine tw_gal (fun Pw9 => tw_at co8 tt_X6_copyFrom) (fun r12 S13 => ?_)
        refine tw_chk (fun _ => ?_)
        refine tw_calv (fun b16 => ?_)
        refine tw_chk (fun _ => ?_)
        refine tw_calf (⟨rfl, rfl⟩ : zt S13 = zt S13 ∧ zu S13 = zu S13) (fun o17 co17 => ?_)
        exact tw_retX co17
      ·
        exact tw_at co6 tt_X11_say_43
noncomputable def d_X11_say (x0 : Nat) (S : ZS) : Option ((Nat × Int32) × ZS) := d_X11_say_0 x0 S
theorem tt_X11_say {Pw : Int32 → ZS → Prop} {Px : Nat → ZS → Prop} {x0 : Nat} {S : ZS} : Tw (twP Pw Px) (d_X11_say x0 S) (zt S) (zu S) (fun C T => g_X11_say x0 S C T Pw Px) := tt_X11_say_0
noncomputable def d_X11_lead_0 (x0 : Nat) (S : ZS) : Option ((Nat × Int32) × ZS) :=
  m_chk (zK S x0 = 11) (
  m_if ((zI S 8 x0) = 0) (
  some ((4, 0), zsQ S)
  ) (
  m_chk (zK S x0 = 11) (
  m_cal (zP S 7 x0) (fun b1 =>
  m_chk (zK S x0 = 11) (
  m_chk (zK S b1 = 1) (
  m_cal (f_X1_goesOn b1 (zI S 8 x0) S) (fun o2 => m_chk (zt o2.2 = zt S ∧ zu o2.2 = zu S) (
  m_if (o2.1 = 0) (
  m_chk (zK o2.2 x0 = 11) (
  m_cal (zP o2.2 7 x0) (fun b3 =>
  m_chk (zK o2.2 x0 = 11) (
  m_chk (zK o2.2 b3 = 1) (
  m_cal (f_X1_mayLead b3 (zI o2.2 8 x0) o2.2) (fun o4 => m_chk (zt o4.2 = zt o2.2 ∧ zu o4.2 = zu o2.2) (
  m_if (o4.1 = 0) (
  some ((4, 0), zsQ o4.2)
  ) (
  m_chk (zK o4.2 x0 = 11) (
  m_cal (zP o4.2 7 x0) (fun b5 =>
  m_chk (zK o4.2 x0 = 11) (
  m_chk (zK o4.2 b5 = 1) (
  m_cal (f_X1_putFirst b5 (zI o4.2 8 x0) o4.2) (fun o6 => m_chk (zt o6.2 = zt o4.2 ∧ zu o6.2 = zu o4.2) (
  m_chk (vp_nar .boolean (1 : Int32) = (1 : Int32)) (
  some ((0, (1 : Int32)), o6.2))))))))
  )))))))
  ) (
  m_chk (vp_nar .boolean (0 : Int32) = (0 : Int32)) (
  some ((0, (0 : Int32)), o2.2))
  )))))))
  ))
theorem tt_X11_lead_0 {Pw : Int32 → ZS → Prop} {Px : Nat → ZS → Prop} {x0 : Nat} {S : ZS} : Tw (twP Pw Px) (d_X11_lead_0 x0 S) (zt S) (zu S) (fun C T => g_X11_lead_0 Pw Px x0 S C T) := by
  unfold d_X11_lead_0 g_X11_lead_0
  refine tw_chk (fun _ => ?_)
  refine tw_if (fun _ => ?_) (fun _ => ?_)
  ·
    exact tw_thr (by decide) (⟨rfl, rfl⟩ : zt S = zt S ∧ zu S = zu S)
  ·
    refine tw_chk (fun _ => ?_)
    refine tw_calv (fun b1 => ?_)
    refine tw_chk (fun _ => ?_)
    refine tw_chk (fun _ => ?_)
    refine tw_calf (⟨rfl, rfl⟩ : zt S = zt S ∧ zu S = zu S) (fun o2 co2 => ?_)
    refine tw_if (fun _ => ?_) (fun _ => ?_)
    ·
      refine tw_chk (fun _ => ?_)
      refine tw_calv (fun b3 => ?_)
      refine tw_chk (fun _ => ?_)
      refine tw_chk (fun _ => ?_)
      refine tw_calf co2 (fun o4 co4 => ?_)
      refine tw_if (fun _ => ?_) (fun _ => ?_)
      ·
        exact tw_thr (by decide) co4
      ·
        refine tw_chk (fun _ => ?_)
        refine tw_calv (fun b5 => ?_)
        refine tw_chk (fun _ => ?_)
        refine tw_chk (fun _ => ?_)
        refine tw_calf co4 (fun o6 co6 => ?_)
        refine tw_chk (fun _ => ?_)
        exact tw_retX co6
    ·
      refine tw_chk (fun _ => ?_)
      exact tw_retX co2
noncomputable def d_X11_lead (x0 : Nat) (S : ZS) : Option ((Nat × Int32) × ZS) := d_X11_lead_0 x0 S
theorem tt_X11_lead {Pw : Int32 → ZS → Prop} {Px : Nat → ZS → Prop} {x0 : Nat} {S : ZS} : Tw (twP Pw Px) (d_X11_lead x0 S) (zt S) (zu S) (fun C T => g_X11_lead x0 S C T Pw Px) := tt_X11_lead_0
noncomputable def d_X11_end_9 (S : ZS) : Option ((Nat × Int32) × ZS) :=
  some ((1, 0), zsQ S)
theorem tt_X11_end_9 {Pw : Int32 → ZS → Prop} {Px : Nat → ZS → Prop} {S : ZS} : Tw (twP Pw Px) (d_X11_end_9 S) (zt S) (zu S) (fun C T => g_X11_end_9 Pw Px S C T) := by
  unfold d_X11_end_9 g_X11_end_9
  exact tw_thr (by decide) (⟨rfl, rfl⟩ : zt S = zt S ∧ zu S = zu S)
noncomputable def d_X11_end_0 (x0 : Nat) (x1 : Int32) (S : ZS) : Option ((Nat × Int32) × ZS) :=
  m_if (x1 < 0) (
  d_X11_end_9 S
  ) (
  m_if (x1 < (4 : Int32)) (
  m_chk (zK S x0 = 11) (
  m_cal (zP S 7 x0) (fun b1 =>
  m_chk (zK S b1 = 1) (
  m_bnd (zsI S 6 b1 x1) (fun S2 =>
  some ((0, 0), S2)))))
  ) (
  d_X11_end_9 S
  )
  )
theorem tt_X11_end_0 {Pw : Int32 → ZS → Prop} {Px : Nat → ZS → Prop} {x0 : Nat} {x1 : Int32} {S : ZS} : Tw (twP Pw Px) (d_X11_end_0 x0 x1 S) (zt S) (zu S) (fun C T => g_X11_end_0 Pw Px x0 x1 S C T) := by
  unfold d_X11_end_0 g_X11_end_0
  refine tw_if (fun _ => ?_) (fun _ => ?_)
  ·
    exact tw_at (⟨rfl, rfl⟩ : zt S = zt S ∧ zu S = zu S) tt_X11_end_9
  ·
    refine tw_if (fun _ => ?_) (fun _ => ?_)
    ·
      refine tw_chk (fun _ => ?_)
      refine tw_calv (fun b1 => ?_)
      refine tw_chk (fun _ => ?_)
      refine tw_bnds (⟨rfl, rfl⟩ : zt S = zt S ∧ zu S = zu S) (fun S2 cS2 => ?_)
      exact tw_retX cS2
    ·
      exact tw_at (⟨rfl, rfl⟩ : zt S = zt S ∧ zu S = zu S) tt_X11_end_9
noncomputable def d_X11_end (x0 : Nat) (x1 : Int32) (S : ZS) : Option ((Nat × Int32) × ZS) := d_X11_end_0 x0 x1 S
theorem tt_X11_end {Pw : Int32 → ZS → Prop} {Px : Nat → ZS → Prop} {x0 : Nat} {x1 : Int32} {S : ZS} : Tw (twP Pw Px) (d_X11_end x0 x1 S) (zt S) (zu S) (fun C T => g_X11_end x0 x1 S C T Pw Px) := tt_X11_end_0
noncomputable def d_X11_tag_19 (S : ZS) : Option ((Nat × Int32) × ZS) :=
  some ((2, 0), zsQ S)
theorem tt_X11_tag_19 {Pw : Int32 → ZS → Prop} {Px : Nat → ZS → Prop} {S : ZS} : Tw (twP Pw Px) (d_X11_tag_19 S) (zt S) (zu S) (fun C T => g_X11_tag_19 Pw Px S C T) := by
  unfold d_X11_tag_19 g_X11_tag_19
  exact tw_thr (by decide) (⟨rfl, rfl⟩ : zt S = zt S ∧ zu S = zu S)
noncomputable def d_X11_tag_65 (t0 : Int32) (S : ZS) : Option ((Nat × Int32) × ZS) :=
  some ((0, t0), S)
theorem tt_X11_tag_65 {Pw : Int32 → ZS → Prop} {Px : Nat → ZS → Prop} {t0 : Int32} {S : ZS} : Tw (twP Pw Px) (d_X11_tag_65 t0 S) (zt S) (zu S) (fun C T => g_X11_tag_65 Pw Px t0 S C T) := by
  unfold d_X11_tag_65 g_X11_tag_65
  exact tw_retX (⟨rfl, rfl⟩ : zt S = zt S ∧ zu S = zu S)
noncomputable def d_X11_tag_0 (x0 : Nat) (x1 : Int32) (x2 : Int32) (x3 : Int32) (S : ZS) : Option ((Nat × Int32) × ZS) :=
  m_if (x1 < 0) (
  d_X11_tag_19 S
  ) (
  m_chk (zK S x0 = 11) (
  m_cal (zP S 7 x0) (fun b1 =>
  m_chk (zK S b1 = 1) (
  m_if ((zI S 5 b1) ≤ x1) (
  d_X11_tag_19 S
  ) (
  m_if (0 ≤ x3) (
  m_chk (zK S x0 = 11) (
  m_cal (zP S 7 x0) (fun b2 =>
  m_chk (zK S b2 = 1) (
  m_cal2 (d_X1_tagAt b2 x1 S) (fun r4 S5 =>
  m_if (x2 = 0) (
  m_chk (zK S5 r4 = 10) (
  m_cal (zP S5 0 r4) (fun b8 =>
  m_chk (zK S5 b8 = 6) (
  m_cal (f_X6_at b8 x3 S5) (fun o9 => m_chk (zt o9.2 = zt S5 ∧ zu o9.2 = zu S5) (
  d_X11_tag_65 o9.1 o9.2)))))
  ) (
  m_chk (zK S5 r4 = 10) (
  m_cal (zP S5 1 r4) (fun b10 =>
  m_chk (zK S5 b10 = 6) (
  m_cal (f_X6_at b10 x3 S5) (fun o11 => m_chk (zt o11.2 = zt S5 ∧ zu o11.2 = zu S5) (
  d_X11_tag_65 o11.1 o11.2)))))
  )))))
  ) (
  d_X11_tag_19 S
  )
  ))))
  )
theorem tt_X11_tag_0 {Pw : Int32 → ZS → Prop} {Px : Nat → ZS → Prop} {x0 : Nat} {x1 : Int32} {x2 : Int32} {x3 : Int32} {S : ZS} : Tw (twP Pw Px) (d_X11_tag_0 x0 x1 x2 x3 S) (zt S) (zu S) (fun C T => g_X11_tag_0 Pw Px x0 x1 x2 x3 S C T) := by
  unfold d_X11_tag_0 g_X11_tag_0
  refine tw_if (fun _ => ?_) (fun _ => ?_)
  ·
    exact tw_at (⟨rfl, rfl⟩ : zt S = zt S ∧ zu S = zu S) tt_X11_tag_19
  ·
    refine tw_chk (fun _ => ?_)
    refine tw_calv (fun b1 => ?_)
    refine tw_chk (fun _ => ?_)
    refine tw_if (fun _ => ?_) (fun _ => ?_)
    ·
      exact tw_at (⟨rfl, rfl⟩ : zt S = zt S ∧ zu S = zu S) tt_X11_tag_19
    ·
      refine tw_if (fun _ => ?_) (fun _ => ?_)
      ·
        refine tw_chk (fun _ => ?_)
        refine tw_calv (fun b2 => ?_)
        refine tw_chk (fun _ => ?_)
        refine tw_galN (fun Pw9 => tw_at (⟨rfl, rfl⟩ : zt S = zt S ∧ zu S = zu S) tt_X1_tagAt) (fun r4 S5 => ?_)
        refine tw_if (fun _ => ?_) (fun _ => ?_)
        ·
          refine tw_chk (fun _ => ?_)
          refine tw_calv (fun b8 => ?_)
          refine tw_chk (fun _ => ?_)
          refine tw_calf (⟨rfl, rfl⟩ : zt S5 = zt S5 ∧ zu S5 = zu S5) (fun o9 co9 => ?_)
          exact tw_at co9 tt_X11_tag_65
        ·
          refine tw_chk (fun _ => ?_)
          refine tw_calv (fun b10 => ?_)
          refine tw_chk (fun _ => ?_)
          refine tw_calf (⟨rfl, rfl⟩ : zt S5 = zt S5 ∧ zu S5 = zu S5) (fun o11 co11 => ?_)
          exact tw_at co11 tt_X11_tag_65
      ·
        exact tw_at (⟨rfl, rfl⟩ : zt S = zt S ∧ zu S = zu S) tt_X11_tag_19
noncomputable def d_X11_tag (x0 : Nat) (x1 : Int32) (x2 : Int32) (x3 : Int32) (S : ZS) : Option ((Nat × Int32) × ZS) := d_X11_tag_0 x0 x1 x2 x3 S
theorem tt_X11_tag {Pw : Int32 → ZS → Prop} {Px : Nat → ZS → Prop} {x0 : Nat} {x1 : Int32} {x2 : Int32} {x3 : Int32} {S : ZS} : Tw (twP Pw Px) (d_X11_tag x0 x1 x2 x3 S) (zt S) (zu S) (fun C T => g_X11_tag x0 x1 x2 x3 S C T Pw Px) := tt_X11_tag_0
end
